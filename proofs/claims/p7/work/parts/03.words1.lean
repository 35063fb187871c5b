set_option maxRecDepth 20000 in
theorem gX12_next_X12_see : GoodIn wsX12_next (wsV RX12 104 RX12 yX12_see wsX12_see) := goodIn_app (goodIn_r _ [6, 7, 8, 9] rfl (by decide +kernel)) ggX12_next_X12_see
set_option maxRecDepth 20000 in
theorem ggX12_next_X12_isSmall : GoodIn wsX12_next wsX12_isSmall := goodIn_r _ [14] rfl (by decide +kernel)
set_option maxRecDepth 20000 in
theorem gX12_next_X12_isSmall : GoodIn wsX12_next (va_wsS RX12 111 yX12_isSmall wsX12_isSmall) := goodIn_app (goodIn_r _ [12, 13, 9] rfl (by decide +kernel)) ggX12_next_X12_isSmall
set_option maxRecDepth 20000 in
theorem ggX12_next_X12_keyAt : GoodIn wsX12_next wsX12_keyAt := goodIn_r _ [18, 2, 1, 11, 19, 20, 21, 22, 23, 24, 25, 26, 27, 28, 29, 30, 31, 32, 33, 34, 35, 36, 37, 38, 39, 40, 41, 42, 43, 44, 45, 46, 47, 48, 49, 50, 51, 52, 53, 54, 55, 56, 57, 58, 59, 60, 61, 62, 63, 64, 65, 66, 67, 71, 72, 73, 74, 75, 76, 77, 78, 79, 80, 81, 82, 83, 84, 85, 86, 87, 88, 89, 90, 91, 92, 93, 94, 95, 96, 97, 98, 99, 100, 101, 102] rfl (by decide +kernel)
set_option maxRecDepth 20000 in
theorem gX12_next_X12_keyAt : GoodIn wsX12_next (wsV RX12 115 RX12 yX12_keyAt wsX12_keyAt) := goodIn_app (goodIn_r _ [15, 16, 17, 9] rfl (by decide +kernel)) ggX12_next_X12_keyAt
set_option maxRecDepth 20000 in
theorem ggX12_next_X12_isDigit : GoodIn wsX12_next wsX12_isDigit := goodIn_r _ [70] rfl (by decide +kernel)
set_option maxRecDepth 20000 in
theorem gX12_next_X12_isDigit : GoodIn wsX12_next (va_wsS RX12 118 yX12_isDigit wsX12_isDigit) := goodIn_app (goodIn_r _ [68, 69, 9] rfl (by decide +kernel)) ggX12_next_X12_isDigit
set_option maxRecDepth 20000 in
theorem ggX12_next_J0_length_8abf5 : GoodIn wsX12_next wsJ0_length_8abf5 := goodIn_r _ [23, 24, 25, 26, 27, 22, 28, 29, 30] rfl (by decide +kernel)
set_option maxRecDepth 20000 in
theorem gX12_next_J0_length_8abf5 : GoodIn wsX12_next (wsV RX12 88 RJ0 yJ0_length_8abf5 wsJ0_length_8abf5) := goodIn_app (goodIn_r _ [19, 20, 21, 22] rfl (by decide +kernel)) ggX12_next_J0_length_8abf5
set_option maxRecDepth 20000 in
theorem ggX12_next_J0_charAt_5068e : GoodIn wsX12_next wsJ0_charAt_5068e := goodIn_r _ [34, 24, 35, 36, 37, 22, 38, 29, 30, 39, 40, 41, 42, 43, 44, 45, 46, 47, 48, 49, 50, 51, 52, 53, 54, 55, 56, 57, 58, 59, 60, 61, 62, 63, 64, 65, 66, 67] rfl (by decide +kernel)
set_option maxRecDepth 20000 in
theorem gX12_next_J0_charAt_5068e : GoodIn wsX12_next (wsV RX12 94 RJ0 yJ0_charAt_5068e wsJ0_charAt_5068e) := goodIn_app (goodIn_r _ [31, 32, 33, 22] rfl (by decide +kernel)) ggX12_next_J0_charAt_5068e
set_option maxRecDepth 20000 in
theorem ggX12_eats_X12_is : GoodIn wsX12_eats wsX12_is := goodIn_r _ [5, 6, 7, 80, 81, 82, 83, 84, 85, 86, 87, 88, 89, 90, 91, 92, 93, 94, 95, 96, 97, 98, 99, 100, 101, 102, 103, 104, 105, 106, 107, 108, 109, 110, 111] rfl (by decide +kernel)
set_option maxRecDepth 20000 in
theorem gX12_eats_X12_is : GoodIn wsX12_eats (wsV RX12 132 RX12 yX12_is wsX12_is) := goodIn_app (goodIn_r _ [1, 2, 3, 4] rfl (by decide +kernel)) ggX12_eats_X12_is
set_option maxRecDepth 20000 in
theorem ggX12_eats_X12_next : GoodIn wsX12_eats wsX12_next := goodIn_r _ [11, 12, 13, 14, 7, 15, 16, 17, 18, 4, 19, 20, 21, 22, 23, 24, 25, 26, 27, 28, 29, 30, 31, 32, 33, 34, 35, 36, 37, 38, 39, 40, 41, 42, 43, 44, 45, 46, 47, 48, 49, 50, 51, 52, 53, 54, 55, 56, 57, 58, 59, 60, 61, 62, 63, 64, 65, 66, 67, 68, 69, 70, 71, 72, 73, 74, 75, 76, 77, 78, 79, 80, 81, 82, 83, 84, 85, 86, 87, 88, 89, 90, 91, 92, 93, 94, 95, 96, 97, 98, 99, 100, 101, 102, 103, 104, 105, 106, 107, 108, 109, 110, 111] rfl (by decide +kernel)
set_option maxRecDepth 20000 in
theorem gX12_eats_X12_next : GoodIn wsX12_eats (wsV RX12 135 RX12 yX12_next wsX12_next) := goodIn_app (goodIn_r _ [8, 9, 10, 4] rfl (by decide +kernel)) ggX12_eats_X12_next
set_option maxRecDepth 20000 in
theorem ggX12_takes_X12_is : GoodIn wsX12_takes wsX12_is := goodIn_r _ [7, 2, 8, 88, 89, 90, 91, 92, 93, 94, 95, 96, 97, 98, 99, 100, 101, 102, 103, 104, 105, 106, 107, 108, 109, 110, 111, 112, 113, 114, 115, 116, 117, 118, 119] rfl (by decide +kernel)
set_option maxRecDepth 20000 in
theorem gX12_takes_X12_is : GoodIn wsX12_takes (wsV RX12 132 RX12 yX12_is wsX12_is) := goodIn_app (goodIn_r _ [3, 4, 5, 6] rfl (by decide +kernel)) ggX12_takes_X12_is
set_option maxRecDepth 20000 in
theorem ggX12_takes_X12_fails : GoodIn wsX12_takes wsX12_fails := goodIn_r _ [12, 2, 8, 13, 14, 88, 89, 90, 91, 92, 93, 94, 95, 96, 97, 98, 99, 100, 101, 102, 103, 104, 105, 106, 107, 108, 109, 110, 111, 112, 113, 114, 115, 116, 117, 118, 119] rfl (by decide +kernel)
set_option maxRecDepth 20000 in
theorem gX12_takes_X12_fails : GoodIn wsX12_takes (wsV RX12 138 RX12 yX12_fails wsX12_fails) := goodIn_app (goodIn_r _ [9, 10, 11, 6] rfl (by decide +kernel)) ggX12_takes_X12_fails
set_option maxRecDepth 20000 in
theorem ggX12_takes_X12_within : GoodIn wsX12_takes wsX12_within := goodIn_r _ [17] rfl (by decide +kernel)
set_option maxRecDepth 20000 in
theorem gX12_takes_X12_within : GoodIn wsX12_takes (va_wsS RX12 142 yX12_within wsX12_within) := goodIn_app (goodIn_r _ [15, 16, 6] rfl (by decide +kernel)) ggX12_takes_X12_within
set_option maxRecDepth 20000 in
theorem ggX12_takes_X12_next : GoodIn wsX12_takes wsX12_next := goodIn_r _ [21, 22, 13, 23, 8, 1, 24, 25, 26, 6, 27, 28, 29, 30, 31, 32, 33, 34, 35, 36, 37, 38, 39, 40, 41, 42, 43, 44, 45, 46, 47, 48, 49, 50, 51, 52, 53, 54, 55, 56, 57, 58, 59, 60, 61, 62, 63, 64, 65, 66, 67, 68, 69, 70, 71, 72, 73, 74, 75, 76, 77, 78, 79, 80, 81, 82, 83, 84, 85, 86, 87, 88, 89, 90, 91, 92, 93, 94, 95, 96, 97, 98, 99, 100, 101, 102, 103, 104, 105, 106, 107, 108, 109, 110, 111, 112, 113, 114, 115, 116, 117, 118, 119] rfl (by decide +kernel)
set_option maxRecDepth 20000 in
theorem gX12_takes_X12_next : GoodIn wsX12_takes (wsV RX12 135 RX12 yX12_next wsX12_next) := goodIn_app (goodIn_r _ [18, 19, 20, 6] rfl (by decide +kernel)) ggX12_takes_X12_next
set_option maxRecDepth 20000 in
theorem ggX12_goesIn_X12_fails : GoodIn wsX12_goesIn wsX12_fails := goodIn_r _ [6, 1, 7, 8, 9, 81, 82, 83, 84, 85, 86, 87, 88, 89, 90, 91, 92, 93, 94, 95, 96, 97, 98, 99, 100, 101, 102, 103, 104, 105, 106, 107, 108, 109, 110, 111, 112] rfl (by decide +kernel)
set_option maxRecDepth 20000 in
theorem gX12_goesIn_X12_fails : GoodIn wsX12_goesIn (wsV RX12 138 RX12 yX12_fails wsX12_fails) := goodIn_app (goodIn_r _ [2, 3, 4, 5] rfl (by decide +kernel)) ggX12_goesIn_X12_fails
set_option maxRecDepth 20000 in
theorem ggX12_goesIn_X12_next : GoodIn wsX12_goesIn wsX12_next := goodIn_r _ [13, 14, 8, 15, 7, 16, 17, 18, 19, 5, 20, 21, 22, 23, 24, 25, 26, 27, 28, 29, 30, 31, 32, 33, 34, 35, 36, 37, 38, 39, 40, 41, 42, 43, 44, 45, 46, 47, 48, 49, 50, 51, 52, 53, 54, 55, 56, 57, 58, 59, 60, 61, 62, 63, 64, 65, 66, 67, 68, 69, 70, 71, 72, 73, 74, 75, 76, 77, 78, 79, 80, 81, 82, 83, 84, 85, 86, 87, 88, 89, 90, 91, 92, 93, 94, 95, 96, 97, 98, 99, 100, 101, 102, 103, 104, 105, 106, 107, 108, 109, 110, 111, 112] rfl (by decide +kernel)
set_option maxRecDepth 20000 in
theorem gX12_goesIn_X12_next : GoodIn wsX12_goesIn (wsV RX12 135 RX12 yX12_next wsX12_next) := goodIn_app (goodIn_r _ [10, 11, 12, 5] rfl (by decide +kernel)) ggX12_goesIn_X12_next
set_option maxRecDepth 20000 in
theorem ggX12_readAtom_X12_is : GoodIn wsX12_readAtom wsX12_is := goodIn_r _ [8, 2, 3, 113, 114, 115, 116, 117, 118, 119, 120, 121, 122, 123, 124, 125, 126, 127, 128, 129, 130, 131, 132, 133, 134, 135, 136, 137, 138, 139, 140, 141, 142, 143, 144] rfl (by decide +kernel)
set_option maxRecDepth 20000 in
theorem gX12_readAtom_X12_is : GoodIn wsX12_readAtom (wsV RX12 132 RX12 yX12_is wsX12_is) := goodIn_app (goodIn_r _ [4, 5, 6, 7] rfl (by decide +kernel)) ggX12_readAtom_X12_is
set_option maxRecDepth 20000 in
theorem ggX12_readAtom_X12_codes : GoodIn wsX12_readAtom wsX12_codes := goodIn_r _ [12, 2, 13, 113, 114, 115, 116, 117, 118, 119, 120, 121, 122, 123, 124, 125, 126, 127, 128, 129, 130, 131, 132, 133, 134, 135, 136, 137, 138, 139, 140, 141, 142, 143, 144] rfl (by decide +kernel)
set_option maxRecDepth 20000 in
theorem gX12_readAtom_X12_codes : GoodIn wsX12_readAtom (wsV RX12 146 RX12 yX12_codes wsX12_codes) := goodIn_app (goodIn_r _ [9, 10, 11, 7] rfl (by decide +kernel)) ggX12_readAtom_X12_codes
set_option maxRecDepth 20000 in
theorem ggX12_readAtom_X12_next : GoodIn wsX12_readAtom wsX12_next := goodIn_r _ [17, 18, 19, 20, 3, 1, 21, 22, 23, 7, 24, 25, 26, 27, 28, 29, 30, 31, 32, 33, 34, 35, 36, 37, 38, 39, 40, 41, 42, 43, 44, 45, 46, 47, 48, 49, 50, 51, 52, 53, 54, 55, 56, 57, 58, 59, 60, 61, 62, 63, 64, 65, 66, 67, 68, 69, 70, 71, 72, 73, 74, 75, 76, 77, 78, 79, 80, 81, 82, 83, 84, 113, 114, 115, 116, 117, 118, 119, 120, 121, 122, 123, 124, 125, 126, 127, 128, 129, 130, 131, 132, 133, 134, 135, 136, 137, 138, 139, 140, 141, 142, 143, 144] rfl (by decide +kernel)
set_option maxRecDepth 20000 in
theorem gX12_readAtom_X12_next : GoodIn wsX12_readAtom (wsV RX12 135 RX12 yX12_next wsX12_next) := goodIn_app (goodIn_r _ [14, 15, 16, 7] rfl (by decide +kernel)) ggX12_readAtom_X12_next
set_option maxRecDepth 20000 in
theorem ggX12_readAtom_X12_wordOf : GoodIn wsX12_readAtom wsX12_wordOf := goodIn_r _ [88] rfl (by decide +kernel)
set_option maxRecDepth 20000 in
theorem gX12_readAtom_X12_wordOf : GoodIn wsX12_readAtom (wsV RX12 149 RX12 yX12_wordOf wsX12_wordOf) := goodIn_app (goodIn_r _ [85, 86, 87, 7] rfl (by decide +kernel)) ggX12_readAtom_X12_wordOf
set_option maxRecDepth 20000 in
theorem ggX12_readAtom_X12_goesIn : GoodIn wsX12_readAtom wsX12_goesIn := goodIn_r _ [92, 2, 93, 94, 95, 7, 96, 3, 19, 97, 14, 15, 16, 17, 18, 20, 1, 21, 22, 23, 24, 25, 26, 27, 28, 29, 30, 31, 32, 33, 34, 35, 36, 37, 38, 39, 40, 41, 42, 43, 44, 45, 46, 47, 48, 49, 50, 51, 52, 53, 54, 55, 56, 57, 58, 59, 60, 61, 62, 63, 64, 65, 66, 67, 68, 69, 70, 71, 72, 73, 74, 75, 76, 77, 78, 79, 80, 81, 82, 83, 84, 113, 114, 115, 116, 117, 118, 119, 120, 121, 122, 123, 124, 125, 126, 127, 128, 129, 130, 131, 132, 133, 134, 135, 136, 137, 138, 139, 140, 141, 142, 143, 144] rfl (by decide +kernel)
set_option maxRecDepth 20000 in
theorem gX12_readAtom_X12_goesIn : GoodIn wsX12_readAtom (wsV RX12 152 RX12 yX12_goesIn wsX12_goesIn) := goodIn_app (goodIn_r _ [89, 90, 91, 7] rfl (by decide +kernel)) ggX12_readAtom_X12_goesIn
set_option maxRecDepth 20000 in
theorem ggX12_readAtom_X12_readSum : GoodIn wsX12_readAtom wsX12_readSum := goodIn_r _ [105, 3, 106, 107, 108, 7, 4, 5, 6, 8, 2, 14, 15, 16, 17, 18, 19, 20, 1, 21, 22, 23, 24, 25, 26, 27, 28, 29, 30, 31, 32, 33, 34, 35, 36, 37, 38, 39, 40, 41, 42, 43, 44, 45, 46, 47, 48, 49, 50, 51, 52, 53, 54, 55, 56, 57, 58, 59, 60, 61, 62, 63, 64, 65, 66, 67, 68, 69, 70, 71, 72, 73, 74, 75, 76, 77, 78, 79, 80, 81, 82, 83, 84, 9, 10, 11, 12, 13, 0, 85, 86, 87, 88, 89, 90, 91, 92, 93, 94, 95, 96, 97, 98, 99, 100, 101, 102, 103, 104, 109, 110, 111, 112, 113, 114, 115, 116, 117, 118, 119, 120, 121, 122, 123, 124, 125, 126, 127, 128, 129, 130, 131, 132, 133, 134, 135, 136, 137, 138, 139, 140, 141, 142, 143, 144] rfl (by decide +kernel)
set_option maxRecDepth 20000 in
theorem gX12_readAtom_X12_readSum : GoodIn wsX12_readAtom (wsV RX12 155 RX12 yX12_readSum wsX12_readSum) := goodIn_app (goodIn_r _ [98, 99, 100, 7] rfl (by decide +kernel)) ggX12_readAtom_X12_readSum
set_option maxRecDepth 20000 in
theorem ggX12_readAtom_X12_eats : GoodIn wsX12_readAtom wsX12_eats := goodIn_r _ [104, 4, 5, 6, 7, 8, 2, 3, 14, 15, 16, 17, 18, 19, 20, 1, 21, 22, 23, 24, 25, 26, 27, 28, 29, 30, 31, 32, 33, 34, 35, 36, 37, 38, 39, 40, 41, 42, 43, 44, 45, 46, 47, 48, 49, 50, 51, 52, 53, 54, 55, 56, 57, 58, 59, 60, 61, 62, 63, 64, 65, 66, 67, 68, 69, 70, 71, 72, 73, 74, 75, 76, 77, 78, 79, 80, 81, 82, 83, 84, 113, 114, 115, 116, 117, 118, 119, 120, 121, 122, 123, 124, 125, 126, 127, 128, 129, 130, 131, 132, 133, 134, 135, 136, 137, 138, 139, 140, 141, 142, 143, 144] rfl (by decide +kernel)
set_option maxRecDepth 20000 in
theorem gX12_readAtom_X12_eats : GoodIn wsX12_readAtom (wsV RX12 158 RX12 yX12_eats wsX12_eats) := goodIn_app (goodIn_r _ [101, 102, 103, 7] rfl (by decide +kernel)) ggX12_readAtom_X12_eats
set_option maxRecDepth 20000 in
theorem ggX12_readAtom_X12_fails : GoodIn wsX12_readAtom wsX12_fails := goodIn_r _ [96, 2, 3, 19, 97, 113, 114, 115, 116, 117, 118, 119, 120, 121, 122, 123, 124, 125, 126, 127, 128, 129, 130, 131, 132, 133, 134, 135, 136, 137, 138, 139, 140, 141, 142, 143, 144] rfl (by decide +kernel)
set_option maxRecDepth 20000 in
theorem gX12_readAtom_X12_fails : GoodIn wsX12_readAtom (wsV RX12 138 RX12 yX12_fails wsX12_fails) := goodIn_app (goodIn_r _ [93, 94, 95, 7] rfl (by decide +kernel)) ggX12_readAtom_X12_fails
set_option maxRecDepth 20000 in
theorem ggX12_readTerm_X12_readAtom : GoodIn wsX12_readTerm wsX12_readAtom := goodIn_r _ [92, 22, 13, 14, 9, 10, 11, 4, 12, 87, 88, 89, 90, 91, 15, 16, 17, 18, 19, 20, 21, 23, 24, 25, 26, 27, 28, 29, 30, 31, 32, 33, 34, 35, 36, 37, 38, 39, 40, 41, 42, 43, 44, 45, 46, 47, 48, 49, 50, 51, 52, 53, 54, 55, 56, 57, 58, 59, 60, 61, 62, 63, 64, 65, 66, 67, 68, 69, 70, 71, 72, 73, 74, 75, 76, 77, 78, 79, 80, 81, 82, 83, 84, 85, 86, 93, 94, 95, 96, 97, 98, 99, 100, 101, 102, 103, 104, 105, 106, 107, 108, 5, 6, 7, 8, 109, 110, 111, 112, 0, 1, 2, 3, 113, 114, 115, 116, 117, 118, 119, 120, 121, 122, 123, 124, 125, 126, 127, 128, 129, 130, 131, 132, 133, 134, 135, 136, 137, 138, 139, 140, 141, 142, 143, 144] rfl (by decide +kernel)
set_option maxRecDepth 20000 in
theorem gX12_readTerm_X12_readAtom : GoodIn wsX12_readTerm (wsV RX12 161 RX12 yX12_readAtom wsX12_readAtom) := goodIn_app (goodIn_r _ [1, 2, 3, 4] rfl (by decide +kernel)) ggX12_readTerm_X12_readAtom
set_option maxRecDepth 20000 in
theorem ggX12_readTerm_X12_eats : GoodIn wsX12_readTerm wsX12_eats := goodIn_r _ [8, 9, 10, 11, 4, 12, 13, 14, 15, 16, 17, 18, 19, 20, 21, 22, 23, 24, 25, 26, 27, 28, 29, 30, 31, 32, 33, 34, 35, 36, 37, 38, 39, 40, 41, 42, 43, 44, 45, 46, 47, 48, 49, 50, 51, 52, 53, 54, 55, 56, 57, 58, 59, 60, 61, 62, 63, 64, 65, 66, 67, 68, 69, 70, 71, 72, 73, 74, 75, 76, 77, 78, 79, 80, 81, 82, 83, 84, 85, 86, 113, 114, 115, 116, 117, 118, 119, 120, 121, 122, 123, 124, 125, 126, 127, 128, 129, 130, 131, 132, 133, 134, 135, 136, 137, 138, 139, 140, 141, 142, 143, 144] rfl (by decide +kernel)
set_option maxRecDepth 20000 in
theorem gX12_readTerm_X12_eats : GoodIn wsX12_readTerm (wsV RX12 158 RX12 yX12_eats wsX12_eats) := goodIn_app (goodIn_r _ [5, 6, 7, 4] rfl (by decide +kernel)) ggX12_readTerm_X12_eats
set_option maxRecDepth 20000 in
theorem ggX12_readTerm_X12_codes : GoodIn wsX12_readTerm wsX12_codes := goodIn_r _ [90, 13, 91, 113, 114, 115, 116, 117, 118, 119, 120, 121, 122, 123, 124, 125, 126, 127, 128, 129, 130, 131, 132, 133, 134, 135, 136, 137, 138, 139, 140, 141, 142, 143, 144] rfl (by decide +kernel)
set_option maxRecDepth 20000 in
theorem gX12_readTerm_X12_codes : GoodIn wsX12_readTerm (wsV RX12 146 RX12 yX12_codes wsX12_codes) := goodIn_app (goodIn_r _ [87, 88, 89, 4] rfl (by decide +kernel)) ggX12_readTerm_X12_codes
set_option maxRecDepth 20000 in
theorem ggX12_readSum_X12_readTerm : GoodIn wsX12_readSum wsX12_readTerm := goodIn_r _ [109, 110, 111, 112, 5, 105, 106, 107, 108, 6, 7, 8, 9, 10, 1, 11, 12, 13, 14, 15, 16, 17, 18, 19, 20, 21, 22, 23, 24, 25, 26, 27, 28, 29, 30, 31, 32, 33, 34, 35, 36, 37, 38, 39, 40, 41, 42, 43, 44, 45, 46, 47, 48, 49, 50, 51, 52, 53, 54, 55, 56, 57, 58, 59, 60, 61, 62, 63, 64, 65, 66, 67, 68, 69, 70, 71, 72, 73, 74, 75, 76, 77, 78, 79, 80, 81, 82, 83, 84, 85, 86, 87, 88, 89, 90, 91, 92, 93, 94, 95, 96, 97, 98, 99, 100, 101, 102, 103, 104, 0, 2, 3, 4, 113, 114, 115, 116, 117, 118, 119, 120, 121, 122, 123, 124, 125, 126, 127, 128, 129, 130, 131, 132, 133, 134, 135, 136, 137, 138, 139, 140, 141, 142, 143, 144] rfl (by decide +kernel)
set_option maxRecDepth 20000 in
theorem gX12_readSum_X12_readTerm : GoodIn wsX12_readSum (wsV RX12 164 RX12 yX12_readTerm wsX12_readTerm) := goodIn_app (goodIn_r _ [2, 3, 4, 5] rfl (by decide +kernel)) ggX12_readSum_X12_readTerm
set_option maxRecDepth 20000 in
theorem ggX12_readSum_X12_is : GoodIn wsX12_readSum wsX12_is := goodIn_r _ [9, 10, 1, 113, 114, 115, 116, 117, 118, 119, 120, 121, 122, 123, 124, 125, 126, 127, 128, 129, 130, 131, 132, 133, 134, 135, 136, 137, 138, 139, 140, 141, 142, 143, 144] rfl (by decide +kernel)
set_option maxRecDepth 20000 in
theorem gX12_readSum_X12_is : GoodIn wsX12_readSum (wsV RX12 132 RX12 yX12_is wsX12_is) := goodIn_app (goodIn_r _ [6, 7, 8, 5] rfl (by decide +kernel)) ggX12_readSum_X12_is
set_option maxRecDepth 20000 in
theorem ggX12_readSum_X12_next : GoodIn wsX12_readSum wsX12_next := goodIn_r _ [14, 15, 16, 17, 1, 18, 19, 20, 21, 5, 22, 23, 24, 25, 26, 27, 28, 29, 30, 31, 32, 33, 34, 35, 36, 37, 38, 39, 40, 41, 42, 43, 44, 45, 46, 47, 48, 49, 50, 51, 52, 53, 54, 55, 56, 57, 58, 59, 60, 61, 62, 63, 64, 65, 66, 67, 68, 69, 70, 71, 72, 73, 74, 75, 76, 77, 78, 79, 80, 81, 82, 113, 114, 115, 116, 117, 118, 119, 120, 121, 122, 123, 124, 125, 126, 127, 128, 129, 130, 131, 132, 133, 134, 135, 136, 137, 138, 139, 140, 141, 142, 143, 144] rfl (by decide +kernel)
set_option maxRecDepth 20000 in
theorem gX12_readSum_X12_next : GoodIn wsX12_readSum (wsV RX12 135 RX12 yX12_next wsX12_next) := goodIn_app (goodIn_r _ [11, 12, 13, 5] rfl (by decide +kernel)) ggX12_readSum_X12_next
set_option maxRecDepth 20000 in
theorem ggX12_readSum_X12_codes : GoodIn wsX12_readSum wsX12_codes := goodIn_r _ [86, 10, 87, 113, 114, 115, 116, 117, 118, 119, 120, 121, 122, 123, 124, 125, 126, 127, 128, 129, 130, 131, 132, 133, 134, 135, 136, 137, 138, 139, 140, 141, 142, 143, 144] rfl (by decide +kernel)
set_option maxRecDepth 20000 in
theorem gX12_readSum_X12_codes : GoodIn wsX12_readSum (wsV RX12 146 RX12 yX12_codes wsX12_codes) := goodIn_app (goodIn_r _ [83, 84, 85, 5] rfl (by decide +kernel)) ggX12_readSum_X12_codes
set_option maxRecDepth 20000 in
theorem ggX12_readUnit_X12_is : GoodIn wsX12_readUnit wsX12_is := goodIn_r _ [5, 6, 7, 125, 126, 127, 128, 129, 130, 131, 132, 133, 134, 135, 136, 137, 138, 139, 140, 141, 142, 143, 144, 145, 146, 147, 148, 149, 150, 151, 152, 153, 154, 155, 156] rfl (by decide +kernel)
set_option maxRecDepth 20000 in
theorem gX12_readUnit_X12_is : GoodIn wsX12_readUnit (wsV RX12 132 RX12 yX12_is wsX12_is) := goodIn_app (goodIn_r _ [1, 2, 3, 4] rfl (by decide +kernel)) ggX12_readUnit_X12_is
set_option maxRecDepth 20000 in
theorem ggX12_readUnit_X12_goesIn : GoodIn wsX12_readUnit wsX12_goesIn := goodIn_r _ [11, 6, 12, 13, 14, 4, 15, 7, 16, 17, 18, 19, 20, 21, 22, 23, 24, 25, 26, 27, 28, 29, 30, 31, 32, 33, 34, 35, 36, 37, 38, 39, 40, 41, 42, 43, 44, 45, 46, 47, 48, 49, 50, 51, 52, 53, 54, 55, 56, 57, 58, 59, 60, 61, 62, 63, 64, 65, 66, 67, 68, 69, 70, 71, 72, 73, 74, 75, 76, 77, 78, 79, 80, 81, 82, 83, 84, 85, 86, 87, 88, 125, 126, 127, 128, 129, 130, 131, 132, 133, 134, 135, 136, 137, 138, 139, 140, 141, 142, 143, 144, 145, 146, 147, 148, 149, 150, 151, 152, 153, 154, 155, 156] rfl (by decide +kernel)
set_option maxRecDepth 20000 in
theorem gX12_readUnit_X12_goesIn : GoodIn wsX12_readUnit (wsV RX12 152 RX12 yX12_goesIn wsX12_goesIn) := goodIn_app (goodIn_r _ [8, 9, 10, 4] rfl (by decide +kernel)) ggX12_readUnit_X12_goesIn
set_option maxRecDepth 20000 in
theorem ggX12_readUnit_X12_readUnit : GoodIn wsX12_readUnit wsX12_readUnit := goodIn_r _ [0, 1, 2, 3, 4, 5, 6, 7, 8, 9, 10, 11, 12, 13, 14, 15, 16, 17, 18, 19, 20, 21, 22, 23, 24, 25, 26, 27, 28, 29, 30, 31, 32, 33, 34, 35, 36, 37, 38, 39, 40, 41, 42, 43, 44, 45, 46, 47, 48, 49, 50, 51, 52, 53, 54, 55, 56, 57, 58, 59, 60, 61, 62, 63, 64, 65, 66, 67, 68, 69, 70, 71, 72, 73, 74, 75, 76, 77, 78, 79, 80, 81, 82, 83, 84, 85, 86, 87, 88, 89, 90, 91, 92, 93, 94, 95, 96, 97, 98, 99, 100, 101, 102, 103, 104, 105, 106, 107, 108, 109, 110, 111, 112, 113, 114, 115, 116, 117, 118, 119, 120, 121, 122, 123, 124, 125, 126, 127, 128, 129, 130, 131, 132, 133, 134, 135, 136, 137, 138, 139, 140, 141, 142, 143, 144, 145, 146, 147, 148, 149, 150, 151, 152, 153, 154, 155, 156] rfl (by decide +kernel)
set_option maxRecDepth 20000 in
theorem gX12_readUnit_X12_readUnit : GoodIn wsX12_readUnit (wsV RX12 167 RX12 yX12_readUnit wsX12_readUnit) := goodIn_app (goodIn_r _ [89, 90, 91, 4] rfl (by decide +kernel)) ggX12_readUnit_X12_readUnit
set_option maxRecDepth 20000 in
theorem ggX12_readUnit_X12_codes : GoodIn wsX12_readUnit wsX12_codes := goodIn_r _ [95, 6, 96, 125, 126, 127, 128, 129, 130, 131, 132, 133, 134, 135, 136, 137, 138, 139, 140, 141, 142, 143, 144, 145, 146, 147, 148, 149, 150, 151, 152, 153, 154, 155, 156] rfl (by decide +kernel)
set_option maxRecDepth 20000 in
theorem gX12_readUnit_X12_codes : GoodIn wsX12_readUnit (wsV RX12 146 RX12 yX12_codes wsX12_codes) := goodIn_app (goodIn_r _ [92, 93, 94, 4] rfl (by decide +kernel)) ggX12_readUnit_X12_codes
set_option maxRecDepth 20000 in
theorem ggX12_readUnit_X12_readTruth : GoodIn wsX12_readUnit wsX12_readTruth := goodIn_r _ [121, 122, 123, 124, 4, 100, 101, 102, 103, 1, 2, 3, 5, 6, 7, 18, 19, 20, 21, 22, 16, 23, 24, 25, 26, 27, 28, 29, 30, 31, 32, 33, 34, 35, 36, 37, 38, 39, 40, 41, 42, 43, 44, 45, 46, 47, 48, 49, 50, 51, 52, 53, 54, 55, 56, 57, 58, 59, 60, 61, 62, 63, 64, 65, 66, 67, 68, 69, 70, 71, 72, 73, 74, 75, 76, 77, 78, 79, 80, 81, 82, 83, 84, 85, 86, 87, 88, 92, 93, 94, 95, 96, 120, 89, 90, 91, 0, 8, 9, 10, 11, 12, 13, 14, 15, 17, 97, 98, 99, 104, 105, 106, 107, 108, 109, 110, 111, 112, 113, 114, 115, 116, 117, 118, 119, 125, 126, 127, 128, 129, 130, 131, 132, 133, 134, 135, 136, 137, 138, 139, 140, 141, 142, 143, 144, 145, 146, 147, 148, 149, 150, 151, 152, 153, 154, 155, 156] rfl (by decide +kernel)
set_option maxRecDepth 20000 in
theorem gX12_readUnit_X12_readTruth : GoodIn wsX12_readUnit (wsV RX12 170 RX12 yX12_readTruth wsX12_readTruth) := goodIn_app (goodIn_r _ [97, 98, 99, 4] rfl (by decide +kernel)) ggX12_readUnit_X12_readTruth
set_option maxRecDepth 20000 in
theorem ggX12_readUnit_X12_eats : GoodIn wsX12_readUnit wsX12_eats := goodIn_r _ [103, 1, 2, 3, 4, 5, 6, 7, 18, 19, 20, 21, 22, 16, 23, 24, 25, 26, 27, 28, 29, 30, 31, 32, 33, 34, 35, 36, 37, 38, 39, 40, 41, 42, 43, 44, 45, 46, 47, 48, 49, 50, 51, 52, 53, 54, 55, 56, 57, 58, 59, 60, 61, 62, 63, 64, 65, 66, 67, 68, 69, 70, 71, 72, 73, 74, 75, 76, 77, 78, 79, 80, 81, 82, 83, 84, 85, 86, 87, 88, 125, 126, 127, 128, 129, 130, 131, 132, 133, 134, 135, 136, 137, 138, 139, 140, 141, 142, 143, 144, 145, 146, 147, 148, 149, 150, 151, 152, 153, 154, 155, 156] rfl (by decide +kernel)
set_option maxRecDepth 20000 in
theorem gX12_readUnit_X12_eats : GoodIn wsX12_readUnit (wsV RX12 158 RX12 yX12_eats wsX12_eats) := goodIn_app (goodIn_r _ [100, 101, 102, 4] rfl (by decide +kernel)) ggX12_readUnit_X12_eats
set_option maxRecDepth 20000 in
theorem ggX12_readUnit_X12_fails : GoodIn wsX12_readUnit wsX12_fails := goodIn_r _ [15, 6, 7, 16, 17, 125, 126, 127, 128, 129, 130, 131, 132, 133, 134, 135, 136, 137, 138, 139, 140, 141, 142, 143, 144, 145, 146, 147, 148, 149, 150, 151, 152, 153, 154, 155, 156] rfl (by decide +kernel)
set_option maxRecDepth 20000 in
theorem gX12_readUnit_X12_fails : GoodIn wsX12_readUnit (wsV RX12 138 RX12 yX12_fails wsX12_fails) := goodIn_app (goodIn_r _ [12, 13, 14, 4] rfl (by decide +kernel)) ggX12_readUnit_X12_fails
set_option maxRecDepth 20000 in
theorem ggX12_readUnit_X12_readSum : GoodIn wsX12_readUnit wsX12_readSum := goodIn_r _ [107, 7, 108, 109, 110, 4, 1, 2, 3, 5, 6, 18, 19, 20, 21, 22, 16, 23, 24, 25, 26, 27, 28, 29, 30, 31, 32, 33, 34, 35, 36, 37, 38, 39, 40, 41, 42, 43, 44, 45, 46, 47, 48, 49, 50, 51, 52, 53, 54, 55, 56, 57, 58, 59, 60, 61, 62, 63, 64, 65, 66, 67, 68, 69, 70, 71, 72, 73, 74, 75, 76, 77, 78, 79, 80, 81, 82, 83, 84, 85, 86, 87, 88, 92, 93, 94, 95, 96, 111, 112, 113, 114, 115, 8, 9, 10, 11, 12, 13, 14, 15, 17, 104, 105, 106, 100, 101, 102, 103, 116, 117, 118, 119, 125, 126, 127, 128, 129, 130, 131, 132, 133, 134, 135, 136, 137, 138, 139, 140, 141, 142, 143, 144, 145, 146, 147, 148, 149, 150, 151, 152, 153, 154, 155, 156] rfl (by decide +kernel)
set_option maxRecDepth 20000 in
theorem gX12_readUnit_X12_readSum : GoodIn wsX12_readUnit (wsV RX12 155 RX12 yX12_readSum wsX12_readSum) := goodIn_app (goodIn_r _ [104, 105, 106, 4] rfl (by decide +kernel)) ggX12_readUnit_X12_readSum
set_option maxRecDepth 20000 in
theorem ggX12_readUnit_X12_next : GoodIn wsX12_readUnit wsX12_next := goodIn_r _ [21, 22, 16, 23, 7, 24, 25, 26, 27, 4, 28, 29, 30, 31, 32, 33, 34, 35, 36, 37, 38, 39, 40, 41, 42, 43, 44, 45, 46, 47, 48, 49, 50, 51, 52, 53, 54, 55, 56, 57, 58, 59, 60, 61, 62, 63, 64, 65, 66, 67, 68, 69, 70, 71, 72, 73, 74, 75, 76, 77, 78, 79, 80, 81, 82, 83, 84, 85, 86, 87, 88, 125, 126, 127, 128, 129, 130, 131, 132, 133, 134, 135, 136, 137, 138, 139, 140, 141, 142, 143, 144, 145, 146, 147, 148, 149, 150, 151, 152, 153, 154, 155, 156] rfl (by decide +kernel)
set_option maxRecDepth 20000 in
theorem gX12_readUnit_X12_next : GoodIn wsX12_readUnit (wsV RX12 135 RX12 yX12_next wsX12_next) := goodIn_app (goodIn_r _ [18, 19, 20, 4] rfl (by decide +kernel)) ggX12_readUnit_X12_next
set_option maxRecDepth 20000 in
theorem ggX12_readBoth_X12_readUnit : GoodIn wsX12_readBoth wsX12_readUnit := goodIn_r _ [96, 9, 10, 11, 4, 12, 13, 14, 97, 98, 99, 100, 101, 102, 103, 104, 20, 105, 15, 16, 17, 18, 19, 21, 22, 23, 24, 25, 26, 27, 28, 29, 30, 31, 32, 33, 34, 35, 36, 37, 38, 39, 40, 41, 42, 43, 44, 45, 46, 47, 48, 49, 50, 51, 52, 53, 54, 55, 56, 57, 58, 59, 60, 61, 62, 63, 64, 65, 66, 67, 68, 69, 70, 71, 72, 73, 74, 75, 76, 77, 78, 79, 80, 81, 82, 83, 84, 85, 86, 1, 2, 3, 87, 88, 89, 90, 91, 106, 107, 108, 5, 6, 7, 8, 109, 110, 111, 112, 113, 114, 115, 116, 117, 118, 119, 120, 121, 122, 123, 124, 0, 92, 93, 94, 95, 125, 126, 127, 128, 129, 130, 131, 132, 133, 134, 135, 136, 137, 138, 139, 140, 141, 142, 143, 144, 145, 146, 147, 148, 149, 150, 151, 152, 153, 154, 155, 156] rfl (by decide +kernel)
set_option maxRecDepth 20000 in
theorem gX12_readBoth_X12_readUnit : GoodIn wsX12_readBoth (wsV RX12 167 RX12 yX12_readUnit wsX12_readUnit) := goodIn_app (goodIn_r _ [1, 2, 3, 4] rfl (by decide +kernel)) ggX12_readBoth_X12_readUnit
set_option maxRecDepth 20000 in
theorem ggX12_readBoth_X12_eats : GoodIn wsX12_readBoth wsX12_eats := goodIn_r _ [8, 9, 10, 11, 4, 12, 13, 14, 15, 16, 17, 18, 19, 20, 21, 22, 23, 24, 25, 26, 27, 28, 29, 30, 31, 32, 33, 34, 35, 36, 37, 38, 39, 40, 41, 42, 43, 44, 45, 46, 47, 48, 49, 50, 51, 52, 53, 54, 55, 56, 57, 58, 59, 60, 61, 62, 63, 64, 65, 66, 67, 68, 69, 70, 71, 72, 73, 74, 75, 76, 77, 78, 79, 80, 81, 82, 83, 84, 85, 86, 125, 126, 127, 128, 129, 130, 131, 132, 133, 134, 135, 136, 137, 138, 139, 140, 141, 142, 143, 144, 145, 146, 147, 148, 149, 150, 151, 152, 153, 154, 155, 156] rfl (by decide +kernel)
set_option maxRecDepth 20000 in
theorem gX12_readBoth_X12_eats : GoodIn wsX12_readBoth (wsV RX12 158 RX12 yX12_eats wsX12_eats) := goodIn_app (goodIn_r _ [5, 6, 7, 4] rfl (by decide +kernel)) ggX12_readBoth_X12_eats
set_option maxRecDepth 20000 in
theorem ggX12_readBoth_X12_codes : GoodIn wsX12_readBoth wsX12_codes := goodIn_r _ [90, 13, 91, 125, 126, 127, 128, 129, 130, 131, 132, 133, 134, 135, 136, 137, 138, 139, 140, 141, 142, 143, 144, 145, 146, 147, 148, 149, 150, 151, 152, 153, 154, 155, 156] rfl (by decide +kernel)
set_option maxRecDepth 20000 in
theorem gX12_readBoth_X12_codes : GoodIn wsX12_readBoth (wsV RX12 146 RX12 yX12_codes wsX12_codes) := goodIn_app (goodIn_r _ [87, 88, 89, 4] rfl (by decide +kernel)) ggX12_readBoth_X12_codes
set_option maxRecDepth 20000 in
theorem ggX12_readTruth_X12_readBoth : GoodIn wsX12_readTruth wsX12_readBoth := goodIn_r _ [92, 93, 94, 95, 4, 5, 6, 7, 8, 9, 10, 11, 12, 13, 14, 15, 16, 17, 18, 19, 20, 21, 22, 23, 24, 25, 26, 27, 28, 29, 30, 31, 32, 33, 34, 35, 36, 37, 38, 39, 40, 41, 42, 43, 44, 45, 46, 47, 48, 49, 50, 51, 52, 53, 54, 55, 56, 57, 58, 59, 60, 61, 62, 63, 64, 65, 66, 67, 68, 69, 70, 71, 72, 73, 74, 75, 76, 77, 78, 79, 80, 81, 82, 83, 84, 85, 86, 87, 88, 89, 90, 91, 0, 1, 2, 3, 96, 97, 98, 99, 100, 101, 102, 103, 104, 105, 106, 107, 108, 109, 110, 111, 112, 113, 114, 115, 116, 117, 118, 119, 120, 121, 122, 123, 124, 125, 126, 127, 128, 129, 130, 131, 132, 133, 134, 135, 136, 137, 138, 139, 140, 141, 142, 143, 144, 145, 146, 147, 148, 149, 150, 151, 152, 153, 154, 155, 156] rfl (by decide +kernel)
set_option maxRecDepth 20000 in
theorem gX12_readTruth_X12_readBoth : GoodIn wsX12_readTruth (wsV RX12 173 RX12 yX12_readBoth wsX12_readBoth) := goodIn_app (goodIn_r _ [1, 2, 3, 4] rfl (by decide +kernel)) ggX12_readTruth_X12_readBoth
set_option maxRecDepth 20000 in
theorem ggX12_readTruth_X12_eats : GoodIn wsX12_readTruth wsX12_eats := goodIn_r _ [8, 9, 10, 11, 4, 12, 13, 14, 15, 16, 17, 18, 19, 20, 21, 22, 23, 24, 25, 26, 27, 28, 29, 30, 31, 32, 33, 34, 35, 36, 37, 38, 39, 40, 41, 42, 43, 44, 45, 46, 47, 48, 49, 50, 51, 52, 53, 54, 55, 56, 57, 58, 59, 60, 61, 62, 63, 64, 65, 66, 67, 68, 69, 70, 71, 72, 73, 74, 75, 76, 77, 78, 79, 80, 81, 82, 83, 84, 85, 86, 125, 126, 127, 128, 129, 130, 131, 132, 133, 134, 135, 136, 137, 138, 139, 140, 141, 142, 143, 144, 145, 146, 147, 148, 149, 150, 151, 152, 153, 154, 155, 156] rfl (by decide +kernel)
set_option maxRecDepth 20000 in
theorem gX12_readTruth_X12_eats : GoodIn wsX12_readTruth (wsV RX12 158 RX12 yX12_eats wsX12_eats) := goodIn_app (goodIn_r _ [5, 6, 7, 4] rfl (by decide +kernel)) ggX12_readTruth_X12_eats
set_option maxRecDepth 20000 in
theorem ggX12_readTruth_X12_codes : GoodIn wsX12_readTruth wsX12_codes := goodIn_r _ [90, 13, 91, 125, 126, 127, 128, 129, 130, 131, 132, 133, 134, 135, 136, 137, 138, 139, 140, 141, 142, 143, 144, 145, 146, 147, 148, 149, 150, 151, 152, 153, 154, 155, 156] rfl (by decide +kernel)
set_option maxRecDepth 20000 in
theorem gX12_readTruth_X12_codes : GoodIn wsX12_readTruth (wsV RX12 146 RX12 yX12_codes wsX12_codes) := goodIn_app (goodIn_r _ [87, 88, 89, 4] rfl (by decide +kernel)) ggX12_readTruth_X12_codes
set_option maxRecDepth 20000 in
theorem ggX12_readFlag_X12_eats : GoodIn wsX12_readFlag wsX12_eats := goodIn_r _ [7, 8, 9, 10, 6, 11, 2, 12, 13, 14, 15, 16, 17, 18, 19, 20, 21, 22, 23, 24, 25, 26, 27, 28, 29, 30, 31, 32, 33, 34, 35, 36, 37, 38, 39, 40, 41, 42, 43, 44, 45, 46, 47, 48, 49, 50, 51, 52, 53, 54, 55, 56, 57, 58, 59, 60, 61, 62, 63, 64, 65, 66, 67, 68, 69, 70, 71, 72, 73, 74, 75, 76, 77, 78, 79, 80, 81, 82, 83, 84, 97, 98, 99, 100, 101, 102, 103, 104, 105, 106, 107, 108, 109, 110, 111, 112, 113, 114, 115, 116, 117, 118, 119, 120, 121, 122, 123, 124, 125, 126, 127, 128] rfl (by decide +kernel)
set_option maxRecDepth 20000 in
theorem gX12_readFlag_X12_eats : GoodIn wsX12_readFlag (wsV RX12 158 RX12 yX12_eats wsX12_eats) := goodIn_app (goodIn_r _ [3, 4, 5, 6] rfl (by decide +kernel)) ggX12_readFlag_X12_eats
set_option maxRecDepth 20000 in
theorem ggX12_readFlag_X12_takes : GoodIn wsX12_readFlag wsX12_takes := goodIn_r _ [88, 20, 2, 8, 9, 10, 6, 11, 12, 89, 90, 91, 92, 18, 93, 94, 95, 96, 13, 14, 15, 16, 17, 19, 21, 22, 23, 24, 25, 26, 27, 28, 29, 30, 31, 32, 33, 34, 35, 36, 37, 38, 39, 40, 41, 42, 43, 44, 45, 46, 47, 48, 49, 50, 51, 52, 53, 54, 55, 56, 57, 58, 59, 60, 61, 62, 63, 64, 65, 66, 67, 68, 69, 70, 71, 72, 73, 74, 75, 76, 77, 78, 79, 80, 81, 82, 83, 84, 97, 98, 99, 100, 101, 102, 103, 104, 105, 106, 107, 108, 109, 110, 111, 112, 113, 114, 115, 116, 117, 118, 119, 120, 121, 122, 123, 124, 125, 126, 127, 128] rfl (by decide +kernel)
set_option maxRecDepth 20000 in
theorem gX12_readFlag_X12_takes : GoodIn wsX12_readFlag (wsV RX12 176 RX12 yX12_takes wsX12_takes) := goodIn_app (goodIn_r _ [85, 86, 87, 6] rfl (by decide +kernel)) ggX12_readFlag_X12_takes
set_option maxRecDepth 20000 in
theorem ggX12_readKind_X12_fails : GoodIn wsX12_readKind wsX12_fails := goodIn_r _ [7, 2, 8, 9, 10, 101, 102, 103, 104, 105, 106, 107, 108, 109, 110, 111, 112, 113, 114, 115, 116, 117, 118, 119, 120, 121, 122, 123, 124, 125, 126, 127, 128, 129, 130, 131, 132] rfl (by decide +kernel)
set_option maxRecDepth 20000 in
theorem gX12_readKind_X12_fails : GoodIn wsX12_readKind (wsV RX12 138 RX12 yX12_fails wsX12_fails) := goodIn_app (goodIn_r _ [3, 4, 5, 6] rfl (by decide +kernel)) ggX12_readKind_X12_fails
set_option maxRecDepth 20000 in
theorem ggX12_readKind_X12_next : GoodIn wsX12_readKind wsX12_next := goodIn_r _ [14, 15, 9, 16, 8, 17, 18, 19, 20, 6, 21, 22, 23, 24, 25, 26, 27, 28, 29, 30, 31, 32, 33, 34, 35, 36, 37, 38, 39, 40, 41, 42, 43, 44, 45, 46, 47, 48, 49, 50, 51, 52, 53, 54, 55, 56, 57, 58, 59, 60, 61, 62, 63, 64, 65, 66, 67, 68, 69, 70, 71, 72, 73, 74, 75, 76, 77, 78, 79, 80, 81, 101, 102, 103, 104, 105, 106, 107, 108, 109, 110, 111, 112, 113, 114, 115, 116, 117, 118, 119, 120, 121, 122, 123, 124, 125, 126, 127, 128, 129, 130, 131, 132] rfl (by decide +kernel)
set_option maxRecDepth 20000 in
theorem gX12_readKind_X12_next : GoodIn wsX12_readKind (wsV RX12 135 RX12 yX12_next wsX12_next) := goodIn_app (goodIn_r _ [11, 12, 13, 6] rfl (by decide +kernel)) ggX12_readKind_X12_next
set_option maxRecDepth 20000 in
theorem ggX12_readKind_X12_eats : GoodIn wsX12_readKind wsX12_eats := goodIn_r _ [85, 86, 87, 88, 6, 89, 2, 8, 11, 12, 13, 14, 15, 9, 16, 17, 18, 19, 20, 21, 22, 23, 24, 25, 26, 27, 28, 29, 30, 31, 32, 33, 34, 35, 36, 37, 38, 39, 40, 41, 42, 43, 44, 45, 46, 47, 48, 49, 50, 51, 52, 53, 54, 55, 56, 57, 58, 59, 60, 61, 62, 63, 64, 65, 66, 67, 68, 69, 70, 71, 72, 73, 74, 75, 76, 77, 78, 79, 80, 81, 101, 102, 103, 104, 105, 106, 107, 108, 109, 110, 111, 112, 113, 114, 115, 116, 117, 118, 119, 120, 121, 122, 123, 124, 125, 126, 127, 128, 129, 130, 131, 132] rfl (by decide +kernel)
set_option maxRecDepth 20000 in
theorem gX12_readKind_X12_eats : GoodIn wsX12_readKind (wsV RX12 158 RX12 yX12_eats wsX12_eats) := goodIn_app (goodIn_r _ [82, 83, 84, 6] rfl (by decide +kernel)) ggX12_readKind_X12_eats
set_option maxRecDepth 20000 in
theorem ggX12_readKind_X12_takes : GoodIn wsX12_readKind wsX12_takes := goodIn_r _ [93, 17, 2, 86, 87, 88, 6, 89, 8, 3, 4, 5, 7, 9, 10, 94, 95, 96, 11, 12, 13, 14, 15, 16, 18, 19, 20, 21, 22, 23, 24, 25, 26, 27, 28, 29, 30, 31, 32, 33, 34, 35, 36, 37, 38, 39, 40, 41, 42, 43, 44, 45, 46, 47, 48, 49, 50, 51, 52, 53, 54, 55, 56, 57, 58, 59, 60, 61, 62, 63, 64, 65, 66, 67, 68, 69, 70, 71, 72, 73, 74, 75, 76, 77, 78, 79, 80, 81, 101, 102, 103, 104, 105, 106, 107, 108, 109, 110, 111, 112, 113, 114, 115, 116, 117, 118, 119, 120, 121, 122, 123, 124, 125, 126, 127, 128, 129, 130, 131, 132] rfl (by decide +kernel)
set_option maxRecDepth 20000 in
theorem gX12_readKind_X12_takes : GoodIn wsX12_readKind (wsV RX12 176 RX12 yX12_takes wsX12_takes) := goodIn_app (goodIn_r _ [90, 91, 92, 6] rfl (by decide +kernel)) ggX12_readKind_X12_takes
set_option maxRecDepth 20000 in
theorem ggX12_readKind_X12_readFlag : GoodIn wsX12_readKind wsX12_readFlag := goodIn_r _ [100, 1, 2, 82, 83, 84, 6, 85, 86, 87, 88, 89, 8, 11, 12, 13, 14, 15, 9, 16, 17, 18, 19, 20, 21, 22, 23, 24, 25, 26, 27, 28, 29, 30, 31, 32, 33, 34, 35, 36, 37, 38, 39, 40, 41, 42, 43, 44, 45, 46, 47, 48, 49, 50, 51, 52, 53, 54, 55, 56, 57, 58, 59, 60, 61, 62, 63, 64, 65, 66, 67, 68, 69, 70, 71, 72, 73, 74, 75, 76, 77, 78, 79, 80, 81, 90, 91, 92, 93, 3, 4, 5, 7, 10, 94, 95, 96, 101, 102, 103, 104, 105, 106, 107, 108, 109, 110, 111, 112, 113, 114, 115, 116, 117, 118, 119, 120, 121, 122, 123, 124, 125, 126, 127, 128, 129, 130, 131, 132] rfl (by decide +kernel)
set_option maxRecDepth 20000 in
theorem gX12_readKind_X12_readFlag : GoodIn wsX12_readKind (wsV RX12 180 RX12 yX12_readFlag wsX12_readFlag) := goodIn_app (goodIn_r _ [97, 98, 99, 6] rfl (by decide +kernel)) ggX12_readKind_X12_readFlag
set_option maxRecDepth 20000 in
theorem ggX12_readMark_X12_eats : GoodIn wsX12_readMark wsX12_eats := goodIn_r _ [7, 8, 9, 10, 6, 11, 2, 12, 13, 14, 15, 16, 17, 18, 19, 20, 21, 22, 23, 24, 25, 26, 27, 28, 29, 30, 31, 32, 33, 34, 35, 36, 37, 38, 39, 40, 41, 42, 43, 44, 45, 46, 47, 48, 49, 50, 51, 52, 53, 54, 55, 56, 57, 58, 59, 60, 61, 62, 63, 64, 65, 66, 67, 68, 69, 70, 71, 72, 73, 74, 75, 76, 77, 78, 79, 80, 81, 82, 83, 84, 97, 98, 99, 100, 101, 102, 103, 104, 105, 106, 107, 108, 109, 110, 111, 112, 113, 114, 115, 116, 117, 118, 119, 120, 121, 122, 123, 124, 125, 126, 127, 128] rfl (by decide +kernel)
set_option maxRecDepth 20000 in
theorem gX12_readMark_X12_eats : GoodIn wsX12_readMark (wsV RX12 158 RX12 yX12_eats wsX12_eats) := goodIn_app (goodIn_r _ [3, 4, 5, 6] rfl (by decide +kernel)) ggX12_readMark_X12_eats
set_option maxRecDepth 20000 in
theorem ggX12_readMark_X12_takes : GoodIn wsX12_readMark wsX12_takes := goodIn_r _ [88, 20, 2, 8, 9, 10, 6, 11, 12, 89, 90, 91, 92, 18, 93, 94, 95, 96, 13, 14, 15, 16, 17, 19, 21, 22, 23, 24, 25, 26, 27, 28, 29, 30, 31, 32, 33, 34, 35, 36, 37, 38, 39, 40, 41, 42, 43, 44, 45, 46, 47, 48, 49, 50, 51, 52, 53, 54, 55, 56, 57, 58, 59, 60, 61, 62, 63, 64, 65, 66, 67, 68, 69, 70, 71, 72, 73, 74, 75, 76, 77, 78, 79, 80, 81, 82, 83, 84, 97, 98, 99, 100, 101, 102, 103, 104, 105, 106, 107, 108, 109, 110, 111, 112, 113, 114, 115, 116, 117, 118, 119, 120, 121, 122, 123, 124, 125, 126, 127, 128] rfl (by decide +kernel)
set_option maxRecDepth 20000 in
theorem gX12_readMark_X12_takes : GoodIn wsX12_readMark (wsV RX12 176 RX12 yX12_takes wsX12_takes) := goodIn_app (goodIn_r _ [85, 86, 87, 6] rfl (by decide +kernel)) ggX12_readMark_X12_takes
set_option maxRecDepth 20000 in
theorem ggX12_readBuyer_X12_fails : GoodIn wsX12_readBuyer wsX12_fails := goodIn_r _ [7, 2, 8, 9, 10, 101, 102, 103, 104, 105, 106, 107, 108, 109, 110, 111, 112, 113, 114, 115, 116, 117, 118, 119, 120, 121, 122, 123, 124, 125, 126, 127, 128, 129, 130, 131, 132] rfl (by decide +kernel)
set_option maxRecDepth 20000 in
theorem gX12_readBuyer_X12_fails : GoodIn wsX12_readBuyer (wsV RX12 138 RX12 yX12_fails wsX12_fails) := goodIn_app (goodIn_r _ [3, 4, 5, 6] rfl (by decide +kernel)) ggX12_readBuyer_X12_fails
set_option maxRecDepth 20000 in
theorem ggX12_readBuyer_X12_next : GoodIn wsX12_readBuyer wsX12_next := goodIn_r _ [14, 15, 9, 16, 8, 17, 18, 19, 20, 6, 21, 22, 23, 24, 25, 26, 27, 28, 29, 30, 31, 32, 33, 34, 35, 36, 37, 38, 39, 40, 41, 42, 43, 44, 45, 46, 47, 48, 49, 50, 51, 52, 53, 54, 55, 56, 57, 58, 59, 60, 61, 62, 63, 64, 65, 66, 67, 68, 69, 70, 71, 72, 73, 74, 75, 76, 77, 78, 79, 80, 81, 101, 102, 103, 104, 105, 106, 107, 108, 109, 110, 111, 112, 113, 114, 115, 116, 117, 118, 119, 120, 121, 122, 123, 124, 125, 126, 127, 128, 129, 130, 131, 132] rfl (by decide +kernel)
set_option maxRecDepth 20000 in
theorem gX12_readBuyer_X12_next : GoodIn wsX12_readBuyer (wsV RX12 135 RX12 yX12_next wsX12_next) := goodIn_app (goodIn_r _ [11, 12, 13, 6] rfl (by decide +kernel)) ggX12_readBuyer_X12_next
set_option maxRecDepth 20000 in
theorem ggX12_readBuyer_X12_eats : GoodIn wsX12_readBuyer wsX12_eats := goodIn_r _ [85, 86, 87, 88, 6, 89, 2, 8, 11, 12, 13, 14, 15, 9, 16, 17, 18, 19, 20, 21, 22, 23, 24, 25, 26, 27, 28, 29, 30, 31, 32, 33, 34, 35, 36, 37, 38, 39, 40, 41, 42, 43, 44, 45, 46, 47, 48, 49, 50, 51, 52, 53, 54, 55, 56, 57, 58, 59, 60, 61, 62, 63, 64, 65, 66, 67, 68, 69, 70, 71, 72, 73, 74, 75, 76, 77, 78, 79, 80, 81, 101, 102, 103, 104, 105, 106, 107, 108, 109, 110, 111, 112, 113, 114, 115, 116, 117, 118, 119, 120, 121, 122, 123, 124, 125, 126, 127, 128, 129, 130, 131, 132] rfl (by decide +kernel)
set_option maxRecDepth 20000 in
theorem gX12_readBuyer_X12_eats : GoodIn wsX12_readBuyer (wsV RX12 158 RX12 yX12_eats wsX12_eats) := goodIn_app (goodIn_r _ [82, 83, 84, 6] rfl (by decide +kernel)) ggX12_readBuyer_X12_eats
set_option maxRecDepth 20000 in
theorem ggX12_readBuyer_X12_takes : GoodIn wsX12_readBuyer wsX12_takes := goodIn_r _ [93, 17, 2, 86, 87, 88, 6, 89, 8, 3, 4, 5, 7, 9, 10, 94, 95, 96, 11, 12, 13, 14, 15, 16, 18, 19, 20, 21, 22, 23, 24, 25, 26, 27, 28, 29, 30, 31, 32, 33, 34, 35, 36, 37, 38, 39, 40, 41, 42, 43, 44, 45, 46, 47, 48, 49, 50, 51, 52, 53, 54, 55, 56, 57, 58, 59, 60, 61, 62, 63, 64, 65, 66, 67, 68, 69, 70, 71, 72, 73, 74, 75, 76, 77, 78, 79, 80, 81, 101, 102, 103, 104, 105, 106, 107, 108, 109, 110, 111, 112, 113, 114, 115, 116, 117, 118, 119, 120, 121, 122, 123, 124, 125, 126, 127, 128, 129, 130, 131, 132] rfl (by decide +kernel)
set_option maxRecDepth 20000 in
theorem gX12_readBuyer_X12_takes : GoodIn wsX12_readBuyer (wsV RX12 176 RX12 yX12_takes wsX12_takes) := goodIn_app (goodIn_r _ [90, 91, 92, 6] rfl (by decide +kernel)) ggX12_readBuyer_X12_takes
set_option maxRecDepth 20000 in
theorem ggX12_readBuyer_X12_readMark : GoodIn wsX12_readBuyer wsX12_readMark := goodIn_r _ [100, 1, 2, 82, 83, 84, 6, 85, 86, 87, 88, 89, 8, 11, 12, 13, 14, 15, 9, 16, 17, 18, 19, 20, 21, 22, 23, 24, 25, 26, 27, 28, 29, 30, 31, 32, 33, 34, 35, 36, 37, 38, 39, 40, 41, 42, 43, 44, 45, 46, 47, 48, 49, 50, 51, 52, 53, 54, 55, 56, 57, 58, 59, 60, 61, 62, 63, 64, 65, 66, 67, 68, 69, 70, 71, 72, 73, 74, 75, 76, 77, 78, 79, 80, 81, 90, 91, 92, 93, 3, 4, 5, 7, 10, 94, 95, 96, 101, 102, 103, 104, 105, 106, 107, 108, 109, 110, 111, 112, 113, 114, 115, 116, 117, 118, 119, 120, 121, 122, 123, 124, 125, 126, 127, 128, 129, 130, 131, 132] rfl (by decide +kernel)
set_option maxRecDepth 20000 in
theorem gX12_readBuyer_X12_readMark : GoodIn wsX12_readBuyer (wsV RX12 183 RX12 yX12_readMark wsX12_readMark) := goodIn_app (goodIn_r _ [97, 98, 99, 6] rfl (by decide +kernel)) ggX12_readBuyer_X12_readMark
set_option maxRecDepth 20000 in
theorem ggX12_readLaw_X12_next : GoodIn wsX12_readLaw wsX12_next := goodIn_r _ [7, 8, 9, 10, 11, 12, 13, 14, 15, 6, 16, 17, 18, 19, 20, 21, 22, 23, 24, 25, 26, 27, 28, 29, 30, 31, 32, 33, 34, 35, 36, 37, 38, 39, 40, 41, 42, 43, 44, 45, 46, 47, 48, 49, 50, 51, 52, 53, 54, 55, 56, 57, 58, 59, 60, 61, 62, 63, 64, 65, 66, 67, 68, 69, 70, 71, 72, 73, 74, 75, 76, 126, 127, 128, 129, 130, 131, 132, 133, 134, 135, 136, 137, 138, 139, 140, 141, 142, 143, 144, 145, 146, 147, 148, 149, 150, 151, 152, 153, 154, 155, 156, 157] rfl (by decide +kernel)
set_option maxRecDepth 20000 in
theorem gX12_readLaw_X12_next : GoodIn wsX12_readLaw (wsV RX12 135 RX12 yX12_next wsX12_next) := goodIn_app (goodIn_r _ [3, 4, 5, 6] rfl (by decide +kernel)) ggX12_readLaw_X12_next
set_option maxRecDepth 20000 in
theorem ggX12_readLaw_X12_eats : GoodIn wsX12_readLaw wsX12_eats := goodIn_r _ [80, 81, 82, 83, 6, 84, 2, 11, 3, 4, 5, 7, 8, 9, 10, 12, 13, 14, 15, 16, 17, 18, 19, 20, 21, 22, 23, 24, 25, 26, 27, 28, 29, 30, 31, 32, 33, 34, 35, 36, 37, 38, 39, 40, 41, 42, 43, 44, 45, 46, 47, 48, 49, 50, 51, 52, 53, 54, 55, 56, 57, 58, 59, 60, 61, 62, 63, 64, 65, 66, 67, 68, 69, 70, 71, 72, 73, 74, 75, 76, 126, 127, 128, 129, 130, 131, 132, 133, 134, 135, 136, 137, 138, 139, 140, 141, 142, 143, 144, 145, 146, 147, 148, 149, 150, 151, 152, 153, 154, 155, 156, 157] rfl (by decide +kernel)
set_option maxRecDepth 20000 in
theorem gX12_readLaw_X12_eats : GoodIn wsX12_readLaw (wsV RX12 158 RX12 yX12_eats wsX12_eats) := goodIn_app (goodIn_r _ [77, 78, 79, 6] rfl (by decide +kernel)) ggX12_readLaw_X12_eats
set_option maxRecDepth 20000 in
theorem ggX12_readLaw_X12_fails : GoodIn wsX12_readLaw wsX12_fails := goodIn_r _ [88, 2, 11, 9, 89, 126, 127, 128, 129, 130, 131, 132, 133, 134, 135, 136, 137, 138, 139, 140, 141, 142, 143, 144, 145, 146, 147, 148, 149, 150, 151, 152, 153, 154, 155, 156, 157] rfl (by decide +kernel)
set_option maxRecDepth 20000 in
theorem gX12_readLaw_X12_fails : GoodIn wsX12_readLaw (wsV RX12 138 RX12 yX12_fails wsX12_fails) := goodIn_app (goodIn_r _ [85, 86, 87, 6] rfl (by decide +kernel)) ggX12_readLaw_X12_fails
set_option maxRecDepth 20000 in
theorem ggX12_readLaw_X12_readSum : GoodIn wsX12_readLaw wsX12_readSum := goodIn_r _ [93, 11, 94, 95, 96, 6, 81, 82, 83, 84, 2, 3, 4, 5, 7, 8, 9, 10, 12, 13, 14, 15, 16, 17, 18, 19, 20, 21, 22, 23, 24, 25, 26, 27, 28, 29, 30, 31, 32, 33, 34, 35, 36, 37, 38, 39, 40, 41, 42, 43, 44, 45, 46, 47, 48, 49, 50, 51, 52, 53, 54, 55, 56, 57, 58, 59, 60, 61, 62, 63, 64, 65, 66, 67, 68, 69, 70, 71, 72, 73, 74, 75, 76, 97, 98, 99, 100, 1, 101, 102, 103, 104, 105, 106, 107, 108, 109, 85, 86, 87, 88, 89, 90, 91, 92, 77, 78, 79, 80, 110, 111, 112, 113, 126, 127, 128, 129, 130, 131, 132, 133, 134, 135, 136, 137, 138, 139, 140, 141, 142, 143, 144, 145, 146, 147, 148, 149, 150, 151, 152, 153, 154, 155, 156, 157] rfl (by decide +kernel)
set_option maxRecDepth 20000 in
theorem gX12_readLaw_X12_readSum : GoodIn wsX12_readLaw (wsV RX12 155 RX12 yX12_readSum wsX12_readSum) := goodIn_app (goodIn_r _ [90, 91, 92, 6] rfl (by decide +kernel)) ggX12_readLaw_X12_readSum
set_option maxRecDepth 20000 in
theorem ggX12_readLaw_X12_readTruth : GoodIn wsX12_readLaw wsX12_readTruth := goodIn_r _ [117, 118, 119, 120, 6, 77, 78, 79, 80, 81, 82, 83, 84, 2, 11, 3, 4, 5, 7, 8, 9, 10, 12, 13, 14, 15, 16, 17, 18, 19, 20, 21, 22, 23, 24, 25, 26, 27, 28, 29, 30, 31, 32, 33, 34, 35, 36, 37, 38, 39, 40, 41, 42, 43, 44, 45, 46, 47, 48, 49, 50, 51, 52, 53, 54, 55, 56, 57, 58, 59, 60, 61, 62, 63, 64, 65, 66, 67, 68, 69, 70, 71, 72, 73, 74, 75, 76, 97, 98, 99, 100, 1, 121, 122, 123, 124, 125, 106, 107, 108, 109, 85, 86, 87, 88, 89, 114, 115, 116, 90, 91, 92, 93, 94, 95, 96, 101, 102, 103, 104, 105, 110, 111, 112, 113, 126, 127, 128, 129, 130, 131, 132, 133, 134, 135, 136, 137, 138, 139, 140, 141, 142, 143, 144, 145, 146, 147, 148, 149, 150, 151, 152, 153, 154, 155, 156, 157] rfl (by decide +kernel)
set_option maxRecDepth 20000 in
theorem gX12_readLaw_X12_readTruth : GoodIn wsX12_readLaw (wsV RX12 170 RX12 yX12_readTruth wsX12_readTruth) := goodIn_app (goodIn_r _ [114, 115, 116, 6] rfl (by decide +kernel)) ggX12_readLaw_X12_readTruth
set_option maxRecDepth 20000 in
theorem ggX12_readLine_X12_is : GoodIn wsX12_readLine wsX12_is := goodIn_r _ [7, 1, 2, 153, 154, 155, 156, 157, 158, 159, 160, 161, 162, 163, 164, 165, 166, 167, 168, 169, 170, 171, 172, 173, 174, 175, 176, 177, 178, 179, 180, 181, 182, 183, 184] rfl (by decide +kernel)
set_option maxRecDepth 20000 in
theorem gX12_readLine_X12_is : GoodIn wsX12_readLine (wsV RX12 132 RX12 yX12_is wsX12_is) := goodIn_app (goodIn_r _ [3, 4, 5, 6] rfl (by decide +kernel)) ggX12_readLine_X12_is
set_option maxRecDepth 20000 in
theorem ggX12_readLine_X12_readKind : GoodIn wsX12_readLine wsX12_readKind := goodIn_r _ [11, 12, 1, 13, 14, 15, 6, 16, 2, 17, 18, 19, 20, 21, 22, 23, 24, 25, 26, 27, 28, 29, 30, 31, 32, 33, 34, 35, 36, 37, 38, 39, 40, 41, 42, 43, 44, 45, 46, 47, 48, 49, 50, 51, 52, 53, 54, 55, 56, 57, 58, 59, 60, 61, 62, 63, 64, 65, 66, 67, 68, 69, 70, 71, 72, 73, 74, 75, 76, 77, 78, 79, 80, 81, 82, 83, 84, 85, 86, 87, 88, 89, 90, 91, 92, 93, 3, 4, 5, 7, 94, 95, 96, 97, 98, 99, 100, 101, 102, 103, 104, 153, 154, 155, 156, 157, 158, 159, 160, 161, 162, 163, 164, 165, 166, 167, 168, 169, 170, 171, 172, 173, 174, 175, 176, 177, 178, 179, 180, 181, 182, 183, 184] rfl (by decide +kernel)
set_option maxRecDepth 20000 in
theorem gX12_readLine_X12_readKind : GoodIn wsX12_readLine (wsV RX12 186 RX12 yX12_readKind wsX12_readKind) := goodIn_app (goodIn_r _ [8, 9, 10, 6] rfl (by decide +kernel)) ggX12_readLine_X12_readKind
set_option maxRecDepth 20000 in
theorem ggX12_readLine_X12_readBuyer : GoodIn wsX12_readLine wsX12_readBuyer := goodIn_r _ [108, 12, 1, 13, 14, 15, 6, 16, 2, 17, 18, 19, 20, 21, 22, 23, 24, 25, 26, 27, 28, 29, 30, 31, 32, 33, 34, 35, 36, 37, 38, 39, 40, 41, 42, 43, 44, 45, 46, 47, 48, 49, 50, 51, 52, 53, 54, 55, 56, 57, 58, 59, 60, 61, 62, 63, 64, 65, 66, 67, 68, 69, 70, 71, 72, 73, 74, 75, 76, 77, 78, 79, 80, 81, 82, 83, 84, 85, 86, 87, 88, 89, 90, 91, 92, 93, 3, 4, 5, 7, 94, 95, 96, 97, 98, 99, 100, 109, 110, 111, 112, 153, 154, 155, 156, 157, 158, 159, 160, 161, 162, 163, 164, 165, 166, 167, 168, 169, 170, 171, 172, 173, 174, 175, 176, 177, 178, 179, 180, 181, 182, 183, 184] rfl (by decide +kernel)
set_option maxRecDepth 20000 in
theorem gX12_readLine_X12_readBuyer : GoodIn wsX12_readLine (wsV RX12 189 RX12 yX12_readBuyer wsX12_readBuyer) := goodIn_app (goodIn_r _ [105, 106, 107, 6] rfl (by decide +kernel)) ggX12_readLine_X12_readBuyer
set_option maxRecDepth 20000 in
theorem ggX12_readLine_X12_readLaw : GoodIn wsX12_readLine wsX12_readLaw := goodIn_r _ [116, 12, 1, 19, 20, 21, 6, 22, 23, 17, 24, 2, 25, 26, 27, 28, 29, 30, 31, 32, 33, 34, 35, 36, 37, 38, 39, 40, 41, 42, 43, 44, 45, 46, 47, 48, 49, 50, 51, 52, 53, 54, 55, 56, 57, 58, 59, 60, 61, 62, 63, 64, 65, 66, 67, 68, 69, 70, 71, 72, 73, 74, 75, 76, 77, 78, 79, 80, 81, 82, 83, 84, 85, 86, 87, 88, 89, 90, 91, 92, 93, 3, 4, 5, 7, 13, 14, 15, 16, 18, 117, 118, 119, 120, 121, 122, 123, 124, 125, 126, 127, 128, 129, 130, 131, 132, 133, 134, 135, 136, 137, 138, 139, 140, 141, 142, 143, 144, 145, 146, 147, 148, 149, 150, 151, 152, 153, 154, 155, 156, 157, 158, 159, 160, 161, 162, 163, 164, 165, 166, 167, 168, 169, 170, 171, 172, 173, 174, 175, 176, 177, 178, 179, 180, 181, 182, 183, 184] rfl (by decide +kernel)
set_option maxRecDepth 20000 in
theorem gX12_readLine_X12_readLaw : GoodIn wsX12_readLine (wsV RX12 192 RX12 yX12_readLaw wsX12_readLaw) := goodIn_app (goodIn_r _ [113, 114, 115, 6] rfl (by decide +kernel)) ggX12_readLine_X12_readLaw
set_option maxRecDepth 20000 in
theorem ggX12_readLine_X12_fails : GoodIn wsX12_readLine wsX12_fails := goodIn_r _ [16, 1, 2, 17, 18, 153, 154, 155, 156, 157, 158, 159, 160, 161, 162, 163, 164, 165, 166, 167, 168, 169, 170, 171, 172, 173, 174, 175, 176, 177, 178, 179, 180, 181, 182, 183, 184] rfl (by decide +kernel)
set_option maxRecDepth 20000 in
theorem gX12_readLine_X12_fails : GoodIn wsX12_readLine (wsV RX12 138 RX12 yX12_fails wsX12_fails) := goodIn_app (goodIn_r _ [13, 14, 15, 6] rfl (by decide +kernel)) ggX12_readLine_X12_fails
set_option maxRecDepth 20000 in
theorem ggX12_ends_X12_eats : GoodIn wsX12_ends wsX12_eats := goodIn_r _ [6, 7, 8, 9, 5, 10, 11, 12, 13, 14, 15, 16, 17, 18, 19, 20, 21, 22, 23, 24, 25, 26, 27, 28, 29, 30, 31, 32, 33, 34, 35, 36, 37, 38, 39, 40, 41, 42, 43, 44, 45, 46, 47, 48, 49, 50, 51, 52, 53, 54, 55, 56, 57, 58, 59, 60, 61, 62, 63, 64, 65, 66, 67, 68, 69, 70, 71, 72, 73, 74, 75, 76, 77, 78, 79, 80, 81, 82, 83, 84, 90, 91, 92, 93, 94, 95, 96, 97, 98, 99, 100, 101, 102, 103, 104, 105, 106, 107, 108, 109, 110, 111, 112, 113, 114, 115, 116, 117, 118, 119, 120, 121] rfl (by decide +kernel)
set_option maxRecDepth 20000 in
theorem gX12_ends_X12_eats : GoodIn wsX12_ends (wsV RX12 158 RX12 yX12_eats wsX12_eats) := goodIn_app (goodIn_r _ [2, 3, 4, 5] rfl (by decide +kernel)) ggX12_ends_X12_eats
set_option maxRecDepth 20000 in
theorem ggX12_ends_X12_fails : GoodIn wsX12_ends wsX12_fails := goodIn_r _ [88, 11, 12, 18, 89, 90, 91, 92, 93, 94, 95, 96, 97, 98, 99, 100, 101, 102, 103, 104, 105, 106, 107, 108, 109, 110, 111, 112, 113, 114, 115, 116, 117, 118, 119, 120, 121] rfl (by decide +kernel)
set_option maxRecDepth 20000 in
theorem gX12_ends_X12_fails : GoodIn wsX12_ends (wsV RX12 138 RX12 yX12_fails wsX12_fails) := goodIn_app (goodIn_r _ [85, 86, 87, 5] rfl (by decide +kernel)) ggX12_ends_X12_fails
set_option maxRecDepth 20000 in
theorem ggX12_shop_X12_within : GoodIn wsX12_shop wsX12_within := goodIn_r _ [15] rfl (by decide +kernel)
set_option maxRecDepth 20000 in
theorem gX12_shop_X12_within : GoodIn wsX12_shop (va_wsS RX12 142 yX12_within wsX12_within) := goodIn_app (goodIn_r _ [12, 13, 14] rfl (by decide +kernel)) ggX12_shop_X12_within
set_option maxRecDepth 20000 in
theorem ggX12_shop_X12_plain : GoodIn wsX12_shop wsX12_plain := goodIn_r _ [18] rfl (by decide +kernel)
set_option maxRecDepth 20000 in
theorem gX12_shop_X12_plain : GoodIn wsX12_shop (va_wsS RX12 76 yX12_plain wsX12_plain) := goodIn_app (goodIn_r _ [16, 17, 14] rfl (by decide +kernel)) ggX12_shop_X12_plain
set_option maxRecDepth 20000 in
theorem ggX12_shop_X12_next : GoodIn wsX12_shop wsX12_next := goodIn_r _ [22, 4, 23, 3, 7, 24, 25, 26, 27, 14, 28, 29, 30, 31, 32, 33, 34, 35, 36, 37, 38, 39, 40, 41, 42, 43, 44, 45, 46, 47, 48, 49, 50, 51, 52, 53, 54, 55, 56, 57, 58, 59, 60, 61, 62, 63, 64, 65, 66, 67, 68, 69, 70, 71, 72, 73, 74, 75, 76, 77, 78, 79, 80, 81, 82, 83, 84, 85, 86, 87, 88, 169, 170, 171, 172, 173, 174, 175, 176, 177, 178, 179, 180, 181, 182, 183, 184, 185, 186, 187, 188, 189, 190, 191, 192, 193, 194, 195, 196, 197, 198, 199, 200] rfl (by decide +kernel)
set_option maxRecDepth 20000 in
theorem gX12_shop_X12_next : GoodIn wsX12_shop (wsV RX12 135 RX12 yX12_next wsX12_next) := goodIn_app (goodIn_r _ [19, 20, 21, 14] rfl (by decide +kernel)) ggX12_shop_X12_next
set_option maxRecDepth 20000 in
theorem ggX12_shop_X12_eats : GoodIn wsX12_shop wsX12_eats := goodIn_r _ [92, 93, 94, 95, 14, 96, 5, 7, 19, 20, 21, 22, 4, 23, 3, 24, 25, 26, 27, 28, 29, 30, 31, 32, 33, 34, 35, 36, 37, 38, 39, 40, 41, 42, 43, 44, 45, 46, 47, 48, 49, 50, 51, 52, 53, 54, 55, 56, 57, 58, 59, 60, 61, 62, 63, 64, 65, 66, 67, 68, 69, 70, 71, 72, 73, 74, 75, 76, 77, 78, 79, 80, 81, 82, 83, 84, 85, 86, 87, 88, 169, 170, 171, 172, 173, 174, 175, 176, 177, 178, 179, 180, 181, 182, 183, 184, 185, 186, 187, 188, 189, 190, 191, 192, 193, 194, 195, 196, 197, 198, 199, 200] rfl (by decide +kernel)
set_option maxRecDepth 20000 in
theorem gX12_shop_X12_eats : GoodIn wsX12_shop (wsV RX12 158 RX12 yX12_eats wsX12_eats) := goodIn_app (goodIn_r _ [89, 90, 91, 14] rfl (by decide +kernel)) ggX12_shop_X12_eats
set_option maxRecDepth 20000 in
theorem ggX12_shop_X12_fails : GoodIn wsX12_shop wsX12_fails := goodIn_r _ [100, 5, 7, 23, 9, 169, 170, 171, 172, 173, 174, 175, 176, 177, 178, 179, 180, 181, 182, 183, 184, 185, 186, 187, 188, 189, 190, 191, 192, 193, 194, 195, 196, 197, 198, 199, 200] rfl (by decide +kernel)
set_option maxRecDepth 20000 in
theorem gX12_shop_X12_fails : GoodIn wsX12_shop (wsV RX12 138 RX12 yX12_fails wsX12_fails) := goodIn_app (goodIn_r _ [97, 98, 99, 14] rfl (by decide +kernel)) ggX12_shop_X12_fails
set_option maxRecDepth 20000 in
theorem ggX12_shop_X12_ends : GoodIn wsX12_shop wsX12_ends := goodIn_r _ [104, 6, 89, 90, 91, 14, 92, 93, 94, 95, 96, 5, 7, 19, 20, 21, 22, 4, 23, 3, 24, 25, 26, 27, 28, 29, 30, 31, 32, 33, 34, 35, 36, 37, 38, 39, 40, 41, 42, 43, 44, 45, 46, 47, 48, 49, 50, 51, 52, 53, 54, 55, 56, 57, 58, 59, 60, 61, 62, 63, 64, 65, 66, 67, 68, 69, 70, 71, 72, 73, 74, 75, 76, 77, 78, 79, 80, 81, 82, 83, 84, 85, 86, 87, 88, 97, 98, 99, 100, 9, 169, 170, 171, 172, 173, 174, 175, 176, 177, 178, 179, 180, 181, 182, 183, 184, 185, 186, 187, 188, 189, 190, 191, 192, 193, 194, 195, 196, 197, 198, 199, 200] rfl (by decide +kernel)
set_option maxRecDepth 20000 in
theorem gX12_shop_X12_ends : GoodIn wsX12_shop (wsV RX12 195 RX12 yX12_ends wsX12_ends) := goodIn_app (goodIn_r _ [101, 102, 103, 14] rfl (by decide +kernel)) ggX12_shop_X12_ends
set_option maxRecDepth 20000 in
theorem ggX12_shop_X12_readLine : GoodIn wsX12_shop wsX12_readLine := goodIn_r _ [108, 5, 7, 93, 94, 95, 14, 96, 109, 110, 111, 112, 6, 97, 98, 99, 100, 23, 9, 19, 20, 21, 22, 4, 3, 24, 25, 26, 27, 28, 29, 30, 31, 32, 33, 34, 35, 36, 37, 38, 39, 40, 41, 42, 43, 44, 45, 46, 47, 48, 49, 50, 51, 52, 53, 54, 55, 56, 57, 58, 59, 60, 61, 62, 63, 64, 65, 66, 67, 68, 69, 70, 71, 72, 73, 74, 75, 76, 77, 78, 79, 80, 81, 82, 83, 84, 85, 86, 87, 88, 89, 90, 91, 92, 113, 114, 115, 116, 12, 13, 15, 117, 118, 119, 120, 121, 122, 123, 124, 125, 126, 127, 128, 129, 130, 131, 132, 133, 134, 135, 136, 137, 138, 139, 140, 141, 142, 143, 144, 145, 146, 147, 148, 149, 150, 151, 152, 153, 154, 155, 156, 157, 158, 159, 160, 161, 162, 163, 164, 165, 166, 167, 168, 169, 170, 171, 172, 173, 174, 175, 176, 177, 178, 179, 180, 181, 182, 183, 184, 185, 186, 187, 188, 189, 190, 191, 192, 193, 194, 195, 196, 197, 198, 199, 200] rfl (by decide +kernel)
set_option maxRecDepth 20000 in
theorem gX12_shop_X12_readLine : GoodIn wsX12_shop (wsV RX12 198 RX12 yX12_readLine wsX12_readLine) := goodIn_app (goodIn_r _ [105, 106, 107, 14] rfl (by decide +kernel)) ggX12_shop_X12_readLine
set_option maxRecDepth 20000 in
theorem ggX12_isKind_X12_within : GoodIn wsX12_isKind wsX12_within := goodIn_r _ [5] rfl (by decide +kernel)
set_option maxRecDepth 20000 in
theorem gX12_isKind_X12_within : GoodIn wsX12_isKind (va_wsS RX12 142 yX12_within wsX12_within) := goodIn_app (goodIn_r _ [2, 3, 4] rfl (by decide +kernel)) ggX12_isKind_X12_within
set_option maxRecDepth 20000 in
theorem ggX12_isBuyer_X12_within : GoodIn wsX12_isBuyer wsX12_within := goodIn_r _ [5] rfl (by decide +kernel)
set_option maxRecDepth 20000 in
theorem gX12_isBuyer_X12_within : GoodIn wsX12_isBuyer (va_wsS RX12 142 yX12_within wsX12_within) := goodIn_app (goodIn_r _ [2, 3, 4] rfl (by decide +kernel)) ggX12_isBuyer_X12_within
set_option maxRecDepth 20000 in
theorem ggX12_shown_X12_everyKind : GoodIn wsX12_shown wsX12_everyKind := goodIn_r _ [6, 1, 7, 8, 9, 10, 11, 12, 13, 14, 15, 16, 17, 18, 19, 20, 21, 22, 23, 24, 25, 26, 27, 28, 29, 30, 31, 32, 33, 34, 35, 36, 37, 38] rfl (by decide +kernel)
set_option maxRecDepth 20000 in
theorem gX12_shown_X12_everyKind : GoodIn wsX12_shown (wsV RX12 204 RX12 yX12_everyKind wsX12_everyKind) := goodIn_app (goodIn_r _ [2, 3, 4, 5] rfl (by decide +kernel)) ggX12_shown_X12_everyKind
set_option maxRecDepth 20000 in
theorem ggX12_isShutBy_X12_shown : GoodIn wsX12_isShutBy wsX12_shown := goodIn_r _ [5, 6, 7, 8, 9, 4, 10, 11, 12, 13, 14, 15, 16, 17, 18, 19, 20, 21, 22, 23, 24, 25, 26, 27, 28, 29, 30, 31, 32, 33, 34, 35, 36, 37, 38, 39, 40, 41, 42] rfl (by decide +kernel)
set_option maxRecDepth 20000 in
theorem gX12_isShutBy_X12_shown : GoodIn wsX12_isShutBy (wsV RX12 207 RX12 yX12_shown wsX12_shown) := goodIn_app (goodIn_r _ [1, 2, 3, 4] rfl (by decide +kernel)) ggX12_isShutBy_X12_shown
set_option maxRecDepth 20000 in
theorem ggX12_isShut_X12_isShutBy : GoodIn wsX12_isShut wsX12_isShutBy := goodIn_r _ [6, 7, 8, 9, 5, 10, 1, 11, 12, 13, 14, 15, 16, 17, 18, 19, 20, 21, 22, 23, 24, 25, 26, 27, 28, 29, 30, 31, 32, 33, 34, 35, 36, 37, 38, 39, 40, 41, 42, 43, 44, 45, 46] rfl (by decide +kernel)
set_option maxRecDepth 20000 in
theorem gX12_isShut_X12_isShutBy : GoodIn wsX12_isShut (wsV RX12 210 RX12 yX12_isShutBy wsX12_isShutBy) := goodIn_app (goodIn_r _ [2, 3, 4, 5] rfl (by decide +kernel)) ggX12_isShut_X12_isShutBy
set_option maxRecDepth 20000 in
theorem ggX12_reckons_X12_bitsOf : GoodIn wsX12_reckons wsX12_bitsOf := goodIn_r _ [7] rfl (by decide +kernel)
set_option maxRecDepth 20000 in
theorem gX12_reckons_X12_bitsOf : GoodIn wsX12_reckons (va_wsS RX12 217 yX12_bitsOf wsX12_bitsOf) := goodIn_app (goodIn_r _ [4, 5, 6] rfl (by decide +kernel)) ggX12_reckons_X12_bitsOf
set_option maxRecDepth 20000 in
theorem ggX12_reckons_X12_between : GoodIn wsX12_reckons wsX12_between := goodIn_r _ [10, 11, 12] rfl (by decide +kernel)
set_option maxRecDepth 20000 in
theorem gX12_reckons_X12_between : GoodIn wsX12_reckons (va_wsS RX12 220 yX12_between wsX12_between) := goodIn_app (goodIn_r _ [8, 9, 6] rfl (by decide +kernel)) ggX12_reckons_X12_between
set_option maxRecDepth 20000 in
theorem ggX12_wantsOf_X12_reckons : GoodIn wsX12_wantsOf wsX12_reckons := goodIn_r _ [6, 7, 1, 8, 9, 10, 5, 11, 12, 13, 14, 15, 16, 17, 18, 19, 20, 21, 22, 23, 24, 25, 26, 27, 28, 29, 30, 31, 32, 33, 34, 35, 36, 37, 38, 39, 40, 41, 42, 43, 44, 45, 46, 47, 48] rfl (by decide +kernel)
set_option maxRecDepth 20000 in
theorem gX12_wantsOf_X12_reckons : GoodIn wsX12_wantsOf (wsV RX12 224 RX12 yX12_reckons wsX12_reckons) := goodIn_app (goodIn_r _ [2, 3, 4, 5] rfl (by decide +kernel)) ggX12_wantsOf_X12_reckons
set_option maxRecDepth 20000 in
theorem ggX12_mayBuy_X12_isIn : GoodIn wsX12_mayBuy wsX12_isIn := goodIn_r _ [5] rfl (by decide +kernel)
set_option maxRecDepth 20000 in
theorem gX12_mayBuy_X12_isIn : GoodIn wsX12_mayBuy (va_wsS RX12 228 yX12_isIn wsX12_isIn) := goodIn_app (goodIn_r _ [2, 3, 4] rfl (by decide +kernel)) ggX12_mayBuy_X12_isIn
set_option maxRecDepth 20000 in
theorem ggX12_mayBuy_X12_reckons : GoodIn wsX12_mayBuy wsX12_reckons := goodIn_r _ [9, 10, 1, 11, 12, 13, 4, 14, 15, 16, 17, 18, 19, 20, 21, 22, 23, 24, 25, 26, 27, 28, 29, 30, 31, 32, 33, 34, 35, 36, 37, 38, 39, 40, 41, 42, 43, 44, 45, 46, 47, 48, 49, 50, 51] rfl (by decide +kernel)
set_option maxRecDepth 20000 in
theorem gX12_mayBuy_X12_reckons : GoodIn wsX12_mayBuy (wsV RX12 224 RX12 yX12_reckons wsX12_reckons) := goodIn_app (goodIn_r _ [6, 7, 8, 4] rfl (by decide +kernel)) ggX12_mayBuy_X12_reckons
set_option maxRecDepth 20000 in
theorem ggX12_buysOf_X12_isShutBy : GoodIn wsX12_buysOf wsX12_isShutBy := goodIn_r _ [6, 7, 8, 9, 5, 10, 1, 11, 12, 13, 14, 40, 41, 42, 43, 44, 45, 46, 47, 48, 49, 50, 51, 52, 53, 54, 55, 56, 57, 58, 59, 60, 61, 62, 63, 64, 65, 66, 67, 68, 69, 70, 71] rfl (by decide +kernel)
set_option maxRecDepth 20000 in
theorem gX12_buysOf_X12_isShutBy : GoodIn wsX12_buysOf (wsV RX12 210 RX12 yX12_isShutBy wsX12_isShutBy) := goodIn_app (goodIn_r _ [2, 3, 4, 5] rfl (by decide +kernel)) ggX12_buysOf_X12_isShutBy
set_option maxRecDepth 20000 in
theorem ggX12_buysOf_X12_mayBuy : GoodIn wsX12_buysOf wsX12_mayBuy := goodIn_r _ [18, 1, 19, 20, 5, 21, 22, 23, 24, 25, 26, 27, 28, 29, 30, 31, 32, 33, 34, 35, 40, 41, 42, 43, 44, 45, 46, 47, 48, 49, 50, 51, 52, 53, 54, 55, 56, 57, 58, 59, 60, 61, 62, 63, 64, 65, 66, 67, 68, 69, 70, 71] rfl (by decide +kernel)
set_option maxRecDepth 20000 in
theorem gX12_buysOf_X12_mayBuy : GoodIn wsX12_buysOf (wsV RX12 232 RX12 yX12_mayBuy wsX12_mayBuy) := goodIn_app (goodIn_r _ [15, 16, 17, 5] rfl (by decide +kernel)) ggX12_buysOf_X12_mayBuy
set_option maxRecDepth 20000 in
theorem ggX12_buysOf_X12_wantsOf : GoodIn wsX12_buysOf wsX12_wantsOf := goodIn_r _ [39, 1, 22, 23, 24, 5, 25, 26, 27, 28, 29, 30, 31, 32, 33, 34, 35, 40, 41, 42, 43, 44, 45, 46, 47, 48, 49, 50, 51, 52, 53, 54, 55, 56, 57, 58, 59, 60, 61, 62, 63, 64, 65, 66, 67, 68, 69, 70, 71] rfl (by decide +kernel)
set_option maxRecDepth 20000 in
theorem gX12_buysOf_X12_wantsOf : GoodIn wsX12_buysOf (wsV RX12 236 RX12 yX12_wantsOf wsX12_wantsOf) := goodIn_app (goodIn_r _ [36, 37, 38, 5] rfl (by decide +kernel)) ggX12_buysOf_X12_wantsOf
set_option maxRecDepth 20000 in
theorem ggX12_buysNow_X12_buysOf : GoodIn wsX12_buysNow wsX12_buysOf := goodIn_r _ [6, 1, 7, 8, 9, 5, 10, 11, 12, 13, 14, 15, 16, 17, 18, 19, 20, 21, 22, 23, 24, 25, 26, 27, 28, 29, 30, 31, 32, 33, 34, 35, 36, 37, 38, 39, 40, 41, 42, 43, 44, 45, 46, 47, 48, 49, 50, 51, 52, 53, 54, 55, 56, 57, 58, 59, 60, 61, 62, 63, 64, 65, 66, 67, 68, 69, 70, 71, 72, 73, 74, 75] rfl (by decide +kernel)
set_option maxRecDepth 20000 in
theorem gX12_buysNow_X12_buysOf : GoodIn wsX12_buysNow (wsV RX12 239 RX12 yX12_buysOf wsX12_buysOf) := goodIn_app (goodIn_r _ [2, 3, 4, 5] rfl (by decide +kernel)) ggX12_buysNow_X12_buysOf
set_option maxRecDepth 20000 in
theorem ggX12_mayNow_X12_mayBuy : GoodIn wsX12_mayNow wsX12_mayBuy := goodIn_r _ [6, 1, 7, 8, 5, 9, 10, 11, 12, 13, 14, 15, 16, 17, 18, 19, 20, 21, 22, 23, 24, 25, 26, 27, 28, 29, 30, 31, 32, 33, 34, 35, 36, 37, 38, 39, 40, 41, 42, 43, 44, 45, 46, 47, 48, 49, 50, 51, 52, 53, 54, 55] rfl (by decide +kernel)
set_option maxRecDepth 20000 in
theorem gX12_mayNow_X12_mayBuy : GoodIn wsX12_mayNow (wsV RX12 232 RX12 yX12_mayBuy wsX12_mayBuy) := goodIn_app (goodIn_r _ [2, 3, 4, 5] rfl (by decide +kernel)) ggX12_mayNow_X12_mayBuy
set_option maxRecDepth 20000 in
theorem ggX12_whoBuys_X12_buysNow : GoodIn wsX12_whoBuys wsX12_buysNow := goodIn_r _ [6, 1, 7, 8, 9, 5, 10, 11, 12, 13, 14, 15, 16, 17, 18, 19, 20, 21, 22, 23, 24, 25, 26, 27, 28, 29, 30, 31, 32, 33, 34, 35, 36, 37, 38, 39, 40, 41, 42, 43, 44, 45, 46, 47, 48, 49, 50, 51, 52, 53, 54, 55, 56, 57, 58, 59, 60, 61, 62, 63, 64, 65, 66, 67, 68, 69, 70, 71, 72, 73, 74, 75, 76, 77, 78, 79] rfl (by decide +kernel)
set_option maxRecDepth 20000 in
theorem gX12_whoBuys_X12_buysNow : GoodIn wsX12_whoBuys (wsV RX12 242 RX12 yX12_buysNow wsX12_buysNow) := goodIn_app (goodIn_r _ [2, 3, 4, 5] rfl (by decide +kernel)) ggX12_whoBuys_X12_buysNow
set_option maxRecDepth 20000 in
theorem ggX12_kind_X12_isKind : GoodIn wsX12_kind wsX12_isKind := goodIn_r _ [7, 2, 8, 9, 6, 10, 60, 61, 62, 63, 64, 65, 66, 67, 68, 69, 70, 71, 72, 73, 74, 75, 76, 77, 78, 79, 80, 81, 82, 83, 84, 85, 86, 87, 88, 89, 90, 91] rfl (by decide +kernel)
set_option maxRecDepth 20000 in
theorem gX12_kind_X12_isKind : GoodIn wsX12_kind (wsV RX12 245 RX12 yX12_isKind wsX12_isKind) := goodIn_app (goodIn_r _ [3, 4, 5, 6] rfl (by decide +kernel)) ggX12_kind_X12_isKind
set_option maxRecDepth 20000 in
theorem ggX12_kind_X12_whoBuys : GoodIn wsX12_kind wsX12_whoBuys := goodIn_r _ [14, 2, 15, 16, 17, 6, 18, 19, 20, 21, 22, 23, 24, 25, 26, 27, 28, 29, 30, 31, 32, 33, 34, 35, 36, 37, 38, 39, 40, 41, 42, 43, 44, 45, 46, 47, 48, 49, 50, 51, 52, 53, 54, 55, 56, 57, 58, 59, 60, 61, 62, 63, 64, 65, 66, 67, 68, 69, 70, 71, 72, 73, 74, 75, 76, 77, 78, 79, 80, 81, 82, 83, 84, 85, 86, 87, 88, 89, 90, 91] rfl (by decide +kernel)
set_option maxRecDepth 20000 in
theorem gX12_kind_X12_whoBuys : GoodIn wsX12_kind (wsV RX12 249 RX12 yX12_whoBuys wsX12_whoBuys) := goodIn_app (goodIn_r _ [11, 12, 13, 6] rfl (by decide +kernel)) ggX12_kind_X12_whoBuys
set_option maxRecDepth 20000 in
theorem ggX12_buyer_X12_isBuyer : GoodIn wsX12_buyer wsX12_isBuyer := goodIn_r _ [7, 2, 8, 9, 6, 10, 60, 61, 62, 63, 64, 65, 66, 67, 68, 69, 70, 71, 72, 73, 74, 75, 76, 77, 78, 79, 80, 81, 82, 83, 84, 85, 86, 87, 88, 89, 90, 91] rfl (by decide +kernel)
set_option maxRecDepth 20000 in
theorem gX12_buyer_X12_isBuyer : GoodIn wsX12_buyer (wsV RX12 252 RX12 yX12_isBuyer wsX12_isBuyer) := goodIn_app (goodIn_r _ [3, 4, 5, 6] rfl (by decide +kernel)) ggX12_buyer_X12_isBuyer
set_option maxRecDepth 20000 in
theorem ggX12_buyer_X12_mayNow : GoodIn wsX12_buyer wsX12_mayNow := goodIn_r _ [14, 2, 15, 16, 17, 6, 18, 19, 20, 21, 22, 23, 24, 25, 26, 27, 28, 29, 30, 31, 32, 33, 34, 35, 60, 61, 62, 63, 64, 65, 66, 67, 68, 69, 70, 71, 72, 73, 74, 75, 76, 77, 78, 79, 80, 81, 82, 83, 84, 85, 86, 87, 88, 89, 90, 91] rfl (by decide +kernel)
set_option maxRecDepth 20000 in
theorem gX12_buyer_X12_mayNow : GoodIn wsX12_buyer (wsV RX12 255 RX12 yX12_mayNow wsX12_mayNow) := goodIn_app (goodIn_r _ [11, 12, 13, 6] rfl (by decide +kernel)) ggX12_buyer_X12_mayNow
set_option maxRecDepth 20000 in
theorem ggX12_buyer_X12_buysNow : GoodIn wsX12_buyer wsX12_buysNow := goodIn_r _ [39, 2, 40, 41, 42, 6, 43, 44, 45, 46, 47, 48, 49, 50, 51, 52, 53, 54, 55, 15, 16, 17, 18, 19, 20, 21, 22, 23, 24, 25, 26, 27, 28, 29, 30, 31, 32, 33, 34, 35, 56, 57, 58, 59, 60, 61, 62, 63, 64, 65, 66, 67, 68, 69, 70, 71, 72, 73, 74, 75, 76, 77, 78, 79, 80, 81, 82, 83, 84, 85, 86, 87, 88, 89, 90, 91] rfl (by decide +kernel)
set_option maxRecDepth 20000 in
theorem gX12_buyer_X12_buysNow : GoodIn wsX12_buyer (wsV RX12 242 RX12 yX12_buysNow wsX12_buysNow) := goodIn_app (goodIn_r _ [36, 37, 38, 6] rfl (by decide +kernel)) ggX12_buyer_X12_buysNow
set_option maxRecDepth 20000 in
theorem ggX12_wants_X12_isBuyer : GoodIn wsX12_wants wsX12_isBuyer := goodIn_r _ [8, 2, 9, 10, 7, 11, 34, 35, 36, 37, 38, 39, 40, 41, 42, 43, 44, 45, 46, 47, 48, 49, 50, 51, 52, 53, 54, 55, 56, 57, 58, 59, 60, 61, 62, 63, 64, 65] rfl (by decide +kernel)
set_option maxRecDepth 20000 in
theorem gX12_wants_X12_isBuyer : GoodIn wsX12_wants (wsV RX12 252 RX12 yX12_isBuyer wsX12_isBuyer) := goodIn_app (goodIn_r _ [4, 5, 6, 7] rfl (by decide +kernel)) ggX12_wants_X12_isBuyer
set_option maxRecDepth 20000 in
theorem ggX12_wants_X12_isKind : GoodIn wsX12_wants wsX12_isKind := goodIn_r _ [15, 2, 9, 10, 7, 11, 34, 35, 36, 37, 38, 39, 40, 41, 42, 43, 44, 45, 46, 47, 48, 49, 50, 51, 52, 53, 54, 55, 56, 57, 58, 59, 60, 61, 62, 63, 64, 65] rfl (by decide +kernel)
set_option maxRecDepth 20000 in
theorem gX12_wants_X12_isKind : GoodIn wsX12_wants (wsV RX12 245 RX12 yX12_isKind wsX12_isKind) := goodIn_app (goodIn_r _ [12, 13, 14, 7] rfl (by decide +kernel)) ggX12_wants_X12_isKind
set_option maxRecDepth 20000 in
theorem ggX12_wants_X12_wantsOf : GoodIn wsX12_wants wsX12_wantsOf := goodIn_r _ [19, 2, 20, 21, 22, 7, 23, 24, 25, 26, 27, 28, 29, 30, 31, 32, 33, 34, 35, 36, 37, 38, 39, 40, 41, 42, 43, 44, 45, 46, 47, 48, 49, 50, 51, 52, 53, 54, 55, 56, 57, 58, 59, 60, 61, 62, 63, 64, 65] rfl (by decide +kernel)
set_option maxRecDepth 20000 in
theorem gX12_wants_X12_wantsOf : GoodIn wsX12_wants (wsV RX12 236 RX12 yX12_wantsOf wsX12_wantsOf) := goodIn_app (goodIn_r _ [16, 17, 18, 7] rfl (by decide +kernel)) ggX12_wants_X12_wantsOf
set_option maxRecDepth 20000 in
theorem ggX12_whyVisit_X12_isBuyer : GoodIn wsX12_whyVisit wsX12_isBuyer := goodIn_r _ [5, 6, 7, 8, 4, 9, 59, 60, 61, 62, 63, 64, 65, 66, 67, 68, 69, 70, 71, 72, 73, 74, 75, 76, 77, 78, 79, 80, 81, 82, 83, 84, 85, 86, 87, 88, 89, 90] rfl (by decide +kernel)
set_option maxRecDepth 20000 in
theorem gX12_whyVisit_X12_isBuyer : GoodIn wsX12_whyVisit (wsV RX12 252 RX12 yX12_isBuyer wsX12_isBuyer) := goodIn_app (goodIn_r _ [1, 2, 3, 4] rfl (by decide +kernel)) ggX12_whyVisit_X12_isBuyer
set_option maxRecDepth 20000 in
theorem ggX12_whyVisit_X12_isShut : GoodIn wsX12_whyVisit wsX12_isShut := goodIn_r _ [13, 6, 14, 15, 16, 4, 17, 18, 19, 20, 21, 22, 23, 24, 25, 59, 60, 61, 62, 63, 64, 65, 66, 67, 68, 69, 70, 71, 72, 73, 74, 75, 76, 77, 78, 79, 80, 81, 82, 83, 84, 85, 86, 87, 88, 89, 90] rfl (by decide +kernel)
set_option maxRecDepth 20000 in
theorem gX12_whyVisit_X12_isShut : GoodIn wsX12_whyVisit (wsV RX12 259 RX12 yX12_isShut wsX12_isShut) := goodIn_app (goodIn_r _ [10, 11, 12, 4] rfl (by decide +kernel)) ggX12_whyVisit_X12_isShut
set_option maxRecDepth 20000 in
theorem ggX12_whyVisit_X12_buysNow : GoodIn wsX12_whyVisit wsX12_buysNow := goodIn_r _ [29, 6, 30, 31, 32, 4, 33, 14, 15, 16, 17, 18, 19, 20, 21, 22, 23, 24, 25, 34, 35, 36, 37, 38, 39, 40, 41, 42, 43, 44, 45, 46, 47, 48, 49, 50, 51, 52, 53, 54, 55, 56, 57, 58, 59, 60, 61, 62, 63, 64, 65, 66, 67, 68, 69, 70, 71, 72, 73, 74, 75, 76, 77, 78, 79, 80, 81, 82, 83, 84, 85, 86, 87, 88, 89, 90] rfl (by decide +kernel)
set_option maxRecDepth 20000 in
theorem gX12_whyVisit_X12_buysNow : GoodIn wsX12_whyVisit (wsV RX12 242 RX12 yX12_buysNow wsX12_buysNow) := goodIn_app (goodIn_r _ [26, 27, 28, 4] rfl (by decide +kernel)) ggX12_whyVisit_X12_buysNow
set_option maxRecDepth 20000 in
theorem ggX12_whyKind_X12_isKind : GoodIn wsX12_whyKind wsX12_isKind := goodIn_r _ [5, 6, 7, 8, 4, 9, 26, 27, 28, 29, 30, 31, 32, 33, 34, 35, 36, 37, 38, 39, 40, 41, 42, 43, 44, 45, 46, 47, 48, 49, 50, 51, 52, 53, 54, 55, 56, 57] rfl (by decide +kernel)
set_option maxRecDepth 20000 in
theorem gX12_whyKind_X12_isKind : GoodIn wsX12_whyKind (wsV RX12 245 RX12 yX12_isKind wsX12_isKind) := goodIn_app (goodIn_r _ [1, 2, 3, 4] rfl (by decide +kernel)) ggX12_whyKind_X12_isKind
set_option maxRecDepth 20000 in
theorem ggX12_whyKind_X12_isShut : GoodIn wsX12_whyKind wsX12_isShut := goodIn_r _ [13, 6, 14, 15, 16, 4, 17, 18, 19, 20, 21, 22, 23, 24, 25, 26, 27, 28, 29, 30, 31, 32, 33, 34, 35, 36, 37, 38, 39, 40, 41, 42, 43, 44, 45, 46, 47, 48, 49, 50, 51, 52, 53, 54, 55, 56, 57] rfl (by decide +kernel)
set_option maxRecDepth 20000 in
theorem gX12_whyKind_X12_isShut : GoodIn wsX12_whyKind (wsV RX12 259 RX12 yX12_isShut wsX12_isShut) := goodIn_app (goodIn_r _ [10, 11, 12, 4] rfl (by decide +kernel)) ggX12_whyKind_X12_isShut
set_option maxRecDepth 20000 in
theorem ggX12_isPrice_X12_within : GoodIn wsX12_isPrice wsX12_within := goodIn_r _ [5] rfl (by decide +kernel)
set_option maxRecDepth 20000 in
theorem gX12_isPrice_X12_within : GoodIn wsX12_isPrice (va_wsS RX12 142 yX12_within wsX12_within) := goodIn_app (goodIn_r _ [2, 3, 4] rfl (by decide +kernel)) ggX12_isPrice_X12_within
set_option maxRecDepth 20000 in
theorem ggX12_whyPrice_X12_isKind : GoodIn wsX12_whyPrice wsX12_isKind := goodIn_r _ [5, 6, 7, 8, 4, 9, 30, 31, 32, 33, 34, 35, 36, 37, 38, 39, 40, 41, 42, 43, 44, 45, 46, 47, 48, 49, 50, 51, 52, 53, 54, 55, 56, 57, 58, 59, 60, 61] rfl (by decide +kernel)
set_option maxRecDepth 20000 in
theorem gX12_whyPrice_X12_isKind : GoodIn wsX12_whyPrice (wsV RX12 245 RX12 yX12_isKind wsX12_isKind) := goodIn_app (goodIn_r _ [1, 2, 3, 4] rfl (by decide +kernel)) ggX12_whyPrice_X12_isKind
set_option maxRecDepth 20000 in
theorem ggX12_whyPrice_X12_isPrice : GoodIn wsX12_whyPrice wsX12_isPrice := goodIn_r _ [12, 13, 7, 8, 4, 9] rfl (by decide +kernel)
set_option maxRecDepth 20000 in
theorem gX12_whyPrice_X12_isPrice : GoodIn wsX12_whyPrice (va_wsS RX12 265 yX12_isPrice wsX12_isPrice) := goodIn_app (goodIn_r _ [10, 11, 4] rfl (by decide +kernel)) ggX12_whyPrice_X12_isPrice
set_option maxRecDepth 20000 in
theorem ggX12_whyPrice_X12_isShut : GoodIn wsX12_whyPrice wsX12_isShut := goodIn_r _ [17, 6, 18, 19, 20, 4, 21, 22, 23, 24, 25, 26, 27, 28, 29, 30, 31, 32, 33, 34, 35, 36, 37, 38, 39, 40, 41, 42, 43, 44, 45, 46, 47, 48, 49, 50, 51, 52, 53, 54, 55, 56, 57, 58, 59, 60, 61] rfl (by decide +kernel)
set_option maxRecDepth 20000 in
theorem gX12_whyPrice_X12_isShut : GoodIn wsX12_whyPrice (wsV RX12 259 RX12 yX12_isShut wsX12_isShut) := goodIn_app (goodIn_r _ [14, 15, 16, 4] rfl (by decide +kernel)) ggX12_whyPrice_X12_isShut
set_option maxRecDepth 20000 in
theorem ggX12_visits_X12_buysNow : GoodIn wsX12_visits wsX12_buysNow := goodIn_r _ [6, 1, 7, 8, 9, 5, 10, 11, 12, 13, 14, 15, 16, 17, 18, 19, 20, 21, 22, 23, 24, 25, 26, 27, 28, 29, 30, 31, 32, 33, 34, 35, 36, 37, 38, 39, 40, 41, 42, 43, 44, 45, 46, 47, 48, 49, 50, 51, 52, 53, 54, 55, 56, 57, 58, 59, 60, 61, 62, 63, 64, 65, 66, 67, 68, 69, 70, 71, 72, 73, 74, 75, 76, 77, 78, 79] rfl (by decide +kernel)
set_option maxRecDepth 20000 in
theorem gX12_visits_X12_buysNow : GoodIn wsX12_visits (wsV RX12 242 RX12 yX12_buysNow wsX12_buysNow) := goodIn_app (goodIn_r _ [2, 3, 4, 5] rfl (by decide +kernel)) ggX12_visits_X12_buysNow
set_option maxRecDepth 20000 in
theorem ggX12_goesDay_X12_oddsAll : GoodIn wsX12_goesDay wsX12_oddsAll := goodIn_r _ [6, 1, 76, 77, 78, 79, 80, 81, 82, 83, 84, 85, 86, 87, 88, 89, 90, 91, 92, 93, 94, 95, 96, 97, 98, 99, 100, 101, 102, 103, 104, 105, 106, 107] rfl (by decide +kernel)
set_option maxRecDepth 20000 in
theorem gX12_goesDay_X12_oddsAll : GoodIn wsX12_goesDay (wsV RX12 269 RX12 yX12_oddsAll wsX12_oddsAll) := goodIn_app (goodIn_r _ [2, 3, 4, 5] rfl (by decide +kernel)) ggX12_goesDay_X12_oddsAll
set_option maxRecDepth 20000 in
theorem ggX12_goesDay_X12_draw : GoodIn wsX12_goesDay wsX12_draw := goodIn_r _ [10, 1, 11, 76, 77, 78, 79, 80, 81, 82, 83, 84, 85, 86, 87, 88, 89, 90, 91, 92, 93, 94, 95, 96, 97, 98, 99, 100, 101, 102, 103, 104, 105, 106, 107] rfl (by decide +kernel)
set_option maxRecDepth 20000 in
theorem gX12_goesDay_X12_draw : GoodIn wsX12_goesDay (wsV RX12 272 RX12 yX12_draw wsX12_draw) := goodIn_app (goodIn_r _ [7, 8, 9, 5] rfl (by decide +kernel)) ggX12_goesDay_X12_draw
set_option maxRecDepth 20000 in
theorem ggX12_goesDay_X12_whyVisit : GoodIn wsX12_goesDay wsX12_whyVisit := goodIn_r _ [15, 16, 17, 18, 5, 19, 1, 20, 21, 22, 23, 24, 25, 26, 27, 28, 29, 30, 31, 32, 33, 34, 35, 36, 37, 38, 39, 40, 41, 42, 43, 44, 45, 46, 47, 48, 49, 50, 51, 52, 53, 54, 55, 56, 57, 58, 59, 60, 61, 62, 63, 64, 65, 66, 67, 68, 69, 70, 71, 76, 77, 78, 79, 80, 81, 82, 83, 84, 85, 86, 87, 88, 89, 90, 91, 92, 93, 94, 95, 96, 97, 98, 99, 100, 101, 102, 103, 104, 105, 106, 107] rfl (by decide +kernel)
set_option maxRecDepth 20000 in
theorem gX12_goesDay_X12_whyVisit : GoodIn wsX12_goesDay (wsV RX12 275 RX12 yX12_whyVisit wsX12_whyVisit) := goodIn_app (goodIn_r _ [12, 13, 14, 5] rfl (by decide +kernel)) ggX12_goesDay_X12_whyVisit
set_option maxRecDepth 20000 in
theorem ggX12_goesDay_X12_visits : GoodIn wsX12_goesDay wsX12_visits := goodIn_r _ [75, 1, 39, 40, 41, 5, 42, 43, 44, 45, 46, 27, 28, 29, 30, 31, 32, 33, 34, 35, 36, 37, 38, 47, 48, 49, 50, 51, 52, 53, 54, 55, 56, 57, 58, 59, 60, 61, 62, 63, 64, 65, 66, 67, 68, 69, 70, 71, 76, 77, 78, 79, 80, 81, 82, 83, 84, 85, 86, 87, 88, 89, 90, 91, 92, 93, 94, 95, 96, 97, 98, 99, 100, 101, 102, 103, 104, 105, 106, 107] rfl (by decide +kernel)
set_option maxRecDepth 20000 in
theorem gX12_goesDay_X12_visits : GoodIn wsX12_goesDay (wsV RX12 279 RX12 yX12_visits wsX12_visits) := goodIn_app (goodIn_r _ [72, 73, 74, 5] rfl (by decide +kernel)) ggX12_goesDay_X12_visits
set_option maxRecDepth 20000 in
theorem ggX12_seed_X12_keeps : GoodIn wsX12_seed wsX12_keeps := goodIn_r _ [8, 3, 2, 13, 14, 15, 16, 17, 18, 19, 20, 21, 22, 23, 24, 25, 26, 27, 28, 29, 30, 31, 32, 33, 34, 35, 36, 37, 38, 39, 40, 41, 42, 43, 44] rfl (by decide +kernel)
set_option maxRecDepth 20000 in
theorem gX12_seed_X12_keeps : GoodIn wsX12_seed (wsV RX12 282 RX12 yX12_keeps wsX12_keeps) := goodIn_app (goodIn_r _ [4, 5, 6, 7] rfl (by decide +kernel)) ggX12_seed_X12_keeps
set_option maxRecDepth 20000 in
theorem ggX12_seed_X12_notes : GoodIn wsX12_seed wsX12_notes := goodIn_r _ [12, 2, 3, 13, 14, 15, 16, 17, 18, 19, 20, 21, 22, 23, 24, 25, 26, 27, 28, 29, 30, 31, 32, 33, 34, 35, 36, 37, 38, 39, 40, 41, 42, 43, 44] rfl (by decide +kernel)
set_option maxRecDepth 20000 in
theorem gX12_seed_X12_notes : GoodIn wsX12_seed (wsV RX12 285 RX12 yX12_notes wsX12_notes) := goodIn_app (goodIn_r _ [9, 10, 11, 7] rfl (by decide +kernel)) ggX12_seed_X12_notes
set_option maxRecDepth 20000 in
theorem ggX12_visit_X12_whyVisit : GoodIn wsX12_visit wsX12_whyVisit := goodIn_r _ [6, 7, 8, 9, 5, 10, 11, 12, 13, 14, 15, 16, 17, 18, 19, 20, 21, 22, 23, 24, 25, 26, 27, 28, 29, 30, 31, 32, 33, 34, 35, 36, 37, 38, 39, 40, 41, 42, 43, 44, 45, 46, 47, 48, 49, 50, 51, 52, 53, 54, 55, 56, 57, 58, 59, 60, 61, 62, 63, 77, 78, 79, 80, 81, 82, 83, 84, 85, 86, 87, 88, 89, 90, 91, 92, 93, 94, 95, 96, 97, 98, 99, 100, 101, 102, 103, 104, 105, 106, 107, 108] rfl (by decide +kernel)
set_option maxRecDepth 20000 in
theorem gX12_visit_X12_whyVisit : GoodIn wsX12_visit (wsV RX12 275 RX12 yX12_whyVisit wsX12_whyVisit) := goodIn_app (goodIn_r _ [2, 3, 4, 5] rfl (by decide +kernel)) ggX12_visit_X12_whyVisit
set_option maxRecDepth 20000 in
theorem ggX12_visit_X12_keeps : GoodIn wsX12_visit wsX12_keeps := goodIn_r _ [67, 68, 11, 77, 78, 79, 80, 81, 82, 83, 84, 85, 86, 87, 88, 89, 90, 91, 92, 93, 94, 95, 96, 97, 98, 99, 100, 101, 102, 103, 104, 105, 106, 107, 108] rfl (by decide +kernel)
set_option maxRecDepth 20000 in
theorem gX12_visit_X12_keeps : GoodIn wsX12_visit (wsV RX12 282 RX12 yX12_keeps wsX12_keeps) := goodIn_app (goodIn_r _ [64, 65, 66, 5] rfl (by decide +kernel)) ggX12_visit_X12_keeps
set_option maxRecDepth 20000 in
theorem ggX12_visit_X12_visits : GoodIn wsX12_visit wsX12_visits := goodIn_r _ [72, 11, 31, 32, 33, 5, 34, 35, 36, 37, 38, 19, 20, 21, 22, 23, 24, 25, 26, 27, 28, 29, 30, 39, 40, 41, 42, 43, 44, 45, 46, 47, 48, 49, 50, 51, 52, 53, 54, 55, 56, 57, 58, 59, 60, 61, 62, 63, 77, 78, 79, 80, 81, 82, 83, 84, 85, 86, 87, 88, 89, 90, 91, 92, 93, 94, 95, 96, 97, 98, 99, 100, 101, 102, 103, 104, 105, 106, 107, 108] rfl (by decide +kernel)
set_option maxRecDepth 20000 in
theorem gX12_visit_X12_visits : GoodIn wsX12_visit (wsV RX12 279 RX12 yX12_visits wsX12_visits) := goodIn_app (goodIn_r _ [69, 70, 71, 5] rfl (by decide +kernel)) ggX12_visit_X12_visits
set_option maxRecDepth 20000 in
theorem ggX12_visit_X12_notes : GoodIn wsX12_visit wsX12_notes := goodIn_r _ [76, 11, 68, 77, 78, 79, 80, 81, 82, 83, 84, 85, 86, 87, 88, 89, 90, 91, 92, 93, 94, 95, 96, 97, 98, 99, 100, 101, 102, 103, 104, 105, 106, 107, 108] rfl (by decide +kernel)
set_option maxRecDepth 20000 in
theorem gX12_visit_X12_notes : GoodIn wsX12_visit (wsV RX12 285 RX12 yX12_notes wsX12_notes) := goodIn_app (goodIn_r _ [73, 74, 75, 5] rfl (by decide +kernel)) ggX12_visit_X12_notes
set_option maxRecDepth 20000 in
theorem ggX12_gift_X12_whyKind : GoodIn wsX12_gift wsX12_whyKind := goodIn_r _ [7, 8, 9, 10, 6, 11, 2, 12, 13, 14, 15, 16, 17, 18, 19, 20, 21, 22, 23, 24, 25, 26, 27, 28, 29, 30, 40, 41, 42, 43, 44, 45, 46, 47, 48, 49, 50, 51, 52, 53, 54, 55, 56, 57, 58, 59, 60, 61, 62, 63, 64, 65, 66, 67, 68, 69, 70, 71] rfl (by decide +kernel)
set_option maxRecDepth 20000 in
theorem gX12_gift_X12_whyKind : GoodIn wsX12_gift (wsV RX12 288 RX12 yX12_whyKind wsX12_whyKind) := goodIn_app (goodIn_r _ [3, 4, 5, 6] rfl (by decide +kernel)) ggX12_gift_X12_whyKind
set_option maxRecDepth 20000 in
theorem ggX12_gift_X12_keeps : GoodIn wsX12_gift wsX12_keeps := goodIn_r _ [34, 35, 2, 40, 41, 42, 43, 44, 45, 46, 47, 48, 49, 50, 51, 52, 53, 54, 55, 56, 57, 58, 59, 60, 61, 62, 63, 64, 65, 66, 67, 68, 69, 70, 71] rfl (by decide +kernel)
set_option maxRecDepth 20000 in
theorem gX12_gift_X12_keeps : GoodIn wsX12_gift (wsV RX12 282 RX12 yX12_keeps wsX12_keeps) := goodIn_app (goodIn_r _ [31, 32, 33, 6] rfl (by decide +kernel)) ggX12_gift_X12_keeps
set_option maxRecDepth 20000 in
theorem ggX12_gift_X12_notes : GoodIn wsX12_gift wsX12_notes := goodIn_r _ [39, 2, 35, 40, 41, 42, 43, 44, 45, 46, 47, 48, 49, 50, 51, 52, 53, 54, 55, 56, 57, 58, 59, 60, 61, 62, 63, 64, 65, 66, 67, 68, 69, 70, 71] rfl (by decide +kernel)
set_option maxRecDepth 20000 in
theorem gX12_gift_X12_notes : GoodIn wsX12_gift (wsV RX12 285 RX12 yX12_notes wsX12_notes) := goodIn_app (goodIn_r _ [36, 37, 38, 6] rfl (by decide +kernel)) ggX12_gift_X12_notes
set_option maxRecDepth 20000 in
theorem ggX12_hide_X12_whyKind : GoodIn wsX12_hide wsX12_whyKind := goodIn_r _ [7, 8, 9, 10, 6, 11, 2, 12, 13, 14, 15, 16, 17, 18, 19, 20, 21, 22, 23, 24, 25, 26, 27, 28, 29, 30, 40, 41, 42, 43, 44, 45, 46, 47, 48, 49, 50, 51, 52, 53, 54, 55, 56, 57, 58, 59, 60, 61, 62, 63, 64, 65, 66, 67, 68, 69, 70, 71] rfl (by decide +kernel)
set_option maxRecDepth 20000 in
theorem gX12_hide_X12_whyKind : GoodIn wsX12_hide (wsV RX12 288 RX12 yX12_whyKind wsX12_whyKind) := goodIn_app (goodIn_r _ [3, 4, 5, 6] rfl (by decide +kernel)) ggX12_hide_X12_whyKind
set_option maxRecDepth 20000 in
theorem ggX12_hide_X12_keeps : GoodIn wsX12_hide wsX12_keeps := goodIn_r _ [34, 35, 2, 40, 41, 42, 43, 44, 45, 46, 47, 48, 49, 50, 51, 52, 53, 54, 55, 56, 57, 58, 59, 60, 61, 62, 63, 64, 65, 66, 67, 68, 69, 70, 71] rfl (by decide +kernel)
set_option maxRecDepth 20000 in
theorem gX12_hide_X12_keeps : GoodIn wsX12_hide (wsV RX12 282 RX12 yX12_keeps wsX12_keeps) := goodIn_app (goodIn_r _ [31, 32, 33, 6] rfl (by decide +kernel)) ggX12_hide_X12_keeps
set_option maxRecDepth 20000 in
theorem ggX12_hide_X12_notes : GoodIn wsX12_hide wsX12_notes := goodIn_r _ [39, 2, 35, 40, 41, 42, 43, 44, 45, 46, 47, 48, 49, 50, 51, 52, 53, 54, 55, 56, 57, 58, 59, 60, 61, 62, 63, 64, 65, 66, 67, 68, 69, 70, 71] rfl (by decide +kernel)
set_option maxRecDepth 20000 in
theorem gX12_hide_X12_notes : GoodIn wsX12_hide (wsV RX12 285 RX12 yX12_notes wsX12_notes) := goodIn_app (goodIn_r _ [36, 37, 38, 6] rfl (by decide +kernel)) ggX12_hide_X12_notes
set_option maxRecDepth 20000 in
theorem ggX12_add_X12_isPrice : GoodIn wsX12_add wsX12_isPrice := goodIn_r _ [7, 8, 9, 10, 6, 11] rfl (by decide +kernel)
set_option maxRecDepth 20000 in
theorem gX12_add_X12_isPrice : GoodIn wsX12_add (va_wsS RX12 265 yX12_isPrice wsX12_isPrice) := goodIn_app (goodIn_r _ [4, 5, 6] rfl (by decide +kernel)) ggX12_add_X12_isPrice
set_option maxRecDepth 20000 in
theorem ggX12_add_X12_within : GoodIn wsX12_add wsX12_within := goodIn_r _ [11] rfl (by decide +kernel)
set_option maxRecDepth 20000 in
theorem gX12_add_X12_within : GoodIn wsX12_add (va_wsS RX12 142 yX12_within wsX12_within) := goodIn_app (goodIn_r _ [9, 10, 6] rfl (by decide +kernel)) ggX12_add_X12_within
set_option maxRecDepth 20000 in
theorem ggX12_add_X12_isShut : GoodIn wsX12_add wsX12_isShut := goodIn_r _ [15, 3, 16, 17, 18, 6, 19, 20, 21, 22, 23, 24, 25, 26, 27, 37, 38, 39, 40, 41, 42, 43, 44, 45, 46, 47, 48, 49, 50, 51, 52, 53, 54, 55, 56, 57, 58, 59, 60, 61, 62, 63, 64, 65, 66, 67, 68] rfl (by decide +kernel)
set_option maxRecDepth 20000 in
theorem gX12_add_X12_isShut : GoodIn wsX12_add (wsV RX12 259 RX12 yX12_isShut wsX12_isShut) := goodIn_app (goodIn_r _ [12, 13, 14, 6] rfl (by decide +kernel)) ggX12_add_X12_isShut
set_option maxRecDepth 20000 in
theorem ggX12_add_X12_keeps : GoodIn wsX12_add wsX12_keeps := goodIn_r _ [31, 32, 3, 37, 38, 39, 40, 41, 42, 43, 44, 45, 46, 47, 48, 49, 50, 51, 52, 53, 54, 55, 56, 57, 58, 59, 60, 61, 62, 63, 64, 65, 66, 67, 68] rfl (by decide +kernel)
set_option maxRecDepth 20000 in
theorem gX12_add_X12_keeps : GoodIn wsX12_add (wsV RX12 282 RX12 yX12_keeps wsX12_keeps) := goodIn_app (goodIn_r _ [28, 29, 30, 6] rfl (by decide +kernel)) ggX12_add_X12_keeps
set_option maxRecDepth 20000 in
theorem ggX12_add_X12_notes : GoodIn wsX12_add wsX12_notes := goodIn_r _ [36, 3, 32, 37, 38, 39, 40, 41, 42, 43, 44, 45, 46, 47, 48, 49, 50, 51, 52, 53, 54, 55, 56, 57, 58, 59, 60, 61, 62, 63, 64, 65, 66, 67, 68] rfl (by decide +kernel)
set_option maxRecDepth 20000 in
theorem gX12_add_X12_notes : GoodIn wsX12_add (wsV RX12 285 RX12 yX12_notes wsX12_notes) := goodIn_app (goodIn_r _ [33, 34, 35, 6] rfl (by decide +kernel)) ggX12_add_X12_notes
set_option maxRecDepth 20000 in
theorem ggX12_price_X12_whyPrice : GoodIn wsX12_price wsX12_whyPrice := goodIn_r _ [8, 9, 10, 11, 7, 12, 2, 13, 14, 15, 16, 17, 18, 19, 20, 21, 22, 23, 24, 25, 26, 27, 28, 29, 30, 31, 32, 33, 34, 35, 44, 45, 46, 47, 48, 49, 50, 51, 52, 53, 54, 55, 56, 57, 58, 59, 60, 61, 62, 63, 64, 65, 66, 67, 68, 69, 70, 71, 72, 73, 74, 75] rfl (by decide +kernel)
set_option maxRecDepth 20000 in
theorem gX12_price_X12_whyPrice : GoodIn wsX12_price (wsV RX12 293 RX12 yX12_whyPrice wsX12_whyPrice) := goodIn_app (goodIn_r _ [4, 5, 6, 7] rfl (by decide +kernel)) ggX12_price_X12_whyPrice
set_option maxRecDepth 20000 in
theorem ggX12_price_X12_keeps : GoodIn wsX12_price wsX12_keeps := goodIn_r _ [39, 3, 2, 44, 45, 46, 47, 48, 49, 50, 51, 52, 53, 54, 55, 56, 57, 58, 59, 60, 61, 62, 63, 64, 65, 66, 67, 68, 69, 70, 71, 72, 73, 74, 75] rfl (by decide +kernel)
set_option maxRecDepth 20000 in
theorem gX12_price_X12_keeps : GoodIn wsX12_price (wsV RX12 282 RX12 yX12_keeps wsX12_keeps) := goodIn_app (goodIn_r _ [36, 37, 38, 7] rfl (by decide +kernel)) ggX12_price_X12_keeps
set_option maxRecDepth 20000 in
theorem ggX12_price_X12_notes : GoodIn wsX12_price wsX12_notes := goodIn_r _ [43, 2, 3, 44, 45, 46, 47, 48, 49, 50, 51, 52, 53, 54, 55, 56, 57, 58, 59, 60, 61, 62, 63, 64, 65, 66, 67, 68, 69, 70, 71, 72, 73, 74, 75] rfl (by decide +kernel)
set_option maxRecDepth 20000 in
theorem gX12_price_X12_notes : GoodIn wsX12_price (wsV RX12 285 RX12 yX12_notes wsX12_notes) := goodIn_app (goodIn_r _ [40, 41, 42, 7] rfl (by decide +kernel)) ggX12_price_X12_notes
set_option maxRecDepth 20000 in
theorem ggX12_days_X12_within : GoodIn wsX12_days wsX12_within := goodIn_r _ [6] rfl (by decide +kernel)
set_option maxRecDepth 20000 in
theorem gX12_days_X12_within : GoodIn wsX12_days (va_wsS RX12 142 yX12_within wsX12_within) := goodIn_app (goodIn_r _ [3, 4, 5] rfl (by decide +kernel)) ggX12_days_X12_within
set_option maxRecDepth 20000 in
theorem ggX12_days_X12_keeps : GoodIn wsX12_days wsX12_keeps := goodIn_r _ [10, 11, 12, 91, 92, 93, 94, 95, 96, 97, 98, 99, 100, 101, 102, 103, 104, 105, 106, 107, 108, 109, 110, 111, 112, 113, 114, 115, 116, 117, 118, 119, 120, 121, 122] rfl (by decide +kernel)
set_option maxRecDepth 20000 in
theorem gX12_days_X12_keeps : GoodIn wsX12_days (wsV RX12 282 RX12 yX12_keeps wsX12_keeps) := goodIn_app (goodIn_r _ [7, 8, 9, 5] rfl (by decide +kernel)) ggX12_days_X12_keeps
set_option maxRecDepth 20000 in
theorem ggX12_days_X12_goesDay : GoodIn wsX12_days wsX12_goesDay := goodIn_r _ [16, 12, 17, 18, 19, 5, 20, 21, 22, 23, 24, 25, 26, 27, 28, 29, 30, 31, 32, 33, 3, 4, 6, 34, 35, 36, 37, 38, 39, 40, 41, 42, 43, 44, 45, 46, 47, 48, 49, 50, 51, 52, 53, 54, 55, 56, 57, 58, 59, 60, 61, 62, 63, 64, 65, 66, 67, 68, 69, 70, 71, 72, 73, 74, 75, 76, 77, 78, 79, 80, 81, 82, 83, 84, 85, 86, 91, 92, 93, 94, 95, 96, 97, 98, 99, 100, 101, 102, 103, 104, 105, 106, 107, 108, 109, 110, 111, 112, 113, 114, 115, 116, 117, 118, 119, 120, 121, 122] rfl (by decide +kernel)
set_option maxRecDepth 20000 in
theorem gX12_days_X12_goesDay : GoodIn wsX12_days (wsV RX12 297 RX12 yX12_goesDay wsX12_goesDay) := goodIn_app (goodIn_r _ [13, 14, 15, 5] rfl (by decide +kernel)) ggX12_days_X12_goesDay
set_option maxRecDepth 20000 in
theorem ggX12_days_X12_notes : GoodIn wsX12_days wsX12_notes := goodIn_r _ [90, 12, 11, 91, 92, 93, 94, 95, 96, 97, 98, 99, 100, 101, 102, 103, 104, 105, 106, 107, 108, 109, 110, 111, 112, 113, 114, 115, 116, 117, 118, 119, 120, 121, 122] rfl (by decide +kernel)
set_option maxRecDepth 20000 in
theorem gX12_days_X12_notes : GoodIn wsX12_days (wsV RX12 285 RX12 yX12_notes wsX12_notes) := goodIn_app (goodIn_r _ [87, 88, 89, 5] rfl (by decide +kernel)) ggX12_days_X12_notes
set_option maxRecDepth 20000 in
theorem ggX12_undo_X12_within : GoodIn wsX12_undo wsX12_within := goodIn_r _ [7] rfl (by decide +kernel)
set_option maxRecDepth 20000 in
theorem gX12_undo_X12_within : GoodIn wsX12_undo (va_wsS RX12 142 yX12_within wsX12_within) := goodIn_app (goodIn_r _ [4, 5, 6] rfl (by decide +kernel)) ggX12_undo_X12_within
set_option maxRecDepth 20000 in
theorem ggX12_whyNot_X12_within : GoodIn wsX12_whyNot wsX12_within := goodIn_r _ [12] rfl (by decide +kernel)
set_option maxRecDepth 20000 in
theorem gX12_whyNot_X12_within : GoodIn wsX12_whyNot (va_wsS RX12 142 yX12_within wsX12_within) := goodIn_app (goodIn_r _ [9, 10, 11] rfl (by decide +kernel)) ggX12_whyNot_X12_within
set_option maxRecDepth 20000 in
theorem ggX12_whyNot_X12_whyVisit : GoodIn wsX12_whyNot wsX12_whyVisit := goodIn_r _ [16, 17, 18, 19, 11, 20, 21, 9, 10, 12, 22, 23, 24, 25, 26, 27, 28, 29, 30, 31, 32, 33, 34, 35, 36, 37, 38, 39, 40, 41, 42, 43, 44, 45, 46, 47, 48, 49, 50, 51, 52, 53, 54, 55, 56, 57, 58, 59, 60, 61, 62, 63, 64, 65, 66, 67, 68, 69, 70, 87, 88, 89, 90, 91, 92, 93, 94, 95, 96, 97, 98, 99, 100, 101, 102, 103, 104, 105, 106, 107, 108, 109, 110, 111, 112, 113, 114, 115, 116, 117, 118] rfl (by decide +kernel)
set_option maxRecDepth 20000 in
theorem gX12_whyNot_X12_whyVisit : GoodIn wsX12_whyNot (wsV RX12 275 RX12 yX12_whyVisit wsX12_whyVisit) := goodIn_app (goodIn_r _ [13, 14, 15, 11] rfl (by decide +kernel)) ggX12_whyNot_X12_whyVisit
set_option maxRecDepth 20000 in
theorem ggX12_whyNot_X12_whyKind : GoodIn wsX12_whyNot wsX12_whyKind := goodIn_r _ [74, 75, 76, 77, 11, 78, 21, 9, 10, 12, 22, 23, 24, 25, 26, 27, 28, 29, 30, 31, 32, 33, 34, 35, 36, 37, 87, 88, 89, 90, 91, 92, 93, 94, 95, 96, 97, 98, 99, 100, 101, 102, 103, 104, 105, 106, 107, 108, 109, 110, 111, 112, 113, 114, 115, 116, 117, 118] rfl (by decide +kernel)
set_option maxRecDepth 20000 in
theorem gX12_whyNot_X12_whyKind : GoodIn wsX12_whyNot (wsV RX12 288 RX12 yX12_whyKind wsX12_whyKind) := goodIn_app (goodIn_r _ [71, 72, 73, 11] rfl (by decide +kernel)) ggX12_whyNot_X12_whyKind
set_option maxRecDepth 20000 in
theorem ggX12_whyNot_X12_whyPrice : GoodIn wsX12_whyNot wsX12_whyPrice := goodIn_r _ [82, 75, 76, 77, 11, 78, 21, 9, 10, 12, 83, 84, 85, 86, 22, 23, 24, 25, 26, 27, 28, 29, 30, 31, 32, 33, 34, 35, 36, 37, 87, 88, 89, 90, 91, 92, 93, 94, 95, 96, 97, 98, 99, 100, 101, 102, 103, 104, 105, 106, 107, 108, 109, 110, 111, 112, 113, 114, 115, 116, 117, 118] rfl (by decide +kernel)
set_option maxRecDepth 20000 in
theorem gX12_whyNot_X12_whyPrice : GoodIn wsX12_whyNot (wsV RX12 293 RX12 yX12_whyPrice wsX12_whyPrice) := goodIn_app (goodIn_r _ [79, 80, 81, 11] rfl (by decide +kernel)) ggX12_whyNot_X12_whyPrice
set_option maxRecDepth 20000 in
theorem ggX12_does_X12_goesDay : GoodIn wsX12_does wsX12_goesDay := goodIn_r _ [6, 1, 7, 8, 9, 5, 10, 11, 12, 13, 14, 15, 16, 17, 18, 19, 20, 21, 22, 23, 24, 25, 26, 27, 28, 29, 30, 31, 32, 33, 34, 35, 36, 37, 38, 39, 40, 41, 42, 43, 44, 45, 46, 47, 48, 49, 50, 51, 52, 53, 54, 55, 56, 57, 58, 59, 60, 61, 62, 63, 64, 65, 66, 67, 68, 69, 70, 71, 72, 73, 74, 75, 76, 77, 78, 79, 80, 81, 82, 83, 84, 85, 86, 87, 88, 89, 90, 91, 92, 93, 94, 95, 96, 97, 98, 99, 100, 101, 102, 103, 104, 105, 106, 107, 108, 109, 110, 111] rfl (by decide +kernel)
set_option maxRecDepth 20000 in
theorem gX12_does_X12_goesDay : GoodIn wsX12_does (wsV RX12 297 RX12 yX12_goesDay wsX12_goesDay) := goodIn_app (goodIn_r _ [2, 3, 4, 5] rfl (by decide +kernel)) ggX12_does_X12_goesDay
set_option maxRecDepth 20000 in
theorem ggX12_does_X12_visits : GoodIn wsX12_does wsX12_visits := goodIn_r _ [79, 1, 43, 44, 45, 5, 46, 47, 48, 49, 50, 31, 32, 33, 34, 35, 36, 37, 38, 39, 40, 41, 42, 51, 52, 53, 54, 55, 56, 57, 58, 59, 60, 61, 62, 63, 64, 65, 66, 67, 68, 69, 70, 71, 72, 73, 74, 75, 80, 81, 82, 83, 84, 85, 86, 87, 88, 89, 90, 91, 92, 93, 94, 95, 96, 97, 98, 99, 100, 101, 102, 103, 104, 105, 106, 107, 108, 109, 110, 111] rfl (by decide +kernel)
set_option maxRecDepth 20000 in
theorem gX12_does_X12_visits : GoodIn wsX12_does (wsV RX12 279 RX12 yX12_visits wsX12_visits) := goodIn_app (goodIn_r _ [76, 77, 78, 5] rfl (by decide +kernel)) ggX12_does_X12_visits
set_option maxRecDepth 20000 in
theorem ggX12_tells_X12_whyNot : GoodIn wsX12_tells wsX12_whyNot := goodIn_r _ [8, 9, 10, 11, 12, 13, 14, 15, 16, 17, 18, 7, 19, 20, 21, 22, 23, 24, 25, 26, 27, 28, 29, 30, 31, 32, 33, 34, 35, 36, 37, 38, 39, 40, 41, 42, 43, 44, 45, 46, 47, 48, 49, 50, 51, 52, 53, 54, 55, 56, 57, 58, 59, 60, 61, 62, 63, 64, 65, 66, 67, 68, 69, 70, 71, 72, 73, 74, 75, 76, 77, 78, 79, 80, 81, 82, 83, 84, 85, 86, 87, 88, 89, 90, 91, 92, 93, 115, 116, 117, 118, 119, 120, 121, 122, 123, 124, 125, 126, 127, 128, 129, 130, 131, 132, 133, 134, 135, 136, 137, 138, 139, 140, 141, 142, 143, 144, 145, 146] rfl (by decide +kernel)
set_option maxRecDepth 20000 in
theorem gX12_tells_X12_whyNot : GoodIn wsX12_tells (wsV RX12 319 RX12 yX12_whyNot wsX12_whyNot) := goodIn_app (goodIn_r _ [4, 5, 6, 7] rfl (by decide +kernel)) ggX12_tells_X12_whyNot
set_option maxRecDepth 20000 in
theorem ggX12_tells_X12_does : GoodIn wsX12_tells wsX12_does := goodIn_r _ [97, 28, 98, 99, 100, 7, 101, 102, 103, 104, 105, 106, 107, 108, 109, 110, 20, 21, 22, 23, 24, 25, 26, 27, 17, 18, 19, 29, 30, 31, 32, 33, 34, 35, 36, 37, 38, 39, 40, 41, 42, 43, 44, 45, 46, 47, 48, 49, 50, 51, 52, 53, 54, 55, 56, 57, 58, 59, 60, 61, 62, 63, 64, 65, 66, 67, 68, 69, 70, 71, 72, 73, 74, 75, 76, 77, 111, 112, 113, 114, 115, 116, 117, 118, 119, 120, 121, 122, 123, 124, 125, 126, 127, 128, 129, 130, 131, 132, 133, 134, 135, 136, 137, 138, 139, 140, 141, 142, 143, 144, 145, 146] rfl (by decide +kernel)
set_option maxRecDepth 20000 in
theorem gX12_tells_X12_does : GoodIn wsX12_tells (wsV RX12 322 RX12 yX12_does wsX12_does) := goodIn_app (goodIn_r _ [94, 95, 96, 7] rfl (by decide +kernel)) ggX12_tells_X12_does
set_option maxRecDepth 20000 in
theorem ggX12_noTray_X12_within : GoodIn wsX12_noTray wsX12_within := goodIn_r _ [6] rfl (by decide +kernel)
set_option maxRecDepth 20000 in
theorem gX12_noTray_X12_within : GoodIn wsX12_noTray (va_wsS RX12 142 yX12_within wsX12_within) := goodIn_app (goodIn_r _ [3, 4, 5] rfl (by decide +kernel)) ggX12_noTray_X12_within
set_option maxRecDepth 20000 in
theorem ggX12_judge_X12_within : GoodIn wsX12_judge wsX12_within := goodIn_r _ [8] rfl (by decide +kernel)
set_option maxRecDepth 20000 in
theorem gX12_judge_X12_within : GoodIn wsX12_judge (va_wsS RX12 142 yX12_within wsX12_within) := goodIn_app (goodIn_r _ [5, 6, 7] rfl (by decide +kernel)) ggX12_judge_X12_within
set_option maxRecDepth 20000 in
theorem ggX12_judge_X12_noTray : GoodIn wsX12_judge wsX12_noTray := goodIn_r _ [12, 2, 13, 5, 6, 7, 8, 135, 136, 137, 138, 139, 140, 141, 142, 143, 144, 145, 146, 147, 148, 149, 150, 151, 152, 153, 154, 155, 156, 157, 158, 159, 160, 161, 162, 163, 164, 165, 166] rfl (by decide +kernel)
set_option maxRecDepth 20000 in
theorem gX12_judge_X12_noTray : GoodIn wsX12_judge (wsV RX12 327 RX12 yX12_noTray wsX12_noTray) := goodIn_app (goodIn_r _ [9, 10, 11, 7] rfl (by decide +kernel)) ggX12_judge_X12_noTray
set_option maxRecDepth 20000 in
theorem ggX12_judge_X12_keeps : GoodIn wsX12_judge wsX12_keeps := goodIn_r _ [17, 18, 3, 135, 136, 137, 138, 139, 140, 141, 142, 143, 144, 145, 146, 147, 148, 149, 150, 151, 152, 153, 154, 155, 156, 157, 158, 159, 160, 161, 162, 163, 164, 165, 166] rfl (by decide +kernel)
set_option maxRecDepth 20000 in
theorem gX12_judge_X12_keeps : GoodIn wsX12_judge (wsV RX12 282 RX12 yX12_keeps wsX12_keeps) := goodIn_app (goodIn_r _ [14, 15, 16, 7] rfl (by decide +kernel)) ggX12_judge_X12_keeps
set_option maxRecDepth 20000 in
theorem ggX12_judge_X12_tells : GoodIn wsX12_judge wsX12_tells := goodIn_r _ [22, 4, 23, 24, 25, 26, 27, 7, 28, 29, 30, 31, 32, 33, 34, 35, 36, 5, 6, 8, 37, 38, 39, 40, 41, 42, 43, 44, 3, 45, 46, 47, 48, 49, 50, 51, 52, 53, 54, 55, 56, 57, 58, 59, 60, 61, 62, 63, 64, 65, 66, 67, 68, 69, 70, 71, 72, 73, 74, 75, 76, 77, 78, 79, 80, 81, 82, 83, 84, 85, 86, 87, 88, 89, 90, 91, 92, 93, 94, 95, 96, 97, 98, 99, 100, 101, 102, 103, 104, 105, 106, 107, 108, 109, 110, 111, 112, 113, 114, 115, 116, 117, 118, 119, 120, 121, 122, 123, 124, 125, 126, 127, 128, 129, 130, 135, 136, 137, 138, 139, 140, 141, 142, 143, 144, 145, 146, 147, 148, 149, 150, 151, 152, 153, 154, 155, 156, 157, 158, 159, 160, 161, 162, 163, 164, 165, 166] rfl (by decide +kernel)
set_option maxRecDepth 20000 in
theorem gX12_judge_X12_tells : GoodIn wsX12_judge (wsV RX12 330 RX12 yX12_tells wsX12_tells) := goodIn_app (goodIn_r _ [19, 20, 21, 7] rfl (by decide +kernel)) ggX12_judge_X12_tells
set_option maxRecDepth 20000 in
theorem ggX12_judge_X12_isAgain : GoodIn wsX12_judge wsX12_isAgain := goodIn_r _ [134, 3, 18, 135, 136, 137, 138, 139, 140, 141, 142, 143, 144, 145, 146, 147, 148, 149, 150, 151, 152, 153, 154, 155, 156, 157, 158, 159, 160, 161, 162, 163, 164, 165, 166] rfl (by decide +kernel)
set_option maxRecDepth 20000 in
theorem gX12_judge_X12_isAgain : GoodIn wsX12_judge (wsV RX12 333 RX12 yX12_isAgain wsX12_isAgain) := goodIn_app (goodIn_r _ [131, 132, 133, 7] rfl (by decide +kernel)) ggX12_judge_X12_isAgain
set_option maxRecDepth 20000 in
theorem ggX12_perform_X12_noTray : GoodIn wsX12_perform wsX12_noTray := goodIn_r _ [6, 7, 8, 9, 10, 5, 11, 135, 136, 137, 138, 139, 140, 141, 142, 143, 144, 145, 146, 147, 148, 149, 150, 151, 152, 153, 154, 155, 156, 157, 158, 159, 160, 161, 162, 163, 164, 165, 166] rfl (by decide +kernel)
set_option maxRecDepth 20000 in
theorem gX12_perform_X12_noTray : GoodIn wsX12_perform (wsV RX12 327 RX12 yX12_noTray wsX12_noTray) := goodIn_app (goodIn_r _ [2, 3, 4, 5] rfl (by decide +kernel)) ggX12_perform_X12_noTray
set_option maxRecDepth 20000 in
theorem ggX12_perform_X12_keeps : GoodIn wsX12_perform wsX12_keeps := goodIn_r _ [15, 16, 17, 135, 136, 137, 138, 139, 140, 141, 142, 143, 144, 145, 146, 147, 148, 149, 150, 151, 152, 153, 154, 155, 156, 157, 158, 159, 160, 161, 162, 163, 164, 165, 166] rfl (by decide +kernel)
set_option maxRecDepth 20000 in
theorem gX12_perform_X12_keeps : GoodIn wsX12_perform (wsV RX12 282 RX12 yX12_keeps wsX12_keeps) := goodIn_app (goodIn_r _ [12, 13, 14, 5] rfl (by decide +kernel)) ggX12_perform_X12_keeps
set_option maxRecDepth 20000 in
theorem ggX12_perform_X12_tells : GoodIn wsX12_perform wsX12_tells := goodIn_r _ [21, 22, 23, 24, 25, 26, 27, 5, 28, 29, 30, 31, 32, 33, 34, 35, 36, 9, 10, 11, 37, 38, 39, 40, 41, 42, 43, 44, 17, 45, 46, 47, 48, 49, 50, 51, 52, 53, 54, 55, 56, 57, 58, 59, 60, 61, 62, 63, 64, 65, 66, 67, 68, 69, 70, 71, 72, 73, 74, 75, 76, 77, 78, 79, 80, 81, 82, 83, 84, 85, 86, 87, 88, 89, 90, 91, 92, 93, 94, 95, 96, 97, 98, 99, 100, 101, 102, 103, 104, 105, 106, 107, 108, 109, 110, 111, 112, 113, 114, 115, 116, 117, 118, 119, 120, 121, 122, 123, 124, 125, 126, 127, 128, 129, 130, 135, 136, 137, 138, 139, 140, 141, 142, 143, 144, 145, 146, 147, 148, 149, 150, 151, 152, 153, 154, 155, 156, 157, 158, 159, 160, 161, 162, 163, 164, 165, 166] rfl (by decide +kernel)
set_option maxRecDepth 20000 in
theorem gX12_perform_X12_tells : GoodIn wsX12_perform (wsV RX12 330 RX12 yX12_tells wsX12_tells) := goodIn_app (goodIn_r _ [18, 19, 20, 5] rfl (by decide +kernel)) ggX12_perform_X12_tells
set_option maxRecDepth 20000 in
theorem ggX12_perform_X12_notes : GoodIn wsX12_perform wsX12_notes := goodIn_r _ [134, 17, 16, 135, 136, 137, 138, 139, 140, 141, 142, 143, 144, 145, 146, 147, 148, 149, 150, 151, 152, 153, 154, 155, 156, 157, 158, 159, 160, 161, 162, 163, 164, 165, 166] rfl (by decide +kernel)
set_option maxRecDepth 20000 in
theorem gX12_perform_X12_notes : GoodIn wsX12_perform (wsV RX12 285 RX12 yX12_notes wsX12_notes) := goodIn_app (goodIn_r _ [131, 132, 133, 5] rfl (by decide +kernel)) ggX12_perform_X12_notes
set_option maxRecDepth 20000 in
theorem ggX12_drawn_X12_draw : GoodIn wsX12_drawn wsX12_draw := goodIn_r _ [5, 6, 7, 8, 9, 10, 11, 12, 13, 14, 15, 16, 17, 18, 19, 20, 21, 22, 23, 24, 25, 26, 27, 28, 29, 30, 31, 32, 33, 34, 35, 36, 37, 38, 39] rfl (by decide +kernel)
set_option maxRecDepth 20000 in
theorem gX12_drawn_X12_draw : GoodIn wsX12_drawn (wsV RX12 272 RX12 yX12_draw wsX12_draw) := goodIn_app (goodIn_r _ [1, 2, 3, 4] rfl (by decide +kernel)) ggX12_drawn_X12_draw
set_option maxRecDepth 20000 in
theorem ggX12_season_X12_within : GoodIn wsX12_season wsX12_within := goodIn_r _ [7] rfl (by decide +kernel)
set_option maxRecDepth 20000 in
theorem gX12_season_X12_within : GoodIn wsX12_season (va_wsS RX12 142 yX12_within wsX12_within) := goodIn_app (goodIn_r _ [4, 5, 6] rfl (by decide +kernel)) ggX12_season_X12_within
set_option maxRecDepth 20000 in
theorem ggX12_season_X12_keeps : GoodIn wsX12_season wsX12_keeps := goodIn_r _ [11, 12, 3, 131, 132, 133, 134, 135, 136, 137, 138, 139, 140, 141, 142, 143, 144, 145, 146, 147, 148, 149, 150, 151, 152, 153, 154, 155, 156, 157, 158, 159, 160, 161, 162] rfl (by decide +kernel)
set_option maxRecDepth 20000 in
theorem gX12_season_X12_keeps : GoodIn wsX12_season (wsV RX12 282 RX12 yX12_keeps wsX12_keeps) := goodIn_app (goodIn_r _ [8, 9, 10, 6] rfl (by decide +kernel)) ggX12_season_X12_keeps
set_option maxRecDepth 20000 in
theorem ggX12_season_X12_drawn : GoodIn wsX12_season wsX12_drawn := goodIn_r _ [16, 17, 18, 19, 6, 20, 3, 21, 131, 132, 133, 134, 135, 136, 137, 138, 139, 140, 141, 142, 143, 144, 145, 146, 147, 148, 149, 150, 151, 152, 153, 154, 155, 156, 157, 158, 159, 160, 161, 162] rfl (by decide +kernel)
set_option maxRecDepth 20000 in
theorem gX12_season_X12_drawn : GoodIn wsX12_season (wsV RX12 338 RX12 yX12_drawn wsX12_drawn) := goodIn_app (goodIn_r _ [13, 14, 15, 6] rfl (by decide +kernel)) ggX12_season_X12_drawn
set_option maxRecDepth 20000 in
theorem ggX12_season_X12_whyNot : GoodIn wsX12_season wsX12_whyNot := goodIn_r _ [25, 26, 27, 28, 29, 30, 31, 32, 33, 4, 5, 6, 7, 34, 35, 36, 37, 38, 39, 40, 41, 3, 42, 43, 44, 45, 46, 47, 48, 49, 50, 51, 52, 53, 54, 55, 56, 57, 58, 59, 60, 61, 62, 63, 64, 65, 66, 67, 68, 69, 70, 71, 72, 73, 74, 75, 76, 77, 78, 79, 80, 81, 82, 83, 84, 85, 86, 87, 88, 89, 90, 91, 92, 93, 94, 95, 96, 97, 98, 99, 100, 101, 102, 103, 104, 105, 106, 131, 132, 133, 134, 135, 136, 137, 138, 139, 140, 141, 142, 143, 144, 145, 146, 147, 148, 149, 150, 151, 152, 153, 154, 155, 156, 157, 158, 159, 160, 161, 162] rfl (by decide +kernel)
set_option maxRecDepth 20000 in
theorem gX12_season_X12_whyNot : GoodIn wsX12_season (wsV RX12 319 RX12 yX12_whyNot wsX12_whyNot) := goodIn_app (goodIn_r _ [22, 23, 24, 6] rfl (by decide +kernel)) ggX12_season_X12_whyNot
set_option maxRecDepth 20000 in
theorem ggX12_season_X12_does : GoodIn wsX12_season wsX12_does := goodIn_r _ [110, 3, 111, 112, 113, 6, 114, 115, 116, 117, 118, 17, 18, 19, 20, 21, 34, 35, 36, 37, 38, 39, 40, 41, 4, 5, 7, 42, 43, 44, 45, 46, 47, 48, 49, 50, 51, 52, 53, 54, 55, 56, 57, 58, 59, 60, 61, 62, 63, 64, 65, 66, 67, 68, 69, 70, 71, 72, 73, 74, 75, 76, 77, 78, 79, 80, 81, 82, 83, 84, 85, 86, 87, 88, 89, 90, 119, 120, 121, 122, 131, 132, 133, 134, 135, 136, 137, 138, 139, 140, 141, 142, 143, 144, 145, 146, 147, 148, 149, 150, 151, 152, 153, 154, 155, 156, 157, 158, 159, 160, 161, 162] rfl (by decide +kernel)
set_option maxRecDepth 20000 in
theorem gX12_season_X12_does : GoodIn wsX12_season (wsV RX12 322 RX12 yX12_does wsX12_does) := goodIn_app (goodIn_r _ [107, 108, 109, 6] rfl (by decide +kernel)) ggX12_season_X12_does
set_option maxRecDepth 20000 in
theorem ggX12_season_X12_notes : GoodIn wsX12_season wsX12_notes := goodIn_r _ [126, 3, 12, 131, 132, 133, 134, 135, 136, 137, 138, 139, 140, 141, 142, 143, 144, 145, 146, 147, 148, 149, 150, 151, 152, 153, 154, 155, 156, 157, 158, 159, 160, 161, 162] rfl (by decide +kernel)
set_option maxRecDepth 20000 in
theorem gX12_season_X12_notes : GoodIn wsX12_season (wsV RX12 285 RX12 yX12_notes wsX12_notes) := goodIn_app (goodIn_r _ [123, 124, 125, 6] rfl (by decide +kernel)) ggX12_season_X12_notes
set_option maxRecDepth 20000 in
theorem ggX12_season_X12_isAgain : GoodIn wsX12_season wsX12_isAgain := goodIn_r _ [130, 3, 12, 131, 132, 133, 134, 135, 136, 137, 138, 139, 140, 141, 142, 143, 144, 145, 146, 147, 148, 149, 150, 151, 152, 153, 154, 155, 156, 157, 158, 159, 160, 161, 162] rfl (by decide +kernel)
set_option maxRecDepth 20000 in
theorem gX12_season_X12_isAgain : GoodIn wsX12_season (wsV RX12 333 RX12 yX12_isAgain wsX12_isAgain) := goodIn_app (goodIn_r _ [127, 128, 129, 6] rfl (by decide +kernel)) ggX12_season_X12_isAgain
set_option maxRecDepth 20000 in
theorem ggX12_laysBuys_X12_everyKind : GoodIn wsX12_laysBuys wsX12_everyKind := goodIn_r _ [7, 1, 45, 46, 47, 48, 49, 50, 51, 52, 53, 54, 55, 56, 57, 58, 59, 60, 61, 62, 63, 64, 65, 66, 67, 68, 69, 70, 71, 72, 73, 74, 75, 76] rfl (by decide +kernel)
set_option maxRecDepth 20000 in
theorem gX12_laysBuys_X12_everyKind : GoodIn wsX12_laysBuys (wsV RX12 204 RX12 yX12_everyKind wsX12_everyKind) := goodIn_app (goodIn_r _ [3, 4, 5, 6] rfl (by decide +kernel)) ggX12_laysBuys_X12_everyKind
set_option maxRecDepth 20000 in
theorem ggX12_laysBuys_X12_buysOf : GoodIn wsX12_laysBuys wsX12_buysOf := goodIn_r _ [11, 1, 12, 13, 14, 6, 15, 16, 17, 18, 19, 3, 4, 5, 7, 20, 21, 22, 23, 24, 25, 26, 27, 28, 29, 30, 31, 32, 33, 34, 35, 36, 37, 38, 39, 40, 41, 42, 43, 44, 45, 46, 47, 48, 49, 50, 51, 52, 53, 54, 55, 56, 57, 58, 59, 60, 61, 62, 63, 64, 65, 66, 67, 68, 69, 70, 71, 72, 73, 74, 75, 76] rfl (by decide +kernel)
set_option maxRecDepth 20000 in
theorem gX12_laysBuys_X12_buysOf : GoodIn wsX12_laysBuys (wsV RX12 239 RX12 yX12_buysOf wsX12_buysOf) := goodIn_app (goodIn_r _ [8, 9, 10, 6] rfl (by decide +kernel)) ggX12_laysBuys_X12_buysOf
set_option maxRecDepth 20000 in
theorem ggX12_laysEnding_X12_everyKind : GoodIn wsX12_laysEnding wsX12_everyKind := goodIn_r _ [8, 2, 25, 26, 27, 28, 29, 30, 31, 32, 33, 34, 35, 36, 37, 38, 39, 40, 41, 42, 43, 44, 45, 46, 47, 48, 49, 50, 51, 52, 53, 54, 55, 56] rfl (by decide +kernel)
set_option maxRecDepth 20000 in
theorem gX12_laysEnding_X12_everyKind : GoodIn wsX12_laysEnding (wsV RX12 204 RX12 yX12_everyKind wsX12_everyKind) := goodIn_app (goodIn_r _ [4, 5, 6, 7] rfl (by decide +kernel)) ggX12_laysEnding_X12_everyKind
set_option maxRecDepth 20000 in
theorem ggX12_laysEnding_X12_isShutBy : GoodIn wsX12_laysEnding wsX12_isShutBy := goodIn_r _ [12, 13, 14, 15, 7, 16, 2, 4, 5, 6, 8, 25, 26, 27, 28, 29, 30, 31, 32, 33, 34, 35, 36, 37, 38, 39, 40, 41, 42, 43, 44, 45, 46, 47, 48, 49, 50, 51, 52, 53, 54, 55, 56] rfl (by decide +kernel)
set_option maxRecDepth 20000 in
theorem gX12_laysEnding_X12_isShutBy : GoodIn wsX12_laysEnding (wsV RX12 210 RX12 yX12_isShutBy wsX12_isShutBy) := goodIn_app (goodIn_r _ [9, 10, 11, 7] rfl (by decide +kernel)) ggX12_laysEnding_X12_isShutBy
set_option maxRecDepth 20000 in
theorem ggX12_laysEnding_X12_boughtBy : GoodIn wsX12_laysEnding wsX12_boughtBy := goodIn_r _ [20, 21, 25, 26, 27, 28, 29, 30, 31, 32, 33, 34, 35, 36, 37, 38, 39, 40, 41, 42, 43, 44, 45, 46, 47, 48, 49, 50, 51, 52, 53, 54, 55, 56] rfl (by decide +kernel)
set_option maxRecDepth 20000 in
theorem gX12_laysEnding_X12_boughtBy : GoodIn wsX12_laysEnding (wsV RX12 342 RX12 yX12_boughtBy wsX12_boughtBy) := goodIn_app (goodIn_r _ [17, 18, 19, 7] rfl (by decide +kernel)) ggX12_laysEnding_X12_boughtBy
set_option maxRecDepth 20000 in
theorem ggX12_laysEnding_X12_isIn : GoodIn wsX12_laysEnding wsX12_isIn := goodIn_r _ [24] rfl (by decide +kernel)
set_option maxRecDepth 20000 in
theorem gX12_laysEnding_X12_isIn : GoodIn wsX12_laysEnding (va_wsS RX12 228 yX12_isIn wsX12_isIn) := goodIn_app (goodIn_r _ [22, 23, 7] rfl (by decide +kernel)) ggX12_laysEnding_X12_isIn
set_option maxRecDepth 20000 in
theorem ggX12_endingNow_X12_laysBuys : GoodIn wsX12_endingNow wsX12_laysBuys := goodIn_r _ [5, 6, 7, 8, 9, 10, 4, 11, 12, 13, 14, 15, 16, 17, 18, 19, 20, 21, 22, 23, 24, 25, 26, 27, 28, 29, 30, 31, 32, 33, 34, 35, 36, 37, 38, 39, 40, 41, 42, 43, 44, 45, 46, 47, 48, 59, 60, 61, 62, 63, 64, 65, 66, 67, 68, 69, 70, 71, 72, 73, 74, 75, 76, 77, 78, 79, 80, 81, 82, 83, 84, 85, 86, 87, 88, 89, 90] rfl (by decide +kernel)
set_option maxRecDepth 20000 in
theorem gX12_endingNow_X12_laysBuys : GoodIn wsX12_endingNow (wsV RX12 345 RX12 yX12_laysBuys wsX12_laysBuys) := goodIn_app (goodIn_r _ [1, 2, 3, 4] rfl (by decide +kernel)) ggX12_endingNow_X12_laysBuys
set_option maxRecDepth 20000 in
theorem ggX12_endingNow_X12_laysEnding : GoodIn wsX12_endingNow wsX12_laysEnding := goodIn_r _ [52, 53, 6, 54, 8, 9, 10, 4, 11, 16, 17, 18, 19, 20, 21, 22, 23, 55, 56, 57, 58, 7, 28, 29, 30, 59, 60, 61, 62, 63, 64, 65, 66, 67, 68, 69, 70, 71, 72, 73, 74, 75, 76, 77, 78, 79, 80, 81, 82, 83, 84, 85, 86, 87, 88, 89, 90] rfl (by decide +kernel)
set_option maxRecDepth 20000 in
theorem gX12_endingNow_X12_laysEnding : GoodIn wsX12_endingNow (wsV RX12 348 RX12 yX12_laysEnding wsX12_laysEnding) := goodIn_app (goodIn_r _ [49, 50, 51, 4] rfl (by decide +kernel)) ggX12_endingNow_X12_laysEnding
set_option maxRecDepth 20000 in
theorem ggX12_laysEndingRow_X12_endingNow : GoodIn wsX12_laysEndingRow wsX12_endingNow := goodIn_r _ [8, 9, 10, 11, 7, 12, 1, 13, 14, 15, 16, 17, 18, 19, 20, 21, 22, 23, 24, 25, 26, 27, 28, 29, 30, 31, 32, 33, 34, 35, 36, 37, 38, 39, 40, 41, 42, 43, 44, 45, 46, 47, 48, 49, 50, 51, 52, 53, 54, 55, 56, 57, 58, 59, 2, 60, 61, 62, 63, 64, 65, 66, 67, 68, 69, 70, 71, 72, 73, 74, 75, 76, 77, 78, 79, 80, 81, 82, 83, 84, 85, 86, 87, 88, 89, 90, 91, 92, 93, 94, 95] rfl (by decide +kernel)
set_option maxRecDepth 20000 in
theorem gX12_laysEndingRow_X12_endingNow : GoodIn wsX12_laysEndingRow (wsV RX12 351 RX12 yX12_endingNow wsX12_endingNow) := goodIn_app (goodIn_r _ [4, 5, 6, 7] rfl (by decide +kernel)) ggX12_laysEndingRow_X12_endingNow
set_option maxRecDepth 20000 in
theorem ggX12_laysEndingRow_X12_boughtBy : GoodIn wsX12_laysEndingRow wsX12_boughtBy := goodIn_r _ [63, 13, 64, 65, 66, 67, 68, 69, 70, 71, 72, 73, 74, 75, 76, 77, 78, 79, 80, 81, 82, 83, 84, 85, 86, 87, 88, 89, 90, 91, 92, 93, 94, 95] rfl (by decide +kernel)
set_option maxRecDepth 20000 in
theorem gX12_laysEndingRow_X12_boughtBy : GoodIn wsX12_laysEndingRow (wsV RX12 342 RX12 yX12_boughtBy wsX12_boughtBy) := goodIn_app (goodIn_r _ [60, 61, 62, 7] rfl (by decide +kernel)) ggX12_laysEndingRow_X12_boughtBy
set_option maxRecDepth 20000 in
theorem ggX12_laysEndingRow_X12_isIn : GoodIn wsX12_laysEndingRow wsX12_isIn := goodIn_r _ [36] rfl (by decide +kernel)
set_option maxRecDepth 20000 in
theorem gX12_laysEndingRow_X12_isIn : GoodIn wsX12_laysEndingRow (va_wsS RX12 228 yX12_isIn wsX12_isIn) := goodIn_app (goodIn_r _ [34, 35, 7] rfl (by decide +kernel)) ggX12_laysEndingRow_X12_isIn
set_option maxRecDepth 20000 in
theorem ggX12_ending_X12_endingNow : GoodIn wsX12_ending wsX12_endingNow := goodIn_r _ [6, 7, 8, 9, 5, 10, 11, 12, 13, 14, 15, 16, 17, 18, 19, 20, 21, 22, 23, 24, 25, 26, 27, 28, 29, 30, 31, 32, 33, 34, 35, 36, 37, 38, 39, 40, 41, 42, 43, 44, 45, 46, 47, 48, 49, 50, 51, 52, 53, 54, 55, 56, 57, 58, 59, 60, 61, 62, 63, 64, 65, 66, 67, 68, 69, 70, 71, 72, 73, 74, 75, 76, 77, 78, 79, 80, 81, 82, 83, 84, 85, 86, 87, 88, 89, 90, 91, 92, 93, 94, 95] rfl (by decide +kernel)
set_option maxRecDepth 20000 in
theorem gX12_ending_X12_endingNow : GoodIn wsX12_ending (wsV RX12 351 RX12 yX12_endingNow wsX12_endingNow) := goodIn_app (goodIn_r _ [2, 3, 4, 5] rfl (by decide +kernel)) ggX12_ending_X12_endingNow
set_option maxRecDepth 20000 in
theorem ggX12_endingBy_X12_laysEndingRow : GoodIn wsX12_endingBy wsX12_laysEndingRow := goodIn_r _ [7, 8, 9, 2, 10, 11, 12, 6, 13, 14, 15, 16, 17, 18, 19, 20, 21, 22, 23, 24, 25, 26, 27, 28, 29, 30, 31, 32, 33, 34, 35, 36, 37, 38, 39, 40, 41, 42, 43, 44, 45, 46, 47, 48, 49, 50, 51, 52, 53, 54, 55, 56, 57, 58, 59, 60, 61, 62, 63, 64, 65, 66, 67, 68, 69, 70, 71, 72, 73, 74, 75, 76, 77, 78, 79, 80, 81, 82, 83, 84, 85, 86, 87, 88, 89, 90, 91, 92, 93, 94, 95, 96, 97, 98, 99, 100] rfl (by decide +kernel)
set_option maxRecDepth 20000 in
theorem gX12_endingBy_X12_laysEndingRow : GoodIn wsX12_endingBy (wsV RX12 354 RX12 yX12_laysEndingRow wsX12_laysEndingRow) := goodIn_app (goodIn_r _ [3, 4, 5, 6] rfl (by decide +kernel)) ggX12_endingBy_X12_laysEndingRow
set_option maxRecDepth 20000 in
theorem ggX12_goesRows_X12_everyKind : GoodIn wsX12_goesRows wsX12_everyKind := goodIn_r _ [8, 2, 14, 15, 16, 17, 18, 19, 20, 21, 22, 23, 24, 25, 26, 27, 28, 29, 30, 31, 32, 33, 34, 35, 36, 37, 38, 39, 40, 41, 42, 43, 44, 45] rfl (by decide +kernel)
set_option maxRecDepth 20000 in
theorem gX12_goesRows_X12_everyKind : GoodIn wsX12_goesRows (wsV RX12 204 RX12 yX12_everyKind wsX12_everyKind) := goodIn_app (goodIn_r _ [4, 5, 6, 7] rfl (by decide +kernel)) ggX12_goesRows_X12_everyKind
set_option maxRecDepth 20000 in
theorem ggX12_goesRows_X12_boughtBy : GoodIn wsX12_goesRows wsX12_boughtBy := goodIn_r _ [12, 13, 14, 15, 16, 17, 18, 19, 20, 21, 22, 23, 24, 25, 26, 27, 28, 29, 30, 31, 32, 33, 34, 35, 36, 37, 38, 39, 40, 41, 42, 43, 44, 45] rfl (by decide +kernel)
set_option maxRecDepth 20000 in
theorem gX12_goesRows_X12_boughtBy : GoodIn wsX12_goesRows (wsV RX12 342 RX12 yX12_boughtBy wsX12_boughtBy) := goodIn_app (goodIn_r _ [9, 10, 11, 7] rfl (by decide +kernel)) ggX12_goesRows_X12_boughtBy
set_option maxRecDepth 20000 in
theorem ggX12_shutRows_X12_isShutBy : GoodIn wsX12_shutRows wsX12_isShutBy := goodIn_r _ [6, 7, 8, 9, 5, 10, 11, 12, 13, 14, 15, 16, 17, 18, 19, 20, 21, 22, 23, 24, 25, 26, 27, 28, 29, 30, 31, 32, 33, 34, 35, 36, 37, 38, 39, 40, 41, 42, 43, 44, 45, 46, 47] rfl (by decide +kernel)
set_option maxRecDepth 20000 in
theorem gX12_shutRows_X12_isShutBy : GoodIn wsX12_shutRows (wsV RX12 210 RX12 yX12_isShutBy wsX12_isShutBy) := goodIn_app (goodIn_r _ [2, 3, 4, 5] rfl (by decide +kernel)) ggX12_shutRows_X12_isShutBy
set_option maxRecDepth 20000 in
theorem ggX12_endings_X12_within : GoodIn wsX12_endings wsX12_within := goodIn_r _ [7] rfl (by decide +kernel)
set_option maxRecDepth 20000 in
theorem gX12_endings_X12_within : GoodIn wsX12_endings (va_wsS RX12 142 yX12_within wsX12_within) := goodIn_app (goodIn_r _ [4, 5, 6] rfl (by decide +kernel)) ggX12_endings_X12_within
set_option maxRecDepth 20000 in
theorem ggX12_endings_X12_laysBuys : GoodIn wsX12_endings wsX12_laysBuys := goodIn_r _ [11, 12, 13, 14, 15, 16, 6, 17, 18, 19, 20, 21, 22, 23, 24, 25, 26, 27, 28, 29, 30, 31, 32, 33, 34, 35, 36, 37, 38, 39, 40, 41, 42, 43, 44, 45, 46, 47, 48, 49, 50, 51, 52, 53, 54, 73, 74, 75, 76, 77, 78, 79, 80, 81, 82, 83, 84, 85, 86, 87, 88, 89, 90, 91, 92, 93, 94, 95, 96, 97, 98, 99, 100, 101, 102, 103, 104] rfl (by decide +kernel)
set_option maxRecDepth 20000 in
theorem gX12_endings_X12_laysBuys : GoodIn wsX12_endings (wsV RX12 345 RX12 yX12_laysBuys wsX12_laysBuys) := goodIn_app (goodIn_r _ [8, 9, 10, 6] rfl (by decide +kernel)) ggX12_endings_X12_laysBuys
set_option maxRecDepth 20000 in
theorem ggX12_endings_X12_beginsRows : GoodIn wsX12_endings wsX12_beginsRows := goodIn_r _ [58, 59, 12, 73, 74, 75, 76, 77, 78, 79, 80, 81, 82, 83, 84, 85, 86, 87, 88, 89, 90, 91, 92, 93, 94, 95, 96, 97, 98, 99, 100, 101, 102, 103, 104] rfl (by decide +kernel)
set_option maxRecDepth 20000 in
theorem gX12_endings_X12_beginsRows : GoodIn wsX12_endings (wsV RX12 361 RX12 yX12_beginsRows wsX12_beginsRows) := goodIn_app (goodIn_r _ [55, 56, 57, 6] rfl (by decide +kernel)) ggX12_endings_X12_beginsRows
set_option maxRecDepth 20000 in
theorem ggX12_endings_X12_goesRows : GoodIn wsX12_endings wsX12_goesRows := goodIn_r _ [63, 64, 12, 59, 14, 15, 16, 6, 17, 65, 66, 67, 68, 13, 73, 74, 75, 76, 77, 78, 79, 80, 81, 82, 83, 84, 85, 86, 87, 88, 89, 90, 91, 92, 93, 94, 95, 96, 97, 98, 99, 100, 101, 102, 103, 104] rfl (by decide +kernel)
set_option maxRecDepth 20000 in
theorem gX12_endings_X12_goesRows : GoodIn wsX12_endings (wsV RX12 364 RX12 yX12_goesRows wsX12_goesRows) := goodIn_app (goodIn_r _ [60, 61, 62, 6] rfl (by decide +kernel)) ggX12_endings_X12_goesRows
set_option maxRecDepth 20000 in
theorem ggX12_endings_X12_shutRows : GoodIn wsX12_endings wsX12_shutRows := goodIn_r _ [72, 59, 22, 23, 24, 6, 25, 26, 27, 28, 29, 12, 14, 15, 16, 17, 73, 74, 75, 76, 77, 78, 79, 80, 81, 82, 83, 84, 85, 86, 87, 88, 89, 90, 91, 92, 93, 94, 95, 96, 97, 98, 99, 100, 101, 102, 103, 104] rfl (by decide +kernel)
set_option maxRecDepth 20000 in
theorem gX12_endings_X12_shutRows : GoodIn wsX12_endings (wsV RX12 368 RX12 yX12_shutRows wsX12_shutRows) := goodIn_app (goodIn_r _ [69, 70, 71, 6] rfl (by decide +kernel)) ggX12_endings_X12_shutRows
set_option maxRecDepth 20000 in
theorem ggX12_needed_X12_endingNow : GoodIn wsX12_needed wsX12_endingNow := goodIn_r _ [7, 8, 9, 10, 6, 11, 2, 12, 13, 14, 15, 16, 17, 18, 19, 20, 21, 22, 23, 24, 25, 26, 27, 28, 29, 30, 31, 32, 33, 34, 35, 36, 37, 38, 39, 40, 41, 42, 43, 44, 45, 46, 47, 48, 49, 50, 51, 52, 53, 54, 55, 56, 57, 58, 59, 60, 61, 62, 63, 64, 65, 66, 67, 68, 69, 70, 71, 72, 73, 74, 75, 76, 77, 78, 79, 80, 81, 82, 83, 84, 85, 86, 87, 88, 89, 90, 91, 92, 93, 94, 95] rfl (by decide +kernel)
set_option maxRecDepth 20000 in
theorem gX12_needed_X12_endingNow : GoodIn wsX12_needed (wsV RX12 351 RX12 yX12_endingNow wsX12_endingNow) := goodIn_app (goodIn_r _ [3, 4, 5, 6] rfl (by decide +kernel)) ggX12_needed_X12_endingNow
set_option maxRecDepth 20000 in
theorem ggX12_needed_X12_laysEnding : GoodIn wsX12_needed wsX12_laysEnding := goodIn_r _ [57, 58, 2, 59, 13, 14, 15, 6, 16, 21, 22, 23, 24, 25, 26, 27, 28, 60, 61, 62, 63, 12, 33, 34, 35, 64, 65, 66, 67, 68, 69, 70, 71, 72, 73, 74, 75, 76, 77, 78, 79, 80, 81, 82, 83, 84, 85, 86, 87, 88, 89, 90, 91, 92, 93, 94, 95] rfl (by decide +kernel)
set_option maxRecDepth 20000 in
theorem gX12_needed_X12_laysEnding : GoodIn wsX12_needed (wsV RX12 348 RX12 yX12_laysEnding wsX12_laysEnding) := goodIn_app (goodIn_r _ [54, 55, 56, 6] rfl (by decide +kernel)) ggX12_needed_X12_laysEnding
set_option maxRecDepth 20000 in
theorem ggX12_laysComes_X12_laysBuys : GoodIn wsX12_laysComes wsX12_laysBuys := goodIn_r _ [7, 2, 8, 9, 10, 11, 6, 12, 13, 14, 15, 16, 17, 18, 19, 20, 21, 22, 23, 24, 25, 26, 27, 28, 29, 30, 31, 32, 33, 34, 35, 36, 37, 38, 39, 40, 41, 42, 43, 44, 45, 46, 47, 48, 49, 54, 55, 56, 57, 58, 59, 60, 61, 62, 63, 64, 65, 66, 67, 68, 69, 70, 71, 72, 73, 74, 75, 76, 77, 78, 79, 80, 81, 82, 83, 84, 85] rfl (by decide +kernel)
set_option maxRecDepth 20000 in
theorem gX12_laysComes_X12_laysBuys : GoodIn wsX12_laysComes (wsV RX12 345 RX12 yX12_laysBuys wsX12_laysBuys) := goodIn_app (goodIn_r _ [3, 4, 5, 6] rfl (by decide +kernel)) ggX12_laysComes_X12_laysBuys
set_option maxRecDepth 20000 in
theorem ggX12_laysComes_X12_everyKind : GoodIn wsX12_laysComes wsX12_everyKind := goodIn_r _ [12, 2, 54, 55, 56, 57, 58, 59, 60, 61, 62, 63, 64, 65, 66, 67, 68, 69, 70, 71, 72, 73, 74, 75, 76, 77, 78, 79, 80, 81, 82, 83, 84, 85] rfl (by decide +kernel)
set_option maxRecDepth 20000 in
theorem gX12_laysComes_X12_everyKind : GoodIn wsX12_laysComes (wsV RX12 204 RX12 yX12_everyKind wsX12_everyKind) := goodIn_app (goodIn_r _ [9, 10, 11, 6] rfl (by decide +kernel)) ggX12_laysComes_X12_everyKind
set_option maxRecDepth 20000 in
theorem ggX12_laysComes_X12_boughtBy : GoodIn wsX12_laysComes wsX12_boughtBy := goodIn_r _ [53, 8, 54, 55, 56, 57, 58, 59, 60, 61, 62, 63, 64, 65, 66, 67, 68, 69, 70, 71, 72, 73, 74, 75, 76, 77, 78, 79, 80, 81, 82, 83, 84, 85] rfl (by decide +kernel)
set_option maxRecDepth 20000 in
theorem gX12_laysComes_X12_boughtBy : GoodIn wsX12_laysComes (wsV RX12 342 RX12 yX12_boughtBy wsX12_boughtBy) := goodIn_app (goodIn_r _ [50, 51, 52, 6] rfl (by decide +kernel)) ggX12_laysComes_X12_boughtBy
set_option maxRecDepth 20000 in
theorem ggX12_sellable_X12_laysComes : GoodIn wsX12_sellable wsX12_laysComes := goodIn_r _ [7, 2, 8, 9, 10, 11, 6, 12, 13, 14, 15, 16, 17, 18, 19, 20, 21, 22, 23, 24, 25, 26, 27, 28, 29, 30, 31, 32, 33, 34, 35, 36, 37, 38, 39, 40, 41, 42, 43, 44, 45, 46, 47, 48, 49, 50, 51, 52, 53, 54, 55, 56, 57, 58, 59, 60, 61, 62, 63, 64, 65, 66, 67, 68, 69, 70, 71, 72, 73, 74, 75, 76, 77, 78, 79, 80, 81, 82, 83, 84, 85, 86, 87, 88, 89, 90] rfl (by decide +kernel)
set_option maxRecDepth 20000 in
theorem gX12_sellable_X12_laysComes : GoodIn wsX12_sellable (wsV RX12 372 RX12 yX12_laysComes wsX12_laysComes) := goodIn_app (goodIn_r _ [3, 4, 5, 6] rfl (by decide +kernel)) ggX12_sellable_X12_laysComes
set_option maxRecDepth 20000 in
theorem ggX12_guards_X12_endingNow : GoodIn wsX12_guards wsX12_endingNow := goodIn_r _ [7, 8, 9, 10, 6, 11, 2, 12, 13, 14, 15, 16, 17, 18, 19, 20, 21, 22, 23, 24, 25, 26, 27, 28, 29, 30, 31, 32, 33, 34, 35, 36, 37, 38, 39, 40, 41, 42, 43, 44, 45, 46, 47, 48, 49, 50, 51, 52, 53, 54, 55, 56, 57, 58, 59, 60, 61, 62, 63, 64, 65, 66, 67, 68, 69, 70, 71, 72, 73, 74, 75, 76, 77, 78, 79, 80, 81, 82, 83, 84, 85, 86, 87, 88, 89, 90, 91, 92, 93, 94, 95] rfl (by decide +kernel)
set_option maxRecDepth 20000 in
theorem gX12_guards_X12_endingNow : GoodIn wsX12_guards (wsV RX12 351 RX12 yX12_endingNow wsX12_endingNow) := goodIn_app (goodIn_r _ [3, 4, 5, 6] rfl (by decide +kernel)) ggX12_guards_X12_endingNow
set_option maxRecDepth 20000 in
theorem ggX12_guards_X12_isIn : GoodIn wsX12_guards wsX12_isIn := goodIn_r _ [35] rfl (by decide +kernel)
set_option maxRecDepth 20000 in
theorem gX12_guards_X12_isIn : GoodIn wsX12_guards (va_wsS RX12 228 yX12_isIn wsX12_isIn) := goodIn_app (goodIn_r _ [33, 34, 6] rfl (by decide +kernel)) ggX12_guards_X12_isIn
set_option maxRecDepth 20000 in
theorem ggX12_last_X12_laysComes : GoodIn wsX12_last wsX12_laysComes := goodIn_r _ [7, 2, 8, 9, 10, 11, 6, 12, 13, 14, 15, 16, 17, 18, 19, 20, 21, 22, 23, 24, 25, 26, 27, 28, 29, 30, 31, 32, 33, 34, 35, 36, 37, 38, 39, 40, 41, 42, 43, 44, 45, 46, 47, 48, 49, 50, 51, 52, 53, 54, 55, 56, 57, 58, 59, 60, 61, 62, 63, 64, 65, 66, 67, 68, 69, 70, 71, 72, 73, 74, 75, 76, 77, 78, 79, 80, 81, 82, 83, 84, 85, 86, 87, 88, 89, 90] rfl (by decide +kernel)
set_option maxRecDepth 20000 in
theorem gX12_last_X12_laysComes : GoodIn wsX12_last (wsV RX12 372 RX12 yX12_laysComes wsX12_laysComes) := goodIn_app (goodIn_r _ [3, 4, 5, 6] rfl (by decide +kernel)) ggX12_last_X12_laysComes
set_option maxRecDepth 20000 in
theorem ggX12_last_X12_everyKind : GoodIn wsX12_last wsX12_everyKind := goodIn_r _ [17, 8, 59, 60, 61, 62, 63, 64, 65, 66, 67, 68, 69, 70, 71, 72, 73, 74, 75, 76, 77, 78, 79, 80, 81, 82, 83, 84, 85, 86, 87, 88, 89, 90] rfl (by decide +kernel)
set_option maxRecDepth 20000 in
theorem gX12_last_X12_everyKind : GoodIn wsX12_last (wsV RX12 204 RX12 yX12_everyKind wsX12_everyKind) := goodIn_app (goodIn_r _ [14, 15, 16, 6] rfl (by decide +kernel)) ggX12_last_X12_everyKind
set_option maxRecDepth 20000 in
theorem ggX12_last_X12_shown : GoodIn wsX12_last wsX12_shown := goodIn_r _ [29, 8, 14, 15, 16, 6, 17, 59, 60, 61, 62, 63, 64, 65, 66, 67, 68, 69, 70, 71, 72, 73, 74, 75, 76, 77, 78, 79, 80, 81, 82, 83, 84, 85, 86, 87, 88, 89, 90] rfl (by decide +kernel)
set_option maxRecDepth 20000 in
theorem gX12_last_X12_shown : GoodIn wsX12_last (wsV RX12 207 RX12 yX12_shown wsX12_shown) := goodIn_app (goodIn_r _ [26, 27, 28, 6] rfl (by decide +kernel)) ggX12_last_X12_shown
set_option maxRecDepth 20000 in
theorem ggX12_last_X12_bitsOf : GoodIn wsX12_last wsX12_bitsOf := goodIn_r _ [45] rfl (by decide +kernel)
set_option maxRecDepth 20000 in
theorem gX12_last_X12_bitsOf : GoodIn wsX12_last (va_wsS RX12 217 yX12_bitsOf wsX12_bitsOf) := goodIn_app (goodIn_r _ [43, 44, 6] rfl (by decide +kernel)) ggX12_last_X12_bitsOf
set_option maxRecDepth 20000 in
theorem ggX12_wholeOf_X12_oddsAll : GoodIn wsX12_wholeOf wsX12_oddsAll := goodIn_r _ [5, 6, 10, 11, 12, 13, 14, 15, 16, 17, 18, 19, 20, 21, 22, 23, 24, 25, 26, 27, 28, 29, 30, 31, 32, 33, 34, 35, 36, 37, 38, 39, 40, 41] rfl (by decide +kernel)
set_option maxRecDepth 20000 in
theorem gX12_wholeOf_X12_oddsAll : GoodIn wsX12_wholeOf (wsV RX12 269 RX12 yX12_oddsAll wsX12_oddsAll) := goodIn_app (goodIn_r _ [1, 2, 3, 4] rfl (by decide +kernel)) ggX12_wholeOf_X12_oddsAll
set_option maxRecDepth 20000 in
theorem ggX12_wholeOf_X12_powerOf : GoodIn wsX12_wholeOf wsX12_powerOf := goodIn_r _ [9] rfl (by decide +kernel)
set_option maxRecDepth 20000 in
theorem gX12_wholeOf_X12_powerOf : GoodIn wsX12_wholeOf (va_wsS RX12 375 yX12_powerOf wsX12_powerOf) := goodIn_app (goodIn_r _ [7, 8, 4] rfl (by decide +kernel)) ggX12_wholeOf_X12_powerOf
set_option maxRecDepth 20000 in
theorem ggX12_laysDays_X12_beginsRows : GoodIn wsX12_laysDays wsX12_beginsRows := goodIn_r _ [9, 4, 10, 36, 37, 38, 39, 40, 41, 42, 43, 44, 45, 46, 47, 48, 49, 50, 51, 52, 53, 54, 55, 56, 57, 58, 59, 60, 61, 62, 63, 64, 65, 66, 67] rfl (by decide +kernel)
set_option maxRecDepth 20000 in
theorem gX12_laysDays_X12_beginsRows : GoodIn wsX12_laysDays (wsV RX12 361 RX12 yX12_beginsRows wsX12_beginsRows) := goodIn_app (goodIn_r _ [5, 6, 7, 8] rfl (by decide +kernel)) ggX12_laysDays_X12_beginsRows
set_option maxRecDepth 20000 in
theorem ggX12_laysDays_X12_oddsAll : GoodIn wsX12_laysDays wsX12_oddsAll := goodIn_r _ [14, 10, 36, 37, 38, 39, 40, 41, 42, 43, 44, 45, 46, 47, 48, 49, 50, 51, 52, 53, 54, 55, 56, 57, 58, 59, 60, 61, 62, 63, 64, 65, 66, 67] rfl (by decide +kernel)
set_option maxRecDepth 20000 in
theorem gX12_laysDays_X12_oddsAll : GoodIn wsX12_laysDays (wsV RX12 269 RX12 yX12_oddsAll wsX12_oddsAll) := goodIn_app (goodIn_r _ [11, 12, 13, 8] rfl (by decide +kernel)) ggX12_laysDays_X12_oddsAll
set_option maxRecDepth 20000 in
theorem ggX12_laysDays_X12_everyKind : GoodIn wsX12_laysDays wsX12_everyKind := goodIn_r _ [18, 10, 36, 37, 38, 39, 40, 41, 42, 43, 44, 45, 46, 47, 48, 49, 50, 51, 52, 53, 54, 55, 56, 57, 58, 59, 60, 61, 62, 63, 64, 65, 66, 67] rfl (by decide +kernel)
set_option maxRecDepth 20000 in
theorem gX12_laysDays_X12_everyKind : GoodIn wsX12_laysDays (wsV RX12 204 RX12 yX12_everyKind wsX12_everyKind) := goodIn_app (goodIn_r _ [15, 16, 17, 8] rfl (by decide +kernel)) ggX12_laysDays_X12_everyKind
set_option maxRecDepth 20000 in
theorem ggX12_laysDays_X12_goesOdds : GoodIn wsX12_laysDays wsX12_goesOdds := goodIn_r _ [22, 10, 4, 3, 1, 2, 23, 24, 25, 8, 26, 27, 28, 29, 30, 31, 32, 33, 34, 35, 15, 16, 17, 18, 36, 37, 38, 39, 40, 41, 42, 43, 44, 45, 46, 47, 48, 49, 50, 51, 52, 53, 54, 55, 56, 57, 58, 59, 60, 61, 62, 63, 64, 65, 66, 67] rfl (by decide +kernel)
set_option maxRecDepth 20000 in
theorem gX12_laysDays_X12_goesOdds : GoodIn wsX12_laysDays (wsV RX12 383 RX12 yX12_goesOdds wsX12_goesOdds) := goodIn_app (goodIn_r _ [19, 20, 21, 8] rfl (by decide +kernel)) ggX12_laysDays_X12_goesOdds
set_option maxRecDepth 20000 in
theorem ggX12_goesOdds_X12_boughtBy : GoodIn wsX12_goesOdds wsX12_boughtBy := goodIn_r _ [10, 11, 24, 25, 26, 27, 28, 29, 30, 31, 32, 33, 34, 35, 36, 37, 38, 39, 40, 41, 42, 43, 44, 45, 46, 47, 48, 49, 50, 51, 52, 53, 54, 55] rfl (by decide +kernel)
set_option maxRecDepth 20000 in
theorem gX12_goesOdds_X12_boughtBy : GoodIn wsX12_goesOdds (wsV RX12 342 RX12 yX12_boughtBy wsX12_boughtBy) := goodIn_app (goodIn_r _ [6, 7, 8, 9] rfl (by decide +kernel)) ggX12_goesOdds_X12_boughtBy
set_option maxRecDepth 20000 in
theorem ggX12_goesOdds_X12_isShutBy : GoodIn wsX12_goesOdds wsX12_isShutBy := goodIn_r _ [15, 16, 17, 18, 9, 19, 1, 20, 21, 22, 23, 24, 25, 26, 27, 28, 29, 30, 31, 32, 33, 34, 35, 36, 37, 38, 39, 40, 41, 42, 43, 44, 45, 46, 47, 48, 49, 50, 51, 52, 53, 54, 55] rfl (by decide +kernel)
set_option maxRecDepth 20000 in
theorem gX12_goesOdds_X12_isShutBy : GoodIn wsX12_goesOdds (wsV RX12 210 RX12 yX12_isShutBy wsX12_isShutBy) := goodIn_app (goodIn_r _ [12, 13, 14, 9] rfl (by decide +kernel)) ggX12_goesOdds_X12_isShutBy
set_option maxRecDepth 20000 in
theorem ggX12_common_X12_common : GoodIn wsX12_common wsX12_common := goodIn_r _ [0, 1, 2, 3] rfl (by decide +kernel)
set_option maxRecDepth 20000 in
theorem gX12_common_X12_common : GoodIn wsX12_common (va_wsS RX12 386 yX12_common wsX12_common) := goodIn_app (goodIn_r _ [1, 2, 3] rfl (by decide +kernel)) ggX12_common_X12_common
set_option maxRecDepth 20000 in
theorem ggX12_part_X12_common : GoodIn wsX12_part wsX12_common := goodIn_r _ [4, 1, 2, 3] rfl (by decide +kernel)
set_option maxRecDepth 20000 in
theorem gX12_part_X12_common : GoodIn wsX12_part (va_wsS RX12 386 yX12_common wsX12_common) := goodIn_app (goodIn_r _ [1, 2, 3] rfl (by decide +kernel)) ggX12_part_X12_common
set_option maxRecDepth 20000 in
theorem ggX12_isLate_X12_within : GoodIn wsX12_isLate wsX12_within := goodIn_r _ [5] rfl (by decide +kernel)
set_option maxRecDepth 20000 in
theorem gX12_isLate_X12_within : GoodIn wsX12_isLate (va_wsS RX12 142 yX12_within wsX12_within) := goodIn_app (goodIn_r _ [2, 3, 4] rfl (by decide +kernel)) ggX12_isLate_X12_within
set_option maxRecDepth 20000 in
theorem ggX12_isPart_X12_within : GoodIn wsX12_isPart wsX12_within := goodIn_r _ [4] rfl (by decide +kernel)
set_option maxRecDepth 20000 in
theorem gX12_isPart_X12_within : GoodIn wsX12_isPart (va_wsS RX12 142 yX12_within wsX12_within) := goodIn_app (goodIn_r _ [1, 2, 3] rfl (by decide +kernel)) ggX12_isPart_X12_within
set_option maxRecDepth 20000 in
theorem ggX12_open_X12_isPart : GoodIn wsX12_open wsX12_isPart := goodIn_r _ [7, 8, 9, 6, 10] rfl (by decide +kernel)
set_option maxRecDepth 20000 in
theorem gX12_open_X12_isPart : GoodIn wsX12_open (va_wsS RX12 390 yX12_isPart wsX12_isPart) := goodIn_app (goodIn_r _ [4, 5, 6] rfl (by decide +kernel)) ggX12_open_X12_isPart
set_option maxRecDepth 20000 in
theorem ggX12_open_X12_isLate : GoodIn wsX12_open wsX12_isLate := goodIn_r _ [13, 14, 8, 9, 6, 10] rfl (by decide +kernel)
set_option maxRecDepth 20000 in
theorem gX12_open_X12_isLate : GoodIn wsX12_open (va_wsS RX12 395 yX12_isLate wsX12_isLate) := goodIn_app (goodIn_r _ [11, 12, 6] rfl (by decide +kernel)) ggX12_open_X12_isLate
set_option maxRecDepth 20000 in
theorem ggX12_open_X12_laysBuys : GoodIn wsX12_open wsX12_laysBuys := goodIn_r _ [18, 19, 20, 21, 22, 23, 6, 24, 25, 26, 27, 28, 29, 30, 31, 32, 33, 34, 35, 36, 37, 38, 39, 40, 41, 42, 43, 44, 45, 46, 47, 48, 49, 50, 51, 52, 53, 54, 55, 56, 57, 58, 59, 60, 61, 107, 108, 109, 110, 111, 112, 113, 114, 115, 116, 117, 118, 119, 120, 121, 122, 123, 124, 125, 126, 127, 128, 129, 130, 131, 132, 133, 134, 135, 136, 137, 138] rfl (by decide +kernel)
set_option maxRecDepth 20000 in
theorem gX12_open_X12_laysBuys : GoodIn wsX12_open (wsV RX12 345 RX12 yX12_laysBuys wsX12_laysBuys) := goodIn_app (goodIn_r _ [15, 16, 17, 6] rfl (by decide +kernel)) ggX12_open_X12_laysBuys
set_option maxRecDepth 20000 in
theorem ggX12_open_X12_laysDays : GoodIn wsX12_open wsX12_laysDays := goodIn_r _ [65, 66, 67, 68, 69, 70, 71, 72, 6, 73, 19, 74, 75, 76, 77, 21, 22, 23, 24, 78, 79, 80, 81, 82, 83, 84, 85, 20, 29, 30, 31, 32, 33, 34, 35, 36, 107, 108, 109, 110, 111, 112, 113, 114, 115, 116, 117, 118, 119, 120, 121, 122, 123, 124, 125, 126, 127, 128, 129, 130, 131, 132, 133, 134, 135, 136, 137, 138] rfl (by decide +kernel)
set_option maxRecDepth 20000 in
theorem gX12_open_X12_laysDays : GoodIn wsX12_open (wsV RX12 398 RX12 yX12_laysDays wsX12_laysDays) := goodIn_app (goodIn_r _ [62, 63, 64, 6] rfl (by decide +kernel)) ggX12_open_X12_laysDays
set_option maxRecDepth 20000 in
theorem ggX12_open_X12_sumRows : GoodIn wsX12_open wsX12_sumRows := goodIn_r _ [89, 69, 107, 108, 109, 110, 111, 112, 113, 114, 115, 116, 117, 118, 119, 120, 121, 122, 123, 124, 125, 126, 127, 128, 129, 130, 131, 132, 133, 134, 135, 136, 137, 138] rfl (by decide +kernel)
set_option maxRecDepth 20000 in
theorem gX12_open_X12_sumRows : GoodIn wsX12_open (wsV RX12 401 RX12 yX12_sumRows wsX12_sumRows) := goodIn_app (goodIn_r _ [86, 87, 88, 6] rfl (by decide +kernel)) ggX12_open_X12_sumRows
set_option maxRecDepth 20000 in
theorem ggX12_open_X12_shutRows : GoodIn wsX12_open wsX12_shutRows := goodIn_r _ [93, 69, 29, 30, 31, 6, 32, 33, 34, 35, 36, 19, 21, 22, 23, 24, 107, 108, 109, 110, 111, 112, 113, 114, 115, 116, 117, 118, 119, 120, 121, 122, 123, 124, 125, 126, 127, 128, 129, 130, 131, 132, 133, 134, 135, 136, 137, 138] rfl (by decide +kernel)
set_option maxRecDepth 20000 in
theorem gX12_open_X12_shutRows : GoodIn wsX12_open (wsV RX12 368 RX12 yX12_shutRows wsX12_shutRows) := goodIn_app (goodIn_r _ [90, 91, 92, 6] rfl (by decide +kernel)) ggX12_open_X12_shutRows
set_option maxRecDepth 20000 in
theorem ggX12_open_X12_wholeOf : GoodIn wsX12_open wsX12_wholeOf := goodIn_r _ [97, 74, 75, 76, 6, 77, 19, 98, 99, 100, 107, 108, 109, 110, 111, 112, 113, 114, 115, 116, 117, 118, 119, 120, 121, 122, 123, 124, 125, 126, 127, 128, 129, 130, 131, 132, 133, 134, 135, 136, 137, 138] rfl (by decide +kernel)
set_option maxRecDepth 20000 in
theorem gX12_open_X12_wholeOf : GoodIn wsX12_open (wsV RX12 404 RX12 yX12_wholeOf wsX12_wholeOf) := goodIn_app (goodIn_r _ [94, 95, 96, 6] rfl (by decide +kernel)) ggX12_open_X12_wholeOf
set_option maxRecDepth 20000 in
theorem ggX12_open_X12_part : GoodIn wsX12_open wsX12_part := goodIn_r _ [103, 104, 105, 6, 106] rfl (by decide +kernel)
set_option maxRecDepth 20000 in
theorem gX12_open_X12_part : GoodIn wsX12_open (va_wsS RX12 408 yX12_part wsX12_part) := goodIn_app (goodIn_r _ [101, 102, 6] rfl (by decide +kernel)) ggX12_open_X12_part
set_option maxRecDepth 20000 in
theorem ggX12_likely_X12_within : GoodIn wsX12_likely wsX12_within := goodIn_r _ [6] rfl (by decide +kernel)
set_option maxRecDepth 20000 in
theorem gX12_likely_X12_within : GoodIn wsX12_likely (va_wsS RX12 142 yX12_within wsX12_within) := goodIn_app (goodIn_r _ [3, 4, 5] rfl (by decide +kernel)) ggX12_likely_X12_within
set_option maxRecDepth 20000 in
theorem ggX12_likely_X12_laysBuys : GoodIn wsX12_likely wsX12_laysBuys := goodIn_r _ [10, 11, 12, 13, 14, 15, 5, 16, 17, 18, 19, 20, 21, 22, 23, 24, 25, 26, 27, 28, 29, 30, 31, 32, 33, 34, 35, 36, 37, 38, 39, 40, 41, 42, 43, 44, 45, 46, 47, 48, 49, 50, 51, 52, 53, 92, 93, 94, 95, 96, 97, 98, 99, 100, 101, 102, 103, 104, 105, 106, 107, 108, 109, 110, 111, 112, 113, 114, 115, 116, 117, 118, 119, 120, 121, 122, 123] rfl (by decide +kernel)
set_option maxRecDepth 20000 in
theorem gX12_likely_X12_laysBuys : GoodIn wsX12_likely (wsV RX12 345 RX12 yX12_laysBuys wsX12_laysBuys) := goodIn_app (goodIn_r _ [7, 8, 9, 5] rfl (by decide +kernel)) ggX12_likely_X12_laysBuys
set_option maxRecDepth 20000 in
theorem ggX12_likely_X12_laysDays : GoodIn wsX12_likely wsX12_laysDays := goodIn_r _ [57, 58, 59, 60, 61, 62, 63, 64, 5, 65, 11, 66, 67, 68, 69, 13, 14, 15, 16, 70, 71, 72, 73, 74, 75, 76, 77, 12, 21, 22, 23, 24, 25, 26, 27, 28, 92, 93, 94, 95, 96, 97, 98, 99, 100, 101, 102, 103, 104, 105, 106, 107, 108, 109, 110, 111, 112, 113, 114, 115, 116, 117, 118, 119, 120, 121, 122, 123] rfl (by decide +kernel)
set_option maxRecDepth 20000 in
theorem gX12_likely_X12_laysDays : GoodIn wsX12_likely (wsV RX12 398 RX12 yX12_laysDays wsX12_laysDays) := goodIn_app (goodIn_r _ [54, 55, 56, 5] rfl (by decide +kernel)) ggX12_likely_X12_laysDays
set_option maxRecDepth 20000 in
theorem ggX12_likely_X12_shutRows : GoodIn wsX12_likely wsX12_shutRows := goodIn_r _ [81, 61, 21, 22, 23, 5, 24, 25, 26, 27, 28, 11, 13, 14, 15, 16, 92, 93, 94, 95, 96, 97, 98, 99, 100, 101, 102, 103, 104, 105, 106, 107, 108, 109, 110, 111, 112, 113, 114, 115, 116, 117, 118, 119, 120, 121, 122, 123] rfl (by decide +kernel)
set_option maxRecDepth 20000 in
theorem gX12_likely_X12_shutRows : GoodIn wsX12_likely (wsV RX12 368 RX12 yX12_shutRows wsX12_shutRows) := goodIn_app (goodIn_r _ [78, 79, 80, 5] rfl (by decide +kernel)) ggX12_likely_X12_shutRows
set_option maxRecDepth 20000 in
theorem ggX12_likely_X12_wholeOf : GoodIn wsX12_likely wsX12_wholeOf := goodIn_r _ [85, 66, 67, 68, 5, 69, 11, 86, 87, 88, 92, 93, 94, 95, 96, 97, 98, 99, 100, 101, 102, 103, 104, 105, 106, 107, 108, 109, 110, 111, 112, 113, 114, 115, 116, 117, 118, 119, 120, 121, 122, 123] rfl (by decide +kernel)
set_option maxRecDepth 20000 in
theorem gX12_likely_X12_wholeOf : GoodIn wsX12_likely (wsV RX12 404 RX12 yX12_wholeOf wsX12_wholeOf) := goodIn_app (goodIn_r _ [82, 83, 84, 5] rfl (by decide +kernel)) ggX12_likely_X12_wholeOf
set_option maxRecDepth 20000 in
theorem ggX12_likely_X12_isMuch : GoodIn wsX12_likely wsX12_isMuch := goodIn_r _ [91, 2] rfl (by decide +kernel)
set_option maxRecDepth 20000 in
theorem gX12_likely_X12_isMuch : GoodIn wsX12_likely (va_wsS RX12 412 yX12_isMuch wsX12_isMuch) := goodIn_app (goodIn_r _ [89, 90, 5] rfl (by decide +kernel)) ggX12_likely_X12_isMuch
set_option maxRecDepth 20000 in
theorem ggX12_shutsBy_X12_isBuyer : GoodIn wsX12_shutsBy wsX12_isBuyer := goodIn_r _ [9, 10, 11, 12, 8, 13, 103, 104, 105, 106, 107, 108, 109, 110, 111, 112, 113, 114, 115, 116, 117, 118, 119, 120, 121, 122, 123, 124, 125, 126, 127, 128, 129, 130, 131, 132, 133, 134] rfl (by decide +kernel)
set_option maxRecDepth 20000 in
theorem gX12_shutsBy_X12_isBuyer : GoodIn wsX12_shutsBy (wsV RX12 252 RX12 yX12_isBuyer wsX12_isBuyer) := goodIn_app (goodIn_r _ [5, 6, 7, 8] rfl (by decide +kernel)) ggX12_shutsBy_X12_isBuyer
set_option maxRecDepth 20000 in
theorem ggX12_shutsBy_X12_isPart : GoodIn wsX12_shutsBy wsX12_isPart := goodIn_r _ [16, 11, 12, 8, 13] rfl (by decide +kernel)
set_option maxRecDepth 20000 in
theorem gX12_shutsBy_X12_isPart : GoodIn wsX12_shutsBy (va_wsS RX12 390 yX12_isPart wsX12_isPart) := goodIn_app (goodIn_r _ [14, 15, 8] rfl (by decide +kernel)) ggX12_shutsBy_X12_isPart
set_option maxRecDepth 20000 in
theorem ggX12_shutsBy_X12_isLate : GoodIn wsX12_shutsBy wsX12_isLate := goodIn_r _ [19, 20, 11, 12, 8, 13] rfl (by decide +kernel)
set_option maxRecDepth 20000 in
theorem gX12_shutsBy_X12_isLate : GoodIn wsX12_shutsBy (va_wsS RX12 395 yX12_isLate wsX12_isLate) := goodIn_app (goodIn_r _ [17, 18, 8] rfl (by decide +kernel)) ggX12_shutsBy_X12_isLate
set_option maxRecDepth 20000 in
theorem ggX12_shutsBy_X12_laysBuys : GoodIn wsX12_shutsBy wsX12_laysBuys := goodIn_r _ [24, 10, 25, 26, 27, 28, 8, 29, 30, 31, 32, 33, 34, 35, 36, 37, 38, 39, 40, 41, 42, 43, 44, 45, 46, 47, 48, 49, 50, 51, 52, 53, 54, 55, 56, 57, 58, 59, 60, 61, 62, 63, 64, 65, 66, 103, 104, 105, 106, 107, 108, 109, 110, 111, 112, 113, 114, 115, 116, 117, 118, 119, 120, 121, 122, 123, 124, 125, 126, 127, 128, 129, 130, 131, 132, 133, 134] rfl (by decide +kernel)
set_option maxRecDepth 20000 in
theorem gX12_shutsBy_X12_laysBuys : GoodIn wsX12_shutsBy (wsV RX12 345 RX12 yX12_laysBuys wsX12_laysBuys) := goodIn_app (goodIn_r _ [21, 22, 23, 8] rfl (by decide +kernel)) ggX12_shutsBy_X12_laysBuys
set_option maxRecDepth 20000 in
theorem ggX12_shutsBy_X12_laysDays : GoodIn wsX12_shutsBy wsX12_laysDays := goodIn_r _ [70, 71, 4, 72, 73, 74, 75, 76, 8, 77, 10, 78, 79, 80, 81, 26, 27, 28, 29, 82, 83, 84, 85, 86, 87, 88, 89, 25, 34, 35, 36, 37, 38, 39, 40, 41, 103, 104, 105, 106, 107, 108, 109, 110, 111, 112, 113, 114, 115, 116, 117, 118, 119, 120, 121, 122, 123, 124, 125, 126, 127, 128, 129, 130, 131, 132, 133, 134] rfl (by decide +kernel)
set_option maxRecDepth 20000 in
theorem gX12_shutsBy_X12_laysDays : GoodIn wsX12_shutsBy (wsV RX12 398 RX12 yX12_laysDays wsX12_laysDays) := goodIn_app (goodIn_r _ [67, 68, 69, 8] rfl (by decide +kernel)) ggX12_shutsBy_X12_laysDays
set_option maxRecDepth 20000 in
theorem ggX12_shutsBy_X12_wholeOf : GoodIn wsX12_shutsBy wsX12_wholeOf := goodIn_r _ [93, 78, 79, 80, 8, 81, 10, 94, 95, 96, 103, 104, 105, 106, 107, 108, 109, 110, 111, 112, 113, 114, 115, 116, 117, 118, 119, 120, 121, 122, 123, 124, 125, 126, 127, 128, 129, 130, 131, 132, 133, 134] rfl (by decide +kernel)
set_option maxRecDepth 20000 in
theorem gX12_shutsBy_X12_wholeOf : GoodIn wsX12_shutsBy (wsV RX12 404 RX12 yX12_wholeOf wsX12_wholeOf) := goodIn_app (goodIn_r _ [90, 91, 92, 8] rfl (by decide +kernel)) ggX12_shutsBy_X12_wholeOf
set_option maxRecDepth 20000 in
theorem ggX12_shutsBy_X12_part : GoodIn wsX12_shutsBy wsX12_part := goodIn_r _ [99, 100, 101, 8, 102] rfl (by decide +kernel)
set_option maxRecDepth 20000 in
theorem gX12_shutsBy_X12_part : GoodIn wsX12_shutsBy (va_wsS RX12 408 yX12_part wsX12_part) := goodIn_app (goodIn_r _ [97, 98, 8] rfl (by decide +kernel)) ggX12_shutsBy_X12_part
set_option maxRecDepth 20000 in
theorem ggX12_closer_X12_isLate : GoodIn wsX12_closer wsX12_isLate := goodIn_r _ [7, 8, 9, 10, 6, 11] rfl (by decide +kernel)
set_option maxRecDepth 20000 in
theorem gX12_closer_X12_isLate : GoodIn wsX12_closer (va_wsS RX12 395 yX12_isLate wsX12_isLate) := goodIn_app (goodIn_r _ [4, 5, 6] rfl (by decide +kernel)) ggX12_closer_X12_isLate
set_option maxRecDepth 20000 in
theorem ggX12_closer_X12_laysBuys : GoodIn wsX12_closer wsX12_laysBuys := goodIn_r _ [15, 2, 16, 17, 18, 19, 6, 20, 21, 22, 23, 24, 25, 26, 27, 28, 29, 30, 31, 32, 33, 34, 35, 36, 37, 38, 39, 40, 41, 42, 43, 44, 45, 46, 47, 48, 49, 50, 51, 52, 53, 54, 55, 56, 57, 81, 82, 83, 84, 85, 86, 87, 88, 89, 90, 91, 92, 93, 94, 95, 96, 97, 98, 99, 100, 101, 102, 103, 104, 105, 106, 107, 108, 109, 110, 111, 112] rfl (by decide +kernel)
set_option maxRecDepth 20000 in
theorem gX12_closer_X12_laysBuys : GoodIn wsX12_closer (wsV RX12 345 RX12 yX12_laysBuys wsX12_laysBuys) := goodIn_app (goodIn_r _ [12, 13, 14, 6] rfl (by decide +kernel)) ggX12_closer_X12_laysBuys
set_option maxRecDepth 20000 in
theorem ggX12_closer_X12_laysDays : GoodIn wsX12_closer wsX12_laysDays := goodIn_r _ [61, 62, 3, 63, 64, 65, 66, 67, 6, 68, 2, 69, 70, 71, 72, 17, 18, 19, 20, 73, 74, 75, 76, 77, 78, 79, 80, 16, 25, 26, 27, 28, 29, 30, 31, 32, 81, 82, 83, 84, 85, 86, 87, 88, 89, 90, 91, 92, 93, 94, 95, 96, 97, 98, 99, 100, 101, 102, 103, 104, 105, 106, 107, 108, 109, 110, 111, 112] rfl (by decide +kernel)
set_option maxRecDepth 20000 in
theorem gX12_closer_X12_laysDays : GoodIn wsX12_closer (wsV RX12 398 RX12 yX12_laysDays wsX12_laysDays) := goodIn_app (goodIn_r _ [58, 59, 60, 6] rfl (by decide +kernel)) ggX12_closer_X12_laysDays
set_option maxRecDepth 20000 in
theorem ggX12_soldIn_X12_isKind : GoodIn wsX12_soldIn wsX12_isKind := goodIn_r _ [9, 10, 11, 12, 8, 13, 103, 104, 105, 106, 107, 108, 109, 110, 111, 112, 113, 114, 115, 116, 117, 118, 119, 120, 121, 122, 123, 124, 125, 126, 127, 128, 129, 130, 131, 132, 133, 134] rfl (by decide +kernel)
set_option maxRecDepth 20000 in
theorem gX12_soldIn_X12_isKind : GoodIn wsX12_soldIn (wsV RX12 245 RX12 yX12_isKind wsX12_isKind) := goodIn_app (goodIn_r _ [5, 6, 7, 8] rfl (by decide +kernel)) ggX12_soldIn_X12_isKind
set_option maxRecDepth 20000 in
theorem ggX12_soldIn_X12_isPart : GoodIn wsX12_soldIn wsX12_isPart := goodIn_r _ [16, 11, 12, 8, 13] rfl (by decide +kernel)
set_option maxRecDepth 20000 in
theorem gX12_soldIn_X12_isPart : GoodIn wsX12_soldIn (va_wsS RX12 390 yX12_isPart wsX12_isPart) := goodIn_app (goodIn_r _ [14, 15, 8] rfl (by decide +kernel)) ggX12_soldIn_X12_isPart
set_option maxRecDepth 20000 in
theorem ggX12_soldIn_X12_isLate : GoodIn wsX12_soldIn wsX12_isLate := goodIn_r _ [19, 20, 11, 12, 8, 13] rfl (by decide +kernel)
set_option maxRecDepth 20000 in
theorem gX12_soldIn_X12_isLate : GoodIn wsX12_soldIn (va_wsS RX12 395 yX12_isLate wsX12_isLate) := goodIn_app (goodIn_r _ [17, 18, 8] rfl (by decide +kernel)) ggX12_soldIn_X12_isLate
set_option maxRecDepth 20000 in
theorem ggX12_soldIn_X12_laysBuys : GoodIn wsX12_soldIn wsX12_laysBuys := goodIn_r _ [24, 10, 25, 26, 27, 28, 8, 29, 30, 31, 32, 33, 34, 35, 36, 37, 38, 39, 40, 41, 42, 43, 44, 45, 46, 47, 48, 49, 50, 51, 52, 53, 54, 55, 56, 57, 58, 59, 60, 61, 62, 63, 64, 65, 66, 103, 104, 105, 106, 107, 108, 109, 110, 111, 112, 113, 114, 115, 116, 117, 118, 119, 120, 121, 122, 123, 124, 125, 126, 127, 128, 129, 130, 131, 132, 133, 134] rfl (by decide +kernel)
set_option maxRecDepth 20000 in
theorem gX12_soldIn_X12_laysBuys : GoodIn wsX12_soldIn (wsV RX12 345 RX12 yX12_laysBuys wsX12_laysBuys) := goodIn_app (goodIn_r _ [21, 22, 23, 8] rfl (by decide +kernel)) ggX12_soldIn_X12_laysBuys
set_option maxRecDepth 20000 in
theorem ggX12_soldIn_X12_laysDays : GoodIn wsX12_soldIn wsX12_laysDays := goodIn_r _ [70, 71, 72, 73, 4, 74, 75, 76, 8, 77, 10, 78, 79, 80, 81, 26, 27, 28, 29, 82, 83, 84, 85, 86, 87, 88, 89, 25, 34, 35, 36, 37, 38, 39, 40, 41, 103, 104, 105, 106, 107, 108, 109, 110, 111, 112, 113, 114, 115, 116, 117, 118, 119, 120, 121, 122, 123, 124, 125, 126, 127, 128, 129, 130, 131, 132, 133, 134] rfl (by decide +kernel)
set_option maxRecDepth 20000 in
theorem gX12_soldIn_X12_laysDays : GoodIn wsX12_soldIn (wsV RX12 398 RX12 yX12_laysDays wsX12_laysDays) := goodIn_app (goodIn_r _ [67, 68, 69, 8] rfl (by decide +kernel)) ggX12_soldIn_X12_laysDays
set_option maxRecDepth 20000 in
theorem ggX12_soldIn_X12_isIn : GoodIn wsX12_soldIn wsX12_isIn := goodIn_r _ [48] rfl (by decide +kernel)
set_option maxRecDepth 20000 in
theorem gX12_soldIn_X12_isIn : GoodIn wsX12_soldIn (va_wsS RX12 228 yX12_isIn wsX12_isIn) := goodIn_app (goodIn_r _ [46, 47, 8] rfl (by decide +kernel)) ggX12_soldIn_X12_isIn
set_option maxRecDepth 20000 in
theorem ggX12_soldIn_X12_wholeOf : GoodIn wsX12_soldIn wsX12_wholeOf := goodIn_r _ [93, 78, 79, 80, 8, 81, 10, 94, 95, 96, 103, 104, 105, 106, 107, 108, 109, 110, 111, 112, 113, 114, 115, 116, 117, 118, 119, 120, 121, 122, 123, 124, 125, 126, 127, 128, 129, 130, 131, 132, 133, 134] rfl (by decide +kernel)
set_option maxRecDepth 20000 in
theorem gX12_soldIn_X12_wholeOf : GoodIn wsX12_soldIn (wsV RX12 404 RX12 yX12_wholeOf wsX12_wholeOf) := goodIn_app (goodIn_r _ [90, 91, 92, 8] rfl (by decide +kernel)) ggX12_soldIn_X12_wholeOf
set_option maxRecDepth 20000 in
theorem ggX12_soldIn_X12_part : GoodIn wsX12_soldIn wsX12_part := goodIn_r _ [99, 100, 101, 8, 102] rfl (by decide +kernel)
set_option maxRecDepth 20000 in
theorem gX12_soldIn_X12_part : GoodIn wsX12_soldIn (va_wsS RX12 408 yX12_part wsX12_part) := goodIn_app (goodIn_r _ [97, 98, 8] rfl (by decide +kernel)) ggX12_soldIn_X12_part
set_option maxRecDepth 20000 in
theorem ggX12_openBy_X12_laysBuys : GoodIn wsX12_openBy wsX12_laysBuys := goodIn_r _ [6, 1, 7, 8, 9, 10, 5, 11, 12, 13, 14, 15, 16, 17, 18, 19, 20, 21, 22, 23, 24, 25, 26, 27, 28, 29, 30, 31, 32, 33, 34, 35, 36, 37, 38, 39, 40, 41, 42, 43, 44, 45, 46, 47, 48, 81, 82, 83, 84, 85, 86, 87, 88, 89, 90, 91, 92, 93, 94, 95, 96, 97, 98, 99, 100, 101, 102, 103, 104, 105, 106, 107, 108, 109, 110, 111, 112] rfl (by decide +kernel)
set_option maxRecDepth 20000 in
theorem gX12_openBy_X12_laysBuys : GoodIn wsX12_openBy (wsV RX12 345 RX12 yX12_laysBuys wsX12_laysBuys) := goodIn_app (goodIn_r _ [2, 3, 4, 5] rfl (by decide +kernel)) ggX12_openBy_X12_laysBuys
set_option maxRecDepth 20000 in
theorem ggX12_openBy_X12_laysDays : GoodIn wsX12_openBy wsX12_laysDays := goodIn_r _ [52, 53, 54, 55, 56, 57, 58, 59, 5, 60, 1, 61, 62, 63, 64, 8, 9, 10, 11, 65, 66, 67, 68, 69, 70, 71, 72, 7, 16, 17, 18, 19, 20, 21, 22, 23, 81, 82, 83, 84, 85, 86, 87, 88, 89, 90, 91, 92, 93, 94, 95, 96, 97, 98, 99, 100, 101, 102, 103, 104, 105, 106, 107, 108, 109, 110, 111, 112] rfl (by decide +kernel)
set_option maxRecDepth 20000 in
theorem gX12_openBy_X12_laysDays : GoodIn wsX12_openBy (wsV RX12 398 RX12 yX12_laysDays wsX12_laysDays) := goodIn_app (goodIn_r _ [49, 50, 51, 5] rfl (by decide +kernel)) ggX12_openBy_X12_laysDays
set_option maxRecDepth 20000 in
theorem ggX12_openBy_X12_sumRows : GoodIn wsX12_openBy wsX12_sumRows := goodIn_r _ [76, 56, 81, 82, 83, 84, 85, 86, 87, 88, 89, 90, 91, 92, 93, 94, 95, 96, 97, 98, 99, 100, 101, 102, 103, 104, 105, 106, 107, 108, 109, 110, 111, 112] rfl (by decide +kernel)
set_option maxRecDepth 20000 in
theorem gX12_openBy_X12_sumRows : GoodIn wsX12_openBy (wsV RX12 401 RX12 yX12_sumRows wsX12_sumRows) := goodIn_app (goodIn_r _ [73, 74, 75, 5] rfl (by decide +kernel)) ggX12_openBy_X12_sumRows
set_option maxRecDepth 20000 in
theorem ggX12_openBy_X12_shutRows : GoodIn wsX12_openBy wsX12_shutRows := goodIn_r _ [80, 56, 16, 17, 18, 5, 19, 20, 21, 22, 23, 1, 8, 9, 10, 11, 81, 82, 83, 84, 85, 86, 87, 88, 89, 90, 91, 92, 93, 94, 95, 96, 97, 98, 99, 100, 101, 102, 103, 104, 105, 106, 107, 108, 109, 110, 111, 112] rfl (by decide +kernel)
set_option maxRecDepth 20000 in
theorem gX12_openBy_X12_shutRows : GoodIn wsX12_openBy (wsV RX12 368 RX12 yX12_shutRows wsX12_shutRows) := goodIn_app (goodIn_r _ [77, 78, 79, 5] rfl (by decide +kernel)) ggX12_openBy_X12_shutRows
set_option maxRecDepth 20000 in
theorem ggX12_hides_X12_isPart : GoodIn wsX12_hides wsX12_isPart := goodIn_r _ [7, 8, 9, 6, 10] rfl (by decide +kernel)
set_option maxRecDepth 20000 in
theorem gX12_hides_X12_isPart : GoodIn wsX12_hides (va_wsS RX12 390 yX12_isPart wsX12_isPart) := goodIn_app (goodIn_r _ [4, 5, 6] rfl (by decide +kernel)) ggX12_hides_X12_isPart
set_option maxRecDepth 20000 in
theorem ggX12_hides_X12_within : GoodIn wsX12_hides wsX12_within := goodIn_r _ [10] rfl (by decide +kernel)
set_option maxRecDepth 20000 in
theorem gX12_hides_X12_within : GoodIn wsX12_hides (va_wsS RX12 142 yX12_within wsX12_within) := goodIn_app (goodIn_r _ [8, 9, 6] rfl (by decide +kernel)) ggX12_hides_X12_within
set_option maxRecDepth 20000 in
theorem ggX12_hides_X12_isShut : GoodIn wsX12_hides wsX12_isShut := goodIn_r _ [14, 15, 16, 17, 18, 6, 19, 20, 21, 22, 23, 24, 25, 26, 27, 98, 99, 100, 101, 102, 103, 104, 105, 106, 107, 108, 109, 110, 111, 112, 113, 114, 115, 116, 117, 118, 119, 120, 121, 122, 123, 124, 125, 126, 127, 128, 129] rfl (by decide +kernel)
set_option maxRecDepth 20000 in
theorem gX12_hides_X12_isShut : GoodIn wsX12_hides (wsV RX12 259 RX12 yX12_isShut wsX12_isShut) := goodIn_app (goodIn_r _ [11, 12, 13, 6] rfl (by decide +kernel)) ggX12_hides_X12_isShut
set_option maxRecDepth 20000 in
theorem ggX12_hides_X12_openBy : GoodIn wsX12_hides wsX12_openBy := goodIn_r _ [31, 15, 32, 33, 34, 6, 35, 36, 24, 25, 26, 27, 37, 38, 39, 40, 16, 17, 18, 19, 20, 21, 22, 23, 41, 42, 43, 44, 45, 46, 47, 48, 49, 50, 51, 52, 53, 54, 55, 56, 57, 58, 59, 60, 61, 62, 63, 64, 65, 66, 67, 68, 69, 70, 71, 72, 73, 74, 75, 76, 77, 78, 79, 80, 81, 82, 83, 84, 85, 86, 87, 88, 89, 90, 91, 92, 93, 94, 95, 96, 97, 98, 99, 100, 101, 102, 103, 104, 105, 106, 107, 108, 109, 110, 111, 112, 113, 114, 115, 116, 117, 118, 119, 120, 121, 122, 123, 124, 125, 126, 127, 128, 129] rfl (by decide +kernel)
set_option maxRecDepth 20000 in
theorem gX12_hides_X12_openBy : GoodIn wsX12_hides (wsV RX12 418 RX12 yX12_openBy wsX12_openBy) := goodIn_app (goodIn_r _ [28, 29, 30, 6] rfl (by decide +kernel)) ggX12_hides_X12_openBy
set_option maxRecDepth 20000 in
theorem ggX12_hides_X12_shown : GoodIn wsX12_hides wsX12_shown := goodIn_r _ [23, 15, 24, 25, 26, 6, 27, 98, 99, 100, 101, 102, 103, 104, 105, 106, 107, 108, 109, 110, 111, 112, 113, 114, 115, 116, 117, 118, 119, 120, 121, 122, 123, 124, 125, 126, 127, 128, 129] rfl (by decide +kernel)
set_option maxRecDepth 20000 in
theorem gX12_hides_X12_shown : GoodIn wsX12_hides (wsV RX12 207 RX12 yX12_shown wsX12_shown) := goodIn_app (goodIn_r _ [20, 21, 22, 6] rfl (by decide +kernel)) ggX12_hides_X12_shown
set_option maxRecDepth 20000 in
theorem ggX12_hides_X12_bitsOf : GoodIn wsX12_hides wsX12_bitsOf := goodIn_r _ [56] rfl (by decide +kernel)
set_option maxRecDepth 20000 in
theorem gX12_hides_X12_bitsOf : GoodIn wsX12_hides (va_wsS RX12 217 yX12_bitsOf wsX12_bitsOf) := goodIn_app (goodIn_r _ [54, 55, 6] rfl (by decide +kernel)) ggX12_hides_X12_bitsOf
set_option maxRecDepth 20000 in
theorem ggX12_buyersNow_X12_buysNow : GoodIn wsX12_buyersNow wsX12_buysNow := goodIn_r _ [6, 1, 7, 8, 9, 5, 10, 11, 12, 13, 14, 15, 16, 17, 18, 19, 20, 21, 22, 23, 24, 25, 26, 27, 28, 29, 30, 31, 32, 33, 34, 35, 36, 37, 38, 39, 40, 41, 42, 43, 44, 45, 46, 47, 48, 49, 50, 51, 52, 53, 54, 55, 56, 57, 58, 59, 60, 61, 62, 63, 64, 65, 66, 67, 68, 69, 70, 71, 72, 73, 74, 75, 76, 77, 78, 79] rfl (by decide +kernel)
set_option maxRecDepth 20000 in
theorem gX12_buyersNow_X12_buysNow : GoodIn wsX12_buyersNow (wsV RX12 242 RX12 yX12_buysNow wsX12_buysNow) := goodIn_app (goodIn_r _ [2, 3, 4, 5] rfl (by decide +kernel)) ggX12_buyersNow_X12_buysNow
set_option maxRecDepth 20000 in
theorem ggX12_staysOpen_X12_buyersNow : GoodIn wsX12_staysOpen wsX12_buyersNow := goodIn_r _ [6, 1, 7, 8, 9, 5, 10, 11, 12, 13, 14, 15, 16, 17, 18, 19, 20, 21, 22, 23, 24, 25, 26, 27, 28, 29, 30, 31, 32, 33, 34, 35, 36, 37, 38, 39, 40, 41, 42, 43, 44, 45, 46, 47, 48, 49, 50, 51, 71, 72, 73, 74, 75, 76, 77, 78, 79, 80, 81, 82, 83, 84, 85, 86, 87, 88, 89, 90, 91, 92, 93, 94, 95, 96, 97, 98, 99, 100, 101, 102] rfl (by decide +kernel)
set_option maxRecDepth 20000 in
theorem gX12_staysOpen_X12_buyersNow : GoodIn wsX12_staysOpen (wsV RX12 422 RX12 yX12_buyersNow wsX12_buyersNow) := goodIn_app (goodIn_r _ [2, 3, 4, 5] rfl (by decide +kernel)) ggX12_staysOpen_X12_buyersNow
set_option maxRecDepth 20000 in
theorem ggX12_staysOpen_X12_endingNow : GoodIn wsX12_staysOpen wsX12_endingNow := goodIn_r _ [55, 56, 57, 58, 5, 59, 1, 60, 23, 24, 25, 26, 11, 12, 13, 14, 15, 16, 17, 18, 19, 20, 21, 22, 27, 28, 29, 30, 31, 32, 33, 34, 35, 36, 37, 38, 39, 40, 41, 42, 43, 44, 45, 46, 47, 48, 49, 50, 51, 61, 62, 63, 64, 65, 66, 67, 68, 69, 70, 71, 72, 73, 74, 75, 76, 77, 78, 79, 80, 81, 82, 83, 84, 85, 86, 87, 88, 89, 90, 91, 92, 93, 94, 95, 96, 97, 98, 99, 100, 101, 102] rfl (by decide +kernel)
set_option maxRecDepth 20000 in
theorem gX12_staysOpen_X12_endingNow : GoodIn wsX12_staysOpen (wsV RX12 351 RX12 yX12_endingNow wsX12_endingNow) := goodIn_app (goodIn_r _ [52, 53, 54, 5] rfl (by decide +kernel)) ggX12_staysOpen_X12_endingNow
set_option maxRecDepth 20000 in
theorem ggX12_rota_X12_isPart : GoodIn wsX12_rota wsX12_isPart := goodIn_r _ [5, 6, 7, 4, 8] rfl (by decide +kernel)
set_option maxRecDepth 20000 in
theorem gX12_rota_X12_isPart : GoodIn wsX12_rota (va_wsS RX12 390 yX12_isPart wsX12_isPart) := goodIn_app (goodIn_r _ [2, 3, 4] rfl (by decide +kernel)) ggX12_rota_X12_isPart
set_option maxRecDepth 20000 in
theorem ggX12_rota_X12_isShut : GoodIn wsX12_rota wsX12_isShut := goodIn_r _ [12, 13, 14, 15, 16, 4, 17, 18, 19, 20, 21, 22, 23, 24, 25, 86, 87, 88, 89, 90, 91, 92, 93, 94, 95, 96, 97, 98, 99, 100, 101, 102, 103, 104, 105, 106, 107, 108, 109, 110, 111, 112, 113, 114, 115, 116, 117] rfl (by decide +kernel)
set_option maxRecDepth 20000 in
theorem gX12_rota_X12_isShut : GoodIn wsX12_rota (wsV RX12 259 RX12 yX12_isShut wsX12_isShut) := goodIn_app (goodIn_r _ [9, 10, 11, 4] rfl (by decide +kernel)) ggX12_rota_X12_isShut
set_option maxRecDepth 20000 in
theorem ggX12_rota_X12_buyersNow : GoodIn wsX12_rota wsX12_buyersNow := goodIn_r _ [29, 13, 30, 31, 32, 4, 33, 34, 35, 36, 37, 14, 15, 16, 17, 18, 19, 20, 21, 22, 23, 24, 25, 38, 39, 40, 41, 42, 43, 44, 45, 46, 47, 48, 49, 50, 51, 52, 53, 54, 55, 56, 57, 58, 59, 60, 61, 62, 86, 87, 88, 89, 90, 91, 92, 93, 94, 95, 96, 97, 98, 99, 100, 101, 102, 103, 104, 105, 106, 107, 108, 109, 110, 111, 112, 113, 114, 115, 116, 117] rfl (by decide +kernel)
set_option maxRecDepth 20000 in
theorem gX12_rota_X12_buyersNow : GoodIn wsX12_rota (wsV RX12 422 RX12 yX12_buyersNow wsX12_buyersNow) := goodIn_app (goodIn_r _ [26, 27, 28, 4] rfl (by decide +kernel)) ggX12_rota_X12_buyersNow
set_option maxRecDepth 20000 in
theorem ggX12_rota_X12_shown : GoodIn wsX12_rota wsX12_shown := goodIn_r _ [21, 13, 22, 23, 24, 4, 25, 86, 87, 88, 89, 90, 91, 92, 93, 94, 95, 96, 97, 98, 99, 100, 101, 102, 103, 104, 105, 106, 107, 108, 109, 110, 111, 112, 113, 114, 115, 116, 117] rfl (by decide +kernel)
set_option maxRecDepth 20000 in
theorem gX12_rota_X12_shown : GoodIn wsX12_rota (wsV RX12 207 RX12 yX12_shown wsX12_shown) := goodIn_app (goodIn_r _ [18, 19, 20, 4] rfl (by decide +kernel)) ggX12_rota_X12_shown
set_option maxRecDepth 20000 in
theorem ggX12_rota_X12_bitsOf : GoodIn wsX12_rota wsX12_bitsOf := goodIn_r _ [53] rfl (by decide +kernel)
set_option maxRecDepth 20000 in
theorem gX12_rota_X12_bitsOf : GoodIn wsX12_rota (va_wsS RX12 217 yX12_bitsOf wsX12_bitsOf) := goodIn_app (goodIn_r _ [51, 52, 4] rfl (by decide +kernel)) ggX12_rota_X12_bitsOf
set_option maxRecDepth 20000 in
theorem ggX12_rota_X12_staysOpen : GoodIn wsX12_rota wsX12_staysOpen := goodIn_r _ [66, 13, 26, 27, 28, 4, 29, 30, 31, 32, 33, 34, 35, 36, 37, 14, 15, 16, 17, 18, 19, 20, 21, 22, 23, 24, 25, 38, 39, 40, 41, 42, 43, 44, 45, 46, 47, 48, 49, 50, 51, 52, 53, 54, 55, 56, 57, 58, 59, 60, 61, 62, 67, 68, 69, 70, 71, 72, 73, 74, 75, 76, 77, 78, 79, 80, 81, 82, 83, 84, 85, 86, 87, 88, 89, 90, 91, 92, 93, 94, 95, 96, 97, 98, 99, 100, 101, 102, 103, 104, 105, 106, 107, 108, 109, 110, 111, 112, 113, 114, 115, 116, 117] rfl (by decide +kernel)
set_option maxRecDepth 20000 in
theorem gX12_rota_X12_staysOpen : GoodIn wsX12_rota (wsV RX12 425 RX12 yX12_staysOpen wsX12_staysOpen) := goodIn_app (goodIn_r _ [63, 64, 65, 4] rfl (by decide +kernel)) ggX12_rota_X12_staysOpen
set_option maxRecDepth 20000 in
theorem ggX12_earns_X12_isPart : GoodIn wsX12_earns wsX12_isPart := goodIn_r _ [9, 10, 11, 8, 12] rfl (by decide +kernel)
set_option maxRecDepth 20000 in
theorem gX12_earns_X12_isPart : GoodIn wsX12_earns (va_wsS RX12 390 yX12_isPart wsX12_isPart) := goodIn_app (goodIn_r _ [6, 7, 8] rfl (by decide +kernel)) ggX12_earns_X12_isPart
set_option maxRecDepth 20000 in
theorem ggX12_earns_X12_within : GoodIn wsX12_earns wsX12_within := goodIn_r _ [12] rfl (by decide +kernel)
set_option maxRecDepth 20000 in
theorem gX12_earns_X12_within : GoodIn wsX12_earns (va_wsS RX12 142 yX12_within wsX12_within) := goodIn_app (goodIn_r _ [10, 11, 8] rfl (by decide +kernel)) ggX12_earns_X12_within
set_option maxRecDepth 20000 in
theorem ggX12_earns_X12_laysBuys : GoodIn wsX12_earns wsX12_laysBuys := goodIn_r _ [16, 17, 18, 19, 20, 21, 8, 22, 23, 24, 25, 26, 27, 28, 29, 30, 31, 32, 33, 34, 35, 36, 37, 38, 39, 40, 41, 42, 43, 44, 45, 46, 47, 48, 49, 50, 51, 52, 53, 54, 55, 56, 57, 58, 59, 96, 97, 98, 99, 100, 101, 102, 103, 104, 105, 106, 107, 108, 109, 110, 111, 112, 113, 114, 115, 116, 117, 118, 119, 120, 121, 122, 123, 124, 125, 126, 127] rfl (by decide +kernel)
set_option maxRecDepth 20000 in
theorem gX12_earns_X12_laysBuys : GoodIn wsX12_earns (wsV RX12 345 RX12 yX12_laysBuys wsX12_laysBuys) := goodIn_app (goodIn_r _ [13, 14, 15, 8] rfl (by decide +kernel)) ggX12_earns_X12_laysBuys
set_option maxRecDepth 20000 in
theorem ggX12_earns_X12_laysDays : GoodIn wsX12_earns wsX12_laysDays := goodIn_r _ [63, 5, 64, 65, 66, 67, 68, 69, 8, 70, 17, 71, 72, 73, 74, 19, 20, 21, 22, 75, 76, 77, 78, 79, 80, 81, 82, 18, 27, 28, 29, 30, 31, 32, 33, 34, 96, 97, 98, 99, 100, 101, 102, 103, 104, 105, 106, 107, 108, 109, 110, 111, 112, 113, 114, 115, 116, 117, 118, 119, 120, 121, 122, 123, 124, 125, 126, 127] rfl (by decide +kernel)
set_option maxRecDepth 20000 in
theorem gX12_earns_X12_laysDays : GoodIn wsX12_earns (wsV RX12 398 RX12 yX12_laysDays wsX12_laysDays) := goodIn_app (goodIn_r _ [60, 61, 62, 8] rfl (by decide +kernel)) ggX12_earns_X12_laysDays
set_option maxRecDepth 20000 in
theorem ggX12_earns_X12_wholeOf : GoodIn wsX12_earns wsX12_wholeOf := goodIn_r _ [86, 71, 72, 73, 8, 74, 17, 87, 88, 89, 96, 97, 98, 99, 100, 101, 102, 103, 104, 105, 106, 107, 108, 109, 110, 111, 112, 113, 114, 115, 116, 117, 118, 119, 120, 121, 122, 123, 124, 125, 126, 127] rfl (by decide +kernel)
set_option maxRecDepth 20000 in
theorem gX12_earns_X12_wholeOf : GoodIn wsX12_earns (wsV RX12 404 RX12 yX12_wholeOf wsX12_wholeOf) := goodIn_app (goodIn_r _ [83, 84, 85, 8] rfl (by decide +kernel)) ggX12_earns_X12_wholeOf
set_option maxRecDepth 20000 in
theorem ggX12_earns_X12_part : GoodIn wsX12_earns wsX12_part := goodIn_r _ [92, 93, 94, 8, 95] rfl (by decide +kernel)
set_option maxRecDepth 20000 in
theorem gX12_earns_X12_part : GoodIn wsX12_earns (va_wsS RX12 408 yX12_part wsX12_part) := goodIn_app (goodIn_r _ [90, 91, 8] rfl (by decide +kernel)) ggX12_earns_X12_part
set_option maxRecDepth 20000 in
theorem ggX12_bestPrice_X12_isKind : GoodIn wsX12_bestPrice wsX12_isKind := goodIn_r _ [10, 3, 11, 12, 9, 13, 87, 88, 89, 90, 91, 92, 93, 94, 95, 96, 97, 98, 99, 100, 101, 102, 103, 104, 105, 106, 107, 108, 109, 110, 111, 112, 113, 114, 115, 116, 117, 118] rfl (by decide +kernel)
set_option maxRecDepth 20000 in
theorem gX12_bestPrice_X12_isKind : GoodIn wsX12_bestPrice (wsV RX12 245 RX12 yX12_isKind wsX12_isKind) := goodIn_app (goodIn_r _ [6, 7, 8, 9] rfl (by decide +kernel)) ggX12_bestPrice_X12_isKind
set_option maxRecDepth 20000 in
theorem ggX12_bestPrice_X12_within : GoodIn wsX12_bestPrice wsX12_within := goodIn_r _ [13] rfl (by decide +kernel)
set_option maxRecDepth 20000 in
theorem gX12_bestPrice_X12_within : GoodIn wsX12_bestPrice (va_wsS RX12 142 yX12_within wsX12_within) := goodIn_app (goodIn_r _ [11, 12, 9] rfl (by decide +kernel)) ggX12_bestPrice_X12_within
set_option maxRecDepth 20000 in
theorem ggX12_bestPrice_X12_isShut : GoodIn wsX12_bestPrice wsX12_isShut := goodIn_r _ [17, 3, 18, 19, 20, 9, 21, 22, 23, 24, 25, 26, 27, 28, 29, 87, 88, 89, 90, 91, 92, 93, 94, 95, 96, 97, 98, 99, 100, 101, 102, 103, 104, 105, 106, 107, 108, 109, 110, 111, 112, 113, 114, 115, 116, 117, 118] rfl (by decide +kernel)
set_option maxRecDepth 20000 in
theorem gX12_bestPrice_X12_isShut : GoodIn wsX12_bestPrice (wsV RX12 259 RX12 yX12_isShut wsX12_isShut) := goodIn_app (goodIn_r _ [14, 15, 16, 9] rfl (by decide +kernel)) ggX12_bestPrice_X12_isShut
set_option maxRecDepth 20000 in
theorem ggX12_bestPrice_X12_laysBuys : GoodIn wsX12_bestPrice wsX12_laysBuys := goodIn_r _ [33, 3, 34, 26, 27, 28, 9, 29, 35, 36, 37, 38, 18, 19, 20, 21, 22, 23, 24, 25, 39, 40, 41, 42, 43, 44, 45, 46, 47, 48, 49, 50, 51, 52, 53, 54, 55, 56, 57, 58, 59, 60, 61, 62, 63, 87, 88, 89, 90, 91, 92, 93, 94, 95, 96, 97, 98, 99, 100, 101, 102, 103, 104, 105, 106, 107, 108, 109, 110, 111, 112, 113, 114, 115, 116, 117, 118] rfl (by decide +kernel)
set_option maxRecDepth 20000 in
theorem gX12_bestPrice_X12_laysBuys : GoodIn wsX12_bestPrice (wsV RX12 345 RX12 yX12_laysBuys wsX12_laysBuys) := goodIn_app (goodIn_r _ [30, 31, 32, 9] rfl (by decide +kernel)) ggX12_bestPrice_X12_laysBuys
set_option maxRecDepth 20000 in
theorem ggX12_bestPrice_X12_laysDays : GoodIn wsX12_bestPrice wsX12_laysDays := goodIn_r _ [67, 5, 68, 69, 70, 71, 72, 73, 9, 74, 3, 75, 76, 77, 78, 26, 27, 28, 29, 79, 80, 81, 82, 83, 84, 85, 86, 34, 18, 19, 20, 21, 22, 23, 24, 25, 87, 88, 89, 90, 91, 92, 93, 94, 95, 96, 97, 98, 99, 100, 101, 102, 103, 104, 105, 106, 107, 108, 109, 110, 111, 112, 113, 114, 115, 116, 117, 118] rfl (by decide +kernel)
set_option maxRecDepth 20000 in
theorem gX12_bestPrice_X12_laysDays : GoodIn wsX12_bestPrice (wsV RX12 398 RX12 yX12_laysDays wsX12_laysDays) := goodIn_app (goodIn_r _ [64, 65, 66, 9] rfl (by decide +kernel)) ggX12_bestPrice_X12_laysDays
set_option maxRecDepth 20000 in
theorem ggX12_noSeen_X12_noTray : GoodIn wsX12_noSeen wsX12_noTray := goodIn_r _ [10, 11, 12, 13, 14, 9, 15, 25, 26, 27, 28, 29, 30, 31, 32, 33, 34, 35, 36, 37, 38, 39, 40, 41, 42, 43, 44, 45, 46, 47, 48, 49, 50, 51, 52, 53, 54, 55, 56] rfl (by decide +kernel)
set_option maxRecDepth 20000 in
theorem gX12_noSeen_X12_noTray : GoodIn wsX12_noSeen (wsV RX12 327 RX12 yX12_noTray wsX12_noTray) := goodIn_app (goodIn_r _ [6, 7, 8, 9] rfl (by decide +kernel)) ggX12_noSeen_X12_noTray
set_option maxRecDepth 20000 in
theorem ggX12_noSeen_X12_within : GoodIn wsX12_noSeen wsX12_within := goodIn_r _ [15] rfl (by decide +kernel)
set_option maxRecDepth 20000 in
theorem gX12_noSeen_X12_within : GoodIn wsX12_noSeen (va_wsS RX12 142 yX12_within wsX12_within) := goodIn_app (goodIn_r _ [13, 14, 9] rfl (by decide +kernel)) ggX12_noSeen_X12_within
set_option maxRecDepth 20000 in
theorem ggX12_noSeen_X12_isBuyer : GoodIn wsX12_noSeen wsX12_isBuyer := goodIn_r _ [19, 20, 13, 14, 9, 15, 25, 26, 27, 28, 29, 30, 31, 32, 33, 34, 35, 36, 37, 38, 39, 40, 41, 42, 43, 44, 45, 46, 47, 48, 49, 50, 51, 52, 53, 54, 55, 56] rfl (by decide +kernel)
set_option maxRecDepth 20000 in
theorem gX12_noSeen_X12_isBuyer : GoodIn wsX12_noSeen (wsV RX12 252 RX12 yX12_isBuyer wsX12_isBuyer) := goodIn_app (goodIn_r _ [16, 17, 18, 9] rfl (by decide +kernel)) ggX12_noSeen_X12_isBuyer
set_option maxRecDepth 20000 in
theorem ggX12_noSeen_X12_isKind : GoodIn wsX12_noSeen wsX12_isKind := goodIn_r _ [24, 20, 13, 14, 9, 15, 25, 26, 27, 28, 29, 30, 31, 32, 33, 34, 35, 36, 37, 38, 39, 40, 41, 42, 43, 44, 45, 46, 47, 48, 49, 50, 51, 52, 53, 54, 55, 56] rfl (by decide +kernel)
set_option maxRecDepth 20000 in
theorem gX12_noSeen_X12_isKind : GoodIn wsX12_noSeen (wsV RX12 245 RX12 yX12_isKind wsX12_isKind) := goodIn_app (goodIn_r _ [21, 22, 23, 9] rfl (by decide +kernel)) ggX12_noSeen_X12_isKind
set_option maxRecDepth 20000 in
theorem ggX12_laysSeen_X12_laysBuys : GoodIn wsX12_laysSeen wsX12_laysBuys := goodIn_r _ [8, 9, 10, 11, 12, 13, 7, 14, 15, 16, 17, 18, 19, 20, 21, 22, 23, 24, 25, 26, 27, 28, 29, 30, 31, 32, 33, 34, 35, 36, 37, 38, 39, 40, 41, 42, 43, 44, 45, 46, 47, 48, 49, 50, 51, 56, 57, 58, 59, 60, 61, 62, 63, 64, 65, 66, 67, 68, 69, 70, 71, 72, 73, 74, 75, 76, 77, 78, 79, 80, 81, 82, 83, 84, 85, 86, 87] rfl (by decide +kernel)
set_option maxRecDepth 20000 in
theorem gX12_laysSeen_X12_laysBuys : GoodIn wsX12_laysSeen (wsV RX12 345 RX12 yX12_laysBuys wsX12_laysBuys) := goodIn_app (goodIn_r _ [4, 5, 6, 7] rfl (by decide +kernel)) ggX12_laysSeen_X12_laysBuys
set_option maxRecDepth 20000 in
theorem ggX12_laysSeen_X12_everyKind : GoodIn wsX12_laysSeen wsX12_everyKind := goodIn_r _ [14, 9, 56, 57, 58, 59, 60, 61, 62, 63, 64, 65, 66, 67, 68, 69, 70, 71, 72, 73, 74, 75, 76, 77, 78, 79, 80, 81, 82, 83, 84, 85, 86, 87] rfl (by decide +kernel)
set_option maxRecDepth 20000 in
theorem gX12_laysSeen_X12_everyKind : GoodIn wsX12_laysSeen (wsV RX12 204 RX12 yX12_everyKind wsX12_everyKind) := goodIn_app (goodIn_r _ [11, 12, 13, 7] rfl (by decide +kernel)) ggX12_laysSeen_X12_everyKind
set_option maxRecDepth 20000 in
theorem ggX12_laysSeen_X12_boughtBy : GoodIn wsX12_laysSeen wsX12_boughtBy := goodIn_r _ [55, 10, 56, 57, 58, 59, 60, 61, 62, 63, 64, 65, 66, 67, 68, 69, 70, 71, 72, 73, 74, 75, 76, 77, 78, 79, 80, 81, 82, 83, 84, 85, 86, 87] rfl (by decide +kernel)
set_option maxRecDepth 20000 in
theorem gX12_laysSeen_X12_boughtBy : GoodIn wsX12_laysSeen (wsV RX12 342 RX12 yX12_boughtBy wsX12_boughtBy) := goodIn_app (goodIn_r _ [52, 53, 54, 7] rfl (by decide +kernel)) ggX12_laysSeen_X12_boughtBy
set_option maxRecDepth 20000 in
theorem ggX12_seen_X12_noSeen : GoodIn wsX12_seen wsX12_noSeen := goodIn_r _ [6, 7, 8, 9, 10, 11, 12, 13, 14, 5, 15, 16, 17, 18, 19, 20, 21, 22, 23, 24, 25, 26, 27, 28, 29, 85, 86, 87, 88, 89, 90, 91, 92, 93, 94, 95, 96, 97, 98, 99, 100, 101, 102, 103, 104, 105, 106, 107, 108, 109, 110, 111, 112, 113, 114, 115, 116] rfl (by decide +kernel)
set_option maxRecDepth 20000 in
theorem gX12_seen_X12_noSeen : GoodIn wsX12_seen (wsV RX12 435 RX12 yX12_noSeen wsX12_noSeen) := goodIn_app (goodIn_r _ [2, 3, 4, 5] rfl (by decide +kernel)) ggX12_seen_X12_noSeen
set_option maxRecDepth 20000 in
theorem ggX12_seen_X12_laysSeen : GoodIn wsX12_seen wsX12_laysSeen := goodIn_r _ [33, 7, 9, 34, 35, 36, 37, 5, 38, 25, 39, 40, 41, 42, 43, 44, 45, 46, 47, 48, 49, 50, 51, 52, 53, 54, 55, 56, 57, 58, 59, 60, 61, 62, 63, 64, 65, 66, 67, 68, 69, 70, 71, 72, 73, 74, 75, 76, 77, 78, 79, 80, 81, 82, 83, 84, 85, 86, 87, 88, 89, 90, 91, 92, 93, 94, 95, 96, 97, 98, 99, 100, 101, 102, 103, 104, 105, 106, 107, 108, 109, 110, 111, 112, 113, 114, 115, 116] rfl (by decide +kernel)
set_option maxRecDepth 20000 in
theorem gX12_seen_X12_laysSeen : GoodIn wsX12_seen (wsV RX12 438 RX12 yX12_laysSeen wsX12_laysSeen) := goodIn_app (goodIn_r _ [30, 31, 32, 5] rfl (by decide +kernel)) ggX12_seen_X12_laysSeen
set_option maxRecDepth 20000 in
theorem ggX12_sureGone_X12_noSeen : GoodIn wsX12_sureGone wsX12_noSeen := goodIn_r _ [7, 8, 9, 10, 11, 12, 13, 14, 15, 6, 16, 17, 18, 19, 20, 21, 22, 23, 24, 25, 26, 27, 28, 29, 30, 85, 86, 87, 88, 89, 90, 91, 92, 93, 94, 95, 96, 97, 98, 99, 100, 101, 102, 103, 104, 105, 106, 107, 108, 109, 110, 111, 112, 113, 114, 115, 116] rfl (by decide +kernel)
set_option maxRecDepth 20000 in
theorem gX12_sureGone_X12_noSeen : GoodIn wsX12_sureGone (wsV RX12 435 RX12 yX12_noSeen wsX12_noSeen) := goodIn_app (goodIn_r _ [3, 4, 5, 6] rfl (by decide +kernel)) ggX12_sureGone_X12_noSeen
set_option maxRecDepth 20000 in
theorem ggX12_sureGone_X12_laysSeen : GoodIn wsX12_sureGone wsX12_laysSeen := goodIn_r _ [34, 8, 10, 2, 35, 36, 37, 6, 38, 26, 39, 40, 41, 42, 43, 44, 45, 46, 47, 48, 49, 50, 51, 52, 53, 54, 55, 56, 57, 58, 59, 60, 61, 62, 63, 64, 65, 66, 67, 68, 69, 70, 71, 72, 73, 74, 75, 76, 77, 78, 79, 80, 81, 82, 83, 84, 85, 86, 87, 88, 89, 90, 91, 92, 93, 94, 95, 96, 97, 98, 99, 100, 101, 102, 103, 104, 105, 106, 107, 108, 109, 110, 111, 112, 113, 114, 115, 116] rfl (by decide +kernel)
set_option maxRecDepth 20000 in
theorem gX12_sureGone_X12_laysSeen : GoodIn wsX12_sureGone (wsV RX12 438 RX12 yX12_laysSeen wsX12_laysSeen) := goodIn_app (goodIn_r _ [31, 32, 33, 6] rfl (by decide +kernel)) ggX12_sureGone_X12_laysSeen
set_option maxRecDepth 20000 in
theorem ggX12_sureGone_X12_everyKind : GoodIn wsX12_sureGone wsX12_everyKind := goodIn_r _ [43, 26, 85, 86, 87, 88, 89, 90, 91, 92, 93, 94, 95, 96, 97, 98, 99, 100, 101, 102, 103, 104, 105, 106, 107, 108, 109, 110, 111, 112, 113, 114, 115, 116] rfl (by decide +kernel)
set_option maxRecDepth 20000 in
theorem gX12_sureGone_X12_everyKind : GoodIn wsX12_sureGone (wsV RX12 204 RX12 yX12_everyKind wsX12_everyKind) := goodIn_app (goodIn_r _ [40, 41, 42, 6] rfl (by decide +kernel)) ggX12_sureGone_X12_everyKind
set_option maxRecDepth 20000 in
theorem ggX12_mostOften_X12_everyKind : GoodIn wsX12_mostOften wsX12_everyKind := goodIn_r _ [7, 8, 14, 15, 16, 17, 18, 19, 20, 21, 22, 23, 24, 25, 26, 27, 28, 29, 30, 31, 32, 33, 34, 35, 36, 37, 38, 39, 40, 41, 42, 43, 44, 45] rfl (by decide +kernel)
set_option maxRecDepth 20000 in
theorem gX12_mostOften_X12_everyKind : GoodIn wsX12_mostOften (wsV RX12 204 RX12 yX12_everyKind wsX12_everyKind) := goodIn_app (goodIn_r _ [3, 4, 5, 6] rfl (by decide +kernel)) ggX12_mostOften_X12_everyKind
set_option maxRecDepth 20000 in
theorem ggX12_mostOften_X12_boughtBy : GoodIn wsX12_mostOften wsX12_boughtBy := goodIn_r _ [12, 13, 14, 15, 16, 17, 18, 19, 20, 21, 22, 23, 24, 25, 26, 27, 28, 29, 30, 31, 32, 33, 34, 35, 36, 37, 38, 39, 40, 41, 42, 43, 44, 45] rfl (by decide +kernel)
set_option maxRecDepth 20000 in
theorem gX12_mostOften_X12_boughtBy : GoodIn wsX12_mostOften (wsV RX12 342 RX12 yX12_boughtBy wsX12_boughtBy) := goodIn_app (goodIn_r _ [9, 10, 11, 6] rfl (by decide +kernel)) ggX12_mostOften_X12_boughtBy
set_option maxRecDepth 20000 in
theorem ggX12_ask_X12_noSeen : GoodIn wsX12_ask wsX12_noSeen := goodIn_r _ [8, 9, 10, 11, 12, 13, 14, 15, 16, 7, 17, 18, 19, 20, 21, 22, 23, 24, 25, 26, 3, 27, 28, 29, 30, 91, 92, 93, 94, 95, 96, 97, 98, 99, 100, 101, 102, 103, 104, 105, 106, 107, 108, 109, 110, 111, 112, 113, 114, 115, 116, 117, 118, 119, 120, 121, 122] rfl (by decide +kernel)
set_option maxRecDepth 20000 in
theorem gX12_ask_X12_noSeen : GoodIn wsX12_ask (wsV RX12 435 RX12 yX12_noSeen wsX12_noSeen) := goodIn_app (goodIn_r _ [4, 5, 6, 7] rfl (by decide +kernel)) ggX12_ask_X12_noSeen
set_option maxRecDepth 20000 in
theorem ggX12_ask_X12_laysSeen : GoodIn wsX12_ask wsX12_laysSeen := goodIn_r _ [34, 9, 11, 35, 36, 37, 38, 7, 39, 3, 40, 41, 42, 43, 44, 45, 46, 47, 48, 49, 50, 51, 52, 53, 54, 55, 56, 57, 58, 59, 60, 61, 62, 63, 64, 65, 66, 67, 68, 69, 70, 71, 72, 73, 74, 75, 76, 77, 78, 79, 80, 81, 82, 83, 84, 85, 91, 92, 93, 94, 95, 96, 97, 98, 99, 100, 101, 102, 103, 104, 105, 106, 107, 108, 109, 110, 111, 112, 113, 114, 115, 116, 117, 118, 119, 120, 121, 122] rfl (by decide +kernel)
set_option maxRecDepth 20000 in
theorem gX12_ask_X12_laysSeen : GoodIn wsX12_ask (wsV RX12 438 RX12 yX12_laysSeen wsX12_laysSeen) := goodIn_app (goodIn_r _ [31, 32, 33, 7] rfl (by decide +kernel)) ggX12_ask_X12_laysSeen
set_option maxRecDepth 20000 in
theorem ggX12_ask_X12_mostOften : GoodIn wsX12_ask wsX12_mostOften := goodIn_r _ [89, 90, 35, 41, 42, 43, 7, 44, 3, 82, 83, 84, 85, 40, 91, 92, 93, 94, 95, 96, 97, 98, 99, 100, 101, 102, 103, 104, 105, 106, 107, 108, 109, 110, 111, 112, 113, 114, 115, 116, 117, 118, 119, 120, 121, 122] rfl (by decide +kernel)
set_option maxRecDepth 20000 in
theorem gX12_ask_X12_mostOften : GoodIn wsX12_ask (wsV RX12 441 RX12 yX12_mostOften wsX12_mostOften) := goodIn_app (goodIn_r _ [86, 87, 88, 7] rfl (by decide +kernel)) ggX12_ask_X12_mostOften
set_option maxRecDepth 20000 in
theorem ggX12_noGone_X12_noTray : GoodIn wsX12_noGone wsX12_noTray := goodIn_r _ [9, 10, 11, 12, 13, 8, 14, 20, 21, 22, 23, 24, 25, 26, 27, 28, 29, 30, 31, 32, 33, 34, 35, 36, 37, 38, 39, 40, 41, 42, 43, 44, 45, 46, 47, 48, 49, 50, 51] rfl (by decide +kernel)
set_option maxRecDepth 20000 in
theorem gX12_noGone_X12_noTray : GoodIn wsX12_noGone (wsV RX12 327 RX12 yX12_noTray wsX12_noTray) := goodIn_app (goodIn_r _ [5, 6, 7, 8] rfl (by decide +kernel)) ggX12_noGone_X12_noTray
set_option maxRecDepth 20000 in
theorem ggX12_noGone_X12_within : GoodIn wsX12_noGone wsX12_within := goodIn_r _ [14] rfl (by decide +kernel)
set_option maxRecDepth 20000 in
theorem gX12_noGone_X12_within : GoodIn wsX12_noGone (va_wsS RX12 142 yX12_within wsX12_within) := goodIn_app (goodIn_r _ [12, 13, 8] rfl (by decide +kernel)) ggX12_noGone_X12_within
set_option maxRecDepth 20000 in
theorem ggX12_noGone_X12_isKind : GoodIn wsX12_noGone wsX12_isKind := goodIn_r _ [18, 19, 12, 13, 8, 14, 20, 21, 22, 23, 24, 25, 26, 27, 28, 29, 30, 31, 32, 33, 34, 35, 36, 37, 38, 39, 40, 41, 42, 43, 44, 45, 46, 47, 48, 49, 50, 51] rfl (by decide +kernel)
set_option maxRecDepth 20000 in
theorem gX12_noGone_X12_isKind : GoodIn wsX12_noGone (wsV RX12 245 RX12 yX12_isKind wsX12_isKind) := goodIn_app (goodIn_r _ [15, 16, 17, 8] rfl (by decide +kernel)) ggX12_noGone_X12_isKind
set_option maxRecDepth 20000 in
theorem ggX12_cameBy_X12_laysBuys : GoodIn wsX12_cameBy wsX12_laysBuys := goodIn_r _ [7, 8, 9, 10, 11, 12, 6, 13, 14, 15, 16, 17, 18, 19, 20, 21, 22, 23, 24, 25, 26, 27, 28, 29, 30, 31, 32, 33, 34, 35, 36, 37, 38, 39, 40, 41, 42, 43, 44, 45, 46, 47, 48, 49, 50, 69, 70, 71, 72, 73, 74, 75, 76, 77, 78, 79, 80, 81, 82, 83, 84, 85, 86, 87, 88, 89, 90, 91, 92, 93, 94, 95, 96, 97, 98, 99, 100] rfl (by decide +kernel)
set_option maxRecDepth 20000 in
theorem gX12_cameBy_X12_laysBuys : GoodIn wsX12_cameBy (wsV RX12 345 RX12 yX12_laysBuys wsX12_laysBuys) := goodIn_app (goodIn_r _ [3, 4, 5, 6] rfl (by decide +kernel)) ggX12_cameBy_X12_laysBuys
set_option maxRecDepth 20000 in
theorem ggX12_cameBy_X12_beginsRows : GoodIn wsX12_cameBy wsX12_beginsRows := goodIn_r _ [54, 55, 8, 69, 70, 71, 72, 73, 74, 75, 76, 77, 78, 79, 80, 81, 82, 83, 84, 85, 86, 87, 88, 89, 90, 91, 92, 93, 94, 95, 96, 97, 98, 99, 100] rfl (by decide +kernel)
set_option maxRecDepth 20000 in
theorem gX12_cameBy_X12_beginsRows : GoodIn wsX12_cameBy (wsV RX12 361 RX12 yX12_beginsRows wsX12_beginsRows) := goodIn_app (goodIn_r _ [51, 52, 53, 6] rfl (by decide +kernel)) ggX12_cameBy_X12_beginsRows
set_option maxRecDepth 20000 in
theorem ggX12_cameBy_X12_goesRows : GoodIn wsX12_cameBy wsX12_goesRows := goodIn_r _ [59, 60, 8, 55, 10, 11, 12, 6, 13, 61, 62, 63, 64, 9, 69, 70, 71, 72, 73, 74, 75, 76, 77, 78, 79, 80, 81, 82, 83, 84, 85, 86, 87, 88, 89, 90, 91, 92, 93, 94, 95, 96, 97, 98, 99, 100] rfl (by decide +kernel)
set_option maxRecDepth 20000 in
theorem gX12_cameBy_X12_goesRows : GoodIn wsX12_cameBy (wsV RX12 364 RX12 yX12_goesRows wsX12_goesRows) := goodIn_app (goodIn_r _ [56, 57, 58, 6] rfl (by decide +kernel)) ggX12_cameBy_X12_goesRows
set_option maxRecDepth 20000 in
theorem ggX12_cameBy_X12_sumRows : GoodIn wsX12_cameBy wsX12_sumRows := goodIn_r _ [68, 55, 69, 70, 71, 72, 73, 74, 75, 76, 77, 78, 79, 80, 81, 82, 83, 84, 85, 86, 87, 88, 89, 90, 91, 92, 93, 94, 95, 96, 97, 98, 99, 100] rfl (by decide +kernel)
set_option maxRecDepth 20000 in
theorem gX12_cameBy_X12_sumRows : GoodIn wsX12_cameBy (wsV RX12 401 RX12 yX12_sumRows wsX12_sumRows) := goodIn_app (goodIn_r _ [65, 66, 67, 6] rfl (by decide +kernel)) ggX12_cameBy_X12_sumRows
set_option maxRecDepth 20000 in
theorem ggX12_came_X12_noGone : GoodIn wsX12_came wsX12_noGone := goodIn_r _ [6, 7, 8, 9, 10, 11, 12, 13, 5, 14, 15, 16, 17, 18, 19, 20, 21, 22, 23, 24, 93, 94, 95, 96, 97, 98, 99, 100, 101, 102, 103, 104, 105, 106, 107, 108, 109, 110, 111, 112, 113, 114, 115, 116, 117, 118, 119, 120, 121, 122, 123, 124] rfl (by decide +kernel)
set_option maxRecDepth 20000 in
theorem gX12_came_X12_noGone : GoodIn wsX12_came (wsV RX12 444 RX12 yX12_noGone wsX12_noGone) := goodIn_app (goodIn_r _ [2, 3, 4, 5] rfl (by decide +kernel)) ggX12_came_X12_noGone
set_option maxRecDepth 20000 in
theorem ggX12_came_X12_cameBy : GoodIn wsX12_came wsX12_cameBy := goodIn_r _ [28, 7, 9, 29, 30, 31, 5, 32, 24, 33, 34, 35, 36, 37, 38, 39, 40, 41, 42, 43, 44, 45, 46, 47, 48, 49, 50, 51, 52, 53, 54, 55, 56, 57, 58, 59, 60, 61, 62, 63, 64, 65, 66, 67, 68, 69, 70, 71, 72, 73, 74, 75, 76, 77, 78, 79, 80, 81, 82, 83, 84, 85, 86, 87, 88, 89, 90, 91, 92, 93, 94, 95, 96, 97, 98, 99, 100, 101, 102, 103, 104, 105, 106, 107, 108, 109, 110, 111, 112, 113, 114, 115, 116, 117, 118, 119, 120, 121, 122, 123, 124] rfl (by decide +kernel)
set_option maxRecDepth 20000 in
theorem gX12_came_X12_cameBy : GoodIn wsX12_came (wsV RX12 447 RX12 yX12_cameBy wsX12_cameBy) := goodIn_app (goodIn_r _ [25, 26, 27, 5] rfl (by decide +kernel)) ggX12_came_X12_cameBy
set_option maxRecDepth 20000 in
theorem ggX12_who_X12_noGone : GoodIn wsX12_who wsX12_noGone := goodIn_r _ [8, 2, 9, 10, 11, 12, 13, 14, 7, 15, 16, 17, 18, 19, 20, 21, 22, 23, 24, 3, 93, 94, 95, 96, 97, 98, 99, 100, 101, 102, 103, 104, 105, 106, 107, 108, 109, 110, 111, 112, 113, 114, 115, 116, 117, 118, 119, 120, 121, 122, 123, 124] rfl (by decide +kernel)
set_option maxRecDepth 20000 in
theorem gX12_who_X12_noGone : GoodIn wsX12_who (wsV RX12 444 RX12 yX12_noGone wsX12_noGone) := goodIn_app (goodIn_r _ [4, 5, 6, 7] rfl (by decide +kernel)) ggX12_who_X12_noGone
set_option maxRecDepth 20000 in
theorem ggX12_who_X12_within : GoodIn wsX12_who wsX12_within := goodIn_r _ [20] rfl (by decide +kernel)
set_option maxRecDepth 20000 in
theorem gX12_who_X12_within : GoodIn wsX12_who (va_wsS RX12 142 yX12_within wsX12_within) := goodIn_app (goodIn_r _ [18, 19, 7] rfl (by decide +kernel)) ggX12_who_X12_within
set_option maxRecDepth 20000 in
theorem ggX12_who_X12_cameBy : GoodIn wsX12_who wsX12_cameBy := goodIn_r _ [28, 2, 10, 29, 30, 31, 7, 32, 3, 33, 34, 35, 36, 37, 38, 39, 40, 41, 42, 43, 44, 45, 46, 47, 48, 49, 50, 51, 52, 53, 54, 55, 56, 57, 58, 59, 60, 61, 62, 63, 64, 65, 66, 67, 68, 69, 70, 71, 72, 73, 74, 75, 76, 77, 78, 79, 80, 81, 82, 83, 84, 85, 86, 87, 88, 89, 90, 91, 92, 93, 94, 95, 96, 97, 98, 99, 100, 101, 102, 103, 104, 105, 106, 107, 108, 109, 110, 111, 112, 113, 114, 115, 116, 117, 118, 119, 120, 121, 122, 123, 124] rfl (by decide +kernel)
set_option maxRecDepth 20000 in
theorem gX12_who_X12_cameBy : GoodIn wsX12_who (wsV RX12 447 RX12 yX12_cameBy wsX12_cameBy) := goodIn_app (goodIn_r _ [25, 26, 27, 7] rfl (by decide +kernel)) ggX12_who_X12_cameBy
set_option maxRecDepth 20000 in
theorem ggX12_numbers_X12_within : GoodIn wsX12_numbers wsX12_within := goodIn_r _ [10] rfl (by decide +kernel)
set_option maxRecDepth 20000 in
theorem gX12_numbers_X12_within : GoodIn wsX12_numbers (va_wsS RX12 142 yX12_within wsX12_within) := goodIn_app (goodIn_r _ [7, 8, 9] rfl (by decide +kernel)) ggX12_numbers_X12_within
set_option maxRecDepth 20000 in
theorem ggX12_write_X12_noTray : GoodIn wsX12_write wsX12_noTray := goodIn_r _ [10, 11, 5, 12, 13, 9, 14, 18, 19, 20, 21, 22, 23, 24, 25, 26, 27, 28, 29, 30, 31, 32, 33, 34, 35, 36, 37, 38, 39, 40, 41, 42, 43, 44, 45, 46, 47, 48, 49] rfl (by decide +kernel)
set_option maxRecDepth 20000 in
theorem gX12_write_X12_noTray : GoodIn wsX12_write (wsV RX12 327 RX12 yX12_noTray wsX12_noTray) := goodIn_app (goodIn_r _ [6, 7, 8, 9] rfl (by decide +kernel)) ggX12_write_X12_noTray
set_option maxRecDepth 20000 in
theorem ggX12_write_X12_within : GoodIn wsX12_write wsX12_within := goodIn_r _ [14] rfl (by decide +kernel)
set_option maxRecDepth 20000 in
theorem gX12_write_X12_within : GoodIn wsX12_write (va_wsS RX12 142 yX12_within wsX12_within) := goodIn_app (goodIn_r _ [12, 13, 9] rfl (by decide +kernel)) ggX12_write_X12_within
set_option maxRecDepth 20000 in
theorem ggX12_write_X12_cut : GoodIn wsX12_write wsX12_cut := goodIn_r _ [17] rfl (by decide +kernel)
set_option maxRecDepth 20000 in
theorem gX12_write_X12_cut : GoodIn wsX12_write (va_wsS RX12 453 yX12_cut wsX12_cut) := goodIn_app (goodIn_r _ [15, 16, 9] rfl (by decide +kernel)) ggX12_write_X12_cut
set_option maxRecDepth 20000 in
theorem ggX12_lists_X12_noTray : GoodIn wsX12_lists wsX12_noTray := goodIn_r _ [9, 10, 11, 12, 13, 8, 14, 80, 81, 82, 83, 84, 85, 86, 87, 88, 89, 90, 91, 92, 93, 94, 95, 96, 97, 98, 99, 100, 101, 102, 103, 104, 105, 106, 107, 108, 109, 110, 111] rfl (by decide +kernel)
set_option maxRecDepth 20000 in
theorem gX12_lists_X12_noTray : GoodIn wsX12_lists (wsV RX12 327 RX12 yX12_noTray wsX12_noTray) := goodIn_app (goodIn_r _ [5, 6, 7, 8] rfl (by decide +kernel)) ggX12_lists_X12_noTray
set_option maxRecDepth 20000 in
theorem ggX12_lists_X12_laysEndingRow : GoodIn wsX12_lists wsX12_laysEndingRow := goodIn_r _ [18, 19, 20, 4, 21, 22, 23, 8, 24, 25, 26, 27, 28, 29, 30, 31, 32, 33, 34, 35, 36, 37, 38, 39, 40, 41, 42, 43, 44, 45, 46, 47, 48, 49, 50, 51, 52, 53, 54, 55, 56, 57, 58, 59, 60, 61, 62, 63, 64, 65, 66, 67, 68, 69, 70, 71, 72, 73, 74, 75, 76, 77, 78, 79, 80, 81, 82, 83, 84, 85, 86, 87, 88, 89, 90, 91, 92, 93, 94, 95, 96, 97, 98, 99, 100, 101, 102, 103, 104, 105, 106, 107, 108, 109, 110, 111] rfl (by decide +kernel)
set_option maxRecDepth 20000 in
theorem gX12_lists_X12_laysEndingRow : GoodIn wsX12_lists (wsV RX12 354 RX12 yX12_laysEndingRow wsX12_laysEndingRow) := goodIn_app (goodIn_r _ [15, 16, 17, 8] rfl (by decide +kernel)) ggX12_lists_X12_laysEndingRow
set_option maxRecDepth 20000 in
theorem ggX12_image_X12_within : GoodIn wsX12_image wsX12_within := goodIn_r _ [7] rfl (by decide +kernel)
set_option maxRecDepth 20000 in
theorem gX12_image_X12_within : GoodIn wsX12_image (va_wsS RX12 142 yX12_within wsX12_within) := goodIn_app (goodIn_r _ [4, 5, 6] rfl (by decide +kernel)) ggX12_image_X12_within
set_option maxRecDepth 20000 in
theorem ggX12_restore_X12_within : GoodIn wsX12_restore wsX12_within := goodIn_r _ [7] rfl (by decide +kernel)
set_option maxRecDepth 20000 in
theorem gX12_restore_X12_within : GoodIn wsX12_restore (va_wsS RX12 142 yX12_within wsX12_within) := goodIn_app (goodIn_r _ [4, 5, 6] rfl (by decide +kernel)) ggX12_restore_X12_within
set_option maxRecDepth 20000 in
theorem ggX12_count_X12_isShut : GoodIn wsX12_count wsX12_isShut := goodIn_r _ [8, 2, 9, 10, 11, 7, 12, 13, 14, 15, 16, 17, 18, 19, 20, 25, 26, 27, 28, 29, 30, 31, 32, 33, 34, 35, 36, 37, 38, 39, 40, 41, 42, 43, 44, 45, 46, 47, 48, 49, 50, 51, 52, 53, 54, 55, 56] rfl (by decide +kernel)
set_option maxRecDepth 20000 in
theorem gX12_count_X12_isShut : GoodIn wsX12_count (wsV RX12 259 RX12 yX12_isShut wsX12_isShut) := goodIn_app (goodIn_r _ [4, 5, 6, 7] rfl (by decide +kernel)) ggX12_count_X12_isShut
set_option maxRecDepth 20000 in
theorem ggX12_count_X12_oddsAll : GoodIn wsX12_count wsX12_oddsAll := goodIn_r _ [24, 2, 25, 26, 27, 28, 29, 30, 31, 32, 33, 34, 35, 36, 37, 38, 39, 40, 41, 42, 43, 44, 45, 46, 47, 48, 49, 50, 51, 52, 53, 54, 55, 56] rfl (by decide +kernel)
set_option maxRecDepth 20000 in
theorem gX12_count_X12_oddsAll : GoodIn wsX12_count (wsV RX12 269 RX12 yX12_oddsAll wsX12_oddsAll) := goodIn_app (goodIn_r _ [21, 22, 23, 7] rfl (by decide +kernel)) ggX12_count_X12_oddsAll
set_option maxRecDepth 20000 in
theorem ggJ0_length_8abf5_J0_coder_7d493 : GoodIn wsJ0_length_8abf5 wsJ0_coder_7d493 := goodIn_r _ [6, 7, 8] rfl (by decide +kernel)
set_option maxRecDepth 20000 in
theorem gJ0_length_8abf5_J0_coder_7d493 : GoodIn wsJ0_length_8abf5 (wsV RJ0 335 RJ0 yJ0_coder_7d493 wsJ0_coder_7d493) := goodIn_app (goodIn_r _ [2, 3, 4, 5] rfl (by decide +kernel)) ggJ0_length_8abf5_J0_coder_7d493
set_option maxRecDepth 20000 in
theorem ggJ0_charAt_5068e_J0_isLatin1_aae02 : GoodIn wsJ0_charAt_5068e wsJ0_isLatin1_aae02 := goodIn_r _ [6, 7, 8] rfl (by decide +kernel)
set_option maxRecDepth 20000 in
theorem gJ0_charAt_5068e_J0_isLatin1_aae02 : GoodIn wsJ0_charAt_5068e (wsV RJ0 492 RJ0 yJ0_isLatin1_aae02 wsJ0_isLatin1_aae02) := goodIn_app (goodIn_r _ [2, 3, 4, 5] rfl (by decide +kernel)) ggJ0_charAt_5068e_J0_isLatin1_aae02
set_option maxRecDepth 20000 in
theorem ggJ0_charAt_5068e_J1_charAt_3b067 : GoodIn wsJ0_charAt_5068e wsJ1_charAt_3b067 := goodIn_r _ [12, 13, 14, 5, 15, 16, 17, 18, 19, 20] rfl (by decide +kernel)
set_option maxRecDepth 20000 in
theorem gJ0_charAt_5068e_J1_charAt_3b067 : GoodIn wsJ0_charAt_5068e (va_wsS RJ0 495 yJ1_charAt_3b067 wsJ1_charAt_3b067) := goodIn_app (goodIn_r _ [9, 10, 11] rfl (by decide +kernel)) ggJ0_charAt_5068e_J1_charAt_3b067
set_option maxRecDepth 20000 in
theorem ggJ0_charAt_5068e_J2_charAt_3b067 : GoodIn wsJ0_charAt_5068e wsJ2_charAt_3b067 := goodIn_r _ [24, 25, 26, 23, 27, 28, 29, 30, 31, 14, 5, 15, 16, 17, 18, 19, 20, 32, 33, 34, 35, 36, 37] rfl (by decide +kernel)
set_option maxRecDepth 20000 in
theorem gJ0_charAt_5068e_J2_charAt_3b067 : GoodIn wsJ0_charAt_5068e (va_wsS RJ0 498 yJ2_charAt_3b067 wsJ2_charAt_3b067) := goodIn_app (goodIn_r _ [21, 22, 23] rfl (by decide +kernel)) ggJ0_charAt_5068e_J2_charAt_3b067
set_option maxRecDepth 20000 in
theorem ggJ0_indexOf_0f7a4_J0_indexOf_7cf53 : GoodIn wsJ0_indexOf_0f7a4 wsJ0_indexOf_7cf53 := goodIn_r _ [5, 6, 7, 8, 9, 4, 10, 11, 12, 13, 14, 15, 16, 17, 18, 19, 20, 21, 22, 23, 24, 25, 26, 27, 28, 29, 30, 31, 32, 33, 34, 35, 36, 37, 38, 39, 40, 41, 42, 43, 44, 45, 46, 47, 48, 49, 50, 51, 52, 53, 54, 55, 56, 57, 58, 59, 60, 61, 62, 63, 64, 65, 66, 67, 68, 69, 70, 71, 72, 73, 74, 75, 76, 77, 78, 79, 80, 81, 82, 83, 84, 85] rfl (by decide +kernel)
set_option maxRecDepth 20000 in
theorem gJ0_indexOf_0f7a4_J0_indexOf_7cf53 : GoodIn wsJ0_indexOf_0f7a4 (wsV RJ0 633 RJ0 yJ0_indexOf_7cf53 wsJ0_indexOf_7cf53) := goodIn_app (goodIn_r _ [1, 2, 3, 4] rfl (by decide +kernel)) ggJ0_indexOf_0f7a4_J0_indexOf_7cf53
set_option maxRecDepth 20000 in
theorem ggJ0_indexOf_7cf53_J0_isLatin1_aae02 : GoodIn wsJ0_indexOf_7cf53 wsJ0_isLatin1_aae02 := goodIn_r _ [6, 7, 8] rfl (by decide +kernel)
set_option maxRecDepth 20000 in
theorem gJ0_indexOf_7cf53_J0_isLatin1_aae02 : GoodIn wsJ0_indexOf_7cf53 (wsV RJ0 492 RJ0 yJ0_isLatin1_aae02 wsJ0_isLatin1_aae02) := goodIn_app (goodIn_r _ [2, 3, 4, 5] rfl (by decide +kernel)) ggJ0_indexOf_7cf53_J0_isLatin1_aae02
set_option maxRecDepth 20000 in
theorem ggJ0_indexOf_7cf53_J0_length_8abf5 : GoodIn wsJ0_indexOf_7cf53 wsJ0_length_8abf5 := goodIn_r _ [12, 1, 13, 14, 15, 5, 16, 7, 8] rfl (by decide +kernel)
set_option maxRecDepth 20000 in
theorem gJ0_indexOf_7cf53_J0_length_8abf5 : GoodIn wsJ0_indexOf_7cf53 (wsV RJ0 505 RJ0 yJ0_length_8abf5 wsJ0_length_8abf5) := goodIn_app (goodIn_r _ [9, 10, 11, 5] rfl (by decide +kernel)) ggJ0_indexOf_7cf53_J0_length_8abf5
set_option maxRecDepth 20000 in
theorem ggJ0_indexOf_7cf53_J1_indexOf_4cfef : GoodIn wsJ0_indexOf_7cf53 wsJ1_indexOf_4cfef := goodIn_r _ [20, 21, 22, 23, 24, 25, 26, 27, 28, 29, 19, 30, 31, 32, 33] rfl (by decide +kernel)
set_option maxRecDepth 20000 in
theorem gJ0_indexOf_7cf53_J1_indexOf_4cfef : GoodIn wsJ0_indexOf_7cf53 (va_wsS RJ0 637 yJ1_indexOf_4cfef wsJ1_indexOf_4cfef) := goodIn_app (goodIn_r _ [17, 18, 19] rfl (by decide +kernel)) ggJ0_indexOf_7cf53_J1_indexOf_4cfef
set_option maxRecDepth 20000 in
theorem ggJ0_indexOf_7cf53_J2_indexOf_4cfef : GoodIn wsJ0_indexOf_7cf53 wsJ2_indexOf_4cfef := goodIn_r _ [37, 38, 22, 23, 24, 39, 26, 27, 40, 41, 42, 36, 43, 44, 45, 46, 47, 48, 49, 50, 51, 5, 52, 53, 54, 55, 56, 57, 58, 59, 60, 61, 62, 63, 64, 65, 66, 67, 68, 69, 70, 71, 72, 73, 74, 75, 76, 77, 78, 79, 80, 81] rfl (by decide +kernel)
set_option maxRecDepth 20000 in
theorem gJ0_indexOf_7cf53_J2_indexOf_4cfef : GoodIn wsJ0_indexOf_7cf53 (va_wsS RJ0 640 yJ2_indexOf_4cfef wsJ2_indexOf_4cfef) := goodIn_app (goodIn_r _ [34, 35, 36] rfl (by decide +kernel)) ggJ0_indexOf_7cf53_J2_indexOf_4cfef
set_option maxRecDepth 20000 in
theorem ggJ0_checkIndex_df160_J3_checkIndex_8e157 : GoodIn wsJ0_checkIndex_df160 wsJ3_checkIndex_8e157 := goodIn_r _ [5] rfl (by decide +kernel)
set_option maxRecDepth 20000 in
theorem gJ0_checkIndex_df160_J3_checkIndex_8e157 : GoodIn wsJ0_checkIndex_df160 (va_wsS RJ0 1059 yJ3_checkIndex_8e157 wsJ3_checkIndex_8e157) := goodIn_app (goodIn_r _ [2, 3, 4] rfl (by decide +kernel)) ggJ0_checkIndex_df160_J3_checkIndex_8e157
set_option maxRecDepth 20000 in
theorem ggJ0_checkBoundsBeginEnd_23922_J3_checkFromToIndex_8c36e : GoodIn wsJ0_checkBoundsBeginEnd_23922 wsJ3_checkFromToIndex_8c36e := goodIn_r _ [5] rfl (by decide +kernel)
set_option maxRecDepth 20000 in
theorem gJ0_checkBoundsBeginEnd_23922_J3_checkFromToIndex_8c36e : GoodIn wsJ0_checkBoundsBeginEnd_23922 (va_wsS RJ0 1062 yJ3_checkFromToIndex_8c36e wsJ3_checkFromToIndex_8c36e) := goodIn_app (goodIn_r _ [2, 3, 4] rfl (by decide +kernel)) ggJ0_checkBoundsBeginEnd_23922_J3_checkFromToIndex_8c36e
set_option maxRecDepth 20000 in
theorem ggJ1_charAt_3b067_J0_checkIndex_df160 : GoodIn wsJ1_charAt_3b067 wsJ0_checkIndex_df160 := goodIn_r _ [4, 5, 6, 7, 8, 9] rfl (by decide +kernel)
set_option maxRecDepth 20000 in
theorem gJ1_charAt_3b067_J0_checkIndex_df160 : GoodIn wsJ1_charAt_3b067 (va_wsS RJ1 9 yJ0_checkIndex_df160 wsJ0_checkIndex_df160) := goodIn_app (goodIn_r _ [1, 2, 3] rfl (by decide +kernel)) ggJ1_charAt_3b067_J0_checkIndex_df160
set_option maxRecDepth 20000 in
theorem ggJ1_indexOf_4cfef_J1_canEncode_9a6ad : GoodIn wsJ1_indexOf_4cfef wsJ1_canEncode_9a6ad := goodIn_r _ [11] rfl (by decide +kernel)
set_option maxRecDepth 20000 in
theorem gJ1_indexOf_4cfef_J1_canEncode_9a6ad : GoodIn wsJ1_indexOf_4cfef (va_wsS RJ1 88 yJ1_canEncode_9a6ad wsJ1_canEncode_9a6ad) := goodIn_app (goodIn_r _ [8, 9, 10] rfl (by decide +kernel)) ggJ1_indexOf_4cfef_J1_canEncode_9a6ad
set_option maxRecDepth 20000 in
theorem ggJ1_indexOf_4cfef_J1_indexOfChar_4cfef : GoodIn wsJ1_indexOf_4cfef wsJ1_indexOfChar_4cfef := goodIn_r _ [14] rfl (by decide +kernel)
set_option maxRecDepth 20000 in
theorem gJ1_indexOf_4cfef_J1_indexOfChar_4cfef : GoodIn wsJ1_indexOf_4cfef (va_wsS RJ1 95 yJ1_indexOfChar_4cfef wsJ1_indexOfChar_4cfef) := goodIn_app (goodIn_r _ [12, 13, 10] rfl (by decide +kernel)) ggJ1_indexOf_4cfef_J1_indexOfChar_4cfef
set_option maxRecDepth 20000 in
theorem ggJ2_getChar_3b067_J2_length_9d52b : GoodIn wsJ2_getChar_3b067 wsJ2_length_9d52b := goodIn_r _ [7] rfl (by decide +kernel)
set_option maxRecDepth 20000 in
theorem gJ2_getChar_3b067_J2_length_9d52b : GoodIn wsJ2_getChar_3b067 (va_wsS RJ2 48 yJ2_length_9d52b wsJ2_length_9d52b) := goodIn_app (goodIn_r _ [4, 5, 6] rfl (by decide +kernel)) ggJ2_getChar_3b067_J2_length_9d52b
set_option maxRecDepth 20000 in
theorem ggJ2_indexOf_4cfef_J2_indexOfChar_4cfef : GoodIn wsJ2_indexOf_4cfef wsJ2_indexOfChar_4cfef := goodIn_r _ [12, 13, 14, 11, 15, 16, 17, 18, 19, 20, 21, 22, 23, 24, 25, 26, 27, 28, 29, 30, 31, 32, 33, 34, 35, 36] rfl (by decide +kernel)
set_option maxRecDepth 20000 in
theorem gJ2_indexOf_4cfef_J2_indexOfChar_4cfef : GoodIn wsJ2_indexOf_4cfef (va_wsS RJ2 228 yJ2_indexOfChar_4cfef wsJ2_indexOfChar_4cfef) := goodIn_app (goodIn_r _ [9, 10, 11] rfl (by decide +kernel)) ggJ2_indexOf_4cfef_J2_indexOfChar_4cfef
set_option maxRecDepth 20000 in
theorem ggJ2_indexOf_4cfef_J2_indexOfSupplementary_4cfef : GoodIn wsJ2_indexOf_4cfef wsJ2_indexOfSupplementary_4cfef := goodIn_r _ [39, 40, 41, 42, 43, 44, 45, 46, 47, 48, 49, 50, 51, 13, 14, 11, 15, 16, 17, 18, 19, 20, 21, 22, 23, 24, 25, 26, 27, 31, 32, 33, 34, 35, 36] rfl (by decide +kernel)
set_option maxRecDepth 20000 in
theorem gJ2_indexOf_4cfef_J2_indexOfSupplementary_4cfef : GoodIn wsJ2_indexOf_4cfef (va_wsS RJ2 232 yJ2_indexOfSupplementary_4cfef wsJ2_indexOfSupplementary_4cfef) := goodIn_app (goodIn_r _ [37, 38, 11] rfl (by decide +kernel)) ggJ2_indexOf_4cfef_J2_indexOfSupplementary_4cfef
set_option maxRecDepth 20000 in
theorem ggJ2_indexOfChar_4cfef_J2_checkBoundsBeginEnd_d044e : GoodIn wsJ2_indexOfChar_4cfef wsJ2_checkBoundsBeginEnd_d044e := goodIn_r _ [4, 5, 6, 3, 7, 8, 9, 10, 11, 12, 13, 14, 15, 16] rfl (by decide +kernel)
set_option maxRecDepth 20000 in
theorem gJ2_indexOfChar_4cfef_J2_checkBoundsBeginEnd_d044e : GoodIn wsJ2_indexOfChar_4cfef (va_wsS RJ2 96 yJ2_checkBoundsBeginEnd_d044e wsJ2_checkBoundsBeginEnd_d044e) := goodIn_app (goodIn_r _ [1, 2, 3] rfl (by decide +kernel)) ggJ2_indexOfChar_4cfef_J2_checkBoundsBeginEnd_d044e
set_option maxRecDepth 20000 in
theorem ggJ2_indexOfChar_4cfef_J2_indexOfCharUnsafe_4cfef : GoodIn wsJ2_indexOfChar_4cfef wsJ2_indexOfCharUnsafe_4cfef := goodIn_r _ [19, 20, 21, 3, 22, 23, 24, 25, 5, 6, 7] rfl (by decide +kernel)
set_option maxRecDepth 20000 in
theorem gJ2_indexOfChar_4cfef_J2_indexOfCharUnsafe_4cfef : GoodIn wsJ2_indexOfChar_4cfef (va_wsS RJ2 244 yJ2_indexOfCharUnsafe_4cfef wsJ2_indexOfCharUnsafe_4cfef) := goodIn_app (goodIn_r _ [17, 18, 3] rfl (by decide +kernel)) ggJ2_indexOfChar_4cfef_J2_indexOfCharUnsafe_4cfef
set_option maxRecDepth 20000 in
theorem ggJ2_indexOfCharUnsafe_4cfef_J2_getChar_3b067 : GoodIn wsJ2_indexOfCharUnsafe_4cfef wsJ2_getChar_3b067 := goodIn_r _ [4, 5, 6, 7, 8, 9, 3, 10] rfl (by decide +kernel)
set_option maxRecDepth 20000 in
theorem gJ2_indexOfCharUnsafe_4cfef_J2_getChar_3b067 : GoodIn wsJ2_indexOfCharUnsafe_4cfef (va_wsS RJ2 71 yJ2_getChar_3b067 wsJ2_getChar_3b067) := goodIn_app (goodIn_r _ [1, 2, 3] rfl (by decide +kernel)) ggJ2_indexOfCharUnsafe_4cfef_J2_getChar_3b067
set_option maxRecDepth 20000 in
theorem ggJ2_indexOfSupplementary_4cfef_J11_isValidCodePoint_9a6ad : GoodIn wsJ2_indexOfSupplementary_4cfef wsJ11_isValidCodePoint_9a6ad := goodIn_r _ [4] rfl (by decide +kernel)
set_option maxRecDepth 20000 in
theorem gJ2_indexOfSupplementary_4cfef_J11_isValidCodePoint_9a6ad : GoodIn wsJ2_indexOfSupplementary_4cfef (va_wsS RJ2 164 yJ11_isValidCodePoint_9a6ad wsJ11_isValidCodePoint_9a6ad) := goodIn_app (goodIn_r _ [1, 2, 3] rfl (by decide +kernel)) ggJ2_indexOfSupplementary_4cfef_J11_isValidCodePoint_9a6ad
set_option maxRecDepth 20000 in
theorem ggJ2_indexOfSupplementary_4cfef_J11_highSurrogate_5068e : GoodIn wsJ2_indexOfSupplementary_4cfef wsJ11_highSurrogate_5068e := goodIn_r _ [7, 8] rfl (by decide +kernel)
set_option maxRecDepth 20000 in
theorem gJ2_indexOfSupplementary_4cfef_J11_highSurrogate_5068e : GoodIn wsJ2_indexOfSupplementary_4cfef (va_wsS RJ2 157 yJ11_highSurrogate_5068e wsJ11_highSurrogate_5068e) := goodIn_app (goodIn_r _ [5, 6, 3] rfl (by decide +kernel)) ggJ2_indexOfSupplementary_4cfef_J11_highSurrogate_5068e
set_option maxRecDepth 20000 in
theorem ggJ2_indexOfSupplementary_4cfef_J11_lowSurrogate_5068e : GoodIn wsJ2_indexOfSupplementary_4cfef wsJ11_lowSurrogate_5068e := goodIn_r _ [11, 12] rfl (by decide +kernel)
set_option maxRecDepth 20000 in
theorem gJ2_indexOfSupplementary_4cfef_J11_lowSurrogate_5068e : GoodIn wsJ2_indexOfSupplementary_4cfef (va_wsS RJ2 161 yJ11_lowSurrogate_5068e wsJ11_lowSurrogate_5068e) := goodIn_app (goodIn_r _ [9, 10, 3] rfl (by decide +kernel)) ggJ2_indexOfSupplementary_4cfef_J11_lowSurrogate_5068e
set_option maxRecDepth 20000 in
theorem ggJ2_indexOfSupplementary_4cfef_J2_checkBoundsBeginEnd_d044e : GoodIn wsJ2_indexOfSupplementary_4cfef wsJ2_checkBoundsBeginEnd_d044e := goodIn_r _ [16, 17, 18, 15, 19, 20, 21, 22, 23, 24, 25, 26, 27, 28] rfl (by decide +kernel)
set_option maxRecDepth 20000 in
theorem gJ2_indexOfSupplementary_4cfef_J2_checkBoundsBeginEnd_d044e : GoodIn wsJ2_indexOfSupplementary_4cfef (va_wsS RJ2 96 yJ2_checkBoundsBeginEnd_d044e wsJ2_checkBoundsBeginEnd_d044e) := goodIn_app (goodIn_r _ [13, 14, 15] rfl (by decide +kernel)) ggJ2_indexOfSupplementary_4cfef_J2_checkBoundsBeginEnd_d044e
set_option maxRecDepth 20000 in
theorem ggJ2_indexOfSupplementary_4cfef_J2_getChar_3b067 : GoodIn wsJ2_indexOfSupplementary_4cfef wsJ2_getChar_3b067 := goodIn_r _ [31, 32, 33, 34, 17, 18, 15, 19] rfl (by decide +kernel)
set_option maxRecDepth 20000 in
theorem gJ2_indexOfSupplementary_4cfef_J2_getChar_3b067 : GoodIn wsJ2_indexOfSupplementary_4cfef (va_wsS RJ2 71 yJ2_getChar_3b067 wsJ2_getChar_3b067) := goodIn_app (goodIn_r _ [29, 30, 15] rfl (by decide +kernel)) ggJ2_indexOfSupplementary_4cfef_J2_getChar_3b067
set_option maxRecDepth 20000 in
theorem ggJ2_charAt_3b067_J2_checkIndex_2214a : GoodIn wsJ2_charAt_3b067 wsJ2_checkIndex_2214a := goodIn_r _ [4, 5, 6, 3, 7, 8, 9, 10, 11, 12, 13, 14, 15, 16] rfl (by decide +kernel)
set_option maxRecDepth 20000 in
theorem gJ2_charAt_3b067_J2_checkIndex_2214a : GoodIn wsJ2_charAt_3b067 (va_wsS RJ2 67 yJ2_checkIndex_2214a wsJ2_checkIndex_2214a) := goodIn_app (goodIn_r _ [1, 2, 3] rfl (by decide +kernel)) ggJ2_charAt_3b067_J2_checkIndex_2214a
set_option maxRecDepth 20000 in
theorem ggJ2_charAt_3b067_J2_getChar_3b067 : GoodIn wsJ2_charAt_3b067 wsJ2_getChar_3b067 := goodIn_r _ [19, 20, 21, 22, 5, 6, 3, 7] rfl (by decide +kernel)
set_option maxRecDepth 20000 in
theorem gJ2_charAt_3b067_J2_getChar_3b067 : GoodIn wsJ2_charAt_3b067 (va_wsS RJ2 71 yJ2_getChar_3b067 wsJ2_getChar_3b067) := goodIn_app (goodIn_r _ [17, 18, 3] rfl (by decide +kernel)) ggJ2_charAt_3b067_J2_getChar_3b067
set_option maxRecDepth 20000 in
theorem ggJ2_checkIndex_2214a_J2_length_9d52b : GoodIn wsJ2_checkIndex_2214a wsJ2_length_9d52b := goodIn_r _ [4] rfl (by decide +kernel)
set_option maxRecDepth 20000 in
theorem gJ2_checkIndex_2214a_J2_length_9d52b : GoodIn wsJ2_checkIndex_2214a (va_wsS RJ2 48 yJ2_length_9d52b wsJ2_length_9d52b) := goodIn_app (goodIn_r _ [1, 2, 3] rfl (by decide +kernel)) ggJ2_checkIndex_2214a_J2_length_9d52b
set_option maxRecDepth 20000 in
theorem ggJ2_checkIndex_2214a_J0_checkIndex_df160 : GoodIn wsJ2_checkIndex_2214a wsJ0_checkIndex_df160 := goodIn_r _ [8, 9, 10, 11, 12, 13] rfl (by decide +kernel)
set_option maxRecDepth 20000 in
theorem gJ2_checkIndex_2214a_J0_checkIndex_df160 : GoodIn wsJ2_checkIndex_2214a (va_wsS RJ2 414 yJ0_checkIndex_df160 wsJ0_checkIndex_df160) := goodIn_app (goodIn_r _ [5, 6, 7] rfl (by decide +kernel)) ggJ2_checkIndex_2214a_J0_checkIndex_df160
set_option maxRecDepth 20000 in
theorem ggJ2_checkBoundsBeginEnd_d044e_J2_length_9d52b : GoodIn wsJ2_checkBoundsBeginEnd_d044e wsJ2_length_9d52b := goodIn_r _ [4] rfl (by decide +kernel)
set_option maxRecDepth 20000 in
theorem gJ2_checkBoundsBeginEnd_d044e_J2_length_9d52b : GoodIn wsJ2_checkBoundsBeginEnd_d044e (va_wsS RJ2 48 yJ2_length_9d52b wsJ2_length_9d52b) := goodIn_app (goodIn_r _ [1, 2, 3] rfl (by decide +kernel)) ggJ2_checkBoundsBeginEnd_d044e_J2_length_9d52b
set_option maxRecDepth 20000 in
theorem ggJ2_checkBoundsBeginEnd_d044e_J0_checkBoundsBeginEnd_23922 : GoodIn wsJ2_checkBoundsBeginEnd_d044e wsJ0_checkBoundsBeginEnd_23922 := goodIn_r _ [8, 9, 10, 11, 12, 13] rfl (by decide +kernel)
set_option maxRecDepth 20000 in
theorem gJ2_checkBoundsBeginEnd_d044e_J0_checkBoundsBeginEnd_23922 : GoodIn wsJ2_checkBoundsBeginEnd_d044e (va_wsS RJ2 241 yJ0_checkBoundsBeginEnd_23922 wsJ0_checkBoundsBeginEnd_23922) := goodIn_app (goodIn_r _ [5, 6, 7] rfl (by decide +kernel)) ggJ2_checkBoundsBeginEnd_d044e_J0_checkBoundsBeginEnd_23922
set_option maxRecDepth 20000 in
theorem gX2_init_X7_init_n15 : GoodIn wsX2_init (wsX7_init) := ggX2_init_X7_init
set_option maxRecDepth 20000 in
theorem gX2_init_X9_init_n22 : GoodIn wsX2_init (wsX9_init) := ggX2_init_X9_init
set_option maxRecDepth 20000 in
theorem gX6_init_X9_init_n24 : GoodIn wsX6_init (wsX9_init) := ggX6_init_X9_init
set_option maxRecDepth 20000 in
theorem gX11_init_X7_init_n25 : GoodIn wsX11_init (wsX7_init) := ggX11_init_X7_init
set_option maxRecDepth 20000 in
theorem gX11_init_X9_init_n35 : GoodIn wsX11_init (wsX9_init) := ggX11_init_X9_init
set_option maxRecDepth 20000 in
theorem gX11_init_X10_init_n107 : GoodIn wsX11_init (wsX10_init) := ggX11_init_X10_init
set_option maxRecDepth 20000 in
theorem gX11_init_X2_init_n108 : GoodIn wsX11_init (wsX2_init) := ggX11_init_X2_init
