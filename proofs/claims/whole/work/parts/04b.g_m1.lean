set_option maxRecDepth 20000 in
theorem ggX11_filled_X11_isRow : GoodIn wsX11_filled wsX11_isRow := goodIn_r _ [8, 9, 10, 7, 11] (by decide +kernel) (by decide +kernel)
set_option maxRecDepth 20000 in
theorem gX11_filled_X11_isRow : GoodIn wsX11_filled (va_wsS RX11 63 yX11_isRow wsX11_isRow) := goodIn_app (goodIn_of _ (by decide +kernel)) ggX11_filled_X11_isRow
set_option maxRecDepth 20000 in
theorem ggX11_filled_X11_in : GoodIn wsX11_filled wsX11_in := goodIn_r _ [11] (by decide +kernel) (by decide +kernel)
set_option maxRecDepth 20000 in
theorem gX11_filled_X11_in : GoodIn wsX11_filled (va_wsS RX11 59 yX11_in wsX11_in) := goodIn_app (goodIn_of _ (by decide +kernel)) ggX11_filled_X11_in
set_option maxRecDepth 20000 in
theorem ggX11_filled_X11_no : GoodIn wsX11_filled wsX11_no := goodIn_r _ [14, 15] (by decide +kernel) (by decide +kernel)
set_option maxRecDepth 20000 in
theorem gX11_filled_X11_no : GoodIn wsX11_filled (va_wsS RX11 137 yX11_no wsX11_no) := goodIn_app (goodIn_of _ (by decide +kernel)) ggX11_filled_X11_no
set_option maxRecDepth 20000 in
theorem ggX11_filled_X11_faultNow : GoodIn wsX11_filled wsX11_faultNow := goodIn_r _ [19, 20, 21, 22, 23, 24, 25, 26, 27, 7, 28, 29, 30, 31, 32, 33, 34, 35, 36, 37, 38, 39, 40, 9, 10, 11, 80, 81, 82, 83, 84, 85, 86, 87, 88, 89, 90, 91, 92, 93, 94, 95, 96, 97, 98, 99, 100, 101, 102, 103] (by decide +kernel) (by decide +kernel)
set_option maxRecDepth 20000 in
theorem gX11_filled_X11_faultNow : GoodIn wsX11_filled (wsV RX11 127 RX11 yX11_faultNow wsX11_faultNow) := goodIn_app (goodIn_of _ (by decide +kernel)) ggX11_filled_X11_faultNow
set_option maxRecDepth 20000 in
theorem ggX11_filled_X11_gathers : GoodIn wsX11_filled wsX11_gathers := goodIn_r _ [44, 1, 2, 45, 46, 80, 81, 82, 83, 84, 85, 86, 87, 88, 89, 90, 91, 92, 93, 94, 95, 96, 97, 98, 99, 100, 101, 102, 103] (by decide +kernel) (by decide +kernel)
set_option maxRecDepth 20000 in
theorem gX11_filled_X11_gathers : GoodIn wsX11_filled (wsV RX11 154 RX11 yX11_gathers wsX11_gathers) := goodIn_app (goodIn_of _ (by decide +kernel)) ggX11_filled_X11_gathers
set_option maxRecDepth 20000 in
theorem ggX11_filled_X11_fill : GoodIn wsX11_filled wsX11_fill := goodIn_r _ [50, 1, 46, 51, 52, 53, 7, 54, 2, 45, 80, 81, 82, 83, 84, 85, 86, 87, 88, 89, 90, 91, 92, 93, 94, 95, 96, 97, 98, 99, 100, 101, 102, 103] (by decide +kernel) (by decide +kernel)
set_option maxRecDepth 20000 in
theorem gX11_filled_X11_fill : GoodIn wsX11_filled (wsV RX11 158 RX11 yX11_fill wsX11_fill) := goodIn_app (goodIn_of _ (by decide +kernel)) ggX11_filled_X11_fill
set_option maxRecDepth 20000 in
theorem ggX11_filled_X11_does : GoodIn wsX11_filled wsX11_does := goodIn_r _ [58, 23, 32, 29, 30, 31, 59, 60, 61, 7, 62, 63, 64, 65, 66, 67, 68, 69, 70, 71, 72, 73, 80, 81, 82, 83, 84, 85, 86, 87, 88, 89, 90, 91, 92, 93, 94, 95, 96, 97, 98, 99, 100, 101, 102, 103] (by decide +kernel) (by decide +kernel)
set_option maxRecDepth 20000 in
theorem gX11_filled_X11_does : GoodIn wsX11_filled (wsV RX11 130 RX11 yX11_does wsX11_does) := goodIn_app (goodIn_of _ (by decide +kernel)) ggX11_filled_X11_does
set_option maxRecDepth 20000 in
theorem ggX11_filled_X11_ones : GoodIn wsX11_filled wsX11_ones := goodIn_r _ [65] (by decide +kernel) (by decide +kernel)
set_option maxRecDepth 20000 in
theorem gX11_filled_X11_ones : GoodIn wsX11_filled (va_wsS RX11 81 yX11_ones wsX11_ones) := goodIn_app (goodIn_of _ (by decide +kernel)) ggX11_filled_X11_ones
set_option maxRecDepth 20000 in
theorem ggX11_filled_X11_power : GoodIn wsX11_filled wsX11_power := goodIn_r _ [76] (by decide +kernel) (by decide +kernel)
set_option maxRecDepth 20000 in
theorem gX11_filled_X11_power : GoodIn wsX11_filled (va_wsS RX11 141 yX11_power wsX11_power) := goodIn_app (goodIn_of _ (by decide +kernel)) ggX11_filled_X11_power
set_option maxRecDepth 20000 in
theorem ggX11_filled_X11_lowest : GoodIn wsX11_filled wsX11_lowest := goodIn_r _ [79] (by decide +kernel) (by decide +kernel)
set_option maxRecDepth 20000 in
theorem gX11_filled_X11_lowest : GoodIn wsX11_filled (va_wsS RX11 147 yX11_lowest wsX11_lowest) := goodIn_app (goodIn_of _ (by decide +kernel)) ggX11_filled_X11_lowest
set_option maxRecDepth 20000 in
theorem ggX11_sure_X11_isRow : GoodIn wsX11_sure wsX11_isRow := goodIn_r _ [6, 7, 8, 5, 9] (by decide +kernel) (by decide +kernel)
set_option maxRecDepth 20000 in
theorem gX11_sure_X11_isRow : GoodIn wsX11_sure (va_wsS RX11 63 yX11_isRow wsX11_isRow) := goodIn_app (goodIn_of _ (by decide +kernel)) ggX11_sure_X11_isRow
set_option maxRecDepth 20000 in
theorem ggX11_sure_X11_faultNow : GoodIn wsX11_sure wsX11_faultNow := goodIn_r _ [13, 14, 15, 16, 17, 18, 19, 20, 21, 5, 22, 23, 24, 25, 26, 27, 28, 29, 30, 31, 32, 33, 34, 7, 8, 9, 68, 69, 70, 71, 72, 73, 74, 75, 76, 77, 78, 79, 80, 81, 82, 83, 84, 85, 86, 87, 88, 89, 90, 91] (by decide +kernel) (by decide +kernel)
set_option maxRecDepth 20000 in
theorem gX11_sure_X11_faultNow : GoodIn wsX11_sure (wsV RX11 127 RX11 yX11_faultNow wsX11_faultNow) := goodIn_app (goodIn_of _ (by decide +kernel)) ggX11_sure_X11_faultNow
set_option maxRecDepth 20000 in
theorem ggX11_sure_X11_gathers : GoodIn wsX11_sure wsX11_gathers := goodIn_r _ [38, 2, 1, 39, 40, 68, 69, 70, 71, 72, 73, 74, 75, 76, 77, 78, 79, 80, 81, 82, 83, 84, 85, 86, 87, 88, 89, 90, 91] (by decide +kernel) (by decide +kernel)
set_option maxRecDepth 20000 in
theorem gX11_sure_X11_gathers : GoodIn wsX11_sure (wsV RX11 154 RX11 yX11_gathers wsX11_gathers) := goodIn_app (goodIn_of _ (by decide +kernel)) ggX11_sure_X11_gathers
set_option maxRecDepth 20000 in
theorem ggX11_sure_X11_fill : GoodIn wsX11_sure wsX11_fill := goodIn_r _ [44, 2, 40, 45, 46, 47, 5, 48, 1, 39, 68, 69, 70, 71, 72, 73, 74, 75, 76, 77, 78, 79, 80, 81, 82, 83, 84, 85, 86, 87, 88, 89, 90, 91] (by decide +kernel) (by decide +kernel)
set_option maxRecDepth 20000 in
theorem gX11_sure_X11_fill : GoodIn wsX11_sure (wsV RX11 158 RX11 yX11_fill wsX11_fill) := goodIn_app (goodIn_of _ (by decide +kernel)) ggX11_sure_X11_fill
set_option maxRecDepth 20000 in
theorem ggX11_sure_X11_does : GoodIn wsX11_sure wsX11_does := goodIn_r _ [52, 17, 26, 23, 24, 25, 53, 54, 55, 5, 56, 57, 58, 59, 60, 61, 62, 63, 64, 65, 66, 67, 68, 69, 70, 71, 72, 73, 74, 75, 76, 77, 78, 79, 80, 81, 82, 83, 84, 85, 86, 87, 88, 89, 90, 91] (by decide +kernel) (by decide +kernel)
set_option maxRecDepth 20000 in
theorem gX11_sure_X11_does : GoodIn wsX11_sure (wsV RX11 130 RX11 yX11_does wsX11_does) := goodIn_app (goodIn_of _ (by decide +kernel)) ggX11_sure_X11_does
set_option maxRecDepth 20000 in
theorem ggX11_dealtMany_X11_bitsOf : GoodIn wsX11_dealtMany wsX11_bitsOf := goodIn_r _ [6, 1, 7, 23, 24, 25, 26, 27, 28, 29, 30, 31, 32, 33, 34, 35, 36, 37, 38, 39, 40, 41, 42, 43, 44, 45, 46] (by decide +kernel) (by decide +kernel)
set_option maxRecDepth 20000 in
theorem gX11_dealtMany_X11_bitsOf : GoodIn wsX11_dealtMany (wsV RX11 90 RX11 yX11_bitsOf wsX11_bitsOf) := goodIn_app (goodIn_of _ (by decide +kernel)) ggX11_dealtMany_X11_bitsOf
set_option maxRecDepth 20000 in
theorem ggX11_dealtMany_X11_ones : GoodIn wsX11_dealtMany wsX11_ones := goodIn_r _ [10] (by decide +kernel) (by decide +kernel)
set_option maxRecDepth 20000 in
theorem gX11_dealtMany_X11_ones : GoodIn wsX11_dealtMany (va_wsS RX11 81 yX11_ones wsX11_ones) := goodIn_app (goodIn_of _ (by decide +kernel)) ggX11_dealtMany_X11_ones
set_option maxRecDepth 20000 in
theorem ggX11_dealtMany_X11_numberOf : GoodIn wsX11_dealtMany wsX11_numberOf := goodIn_r _ [14, 8, 9, 5, 10, 15, 16, 17, 18, 19, 20, 21, 22, 23, 24, 25, 26, 27, 28, 29, 30, 31, 32, 33, 34, 35, 36, 37, 38, 39, 40, 41, 42, 43, 44, 45, 46] (by decide +kernel) (by decide +kernel)
set_option maxRecDepth 20000 in
theorem gX11_dealtMany_X11_numberOf : GoodIn wsX11_dealtMany (wsV RX11 93 RX11 yX11_numberOf wsX11_numberOf) := goodIn_app (goodIn_of _ (by decide +kernel)) ggX11_dealtMany_X11_numberOf
set_option maxRecDepth 20000 in
theorem ggX11_dealtAll_X11_bitsOf : GoodIn wsX11_dealtAll wsX11_bitsOf := goodIn_r _ [6, 1, 7, 14, 15, 16, 17, 18, 19, 20, 21, 22, 23, 24, 25, 26, 27, 28, 29, 30, 31, 32, 33, 34, 35, 36, 37] (by decide +kernel) (by decide +kernel)
set_option maxRecDepth 20000 in
theorem gX11_dealtAll_X11_bitsOf : GoodIn wsX11_dealtAll (wsV RX11 90 RX11 yX11_bitsOf wsX11_bitsOf) := goodIn_app (goodIn_of _ (by decide +kernel)) ggX11_dealtAll_X11_bitsOf
set_option maxRecDepth 20000 in
theorem ggX11_dealtAll_X11_ones : GoodIn wsX11_dealtAll wsX11_ones := goodIn_r _ [10] (by decide +kernel) (by decide +kernel)
set_option maxRecDepth 20000 in
theorem gX11_dealtAll_X11_ones : GoodIn wsX11_dealtAll (va_wsS RX11 81 yX11_ones wsX11_ones) := goodIn_app (goodIn_of _ (by decide +kernel)) ggX11_dealtAll_X11_ones
set_option maxRecDepth 20000 in
theorem ggX11_dealtAll_X11_choose : GoodIn wsX11_dealtAll wsX11_choose := goodIn_r _ [13] (by decide +kernel) (by decide +kernel)
set_option maxRecDepth 20000 in
theorem gX11_dealtAll_X11_choose : GoodIn wsX11_dealtAll (va_wsS RX11 161 yX11_choose wsX11_choose) := goodIn_app (goodIn_of _ (by decide +kernel)) ggX11_dealtAll_X11_choose
set_option maxRecDepth 20000 in
theorem ggX11_dealt_X11_isRow : GoodIn wsX11_dealt wsX11_isRow := goodIn_r _ [5, 6, 7, 4, 8] (by decide +kernel) (by decide +kernel)
set_option maxRecDepth 20000 in
theorem gX11_dealt_X11_isRow : GoodIn wsX11_dealt (va_wsS RX11 63 yX11_isRow wsX11_isRow) := goodIn_app (goodIn_of _ (by decide +kernel)) ggX11_dealt_X11_isRow
set_option maxRecDepth 20000 in
theorem ggX11_dealt_X11_in : GoodIn wsX11_dealt wsX11_in := goodIn_r _ [8] (by decide +kernel) (by decide +kernel)
set_option maxRecDepth 20000 in
theorem gX11_dealt_X11_in : GoodIn wsX11_dealt (va_wsS RX11 59 yX11_in wsX11_in) := goodIn_app (goodIn_of _ (by decide +kernel)) ggX11_dealt_X11_in
set_option maxRecDepth 20000 in
theorem ggX11_dealt_X11_isWhole : GoodIn wsX11_dealt wsX11_isWhole := goodIn_r _ [12, 13, 14, 45, 46, 47, 48, 49, 50, 51, 52, 53, 54, 55, 56, 57, 58, 59, 60, 61, 62, 63, 64, 65, 66, 67, 68] (by decide +kernel) (by decide +kernel)
set_option maxRecDepth 20000 in
theorem gX11_dealt_X11_isWhole : GoodIn wsX11_dealt (wsV RX11 87 RX11 yX11_isWhole wsX11_isWhole) := goodIn_app (goodIn_of _ (by decide +kernel)) ggX11_dealt_X11_isWhole
set_option maxRecDepth 20000 in
theorem ggX11_dealt_X11_dealtMany : GoodIn wsX11_dealt wsX11_dealtMany := goodIn_r _ [18, 13, 19, 20, 21, 4, 22, 14, 23, 24, 25, 26, 27, 28, 29, 30, 31, 32, 33, 34, 35, 36, 37, 45, 46, 47, 48, 49, 50, 51, 52, 53, 54, 55, 56, 57, 58, 59, 60, 61, 62, 63, 64, 65, 66, 67, 68] (by decide +kernel) (by decide +kernel)
set_option maxRecDepth 20000 in
theorem gX11_dealt_X11_dealtMany : GoodIn wsX11_dealt (wsV RX11 167 RX11 yX11_dealtMany wsX11_dealtMany) := goodIn_app (goodIn_of _ (by decide +kernel)) ggX11_dealt_X11_dealtMany
set_option maxRecDepth 20000 in
theorem ggX11_dealt_X11_dealtAll : GoodIn wsX11_dealt wsX11_dealtAll := goodIn_r _ [41, 13, 19, 20, 21, 4, 22, 14, 23, 24, 25, 42, 43, 44, 45, 46, 47, 48, 49, 50, 51, 52, 53, 54, 55, 56, 57, 58, 59, 60, 61, 62, 63, 64, 65, 66, 67, 68] (by decide +kernel) (by decide +kernel)
set_option maxRecDepth 20000 in
theorem gX11_dealt_X11_dealtAll : GoodIn wsX11_dealt (wsV RX11 171 RX11 yX11_dealtAll wsX11_dealtAll) := goodIn_app (goodIn_of _ (by decide +kernel)) ggX11_dealt_X11_dealtAll
set_option maxRecDepth 20000 in
theorem ggX11_strangest_X11_isRow : GoodIn wsX11_strangest wsX11_isRow := goodIn_r _ [5, 6, 7, 4, 8] (by decide +kernel) (by decide +kernel)
set_option maxRecDepth 20000 in
theorem gX11_strangest_X11_isRow : GoodIn wsX11_strangest (va_wsS RX11 63 yX11_isRow wsX11_isRow) := goodIn_app (goodIn_of _ (by decide +kernel)) ggX11_strangest_X11_isRow
set_option maxRecDepth 20000 in
theorem ggX11_strangest_X11_isWhole : GoodIn wsX11_strangest wsX11_isWhole := goodIn_r _ [12, 1, 13, 37, 38, 39, 40, 41, 42, 43, 44, 45, 46, 47, 48, 49, 50, 51, 52, 53, 54, 55, 56, 57, 58, 59, 60] (by decide +kernel) (by decide +kernel)
set_option maxRecDepth 20000 in
theorem gX11_strangest_X11_isWhole : GoodIn wsX11_strangest (wsV RX11 87 RX11 yX11_isWhole wsX11_isWhole) := goodIn_app (goodIn_of _ (by decide +kernel)) ggX11_strangest_X11_isWhole
set_option maxRecDepth 20000 in
theorem ggX11_strangest_X11_dealtMany : GoodIn wsX11_strangest wsX11_dealtMany := goodIn_r _ [17, 1, 18, 19, 20, 4, 21, 13, 22, 23, 24, 25, 26, 27, 28, 29, 30, 31, 32, 33, 34, 35, 36, 37, 38, 39, 40, 41, 42, 43, 44, 45, 46, 47, 48, 49, 50, 51, 52, 53, 54, 55, 56, 57, 58, 59, 60] (by decide +kernel) (by decide +kernel)
set_option maxRecDepth 20000 in
theorem gX11_strangest_X11_dealtMany : GoodIn wsX11_strangest (wsV RX11 167 RX11 yX11_dealtMany wsX11_dealtMany) := goodIn_app (goodIn_of _ (by decide +kernel)) ggX11_strangest_X11_dealtMany
set_option maxRecDepth 20000 in
theorem ggX11_hot_X11_isRow : GoodIn wsX11_hot wsX11_isRow := goodIn_r _ [7, 8, 9, 6, 10] (by decide +kernel) (by decide +kernel)
set_option maxRecDepth 20000 in
theorem gX11_hot_X11_isRow : GoodIn wsX11_hot (va_wsS RX11 63 yX11_isRow wsX11_isRow) := goodIn_app (goodIn_of _ (by decide +kernel)) ggX11_hot_X11_isRow
set_option maxRecDepth 20000 in
theorem ggX11_hot_X11_in : GoodIn wsX11_hot wsX11_in := goodIn_r _ [10] (by decide +kernel) (by decide +kernel)
set_option maxRecDepth 20000 in
theorem gX11_hot_X11_in : GoodIn wsX11_hot (va_wsS RX11 59 yX11_in wsX11_in) := goodIn_app (goodIn_of _ (by decide +kernel)) ggX11_hot_X11_in
set_option maxRecDepth 20000 in
theorem ggX11_hot_X11_no : GoodIn wsX11_hot wsX11_no := goodIn_r _ [13, 14] (by decide +kernel) (by decide +kernel)
set_option maxRecDepth 20000 in
theorem gX11_hot_X11_no : GoodIn wsX11_hot (va_wsS RX11 137 yX11_no wsX11_no) := goodIn_app (goodIn_of _ (by decide +kernel)) ggX11_hot_X11_no
set_option maxRecDepth 20000 in
theorem ggX11_hot_X11_isWhole : GoodIn wsX11_hot wsX11_isWhole := goodIn_r _ [18, 1, 19, 31, 32, 33, 34, 35, 36, 37, 38, 39, 40, 41, 42, 43, 44, 45, 46, 47, 48, 49, 50, 51, 52, 53, 54] (by decide +kernel) (by decide +kernel)
set_option maxRecDepth 20000 in
theorem gX11_hot_X11_isWhole : GoodIn wsX11_hot (wsV RX11 87 RX11 yX11_isWhole wsX11_isWhole) := goodIn_app (goodIn_of _ (by decide +kernel)) ggX11_hot_X11_isWhole
set_option maxRecDepth 20000 in
theorem ggX11_hot_X11_bitsOf : GoodIn wsX11_hot wsX11_bitsOf := goodIn_r _ [23, 1, 19, 31, 32, 33, 34, 35, 36, 37, 38, 39, 40, 41, 42, 43, 44, 45, 46, 47, 48, 49, 50, 51, 52, 53, 54] (by decide +kernel) (by decide +kernel)
set_option maxRecDepth 20000 in
theorem gX11_hot_X11_bitsOf : GoodIn wsX11_hot (wsV RX11 90 RX11 yX11_bitsOf wsX11_bitsOf) := goodIn_app (goodIn_of _ (by decide +kernel)) ggX11_hot_X11_bitsOf
set_option maxRecDepth 20000 in
theorem ggX11_hot_X11_behind : GoodIn wsX11_hot wsX11_behind := goodIn_r _ [27, 2, 3, 31, 32, 33, 34, 35, 36, 37, 38, 39, 40, 41, 42, 43, 44, 45, 46, 47, 48, 49, 50, 51, 52, 53, 54] (by decide +kernel) (by decide +kernel)
set_option maxRecDepth 20000 in
theorem gX11_hot_X11_behind : GoodIn wsX11_hot (wsV RX11 180 RX11 yX11_behind wsX11_behind) := goodIn_app (goodIn_of _ (by decide +kernel)) ggX11_hot_X11_behind
set_option maxRecDepth 20000 in
theorem ggX11_hot_X11_lowest : GoodIn wsX11_hot wsX11_lowest := goodIn_r _ [30] (by decide +kernel) (by decide +kernel)
set_option maxRecDepth 20000 in
theorem gX11_hot_X11_lowest : GoodIn wsX11_hot (va_wsS RX11 147 yX11_lowest wsX11_lowest) := goodIn_app (goodIn_of _ (by decide +kernel)) ggX11_hot_X11_lowest
set_option maxRecDepth 20000 in
theorem ggX11_already_X11_isRow : GoodIn wsX11_already wsX11_isRow := goodIn_r _ [8, 9, 10, 7, 11] (by decide +kernel) (by decide +kernel)
set_option maxRecDepth 20000 in
theorem gX11_already_X11_isRow : GoodIn wsX11_already (va_wsS RX11 63 yX11_isRow wsX11_isRow) := goodIn_app (goodIn_of _ (by decide +kernel)) ggX11_already_X11_isRow
set_option maxRecDepth 20000 in
theorem ggX11_already_X11_in : GoodIn wsX11_already wsX11_in := goodIn_r _ [11] (by decide +kernel) (by decide +kernel)
set_option maxRecDepth 20000 in
theorem gX11_already_X11_in : GoodIn wsX11_already (va_wsS RX11 59 yX11_in wsX11_in) := goodIn_app (goodIn_of _ (by decide +kernel)) ggX11_already_X11_in
set_option maxRecDepth 20000 in
theorem ggX11_already_X11_no : GoodIn wsX11_already wsX11_no := goodIn_r _ [14, 15] (by decide +kernel) (by decide +kernel)
set_option maxRecDepth 20000 in
theorem gX11_already_X11_no : GoodIn wsX11_already (va_wsS RX11 137 yX11_no wsX11_no) := goodIn_app (goodIn_of _ (by decide +kernel)) ggX11_already_X11_no
set_option maxRecDepth 20000 in
theorem ggX11_already_X11_isWhole : GoodIn wsX11_already wsX11_isWhole := goodIn_r _ [19, 1, 20, 35, 36, 37, 38, 39, 40, 41, 42, 43, 44, 45, 46, 47, 48, 49, 50, 51, 52, 53, 54, 55, 56, 57, 58] (by decide +kernel) (by decide +kernel)
set_option maxRecDepth 20000 in
theorem gX11_already_X11_isWhole : GoodIn wsX11_already (wsV RX11 87 RX11 yX11_isWhole wsX11_isWhole) := goodIn_app (goodIn_of _ (by decide +kernel)) ggX11_already_X11_isWhole
set_option maxRecDepth 20000 in
theorem ggX11_already_X11_bitsOf : GoodIn wsX11_already wsX11_bitsOf := goodIn_r _ [24, 1, 20, 35, 36, 37, 38, 39, 40, 41, 42, 43, 44, 45, 46, 47, 48, 49, 50, 51, 52, 53, 54, 55, 56, 57, 58] (by decide +kernel) (by decide +kernel)
set_option maxRecDepth 20000 in
theorem gX11_already_X11_bitsOf : GoodIn wsX11_already (wsV RX11 90 RX11 yX11_bitsOf wsX11_bitsOf) := goodIn_app (goodIn_of _ (by decide +kernel)) ggX11_already_X11_bitsOf
set_option maxRecDepth 20000 in
theorem ggX11_already_X11_ones : GoodIn wsX11_already wsX11_ones := goodIn_r _ [27] (by decide +kernel) (by decide +kernel)
set_option maxRecDepth 20000 in
theorem gX11_already_X11_ones : GoodIn wsX11_already (va_wsS RX11 81 yX11_ones wsX11_ones) := goodIn_app (goodIn_of _ (by decide +kernel)) ggX11_already_X11_ones
set_option maxRecDepth 20000 in
theorem ggX11_already_X11_behind : GoodIn wsX11_already wsX11_behind := goodIn_r _ [31, 2, 3, 35, 36, 37, 38, 39, 40, 41, 42, 43, 44, 45, 46, 47, 48, 49, 50, 51, 52, 53, 54, 55, 56, 57, 58] (by decide +kernel) (by decide +kernel)
set_option maxRecDepth 20000 in
theorem gX11_already_X11_behind : GoodIn wsX11_already (wsV RX11 180 RX11 yX11_behind wsX11_behind) := goodIn_app (goodIn_of _ (by decide +kernel)) ggX11_already_X11_behind
set_option maxRecDepth 20000 in
theorem ggX11_already_X11_lowest : GoodIn wsX11_already wsX11_lowest := goodIn_r _ [34] (by decide +kernel) (by decide +kernel)
set_option maxRecDepth 20000 in
theorem gX11_already_X11_lowest : GoodIn wsX11_already (va_wsS RX11 147 yX11_lowest wsX11_lowest) := goodIn_app (goodIn_of _ (by decide +kernel)) ggX11_already_X11_lowest
set_option maxRecDepth 20000 in
theorem ggX11_oddsOf_X11_lengthOf : GoodIn wsX11_oddsOf wsX11_lengthOf := goodIn_r _ [5] (by decide +kernel) (by decide +kernel)
set_option maxRecDepth 20000 in
theorem gX11_oddsOf_X11_lengthOf : GoodIn wsX11_oddsOf (va_wsS RX11 78 yX11_lengthOf wsX11_lengthOf) := goodIn_app (goodIn_of _ (by decide +kernel)) ggX11_oddsOf_X11_lengthOf
set_option maxRecDepth 20000 in
theorem ggX11_overlaps_X11_lengthOf : GoodIn wsX11_overlaps wsX11_lengthOf := goodIn_r _ [4] (by decide +kernel) (by decide +kernel)
set_option maxRecDepth 20000 in
theorem gX11_overlaps_X11_lengthOf : GoodIn wsX11_overlaps (va_wsS RX11 78 yX11_lengthOf wsX11_lengthOf) := goodIn_app (goodIn_of _ (by decide +kernel)) ggX11_overlaps_X11_lengthOf
set_option maxRecDepth 20000 in
theorem ggX11_lead_X11_lengthOf : GoodIn wsX11_lead wsX11_lengthOf := goodIn_r _ [5] (by decide +kernel) (by decide +kernel)
set_option maxRecDepth 20000 in
theorem gX11_lead_X11_lengthOf : GoodIn wsX11_lead (va_wsS RX11 78 yX11_lengthOf wsX11_lengthOf) := goodIn_app (goodIn_of _ (by decide +kernel)) ggX11_lead_X11_lengthOf
set_option maxRecDepth 20000 in
theorem ggX11_lead_X11_overlaps : GoodIn wsX11_lead wsX11_overlaps := goodIn_r _ [8, 2, 3, 4, 5] (by decide +kernel) (by decide +kernel)
set_option maxRecDepth 20000 in
theorem gX11_lead_X11_overlaps : GoodIn wsX11_lead (va_wsS RX11 186 yX11_overlaps wsX11_overlaps) := goodIn_app (goodIn_of _ (by decide +kernel)) ggX11_lead_X11_overlaps
set_option maxRecDepth 20000 in
theorem ggX11_lead_X11_power : GoodIn wsX11_lead wsX11_power := goodIn_r _ [11] (by decide +kernel) (by decide +kernel)
set_option maxRecDepth 20000 in
theorem gX11_lead_X11_power : GoodIn wsX11_lead (va_wsS RX11 141 yX11_power wsX11_power) := goodIn_app (goodIn_of _ (by decide +kernel)) ggX11_lead_X11_power
set_option maxRecDepth 20000 in
theorem ggX11_lead_X11_oddsOf : GoodIn wsX11_lead wsX11_oddsOf := goodIn_r _ [15, 16, 2, 3, 4, 5, 17, 18, 19, 20, 21, 22, 23, 24, 25, 26, 27, 28, 29, 30, 31, 32, 33, 34, 35, 36, 37, 38, 39, 40] (by decide +kernel) (by decide +kernel)
set_option maxRecDepth 20000 in
theorem gX11_lead_X11_oddsOf : GoodIn wsX11_lead (wsV RX11 189 RX11 yX11_oddsOf wsX11_oddsOf) := goodIn_app (goodIn_of _ (by decide +kernel)) ggX11_lead_X11_oddsOf
set_option maxRecDepth 20000 in
theorem ggX11_waitsNow_X11_lead : GoodIn wsX11_waitsNow wsX11_lead := goodIn_r _ [6, 7, 8, 9, 5, 10, 11, 12, 13, 14, 15, 16, 17, 18, 19, 20, 21, 25, 26, 27, 28, 29, 30, 31, 32, 33, 34, 35, 36, 37, 38, 39, 40, 41, 42, 43, 44, 45, 46, 47, 48] (by decide +kernel) (by decide +kernel)
set_option maxRecDepth 20000 in
theorem gX11_waitsNow_X11_lead : GoodIn wsX11_waitsNow (wsV RX11 192 RX11 yX11_lead wsX11_lead) := goodIn_app (goodIn_of _ (by decide +kernel)) ggX11_waitsNow_X11_lead
set_option maxRecDepth 20000 in
theorem ggX11_waitsNow_X11_lengthOf : GoodIn wsX11_waitsNow wsX11_lengthOf := goodIn_r _ [10] (by decide +kernel) (by decide +kernel)
set_option maxRecDepth 20000 in
theorem gX11_waitsNow_X11_lengthOf : GoodIn wsX11_waitsNow (va_wsS RX11 78 yX11_lengthOf wsX11_lengthOf) := goodIn_app (goodIn_of _ (by decide +kernel)) ggX11_waitsNow_X11_lengthOf
set_option maxRecDepth 20000 in
theorem ggX11_waitsNow_X11_oddsOf : GoodIn wsX11_waitsNow wsX11_oddsOf := goodIn_r _ [20, 21, 8, 9, 5, 10, 25, 26, 27, 28, 29, 30, 31, 32, 33, 34, 35, 36, 37, 38, 39, 40, 41, 42, 43, 44, 45, 46, 47, 48] (by decide +kernel) (by decide +kernel)
set_option maxRecDepth 20000 in
theorem gX11_waitsNow_X11_oddsOf : GoodIn wsX11_waitsNow (wsV RX11 189 RX11 yX11_oddsOf wsX11_oddsOf) := goodIn_app (goodIn_of _ (by decide +kernel)) ggX11_waitsNow_X11_oddsOf
set_option maxRecDepth 20000 in
theorem ggX11_waitsNow_X11_lowest : GoodIn wsX11_waitsNow wsX11_lowest := goodIn_r _ [24] (by decide +kernel) (by decide +kernel)
set_option maxRecDepth 20000 in
theorem gX11_waitsNow_X11_lowest : GoodIn wsX11_waitsNow (va_wsS RX11 147 yX11_lowest wsX11_lowest) := goodIn_app (goodIn_of _ (by decide +kernel)) ggX11_waitsNow_X11_lowest
set_option maxRecDepth 20000 in
theorem ggX11_waits_X11_in : GoodIn wsX11_waits wsX11_in := goodIn_r _ [4] (by decide +kernel) (by decide +kernel)
set_option maxRecDepth 20000 in
theorem gX11_waits_X11_in : GoodIn wsX11_waits (va_wsS RX11 59 yX11_in wsX11_in) := goodIn_app (goodIn_of _ (by decide +kernel)) ggX11_waits_X11_in
