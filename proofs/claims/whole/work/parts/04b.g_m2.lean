set_option maxRecDepth 20000 in
theorem ggX11_waits_X11_waitsNow : GoodIn wsX11_waits wsX11_waitsNow := goodIn_r _ [8, 9, 10, 11, 12, 3, 13, 14, 15, 16, 17, 18, 19, 20, 21, 22, 23, 24, 25, 26, 27, 28, 29, 30, 31, 36, 37, 38, 39, 40, 41, 42, 43, 44, 45, 46, 47, 48, 49, 50, 51, 52, 53, 54, 55, 56, 57, 58, 59] (by decide +kernel) (by decide +kernel)
set_option maxRecDepth 20000 in
theorem gX11_waits_X11_waitsNow : GoodIn wsX11_waits (wsV RX11 195 RX11 yX11_waitsNow wsX11_waitsNow) := goodIn_app (goodIn_of _ (by decide +kernel)) ggX11_waits_X11_waitsNow
set_option maxRecDepth 20000 in
theorem ggX11_waits_X11_no : GoodIn wsX11_waits wsX11_no := goodIn_r _ [34, 35] (by decide +kernel) (by decide +kernel)
set_option maxRecDepth 20000 in
theorem gX11_waits_X11_no : GoodIn wsX11_waits (va_wsS RX11 137 yX11_no wsX11_no) := goodIn_app (goodIn_of _ (by decide +kernel)) ggX11_waits_X11_no
set_option maxRecDepth 20000 in
theorem ggX11_stands_X11_lengthOf : GoodIn wsX11_stands wsX11_lengthOf := goodIn_r _ [4] (by decide +kernel) (by decide +kernel)
set_option maxRecDepth 20000 in
theorem gX11_stands_X11_lengthOf : GoodIn wsX11_stands (va_wsS RX11 78 yX11_lengthOf wsX11_lengthOf) := goodIn_app (goodIn_of _ (by decide +kernel)) ggX11_stands_X11_lengthOf
set_option maxRecDepth 20000 in
theorem ggX11_first_X11_in : GoodIn wsX11_first wsX11_in := goodIn_r _ [4] (by decide +kernel) (by decide +kernel)
set_option maxRecDepth 20000 in
theorem gX11_first_X11_in : GoodIn wsX11_first (va_wsS RX11 59 yX11_in wsX11_in) := goodIn_app (goodIn_of _ (by decide +kernel)) ggX11_first_X11_in
set_option maxRecDepth 20000 in
theorem ggX11_first_X11_no : GoodIn wsX11_first wsX11_no := goodIn_r _ [7, 8] (by decide +kernel) (by decide +kernel)
set_option maxRecDepth 20000 in
theorem gX11_first_X11_no : GoodIn wsX11_first (va_wsS RX11 137 yX11_no wsX11_no) := goodIn_app (goodIn_of _ (by decide +kernel)) ggX11_first_X11_no
set_option maxRecDepth 20000 in
theorem ggX11_first_X11_stands : GoodIn wsX11_first wsX11_stands := goodIn_r _ [11, 12, 13, 3, 14] (by decide +kernel) (by decide +kernel)
set_option maxRecDepth 20000 in
theorem gX11_first_X11_stands : GoodIn wsX11_first (va_wsS RX11 198 yX11_stands wsX11_stands) := goodIn_app (goodIn_of _ (by decide +kernel)) ggX11_first_X11_stands
set_option maxRecDepth 20000 in
theorem ggX11_first_X11_lengthOf : GoodIn wsX11_first wsX11_lengthOf := goodIn_r _ [14] (by decide +kernel) (by decide +kernel)
set_option maxRecDepth 20000 in
theorem gX11_first_X11_lengthOf : GoodIn wsX11_first (va_wsS RX11 78 yX11_lengthOf wsX11_lengthOf) := goodIn_app (goodIn_of _ (by decide +kernel)) ggX11_first_X11_lengthOf
set_option maxRecDepth 20000 in
theorem ggX11_first_X11_oddsOf : GoodIn wsX11_first wsX11_oddsOf := goodIn_r _ [18, 19, 12, 13, 3, 14, 34, 35, 36, 37, 38, 39, 40, 41, 42, 43, 44, 45, 46, 47, 48, 49, 50, 51, 52, 53, 54, 55, 56, 57] (by decide +kernel) (by decide +kernel)
set_option maxRecDepth 20000 in
theorem gX11_first_X11_oddsOf : GoodIn wsX11_first (wsV RX11 189 RX11 yX11_oddsOf wsX11_oddsOf) := goodIn_app (goodIn_of _ (by decide +kernel)) ggX11_first_X11_oddsOf
set_option maxRecDepth 20000 in
theorem ggX11_first_X11_lead : GoodIn wsX11_first wsX11_lead := goodIn_r _ [23, 24, 12, 13, 3, 14, 25, 26, 27, 28, 29, 30, 15, 16, 17, 18, 19, 34, 35, 36, 37, 38, 39, 40, 41, 42, 43, 44, 45, 46, 47, 48, 49, 50, 51, 52, 53, 54, 55, 56, 57] (by decide +kernel) (by decide +kernel)
set_option maxRecDepth 20000 in
theorem gX11_first_X11_lead : GoodIn wsX11_first (wsV RX11 192 RX11 yX11_lead wsX11_lead) := goodIn_app (goodIn_of _ (by decide +kernel)) ggX11_first_X11_lead
set_option maxRecDepth 20000 in
theorem ggX11_first_X11_lowest : GoodIn wsX11_first wsX11_lowest := goodIn_r _ [33] (by decide +kernel) (by decide +kernel)
set_option maxRecDepth 20000 in
theorem gX11_first_X11_lowest : GoodIn wsX11_first (va_wsS RX11 147 yX11_lowest wsX11_lowest) := goodIn_app (goodIn_of _ (by decide +kernel)) ggX11_first_X11_lowest
set_option maxRecDepth 20000 in
theorem ggX11_agree_X11_isRow : GoodIn wsX11_agree wsX11_isRow := goodIn_r _ [6, 7, 8, 5, 9] (by decide +kernel) (by decide +kernel)
set_option maxRecDepth 20000 in
theorem gX11_agree_X11_isRow : GoodIn wsX11_agree (va_wsS RX11 63 yX11_isRow wsX11_isRow) := goodIn_app (goodIn_of _ (by decide +kernel)) ggX11_agree_X11_isRow
set_option maxRecDepth 20000 in
theorem ggX11_agree_X11_in : GoodIn wsX11_agree wsX11_in := goodIn_r _ [9] (by decide +kernel) (by decide +kernel)
set_option maxRecDepth 20000 in
theorem gX11_agree_X11_in : GoodIn wsX11_agree (va_wsS RX11 59 yX11_in wsX11_in) := goodIn_app (goodIn_of _ (by decide +kernel)) ggX11_agree_X11_in
set_option maxRecDepth 20000 in
theorem ggX11_agree_X11_isWhole : GoodIn wsX11_agree wsX11_isWhole := goodIn_r _ [13, 1, 14, 29, 30, 31, 32, 33, 34, 35, 36, 37, 38, 39, 40, 41, 42, 43, 44, 45, 46, 47, 48, 49, 50, 51, 52] (by decide +kernel) (by decide +kernel)
set_option maxRecDepth 20000 in
theorem gX11_agree_X11_isWhole : GoodIn wsX11_agree (wsV RX11 87 RX11 yX11_isWhole wsX11_isWhole) := goodIn_app (goodIn_of _ (by decide +kernel)) ggX11_agree_X11_isWhole
set_option maxRecDepth 20000 in
theorem ggX11_agree_X11_bitsOf : GoodIn wsX11_agree wsX11_bitsOf := goodIn_r _ [18, 1, 14, 29, 30, 31, 32, 33, 34, 35, 36, 37, 38, 39, 40, 41, 42, 43, 44, 45, 46, 47, 48, 49, 50, 51, 52] (by decide +kernel) (by decide +kernel)
set_option maxRecDepth 20000 in
theorem gX11_agree_X11_bitsOf : GoodIn wsX11_agree (wsV RX11 90 RX11 yX11_bitsOf wsX11_bitsOf) := goodIn_app (goodIn_of _ (by decide +kernel)) ggX11_agree_X11_bitsOf
set_option maxRecDepth 20000 in
theorem ggX11_agree_X11_ones : GoodIn wsX11_agree wsX11_ones := goodIn_r _ [21] (by decide +kernel) (by decide +kernel)
set_option maxRecDepth 20000 in
theorem gX11_agree_X11_ones : GoodIn wsX11_agree (va_wsS RX11 81 yX11_ones wsX11_ones) := goodIn_app (goodIn_of _ (by decide +kernel)) ggX11_agree_X11_ones
set_option maxRecDepth 20000 in
theorem ggX11_agree_X11_dealtAll : GoodIn wsX11_agree wsX11_dealtAll := goodIn_r _ [25, 1, 15, 16, 17, 5, 18, 14, 19, 20, 21, 26, 27, 28, 29, 30, 31, 32, 33, 34, 35, 36, 37, 38, 39, 40, 41, 42, 43, 44, 45, 46, 47, 48, 49, 50, 51, 52] (by decide +kernel) (by decide +kernel)
set_option maxRecDepth 20000 in
theorem gX11_agree_X11_dealtAll : GoodIn wsX11_agree (wsV RX11 171 RX11 yX11_dealtAll wsX11_dealtAll) := goodIn_app (goodIn_of _ (by decide +kernel)) ggX11_agree_X11_dealtAll
set_option maxRecDepth 20000 in
theorem ggX11_twice_X11_isRow : GoodIn wsX11_twice wsX11_isRow := goodIn_r _ [6, 7, 8, 5, 9] (by decide +kernel) (by decide +kernel)
set_option maxRecDepth 20000 in
theorem gX11_twice_X11_isRow : GoodIn wsX11_twice (va_wsS RX11 63 yX11_isRow wsX11_isRow) := goodIn_app (goodIn_of _ (by decide +kernel)) ggX11_twice_X11_isRow
set_option maxRecDepth 20000 in
theorem ggX11_twice_X11_isWhole : GoodIn wsX11_twice wsX11_isWhole := goodIn_r _ [13, 1, 2, 14, 15, 16, 17, 18, 19, 20, 21, 22, 23, 24, 25, 26, 27, 28, 29, 30, 31, 32, 33, 34, 35, 36, 37] (by decide +kernel) (by decide +kernel)
set_option maxRecDepth 20000 in
theorem gX11_twice_X11_isWhole : GoodIn wsX11_twice (wsV RX11 87 RX11 yX11_isWhole wsX11_isWhole) := goodIn_app (goodIn_of _ (by decide +kernel)) ggX11_twice_X11_isWhole
set_option maxRecDepth 20000 in
theorem ggX11_next_X11_isRow : GoodIn wsX11_next wsX11_isRow := goodIn_r _ [7, 8, 9, 6, 10] (by decide +kernel) (by decide +kernel)
set_option maxRecDepth 20000 in
theorem gX11_next_X11_isRow : GoodIn wsX11_next (va_wsS RX11 63 yX11_isRow wsX11_isRow) := goodIn_app (goodIn_of _ (by decide +kernel)) ggX11_next_X11_isRow
set_option maxRecDepth 20000 in
theorem ggX11_next_X11_in : GoodIn wsX11_next wsX11_in := goodIn_r _ [10] (by decide +kernel) (by decide +kernel)
set_option maxRecDepth 20000 in
theorem gX11_next_X11_in : GoodIn wsX11_next (va_wsS RX11 59 yX11_in wsX11_in) := goodIn_app (goodIn_of _ (by decide +kernel)) ggX11_next_X11_in
set_option maxRecDepth 20000 in
theorem ggX11_next_X11_lowest : GoodIn wsX11_next wsX11_lowest := goodIn_r _ [13] (by decide +kernel) (by decide +kernel)
set_option maxRecDepth 20000 in
theorem gX11_next_X11_lowest : GoodIn wsX11_next (va_wsS RX11 147 yX11_lowest wsX11_lowest) := goodIn_app (goodIn_of _ (by decide +kernel)) ggX11_next_X11_lowest
set_option maxRecDepth 20000 in
theorem ggX11_isSheet_X11_in : GoodIn wsX11_isSheet wsX11_in := goodIn_r _ [4] (by decide +kernel) (by decide +kernel)
set_option maxRecDepth 20000 in
theorem gX11_isSheet_X11_in : GoodIn wsX11_isSheet (va_wsS RX11 59 yX11_in wsX11_in) := goodIn_app (goodIn_of _ (by decide +kernel)) ggX11_isSheet_X11_in
set_option maxRecDepth 20000 in
theorem ggX11_sheet_X11_isSheet : GoodIn wsX11_sheet wsX11_isSheet := goodIn_r _ [8, 9, 10, 7, 11] (by decide +kernel) (by decide +kernel)
set_option maxRecDepth 20000 in
theorem gX11_sheet_X11_isSheet : GoodIn wsX11_sheet (va_wsS RX11 71 yX11_isSheet wsX11_isSheet) := goodIn_app (goodIn_of _ (by decide +kernel)) ggX11_sheet_X11_isSheet
set_option maxRecDepth 20000 in
theorem ggX11_sheet_X11_in : GoodIn wsX11_sheet wsX11_in := goodIn_r _ [11] (by decide +kernel) (by decide +kernel)
set_option maxRecDepth 20000 in
theorem gX11_sheet_X11_in : GoodIn wsX11_sheet (va_wsS RX11 59 yX11_in wsX11_in) := goodIn_app (goodIn_of _ (by decide +kernel)) ggX11_sheet_X11_in
set_option maxRecDepth 20000 in
theorem ggX11_sheet_X11_meets : GoodIn wsX11_sheet wsX11_meets := goodIn_r _ [15, 16, 17, 18, 19, 20, 21, 22, 23, 24, 25, 26, 27, 28, 29, 30, 31, 32, 33, 34, 35, 36, 37, 38, 39, 40] (by decide +kernel) (by decide +kernel)
set_option maxRecDepth 20000 in
theorem gX11_sheet_X11_meets : GoodIn wsX11_sheet (wsV RX11 74 RX11 yX11_meets wsX11_meets) := goodIn_app (goodIn_of _ (by decide +kernel)) ggX11_sheet_X11_meets
set_option maxRecDepth 20000 in
theorem ggX11_lose_X11_isSheet : GoodIn wsX11_lose wsX11_isSheet := goodIn_r _ [6, 7, 8, 5, 9] (by decide +kernel) (by decide +kernel)
set_option maxRecDepth 20000 in
theorem gX11_lose_X11_isSheet : GoodIn wsX11_lose (va_wsS RX11 71 yX11_isSheet wsX11_isSheet) := goodIn_app (goodIn_of _ (by decide +kernel)) ggX11_lose_X11_isSheet
set_option maxRecDepth 20000 in
theorem ggX11_lose_X11_meets : GoodIn wsX11_lose wsX11_meets := goodIn_r _ [13, 14, 15, 16, 17, 18, 19, 20, 21, 22, 23, 24, 25, 26, 27, 28, 29, 30, 31, 32, 33, 34, 35, 36, 37, 38] (by decide +kernel) (by decide +kernel)
set_option maxRecDepth 20000 in
theorem gX11_lose_X11_meets : GoodIn wsX11_lose (wsV RX11 74 RX11 yX11_meets wsX11_meets) := goodIn_app (goodIn_of _ (by decide +kernel)) ggX11_lose_X11_meets
set_option maxRecDepth 20000 in
theorem ggX11_lacks_X11_in : GoodIn wsX11_lacks wsX11_in := goodIn_r _ [7] (by decide +kernel) (by decide +kernel)
set_option maxRecDepth 20000 in
theorem gX11_lacks_X11_in : GoodIn wsX11_lacks (va_wsS RX11 59 yX11_in wsX11_in) := goodIn_app (goodIn_of _ (by decide +kernel)) ggX11_lacks_X11_in
set_option maxRecDepth 20000 in
theorem ggX11_put_X11_isSheet : GoodIn wsX11_put wsX11_isSheet := goodIn_r _ [4, 5, 6, 3, 7] (by decide +kernel) (by decide +kernel)
set_option maxRecDepth 20000 in
theorem gX11_put_X11_isSheet : GoodIn wsX11_put (va_wsS RX11 71 yX11_isSheet wsX11_isSheet) := goodIn_app (goodIn_of _ (by decide +kernel)) ggX11_put_X11_isSheet
set_option maxRecDepth 20000 in
theorem ggX11_put_X11_in : GoodIn wsX11_put wsX11_in := goodIn_r _ [7] (by decide +kernel) (by decide +kernel)
set_option maxRecDepth 20000 in
theorem gX11_put_X11_in : GoodIn wsX11_put (va_wsS RX11 59 yX11_in wsX11_in) := goodIn_app (goodIn_of _ (by decide +kernel)) ggX11_put_X11_in
set_option maxRecDepth 20000 in
theorem ggX11_put_X11_lacks : GoodIn wsX11_put wsX11_lacks := goodIn_r _ [11, 12, 13, 14, 5, 6, 3, 7, 25, 26, 27, 28, 29, 30, 31, 32, 33, 34, 35, 36, 37, 38, 39, 40, 41, 42, 43, 44, 45, 46, 47, 48] (by decide +kernel) (by decide +kernel)
set_option maxRecDepth 20000 in
theorem gX11_put_X11_lacks : GoodIn wsX11_put (wsV RX11 206 RX11 yX11_lacks wsX11_lacks) := goodIn_app (goodIn_of _ (by decide +kernel)) ggX11_put_X11_lacks
set_option maxRecDepth 20000 in
theorem ggX11_put_X11_meets : GoodIn wsX11_put wsX11_meets := goodIn_r _ [18, 19, 25, 26, 27, 28, 29, 30, 31, 32, 33, 34, 35, 36, 37, 38, 39, 40, 41, 42, 43, 44, 45, 46, 47, 48] (by decide +kernel) (by decide +kernel)
set_option maxRecDepth 20000 in
theorem gX11_put_X11_meets : GoodIn wsX11_put (wsV RX11 74 RX11 yX11_meets wsX11_meets) := goodIn_app (goodIn_of _ (by decide +kernel)) ggX11_put_X11_meets
set_option maxRecDepth 20000 in
theorem ggX11_put_X11_keep : GoodIn wsX11_put wsX11_keep := goodIn_r _ [23, 24, 13, 25, 26, 27, 28, 29, 30, 31, 32, 33, 34, 35, 36, 37, 38, 39, 40, 41, 42, 43, 44, 45, 46, 47, 48] (by decide +kernel) (by decide +kernel)
set_option maxRecDepth 20000 in
theorem gX11_put_X11_keep : GoodIn wsX11_put (wsV RX11 209 RX11 yX11_keep wsX11_keep) := goodIn_app (goodIn_of _ (by decide +kernel)) ggX11_put_X11_keep
set_option maxRecDepth 20000 in
theorem ggX11_get_X11_isSheet : GoodIn wsX11_get wsX11_isSheet := goodIn_r _ [7, 8, 9, 6, 10] (by decide +kernel) (by decide +kernel)
set_option maxRecDepth 20000 in
theorem gX11_get_X11_isSheet : GoodIn wsX11_get (va_wsS RX11 71 yX11_isSheet wsX11_isSheet) := goodIn_app (goodIn_of _ (by decide +kernel)) ggX11_get_X11_isSheet
set_option maxRecDepth 20000 in
theorem ggX11_get_X11_in : GoodIn wsX11_get wsX11_in := goodIn_r _ [10] (by decide +kernel) (by decide +kernel)
set_option maxRecDepth 20000 in
theorem gX11_get_X11_in : GoodIn wsX11_get (va_wsS RX11 59 yX11_in wsX11_in) := goodIn_app (goodIn_of _ (by decide +kernel)) ggX11_get_X11_in
set_option maxRecDepth 20000 in
theorem ggX11_get_X11_lacks : GoodIn wsX11_get wsX11_lacks := goodIn_r _ [14, 15, 16, 17, 8, 9, 6, 10, 18, 19, 20, 21, 22, 23, 24, 25, 26, 27, 28, 29, 30, 31, 32, 33, 34, 35, 36, 37, 38, 39, 40, 41] (by decide +kernel) (by decide +kernel)
set_option maxRecDepth 20000 in
theorem gX11_get_X11_lacks : GoodIn wsX11_get (wsV RX11 206 RX11 yX11_lacks wsX11_lacks) := goodIn_app (goodIn_of _ (by decide +kernel)) ggX11_get_X11_lacks
set_option maxRecDepth 20000 in
theorem ggX11_copy_X11_isSheet : GoodIn wsX11_copy wsX11_isSheet := goodIn_r _ [9, 10, 11, 8, 12] (by decide +kernel) (by decide +kernel)
set_option maxRecDepth 20000 in
theorem gX11_copy_X11_isSheet : GoodIn wsX11_copy (va_wsS RX11 71 yX11_isSheet wsX11_isSheet) := goodIn_app (goodIn_of _ (by decide +kernel)) ggX11_copy_X11_isSheet
set_option maxRecDepth 20000 in
theorem ggX11_copy_X11_meets : GoodIn wsX11_copy wsX11_meets := goodIn_r _ [16, 17, 18, 19, 20, 21, 22, 23, 24, 25, 26, 27, 28, 29, 30, 31, 32, 33, 34, 35, 36, 37, 38, 39, 40, 41] (by decide +kernel) (by decide +kernel)
set_option maxRecDepth 20000 in
theorem gX11_copy_X11_meets : GoodIn wsX11_copy (wsV RX11 74 RX11 yX11_meets wsX11_meets) := goodIn_app (goodIn_of _ (by decide +kernel)) ggX11_copy_X11_meets
set_option maxRecDepth 20000 in
theorem ggX11_write_X11_isRow : GoodIn wsX11_write wsX11_isRow := goodIn_r _ [8, 9, 10, 7, 11] (by decide +kernel) (by decide +kernel)
set_option maxRecDepth 20000 in
theorem gX11_write_X11_isRow : GoodIn wsX11_write (va_wsS RX11 63 yX11_isRow wsX11_isRow) := goodIn_app (goodIn_of _ (by decide +kernel)) ggX11_write_X11_isRow
set_option maxRecDepth 20000 in
theorem ggX11_write_X11_isSheet : GoodIn wsX11_write wsX11_isSheet := goodIn_r _ [14, 9, 10, 7, 11] (by decide +kernel) (by decide +kernel)
set_option maxRecDepth 20000 in
theorem gX11_write_X11_isSheet : GoodIn wsX11_write (va_wsS RX11 71 yX11_isSheet wsX11_isSheet) := goodIn_app (goodIn_of _ (by decide +kernel)) ggX11_write_X11_isSheet
set_option maxRecDepth 20000 in
theorem ggX11_write_X11_meets : GoodIn wsX11_write wsX11_meets := goodIn_r _ [18, 19, 26, 27, 28, 29, 30, 31, 32, 33, 34, 35, 36, 37, 38, 39, 40, 41, 42, 43, 44, 45, 46, 47, 48, 49] (by decide +kernel) (by decide +kernel)
set_option maxRecDepth 20000 in
theorem gX11_write_X11_meets : GoodIn wsX11_write (wsV RX11 74 RX11 yX11_meets wsX11_meets) := goodIn_app (goodIn_of _ (by decide +kernel)) ggX11_write_X11_meets
set_option maxRecDepth 20000 in
theorem ggX11_write_X11_keep : GoodIn wsX11_write wsX11_keep := goodIn_r _ [23, 24, 25, 26, 27, 28, 29, 30, 31, 32, 33, 34, 35, 36, 37, 38, 39, 40, 41, 42, 43, 44, 45, 46, 47, 48, 49] (by decide +kernel) (by decide +kernel)
set_option maxRecDepth 20000 in
theorem gX11_write_X11_keep : GoodIn wsX11_write (wsV RX11 209 RX11 yX11_keep wsX11_keep) := goodIn_app (goodIn_of _ (by decide +kernel)) ggX11_write_X11_keep
set_option maxRecDepth 20000 in
theorem ggX11_wholeOnes_X11_isWhole : GoodIn wsX11_wholeOnes wsX11_isWhole := goodIn_r _ [5, 6, 7, 8, 9, 10, 11, 12, 13, 14, 15, 16, 17, 18, 19, 20, 21, 22, 23, 24, 25, 26, 27, 28, 29, 30, 31] (by decide +kernel) (by decide +kernel)
set_option maxRecDepth 20000 in
theorem gX11_wholeOnes_X11_isWhole : GoodIn wsX11_wholeOnes (wsV RX11 87 RX11 yX11_isWhole wsX11_isWhole) := goodIn_app (goodIn_of _ (by decide +kernel)) ggX11_wholeOnes_X11_isWhole
set_option maxRecDepth 20000 in
theorem ggX11_count_X11_wholeOnes : GoodIn wsX11_count wsX11_wholeOnes := goodIn_r _ [10, 11, 12, 13, 9, 14, 1, 15, 16, 17, 18, 19, 20, 21, 22, 23, 24, 25, 26, 27, 28, 29, 30, 31, 32, 33, 34, 35, 36, 37, 38, 39] (by decide +kernel) (by decide +kernel)
set_option maxRecDepth 20000 in
theorem gX11_count_X11_wholeOnes : GoodIn wsX11_count (wsV RX11 213 RX11 yX11_wholeOnes wsX11_wholeOnes) := goodIn_app (goodIn_of _ (by decide +kernel)) ggX11_count_X11_wholeOnes
set_option maxRecDepth 20000 in
theorem ggX11_digest_X11_count : GoodIn wsX11_digest wsX11_count := goodIn_r _ [10, 3, 11, 12, 13, 14, 15, 16, 17, 9, 18, 19, 20, 21, 22, 4, 107, 108, 109, 110, 111, 112, 113, 114, 115, 116, 117, 118, 119, 120, 121, 122, 123, 124, 125, 126, 127, 128, 129, 130] (by decide +kernel) (by decide +kernel)
set_option maxRecDepth 20000 in
theorem gX11_digest_X11_count : GoodIn wsX11_digest (wsV RX11 220 RX11 yX11_count wsX11_count) := goodIn_app (goodIn_of _ (by decide +kernel)) ggX11_digest_X11_count
set_option maxRecDepth 20000 in
theorem ggX11_digest_X11_showsNow : GoodIn wsX11_digest wsX11_showsNow := goodIn_r _ [26, 3, 19, 20, 21, 9, 22, 4, 27, 28, 29, 30, 31, 32, 33, 34, 35, 36, 37, 38, 39, 40, 41, 13, 42, 43, 44, 107, 108, 109, 110, 111, 112, 113, 114, 115, 116, 117, 118, 119, 120, 121, 122, 123, 124, 125, 126, 127, 128, 129, 130] (by decide +kernel) (by decide +kernel)
set_option maxRecDepth 20000 in
theorem gX11_digest_X11_showsNow : GoodIn wsX11_digest (wsV RX11 97 RX11 yX11_showsNow wsX11_showsNow) := goodIn_app (goodIn_of _ (by decide +kernel)) ggX11_digest_X11_showsNow
set_option maxRecDepth 20000 in
theorem ggX11_digest_X11_faultNow : GoodIn wsX11_digest wsX11_faultNow := goodIn_r _ [48, 49, 50, 51, 52, 11, 53, 54, 55, 9, 56, 57, 58, 59, 60, 61, 62, 63, 64, 65, 66, 67, 68, 69, 70, 71, 107, 108, 109, 110, 111, 112, 113, 114, 115, 116, 117, 118, 119, 120, 121, 122, 123, 124, 125, 126, 127, 128, 129, 130] (by decide +kernel) (by decide +kernel)
set_option maxRecDepth 20000 in
theorem gX11_digest_X11_faultNow : GoodIn wsX11_digest (wsV RX11 127 RX11 yX11_faultNow wsX11_faultNow) := goodIn_app (goodIn_of _ (by decide +kernel)) ggX11_digest_X11_faultNow
set_option maxRecDepth 20000 in
theorem ggX11_digest_X11_shownNow : GoodIn wsX11_digest wsX11_shownNow := goodIn_r _ [75, 45, 46, 47, 9, 48, 49, 50, 51, 52, 11, 53, 54, 55, 56, 57, 58, 59, 60, 61, 62, 63, 64, 65, 66, 67, 68, 69, 70, 71, 35, 36, 37, 76, 77, 78, 79, 31, 32, 33, 34, 38, 39, 40, 41, 13, 42, 43, 44, 107, 108, 109, 110, 111, 112, 113, 114, 115, 116, 117, 118, 119, 120, 121, 122, 123, 124, 125, 126, 127, 128, 129, 130] (by decide +kernel) (by decide +kernel)
set_option maxRecDepth 20000 in
theorem gX11_digest_X11_shownNow : GoodIn wsX11_digest (wsV RX11 134 RX11 yX11_shownNow wsX11_shownNow) := goodIn_app (goodIn_of _ (by decide +kernel)) ggX11_digest_X11_shownNow
set_option maxRecDepth 20000 in
theorem ggX11_digest_X11_waitsNow : GoodIn wsX11_digest wsX11_waitsNow := goodIn_r _ [83, 13, 84, 85, 86, 9, 87, 88, 42, 43, 44, 89, 90, 91, 92, 93, 94, 95, 96, 97, 98, 12, 99, 100, 101, 107, 108, 109, 110, 111, 112, 113, 114, 115, 116, 117, 118, 119, 120, 121, 122, 123, 124, 125, 126, 127, 128, 129, 130] (by decide +kernel) (by decide +kernel)
set_option maxRecDepth 20000 in
theorem gX11_digest_X11_waitsNow : GoodIn wsX11_digest (wsV RX11 195 RX11 yX11_waitsNow wsX11_waitsNow) := goodIn_app (goodIn_of _ (by decide +kernel)) ggX11_digest_X11_waitsNow
set_option maxRecDepth 20000 in
theorem ggX11_digest_X11_gathers : GoodIn wsX11_digest wsX11_gathers := goodIn_r _ [105, 5, 3, 4, 106, 107, 108, 109, 110, 111, 112, 113, 114, 115, 116, 117, 118, 119, 120, 121, 122, 123, 124, 125, 126, 127, 128, 129, 130] (by decide +kernel) (by decide +kernel)
set_option maxRecDepth 20000 in
theorem gX11_digest_X11_gathers : GoodIn wsX11_digest (wsV RX11 154 RX11 yX11_gathers wsX11_gathers) := goodIn_app (goodIn_of _ (by decide +kernel)) ggX11_digest_X11_gathers
