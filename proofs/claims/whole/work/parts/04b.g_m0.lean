set_option maxRecDepth 20000 in
theorem ggX11_isRow_X11_in : GoodIn wsX11_isRow wsX11_in := goodIn_r _ [4] (by decide +kernel) (by decide +kernel)
set_option maxRecDepth 20000 in
theorem gX11_isRow_X11_in : GoodIn wsX11_isRow (va_wsS RX11 59 yX11_in wsX11_in) := goodIn_app (goodIn_of _ (by decide +kernel)) ggX11_isRow_X11_in
set_option maxRecDepth 20000 in
theorem ggX11_puts_X11_isRow : GoodIn wsX11_puts wsX11_isRow := goodIn_r _ [6, 7, 8, 5, 9] (by decide +kernel) (by decide +kernel)
set_option maxRecDepth 20000 in
theorem gX11_puts_X11_isRow : GoodIn wsX11_puts (va_wsS RX11 63 yX11_isRow wsX11_isRow) := goodIn_app (goodIn_of _ (by decide +kernel)) ggX11_puts_X11_isRow
set_option maxRecDepth 20000 in
theorem ggX11_puts_X11_in : GoodIn wsX11_puts wsX11_in := goodIn_r _ [9] (by decide +kernel) (by decide +kernel)
set_option maxRecDepth 20000 in
theorem gX11_puts_X11_in : GoodIn wsX11_puts (va_wsS RX11 59 yX11_in wsX11_in) := goodIn_app (goodIn_of _ (by decide +kernel)) ggX11_puts_X11_in
set_option maxRecDepth 20000 in
theorem ggX11_sign_X11_puts : GoodIn wsX11_sign wsX11_puts := goodIn_r _ [5, 6, 7, 8, 9, 4, 10, 11, 12, 13, 14, 15, 16, 17, 18, 19, 20, 21, 22, 23, 24, 25, 26, 27, 28, 29, 30, 31, 32, 33, 34, 35, 36, 37] (by decide +kernel) (by decide +kernel)
set_option maxRecDepth 20000 in
theorem gX11_sign_X11_puts : GoodIn wsX11_sign (wsV RX11 67 RX11 yX11_puts wsX11_puts) := goodIn_app (goodIn_of _ (by decide +kernel)) ggX11_sign_X11_puts
set_option maxRecDepth 20000 in
theorem ggX11_read_X11_isSheet : GoodIn wsX11_read wsX11_isSheet := goodIn_r _ [7, 8, 9, 6, 10] (by decide +kernel) (by decide +kernel)
set_option maxRecDepth 20000 in
theorem gX11_read_X11_isSheet : GoodIn wsX11_read (va_wsS RX11 71 yX11_isSheet wsX11_isSheet) := goodIn_app (goodIn_of _ (by decide +kernel)) ggX11_read_X11_isSheet
set_option maxRecDepth 20000 in
theorem ggX11_read_X11_isRow : GoodIn wsX11_read wsX11_isRow := goodIn_r _ [13, 8, 9, 6, 10] (by decide +kernel) (by decide +kernel)
set_option maxRecDepth 20000 in
theorem gX11_read_X11_isRow : GoodIn wsX11_read (va_wsS RX11 63 yX11_isRow wsX11_isRow) := goodIn_app (goodIn_of _ (by decide +kernel)) ggX11_read_X11_isRow
set_option maxRecDepth 20000 in
theorem ggX11_read_X11_meets : GoodIn wsX11_read wsX11_meets := goodIn_r _ [17, 18, 25, 26, 27, 28, 29, 30, 31, 32, 33, 34, 35, 36, 37, 38, 39, 40, 41, 42, 43, 44, 45, 46, 47, 48] (by decide +kernel) (by decide +kernel)
set_option maxRecDepth 20000 in
theorem gX11_read_X11_meets : GoodIn wsX11_read (wsV RX11 74 RX11 yX11_meets wsX11_meets) := goodIn_app (goodIn_of _ (by decide +kernel)) ggX11_read_X11_meets
set_option maxRecDepth 20000 in
theorem ggX11_read_X11_puts : GoodIn wsX11_read wsX11_puts := goodIn_r _ [22, 23, 24, 11, 12, 6, 13, 8, 9, 10, 25, 26, 27, 28, 29, 30, 31, 32, 33, 34, 35, 36, 37, 38, 39, 40, 41, 42, 43, 44, 45, 46, 47, 48] (by decide +kernel) (by decide +kernel)
set_option maxRecDepth 20000 in
theorem gX11_read_X11_puts : GoodIn wsX11_read (wsV RX11 67 RX11 yX11_puts wsX11_puts) := goodIn_app (goodIn_of _ (by decide +kernel)) ggX11_read_X11_puts
set_option maxRecDepth 20000 in
theorem ggX11_clear_X11_isRow : GoodIn wsX11_clear wsX11_isRow := goodIn_r _ [5, 6, 7, 4, 8] (by decide +kernel) (by decide +kernel)
set_option maxRecDepth 20000 in
theorem gX11_clear_X11_isRow : GoodIn wsX11_clear (va_wsS RX11 63 yX11_isRow wsX11_isRow) := goodIn_app (goodIn_of _ (by decide +kernel)) ggX11_clear_X11_isRow
set_option maxRecDepth 20000 in
theorem ggX11_at_X11_isRow : GoodIn wsX11_at wsX11_isRow := goodIn_r _ [6, 7, 8, 5, 9] (by decide +kernel) (by decide +kernel)
set_option maxRecDepth 20000 in
theorem gX11_at_X11_isRow : GoodIn wsX11_at (va_wsS RX11 63 yX11_isRow wsX11_isRow) := goodIn_app (goodIn_of _ (by decide +kernel)) ggX11_at_X11_isRow
set_option maxRecDepth 20000 in
theorem ggX11_set_X11_in : GoodIn wsX11_set wsX11_in := goodIn_r _ [6] (by decide +kernel) (by decide +kernel)
set_option maxRecDepth 20000 in
theorem gX11_set_X11_in : GoodIn wsX11_set (va_wsS RX11 59 yX11_in wsX11_in) := goodIn_app (goodIn_of _ (by decide +kernel)) ggX11_set_X11_in
set_option maxRecDepth 20000 in
theorem ggX11_standing_X11_lengthOf : GoodIn wsX11_standing wsX11_lengthOf := goodIn_r _ [5] (by decide +kernel) (by decide +kernel)
set_option maxRecDepth 20000 in
theorem gX11_standing_X11_lengthOf : GoodIn wsX11_standing (va_wsS RX11 78 yX11_lengthOf wsX11_lengthOf) := goodIn_app (goodIn_of _ (by decide +kernel)) ggX11_standing_X11_lengthOf
set_option maxRecDepth 20000 in
theorem ggX11_numberOf_X11_ones : GoodIn wsX11_numberOf wsX11_ones := goodIn_r _ [4] (by decide +kernel) (by decide +kernel)
set_option maxRecDepth 20000 in
theorem gX11_numberOf_X11_ones : GoodIn wsX11_numberOf (va_wsS RX11 81 yX11_ones wsX11_ones) := goodIn_app (goodIn_of _ (by decide +kernel)) ggX11_numberOf_X11_ones
set_option maxRecDepth 20000 in
theorem ggX11_numberOf_X11_standing : GoodIn wsX11_numberOf wsX11_standing := goodIn_r _ [8, 9, 10, 11, 3, 12, 13, 14, 15, 16, 17, 18, 19, 20, 21, 22, 23, 24, 25, 26, 27, 28, 29, 30, 31, 32, 33, 34, 35, 36] (by decide +kernel) (by decide +kernel)
set_option maxRecDepth 20000 in
theorem gX11_numberOf_X11_standing : GoodIn wsX11_numberOf (wsV RX11 84 RX11 yX11_standing wsX11_standing) := goodIn_app (goodIn_of _ (by decide +kernel)) ggX11_numberOf_X11_standing
set_option maxRecDepth 20000 in
theorem ggX11_showsNow_X11_isWhole : GoodIn wsX11_showsNow wsX11_isWhole := goodIn_r _ [6, 1, 7, 27, 28, 29, 30, 31, 32, 33, 34, 35, 36, 37, 38, 39, 40, 41, 42, 43, 44, 45, 46, 47, 48, 49, 50] (by decide +kernel) (by decide +kernel)
set_option maxRecDepth 20000 in
theorem gX11_showsNow_X11_isWhole : GoodIn wsX11_showsNow (wsV RX11 87 RX11 yX11_isWhole wsX11_isWhole) := goodIn_app (goodIn_of _ (by decide +kernel)) ggX11_showsNow_X11_isWhole
set_option maxRecDepth 20000 in
theorem ggX11_showsNow_X11_bitsOf : GoodIn wsX11_showsNow wsX11_bitsOf := goodIn_r _ [11, 1, 7, 27, 28, 29, 30, 31, 32, 33, 34, 35, 36, 37, 38, 39, 40, 41, 42, 43, 44, 45, 46, 47, 48, 49, 50] (by decide +kernel) (by decide +kernel)
set_option maxRecDepth 20000 in
theorem gX11_showsNow_X11_bitsOf : GoodIn wsX11_showsNow (wsV RX11 90 RX11 yX11_bitsOf wsX11_bitsOf) := goodIn_app (goodIn_of _ (by decide +kernel)) ggX11_showsNow_X11_bitsOf
set_option maxRecDepth 20000 in
theorem ggX11_showsNow_X11_numberOf : GoodIn wsX11_showsNow wsX11_numberOf := goodIn_r _ [15, 16, 17, 5, 18, 19, 20, 21, 22, 23, 24, 25, 26, 27, 28, 29, 30, 31, 32, 33, 34, 35, 36, 37, 38, 39, 40, 41, 42, 43, 44, 45, 46, 47, 48, 49, 50] (by decide +kernel) (by decide +kernel)
set_option maxRecDepth 20000 in
theorem gX11_showsNow_X11_numberOf : GoodIn wsX11_showsNow (wsV RX11 93 RX11 yX11_numberOf wsX11_numberOf) := goodIn_app (goodIn_of _ (by decide +kernel)) ggX11_showsNow_X11_numberOf
set_option maxRecDepth 20000 in
theorem ggX11_shows_X11_isRow : GoodIn wsX11_shows wsX11_isRow := goodIn_r _ [4, 5, 6, 3, 7] (by decide +kernel) (by decide +kernel)
set_option maxRecDepth 20000 in
theorem gX11_shows_X11_isRow : GoodIn wsX11_shows (va_wsS RX11 63 yX11_isRow wsX11_isRow) := goodIn_app (goodIn_of _ (by decide +kernel)) ggX11_shows_X11_isRow
set_option maxRecDepth 20000 in
theorem ggX11_shows_X11_in : GoodIn wsX11_shows wsX11_in := goodIn_r _ [7] (by decide +kernel) (by decide +kernel)
set_option maxRecDepth 20000 in
theorem gX11_shows_X11_in : GoodIn wsX11_shows (va_wsS RX11 59 yX11_in wsX11_in) := goodIn_app (goodIn_of _ (by decide +kernel)) ggX11_shows_X11_in
set_option maxRecDepth 20000 in
theorem ggX11_shows_X11_showsNow : GoodIn wsX11_shows wsX11_showsNow := goodIn_r _ [11, 12, 13, 14, 15, 3, 16, 17, 18, 19, 20, 21, 22, 23, 24, 25, 26, 27, 28, 29, 30, 31, 32, 33, 34, 35, 36, 37, 38, 39, 40, 41, 42, 43, 44, 45, 46, 47, 48, 49, 50, 51, 52, 53, 54, 55, 56, 57, 58, 59, 60] (by decide +kernel) (by decide +kernel)
set_option maxRecDepth 20000 in
theorem gX11_shows_X11_showsNow : GoodIn wsX11_shows (wsV RX11 97 RX11 yX11_showsNow wsX11_showsNow) := goodIn_app (goodIn_of _ (by decide +kernel)) ggX11_shows_X11_showsNow
set_option maxRecDepth 20000 in
theorem ggX11_type_X11_in : GoodIn wsX11_type wsX11_in := goodIn_r _ [7] (by decide +kernel) (by decide +kernel)
set_option maxRecDepth 20000 in
theorem gX11_type_X11_in : GoodIn wsX11_type (va_wsS RX11 59 yX11_in wsX11_in) := goodIn_app (goodIn_of _ (by decide +kernel)) ggX11_type_X11_in
set_option maxRecDepth 20000 in
theorem ggX11_test_X11_byteNow : GoodIn wsX11_test wsX11_byteNow := goodIn_r _ [12, 1, 13, 14, 21, 22, 23, 24, 25, 26, 27, 28, 29, 30, 31, 32, 33, 34, 35, 36, 37, 38, 39, 40, 41, 42, 43, 44] (by decide +kernel) (by decide +kernel)
set_option maxRecDepth 20000 in
theorem gX11_test_X11_byteNow : GoodIn wsX11_test (wsV RX11 110 RX11 yX11_byteNow wsX11_byteNow) := goodIn_app (goodIn_of _ (by decide +kernel)) ggX11_test_X11_byteNow
set_option maxRecDepth 20000 in
theorem ggX11_test_X11_numberBy : GoodIn wsX11_test wsX11_numberBy := goodIn_r _ [17] (by decide +kernel) (by decide +kernel)
set_option maxRecDepth 20000 in
theorem gX11_test_X11_numberBy : GoodIn wsX11_test (va_wsS RX11 114 yX11_numberBy wsX11_numberBy) := goodIn_app (goodIn_of _ (by decide +kernel)) ggX11_test_X11_numberBy
set_option maxRecDepth 20000 in
theorem ggX11_test_X11_in : GoodIn wsX11_test wsX11_in := goodIn_r _ [20] (by decide +kernel) (by decide +kernel)
set_option maxRecDepth 20000 in
theorem gX11_test_X11_in : GoodIn wsX11_test (va_wsS RX11 59 yX11_in wsX11_in) := goodIn_app (goodIn_of _ (by decide +kernel)) ggX11_test_X11_in
set_option maxRecDepth 20000 in
theorem ggX11_faultNow_X11_test : GoodIn wsX11_faultNow wsX11_test := goodIn_r _ [10, 3, 2, 11, 4, 12, 13, 14, 15, 16, 17, 9, 18, 5, 19, 20, 21, 22, 23, 24, 25, 26, 27, 28, 29, 30, 31, 32, 33, 34, 35, 36, 37, 38, 39, 40, 41, 42, 43, 44, 45, 46, 47, 48, 49] (by decide +kernel) (by decide +kernel)
set_option maxRecDepth 20000 in
theorem gX11_faultNow_X11_test : GoodIn wsX11_faultNow (wsV RX11 123 RX11 yX11_test wsX11_test) := goodIn_app (goodIn_of _ (by decide +kernel)) ggX11_faultNow_X11_test
set_option maxRecDepth 20000 in
theorem ggX11_faultNow_X11_byteNow : GoodIn wsX11_faultNow wsX11_byteNow := goodIn_r _ [18, 3, 5, 19, 26, 27, 28, 29, 30, 31, 32, 33, 34, 35, 36, 37, 38, 39, 40, 41, 42, 43, 44, 45, 46, 47, 48, 49] (by decide +kernel) (by decide +kernel)
set_option maxRecDepth 20000 in
theorem gX11_faultNow_X11_byteNow : GoodIn wsX11_faultNow (wsV RX11 110 RX11 yX11_byteNow wsX11_byteNow) := goodIn_app (goodIn_of _ (by decide +kernel)) ggX11_faultNow_X11_byteNow
set_option maxRecDepth 20000 in
theorem ggX11_fault_X11_faultNow : GoodIn wsX11_fault wsX11_faultNow := goodIn_r _ [5, 6, 7, 8, 9, 10, 11, 12, 13, 4, 14, 15, 16, 17, 18, 19, 20, 21, 22, 23, 24, 25, 26, 27, 28, 29, 30, 31, 32, 33, 34, 35, 36, 37, 38, 39, 40, 41, 42, 43, 44, 45, 46, 47, 48, 49, 50, 51, 52, 53] (by decide +kernel) (by decide +kernel)
set_option maxRecDepth 20000 in
theorem gX11_fault_X11_faultNow : GoodIn wsX11_fault (wsV RX11 127 RX11 yX11_faultNow wsX11_faultNow) := goodIn_app (goodIn_of _ (by decide +kernel)) ggX11_fault_X11_faultNow
set_option maxRecDepth 20000 in
theorem ggX11_does_X11_numberOf : GoodIn wsX11_does wsX11_numberOf := goodIn_r _ [10, 11, 12, 9, 13, 14, 15, 16, 17, 18, 19, 20, 21, 22, 23, 24, 25, 26, 27, 28, 29, 30, 31, 32, 33, 34, 35, 36, 37, 38, 39, 40, 41, 42, 43, 44, 45] (by decide +kernel) (by decide +kernel)
set_option maxRecDepth 20000 in
theorem gX11_does_X11_numberOf : GoodIn wsX11_does (wsV RX11 93 RX11 yX11_numberOf wsX11_numberOf) := goodIn_app (goodIn_of _ (by decide +kernel)) ggX11_does_X11_numberOf
set_option maxRecDepth 20000 in
theorem ggX11_holds_X11_isRow : GoodIn wsX11_holds wsX11_isRow := goodIn_r _ [5, 6, 7, 4, 8] (by decide +kernel) (by decide +kernel)
set_option maxRecDepth 20000 in
theorem gX11_holds_X11_isRow : GoodIn wsX11_holds (va_wsS RX11 63 yX11_isRow wsX11_isRow) := goodIn_app (goodIn_of _ (by decide +kernel)) ggX11_holds_X11_isRow
set_option maxRecDepth 20000 in
theorem ggX11_holds_X11_isWhole : GoodIn wsX11_holds wsX11_isWhole := goodIn_r _ [12, 1, 13, 62, 63, 64, 65, 66, 67, 68, 69, 70, 71, 72, 73, 74, 75, 76, 77, 78, 79, 80, 81, 82, 83, 84, 85] (by decide +kernel) (by decide +kernel)
set_option maxRecDepth 20000 in
theorem gX11_holds_X11_isWhole : GoodIn wsX11_holds (wsV RX11 87 RX11 yX11_isWhole wsX11_isWhole) := goodIn_app (goodIn_of _ (by decide +kernel)) ggX11_holds_X11_isWhole
set_option maxRecDepth 20000 in
theorem ggX11_holds_X11_faultNow : GoodIn wsX11_holds wsX11_faultNow := goodIn_r _ [17, 18, 19, 20, 21, 22, 23, 24, 25, 4, 26, 27, 28, 29, 30, 31, 32, 33, 34, 35, 36, 37, 38, 6, 7, 8, 62, 63, 64, 65, 66, 67, 68, 69, 70, 71, 72, 73, 74, 75, 76, 77, 78, 79, 80, 81, 82, 83, 84, 85] (by decide +kernel) (by decide +kernel)
set_option maxRecDepth 20000 in
theorem gX11_holds_X11_faultNow : GoodIn wsX11_holds (wsV RX11 127 RX11 yX11_faultNow wsX11_faultNow) := goodIn_app (goodIn_of _ (by decide +kernel)) ggX11_holds_X11_faultNow
set_option maxRecDepth 20000 in
theorem ggX11_holds_X11_bitsOf : GoodIn wsX11_holds wsX11_bitsOf := goodIn_r _ [42, 1, 13, 62, 63, 64, 65, 66, 67, 68, 69, 70, 71, 72, 73, 74, 75, 76, 77, 78, 79, 80, 81, 82, 83, 84, 85] (by decide +kernel) (by decide +kernel)
set_option maxRecDepth 20000 in
theorem gX11_holds_X11_bitsOf : GoodIn wsX11_holds (wsV RX11 90 RX11 yX11_bitsOf wsX11_bitsOf) := goodIn_app (goodIn_of _ (by decide +kernel)) ggX11_holds_X11_bitsOf
set_option maxRecDepth 20000 in
theorem ggX11_holds_X11_does : GoodIn wsX11_holds wsX11_does := goodIn_r _ [46, 21, 30, 27, 28, 29, 47, 48, 49, 4, 50, 51, 52, 53, 54, 55, 56, 57, 58, 59, 60, 61, 62, 63, 64, 65, 66, 67, 68, 69, 70, 71, 72, 73, 74, 75, 76, 77, 78, 79, 80, 81, 82, 83, 84, 85] (by decide +kernel) (by decide +kernel)
set_option maxRecDepth 20000 in
theorem gX11_holds_X11_does : GoodIn wsX11_holds (wsV RX11 130 RX11 yX11_does wsX11_does) := goodIn_app (goodIn_of _ (by decide +kernel)) ggX11_holds_X11_does
set_option maxRecDepth 20000 in
theorem ggX11_shownNow_X11_faultNow : GoodIn wsX11_shownNow wsX11_faultNow := goodIn_r _ [5, 6, 7, 8, 9, 10, 11, 12, 13, 4, 14, 15, 16, 17, 18, 19, 20, 21, 22, 23, 24, 25, 26, 27, 28, 29, 49, 50, 51, 52, 53, 54, 55, 56, 57, 58, 59, 60, 61, 62, 63, 64, 65, 66, 67, 68, 69, 70, 71, 72] (by decide +kernel) (by decide +kernel)
set_option maxRecDepth 20000 in
theorem gX11_shownNow_X11_faultNow : GoodIn wsX11_shownNow (wsV RX11 127 RX11 yX11_faultNow wsX11_faultNow) := goodIn_app (goodIn_of _ (by decide +kernel)) ggX11_shownNow_X11_faultNow
set_option maxRecDepth 20000 in
theorem ggX11_shownNow_X11_ones : GoodIn wsX11_shownNow wsX11_ones := goodIn_r _ [32] (by decide +kernel) (by decide +kernel)
set_option maxRecDepth 20000 in
theorem gX11_shownNow_X11_ones : GoodIn wsX11_shownNow (va_wsS RX11 81 yX11_ones wsX11_ones) := goodIn_app (goodIn_of _ (by decide +kernel)) ggX11_shownNow_X11_ones
set_option maxRecDepth 20000 in
theorem ggX11_shownNow_X11_does : GoodIn wsX11_shownNow wsX11_does := goodIn_r _ [36, 9, 18, 15, 16, 17, 37, 38, 39, 4, 40, 30, 31, 32, 41, 42, 43, 44, 45, 46, 47, 48, 49, 50, 51, 52, 53, 54, 55, 56, 57, 58, 59, 60, 61, 62, 63, 64, 65, 66, 67, 68, 69, 70, 71, 72] (by decide +kernel) (by decide +kernel)
set_option maxRecDepth 20000 in
theorem gX11_shownNow_X11_does : GoodIn wsX11_shownNow (wsV RX11 130 RX11 yX11_does wsX11_does) := goodIn_app (goodIn_of _ (by decide +kernel)) ggX11_shownNow_X11_does
set_option maxRecDepth 20000 in
theorem ggX11_shown_X11_in : GoodIn wsX11_shown wsX11_in := goodIn_r _ [4] (by decide +kernel) (by decide +kernel)
set_option maxRecDepth 20000 in
theorem gX11_shown_X11_in : GoodIn wsX11_shown (va_wsS RX11 59 yX11_in wsX11_in) := goodIn_app (goodIn_of _ (by decide +kernel)) ggX11_shown_X11_in
set_option maxRecDepth 20000 in
theorem ggX11_shown_X11_shownNow : GoodIn wsX11_shown wsX11_shownNow := goodIn_r _ [8, 9, 10, 11, 3, 12, 13, 14, 15, 16, 17, 18, 19, 20, 21, 22, 23, 24, 25, 26, 27, 28, 29, 30, 31, 32, 33, 1, 2, 4, 34, 35, 36, 37, 38, 39, 40, 41, 42, 43, 44, 45, 46, 47, 48, 49, 50, 51, 52, 53, 54, 55, 56, 57, 58, 59, 60, 61, 62, 63, 64, 65, 66, 67, 68, 69, 70, 71, 72, 73, 74, 75, 76] (by decide +kernel) (by decide +kernel)
set_option maxRecDepth 20000 in
theorem gX11_shown_X11_shownNow : GoodIn wsX11_shown (wsV RX11 134 RX11 yX11_shownNow wsX11_shownNow) := goodIn_app (goodIn_of _ (by decide +kernel)) ggX11_shown_X11_shownNow
set_option maxRecDepth 20000 in
theorem ggX11_nth_X11_in : GoodIn wsX11_nth wsX11_in := goodIn_r _ [4] (by decide +kernel) (by decide +kernel)
set_option maxRecDepth 20000 in
theorem gX11_nth_X11_in : GoodIn wsX11_nth (va_wsS RX11 59 yX11_in wsX11_in) := goodIn_app (goodIn_of _ (by decide +kernel)) ggX11_nth_X11_in
set_option maxRecDepth 20000 in
theorem ggX11_nth_X11_faultNow : GoodIn wsX11_nth wsX11_faultNow := goodIn_r _ [8, 9, 10, 11, 12, 13, 14, 15, 16, 3, 17, 18, 19, 20, 21, 22, 23, 24, 25, 26, 27, 28, 29, 1, 2, 4, 49, 50, 51, 52, 53, 54, 55, 56, 57, 58, 59, 60, 61, 62, 63, 64, 65, 66, 67, 68, 69, 70, 71, 72] (by decide +kernel) (by decide +kernel)
set_option maxRecDepth 20000 in
theorem gX11_nth_X11_faultNow : GoodIn wsX11_nth (wsV RX11 127 RX11 yX11_faultNow wsX11_faultNow) := goodIn_app (goodIn_of _ (by decide +kernel)) ggX11_nth_X11_faultNow
set_option maxRecDepth 20000 in
theorem ggX11_nth_X11_does : GoodIn wsX11_nth wsX11_does := goodIn_r _ [33, 12, 21, 18, 19, 20, 34, 35, 36, 3, 37, 38, 39, 40, 41, 42, 43, 44, 45, 46, 47, 48, 49, 50, 51, 52, 53, 54, 55, 56, 57, 58, 59, 60, 61, 62, 63, 64, 65, 66, 67, 68, 69, 70, 71, 72] (by decide +kernel) (by decide +kernel)
set_option maxRecDepth 20000 in
theorem gX11_nth_X11_does : GoodIn wsX11_nth (wsV RX11 130 RX11 yX11_does wsX11_does) := goodIn_app (goodIn_of _ (by decide +kernel)) ggX11_nth_X11_does
set_option maxRecDepth 20000 in
theorem ggX11_share_X11_in : GoodIn wsX11_share wsX11_in := goodIn_r _ [6] (by decide +kernel) (by decide +kernel)
set_option maxRecDepth 20000 in
theorem gX11_share_X11_in : GoodIn wsX11_share (va_wsS RX11 59 yX11_in wsX11_in) := goodIn_app (goodIn_of _ (by decide +kernel)) ggX11_share_X11_in
set_option maxRecDepth 20000 in
theorem ggX11_share_X11_no : GoodIn wsX11_share wsX11_no := goodIn_r _ [9, 10] (by decide +kernel) (by decide +kernel)
set_option maxRecDepth 20000 in
theorem gX11_share_X11_no : GoodIn wsX11_share (va_wsS RX11 137 yX11_no wsX11_no) := goodIn_app (goodIn_of _ (by decide +kernel)) ggX11_share_X11_no
set_option maxRecDepth 20000 in
theorem ggX11_share_X11_faultNow : GoodIn wsX11_share wsX11_faultNow := goodIn_r _ [14, 15, 16, 17, 18, 19, 20, 21, 22, 5, 23, 24, 25, 26, 27, 28, 29, 30, 31, 32, 33, 34, 35, 3, 4, 6, 61, 62, 63, 64, 65, 66, 67, 68, 69, 70, 71, 72, 73, 74, 75, 76, 77, 78, 79, 80, 81, 82, 83, 84] (by decide +kernel) (by decide +kernel)
set_option maxRecDepth 20000 in
theorem gX11_share_X11_faultNow : GoodIn wsX11_share (wsV RX11 127 RX11 yX11_faultNow wsX11_faultNow) := goodIn_app (goodIn_of _ (by decide +kernel)) ggX11_share_X11_faultNow
set_option maxRecDepth 20000 in
theorem ggX11_share_X11_does : GoodIn wsX11_share wsX11_does := goodIn_r _ [39, 18, 27, 24, 25, 26, 40, 41, 42, 5, 43, 44, 45, 46, 47, 48, 49, 50, 51, 52, 53, 54, 61, 62, 63, 64, 65, 66, 67, 68, 69, 70, 71, 72, 73, 74, 75, 76, 77, 78, 79, 80, 81, 82, 83, 84] (by decide +kernel) (by decide +kernel)
set_option maxRecDepth 20000 in
theorem gX11_share_X11_does : GoodIn wsX11_share (wsV RX11 130 RX11 yX11_does wsX11_does) := goodIn_app (goodIn_of _ (by decide +kernel)) ggX11_share_X11_does
set_option maxRecDepth 20000 in
theorem ggX11_share_X11_ones : GoodIn wsX11_share wsX11_ones := goodIn_r _ [46] (by decide +kernel) (by decide +kernel)
set_option maxRecDepth 20000 in
theorem gX11_share_X11_ones : GoodIn wsX11_share (va_wsS RX11 81 yX11_ones wsX11_ones) := goodIn_app (goodIn_of _ (by decide +kernel)) ggX11_share_X11_ones
set_option maxRecDepth 20000 in
theorem ggX11_share_X11_power : GoodIn wsX11_share wsX11_power := goodIn_r _ [57] (by decide +kernel) (by decide +kernel)
set_option maxRecDepth 20000 in
theorem gX11_share_X11_power : GoodIn wsX11_share (va_wsS RX11 141 yX11_power wsX11_power) := goodIn_app (goodIn_of _ (by decide +kernel)) ggX11_share_X11_power
set_option maxRecDepth 20000 in
theorem ggX11_share_X11_lowest : GoodIn wsX11_share wsX11_lowest := goodIn_r _ [60] (by decide +kernel) (by decide +kernel)
set_option maxRecDepth 20000 in
theorem gX11_share_X11_lowest : GoodIn wsX11_share (va_wsS RX11 147 yX11_lowest wsX11_lowest) := goodIn_app (goodIn_of _ (by decide +kernel)) ggX11_share_X11_lowest
set_option maxRecDepth 20000 in
theorem ggX11_fill_X11_bitsOf : GoodIn wsX11_fill wsX11_bitsOf := goodIn_r _ [7, 8, 9, 10, 11, 12, 13, 14, 15, 16, 17, 18, 19, 20, 21, 22, 23, 24, 25, 26, 27, 28, 29, 30, 31, 32, 33] (by decide +kernel) (by decide +kernel)
set_option maxRecDepth 20000 in
theorem gX11_fill_X11_bitsOf : GoodIn wsX11_fill (wsV RX11 90 RX11 yX11_bitsOf wsX11_bitsOf) := goodIn_app (goodIn_of _ (by decide +kernel)) ggX11_fill_X11_bitsOf
set_option maxRecDepth 20000 in
theorem ggX11_fills_X11_isRow : GoodIn wsX11_fills wsX11_isRow := goodIn_r _ [6, 7, 8, 5, 9] (by decide +kernel) (by decide +kernel)
set_option maxRecDepth 20000 in
theorem gX11_fills_X11_isRow : GoodIn wsX11_fills (va_wsS RX11 63 yX11_isRow wsX11_isRow) := goodIn_app (goodIn_of _ (by decide +kernel)) ggX11_fills_X11_isRow
set_option maxRecDepth 20000 in
theorem ggX11_fills_X11_in : GoodIn wsX11_fills wsX11_in := goodIn_r _ [9] (by decide +kernel) (by decide +kernel)
set_option maxRecDepth 20000 in
theorem gX11_fills_X11_in : GoodIn wsX11_fills (va_wsS RX11 59 yX11_in wsX11_in) := goodIn_app (goodIn_of _ (by decide +kernel)) ggX11_fills_X11_in
set_option maxRecDepth 20000 in
theorem ggX11_fills_X11_gathers : GoodIn wsX11_fills wsX11_gathers := goodIn_r _ [13, 1, 2, 14, 15, 68, 69, 70, 71, 72, 73, 74, 75, 76, 77, 78, 79, 80, 81, 82, 83, 84, 85, 86, 87, 88, 89, 90, 91] (by decide +kernel) (by decide +kernel)
set_option maxRecDepth 20000 in
theorem gX11_fills_X11_gathers : GoodIn wsX11_fills (wsV RX11 154 RX11 yX11_gathers wsX11_gathers) := goodIn_app (goodIn_of _ (by decide +kernel)) ggX11_fills_X11_gathers
set_option maxRecDepth 20000 in
theorem ggX11_fills_X11_faultNow : GoodIn wsX11_fills wsX11_faultNow := goodIn_r _ [19, 20, 21, 22, 23, 24, 25, 26, 27, 5, 28, 29, 30, 31, 32, 33, 34, 35, 36, 37, 38, 39, 40, 7, 8, 9, 68, 69, 70, 71, 72, 73, 74, 75, 76, 77, 78, 79, 80, 81, 82, 83, 84, 85, 86, 87, 88, 89, 90, 91] (by decide +kernel) (by decide +kernel)
set_option maxRecDepth 20000 in
theorem gX11_fills_X11_faultNow : GoodIn wsX11_fills (wsV RX11 127 RX11 yX11_faultNow wsX11_faultNow) := goodIn_app (goodIn_of _ (by decide +kernel)) ggX11_fills_X11_faultNow
set_option maxRecDepth 20000 in
theorem ggX11_fills_X11_fill : GoodIn wsX11_fills wsX11_fill := goodIn_r _ [44, 1, 15, 45, 46, 47, 5, 48, 2, 14, 68, 69, 70, 71, 72, 73, 74, 75, 76, 77, 78, 79, 80, 81, 82, 83, 84, 85, 86, 87, 88, 89, 90, 91] (by decide +kernel) (by decide +kernel)
set_option maxRecDepth 20000 in
theorem gX11_fills_X11_fill : GoodIn wsX11_fills (wsV RX11 158 RX11 yX11_fill wsX11_fill) := goodIn_app (goodIn_of _ (by decide +kernel)) ggX11_fills_X11_fill
set_option maxRecDepth 20000 in
theorem ggX11_fills_X11_does : GoodIn wsX11_fills wsX11_does := goodIn_r _ [52, 23, 32, 29, 30, 31, 53, 54, 55, 5, 56, 57, 58, 59, 60, 61, 62, 63, 64, 65, 66, 67, 68, 69, 70, 71, 72, 73, 74, 75, 76, 77, 78, 79, 80, 81, 82, 83, 84, 85, 86, 87, 88, 89, 90, 91] (by decide +kernel) (by decide +kernel)
set_option maxRecDepth 20000 in
theorem gX11_fills_X11_does : GoodIn wsX11_fills (wsV RX11 130 RX11 yX11_does wsX11_does) := goodIn_app (goodIn_of _ (by decide +kernel)) ggX11_fills_X11_does
