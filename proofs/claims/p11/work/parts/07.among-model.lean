set_option maxRecDepth 20000 in
theorem ggX9_number_X9_fails : GoodIn wsX9_number wsX9_fails := goodIn_r _ [9, 10, 11, 15, 16, 17, 18, 19, 20, 21, 22, 23, 24, 25, 26, 27, 28, 29, 30, 31] rfl (by decide +kernel)
set_option maxRecDepth 20000 in
theorem gX9_number_X9_fails : GoodIn wsX9_number (wsV RX9 65 RX9 yX9_fails wsX9_fails) := goodIn_app (goodIn_of _ (by decide +kernel)) ggX9_number_X9_fails
set_option maxRecDepth 20000 in
theorem ggX9_number_X9_worth : GoodIn wsX9_number wsX9_worth := goodIn_r _ [14] rfl (by decide +kernel)
set_option maxRecDepth 20000 in
theorem gX9_number_X9_worth : GoodIn wsX9_number (va_wsS RX9 69 yX9_worth wsX9_worth) := goodIn_app (goodIn_of _ (by decide +kernel)) ggX9_number_X9_worth
set_option maxRecDepth 20000 in
theorem ggX9_segment_X9_fails : GoodIn wsX9_segment wsX9_fails := goodIn_r _ [12, 13, 14, 18, 19, 20, 21, 22, 23, 24, 25, 26, 27, 28, 29, 30, 31, 32, 33, 34] rfl (by decide +kernel)
set_option maxRecDepth 20000 in
theorem gX9_segment_X9_fails : GoodIn wsX9_segment (wsV RX9 65 RX9 yX9_fails wsX9_fails) := goodIn_app (goodIn_of _ (by decide +kernel)) ggX9_segment_X9_fails
set_option maxRecDepth 20000 in
theorem ggX9_segment_X9_within : GoodIn wsX9_segment wsX9_within := goodIn_r _ [17] rfl (by decide +kernel)
set_option maxRecDepth 20000 in
theorem gX9_segment_X9_within : GoodIn wsX9_segment (va_wsS RX9 77 yX9_within wsX9_within) := goodIn_app (goodIn_of _ (by decide +kernel)) ggX9_segment_X9_within
set_option maxRecDepth 20000 in
theorem ggX9_readAll_X9_fails : GoodIn wsX9_readAll wsX9_fails := goodIn_r _ [10, 11, 12, 32, 33, 34, 35, 36, 37, 38, 39, 40, 41, 42, 43, 44, 45, 46, 47, 48] rfl (by decide +kernel)
set_option maxRecDepth 20000 in
theorem gX9_readAll_X9_fails : GoodIn wsX9_readAll (wsV RX9 65 RX9 yX9_fails wsX9_fails) := goodIn_app (goodIn_of _ (by decide +kernel)) ggX9_readAll_X9_fails
set_option maxRecDepth 20000 in
theorem ggX9_readAll_X9_number : GoodIn wsX9_readAll wsX9_number := goodIn_r _ [16, 3, 17, 5, 18, 6, 7, 8, 9, 10, 11, 12, 19, 20, 21, 32, 33, 34, 35, 36, 37, 38, 39, 40, 41, 42, 43, 44, 45, 46, 47, 48] rfl (by decide +kernel)
set_option maxRecDepth 20000 in
theorem gX9_readAll_X9_number : GoodIn wsX9_readAll (wsV RX9 85 RX9 yX9_number wsX9_number) := goodIn_app (goodIn_of _ (by decide +kernel)) ggX9_readAll_X9_number
set_option maxRecDepth 20000 in
theorem ggX9_readAll_X9_segment : GoodIn wsX9_readAll wsX9_segment := goodIn_r _ [25, 5, 18, 2, 26, 27, 1, 28, 6, 7, 8, 9, 10, 11, 12, 29, 30, 31, 32, 33, 34, 35, 36, 37, 38, 39, 40, 41, 42, 43, 44, 45, 46, 47, 48] rfl (by decide +kernel)
set_option maxRecDepth 20000 in
theorem gX9_readAll_X9_segment : GoodIn wsX9_readAll (wsV RX9 89 RX9 yX9_segment wsX9_segment) := goodIn_app (goodIn_of _ (by decide +kernel)) ggX9_readAll_X9_segment
set_option maxRecDepth 20000 in
theorem ggX9_read_X9_readAll : GoodIn wsX9_read wsX9_readAll := goodIn_r _ [13, 5, 14, 15, 16, 17, 18, 19, 20, 12, 21, 3, 4, 22, 23, 24, 25, 26, 27, 28, 29, 30, 31, 32, 33, 34, 35, 36, 7, 37, 38, 39, 40, 41, 42, 43, 44, 45, 46, 47, 48, 49, 50, 51, 52, 53, 54, 55, 56] rfl (by decide +kernel)
set_option maxRecDepth 20000 in
theorem gX9_read_X9_readAll : GoodIn wsX9_read (wsV RX9 93 RX9 yX9_readAll wsX9_readAll) := goodIn_app (goodIn_of _ (by decide +kernel)) ggX9_read_X9_readAll
set_option maxRecDepth 20000 in
theorem ggX9_put_X9_within : GoodIn wsX9_put wsX9_within := goodIn_r _ [9] rfl (by decide +kernel)
set_option maxRecDepth 20000 in
theorem gX9_put_X9_within : GoodIn wsX9_put (va_wsS RX9 77 yX9_within wsX9_within) := goodIn_app (goodIn_of _ (by decide +kernel)) ggX9_put_X9_within
set_option maxRecDepth 20000 in
theorem ggX9_put_X9_isBefore : GoodIn wsX9_put wsX9_isBefore := goodIn_r _ [13, 5, 14, 15, 16, 17, 18, 19, 20, 21, 22, 23, 24, 25, 26, 27, 28, 29, 30] rfl (by decide +kernel)
set_option maxRecDepth 20000 in
theorem gX9_put_X9_isBefore : GoodIn wsX9_put (wsV RX9 96 RX9 yX9_isBefore wsX9_isBefore) := goodIn_app (goodIn_of _ (by decide +kernel)) ggX9_put_X9_isBefore
set_option maxRecDepth 20000 in
theorem ggX9_addNumber_X9_letter : GoodIn wsX9_addNumber wsX9_letter := goodIn_r _ [6] rfl (by decide +kernel)
set_option maxRecDepth 20000 in
theorem gX9_addNumber_X9_letter : GoodIn wsX9_addNumber (va_wsS RX9 104 yX9_letter wsX9_letter) := goodIn_app (goodIn_of _ (by decide +kernel)) ggX9_addNumber_X9_letter
set_option maxRecDepth 20000 in
theorem ggX9_addNumber_X9_add : GoodIn wsX9_addNumber wsX9_add := goodIn_r _ [10, 11, 12, 13, 14, 15, 16, 17, 18, 19, 20, 21, 22, 23, 24, 25, 26, 27, 28, 29, 30] rfl (by decide +kernel)
set_option maxRecDepth 20000 in
theorem gX9_addNumber_X9_add : GoodIn wsX9_addNumber (wsV RX9 107 RX9 yX9_add wsX9_add) := goodIn_app (goodIn_of _ (by decide +kernel)) ggX9_addNumber_X9_add
set_option maxRecDepth 20000 in
theorem ggX9_write_X9_add : GoodIn wsX9_write wsX9_add := goodIn_r _ [13, 3, 2, 8, 23, 24, 25, 26, 27, 28, 29, 30, 31, 32, 33, 34, 35, 36, 37, 38, 39] rfl (by decide +kernel)
set_option maxRecDepth 20000 in
theorem gX9_write_X9_add : GoodIn wsX9_write (wsV RX9 107 RX9 yX9_add wsX9_add) := goodIn_app (goodIn_of _ (by decide +kernel)) ggX9_write_X9_add
set_option maxRecDepth 20000 in
theorem ggX9_write_X9_addNumber : GoodIn wsX9_write wsX9_addNumber := goodIn_r _ [17, 18, 19, 20, 21, 12, 22, 9, 10, 11, 13, 3, 2, 8, 23, 24, 25, 26, 27, 28, 29, 30, 31, 32, 33, 34, 35, 36, 37, 38, 39] rfl (by decide +kernel)
set_option maxRecDepth 20000 in
theorem gX9_write_X9_addNumber : GoodIn wsX9_write (wsV RX9 111 RX9 yX9_addNumber wsX9_addNumber) := goodIn_app (goodIn_of _ (by decide +kernel)) ggX9_write_X9_addNumber
set_option maxRecDepth 20000 in
theorem ggX9_ask_X9_segmentOf : GoodIn wsX9_ask wsX9_segmentOf := goodIn_r _ [7, 8, 2, 9, 10, 11, 12, 13, 14, 15, 16, 17, 18, 19, 20, 21, 22, 23, 24, 25] rfl (by decide +kernel)
set_option maxRecDepth 20000 in
theorem gX9_ask_X9_segmentOf : GoodIn wsX9_ask (wsV RX9 114 RX9 yX9_segmentOf wsX9_segmentOf) := goodIn_app (goodIn_of _ (by decide +kernel)) ggX9_ask_X9_segmentOf
set_option maxRecDepth 20000 in
theorem ggX9_compose_X9_segmentOf : GoodIn wsX9_compose wsX9_segmentOf := goodIn_r _ [8, 2, 3, 9, 10, 11, 12, 13, 14, 15, 16, 17, 18, 19, 20, 21, 22, 23, 24, 25] rfl (by decide +kernel)
set_option maxRecDepth 20000 in
theorem gX9_compose_X9_segmentOf : GoodIn wsX9_compose (wsV RX9 114 RX9 yX9_segmentOf wsX9_segmentOf) := goodIn_app (goodIn_of _ (by decide +kernel)) ggX9_compose_X9_segmentOf
