set_option maxRecDepth 20000 in
theorem ggX0_pass_X3_tellsSource : GoodIn wsX0_pass wsX3_tellsSource := goodIn_r _ [9, 10, 15, 16, 17, 18, 19, 20] rfl (by decide +kernel)
set_option maxRecDepth 20000 in
theorem gX0_pass_X3_tellsSource_n28 : GoodIn wsX0_pass (wsX3_tellsSource) := ggX0_pass_X3_tellsSource
set_option maxRecDepth 20000 in
theorem ggX0_pass_X3_tellsName : GoodIn wsX0_pass wsX3_tellsName := goodIn_r _ [13, 14, 15, 16, 17, 18, 19, 20] rfl (by decide +kernel)
set_option maxRecDepth 20000 in
theorem gX0_pass_X3_tellsName_n35 : GoodIn wsX0_pass (wsX3_tellsName) := ggX0_pass_X3_tellsName
set_option maxRecDepth 20000 in
theorem ggX3_isInBounds_X8_isWithin : GoodIn wsX3_isInBounds wsX8_isWithin := goodIn_r _ [10] rfl (by decide +kernel)
set_option maxRecDepth 20000 in
theorem gX3_isInBounds_X8_isWithin_n30 : GoodIn wsX3_isInBounds (wsX8_isWithin) := ggX3_isInBounds_X8_isWithin
set_option maxRecDepth 20000 in
theorem ggX3_isInBounds_X3_tellsSource : GoodIn wsX3_isInBounds wsX3_tellsSource := goodIn_r _ [15, 4, 16, 17, 18, 19, 20, 21] rfl (by decide +kernel)
set_option maxRecDepth 20000 in
theorem gX3_isInBounds_X3_tellsSource : GoodIn wsX3_isInBounds (wsV RX3 35 RX3 yX3_tellsSource wsX3_tellsSource) := goodIn_app (goodIn_of _ (by decide +kernel)) ggX3_isInBounds_X3_tellsSource
set_option maxRecDepth 20000 in
theorem ggX4_insert_X4_isFull : GoodIn wsX4_insert wsX4_isFull := goodIn_r _ [12, 1, 25, 26, 27, 28, 29, 30, 31] rfl (by decide +kernel)
set_option maxRecDepth 20000 in
theorem gX4_insert_X4_isFull : GoodIn wsX4_insert (wsV RX4 34 RX4 yX4_isFull wsX4_isFull) := goodIn_app (goodIn_of _ (by decide +kernel)) ggX4_insert_X4_isFull
set_option maxRecDepth 20000 in
theorem ggX4_insert_X4_isBeyond : GoodIn wsX4_insert wsX4_isBeyond := goodIn_r _ [16, 2, 3, 25, 26, 27, 28, 29, 30, 31, 32, 33, 34, 35, 36, 37] rfl (by decide +kernel)
set_option maxRecDepth 20000 in
theorem gX4_insert_X4_isBeyond : GoodIn wsX4_insert (wsV RX4 38 RX4 yX4_isBeyond wsX4_isBeyond) := goodIn_app (goodIn_of _ (by decide +kernel)) ggX4_insert_X4_isBeyond
set_option maxRecDepth 20000 in
theorem ggX4_insert_X4_makeGap : GoodIn wsX4_insert wsX4_makeGap := goodIn_r _ [20, 1, 2, 21, 22, 23, 24, 3, 4, 5, 6, 7, 25, 26, 27, 28, 29, 30, 31] rfl (by decide +kernel)
set_option maxRecDepth 20000 in
theorem gX4_insert_X4_makeGap : GoodIn wsX4_insert (wsV RX4 42 RX4 yX4_makeGap wsX4_makeGap) := goodIn_app (goodIn_of _ (by decide +kernel)) ggX4_insert_X4_makeGap
set_option maxRecDepth 20000 in
theorem ggX4_copyTo_X3_standAt : GoodIn wsX4_copyTo wsX3_standAt := goodIn_r _ [10, 11, 12, 13, 14, 15, 16, 32, 33, 34, 35, 36, 37] rfl (by decide +kernel)
set_option maxRecDepth 20000 in
theorem gX4_copyTo_X3_standAt_n72 : GoodIn wsX4_copyTo (wsX3_standAt) := ggX4_copyTo_X3_standAt
set_option maxRecDepth 20000 in
theorem ggX4_copyTo_X4_tells : GoodIn wsX4_copyTo wsX4_tells := goodIn_r _ [21, 3, 25, 26, 27, 28, 29, 30, 31] rfl (by decide +kernel)
set_option maxRecDepth 20000 in
theorem gX4_copyTo_X4_tells : GoodIn wsX4_copyTo (wsV RX4 76 RX4 yX4_tells wsX4_tells) := goodIn_app (goodIn_of _ (by decide +kernel)) ggX4_copyTo_X4_tells
set_option maxRecDepth 20000 in
theorem ggX4_copyTo_X3_tell : GoodIn wsX4_copyTo wsX3_tell := goodIn_r _ [24, 13, 14, 15, 16, 32, 33, 34, 35, 36, 37] rfl (by decide +kernel)
set_option maxRecDepth 20000 in
theorem gX4_copyTo_X3_tell_n80 : GoodIn wsX4_copyTo (wsX3_tell) := ggX4_copyTo_X3_tell
set_option maxRecDepth 20000 in
theorem ggX4_findTelling_X4_tells : GoodIn wsX4_findTelling wsX4_tells := goodIn_r _ [8, 9, 10, 11, 12, 13, 14, 15, 16] rfl (by decide +kernel)
set_option maxRecDepth 20000 in
theorem gX4_findTelling_X4_tells : GoodIn wsX4_findTelling (wsV RX4 76 RX4 yX4_tells wsX4_tells) := goodIn_app (goodIn_of _ (by decide +kernel)) ggX4_findTelling_X4_tells
set_option maxRecDepth 20000 in
theorem ggX6_appendNumber_J0_charAt_5068e : GoodIn wsX6_appendNumber wsJ0_charAt_5068e := goodIn_r _ [5, 6, 7, 8, 9, 4, 10, 11, 12, 13, 14, 15, 16, 17, 18, 19, 20, 21, 22, 23, 24, 25, 26, 27, 28, 29, 30, 31, 32, 33, 34, 35, 36, 37, 38, 39, 40, 41] rfl (by decide +kernel)
set_option maxRecDepth 20000 in
theorem gX6_appendNumber_J0_charAt_5068e : GoodIn wsX6_appendNumber (wsV RX6 25 RJ0 yJ0_charAt_5068e wsJ0_charAt_5068e) := goodIn_app (goodIn_of _ (by decide +kernel)) ggX6_appendNumber_J0_charAt_5068e
set_option maxRecDepth 20000 in
theorem ggX6_appendNumber_X6_append : GoodIn wsX6_appendNumber wsX6_append := goodIn_r _ [46, 47, 48, 49, 50, 51, 52] rfl (by decide +kernel)
set_option maxRecDepth 20000 in
theorem gX6_appendNumber_X6_append : GoodIn wsX6_appendNumber (wsV RX6 31 RX6 yX6_append wsX6_append) := goodIn_app (goodIn_of _ (by decide +kernel)) ggX6_appendNumber_X6_append
