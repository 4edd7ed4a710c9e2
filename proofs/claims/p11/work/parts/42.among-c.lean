set_option maxRecDepth 20000 in
theorem ggX7_init_X0_init : GoodIn wsX7_init wsX0_init := goodIn_r _ [17, 18, 2, 3] rfl (by decide +kernel)
set_option maxRecDepth 20000 in
theorem gX7_init_X0_init_n9 : GoodIn wsX7_init (wsX0_init) := ggX7_init_X0_init
set_option maxRecDepth 20000 in
theorem ggX7_init_X3_init : GoodIn wsX7_init wsX3_init := goodIn_r _ [20, 21, 2, 3] rfl (by decide +kernel)
set_option maxRecDepth 20000 in
theorem gX7_init_X3_init_n18 : GoodIn wsX7_init (wsX3_init) := ggX7_init_X3_init
set_option maxRecDepth 20000 in
theorem ggX7_init_X6_init : GoodIn wsX7_init wsX6_init := goodIn_r _ [23, 24, 2, 3, 25, 26, 42, 43, 44] rfl (by decide +kernel)
set_option maxRecDepth 20000 in
theorem gX7_init_X6_init_n25 : GoodIn wsX7_init (wsX6_init) := ggX7_init_X6_init
set_option maxRecDepth 20000 in
theorem ggX7_writeTable_X6_makeEmpty : GoodIn wsX7_writeTable wsX6_makeEmpty := goodIn_r _ [8, 9, 10, 134, 135, 136] rfl (by decide +kernel)
set_option maxRecDepth 20000 in
theorem gX7_writeTable_X6_makeEmpty_n30 : GoodIn wsX7_writeTable (wsX6_makeEmpty) := ggX7_writeTable_X6_makeEmpty
set_option maxRecDepth 20000 in
theorem ggX7_writeTable_X0_startText : GoodIn wsX7_writeTable wsX0_startText := goodIn_r _ [14, 15, 16, 17, 18, 19, 137, 138, 139, 140, 141] rfl (by decide +kernel)
set_option maxRecDepth 20000 in
theorem gX7_writeTable_X0_startText_n33 : GoodIn wsX7_writeTable (wsX0_startText) := ggX7_writeTable_X0_startText
set_option maxRecDepth 20000 in
theorem ggX7_writeTable_X4_copyTo : GoodIn wsX7_writeTable wsX4_copyTo := goodIn_r _ [23, 24, 25, 26, 27, 28, 29, 30, 31, 32, 33, 34, 35, 36, 37, 38, 39, 40, 41, 42, 21, 43, 44, 45, 46, 121, 122, 123, 124, 125, 126, 127, 128, 129, 130, 131, 132, 133] rfl (by decide +kernel)
set_option maxRecDepth 20000 in
theorem gX7_writeTable_X4_copyTo_n45 : GoodIn wsX7_writeTable (wsX4_copyTo) := ggX7_writeTable_X4_copyTo
set_option maxRecDepth 20000 in
theorem ggX7_writeTable_X6_append : GoodIn wsX7_writeTable wsX6_append := goodIn_r _ [49, 9, 10, 50, 134, 135, 136] rfl (by decide +kernel)
set_option maxRecDepth 20000 in
theorem gX7_writeTable_X6_append_n50 : GoodIn wsX7_writeTable (wsX6_append) := ggX7_writeTable_X6_append
set_option maxRecDepth 20000 in
theorem ggX7_writeTable_X7_goToLine : GoodIn wsX7_writeTable wsX7_goToLine := goodIn_r _ [55, 3, 1, 2, 47, 6, 48, 49, 9, 10, 50, 56, 12, 57, 58, 15, 117, 118, 119, 120, 134, 135, 136, 137, 138, 139, 140, 141] rfl (by decide +kernel)
set_option maxRecDepth 20000 in
theorem gX7_writeTable_X7_goToLine : GoodIn wsX7_writeTable (wsV RX7 54 RX7 yX7_goToLine wsX7_goToLine) := goodIn_app (goodIn_of _ (by decide +kernel)) ggX7_writeTable_X7_goToLine
set_option maxRecDepth 20000 in
theorem ggX7_writeTable_X7_writeSegment : GoodIn wsX7_writeTable wsX7_writeSegment := goodIn_r _ [62, 1, 4, 2, 63, 6, 64, 65, 66, 67, 68, 69, 70, 71, 72, 73, 74, 75, 76, 77, 78, 79, 80, 81, 82, 83, 84, 85, 86, 87, 88, 89, 90, 91, 92, 93, 94, 95, 96, 97, 98, 99, 100, 101, 102, 103, 104, 105, 106, 107, 47, 48, 49, 9, 10, 50, 108, 31, 109, 110, 36, 111, 112, 113, 39, 117, 118, 119, 120, 128, 129, 130, 131, 132, 133, 137, 138, 139, 140, 141, 134, 135, 136] rfl (by decide +kernel)
set_option maxRecDepth 20000 in
theorem gX7_writeTable_X7_writeSegment : GoodIn wsX7_writeTable (wsV RX7 58 RX7 yX7_writeSegment wsX7_writeSegment) := goodIn_app (goodIn_of _ (by decide +kernel)) ggX7_writeTable_X7_writeSegment
set_option maxRecDepth 20000 in
theorem ggX7_writeTable_X0_pass : GoodIn wsX7_writeTable wsX0_pass := goodIn_r _ [116, 15, 16, 17, 18, 19, 108, 31, 109, 110, 36, 111, 112, 113, 39, 128, 129, 130, 131, 132, 133, 137, 138, 139, 140, 141] rfl (by decide +kernel)
set_option maxRecDepth 20000 in
theorem gX7_writeTable_X0_pass_n61 : GoodIn wsX7_writeTable (wsX0_pass) := ggX7_writeTable_X0_pass
set_option maxRecDepth 20000 in
theorem ggX7_goToLine_X6_append : GoodIn wsX7_goToLine wsX6_append := goodIn_r _ [7, 8, 9, 10, 20, 21, 22] rfl (by decide +kernel)
set_option maxRecDepth 20000 in
theorem gX7_goToLine_X6_append_n50 : GoodIn wsX7_goToLine (wsX6_append) := ggX7_goToLine_X6_append
set_option maxRecDepth 20000 in
theorem ggX7_goToLine_X0_startLine : GoodIn wsX7_goToLine wsX0_startLine := goodIn_r _ [14, 15, 23, 24, 25, 26, 27] rfl (by decide +kernel)
set_option maxRecDepth 20000 in
theorem gX7_goToLine_X0_startLine_n69 : GoodIn wsX7_goToLine (wsX0_startLine) := ggX7_goToLine_X0_startLine
set_option maxRecDepth 20000 in
theorem ggX7_writeSegment_X6_appendNumber : GoodIn wsX7_writeSegment wsX6_appendNumber := goodIn_r _ [7, 8, 9, 10, 11, 12, 13, 14, 15, 16, 17, 18, 19, 20, 21, 22, 23, 24, 25, 26, 27, 28, 29, 30, 31, 32, 33, 34, 35, 36, 37, 38, 39, 40, 41, 42, 43, 44, 45, 46, 47, 48, 49, 50, 51, 5, 52, 53, 54, 55, 80, 81, 82] rfl (by decide +kernel)
set_option maxRecDepth 20000 in
theorem gX7_writeSegment_X6_appendNumber_n76 : GoodIn wsX7_writeSegment (wsX6_appendNumber) := ggX7_writeSegment_X6_appendNumber
set_option maxRecDepth 20000 in
theorem ggX7_writeSegment_X3_tellsSource : GoodIn wsX7_writeSegment wsX3_tellsSource := goodIn_r _ [59, 60, 69, 70, 71, 72, 73, 74] rfl (by decide +kernel)
set_option maxRecDepth 20000 in
theorem gX7_writeSegment_X3_tellsSource_n79 : GoodIn wsX7_writeSegment (wsX3_tellsSource) := ggX7_writeSegment_X3_tellsSource
set_option maxRecDepth 20000 in
theorem ggX7_writeSegment_X3_tellsName : GoodIn wsX7_writeSegment wsX3_tellsName := goodIn_r _ [63, 64, 69, 70, 71, 72, 73, 74] rfl (by decide +kernel)
set_option maxRecDepth 20000 in
theorem gX7_writeSegment_X3_tellsName_n95 : GoodIn wsX7_writeSegment (wsX3_tellsName) := ggX7_writeSegment_X3_tellsName
