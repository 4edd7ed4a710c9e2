set_option maxRecDepth 20000 in
theorem ggX2_init_X1_init : GoodIn wsX2_init wsX1_init := goodIn_r _ [23, 24, 2, 3] rfl (by decide +kernel)
set_option maxRecDepth 20000 in
theorem gX2_init_X1_init_n11 : GoodIn wsX2_init (wsX1_init) := ggX2_init_X1_init
set_option maxRecDepth 20000 in
theorem ggX2_init_X0_init : GoodIn wsX2_init wsX0_init := goodIn_r _ [26, 27, 2, 3] rfl (by decide +kernel)
set_option maxRecDepth 20000 in
theorem gX2_init_X0_init_n24 : GoodIn wsX2_init (wsX0_init) := ggX2_init_X0_init
set_option maxRecDepth 20000 in
theorem ggX2_init_X3_init : GoodIn wsX2_init wsX3_init := goodIn_r _ [29, 30, 2, 3] rfl (by decide +kernel)
set_option maxRecDepth 20000 in
theorem gX2_init_X3_init_n31 : GoodIn wsX2_init (wsX3_init) := ggX2_init_X3_init
set_option maxRecDepth 20000 in
theorem ggX2_init_X4_init : GoodIn wsX2_init wsX4_init := goodIn_r _ [32, 33, 2, 3, 34, 35, 36, 37, 38, 39, 40, 68, 69, 70, 71, 72, 73, 74] rfl (by decide +kernel)
set_option maxRecDepth 20000 in
theorem gX2_init_X4_init_n38 : GoodIn wsX2_init (wsX4_init) := ggX2_init_X4_init
set_option maxRecDepth 20000 in
theorem ggX2_readTape_X2_start : GoodIn wsX2_readTape wsX2_start := goodIn_r _ [6, 7, 8, 9, 10, 11, 12, 13, 1, 14, 15, 16, 17, 18, 19, 20, 21, 22, 23, 24, 25, 26, 27, 28, 226, 227, 228, 229, 230, 231, 232, 233, 234, 235, 236, 237, 238, 239, 240, 241, 242, 243, 244, 245, 246, 247, 248, 249, 250, 251, 252, 253] rfl (by decide +kernel)
set_option maxRecDepth 20000 in
theorem gX2_readTape_X2_start : GoodIn wsX2_readTape (wsV RX2 43 RX2 yX2_start wsX2_start) := goodIn_app (goodIn_of _ (by decide +kernel)) ggX2_readTape_X2_start
set_option maxRecDepth 20000 in
theorem ggX2_readTape_X5_characterAt : GoodIn wsX2_readTape wsX5_characterAt := goodIn_r _ [32, 33, 224, 225] rfl (by decide +kernel)
set_option maxRecDepth 20000 in
theorem gX2_readTape_X5_characterAt_n55 : GoodIn wsX2_readTape (wsX5_characterAt) := ggX2_readTape_X5_characterAt
set_option maxRecDepth 20000 in
theorem ggX2_readTape_X2_takeCharacter : GoodIn wsX2_readTape wsX2_takeCharacter := goodIn_r _ [37, 12, 38, 39, 40, 41, 42, 43, 44, 45, 46, 47, 48, 49, 50, 51, 52, 53, 54, 55, 56, 57, 58, 59, 60, 61, 62, 63, 64, 65, 66, 67, 68, 69, 70, 71, 72, 73, 74, 75, 76, 77, 78, 79, 80, 81, 82, 83, 84, 85, 86, 87, 88, 89, 90, 91, 92, 93, 94, 95, 96, 97, 98, 99, 100, 101, 102, 103, 104, 105, 106, 107, 108, 109, 110, 111, 112, 113, 114, 115, 116, 117, 118, 119, 120, 121, 122, 123, 124, 125, 126, 127, 128, 129, 5, 130, 10, 8, 11, 131, 132, 16, 133, 134, 19, 135, 136, 137, 138, 139, 140, 141, 142, 143, 144, 145, 146, 1, 14, 147, 148, 149, 150, 151, 152, 153, 154, 155, 156, 157, 7, 158, 9, 159, 160, 161, 162, 163, 13, 164, 165, 166, 167, 168, 169, 170, 171, 172, 173, 174, 175, 176, 177, 178, 179, 180, 181, 182, 183, 184, 185, 186, 187, 188, 189, 190, 191, 192, 193, 194, 195, 196, 197, 198, 199, 200, 201, 202, 203, 204, 205, 206, 207, 208, 21, 209, 210, 24, 25, 26, 27, 28, 211, 212, 213, 214, 215, 216, 217, 218, 219, 220, 221, 222, 223, 226, 227, 228, 229, 230, 231, 232, 233, 234, 235, 236, 244, 245, 246, 247, 248, 249, 250, 251, 252, 253, 254, 255, 256, 257, 258, 259, 237, 238, 239, 240, 241, 242, 243] rfl (by decide +kernel)
set_option maxRecDepth 20000 in
theorem gX2_readTape_X2_takeCharacter : GoodIn wsX2_readTape (wsV RX2 59 RX2 yX2_takeCharacter wsX2_takeCharacter) := goodIn_app (goodIn_of _ (by decide +kernel)) ggX2_readTape_X2_takeCharacter
set_option maxRecDepth 20000 in
theorem ggX2_readTape_X2_endSegment : GoodIn wsX2_readTape wsX2_endSegment := goodIn_r _ [153, 8, 10, 12, 143, 144, 145, 5, 146, 1, 14, 154, 155, 156, 157, 11, 7, 158, 9, 159, 160, 161, 162, 131, 163, 13, 164, 165, 166, 167, 168, 169, 170, 171, 172, 173, 174, 175, 176, 177, 178, 179, 180, 181, 182, 183, 184, 185, 186, 187, 188, 189, 190, 191, 192, 193, 194, 195, 196, 197, 198, 199, 200, 201, 202, 203, 204, 205, 206, 207, 208, 21, 209, 210, 24, 25, 26, 27, 28, 211, 212, 213, 214, 215, 216, 226, 227, 228, 229, 230, 231, 232, 233, 234, 235, 236, 244, 245, 246, 247, 248, 249, 250, 251, 252, 253, 254, 255, 256, 257, 258, 259, 237, 238, 239, 240, 241, 242, 243] rfl (by decide +kernel)
set_option maxRecDepth 20000 in
theorem gX2_readTape_X2_endSegment : GoodIn wsX2_readTape (wsV RX2 63 RX2 yX2_endSegment wsX2_endSegment) := goodIn_app (goodIn_of _ (by decide +kernel)) ggX2_readTape_X2_endSegment
set_option maxRecDepth 20000 in
theorem ggX2_start_X1_forget : GoodIn wsX2_start wsX1_forget := goodIn_r _ [13, 14, 42, 43, 44, 45, 46] rfl (by decide +kernel)
set_option maxRecDepth 20000 in
theorem gX2_start_X1_forget_n70 : GoodIn wsX2_start (wsX1_forget) := ggX2_start_X1_forget
set_option maxRecDepth 20000 in
theorem ggX2_start_X0_startText : GoodIn wsX2_start wsX0_startText := goodIn_r _ [18, 19, 20, 21, 22, 23, 47, 48, 49, 50, 51] rfl (by decide +kernel)
set_option maxRecDepth 20000 in
theorem gX2_start_X0_startText_n73 : GoodIn wsX2_start (wsX0_startText) := ggX2_start_X0_startText
set_option maxRecDepth 20000 in
theorem ggX2_takeCharacter_J0_indexOf_0f7a4 : GoodIn wsX2_takeCharacter wsJ0_indexOf_0f7a4 := goodIn_r _ [6, 7, 8, 9, 5, 10, 11, 12, 13, 14, 15, 16, 17, 18, 19, 20, 21, 22, 23, 24, 25, 26, 27, 28, 29, 30, 31, 32, 33, 34, 35, 36, 37, 38, 39, 40, 41, 42, 43, 44, 45, 46, 47, 48, 49, 50, 51, 52, 53, 54, 55, 56, 57, 58, 59, 60, 61, 62, 63, 64, 65, 66, 67, 68, 69, 70, 71, 72, 73, 74, 75, 76, 77, 78, 79, 80, 81, 82, 83, 84, 85, 86, 87, 88, 89, 90] rfl (by decide +kernel)
set_option maxRecDepth 20000 in
theorem gX2_takeCharacter_J0_indexOf_0f7a4 : GoodIn wsX2_takeCharacter (wsV RX2 94 RJ0 yJ0_indexOf_0f7a4 wsJ0_indexOf_0f7a4) := goodIn_app (goodIn_of _ (by decide +kernel)) ggX2_takeCharacter_J0_indexOf_0f7a4
set_option maxRecDepth 20000 in
theorem ggX2_takeCharacter_X2_takeDigit : GoodIn wsX2_takeCharacter wsX2_takeDigit := goodIn_r _ [95, 96, 97, 98, 99, 100, 101, 102, 103, 104, 105, 106, 107, 108, 109, 110, 111, 112, 113, 114, 115, 94, 116, 117, 118, 119, 120, 121, 205, 206, 207, 208, 209, 210, 211, 212, 213, 214, 215, 216, 217, 218, 219, 220] rfl (by decide +kernel)
set_option maxRecDepth 20000 in
theorem gX2_takeCharacter_X2_takeDigit : GoodIn wsX2_takeCharacter (wsV RX2 100 RX2 yX2_takeDigit wsX2_takeDigit) := goodIn_app (goodIn_of _ (by decide +kernel)) ggX2_takeCharacter_X2_takeDigit
set_option maxRecDepth 20000 in
theorem ggX2_takeCharacter_X2_endSegment : GoodIn wsX2_takeCharacter wsX2_endSegment := goodIn_r _ [125, 97, 96, 1, 113, 114, 115, 94, 116, 117, 118, 126, 127, 128, 129, 98, 130, 131, 132, 133, 134, 135, 136, 99, 137, 138, 139, 140, 141, 142, 143, 144, 145, 146, 147, 148, 149, 150, 151, 152, 153, 154, 155, 156, 157, 158, 159, 160, 161, 162, 163, 164, 165, 166, 167, 168, 169, 170, 171, 172, 173, 174, 175, 176, 177, 178, 179, 180, 181, 182, 183, 184, 185, 186, 187, 188, 189, 190, 191, 192, 193, 194, 195, 196, 197, 205, 206, 207, 208, 209, 210, 211, 212, 213, 214, 215, 216, 217, 218, 219, 220, 221, 222, 223, 224, 225, 226, 227, 228, 229, 230, 231, 232, 233, 234, 235, 236, 237, 238] rfl (by decide +kernel)
set_option maxRecDepth 20000 in
theorem gX2_takeCharacter_X2_endSegment : GoodIn wsX2_takeCharacter (wsV RX2 63 RX2 yX2_endSegment wsX2_endSegment) := goodIn_app (goodIn_of _ (by decide +kernel)) ggX2_takeCharacter_X2_endSegment
set_option maxRecDepth 20000 in
theorem ggX2_takeCharacter_X2_startLine : GoodIn wsX2_takeCharacter wsX2_startLine := goodIn_r _ [201, 117, 138, 132, 113, 114, 115, 94, 116, 118, 202, 184, 203, 204, 187, 205, 206, 207, 208, 209, 210, 211, 212, 213, 214, 215, 221, 222, 223, 224, 225] rfl (by decide +kernel)
set_option maxRecDepth 20000 in
theorem gX2_takeCharacter_X2_startLine : GoodIn wsX2_takeCharacter (wsV RX2 104 RX2 yX2_startLine wsX2_startLine) := goodIn_app (goodIn_of _ (by decide +kernel)) ggX2_takeCharacter_X2_startLine
set_option maxRecDepth 20000 in
theorem ggX2_takeCharacter_X2_refuse : GoodIn wsX2_takeCharacter wsX2_refuse := goodIn_r _ [116, 117, 118, 205, 206, 207, 208, 209, 210, 211, 212, 213, 214, 215] rfl (by decide +kernel)
set_option maxRecDepth 20000 in
theorem gX2_takeCharacter_X2_refuse : GoodIn wsX2_takeCharacter (wsV RX2 108 RX2 yX2_refuse wsX2_refuse) := goodIn_app (goodIn_of _ (by decide +kernel)) ggX2_takeCharacter_X2_refuse
set_option maxRecDepth 20000 in
theorem ggX2_takeDigit_X1_take : GoodIn wsX2_takeDigit wsX1_take := goodIn_r _ [8, 9, 10, 11, 12, 13, 39, 40, 41, 42, 43] rfl (by decide +kernel)
set_option maxRecDepth 20000 in
theorem gX2_takeDigit_X1_take_n114 : GoodIn wsX2_takeDigit (wsX1_take) := ggX2_takeDigit_X1_take
set_option maxRecDepth 20000 in
theorem ggX2_takeDigit_X1_isTooLarge : GoodIn wsX2_takeDigit wsX1_isTooLarge := goodIn_r _ [16, 13, 11, 17, 39, 40, 41, 42, 43] rfl (by decide +kernel)
set_option maxRecDepth 20000 in
theorem gX2_takeDigit_X1_isTooLarge_n117 : GoodIn wsX2_takeDigit (wsX1_isTooLarge) := ggX2_takeDigit_X1_isTooLarge
set_option maxRecDepth 20000 in
theorem ggX2_takeDigit_X2_refuse : GoodIn wsX2_takeDigit wsX2_refuse := goodIn_r _ [22, 23, 24, 28, 29, 30, 31, 32, 33, 34, 35, 36, 37, 38] rfl (by decide +kernel)
set_option maxRecDepth 20000 in
theorem gX2_takeDigit_X2_refuse : GoodIn wsX2_takeDigit (wsV RX2 108 RX2 yX2_refuse wsX2_refuse) := goodIn_app (goodIn_of _ (by decide +kernel)) ggX2_takeDigit_X2_refuse
set_option maxRecDepth 20000 in
theorem ggX2_takeDigit_X1_value : GoodIn wsX2_takeDigit wsX1_value := goodIn_r _ [27, 11, 39, 40, 41, 42, 43] rfl (by decide +kernel)
set_option maxRecDepth 20000 in
theorem gX2_takeDigit_X1_value_n123 : GoodIn wsX2_takeDigit (wsX1_value) := ggX2_takeDigit_X1_value
set_option maxRecDepth 20000 in
theorem ggX2_startLine_X2_refuse : GoodIn wsX2_startLine wsX2_refuse := goodIn_r _ [8, 1, 9, 15, 16, 17, 18, 19, 20, 21, 22, 23, 24, 25] rfl (by decide +kernel)
set_option maxRecDepth 20000 in
theorem gX2_startLine_X2_refuse : GoodIn wsX2_startLine (wsV RX2 108 RX2 yX2_refuse wsX2_refuse) := goodIn_app (goodIn_of _ (by decide +kernel)) ggX2_startLine_X2_refuse
set_option maxRecDepth 20000 in
theorem ggX2_startLine_X0_startLine : GoodIn wsX2_startLine wsX0_startLine := goodIn_r _ [13, 14, 26, 27, 28, 29, 30] rfl (by decide +kernel)
set_option maxRecDepth 20000 in
theorem gX2_startLine_X0_startLine_n127 : GoodIn wsX2_startLine (wsX0_startLine) := ggX2_startLine_X0_startLine
set_option maxRecDepth 20000 in
theorem ggX2_endSegment_X2_refuse : GoodIn wsX2_endSegment wsX2_refuse := goodIn_r _ [8, 9, 10, 85, 86, 87, 88, 89, 90, 91, 92, 93, 94, 95] rfl (by decide +kernel)
set_option maxRecDepth 20000 in
theorem gX2_endSegment_X2_refuse : GoodIn wsX2_endSegment (wsV RX2 108 RX2 yX2_refuse wsX2_refuse) := goodIn_app (goodIn_of _ (by decide +kernel)) ggX2_endSegment_X2_refuse
set_option maxRecDepth 20000 in
theorem ggX2_endSegment_X2_addSegment : GoodIn wsX2_endSegment wsX2_addSegment := goodIn_r _ [14, 2, 15, 16, 17, 18, 4, 5, 6, 7, 8, 9, 10, 19, 20, 21, 22, 23, 24, 25, 26, 27, 28, 29, 30, 31, 32, 33, 34, 35, 36, 37, 38, 39, 40, 41, 42, 43, 44, 45, 46, 47, 48, 49, 50, 51, 52, 53, 54, 55, 56, 57, 58, 59, 60, 61, 62, 63, 64, 65, 66, 67, 68, 69, 70, 71, 72, 73, 74, 75, 76, 77, 78, 79, 80, 81, 82, 83, 84, 85, 86, 87, 88, 89, 90, 91, 92, 93, 94, 95, 101, 102, 103, 104, 105, 106, 107, 108, 109, 110, 111, 112, 113, 114, 115, 116, 117, 118] rfl (by decide +kernel)
set_option maxRecDepth 20000 in
theorem gX2_endSegment_X2_addSegment : GoodIn wsX2_endSegment (wsV RX2 129 RX2 yX2_addSegment wsX2_addSegment) := goodIn_app (goodIn_of _ (by decide +kernel)) ggX2_endSegment_X2_addSegment
set_option maxRecDepth 20000 in
theorem ggX2_addSegment_X2_refuse : GoodIn wsX2_addSegment wsX2_refuse := goodIn_r _ [10, 11, 12, 79, 80, 81, 82, 83, 84, 85, 86, 87, 88, 89] rfl (by decide +kernel)
set_option maxRecDepth 20000 in
theorem gX2_addSegment_X2_refuse : GoodIn wsX2_addSegment (wsV RX2 108 RX2 yX2_refuse wsX2_refuse) := goodIn_app (goodIn_of _ (by decide +kernel)) ggX2_addSegment_X2_refuse
set_option maxRecDepth 20000 in
theorem ggX2_addSegment_X2_addUp : GoodIn wsX2_addSegment wsX2_addUp := goodIn_r _ [16, 5, 17, 18, 4, 19, 1, 20, 21, 22, 23, 24, 25, 26, 27, 28, 29, 30, 31, 32, 33, 34, 35, 36, 79, 80, 81, 82, 83, 84, 85, 86, 87, 88, 89, 90, 91, 92, 93, 94, 95, 96, 97, 98, 99, 100] rfl (by decide +kernel)
set_option maxRecDepth 20000 in
theorem gX2_addSegment_X2_addUp : GoodIn wsX2_addSegment (wsV RX2 132 RX2 yX2_addUp wsX2_addUp) := goodIn_app (goodIn_of _ (by decide +kernel)) ggX2_addSegment_X2_addUp
set_option maxRecDepth 20000 in
theorem ggX2_addSegment_X4_isFull : GoodIn wsX2_addSegment wsX4_isFull := goodIn_r _ [40, 41, 101, 102, 103, 104, 105, 106, 107] rfl (by decide +kernel)
set_option maxRecDepth 20000 in
theorem gX2_addSegment_X4_isFull_n135 : GoodIn wsX2_addSegment (wsX4_isFull) := ggX2_addSegment_X4_isFull
set_option maxRecDepth 20000 in
theorem ggX2_addSegment_X4_insert : GoodIn wsX2_addSegment wsX4_insert := goodIn_r _ [44, 41, 45, 46, 47, 48, 49, 50, 51, 37, 39, 38, 40, 52, 53, 54, 55, 56, 57, 58, 59, 60, 61, 62, 63, 101, 102, 103, 104, 105, 106, 107, 95, 96, 97, 98, 99, 100] rfl (by decide +kernel)
set_option maxRecDepth 20000 in
theorem gX2_addSegment_X4_insert_n138 : GoodIn wsX2_addSegment (wsX4_insert) := ggX2_addSegment_X4_insert
set_option maxRecDepth 20000 in
theorem ggX2_addSegment_X0_pass : GoodIn wsX2_addSegment wsX0_pass := goodIn_r _ [67, 68, 69, 70, 71, 72, 73, 22, 74, 75, 27, 76, 77, 78, 30, 95, 96, 97, 98, 99, 100, 90, 91, 92, 93, 94] rfl (by decide +kernel)
set_option maxRecDepth 20000 in
theorem gX2_addSegment_X0_pass_n142 : GoodIn wsX2_addSegment (wsX0_pass) := ggX2_addSegment_X0_pass
set_option maxRecDepth 20000 in
theorem ggX2_addUp_X3_standAt : GoodIn wsX2_addUp wsX3_standAt := goodIn_r _ [11, 12, 13, 14, 15, 16, 17, 40, 41, 42, 43, 44, 45] rfl (by decide +kernel)
set_option maxRecDepth 20000 in
theorem gX2_addUp_X3_standAt_n150 : GoodIn wsX2_addUp (wsX3_standAt) := ggX2_addUp_X3_standAt
set_option maxRecDepth 20000 in
theorem ggX2_addUp_X8_isWithin : GoodIn wsX2_addUp wsX8_isWithin := goodIn_r _ [20] rfl (by decide +kernel)
set_option maxRecDepth 20000 in
theorem gX2_addUp_X8_isWithin_n165 : GoodIn wsX2_addUp (wsX8_isWithin) := ggX2_addUp_X8_isWithin
set_option maxRecDepth 20000 in
theorem ggX2_addUp_X3_tell : GoodIn wsX2_addUp wsX3_tell := goodIn_r _ [23, 14, 15, 16, 17, 40, 41, 42, 43, 44, 45] rfl (by decide +kernel)
set_option maxRecDepth 20000 in
theorem gX2_addUp_X3_tell_n170 : GoodIn wsX2_addUp (wsX3_tell) := ggX2_addUp_X3_tell
