set_option maxRecDepth 20000 in
theorem ggX8_init_X5_init : GoodIn wsX8_init wsX5_init := goodIn_r _ [31, 32, 2, 3, 33, 34, 85, 86] rfl (by decide +kernel)
set_option maxRecDepth 20000 in
theorem gX8_init_X5_init_n9 : GoodIn wsX8_init (wsX5_init) := ggX8_init_X5_init
set_option maxRecDepth 20000 in
theorem ggX8_init_X2_init : GoodIn wsX8_init wsX2_init := goodIn_r _ [36, 37, 2, 3, 38, 39, 40, 41, 42, 43, 44, 45, 46, 47, 48, 17, 18, 49, 50, 21, 22, 51, 52, 53, 54, 55, 56, 57, 58, 59, 60, 61, 62, 63, 64, 65, 66, 67, 68, 69, 70, 126, 127, 128, 129, 130, 95, 96, 97, 98, 99, 100, 101, 102, 103, 104, 105, 131, 132, 133, 134, 135, 110, 111, 112, 113, 114, 115, 116, 117, 118, 119, 120, 121, 122] rfl (by decide +kernel)
set_option maxRecDepth 20000 in
theorem gX8_init_X2_init_n18 : GoodIn wsX8_init (wsX2_init) := ggX8_init_X2_init
set_option maxRecDepth 20000 in
theorem ggX8_init_X7_init : GoodIn wsX8_init wsX7_init := goodIn_r _ [72, 73, 2, 3, 74, 45, 46, 75, 76, 17, 18, 77, 78, 26, 27, 79, 55, 56, 57, 58, 59, 60, 80, 81, 82, 83, 84, 131, 132, 133, 134, 135, 106, 107, 108, 109, 110, 111, 112, 113, 114, 115, 123, 124, 125] rfl (by decide +kernel)
set_option maxRecDepth 20000 in
theorem gX8_init_X7_init_n25 : GoodIn wsX8_init (wsX7_init) := ggX8_init_X7_init
set_option maxRecDepth 20000 in
theorem ggX8_init_X3_init : GoodIn wsX8_init wsX3_init := goodIn_r _ [59, 60, 2, 3] rfl (by decide +kernel)
set_option maxRecDepth 20000 in
theorem gX8_init_X3_init_n32 : GoodIn wsX8_init (wsX3_init) := ggX8_init_X3_init
set_option maxRecDepth 20000 in
theorem ggX8_init_X4_init : GoodIn wsX8_init wsX4_init := goodIn_r _ [62, 63, 2, 3, 64, 65, 66, 67, 68, 69, 70, 116, 117, 118, 119, 120, 121, 122] rfl (by decide +kernel)
set_option maxRecDepth 20000 in
theorem gX8_init_X4_init_n39 : GoodIn wsX8_init (wsX4_init) := ggX8_init_X4_init
set_option maxRecDepth 20000 in
theorem ggX8_init_X6_init : GoodIn wsX8_init wsX6_init := goodIn_r _ [81, 82, 2, 3, 83, 84, 123, 124, 125] rfl (by decide +kernel)
set_option maxRecDepth 20000 in
theorem gX8_init_X6_init_n49 : GoodIn wsX8_init (wsX6_init) := ggX8_init_X6_init
set_option maxRecDepth 20000 in
theorem ggX8_feed_X5_hasRoomForFive : GoodIn wsX8_feed wsX5_hasRoomForFive := goodIn_r _ [5, 6, 19, 20] rfl (by decide +kernel)
set_option maxRecDepth 20000 in
theorem gX8_feed_X5_hasRoomForFive_n58 : GoodIn wsX8_feed (wsX5_hasRoomForFive) := ggX8_feed_X5_hasRoomForFive
set_option maxRecDepth 20000 in
theorem ggX8_feed_X5_appendFour : GoodIn wsX8_feed wsX5_appendFour := goodIn_r _ [9, 6, 10, 19, 20] rfl (by decide +kernel)
set_option maxRecDepth 20000 in
theorem gX8_feed_X5_appendFour_n62 : GoodIn wsX8_feed (wsX5_appendFour) := ggX8_feed_X5_appendFour
set_option maxRecDepth 20000 in
theorem ggX8_read_X8_tableOf : GoodIn wsX8_read wsX8_tableOf := goodIn_r _ [10, 4, 5, 239, 240, 241, 242, 243, 244, 245, 246] rfl (by decide +kernel)
set_option maxRecDepth 20000 in
theorem gX8_read_X8_tableOf : GoodIn wsX8_read (wsV RX8 69 RX8 yX8_tableOf wsX8_tableOf) := goodIn_app (goodIn_of _ (by decide +kernel)) ggX8_read_X8_tableOf
set_option maxRecDepth 20000 in
theorem ggX8_read_X2_readTape : GoodIn wsX8_read wsX2_readTape := goodIn_r _ [14, 15, 16, 17, 18, 12, 19, 20, 21, 22, 23, 24, 25, 26, 27, 28, 29, 30, 31, 32, 33, 34, 35, 36, 37, 38, 39, 40, 41, 42, 43, 44, 45, 46, 47, 48, 49, 50, 51, 52, 53, 54, 55, 56, 57, 58, 59, 60, 61, 62, 63, 64, 65, 66, 67, 68, 69, 70, 71, 72, 73, 74, 75, 76, 77, 78, 79, 80, 81, 82, 83, 84, 85, 86, 87, 88, 89, 90, 91, 92, 93, 94, 95, 96, 97, 98, 99, 100, 101, 102, 103, 104, 105, 106, 107, 108, 109, 110, 111, 112, 113, 114, 115, 116, 117, 118, 119, 120, 121, 122, 123, 124, 125, 126, 127, 128, 129, 130, 131, 132, 133, 134, 135, 136, 137, 138, 139, 140, 141, 142, 143, 144, 145, 146, 147, 148, 149, 150, 151, 152, 153, 154, 155, 156, 157, 158, 159, 160, 161, 162, 163, 164, 165, 166, 167, 168, 169, 170, 171, 172, 173, 174, 175, 176, 177, 178, 179, 180, 181, 182, 183, 184, 185, 186, 187, 188, 9, 189, 190, 191, 192, 193, 194, 195, 196, 197, 198, 199, 200, 201, 202, 203, 204, 205, 206, 207, 208, 209, 210, 211, 212, 213, 214, 215, 216, 217, 218, 219, 220, 221, 222, 223, 224, 225, 226, 227, 228, 229, 230, 231, 232, 233, 234, 235, 247, 248, 249, 250, 251, 252, 253, 254, 255, 256, 257, 258, 259, 260, 261, 262, 263, 264, 265, 266, 267, 268, 269, 270, 271, 272, 273, 274, 275, 276, 277, 278, 279, 280, 281, 282] rfl (by decide +kernel)
set_option maxRecDepth 20000 in
theorem gX8_read_X2_readTape_n73 : GoodIn wsX8_read (wsX2_readTape) := ggX8_read_X2_readTape
set_option maxRecDepth 20000 in
theorem ggX8_read_X2_exchangeTable : GoodIn wsX8_read wsX2_exchangeTable := goodIn_r _ [238, 20, 249, 250, 251, 252, 253, 254, 255, 256, 257, 258, 259] rfl (by decide +kernel)
set_option maxRecDepth 20000 in
theorem gX8_read_X2_exchangeTable_n83 : GoodIn wsX8_read (wsX2_exchangeTable) := ggX8_read_X2_exchangeTable
set_option maxRecDepth 20000 in
theorem ggX8_put_X8_tableOf : GoodIn wsX8_put wsX8_tableOf := goodIn_r _ [6, 7, 8, 59, 60, 61, 62, 63, 64, 65, 66] rfl (by decide +kernel)
set_option maxRecDepth 20000 in
theorem gX8_put_X8_tableOf : GoodIn wsX8_put (wsV RX8 69 RX8 yX8_tableOf wsX8_tableOf) := goodIn_app (goodIn_of _ (by decide +kernel)) ggX8_put_X8_tableOf
set_option maxRecDepth 20000 in
theorem ggX8_put_X4_isFull : GoodIn wsX8_put wsX4_isFull := goodIn_r _ [12, 13, 67, 68, 69, 70, 71, 72, 73] rfl (by decide +kernel)
set_option maxRecDepth 20000 in
theorem gX8_put_X4_isFull_n90 : GoodIn wsX8_put (wsX4_isFull) := ggX8_put_X4_isFull
set_option maxRecDepth 20000 in
theorem ggX8_put_X3_standAt : GoodIn wsX8_put wsX3_standAt := goodIn_r _ [17, 18, 19, 20, 21, 22, 23, 74, 75, 76, 77, 78, 79] rfl (by decide +kernel)
set_option maxRecDepth 20000 in
theorem gX8_put_X3_standAt_n93 : GoodIn wsX8_put (wsX3_standAt) := ggX8_put_X3_standAt
set_option maxRecDepth 20000 in
theorem ggX8_put_X3_tell : GoodIn wsX8_put wsX3_tell := goodIn_r _ [26, 20, 21, 22, 23, 74, 75, 76, 77, 78, 79] rfl (by decide +kernel)
set_option maxRecDepth 20000 in
theorem gX8_put_X3_tell_n97 : GoodIn wsX8_put (wsX3_tell) := ggX8_put_X3_tell
set_option maxRecDepth 20000 in
theorem ggX8_put_X3_isInBounds : GoodIn wsX8_put wsX3_isInBounds := goodIn_r _ [29, 18, 19, 30, 20, 23, 21, 22, 31, 5, 32, 33, 34, 35, 15, 36, 74, 75, 76, 77, 78, 79] rfl (by decide +kernel)
set_option maxRecDepth 20000 in
theorem gX8_put_X3_isInBounds_n101 : GoodIn wsX8_put (wsX3_isInBounds) := ggX8_put_X3_isInBounds
set_option maxRecDepth 20000 in
theorem ggX8_put_X4_insert : GoodIn wsX8_put wsX4_insert := goodIn_r _ [39, 13, 40, 41, 42, 43, 44, 45, 46, 9, 11, 10, 12, 47, 48, 49, 50, 51, 52, 53, 54, 55, 56, 57, 58, 67, 68, 69, 70, 71, 72, 73, 74, 75, 76, 77, 78, 79] rfl (by decide +kernel)
set_option maxRecDepth 20000 in
theorem gX8_put_X4_insert_n104 : GoodIn wsX8_put (wsX4_insert) := ggX8_put_X4_insert
set_option maxRecDepth 20000 in
theorem ggX8_write_X8_tableOf : GoodIn wsX8_write wsX8_tableOf := goodIn_r _ [7, 8, 9, 132, 133, 134, 135, 136, 137, 138, 139] rfl (by decide +kernel)
set_option maxRecDepth 20000 in
theorem gX8_write_X8_tableOf : GoodIn wsX8_write (wsV RX8 69 RX8 yX8_tableOf wsX8_tableOf) := goodIn_app (goodIn_of _ (by decide +kernel)) ggX8_write_X8_tableOf
set_option maxRecDepth 20000 in
theorem ggX8_write_X7_writeTable : GoodIn wsX8_write wsX7_writeTable := goodIn_r _ [13, 14, 15, 16, 17, 18, 19, 20, 21, 22, 23, 24, 25, 26, 27, 28, 29, 30, 31, 32, 33, 34, 35, 36, 37, 38, 39, 40, 41, 42, 43, 44, 45, 46, 47, 48, 49, 50, 51, 52, 53, 54, 55, 56, 57, 58, 59, 60, 61, 62, 63, 64, 65, 66, 11, 67, 68, 69, 70, 71, 72, 73, 74, 75, 76, 77, 78, 79, 80, 81, 82, 83, 84, 85, 86, 87, 88, 89, 90, 91, 92, 93, 94, 95, 96, 97, 98, 99, 100, 101, 102, 103, 104, 105, 106, 107, 108, 109, 110, 111, 112, 113, 114, 115, 116, 117, 118, 119, 120, 121, 122, 123, 124, 125, 126, 127, 128, 143, 144, 145, 146, 147, 148, 149, 150, 151, 152, 153, 154, 155, 156, 157, 158, 159, 140, 141, 142, 160, 161, 162, 163, 164] rfl (by decide +kernel)
set_option maxRecDepth 20000 in
theorem gX8_write_X7_writeTable_n108 : GoodIn wsX8_write (wsX7_writeTable) := ggX8_write_X7_writeTable
set_option maxRecDepth 20000 in
theorem ggX8_write_X7_exchangeText : GoodIn wsX8_write wsX7_exchangeText := goodIn_r _ [131, 14, 143, 144, 145, 146] rfl (by decide +kernel)
set_option maxRecDepth 20000 in
theorem gX8_write_X7_exchangeText_n112 : GoodIn wsX8_write (wsX7_exchangeText) := ggX8_write_X7_exchangeText
set_option maxRecDepth 20000 in
theorem ggX8_ask_X8_tableOf : GoodIn wsX8_ask wsX8_tableOf := goodIn_r _ [6, 7, 8, 31, 32, 33, 34, 35, 36, 37, 38] rfl (by decide +kernel)
set_option maxRecDepth 20000 in
theorem gX8_ask_X8_tableOf : GoodIn wsX8_ask (wsV RX8 69 RX8 yX8_tableOf wsX8_tableOf) := goodIn_app (goodIn_of _ (by decide +kernel)) ggX8_ask_X8_tableOf
set_option maxRecDepth 20000 in
theorem ggX8_ask_X8_isWithin : GoodIn wsX8_ask wsX8_isWithin := goodIn_r _ [11] rfl (by decide +kernel)
set_option maxRecDepth 20000 in
theorem gX8_ask_X8_isWithin : GoodIn wsX8_ask (va_wsS RX8 125 yX8_isWithin wsX8_isWithin) := goodIn_app (goodIn_of _ (by decide +kernel)) ggX8_ask_X8_isWithin
set_option maxRecDepth 20000 in
theorem ggX8_ask_X4_findTelling : GoodIn wsX8_ask wsX4_findTelling := goodIn_r _ [15, 16, 17, 18, 19, 20, 21, 13, 22, 23, 24, 25, 26, 27, 28, 29, 30] rfl (by decide +kernel)
set_option maxRecDepth 20000 in
theorem gX8_ask_X4_findTelling_n129 : GoodIn wsX8_ask (wsX4_findTelling) := ggX8_ask_X4_findTelling
set_option maxRecDepth 20000 in
theorem ggX8_compose_X4_tells : GoodIn wsX8_compose wsX4_tells := goodIn_r _ [6, 7, 32, 33, 34, 35, 36, 37, 38] rfl (by decide +kernel)
set_option maxRecDepth 20000 in
theorem gX8_compose_X4_tells_n146 : GoodIn wsX8_compose (wsX4_tells) := ggX8_compose_X4_tells
set_option maxRecDepth 20000 in
theorem ggX8_compose_X4_findTelling : GoodIn wsX8_compose wsX4_findTelling := goodIn_r _ [10, 11, 12, 13, 14, 3, 5, 4, 6, 7, 32, 33, 34, 35, 36, 37, 38] rfl (by decide +kernel)
set_option maxRecDepth 20000 in
theorem gX8_compose_X4_findTelling_n129 : GoodIn wsX8_compose (wsX4_findTelling) := ggX8_compose_X4_findTelling
set_option maxRecDepth 20000 in
theorem ggX8_compose_X4_tellNothing : GoodIn wsX8_compose wsX4_tellNothing := goodIn_r _ [17, 7, 18, 19, 20, 32, 33, 34, 35, 36, 37, 38] rfl (by decide +kernel)
set_option maxRecDepth 20000 in
theorem gX8_compose_X4_tellNothing_n150 : GoodIn wsX8_compose (wsX4_tellNothing) := ggX8_compose_X4_tellNothing
set_option maxRecDepth 20000 in
theorem ggX8_compose_X4_tellAs : GoodIn wsX8_compose wsX4_tellAs := goodIn_r _ [23, 7, 18, 19, 20, 32, 33, 34, 35, 36, 37, 38] rfl (by decide +kernel)
set_option maxRecDepth 20000 in
theorem gX8_compose_X4_tellAs_n153 : GoodIn wsX8_compose (wsX4_tellAs) := ggX8_compose_X4_tellAs
set_option maxRecDepth 20000 in
theorem ggX8_size_X8_tableOf : GoodIn wsX8_size wsX8_tableOf := goodIn_r _ [5, 6, 7, 15, 16, 17, 18, 19, 20, 21, 22] rfl (by decide +kernel)
set_option maxRecDepth 20000 in
theorem gX8_size_X8_tableOf : GoodIn wsX8_size (wsV RX8 69 RX8 yX8_tableOf wsX8_tableOf) := goodIn_app (goodIn_of _ (by decide +kernel)) ggX8_size_X8_tableOf
set_option maxRecDepth 20000 in
theorem ggX8_clear_X8_tableOf : GoodIn wsX8_clear wsX8_tableOf := goodIn_r _ [5, 6, 7, 15, 16, 17, 18, 19, 20, 21, 22] rfl (by decide +kernel)
set_option maxRecDepth 20000 in
theorem gX8_clear_X8_tableOf : GoodIn wsX8_clear (wsV RX8 69 RX8 yX8_tableOf wsX8_tableOf) := goodIn_app (goodIn_of _ (by decide +kernel)) ggX8_clear_X8_tableOf
