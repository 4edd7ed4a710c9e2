set_option maxRecDepth 20000 in
theorem ggL_law_X9_fault : GoodIn wsL_law wsX9_fault := goodIn_r _ [392, 97, 106, 555, 556, 557, 558, 559, 560, 561, 562, 563, 564, 565, 566, 567, 568, 569, 570, 571] rfl (by decide +kernel)
set_option maxRecDepth 20000 in
theorem gL_law_X9_fault : GoodIn wsL_law (wsV RL 37 RX9 yX9_fault wsX9_fault) := goodIn_app (goodIn_of _ (by decide +kernel)) ggL_law_X9_fault
set_option maxRecDepth 20000 in
theorem ggL_law_X8_put : GoodIn wsL_law wsX8_put := goodIn_r _ [396, 28, 141, 142, 143, 2, 144, 32, 33, 316, 31, 317, 318, 319, 302, 27, 303, 304, 305, 306, 307, 308, 309, 310, 313, 314, 315, 397, 398, 399, 400, 311, 312, 401, 339, 340, 341, 320, 321, 322, 73, 74, 75, 76, 77, 78, 323, 324, 325, 326, 327, 328, 329, 330, 331, 332, 333, 334, 335, 547, 548, 549, 550, 551, 552, 553, 554, 595, 596, 597, 598, 599, 600, 601, 589, 590, 591, 592, 593, 594] rfl (by decide +kernel)
set_option maxRecDepth 20000 in
theorem gL_law_X8_put : GoodIn wsL_law (wsV RL 38 RX8 yX8_put wsX8_put) := goodIn_app (goodIn_of _ (by decide +kernel)) ggL_law_X8_put
set_option maxRecDepth 20000 in
theorem ggL_law_X9_put : GoodIn wsL_law wsX9_put := goodIn_r _ [405, 97, 363, 380, 99, 98, 382, 383, 5, 384, 406, 407, 408, 409, 555, 556, 557, 558, 559, 560, 561, 562, 563, 564, 565, 566, 567, 568, 569, 570, 571] rfl (by decide +kernel)
set_option maxRecDepth 20000 in
theorem gL_law_X9_put : GoodIn wsL_law (wsV RL 42 RX9 yX9_put wsX9_put) := goodIn_app (goodIn_of _ (by decide +kernel)) ggL_law_X9_put
set_option maxRecDepth 20000 in
theorem ggL_law_X8_write : GoodIn wsL_law wsX8_write := goodIn_r _ [413, 24, 37, 141, 142, 143, 2, 144, 32, 33, 414, 23, 415, 416, 87, 83, 417, 85, 418, 36, 419, 420, 421, 422, 162, 54, 163, 164, 165, 166, 167, 168, 169, 423, 31, 424, 425, 73, 74, 75, 76, 77, 78, 302, 27, 303, 304, 305, 306, 307, 308, 309, 310, 426, 427, 428, 429, 313, 314, 315, 430, 431, 432, 92, 433, 434, 435, 436, 349, 350, 351, 437, 438, 439, 440, 441, 442, 443, 444, 445, 446, 180, 447, 186, 187, 188, 189, 190, 191, 192, 448, 449, 203, 450, 451, 452, 453, 237, 454, 455, 240, 456, 457, 458, 220, 459, 460, 461, 462, 231, 232, 233, 463, 245, 246, 247, 248, 249, 250, 464, 339, 340, 341, 342, 343, 344, 336, 337, 338, 465, 466, 467, 547, 548, 549, 550, 551, 552, 553, 554, 602, 603, 604, 585, 586, 587, 588, 595, 596, 597, 598, 599, 600, 601, 589, 590, 591, 592, 593, 594, 610, 611, 612, 613, 614] rfl (by decide +kernel)
set_option maxRecDepth 20000 in
theorem gL_law_X8_write : GoodIn wsL_law (wsV RL 43 RX8 yX8_write wsX8_write) := goodIn_app (goodIn_of _ (by decide +kernel)) ggL_law_X8_write
set_option maxRecDepth 20000 in
theorem ggL_law_X9_write : GoodIn wsL_law wsX9_write := goodIn_r _ [471, 97, 111, 113, 99, 98, 105, 104, 112, 472, 473, 474, 5, 475, 476, 477, 478, 479, 480, 481, 482, 483, 484, 555, 556, 557, 558, 559, 560, 561, 562, 563, 564, 565, 566, 567, 568, 569, 570, 571] rfl (by decide +kernel)
set_option maxRecDepth 20000 in
theorem gL_law_X9_write : GoodIn wsL_law (wsV RL 46 RX9 yX9_write wsX9_write) := goodIn_app (goodIn_of _ (by decide +kernel)) ggL_law_X9_write
