set_option maxRecDepth 20000 in
theorem gL_law_X8_compose : GoodIn wsL_law (wsV RL 61 RX8 yX8_compose wsX8_compose) := goodIn_app (goodIn_of _ (by decide +kernel)) ggL_law_X8_compose
set_option maxRecDepth 20000 in
theorem ggL_law_X9_compose : GoodIn wsL_law wsX9_compose := goodIn_r _ [534, 97, 99, 98, 517, 518, 519, 5, 520, 559, 560, 561, 562, 563, 564, 565, 566, 567, 568, 569, 570, 571, 572, 573, 574, 575] rfl (by decide +kernel)
set_option maxRecDepth 20000 in
theorem gL_law_X9_compose : GoodIn wsL_law (wsV RL 64 RX9 yX9_compose wsX9_compose) := goodIn_app (goodIn_of _ (by decide +kernel)) ggL_law_X9_compose
set_option maxRecDepth 20000 in
theorem ggL_law_X8_size : GoodIn wsL_law wsX8_size := goodIn_r _ [538, 141, 142, 143, 2, 144, 32, 33, 599, 600, 601, 602, 603, 604, 605, 551, 552, 553, 554, 555, 556, 557, 558] rfl (by decide +kernel)
set_option maxRecDepth 20000 in
theorem gL_law_X8_size : GoodIn wsL_law (wsV RL 65 RX8 yX8_size wsX8_size) := goodIn_app (goodIn_of _ (by decide +kernel)) ggL_law_X8_size
set_option maxRecDepth 20000 in
theorem ggL_law_X9_size : GoodIn wsL_law wsX9_size := goodIn_r _ [542, 97, 99, 559, 560, 561, 562, 563, 564, 565, 566, 567, 568, 569, 570, 571, 572, 573, 574, 575] rfl (by decide +kernel)
set_option maxRecDepth 20000 in
theorem gL_law_X9_size : GoodIn wsL_law (wsV RL 68 RX9 yX9_size wsX9_size) := goodIn_app (goodIn_of _ (by decide +kernel)) ggL_law_X9_size
set_option maxRecDepth 20000 in
theorem ggL_law_X8_clear : GoodIn wsL_law wsX8_clear := goodIn_r _ [546, 141, 142, 143, 2, 144, 32, 33, 599, 600, 601, 602, 603, 604, 605, 551, 552, 553, 554, 555, 556, 557, 558] rfl (by decide +kernel)
set_option maxRecDepth 20000 in
theorem gL_law_X8_clear : GoodIn wsL_law (wsV RL 69 RX8 yX8_clear wsX8_clear) := goodIn_app (goodIn_of _ (by decide +kernel)) ggL_law_X8_clear
set_option maxRecDepth 20000 in
theorem ggL_law_X9_clear : GoodIn wsL_law wsX9_clear := goodIn_r _ [550, 97, 99, 559, 560, 561, 562, 563, 564, 565, 566, 567, 568, 569, 570, 571, 572, 573, 574, 575] rfl (by decide +kernel)
set_option maxRecDepth 20000 in
theorem gL_law_X9_clear : GoodIn wsL_law (wsV RL 72 RX9 yX9_clear wsX9_clear) := goodIn_app (goodIn_of _ (by decide +kernel)) ggL_law_X9_clear
