set_option maxRecDepth 20000 in
theorem ggL_law_X9_compose : GoodIn wsL_law wsX9_compose := goodIn_r _ [530, 97, 99, 98, 513, 514, 515, 5, 516, 555, 556, 557, 558, 559, 560, 561, 562, 563, 564, 565, 566, 567, 568, 569, 570, 571] rfl (by decide +kernel)
set_option maxRecDepth 20000 in
theorem gL_law_X9_compose : GoodIn wsL_law (wsV RL 61 RX9 yX9_compose wsX9_compose) := goodIn_app (goodIn_of _ (by decide +kernel)) ggL_law_X9_compose
set_option maxRecDepth 20000 in
theorem ggL_law_X8_size : GoodIn wsL_law wsX8_size := goodIn_r _ [534, 141, 142, 143, 2, 144, 32, 33, 595, 596, 597, 598, 599, 600, 601, 547, 548, 549, 550, 551, 552, 553, 554] rfl (by decide +kernel)
set_option maxRecDepth 20000 in
theorem gL_law_X8_size : GoodIn wsL_law (wsV RL 62 RX8 yX8_size wsX8_size) := goodIn_app (goodIn_of _ (by decide +kernel)) ggL_law_X8_size
set_option maxRecDepth 20000 in
theorem ggL_law_X9_size : GoodIn wsL_law wsX9_size := goodIn_r _ [538, 97, 99, 555, 556, 557, 558, 559, 560, 561, 562, 563, 564, 565, 566, 567, 568, 569, 570, 571] rfl (by decide +kernel)
set_option maxRecDepth 20000 in
theorem gL_law_X9_size : GoodIn wsL_law (wsV RL 65 RX9 yX9_size wsX9_size) := goodIn_app (goodIn_of _ (by decide +kernel)) ggL_law_X9_size
set_option maxRecDepth 20000 in
theorem ggL_law_X8_clear : GoodIn wsL_law wsX8_clear := goodIn_r _ [542, 141, 142, 143, 2, 144, 32, 33, 595, 596, 597, 598, 599, 600, 601, 547, 548, 549, 550, 551, 552, 553, 554] rfl (by decide +kernel)
set_option maxRecDepth 20000 in
theorem gL_law_X8_clear : GoodIn wsL_law (wsV RL 66 RX8 yX8_clear wsX8_clear) := goodIn_app (goodIn_of _ (by decide +kernel)) ggL_law_X8_clear
set_option maxRecDepth 20000 in
theorem ggL_law_X9_clear : GoodIn wsL_law wsX9_clear := goodIn_r _ [546, 97, 99, 555, 556, 557, 558, 559, 560, 561, 562, 563, 564, 565, 566, 567, 568, 569, 570, 571] rfl (by decide +kernel)
set_option maxRecDepth 20000 in
theorem gL_law_X9_clear : GoodIn wsL_law (wsV RL 69 RX9 yX9_clear wsX9_clear) := goodIn_app (goodIn_of _ (by decide +kernel)) ggL_law_X9_clear
