set_option maxRecDepth 20000 in
theorem ggL_law_L_textAt : GoodIn wsL_law wsL_textAt := goodIn_ca (goodIn_r _ [488, 489, 490, 491, 492, 2, 493, 494, 495, 37, 547, 548, 549, 550, 551, 552, 553, 554, 602, 603, 604] rfl (by decide +kernel)) (goodIn_sub (fun _ h => List.mem_append_right _ h) (by decide +kernel))
set_option maxRecDepth 20000 in
theorem gL_law_L_textAt : GoodIn wsL_law (va_wsS RL 47 yL_textAt wsL_textAt) := goodIn_app (goodIn_of _ (by decide +kernel)) ggL_law_L_textAt
set_option maxRecDepth 20000 in
theorem ggL_law_X9_textAt : GoodIn wsL_law wsX9_textAt := goodIn_r _ [499, 97, 105, 104, 555, 556, 557, 558, 559, 560, 561, 562, 563, 564, 565, 566, 567, 568, 569, 570, 571] rfl (by decide +kernel)
set_option maxRecDepth 20000 in
theorem gL_law_X9_textAt : GoodIn wsL_law (wsV RL 52 RX9 yX9_textAt wsX9_textAt) := goodIn_app (goodIn_of _ (by decide +kernel)) ggL_law_X9_textAt
set_option maxRecDepth 20000 in
theorem ggL_law_X8_ask : GoodIn wsL_law wsX8_ask := goodIn_r _ [503, 504, 141, 142, 143, 2, 144, 32, 33, 505, 311, 312, 506, 31, 507, 508, 319, 73, 74, 426, 427, 428, 429, 75, 595, 596, 597, 598, 599, 600, 601, 547, 548, 549, 550, 551, 552, 553, 554] rfl (by decide +kernel)
set_option maxRecDepth 20000 in
theorem gL_law_X8_ask : GoodIn wsL_law (wsV RL 53 RX8 yX8_ask wsX8_ask) := goodIn_app (goodIn_of _ (by decide +kernel)) ggL_law_X8_ask
set_option maxRecDepth 20000 in
theorem ggL_law_X9_ask : GoodIn wsL_law wsX9_ask := goodIn_r _ [512, 97, 98, 513, 514, 515, 5, 516, 99, 555, 556, 557, 558, 559, 560, 561, 562, 563, 564, 565, 566, 567, 568, 569, 570, 571] rfl (by decide +kernel)
set_option maxRecDepth 20000 in
theorem gL_law_X9_ask : GoodIn wsL_law (wsV RL 57 RX9 yX9_ask wsX9_ask) := goodIn_app (goodIn_of _ (by decide +kernel)) ggL_law_X9_ask
set_option maxRecDepth 20000 in
theorem ggL_law_X8_compose : GoodIn wsL_law wsX8_compose := goodIn_r _ [520, 32, 33, 427, 31, 428, 429, 75, 506, 507, 508, 319, 73, 74, 426, 521, 522, 523, 76, 77, 78, 524, 525, 526, 547, 548, 549, 550, 551, 552, 553, 554, 595, 596, 597, 598, 599, 600, 601] rfl (by decide +kernel)
set_option maxRecDepth 20000 in
theorem gL_law_X8_compose : GoodIn wsL_law (wsV RL 58 RX8 yX8_compose wsX8_compose) := goodIn_app (goodIn_of _ (by decide +kernel)) ggL_law_X8_compose
