set_option maxRecDepth 20000 in
theorem gL_law_L_textAt : GoodIn wsL_law (va_wsS RL 47 yL_textAt wsL_textAt) := goodIn_app (goodIn_of _ (by decide +kernel)) ggL_law_L_textAt
set_option maxRecDepth 20000 in
theorem ggL_law_X9_textAt : GoodIn wsL_law wsX9_textAt := goodIn_r _ [499, 97, 105, 104, 559, 560, 561, 562, 563, 564, 565, 566, 567, 568, 569, 570, 571, 572, 573, 574, 575] rfl (by decide +kernel)
set_option maxRecDepth 20000 in
theorem gL_law_X9_textAt : GoodIn wsL_law (wsV RL 52 RX9 yX9_textAt wsX9_textAt) := goodIn_app (goodIn_of _ (by decide +kernel)) ggL_law_X9_textAt
set_option maxRecDepth 20000 in
theorem ggL_law_X9_thrown : GoodIn wsL_law wsX9_thrown := goodIn_r _ [503, 97, 559, 560, 561, 562, 563, 564, 565, 566, 567, 568, 569, 570, 571, 572, 573, 574, 575] rfl (by decide +kernel)
set_option maxRecDepth 20000 in
theorem gL_law_X9_thrown : GoodIn wsL_law (wsV RL 53 RX9 yX9_thrown wsX9_thrown) := goodIn_app (goodIn_of _ (by decide +kernel)) ggL_law_X9_thrown
set_option maxRecDepth 20000 in
theorem ggL_law_X8_ask : GoodIn wsL_law wsX8_ask := goodIn_r _ [507, 508, 141, 142, 143, 2, 144, 32, 33, 509, 311, 312, 510, 31, 511, 512, 319, 73, 74, 426, 427, 428, 429, 75, 599, 600, 601, 602, 603, 604, 605, 551, 552, 553, 554, 555, 556, 557, 558] rfl (by decide +kernel)
set_option maxRecDepth 20000 in
theorem gL_law_X8_ask : GoodIn wsL_law (wsV RL 56 RX8 yX8_ask wsX8_ask) := goodIn_app (goodIn_of _ (by decide +kernel)) ggL_law_X8_ask
set_option maxRecDepth 20000 in
theorem ggL_law_X9_ask : GoodIn wsL_law wsX9_ask := goodIn_r _ [516, 97, 98, 517, 518, 519, 5, 520, 99, 559, 560, 561, 562, 563, 564, 565, 566, 567, 568, 569, 570, 571, 572, 573, 574, 575] rfl (by decide +kernel)
set_option maxRecDepth 20000 in
theorem gL_law_X9_ask : GoodIn wsL_law (wsV RL 60 RX9 yX9_ask wsX9_ask) := goodIn_app (goodIn_of _ (by decide +kernel)) ggL_law_X9_ask
set_option maxRecDepth 20000 in
theorem ggL_law_X8_compose : GoodIn wsL_law wsX8_compose := goodIn_r _ [524, 32, 33, 427, 31, 428, 429, 75, 510, 511, 512, 319, 73, 74, 426, 525, 526, 527, 76, 77, 78, 528, 529, 530, 551, 552, 553, 554, 555, 556, 557, 558, 599, 600, 601, 602, 603, 604, 605] rfl (by decide +kernel)
