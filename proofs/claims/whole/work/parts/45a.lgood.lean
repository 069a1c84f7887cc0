set_option maxRecDepth 20000 in
theorem ggL_law_L_cell : GoodIn wsL_law wsL_cell := goodIn_of _ (by decide +kernel)
set_option maxRecDepth 20000 in
theorem gL_law_L_cell : GoodIn wsL_law (va_wsS RL 41 yL_cell wsL_cell) := goodIn_app (goodIn_of _ (by decide +kernel)) ggL_law_L_cell
set_option maxRecDepth 20000 in
theorem ggL_law_X2_init : GoodIn wsL_law wsX2_init := goodIn_of _ (by decide +kernel)
set_option maxRecDepth 20000 in
theorem gL_law_X2_init : GoodIn wsL_law (wsX2_init) := ggL_law_X2_init
set_option maxRecDepth 20000 in
theorem ggL_law_X3_init : GoodIn wsL_law wsX3_init := goodIn_of _ (by decide +kernel)
set_option maxRecDepth 20000 in
theorem gL_law_X3_init : GoodIn wsL_law (wsX3_init) := ggL_law_X3_init
set_option maxRecDepth 20000 in
theorem ggL_law_X2_add : GoodIn wsL_law wsX2_add := goodIn_of _ (by decide +kernel)
set_option maxRecDepth 20000 in
theorem gL_law_X2_add : GoodIn wsL_law (wsV RL 53 RX2 yX2_add wsX2_add) := goodIn_app (goodIn_of _ (by decide +kernel)) ggL_law_X2_add
set_option maxRecDepth 20000 in
theorem ggL_law_X3_add : GoodIn wsL_law wsX3_add := goodIn_of _ (by decide +kernel)
set_option maxRecDepth 20000 in
theorem gL_law_X3_add : GoodIn wsL_law (wsV RL 57 RX3 yX3_add wsX3_add) := goodIn_app (goodIn_of _ (by decide +kernel)) ggL_law_X3_add
set_option maxRecDepth 20000 in
theorem ggL_law_L_end : GoodIn wsL_law wsL_end := goodIn_of _ (by decide +kernel)
set_option maxRecDepth 20000 in
theorem gL_law_L_end : GoodIn wsL_law (va_wsS RL 58 yL_end wsL_end) := goodIn_app (goodIn_of _ (by decide +kernel)) ggL_law_L_end
set_option maxRecDepth 20000 in
theorem ggL_law_X3_end : GoodIn wsL_law wsX3_end := goodIn_of _ (by decide +kernel)
set_option maxRecDepth 20000 in
theorem gL_law_X3_end : GoodIn wsL_law (wsV RL 61 RX3 yX3_end wsX3_end) := goodIn_app (goodIn_of _ (by decide +kernel)) ggL_law_X3_end
