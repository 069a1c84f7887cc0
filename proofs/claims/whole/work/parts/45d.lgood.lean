set_option maxRecDepth 20000 in
theorem ggL_law_X3_verify : GoodIn wsL_law wsX3_verify := goodIn_of _ (by decide +kernel)
set_option maxRecDepth 20000 in
theorem gL_law_X3_verify : GoodIn wsL_law (wsV RL 92 RX3 yX3_verify wsX3_verify) := goodIn_app (goodIn_of _ (by decide +kernel)) ggL_law_X3_verify
set_option maxRecDepth 20000 in
theorem ggL_law_L_extract : GoodIn wsL_law wsL_extract := goodIn_of _ (by decide +kernel)
set_option maxRecDepth 20000 in
theorem gL_law_L_extract : GoodIn wsL_law (va_wsS RL 93 yL_extract wsL_extract) := goodIn_app (goodIn_of _ (by decide +kernel)) ggL_law_L_extract
set_option maxRecDepth 20000 in
theorem ggL_law_X3_extract : GoodIn wsL_law wsX3_extract := goodIn_of _ (by decide +kernel)
set_option maxRecDepth 20000 in
theorem gL_law_X3_extract : GoodIn wsL_law (wsV RL 95 RX3 yX3_extract wsX3_extract) := goodIn_app (goodIn_of _ (by decide +kernel)) ggL_law_X3_extract
set_option maxRecDepth 20000 in
theorem ggL_law_L_look : GoodIn wsL_law wsL_look := goodIn_of _ (by decide +kernel)
set_option maxRecDepth 20000 in
theorem gL_law_L_look : GoodIn wsL_law (va_wsS RL 96 yL_look wsL_look) := goodIn_app (goodIn_of _ (by decide +kernel)) ggL_law_L_look
set_option maxRecDepth 20000 in
theorem ggL_law_X3_look : GoodIn wsL_law wsX3_look := goodIn_of _ (by decide +kernel)
set_option maxRecDepth 20000 in
theorem gL_law_X3_look : GoodIn wsL_law (wsV RL 98 RX3 yX3_look wsX3_look) := goodIn_app (goodIn_of _ (by decide +kernel)) ggL_law_X3_look
set_option maxRecDepth 20000 in
theorem ggL_law_X2_count : GoodIn wsL_law wsX2_count := goodIn_of _ (by decide +kernel)
set_option maxRecDepth 20000 in
theorem gL_law_X2_count : GoodIn wsL_law (wsV RL 99 RX2 yX2_count wsX2_count) := goodIn_app (goodIn_of _ (by decide +kernel)) ggL_law_X2_count
set_option maxRecDepth 20000 in
theorem ggL_law_X3_count : GoodIn wsL_law wsX3_count := goodIn_of _ (by decide +kernel)
set_option maxRecDepth 20000 in
theorem gL_law_X3_count : GoodIn wsL_law (wsV RL 103 RX3 yX3_count wsX3_count) := goodIn_app (goodIn_of _ (by decide +kernel)) ggL_law_X3_count
