set_option maxRecDepth 20000 in
theorem ggL_law_X2_poke : GoodIn wsL_law wsX2_poke := goodIn_of _ (by decide +kernel)
set_option maxRecDepth 20000 in
theorem gL_law_X2_poke : GoodIn wsL_law (wsV RL 78 RX2 yX2_poke wsX2_poke) := goodIn_app (goodIn_of _ (by decide +kernel)) ggL_law_X2_poke
set_option maxRecDepth 20000 in
theorem ggL_law_X3_poke : GoodIn wsL_law wsX3_poke := goodIn_of _ (by decide +kernel)
set_option maxRecDepth 20000 in
theorem gL_law_X3_poke : GoodIn wsL_law (wsV RL 82 RX3 yX3_poke wsX3_poke) := goodIn_app (goodIn_of _ (by decide +kernel)) ggL_law_X3_poke
set_option maxRecDepth 20000 in
theorem ggL_law_L_disk : GoodIn wsL_law wsL_disk := goodIn_of _ (by decide +kernel)
set_option maxRecDepth 20000 in
theorem gL_law_L_disk : GoodIn wsL_law (va_wsS RL 83 yL_disk wsL_disk) := goodIn_app (goodIn_of _ (by decide +kernel)) ggL_law_L_disk
set_option maxRecDepth 20000 in
theorem ggL_law_X3_disk : GoodIn wsL_law wsX3_disk := goodIn_of _ (by decide +kernel)
set_option maxRecDepth 20000 in
theorem gL_law_X3_disk : GoodIn wsL_law (wsV RL 86 RX3 yX3_disk wsX3_disk) := goodIn_app (goodIn_of _ (by decide +kernel)) ggL_law_X3_disk
set_option maxRecDepth 20000 in
theorem ggL_law_L_at : GoodIn wsL_law wsL_at := goodIn_of _ (by decide +kernel)
set_option maxRecDepth 20000 in
theorem gL_law_L_at : GoodIn wsL_law (va_wsS RL 87 yL_at wsL_at) := goodIn_app (goodIn_of _ (by decide +kernel)) ggL_law_L_at
set_option maxRecDepth 20000 in
theorem ggL_law_X3_at : GoodIn wsL_law wsX3_at := goodIn_of _ (by decide +kernel)
set_option maxRecDepth 20000 in
theorem gL_law_X3_at : GoodIn wsL_law (wsV RL 89 RX3 yX3_at wsX3_at) := goodIn_app (goodIn_of _ (by decide +kernel)) ggL_law_X3_at
set_option maxRecDepth 20000 in
theorem ggL_law_L_verify : GoodIn wsL_law wsL_verify := goodIn_of _ (by decide +kernel)
set_option maxRecDepth 20000 in
theorem gL_law_L_verify : GoodIn wsL_law (va_wsS RL 90 yL_verify wsL_verify) := goodIn_app (goodIn_of _ (by decide +kernel)) ggL_law_L_verify
