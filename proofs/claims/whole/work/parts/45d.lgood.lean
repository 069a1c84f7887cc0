set_option maxRecDepth 20000 in
theorem ggL_law_X3_verify : GoodIn wsL_law wsX3_verify := goodIn_r _ [338, 78, 183, 149, 150, 151, 5, 152, 77, 251, 252, 253, 254, 55, 188, 205, 206, 207, 208, 255, 256, 257, 258, 146, 147, 148, 189, 190, 191, 192, 193, 194, 195, 196, 197, 198, 388, 389, 390, 391, 392, 393, 394, 395, 396, 397, 398, 399, 400, 401, 402, 403, 404] (by decide +kernel) (by decide +kernel)
set_option maxRecDepth 20000 in
theorem gL_law_X3_verify : GoodIn wsL_law (wsV RL 92 RX3 yX3_verify wsX3_verify) := goodIn_app (goodIn_of _ (by decide +kernel)) ggL_law_X3_verify
set_option maxRecDepth 20000 in
theorem ggL_law_L_extract : GoodIn wsL_law wsL_extract := goodIn_of _ (by decide +kernel)
set_option maxRecDepth 20000 in
theorem gL_law_L_extract : GoodIn wsL_law (va_wsS RL 93 yL_extract wsL_extract) := goodIn_app (goodIn_of _ (by decide +kernel)) ggL_law_L_extract
set_option maxRecDepth 20000 in
theorem ggL_law_X3_extract : GoodIn wsL_law wsX3_extract := goodIn_r _ [354, 78, 56, 57, 58, 188, 324, 325, 326, 5, 327, 145, 146, 147, 148, 149, 150, 151, 152, 77, 189, 190, 191, 192, 193, 194, 195, 196, 197, 198, 388, 389, 390, 391, 392, 393, 394, 395, 396, 397, 398, 399, 400, 401, 402, 403, 404] (by decide +kernel) (by decide +kernel)
set_option maxRecDepth 20000 in
theorem gL_law_X3_extract : GoodIn wsL_law (wsV RL 95 RX3 yX3_extract wsX3_extract) := goodIn_app (goodIn_of _ (by decide +kernel)) ggL_law_X3_extract
set_option maxRecDepth 20000 in
theorem ggL_law_L_look : GoodIn wsL_law wsL_look := goodIn_of _ (by decide +kernel)
set_option maxRecDepth 20000 in
theorem gL_law_L_look : GoodIn wsL_law (va_wsS RL 96 yL_look wsL_look) := goodIn_app (goodIn_of _ (by decide +kernel)) ggL_law_L_look
set_option maxRecDepth 20000 in
theorem ggL_law_X3_look : GoodIn wsL_law wsX3_look := goodIn_r _ [366, 78, 56, 57, 183, 324, 325, 326, 5, 327, 145, 146, 147, 148, 149, 150, 151, 152, 77, 388, 389, 390, 391, 392, 393, 394, 395, 396, 397, 398, 399, 400, 401, 402, 403, 404] (by decide +kernel) (by decide +kernel)
set_option maxRecDepth 20000 in
theorem gL_law_X3_look : GoodIn wsL_law (wsV RL 98 RX3 yX3_look wsX3_look) := goodIn_app (goodIn_of _ (by decide +kernel)) ggL_law_X3_look
set_option maxRecDepth 20000 in
theorem ggL_law_X2_count : GoodIn wsL_law wsX2_count := goodIn_r _ [370, 24, 67, 91, 164, 68, 225, 169, 101, 102, 103, 2, 104, 21, 22, 19, 23, 375, 376, 377, 378, 379, 380, 381, 382, 383, 384, 385, 386, 387] (by decide +kernel) (by decide +kernel)
set_option maxRecDepth 20000 in
theorem gL_law_X2_count : GoodIn wsL_law (wsV RL 99 RX2 yX2_count wsX2_count) := goodIn_app (goodIn_of _ (by decide +kernel)) ggL_law_X2_count
set_option maxRecDepth 20000 in
theorem ggL_law_X3_count : GoodIn wsL_law wsX3_count := goodIn_r _ [374, 77, 62, 78, 145, 183, 79, 250, 204, 388, 389, 390, 391, 392, 393, 394, 395, 396, 397, 398, 399, 400, 401, 402, 403, 404] (by decide +kernel) (by decide +kernel)
set_option maxRecDepth 20000 in
theorem gL_law_X3_count : GoodIn wsL_law (wsV RL 103 RX3 yX3_count wsX3_count) := goodIn_app (goodIn_of _ (by decide +kernel)) ggL_law_X3_count
