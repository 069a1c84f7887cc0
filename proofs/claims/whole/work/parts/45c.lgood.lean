set_option maxRecDepth 20000 in
theorem ggL_law_X2_poke : GoodIn wsL_law wsX2_poke := goodIn_r _ [270, 271, 272, 2, 273, 274, 275, 276, 277, 24, 278, 279, 280, 281, 28, 29, 282, 119, 120, 33, 121, 48, 69, 70, 71, 72, 405, 375, 376, 377, 378, 379, 380, 381, 382, 383, 384, 385, 386, 387, 406] (by decide +kernel) (by decide +kernel)
set_option maxRecDepth 20000 in
theorem gL_law_X2_poke : GoodIn wsL_law (wsV RL 78 RX2 yX2_poke wsX2_poke) := goodIn_app (goodIn_of _ (by decide +kernel)) ggL_law_X2_poke
set_option maxRecDepth 20000 in
theorem ggL_law_X3_poke : GoodIn wsL_law wsX3_poke := goodIn_r _ [286, 77, 62, 55, 146, 147, 5, 148, 388, 389, 390, 391, 392, 393, 394, 395, 396, 397, 398, 399, 400, 401, 402, 403, 404] (by decide +kernel) (by decide +kernel)
set_option maxRecDepth 20000 in
theorem gL_law_X3_poke : GoodIn wsL_law (wsV RL 82 RX3 yX3_poke wsX3_poke) := goodIn_app (goodIn_of _ (by decide +kernel)) ggL_law_X3_poke
set_option maxRecDepth 20000 in
theorem ggL_law_L_disk : GoodIn wsL_law wsL_disk := goodIn_of _ (by decide +kernel)
set_option maxRecDepth 20000 in
theorem gL_law_L_disk : GoodIn wsL_law (va_wsS RL 83 yL_disk wsL_disk) := goodIn_app (goodIn_of _ (by decide +kernel)) ggL_law_L_disk
set_option maxRecDepth 20000 in
theorem ggL_law_X3_disk : GoodIn wsL_law wsX3_disk := goodIn_r _ [300, 62, 55, 146, 147, 5, 148, 149, 150, 151, 152, 77, 388, 389, 390, 391, 392, 393, 394, 395, 396, 397, 398, 399, 400, 401, 402, 403, 404] (by decide +kernel) (by decide +kernel)
set_option maxRecDepth 20000 in
theorem gL_law_X3_disk : GoodIn wsL_law (wsV RL 86 RX3 yX3_disk wsX3_disk) := goodIn_app (goodIn_of _ (by decide +kernel)) ggL_law_X3_disk
set_option maxRecDepth 20000 in
theorem ggL_law_L_at : GoodIn wsL_law wsL_at := goodIn_of _ (by decide +kernel)
set_option maxRecDepth 20000 in
theorem gL_law_L_at : GoodIn wsL_law (va_wsS RL 87 yL_at wsL_at) := goodIn_app (goodIn_of _ (by decide +kernel)) ggL_law_L_at
set_option maxRecDepth 20000 in
theorem ggL_law_X3_at : GoodIn wsL_law wsX3_at := goodIn_r _ [323, 78, 57, 58, 324, 325, 326, 5, 327, 145, 146, 147, 148, 149, 150, 151, 152, 77, 388, 389, 390, 391, 392, 393, 394, 395, 396, 397, 398, 399, 400, 401, 402, 403, 404] (by decide +kernel) (by decide +kernel)
set_option maxRecDepth 20000 in
theorem gL_law_X3_at : GoodIn wsL_law (wsV RL 89 RX3 yX3_at wsX3_at) := goodIn_app (goodIn_of _ (by decide +kernel)) ggL_law_X3_at
set_option maxRecDepth 20000 in
theorem ggL_law_L_verify : GoodIn wsL_law wsL_verify := goodIn_ca (goodIn_r _ [330, 84, 331, 332, 333, 2, 334, 164, 28, 29, 95, 96, 97, 98, 99, 100, 67, 230, 231, 232, 27, 233, 41, 109, 110, 111, 234, 235, 236, 33, 237, 140, 119, 120, 121, 48, 238, 239, 240, 241, 118, 93, 94, 126, 127, 128, 129, 122, 123, 124, 125, 130, 131, 132, 133, 134, 135, 136, 137, 138, 139, 375, 376, 377, 378, 379, 380, 381, 382, 383, 384, 385, 386, 387, 405, 406] (by decide +kernel) (by decide +kernel)) (goodIn_sub (fun _ h => List.mem_append_left _ (List.mem_append_right _ h)) (by decide +kernel))
set_option maxRecDepth 20000 in
theorem gL_law_L_verify : GoodIn wsL_law (va_wsS RL 90 yL_verify wsL_verify) := goodIn_app (goodIn_of _ (by decide +kernel)) ggL_law_L_verify
