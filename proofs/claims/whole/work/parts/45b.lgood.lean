set_option maxRecDepth 20000 in
theorem ggL_law_X3_thrown : GoodIn wsL_law wsX3_thrown := goodIn_r _ [156, 77, 388, 389, 390, 391, 392, 393, 394, 395, 396, 397, 398, 399, 400, 401, 402, 403, 404] (by decide +kernel) (by decide +kernel)
set_option maxRecDepth 20000 in
theorem gL_law_X3_thrown : GoodIn wsL_law (wsV RL 62 RX3 yX3_thrown wsX3_thrown) := goodIn_app (goodIn_of _ (by decide +kernel)) ggL_law_X3_thrown
set_option maxRecDepth 20000 in
theorem ggL_law_L_sync : GoodIn wsL_law wsL_sync := goodIn_ca (goodIn_r _ [159, 84, 160, 161, 162, 2, 163, 164, 91, 28, 29, 95, 96, 97, 98, 99, 100, 67, 165, 166, 167, 168, 169, 35, 30, 170, 171, 172, 173, 27, 174, 41, 109, 110, 111, 118, 119, 120, 33, 121, 48, 117, 70, 71, 72, 175, 176, 177, 178, 68, 375, 376, 377, 378, 379, 380, 381, 382, 383, 384, 385, 386, 387, 405, 406] (by decide +kernel) (by decide +kernel)) (goodIn_sub (fun _ h => List.mem_append_left _ (List.mem_append_right _ h)) (by decide +kernel))
set_option maxRecDepth 20000 in
theorem gL_law_L_sync : GoodIn wsL_law (va_wsS RL 65 yL_sync wsL_sync) := goodIn_app (goodIn_of _ (by decide +kernel)) ggL_law_L_sync
set_option maxRecDepth 20000 in
theorem ggL_law_X3_sync : GoodIn wsL_law wsX3_sync := goodIn_r _ [182, 78, 183, 145, 149, 150, 151, 5, 152, 77, 184, 185, 186, 187, 61, 56, 57, 58, 188, 189, 190, 191, 192, 193, 194, 195, 196, 197, 198, 199, 200, 201, 202, 60, 203, 55, 204, 205, 206, 207, 208, 209, 210, 211, 212, 79, 388, 389, 390, 391, 392, 393, 394, 395, 396, 397, 398, 399, 400, 401, 402, 403, 404] (by decide +kernel) (by decide +kernel)
set_option maxRecDepth 20000 in
theorem gL_law_X3_sync : GoodIn wsL_law (wsV RL 68 RX3 yX3_sync wsX3_sync) := goodIn_app (goodIn_of _ (by decide +kernel)) ggL_law_X3_sync
set_option maxRecDepth 20000 in
theorem ggL_law_X2_cut : GoodIn wsL_law wsX2_cut := goodIn_r _ [216, 67, 35, 170, 375, 376, 377, 378, 379, 380, 381, 382, 383, 384, 385, 386, 387] (by decide +kernel) (by decide +kernel)
set_option maxRecDepth 20000 in
theorem gL_law_X2_cut : GoodIn wsL_law (wsV RL 69 RX2 yX2_cut wsX2_cut) := goodIn_app (goodIn_of _ (by decide +kernel)) ggL_law_X2_cut
set_option maxRecDepth 20000 in
theorem ggL_law_X3_cut : GoodIn wsL_law wsX3_cut := goodIn_r _ [220, 77, 78, 60, 203, 146, 147, 5, 148, 388, 389, 390, 391, 392, 393, 394, 395, 396, 397, 398, 399, 400, 401, 402, 403, 404] (by decide +kernel) (by decide +kernel)
set_option maxRecDepth 20000 in
theorem gL_law_X3_cut : GoodIn wsL_law (wsV RL 73 RX3 yX3_cut wsX3_cut) := goodIn_app (goodIn_of _ (by decide +kernel)) ggL_law_X3_cut
set_option maxRecDepth 20000 in
theorem ggL_law_X2_start : GoodIn wsL_law wsX2_start := goodIn_r _ [224, 225, 91, 24, 164, 67, 226, 227, 228, 2, 229, 28, 29, 30, 230, 231, 232, 27, 233, 41, 109, 110, 111, 234, 235, 236, 33, 237, 140, 119, 120, 121, 48, 238, 239, 240, 241, 118, 93, 94, 126, 127, 128, 129, 122, 123, 124, 125, 130, 131, 132, 133, 134, 135, 136, 137, 138, 139, 242, 243, 244, 245, 171, 172, 173, 174, 117, 70, 71, 72, 375, 376, 377, 378, 379, 380, 381, 382, 383, 384, 385, 386, 387, 405, 406] (by decide +kernel) (by decide +kernel)
set_option maxRecDepth 20000 in
theorem gL_law_X2_start : GoodIn wsL_law (wsV RL 74 RX2 yX2_start wsX2_start) := goodIn_app (goodIn_of _ (by decide +kernel)) ggL_law_X2_start
set_option maxRecDepth 20000 in
theorem ggL_law_X3_start : GoodIn wsL_law wsX3_start := goodIn_r _ [249, 77, 78, 145, 250, 62, 183, 251, 252, 253, 5, 254, 55, 188, 205, 206, 207, 208, 255, 256, 257, 258, 146, 147, 148, 189, 190, 191, 192, 193, 194, 195, 196, 197, 198, 259, 260, 261, 262, 56, 57, 58, 263, 264, 265, 266, 388, 389, 390, 391, 392, 393, 394, 395, 396, 397, 398, 399, 400, 401, 402, 403, 404] (by decide +kernel) (by decide +kernel)
set_option maxRecDepth 20000 in
theorem gL_law_X3_start : GoodIn wsL_law (wsV RL 77 RX3 yX3_start wsX3_start) := goodIn_app (goodIn_of _ (by decide +kernel)) ggL_law_X3_start
