set_option maxRecDepth 20000 in
theorem ggL_end_X2_end : GoodIn wsL_end wsX2_end := goodIn_ca (goodIn_ca (goodIn_r _ [7, 8, 9, 10, 11, 12, 13, 14, 15, 6, 16, 17, 18, 19, 20, 21, 22, 23, 24, 25, 26, 27, 28, 29, 30, 31, 32, 33, 34, 35, 36, 37, 38, 39, 40, 41, 42, 43, 44, 45, 46, 47, 48, 49, 50, 51, 52, 53, 54, 55, 56, 57, 58, 59, 60, 61, 62, 63, 64, 65, 66, 67, 68, 69, 70, 71, 72, 73, 74, 75, 76, 77, 78, 79, 80, 81, 82, 83, 84, 85, 86, 87, 88, 89, 90] (by decide +kernel) (by decide +kernel)) (goodIn_sub (fun _ h => List.mem_cons_of_mem _ (List.mem_append_left _ (List.mem_append_right _ h))) (by decide +kernel))) (goodIn_sub (fun _ h => List.mem_cons_of_mem _ (List.mem_append_right _ h)) (by decide +kernel))
set_option maxRecDepth 20000 in
theorem gL_end_X2_end : GoodIn wsL_end (wsV RL 7 RX2 yX2_end wsX2_end) := goodIn_app (goodIn_of _ (by decide +kernel)) ggL_end_X2_end
set_option maxRecDepth 20000 in
theorem ggL_sync_X2_sync : GoodIn wsL_sync wsX2_sync := goodIn_ca (goodIn_r _ [6, 7, 8, 9, 10, 11, 12, 13, 5, 14, 15, 16, 17, 18, 19, 20, 21, 22, 23, 24, 25, 26, 27, 28, 29, 30, 31, 32, 33, 34, 35, 36, 37, 38, 39, 40, 41, 42, 43, 44, 45, 46, 47, 48, 49, 50, 51, 52, 53, 54, 55, 56, 57, 58, 59, 60, 61, 62, 63, 64] (by decide +kernel) (by decide +kernel)) (goodIn_sub (fun _ h => List.mem_cons_of_mem _ (List.mem_append_right _ h)) (by decide +kernel))
set_option maxRecDepth 20000 in
theorem gL_sync_X2_sync : GoodIn wsL_sync (wsV RL 17 RX2 yX2_sync wsX2_sync) := goodIn_app (goodIn_of _ (by decide +kernel)) ggL_sync_X2_sync
set_option maxRecDepth 20000 in
theorem ggL_disk_X2_disk : GoodIn wsL_disk wsX2_disk := goodIn_of _ (by decide +kernel)
set_option maxRecDepth 20000 in
theorem gL_disk_X2_disk : GoodIn wsL_disk (wsV RL 21 RX2 yX2_disk wsX2_disk) := goodIn_app (goodIn_of _ (by decide +kernel)) ggL_disk_X2_disk
set_option maxRecDepth 20000 in
theorem ggL_at_X2_at : GoodIn wsL_at wsX2_at := goodIn_of _ (by decide +kernel)
set_option maxRecDepth 20000 in
theorem gL_at_X2_at : GoodIn wsL_at (wsV RL 27 RX2 yX2_at wsX2_at) := goodIn_app (goodIn_of _ (by decide +kernel)) ggL_at_X2_at
set_option maxRecDepth 20000 in
theorem ggL_verify_X2_verify : GoodIn wsL_verify wsX2_verify := goodIn_ca (goodIn_r _ [6, 7, 8, 9, 10, 11, 12, 5, 13, 14, 15, 16, 17, 18, 19, 20, 21, 22, 23, 24, 25, 26, 27, 28, 29, 30, 31, 32, 33, 34, 35, 36, 37, 38, 39, 40, 41, 42, 43, 44, 45, 46, 47, 48, 49, 50, 51, 52, 53, 54, 55, 56, 57, 58, 59, 60, 61, 62, 63, 64, 65, 66, 67, 68, 69, 70, 71, 72, 73, 74, 75] (by decide +kernel) (by decide +kernel)) (goodIn_sub (fun _ h => List.mem_cons_of_mem _ (List.mem_append_right _ h)) (by decide +kernel))
set_option maxRecDepth 20000 in
theorem gL_verify_X2_verify : GoodIn wsL_verify (wsV RL 32 RX2 yX2_verify wsX2_verify) := goodIn_app (goodIn_of _ (by decide +kernel)) ggL_verify_X2_verify
set_option maxRecDepth 20000 in
theorem ggL_extract_X2_extract : GoodIn wsL_extract wsX2_extract := goodIn_of _ (by decide +kernel)
set_option maxRecDepth 20000 in
theorem gL_extract_X2_extract : GoodIn wsL_extract (wsV RL 35 RX2 yX2_extract wsX2_extract) := goodIn_app (goodIn_of _ (by decide +kernel)) ggL_extract_X2_extract
set_option maxRecDepth 20000 in
theorem ggL_look_X2_look : GoodIn wsL_look wsX2_look := goodIn_of _ (by decide +kernel)
set_option maxRecDepth 20000 in
theorem gL_look_X2_look : GoodIn wsL_look (wsV RL 38 RX2 yX2_look wsX2_look) := goodIn_app (goodIn_of _ (by decide +kernel)) ggL_look_X2_look
