set_option maxRecDepth 20000 in
theorem ggL_isForestRight_X7_siteCount : GoodIn wsL_isForestRight wsX7_siteCount := goodIn_r _ [6, 7, 82, 83, 84, 85, 86, 87, 88, 89, 90, 91, 92, 93, 94, 95, 96, 97, 98, 99, 100, 101, 102, 103, 104, 105, 106, 107] (by decide +kernel) (by decide +kernel)
set_option maxRecDepth 20000 in
theorem gL_isForestRight_X7_siteCount : GoodIn wsL_isForestRight (wsV RL 128 RX7 yX7_siteCount wsX7_siteCount) := goodIn_app (goodIn_r _ [2, 3, 4, 5] (by decide +kernel) (by decide +kernel)) ggL_isForestRight_X7_siteCount
set_option maxRecDepth 20000 in
theorem ggL_isForestRight_X7_isBuilt : GoodIn wsL_isForestRight wsX7_isBuilt := goodIn_ca (goodIn_ca (goodIn_r _ [11, 7, 12, 13, 14, 5, 15, 16, 17, 18, 19, 20, 21, 22, 23, 24, 25, 26, 27, 28, 82, 83, 84, 85, 86, 87, 88, 89, 90, 91, 92, 93, 94, 95, 96, 97, 98, 99, 100, 101, 102, 103, 104, 105, 106, 107] (by decide +kernel) (by decide +kernel)) (goodIn_sub (fun _ h => List.mem_cons_of_mem _ (List.mem_append_right _ h)) (by decide +kernel))) (goodIn_sub (fun _ h => List.mem_cons_of_mem _ (List.mem_append_left _ (List.mem_append_right _ h))) (by decide +kernel))
set_option maxRecDepth 20000 in
theorem gL_isForestRight_X7_isBuilt : GoodIn wsL_isForestRight (wsV RL 159 RX7 yX7_isBuilt wsX7_isBuilt) := goodIn_app (goodIn_r _ [8, 9, 10, 5] (by decide +kernel) (by decide +kernel)) ggL_isForestRight_X7_isBuilt
