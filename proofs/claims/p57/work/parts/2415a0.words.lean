set_option maxRecDepth 20000 in
theorem ggL_isGraphRight_X7_siteCount : GoodIn wsL_isGraphRight wsX7_siteCount := goodIn_r _ [12, 13, 372, 373, 374, 375, 376, 377, 378, 379, 380, 381, 382, 383, 384, 385, 386, 387, 388, 389, 390, 391, 392, 393, 394, 395, 396, 397] (by decide +kernel) (by decide +kernel)
set_option maxRecDepth 20000 in
theorem gL_isGraphRight_X7_siteCount : GoodIn wsL_isGraphRight (wsV RL 128 RX7 yX7_siteCount wsX7_siteCount) := goodIn_app (goodIn_of _ (by decide +kernel)) ggL_isGraphRight_X7_siteCount
set_option maxRecDepth 20000 in
theorem ggL_isGraphRight_X7_isBuilt : GoodIn wsL_isGraphRight wsX7_isBuilt := goodIn_ca (goodIn_ca (goodIn_r _ [17, 13, 18, 19, 20, 11, 21, 22, 23, 24, 25, 26, 27, 28, 29, 30, 31, 32, 33, 34, 372, 373, 374, 375, 376, 377, 378, 379, 380, 381, 382, 383, 384, 385, 386, 387, 388, 389, 390, 391, 392, 393, 394, 395, 396, 397] (by decide +kernel) (by decide +kernel)) (goodIn_sub (fun _ h => List.mem_cons_of_mem _ (List.mem_append_left _ (List.mem_append_left _ (List.mem_append_left _ (List.mem_append_left _ (List.mem_append_right _ h)))))) (by decide +kernel))) (goodIn_sub (fun _ h => List.mem_cons_of_mem _ (List.mem_append_left _ (List.mem_append_left _ (List.mem_append_left _ (List.mem_append_left _ (List.mem_append_left _ (List.mem_append_right _ h))))))) (by decide +kernel))
set_option maxRecDepth 20000 in
theorem gL_isGraphRight_X7_isBuilt : GoodIn wsL_isGraphRight (wsV RL 159 RX7 yX7_isBuilt wsX7_isBuilt) := goodIn_app (goodIn_of _ (by decide +kernel)) ggL_isGraphRight_X7_isBuilt
