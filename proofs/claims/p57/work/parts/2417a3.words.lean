set_option maxRecDepth 20000 in
theorem ggL_isForestRight_X7_forestLength : GoodIn wsL_isForestRight wsX7_forestLength := goodIn_ca (goodIn_r _ [48, 49, 7, 50, 51, 52, 53, 54, 55, 56, 57, 58, 59, 60, 25, 26, 21, 27, 28, 61, 62, 63, 64, 65, 66, 67, 68, 82, 83, 84, 85, 86, 87, 88, 89, 90, 91, 92, 93, 94, 95, 96, 97, 98, 99, 100, 101, 102, 103, 104, 105, 106, 107, 108, 109, 110] (by decide +kernel) (by decide +kernel)) (goodIn_sub (fun _ h => List.mem_cons_of_mem _ (List.mem_append_left _ (List.mem_append_right _ h))) (by decide +kernel))
set_option maxRecDepth 20000 in
theorem gL_isForestRight_X7_forestLength : GoodIn wsL_isForestRight (wsV RL 184 RX7 yX7_forestLength wsX7_forestLength) := goodIn_app (goodIn_of _ (by decide +kernel)) ggL_isForestRight_X7_forestLength
set_option maxRecDepth 20000 in
theorem ggL_isForestRight_X7_forestLengthByPrim : GoodIn wsL_isForestRight wsX7_forestLengthByPrim := goodIn_ca (goodIn_r _ [72, 7, 73, 74, 53, 75, 76, 77, 78, 60, 25, 26, 21, 27, 28, 79, 80, 81, 82, 83, 84, 85, 86, 87, 88, 89, 90, 91, 92, 93, 94, 95, 96, 97, 98, 99, 100, 101, 102, 103, 104, 105, 106, 107] (by decide +kernel) (by decide +kernel)) (goodIn_sub (fun _ h => List.mem_cons_of_mem _ (List.mem_append_left _ (List.mem_append_right _ h))) (by decide +kernel))
set_option maxRecDepth 20000 in
theorem gL_isForestRight_X7_forestLengthByPrim : GoodIn wsL_isForestRight (wsV RL 187 RX7 yX7_forestLengthByPrim wsX7_forestLengthByPrim) := goodIn_app (goodIn_of _ (by decide +kernel)) ggL_isForestRight_X7_forestLengthByPrim
