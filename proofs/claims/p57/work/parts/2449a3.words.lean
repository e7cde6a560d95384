set_option maxRecDepth 20000 in
theorem ggL_areSitesRight_J4_init_da8c8 : GoodIn wsL_areSitesRight wsJ4_init_da8c8 := goodIn_r _ [336, 337, 338, 339, 340, 341, 342, 343, 344, 345, 346, 347, 348, 349, 350, 351, 352, 353, 354, 355, 703, 704, 705, 706] (by decide +kernel) (by decide +kernel)
set_option maxRecDepth 20000 in
theorem gL_areSitesRight_J4_init_da8c8 : GoodIn wsL_areSitesRight (wsJ4_init_da8c8) := ggL_areSitesRight_J4_init_da8c8
set_option maxRecDepth 20000 in
theorem ggL_areSitesRight_X7_lowerIsland : GoodIn wsL_areSitesRight wsX7_lowerIsland := goodIn_ca (goodIn_ca (goodIn_r _ [359, 9, 91, 92, 93, 7, 94, 26, 27, 95, 96, 97, 30, 98, 99, 707, 708, 709, 710, 711, 712, 713, 714, 715, 716, 717, 718, 719, 720, 721, 722, 723, 724, 725, 726, 727, 728, 729, 730, 731, 732] (by decide +kernel) (by decide +kernel)) (goodIn_sub (fun _ h => List.mem_cons_of_mem _ (List.mem_append_left _ (List.mem_append_left _ (List.mem_append_left _ (List.mem_append_left _ (List.mem_append_left _ (List.mem_append_left _ (List.mem_append_right _ h)))))))) (by decide +kernel))) (goodIn_sub (fun _ h => List.mem_cons_of_mem _ (List.mem_append_left _ (List.mem_append_left _ (List.mem_append_left _ (List.mem_append_left _ (List.mem_append_left _ (List.mem_append_right _ h))))))) (by decide +kernel))
set_option maxRecDepth 20000 in
theorem gL_areSitesRight_X7_lowerIsland : GoodIn wsL_areSitesRight (wsV RL 162 RX7 yX7_lowerIsland wsX7_lowerIsland) := goodIn_app (goodIn_r _ [356, 357, 358, 7] (by decide +kernel) (by decide +kernel)) ggL_areSitesRight_X7_lowerIsland
