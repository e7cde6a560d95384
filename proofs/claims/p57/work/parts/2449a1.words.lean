set_option maxRecDepth 20000 in
theorem ggL_areSitesRight_X7_length : GoodIn wsL_areSitesRight wsX7_length := goodIn_ca (goodIn_ca (goodIn_r _ [315, 9, 91, 92, 93, 7, 94, 26, 27, 95, 96, 97, 30, 98, 99, 707, 708, 709, 710, 711, 712, 713, 714, 715, 716, 717, 718, 719, 720, 721, 722, 723, 724, 725, 726, 727, 728, 729, 730, 731, 732] (by decide +kernel) (by decide +kernel)) (goodIn_sub (fun _ h => List.mem_cons_of_mem _ (List.mem_append_left _ (List.mem_append_left _ (List.mem_append_left _ (List.mem_append_left _ (List.mem_append_left _ (List.mem_append_left _ (List.mem_append_right _ h)))))))) (by decide +kernel))) (goodIn_sub (fun _ h => List.mem_cons_of_mem _ (List.mem_append_left _ (List.mem_append_left _ (List.mem_append_left _ (List.mem_append_left _ (List.mem_append_left _ (List.mem_append_right _ h))))))) (by decide +kernel))
set_option maxRecDepth 20000 in
theorem gL_areSitesRight_X7_length : GoodIn wsL_areSitesRight (wsV RL 103 RX7 yX7_length wsX7_length) := goodIn_app (goodIn_of _ (by decide +kernel)) ggL_areSitesRight_X7_length
set_option maxRecDepth 20000 in
theorem ggL_areSitesRight_X7_tide : GoodIn wsL_areSitesRight wsX7_tide := goodIn_r _ [323, 9, 707, 708, 709, 710, 711, 712, 713, 714, 715, 716, 717, 718, 719, 720, 721, 722, 723, 724, 725, 726, 727, 728, 729, 730, 731, 732] (by decide +kernel) (by decide +kernel)
set_option maxRecDepth 20000 in
theorem gL_areSitesRight_X7_tide : GoodIn wsL_areSitesRight (wsV RL 134 RX7 yX7_tide wsX7_tide) := goodIn_app (goodIn_of _ (by decide +kernel)) ggL_areSitesRight_X7_tide
