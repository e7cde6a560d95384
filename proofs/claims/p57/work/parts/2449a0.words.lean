theorem hin_aSR : ∀ w ∈ u_ws RJ4 TJ4 4, w ∈ wsL_areSitesRight := by decide +kernel
set_option maxRecDepth 20000 in
theorem ggL_areSitesRight_X7_siteCount : GoodIn wsL_areSitesRight wsX7_siteCount := goodIn_r _ [8, 9, 707, 708, 709, 710, 711, 712, 713, 714, 715, 716, 717, 718, 719, 720, 721, 722, 723, 724, 725, 726, 727, 728, 729, 730, 731, 732] (by decide +kernel) (by decide +kernel)
set_option maxRecDepth 20000 in
theorem gL_areSitesRight_X7_siteCount : GoodIn wsL_areSitesRight (wsV RL 128 RX7 yX7_siteCount wsX7_siteCount) := goodIn_app (goodIn_r _ [4, 5, 6, 7] (by decide +kernel) (by decide +kernel)) ggL_areSitesRight_X7_siteCount
