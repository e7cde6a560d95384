set_option maxRecDepth 20000 in
theorem ggL_law_X7_bankMoney : GoodIn wsL_law wsX7_bankMoney := goodIn_c _ [(19, 3), (0, 12), (44, 0), (44, 1), (44, 2), (44, 3), (44, 4), (44, 5), (44, 6), (44, 7), (44, 8), (44, 9), (45, 0), (45, 1), (45, 2), (45, 3), (45, 4), (45, 5), (45, 6), (45, 7), (45, 8), (45, 9), (45, 10), (45, 11), (45, 12), (45, 13), (45, 14), (45, 15)] (by decide +kernel) (by decide +kernel)
set_option maxRecDepth 20000 in
theorem gL_law_X7_bankMoney : GoodIn wsL_law (wsV RL 137 RX7 yX7_bankMoney wsX7_bankMoney) := goodIn_app (goodIn_c _ [(19, 0), (19, 1), (19, 2), (0, 2)] (by decide +kernel) (by decide +kernel)) ggL_law_X7_bankMoney
set_option maxRecDepth 20000 in
theorem ggL_law_X7_playerCount : GoodIn wsL_law wsX7_playerCount := goodIn_c _ [(19, 7), (0, 12), (44, 0), (44, 1), (44, 2), (44, 3), (44, 4), (44, 5), (44, 6), (44, 7), (44, 8), (44, 9), (45, 0), (45, 1), (45, 2), (45, 3), (45, 4), (45, 5), (45, 6), (45, 7), (45, 8), (45, 9), (45, 10), (45, 11), (45, 12), (45, 13), (45, 14), (45, 15)] (by decide +kernel) (by decide +kernel)
set_option maxRecDepth 20000 in
theorem gL_law_X7_playerCount : GoodIn wsL_law (wsV RL 120 RX7 yX7_playerCount wsX7_playerCount) := goodIn_app (goodIn_c _ [(19, 4), (19, 5), (19, 6), (0, 2)] (by decide +kernel) (by decide +kernel)) ggL_law_X7_playerCount
