set_option maxRecDepth 20000 in
theorem ggL_areSitesRight_J4_toString_0e30d : GoodIn wsL_areSitesRight wsJ4_toString_0e30d := goodIn_r _ [518, 519, 520, 429, 521, 522, 523, 524, 525, 526, 527, 342, 343, 472, 466, 471, 528, 529, 530, 531, 532, 339, 533, 346, 534, 535, 536, 537, 538, 3, 539, 540, 366, 541, 542, 369, 543, 408, 409, 410, 411, 344, 347, 544, 545, 40, 546, 396, 397, 398, 399, 400, 401, 547, 548, 549, 345, 402, 54, 55, 56, 403, 404, 405, 406, 550, 551, 552, 553, 2, 554, 555, 350, 556, 557, 558, 559, 496, 497, 498, 424, 425, 426, 499, 500, 501, 431, 502, 503, 434, 504, 560, 561, 562, 420, 444, 445, 352, 353, 354, 355, 563, 564, 565, 566, 736, 737, 738, 739, 703, 704, 705, 706] (by decide +kernel) (by decide +kernel)
set_option maxRecDepth 20000 in
theorem gL_areSitesRight_J4_toString_0e30d : GoodIn wsL_areSitesRight (wsV RL 236 RJ4 yJ4_toString_0e30d wsJ4_toString_0e30d) := goodIn_app (goodIn_r _ [515, 516, 517, 3] (by decide +kernel) (by decide +kernel)) ggL_areSitesRight_J4_toString_0e30d
set_option maxRecDepth 20000 in
theorem ggL_areSitesRight_X7_playerCount : GoodIn wsL_areSitesRight wsX7_playerCount := goodIn_r _ [570, 9, 707, 708, 709, 710, 711, 712, 713, 714, 715, 716, 717, 718, 719, 720, 721, 722, 723, 724, 725, 726, 727, 728, 729, 730, 731, 732] (by decide +kernel) (by decide +kernel)
set_option maxRecDepth 20000 in
theorem gL_areSitesRight_X7_playerCount : GoodIn wsL_areSitesRight (wsV RL 120 RX7 yX7_playerCount wsX7_playerCount) := goodIn_app (goodIn_r _ [567, 568, 569, 7] (by decide +kernel) (by decide +kernel)) ggL_areSitesRight_X7_playerCount
