set_option maxRecDepth 20000 in
theorem gk_isGraphRight_4 : GoodIn wsL_law (List.drop 100 (List.drop 100 (List.drop 100 (List.drop 100 (wA_isGraphRight))))) := goodIn_c _ [(46, 2)] (by decide +kernel) (by decide +kernel)
theorem gk_isGraphRight : GoodIn wsL_law wA_isGraphRight := gd_cut 100 gk_isGraphRight_0 (gd_cut 100 gk_isGraphRight_1 (gd_cut 100 gk_isGraphRight_2 (gd_cut 100 gk_isGraphRight_3 gk_isGraphRight_4)))
