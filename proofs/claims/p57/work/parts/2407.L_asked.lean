set_option maxRecDepth 20000 in
theorem ggL_asked_X7_distance : GoodIn wsL_asked wsX7_distance := goodIn_ca (goodIn_ca (goodIn_ca (goodIn_r _ [5, 6, 7, 8, 9, 4, 10, 11, 12, 13, 14, 15, 16, 17, 18, 19, 20, 21, 22, 23, 24, 25, 26, 27, 28, 29, 30, 31, 32, 33, 34, 35, 36, 37, 38, 39, 40, 41, 42, 43, 44, 45, 46, 47, 48, 49, 50, 51, 52, 53, 54, 55, 56, 57, 305, 306, 307, 308, 309, 310, 311, 312, 313, 314, 315, 316, 317, 318, 319, 320, 321, 322, 323, 324, 325, 326, 327, 328, 329, 330, 331, 332, 333] (by decide +kernel) (by decide +kernel)) (goodIn_sub (fun _ h => List.mem_cons_of_mem _ (List.mem_append_left _ (List.mem_append_left _ (List.mem_append_left _ (List.mem_append_left _ (List.mem_append_left _ (List.mem_append_right _ h))))))) (by decide +kernel))) (goodIn_sub (fun _ h => List.mem_cons_of_mem _ (List.mem_append_left _ (List.mem_append_left _ (List.mem_append_left _ (List.mem_append_left _ (List.mem_append_right _ h)))))) (by decide +kernel))) (goodIn_sub (fun _ h => List.mem_cons_of_mem _ (List.mem_append_left _ (List.mem_append_left _ (List.mem_append_left _ (List.mem_append_right _ h))))) (by decide +kernel))
set_option maxRecDepth 20000 in
theorem gL_asked_X7_distance : GoodIn wsL_asked (wsV RL 66 RX7 yX7_distance wsX7_distance) := goodIn_app (goodIn_r _ [1, 2, 3, 4] (by decide +kernel) (by decide +kernel)) ggL_asked_X7_distance
set_option maxRecDepth 20000 in
theorem ggL_asked_X7_distanceByRelaxation : GoodIn wsL_asked wsX7_distanceByRelaxation := goodIn_ca (goodIn_ca (goodIn_ca (goodIn_r _ [61, 6, 7, 8, 9, 4, 10, 11, 12, 13, 14, 15, 16, 62, 63, 64, 20, 65, 66, 23, 24, 25, 26, 67, 68, 69, 70, 38, 39, 40, 41, 71, 49, 50, 51, 52, 53, 54, 55, 56, 57, 305, 306, 307, 308, 309, 310, 311, 312, 313, 314, 315, 316, 317, 318, 319, 320, 321, 322, 323, 324, 325, 326, 327, 328, 329, 330, 331, 332, 333] (by decide +kernel) (by decide +kernel)) (goodIn_sub (fun _ h => List.mem_cons_of_mem _ (List.mem_append_left _ (List.mem_append_left _ (List.mem_append_left _ (List.mem_append_left _ (List.mem_append_left _ (List.mem_append_right _ h))))))) (by decide +kernel))) (goodIn_sub (fun _ h => List.mem_cons_of_mem _ (List.mem_append_left _ (List.mem_append_left _ (List.mem_append_left _ (List.mem_append_left _ (List.mem_append_right _ h)))))) (by decide +kernel))) (goodIn_sub (fun _ h => List.mem_cons_of_mem _ (List.mem_append_left _ (List.mem_append_left _ (List.mem_append_left _ (List.mem_append_right _ h))))) (by decide +kernel))
set_option maxRecDepth 20000 in
theorem gL_asked_X7_distanceByRelaxation : GoodIn wsL_asked (wsV RL 69 RX7 yX7_distanceByRelaxation wsX7_distanceByRelaxation) := goodIn_app (goodIn_r _ [58, 59, 60, 4] (by decide +kernel) (by decide +kernel)) ggL_asked_X7_distanceByRelaxation
set_option maxRecDepth 20000 in
theorem ggL_asked_X7_builder : GoodIn wsL_asked wsX7_builder := goodIn_ca (goodIn_ca (goodIn_ca (goodIn_r _ [75, 7, 76, 77, 78, 4, 79, 11, 12, 80, 81, 82, 15, 83, 84, 85, 86, 87, 56, 57, 305, 306, 307, 308, 309, 310, 311, 312, 313, 314, 318, 319, 320, 321, 322, 323, 324, 325, 326, 327, 328, 329, 330, 331, 332, 333] (by decide +kernel) (by decide +kernel)) (goodIn_sub (fun _ h => List.mem_cons_of_mem _ (List.mem_append_left _ (List.mem_append_left _ (List.mem_append_left _ (List.mem_append_left _ (List.mem_append_left _ (List.mem_append_right _ h))))))) (by decide +kernel))) (goodIn_sub (fun _ h => List.mem_cons_of_mem _ (List.mem_append_left _ (List.mem_append_left _ (List.mem_append_left _ (List.mem_append_left _ (List.mem_append_right _ h)))))) (by decide +kernel))) (goodIn_sub (fun _ h => List.mem_cons_of_mem _ (List.mem_append_left _ (List.mem_append_left _ (List.mem_append_left _ (List.mem_append_right _ h))))) (by decide +kernel))
set_option maxRecDepth 20000 in
theorem gL_asked_X7_builder : GoodIn wsL_asked (wsV RL 72 RX7 yX7_builder wsX7_builder) := goodIn_app (goodIn_r _ [72, 73, 74, 4] (by decide +kernel) (by decide +kernel)) ggL_asked_X7_builder
set_option maxRecDepth 20000 in
theorem ggL_asked_X7_bidAmount : GoodIn wsL_asked wsX7_bidAmount := goodIn_ca (goodIn_ca (goodIn_ca (goodIn_r _ [91, 7, 92, 93, 94, 4, 95, 56, 57, 96, 97, 98, 99, 11, 12, 100, 101, 102, 15, 103, 104, 76, 77, 78, 79, 80, 81, 82, 83, 84, 105, 106, 107, 108, 109, 110, 111, 112, 113, 114, 115, 116, 117, 118, 40, 119, 305, 306, 307, 308, 309, 310, 311, 312, 313, 314, 318, 319, 320, 321, 322, 323, 324, 325, 326, 327, 328, 329, 330, 331, 332, 333] (by decide +kernel) (by decide +kernel)) (goodIn_sub (fun _ h => List.mem_cons_of_mem _ (List.mem_append_left _ (List.mem_append_left _ (List.mem_append_left _ (List.mem_append_right _ h))))) (by decide +kernel))) (goodIn_sub (fun _ h => List.mem_cons_of_mem _ (List.mem_append_left _ (List.mem_append_left _ (List.mem_append_left _ (List.mem_append_left _ (List.mem_append_right _ h)))))) (by decide +kernel))) (goodIn_sub (fun _ h => List.mem_cons_of_mem _ (List.mem_append_left _ (List.mem_append_left _ (List.mem_append_left _ (List.mem_append_left _ (List.mem_append_left _ (List.mem_append_right _ h))))))) (by decide +kernel))
set_option maxRecDepth 20000 in
theorem gL_asked_X7_bidAmount : GoodIn wsL_asked (wsV RL 75 RX7 yX7_bidAmount wsX7_bidAmount) := goodIn_app (goodIn_r _ [88, 89, 90, 4] (by decide +kernel) (by decide +kernel)) ggL_asked_X7_bidAmount
set_option maxRecDepth 20000 in
theorem ggL_asked_X7_isBluff : GoodIn wsL_asked wsX7_isBluff := goodIn_ca (goodIn_ca (goodIn_ca (goodIn_r _ [123, 7, 92, 93, 94, 4, 95, 56, 57, 96, 97, 98, 99, 11, 12, 100, 101, 102, 15, 103, 104, 76, 77, 78, 79, 80, 81, 82, 83, 84, 105, 106, 107, 108, 109, 110, 111, 112, 124, 125, 126, 127, 305, 306, 307, 308, 309, 310, 311, 312, 313, 314, 318, 319, 320, 321, 322, 323, 324, 325, 326, 327, 328, 329, 330, 331, 332, 333] (by decide +kernel) (by decide +kernel)) (goodIn_sub (fun _ h => List.mem_cons_of_mem _ (List.mem_append_left _ (List.mem_append_left _ (List.mem_append_left _ (List.mem_append_right _ h))))) (by decide +kernel))) (goodIn_sub (fun _ h => List.mem_cons_of_mem _ (List.mem_append_left _ (List.mem_append_left _ (List.mem_append_left _ (List.mem_append_left _ (List.mem_append_right _ h)))))) (by decide +kernel))) (goodIn_sub (fun _ h => List.mem_cons_of_mem _ (List.mem_append_left _ (List.mem_append_left _ (List.mem_append_left _ (List.mem_append_left _ (List.mem_append_left _ (List.mem_append_right _ h))))))) (by decide +kernel))
set_option maxRecDepth 20000 in
theorem gL_asked_X7_isBluff : GoodIn wsL_asked (wsV RL 78 RX7 yX7_isBluff wsX7_isBluff) := goodIn_app (goodIn_r _ [120, 121, 122, 4] (by decide +kernel) (by decide +kernel)) ggL_asked_X7_isBluff
set_option maxRecDepth 20000 in
theorem ggL_asked_X7_ferryOwner : GoodIn wsL_asked wsX7_ferryOwner := goodIn_ca (goodIn_ca (goodIn_ca (goodIn_r _ [131, 7, 76, 77, 78, 4, 79, 11, 12, 80, 81, 82, 15, 83, 84, 85, 86, 87, 56, 57, 305, 306, 307, 308, 309, 310, 311, 312, 313, 314, 318, 319, 320, 321, 322, 323, 324, 325, 326, 327, 328, 329, 330, 331, 332, 333] (by decide +kernel) (by decide +kernel)) (goodIn_sub (fun _ h => List.mem_cons_of_mem _ (List.mem_append_left _ (List.mem_append_left _ (List.mem_append_left _ (List.mem_append_left _ (List.mem_append_left _ (List.mem_append_right _ h))))))) (by decide +kernel))) (goodIn_sub (fun _ h => List.mem_cons_of_mem _ (List.mem_append_left _ (List.mem_append_left _ (List.mem_append_left _ (List.mem_append_left _ (List.mem_append_right _ h)))))) (by decide +kernel))) (goodIn_sub (fun _ h => List.mem_cons_of_mem _ (List.mem_append_left _ (List.mem_append_left _ (List.mem_append_left _ (List.mem_append_right _ h))))) (by decide +kernel))
set_option maxRecDepth 20000 in
theorem gL_asked_X7_ferryOwner : GoodIn wsL_asked (wsV RL 82 RX7 yX7_ferryOwner wsX7_ferryOwner) := goodIn_app (goodIn_r _ [128, 129, 130, 4] (by decide +kernel) (by decide +kernel)) ggL_asked_X7_ferryOwner
set_option maxRecDepth 20000 in
theorem ggL_asked_X7_winningBidder : GoodIn wsL_asked wsX7_winningBidder := goodIn_ca (goodIn_ca (goodIn_ca (goodIn_r _ [135, 7, 76, 77, 78, 4, 79, 11, 12, 80, 81, 82, 15, 83, 84, 136, 137, 138, 139, 140, 104, 141, 114, 115, 116, 109, 117, 118, 40, 119, 110, 111, 112, 85, 86, 87, 56, 57, 305, 306, 307, 308, 309, 310, 311, 312, 313, 314, 318, 319, 320, 321, 322, 323, 324, 325, 326, 327, 328, 329, 330, 331, 332, 333] (by decide +kernel) (by decide +kernel)) (goodIn_sub (fun _ h => List.mem_cons_of_mem _ (List.mem_append_left _ (List.mem_append_left _ (List.mem_append_left _ (List.mem_append_left _ (List.mem_append_right _ h)))))) (by decide +kernel))) (goodIn_sub (fun _ h => List.mem_cons_of_mem _ (List.mem_append_left _ (List.mem_append_left _ (List.mem_append_left _ (List.mem_append_left _ (List.mem_append_left _ (List.mem_append_right _ h))))))) (by decide +kernel))) (goodIn_sub (fun _ h => List.mem_cons_of_mem _ (List.mem_append_left _ (List.mem_append_left _ (List.mem_append_left _ (List.mem_append_right _ h))))) (by decide +kernel))
set_option maxRecDepth 20000 in
theorem gL_asked_X7_winningBidder : GoodIn wsL_asked (wsV RL 85 RX7 yX7_winningBidder wsX7_winningBidder) := goodIn_app (goodIn_r _ [132, 133, 134, 4] (by decide +kernel) (by decide +kernel)) ggL_asked_X7_winningBidder
set_option maxRecDepth 20000 in
theorem ggL_asked_X7_wouldBuild : GoodIn wsL_asked wsX7_wouldBuild := goodIn_ca (goodIn_ca (goodIn_ca (goodIn_ca (goodIn_ca (goodIn_ca (goodIn_r _ [145, 7, 146, 147, 148, 149, 15, 150, 151, 152, 153, 154, 155, 156, 157, 158, 159, 160, 161, 162, 163, 104, 164, 165, 166, 167, 168, 169, 170, 171, 39, 40, 41, 172, 173, 174, 175, 84, 176, 14, 16, 177, 178, 179, 180, 46, 47, 181, 182, 183, 184, 185, 186, 187, 188, 189, 190, 191, 192, 193, 194, 195, 196, 101, 102, 103, 197, 81, 82, 83, 48, 49, 50, 51, 52, 198, 199, 200, 201, 141, 114, 115, 116, 109, 117, 118, 119, 110, 111, 112, 202, 203, 204, 205, 206, 207, 208, 209, 210, 211, 212, 213, 214, 215, 140, 216, 217, 106, 107, 108, 218, 219, 220, 221, 222, 223, 224, 225, 226, 227, 228, 229, 230, 231, 137, 138, 139, 232, 233, 4, 234, 11, 12, 235, 236, 237, 238, 239, 240, 56, 57, 241, 242, 243, 244, 136, 245, 246, 247, 248, 249, 250, 251, 252, 253, 254, 305, 306, 307, 308, 309, 310, 311, 312, 313, 314, 318, 319, 320, 321, 322, 323, 324, 325, 326, 327, 328, 329, 330, 331, 332, 333] (by decide +kernel) (by decide +kernel)) (goodIn_sub (fun _ h => List.mem_cons_of_mem _ (List.mem_append_left _ (List.mem_append_left _ (List.mem_append_left _ (List.mem_append_left _ (List.mem_append_left _ (List.mem_append_right _ h))))))) (by decide +kernel))) (goodIn_sub (fun _ h => List.mem_cons_of_mem _ (List.mem_append_left _ (List.mem_append_left _ (List.mem_append_left _ (List.mem_append_left _ (List.mem_append_right _ h)))))) (by decide +kernel))) (goodIn_sub (fun _ h => List.mem_cons_of_mem _ (List.mem_append_left _ (List.mem_append_left _ (List.mem_append_right _ h)))) (by decide +kernel))) (goodIn_sub (fun _ h => List.mem_cons_of_mem _ (List.mem_append_left _ (List.mem_append_right _ h))) (by decide +kernel))) (goodIn_sub (fun _ h => List.mem_cons_of_mem _ (List.mem_append_right _ h)) (by decide +kernel))) (goodIn_sub (fun _ h => List.mem_cons_of_mem _ (List.mem_append_left _ (List.mem_append_left _ (List.mem_append_left _ (List.mem_append_right _ h))))) (by decide +kernel))
set_option maxRecDepth 20000 in
theorem gL_asked_X7_wouldBuild : GoodIn wsL_asked (wsV RL 88 RX7 yX7_wouldBuild wsX7_wouldBuild) := goodIn_app (goodIn_r _ [142, 143, 144, 4] (by decide +kernel) (by decide +kernel)) ggL_asked_X7_wouldBuild
set_option maxRecDepth 20000 in
theorem ggL_asked_X7_cheapestFreeSite : GoodIn wsL_asked wsX7_cheapestFreeSite := goodIn_ca (goodIn_ca (goodIn_r _ [258, 7, 259, 260, 261, 15, 262, 84, 48, 49, 50, 51, 52, 249, 250, 251, 252, 253, 254, 85, 86, 4, 87, 56, 57, 305, 306, 307, 308, 309, 310, 311, 312, 313, 314, 318, 319, 320, 321, 322, 323, 324, 325, 326, 327, 328, 329, 330, 331, 332, 333] (by decide +kernel) (by decide +kernel)) (goodIn_sub (fun _ h => List.mem_cons_of_mem _ (List.mem_append_left _ (List.mem_append_left _ (List.mem_append_left _ (List.mem_append_left _ (List.mem_append_left _ (List.mem_append_right _ h))))))) (by decide +kernel))) (goodIn_sub (fun _ h => List.mem_cons_of_mem _ (List.mem_append_left _ (List.mem_append_left _ (List.mem_append_left _ (List.mem_append_right _ h))))) (by decide +kernel))
set_option maxRecDepth 20000 in
theorem gL_asked_X7_cheapestFreeSite : GoodIn wsL_asked (wsV RL 91 RX7 yX7_cheapestFreeSite wsX7_cheapestFreeSite) := goodIn_app (goodIn_r _ [255, 256, 257, 4] (by decide +kernel) (by decide +kernel)) ggL_asked_X7_cheapestFreeSite
set_option maxRecDepth 20000 in
theorem ggL_asked_X7_playerByScore : GoodIn wsL_asked wsX7_playerByScore := goodIn_ca (goodIn_ca (goodIn_r _ [266, 7, 267, 268, 269, 15, 270, 104, 271, 272, 273, 274, 275, 276, 277, 278, 206, 279, 280, 281, 282, 84, 52, 253, 216, 46, 47, 283, 284, 285, 286, 85, 86, 4, 87, 56, 57, 305, 306, 307, 308, 309, 310, 311, 312, 313, 314, 318, 319, 320, 321, 322, 323, 324, 325, 326, 327, 328, 329, 330, 331, 332, 333] (by decide +kernel) (by decide +kernel)) (goodIn_sub (fun _ h => List.mem_cons_of_mem _ (List.mem_append_left _ (List.mem_append_left _ (List.mem_append_left _ (List.mem_append_left _ (List.mem_append_left _ (List.mem_append_right _ h))))))) (by decide +kernel))) (goodIn_sub (fun _ h => List.mem_cons_of_mem _ (List.mem_append_left _ (List.mem_append_left _ (List.mem_append_left _ (List.mem_append_right _ h))))) (by decide +kernel))
set_option maxRecDepth 20000 in
theorem gL_asked_X7_playerByScore : GoodIn wsL_asked (wsV RL 94 RX7 yX7_playerByScore wsX7_playerByScore) := goodIn_app (goodIn_r _ [263, 264, 265, 4] (by decide +kernel) (by decide +kernel)) ggL_asked_X7_playerByScore
set_option maxRecDepth 20000 in
theorem ggL_asked_X7_errorPosition : GoodIn wsL_asked wsX7_errorPosition := goodIn_ca (goodIn_r _ [290, 291, 85, 86, 4, 87, 56, 57, 305, 306, 307, 308, 309, 310, 311, 312, 313, 314] (by decide +kernel) (by decide +kernel)) (goodIn_sub (fun _ h => List.mem_cons_of_mem _ (List.mem_append_left _ (List.mem_append_left _ (List.mem_append_left _ (List.mem_append_right _ h))))) (by decide +kernel))
set_option maxRecDepth 20000 in
theorem gL_asked_X7_errorPosition : GoodIn wsL_asked (wsV RL 97 RX7 yX7_errorPosition wsX7_errorPosition) := goodIn_app (goodIn_r _ [287, 288, 289, 4] (by decide +kernel) (by decide +kernel)) ggL_asked_X7_errorPosition
set_option maxRecDepth 20000 in
theorem ggL_asked_X7_failedCommand : GoodIn wsL_asked wsX7_failedCommand := goodIn_ca (goodIn_r _ [295, 296, 85, 86, 4, 87, 56, 57, 305, 306, 307, 308, 309, 310, 311, 312, 313, 314] (by decide +kernel) (by decide +kernel)) (goodIn_sub (fun _ h => List.mem_cons_of_mem _ (List.mem_append_left _ (List.mem_append_left _ (List.mem_append_left _ (List.mem_append_right _ h))))) (by decide +kernel))
set_option maxRecDepth 20000 in
theorem gL_asked_X7_failedCommand : GoodIn wsL_asked (wsV RL 100 RX7 yX7_failedCommand wsX7_failedCommand) := goodIn_app (goodIn_r _ [292, 293, 294, 4] (by decide +kernel) (by decide +kernel)) ggL_asked_X7_failedCommand
set_option maxRecDepth 20000 in
theorem ggL_asked_X7_length : GoodIn wsL_asked wsX7_length := goodIn_ca (goodIn_ca (goodIn_r _ [300, 7, 76, 77, 78, 4, 79, 11, 12, 80, 81, 82, 15, 83, 84, 305, 306, 307, 308, 309, 310, 311, 312, 313, 314, 318, 319, 320, 321, 322, 323, 324, 325, 326, 327, 328, 329, 330, 331, 332, 333] (by decide +kernel) (by decide +kernel)) (goodIn_sub (fun _ h => List.mem_cons_of_mem _ (List.mem_append_left _ (List.mem_append_left _ (List.mem_append_left _ (List.mem_append_left _ (List.mem_append_left _ (List.mem_append_right _ h))))))) (by decide +kernel))) (goodIn_sub (fun _ h => List.mem_cons_of_mem _ (List.mem_append_left _ (List.mem_append_left _ (List.mem_append_left _ (List.mem_append_left _ (List.mem_append_right _ h)))))) (by decide +kernel))
set_option maxRecDepth 20000 in
theorem gL_asked_X7_length : GoodIn wsL_asked (wsV RL 103 RX7 yX7_length wsX7_length) := goodIn_app (goodIn_r _ [297, 298, 299, 4] (by decide +kernel) (by decide +kernel)) ggL_asked_X7_length
set_option maxRecDepth 20000 in
theorem ggL_asked_X7_money : GoodIn wsL_asked wsX7_money := goodIn_ca (goodIn_ca (goodIn_r _ [304, 7, 96, 97, 98, 4, 99, 11, 12, 100, 101, 102, 15, 103, 104, 305, 306, 307, 308, 309, 310, 311, 312, 313, 314, 318, 319, 320, 321, 322, 323, 324, 325, 326, 327, 328, 329, 330, 331, 332, 333] (by decide +kernel) (by decide +kernel)) (goodIn_sub (fun _ h => List.mem_cons_of_mem _ (List.mem_append_left _ (List.mem_append_left _ (List.mem_append_left _ (List.mem_append_left _ (List.mem_append_left _ (List.mem_append_right _ h))))))) (by decide +kernel))) (goodIn_sub (fun _ h => List.mem_cons_of_mem _ (List.mem_append_left _ (List.mem_append_left _ (List.mem_append_left _ (List.mem_append_left _ (List.mem_append_right _ h)))))) (by decide +kernel))
set_option maxRecDepth 20000 in
theorem gL_asked_X7_money : GoodIn wsL_asked (wsV RL 106 RX7 yX7_money wsX7_money) := goodIn_app (goodIn_r _ [301, 302, 303, 4] (by decide +kernel) (by decide +kernel)) ggL_asked_X7_money
theorem dL_asked_0 : decode cL_asked 0 = .ok (.iload_n 1, 1) := by decide +kernel
theorem dL_asked_1 : decode cL_asked 1 = .ok (.tableswitch 162 0 12 #[67, 74, 81, 87, 94, 109, 115, 121, 135, 140, 146, 151, 156], 67) := by decide +kernel
theorem dL_asked_68 : decode cL_asked 68 = .ok (.aload_n 0, 1) := by decide +kernel
theorem dL_asked_69 : decode cL_asked 69 = .ok (.iload_n 2, 1) := by decide +kernel
theorem dL_asked_70 : decode cL_asked 70 = .ok (.iload_n 3, 1) := by decide +kernel
theorem dL_asked_71 : decode cL_asked 71 = .ok (.invokevirtual 66, 3) := by decide +kernel
theorem dL_asked_74 : decode cL_asked 74 = .ok (.ireturn, 1) := by decide +kernel
theorem dL_asked_75 : decode cL_asked 75 = .ok (.aload_n 0, 1) := by decide +kernel
theorem dL_asked_76 : decode cL_asked 76 = .ok (.iload_n 2, 1) := by decide +kernel
theorem dL_asked_77 : decode cL_asked 77 = .ok (.iload_n 3, 1) := by decide +kernel
theorem dL_asked_78 : decode cL_asked 78 = .ok (.invokevirtual 69, 3) := by decide +kernel
theorem dL_asked_81 : decode cL_asked 81 = .ok (.ireturn, 1) := by decide +kernel
theorem dL_asked_82 : decode cL_asked 82 = .ok (.aload_n 0, 1) := by decide +kernel
theorem dL_asked_83 : decode cL_asked 83 = .ok (.iload_n 2, 1) := by decide +kernel
theorem dL_asked_84 : decode cL_asked 84 = .ok (.invokevirtual 72, 3) := by decide +kernel
theorem dL_asked_87 : decode cL_asked 87 = .ok (.ireturn, 1) := by decide +kernel
theorem dL_asked_88 : decode cL_asked 88 = .ok (.aload_n 0, 1) := by decide +kernel
theorem dL_asked_89 : decode cL_asked 89 = .ok (.iload_n 2, 1) := by decide +kernel
theorem dL_asked_90 : decode cL_asked 90 = .ok (.iload_n 3, 1) := by decide +kernel
theorem dL_asked_91 : decode cL_asked 91 = .ok (.invokevirtual 75, 3) := by decide +kernel
theorem dL_asked_94 : decode cL_asked 94 = .ok (.ireturn, 1) := by decide +kernel
theorem dL_asked_95 : decode cL_asked 95 = .ok (.aload_n 0, 1) := by decide +kernel
theorem dL_asked_96 : decode cL_asked 96 = .ok (.iload_n 2, 1) := by decide +kernel
theorem dL_asked_97 : decode cL_asked 97 = .ok (.iload_n 3, 1) := by decide +kernel
theorem dL_asked_98 : decode cL_asked 98 = .ok (.invokevirtual 78, 3) := by decide +kernel
theorem dL_asked_101 : decode cL_asked 101 = .ok (.ifCond .eq 7, 3) := by decide +kernel
theorem dL_asked_104 : decode cL_asked 104 = .ok (.iconst 1, 1) := by decide +kernel
theorem dL_asked_105 : decode cL_asked 105 = .ok (.goto 4, 3) := by decide +kernel
theorem dL_asked_108 : decode cL_asked 108 = .ok (.iconst 0, 1) := by decide +kernel
theorem dL_asked_109 : decode cL_asked 109 = .ok (.ireturn, 1) := by decide +kernel
theorem dL_asked_110 : decode cL_asked 110 = .ok (.aload_n 0, 1) := by decide +kernel
theorem dL_asked_111 : decode cL_asked 111 = .ok (.iload_n 2, 1) := by decide +kernel
theorem dL_asked_112 : decode cL_asked 112 = .ok (.invokevirtual 82, 3) := by decide +kernel
theorem dL_asked_115 : decode cL_asked 115 = .ok (.ireturn, 1) := by decide +kernel
theorem dL_asked_116 : decode cL_asked 116 = .ok (.aload_n 0, 1) := by decide +kernel
theorem dL_asked_117 : decode cL_asked 117 = .ok (.iload_n 2, 1) := by decide +kernel
theorem dL_asked_118 : decode cL_asked 118 = .ok (.invokevirtual 85, 3) := by decide +kernel
theorem dL_asked_121 : decode cL_asked 121 = .ok (.ireturn, 1) := by decide +kernel
theorem dL_asked_122 : decode cL_asked 122 = .ok (.aload_n 0, 1) := by decide +kernel
theorem dL_asked_123 : decode cL_asked 123 = .ok (.iload_n 2, 1) := by decide +kernel
theorem dL_asked_124 : decode cL_asked 124 = .ok (.invokevirtual 88, 3) := by decide +kernel
theorem dL_asked_127 : decode cL_asked 127 = .ok (.ifCond .eq 7, 3) := by decide +kernel
theorem dL_asked_130 : decode cL_asked 130 = .ok (.iconst 1, 1) := by decide +kernel
theorem dL_asked_131 : decode cL_asked 131 = .ok (.goto 4, 3) := by decide +kernel
theorem dL_asked_134 : decode cL_asked 134 = .ok (.iconst 0, 1) := by decide +kernel
theorem dL_asked_135 : decode cL_asked 135 = .ok (.ireturn, 1) := by decide +kernel
theorem dL_asked_136 : decode cL_asked 136 = .ok (.aload_n 0, 1) := by decide +kernel
theorem dL_asked_137 : decode cL_asked 137 = .ok (.invokevirtual 91, 3) := by decide +kernel
theorem dL_asked_140 : decode cL_asked 140 = .ok (.ireturn, 1) := by decide +kernel
theorem dL_asked_141 : decode cL_asked 141 = .ok (.aload_n 0, 1) := by decide +kernel
theorem dL_asked_142 : decode cL_asked 142 = .ok (.iload_n 2, 1) := by decide +kernel
theorem dL_asked_143 : decode cL_asked 143 = .ok (.invokevirtual 94, 3) := by decide +kernel
theorem dL_asked_146 : decode cL_asked 146 = .ok (.ireturn, 1) := by decide +kernel
theorem dL_asked_147 : decode cL_asked 147 = .ok (.aload_n 0, 1) := by decide +kernel
theorem dL_asked_148 : decode cL_asked 148 = .ok (.invokevirtual 97, 3) := by decide +kernel
theorem dL_asked_151 : decode cL_asked 151 = .ok (.ireturn, 1) := by decide +kernel
theorem dL_asked_152 : decode cL_asked 152 = .ok (.aload_n 0, 1) := by decide +kernel
theorem dL_asked_153 : decode cL_asked 153 = .ok (.invokevirtual 100, 3) := by decide +kernel
theorem dL_asked_156 : decode cL_asked 156 = .ok (.ireturn, 1) := by decide +kernel
theorem dL_asked_157 : decode cL_asked 157 = .ok (.aload_n 0, 1) := by decide +kernel
theorem dL_asked_158 : decode cL_asked 158 = .ok (.iload_n 2, 1) := by decide +kernel
theorem dL_asked_159 : decode cL_asked 159 = .ok (.invokevirtual 103, 3) := by decide +kernel
theorem dL_asked_162 : decode cL_asked 162 = .ok (.ireturn, 1) := by decide +kernel
theorem dL_asked_163 : decode cL_asked 163 = .ok (.aload_n 0, 1) := by decide +kernel
theorem dL_asked_164 : decode cL_asked 164 = .ok (.iload_n 2, 1) := by decide +kernel
theorem dL_asked_165 : decode cL_asked 165 = .ok (.invokevirtual 106, 3) := by decide +kernel
theorem dL_asked_168 : decode cL_asked 168 = .ok (.ireturn, 1) := by decide +kernel
set_option maxHeartbeats 4000000 in
set_option maxRecDepth 100000 in
theorem c_L_asked (l : Launch) (D : va_G) (C : Nat → ClassId) (ev u : Nat → Nat) (K : CT) (T : TX) (n : Nat) (a b : Int32) (hl9 : l.stackTraces = false) (hI : GI (kG K)) (hFe : FerOK (kG K)) (hn : n < 14) : KV l yL_asked wsL_asked ({ frames := 9, cells := 3, slots := 18, locals := 160 } : Room) [.ref (u 0), .int (nI n), .int a, .int b] D C ev u K T (aqs K n a b).1 (some (.int (aqs K n a b).2)) 3 18 := by
  intro x sz hF
  refine vx_ofW (cc := cL_asked) (maxL := 4) (ret := (some .int)) (by decide) rfl ?_
  intro p e s m args below meth c s₁ B hml htab hv
  obtain ⟨⟨⟨rfl, hsz, hP, hK, hD0, hE, hR, hX, hT9, hV9⟩, hDV⟩, hN, hC⟩ := hv
  have hx := B.exec
  have hb := B.bytes
  have hr := B.returns
  have hts := atoms_spec (ws := wsL_asked) B.pre
  have hown : s.vm.findClass RL = some m.cls := findClass_of_methodNamed B.named
  have hlocks := B.notSynchronized
  subst hsz
  have hD := hD0.self (sz := s.heap.size)
  generalize hAe : va_A (kW C ev u K x) s.heap.size = A at hD hX hV9 hDV ⊢
  have hA : ∀ q : Nat, s.heap.size ≤ q → A q := fun q h => by rw [← hAe]; exact Or.inr h
  have hS : va_S A s.heap s.heap [] := va_S.rf
  have hl := lv_entry ([.ref (u 0), .int (nI n), .int a, .int b]) (n := 4) (Nat.le_of_ble_eq_true rfl)
  rw [lg_entry_eq]
  generalize (lg_sl ([.ref (u 0), .int (nI n), .int a, .int b]) ++ List.replicate (4 - (lg_sl ([.ref (u 0), .int (nI n), .int a, .int b])).length) Slot.unset).toArray = ls at hl ⊢
  have hl : lv_has ls 4 [(0, .ref (u 0)), (1, .int (nI n)), (2, .int a), (3, .int b)] := hl
  refine lv_iload_n hx hb dL_asked_0 rfl (lv_at hl 1 rfl) ?_
  rcases (by omega : n = 0 ∨ n = 1 ∨ n = 2 ∨ n = 3 ∨ n = 4 ∨ n = 5 ∨ n = 6 ∨ n = 7 ∨ n = 8 ∨ n = 9 ∨ n = 10 ∨ n = 11 ∨ n = 12 ∨ n = 13) with r | r | r | r | r | r | r | r | r | r | r | r | r | r <;> subst r
  · refine lv_tableIn (off := 67) (tgt := 68) hx hb dL_asked_1 (by decide +kernel) (by decide +kernel) (by decide +kernel) (by decide) ?_
    refine lv_aload_n hx hb dL_asked_68 rfl (lv_at hl 0 rfl) ?_
    refine lv_iload_n hx hb dL_asked_69 rfl (lv_at hl 2 rfl) ?_
    refine lv_iload_n hx hb dL_asked_70 rfl (lv_at hl 3 rfl) ?_
    refine callKV (vx_runV (As := [.int a, .int b]) (rest := []) ⟨hx, hb, hml, hown, hts⟩ (kv_distance (T := T) hl9 hI hFe a b x _ hF) (cwV 2 hts gL_asked_X7_distance rfl rfl rfl (by decide +kernel) ⟨Nat.le_of_ble_eq_true rfl, Nat.le_of_ble_eq_true rfl⟩) (hloP_v hP hK hE hD hR hX hT9 hV9 hDV hN hC hS (all_F hD hS hA) (kRc (owns := []) hK hP)) rfl rfl hl.1 rfl (lv_room (Nat.le_of_ble_eq_true rfl)) dL_asked_71 ⟨Nat.le_of_ble_eq_true rfl, Nat.le_of_ble_eq_true rfl⟩) hD hS hA (fun hc0 hc7 x ce q9 H1 locs hF hP hD hS hcell hcv hcl => v_out htab hlocks hcell hcv hcl hF hP hD hS hc0 hc7 (Nat.le_of_ble_eq_true rfl) (Nat.le_of_ble_eq_true rfl)) (fun hc0 x H1 locs hF hP hD hS => ?_)
    exact v_retI hx hb hr hc0 hF hP hD hS rfl (Nat.le_of_ble_eq_true rfl) (Nat.le_of_ble_eq_true rfl) dL_asked_74 hlocks
  · refine lv_tableIn (off := 74) (tgt := 75) hx hb dL_asked_1 (by decide +kernel) (by decide +kernel) (by decide +kernel) (by decide) ?_
    refine lv_aload_n hx hb dL_asked_75 rfl (lv_at hl 0 rfl) ?_
    refine lv_iload_n hx hb dL_asked_76 rfl (lv_at hl 2 rfl) ?_
    refine lv_iload_n hx hb dL_asked_77 rfl (lv_at hl 3 rfl) ?_
    refine callKV (vx_runV (As := [.int a, .int b]) (rest := []) ⟨hx, hb, hml, hown, hts⟩ (kv_distanceByRelaxation (T := T) hl9 hI hFe a b x _ hF) (cwV 2 hts gL_asked_X7_distanceByRelaxation rfl rfl rfl (by decide +kernel) ⟨Nat.le_of_ble_eq_true rfl, Nat.le_of_ble_eq_true rfl⟩) (hloP_v hP hK hE hD hR hX hT9 hV9 hDV hN hC hS (all_F hD hS hA) (kRc (owns := []) hK hP)) rfl rfl hl.1 rfl (lv_room (Nat.le_of_ble_eq_true rfl)) dL_asked_78 ⟨Nat.le_of_ble_eq_true rfl, Nat.le_of_ble_eq_true rfl⟩) hD hS hA (fun hc0 hc7 x ce q9 H1 locs hF hP hD hS hcell hcv hcl => v_out htab hlocks hcell hcv hcl hF hP hD hS hc0 hc7 (Nat.le_of_ble_eq_true rfl) (Nat.le_of_ble_eq_true rfl)) (fun hc0 x H1 locs hF hP hD hS => ?_)
    exact v_retI hx hb hr hc0 hF hP hD hS rfl (Nat.le_of_ble_eq_true rfl) (Nat.le_of_ble_eq_true rfl) dL_asked_81 hlocks
  · refine lv_tableIn (off := 81) (tgt := 82) hx hb dL_asked_1 (by decide +kernel) (by decide +kernel) (by decide +kernel) (by decide) ?_
    refine lv_aload_n hx hb dL_asked_82 rfl (lv_at hl 0 rfl) ?_
    refine lv_iload_n hx hb dL_asked_83 rfl (lv_at hl 2 rfl) ?_
    refine callKV (vx_runV (As := [.int a]) (rest := []) ⟨hx, hb, hml, hown, hts⟩ (kv_builder (T := T) hl9 hI hFe a b x _ hF) (cwV 1 hts gL_asked_X7_builder rfl rfl rfl (by decide +kernel) ⟨Nat.le_of_ble_eq_true rfl, Nat.le_of_ble_eq_true rfl⟩) (hloP_v hP hK hE hD hR hX hT9 hV9 hDV hN hC hS (all_F hD hS hA) (kRc (owns := []) hK hP)) rfl rfl hl.1 rfl (lv_room (Nat.le_of_ble_eq_true rfl)) dL_asked_84 ⟨Nat.le_of_ble_eq_true rfl, Nat.le_of_ble_eq_true rfl⟩) hD hS hA (fun hc0 hc7 x ce q9 H1 locs hF hP hD hS hcell hcv hcl => v_out htab hlocks hcell hcv hcl hF hP hD hS hc0 hc7 (Nat.le_of_ble_eq_true rfl) (Nat.le_of_ble_eq_true rfl)) (fun hc0 x H1 locs hF hP hD hS => ?_)
    exact v_retI hx hb hr hc0 hF hP hD hS rfl (Nat.le_of_ble_eq_true rfl) (Nat.le_of_ble_eq_true rfl) dL_asked_87 hlocks
  · refine lv_tableIn (off := 87) (tgt := 88) hx hb dL_asked_1 (by decide +kernel) (by decide +kernel) (by decide +kernel) (by decide) ?_
    refine lv_aload_n hx hb dL_asked_88 rfl (lv_at hl 0 rfl) ?_
    refine lv_iload_n hx hb dL_asked_89 rfl (lv_at hl 2 rfl) ?_
    refine lv_iload_n hx hb dL_asked_90 rfl (lv_at hl 3 rfl) ?_
    refine callKV (vx_runV (As := [.int a, .int b]) (rest := []) ⟨hx, hb, hml, hown, hts⟩ (kv_bidAmount (T := T) hl9 hI hFe a b x _ hF) (cwV 2 hts gL_asked_X7_bidAmount rfl rfl rfl (by decide +kernel) ⟨Nat.le_of_ble_eq_true rfl, Nat.le_of_ble_eq_true rfl⟩) (hloP_v hP hK hE hD hR hX hT9 hV9 hDV hN hC hS (all_F hD hS hA) (kRc (owns := []) hK hP)) rfl rfl hl.1 rfl (lv_room (Nat.le_of_ble_eq_true rfl)) dL_asked_91 ⟨Nat.le_of_ble_eq_true rfl, Nat.le_of_ble_eq_true rfl⟩) hD hS hA (fun hc0 hc7 x ce q9 H1 locs hF hP hD hS hcell hcv hcl => v_out htab hlocks hcell hcv hcl hF hP hD hS hc0 hc7 (Nat.le_of_ble_eq_true rfl) (Nat.le_of_ble_eq_true rfl)) (fun hc0 x H1 locs hF hP hD hS => ?_)
    exact v_retI hx hb hr hc0 hF hP hD hS rfl (Nat.le_of_ble_eq_true rfl) (Nat.le_of_ble_eq_true rfl) dL_asked_94 hlocks
  · refine lv_tableIn (off := 94) (tgt := 95) hx hb dL_asked_1 (by decide +kernel) (by decide +kernel) (by decide +kernel) (by decide) ?_
    refine lv_aload_n hx hb dL_asked_95 rfl (lv_at hl 0 rfl) ?_
    refine lv_iload_n hx hb dL_asked_96 rfl (lv_at hl 2 rfl) ?_
    refine lv_iload_n hx hb dL_asked_97 rfl (lv_at hl 3 rfl) ?_
    refine callKV (vx_runV (As := [.int a, .int b]) (rest := []) ⟨hx, hb, hml, hown, hts⟩ (kv_isBluff (T := T) hl9 hI hFe a b x _ hF) (cwV 2 hts gL_asked_X7_isBluff rfl rfl rfl (by decide +kernel) ⟨Nat.le_of_ble_eq_true rfl, Nat.le_of_ble_eq_true rfl⟩) (hloP_v hP hK hE hD hR hX hT9 hV9 hDV hN hC hS (all_F hD hS hA) (kRc (owns := []) hK hP)) rfl rfl hl.1 rfl (lv_room (Nat.le_of_ble_eq_true rfl)) dL_asked_98 ⟨Nat.le_of_ble_eq_true rfl, Nat.le_of_ble_eq_true rfl⟩) hD hS hA (fun hc0 hc7 x ce q9 H1 locs hF hP hD hS hcell hcv hcl => v_out htab hlocks hcell hcv hcl hF hP hD hS hc0 hc7 (Nat.le_of_ble_eq_true rfl) (Nat.le_of_ble_eq_true rfl)) (fun hc0 x H1 locs hF hP hD hS => ?_)
    obtain ⟨z9, hz9⟩ : ∃ z, z = (f_X7_isBluff (kQ K) (kG K) a b).2 := ⟨_, rfl⟩
    refine topI (y := bI z9) (congrArg bI hz9.symm) ?_
    refine bif_eq (tgt := 108) hx hb dL_asked_101 (by decide) (fun c9 => ?_) (fun c9 => ?_)
    · refine lv_iconst (v := 0) hx hb dL_asked_108 (by decide) ?_
      exact v_retI hx hb hr hc0 hF hP hD hS (show bI (f_X7_isBluff (kQ K) (kG K) a b).2 = 0 from by rw [← hz9, c9]; rfl) (Nat.le_of_ble_eq_true rfl) (Nat.le_of_ble_eq_true rfl) dL_asked_109 hlocks
    · refine lv_iconst (v := 1) hx hb dL_asked_104 (by decide) ?_
      refine lv_goto (tgt := 109) hx hb dL_asked_105 (by decide) ?_
      exact v_retI hx hb hr hc0 hF hP hD hS (show bI (f_X7_isBluff (kQ K) (kG K) a b).2 = 1 from by rw [← hz9, c9]; rfl) (Nat.le_of_ble_eq_true rfl) (Nat.le_of_ble_eq_true rfl) dL_asked_109 hlocks
  · refine lv_tableIn (off := 109) (tgt := 110) hx hb dL_asked_1 (by decide +kernel) (by decide +kernel) (by decide +kernel) (by decide) ?_
    refine lv_aload_n hx hb dL_asked_110 rfl (lv_at hl 0 rfl) ?_
    refine lv_iload_n hx hb dL_asked_111 rfl (lv_at hl 2 rfl) ?_
    refine callKV (vx_runV (As := [.int a]) (rest := []) ⟨hx, hb, hml, hown, hts⟩ (kv_ferryOwner (T := T) hl9 hI hFe a b x _ hF) (cwV 1 hts gL_asked_X7_ferryOwner rfl rfl rfl (by decide +kernel) ⟨Nat.le_of_ble_eq_true rfl, Nat.le_of_ble_eq_true rfl⟩) (hloP_v hP hK hE hD hR hX hT9 hV9 hDV hN hC hS (all_F hD hS hA) (kRc (owns := []) hK hP)) rfl rfl hl.1 rfl (lv_room (Nat.le_of_ble_eq_true rfl)) dL_asked_112 ⟨Nat.le_of_ble_eq_true rfl, Nat.le_of_ble_eq_true rfl⟩) hD hS hA (fun hc0 hc7 x ce q9 H1 locs hF hP hD hS hcell hcv hcl => v_out htab hlocks hcell hcv hcl hF hP hD hS hc0 hc7 (Nat.le_of_ble_eq_true rfl) (Nat.le_of_ble_eq_true rfl)) (fun hc0 x H1 locs hF hP hD hS => ?_)
    exact v_retI hx hb hr hc0 hF hP hD hS rfl (Nat.le_of_ble_eq_true rfl) (Nat.le_of_ble_eq_true rfl) dL_asked_115 hlocks
  · refine lv_tableIn (off := 115) (tgt := 116) hx hb dL_asked_1 (by decide +kernel) (by decide +kernel) (by decide +kernel) (by decide) ?_
    refine lv_aload_n hx hb dL_asked_116 rfl (lv_at hl 0 rfl) ?_
    refine lv_iload_n hx hb dL_asked_117 rfl (lv_at hl 2 rfl) ?_
    refine callKV (vx_runV (As := [.int a]) (rest := []) ⟨hx, hb, hml, hown, hts⟩ (kv_winningBidder (T := T) hl9 hI hFe a b x _ hF) (cwV 1 hts gL_asked_X7_winningBidder rfl rfl rfl (by decide +kernel) ⟨Nat.le_of_ble_eq_true rfl, Nat.le_of_ble_eq_true rfl⟩) (hloP_v hP hK hE hD hR hX hT9 hV9 hDV hN hC hS (all_F hD hS hA) (kRc (owns := []) hK hP)) rfl rfl hl.1 rfl (lv_room (Nat.le_of_ble_eq_true rfl)) dL_asked_118 ⟨Nat.le_of_ble_eq_true rfl, Nat.le_of_ble_eq_true rfl⟩) hD hS hA (fun hc0 hc7 x ce q9 H1 locs hF hP hD hS hcell hcv hcl => v_out htab hlocks hcell hcv hcl hF hP hD hS hc0 hc7 (Nat.le_of_ble_eq_true rfl) (Nat.le_of_ble_eq_true rfl)) (fun hc0 x H1 locs hF hP hD hS => ?_)
    exact v_retI hx hb hr hc0 hF hP hD hS rfl (Nat.le_of_ble_eq_true rfl) (Nat.le_of_ble_eq_true rfl) dL_asked_121 hlocks
  · refine lv_tableIn (off := 121) (tgt := 122) hx hb dL_asked_1 (by decide +kernel) (by decide +kernel) (by decide +kernel) (by decide) ?_
    refine lv_aload_n hx hb dL_asked_122 rfl (lv_at hl 0 rfl) ?_
    refine lv_iload_n hx hb dL_asked_123 rfl (lv_at hl 2 rfl) ?_
    refine callKV (vx_runV (As := [.int a]) (rest := []) ⟨hx, hb, hml, hown, hts⟩ (kv_wouldBuild (T := T) hl9 hI hFe a b x _ hF) (cwV 1 hts gL_asked_X7_wouldBuild rfl rfl rfl (by decide +kernel) ⟨Nat.le_of_ble_eq_true rfl, Nat.le_of_ble_eq_true rfl⟩) (hloP_v hP hK hE hD hR hX hT9 hV9 hDV hN hC hS (all_F hD hS hA) (kRc (owns := []) hK hP)) rfl rfl hl.1 rfl (lv_room (Nat.le_of_ble_eq_true rfl)) dL_asked_124 ⟨Nat.le_of_ble_eq_true rfl, Nat.le_of_ble_eq_true rfl⟩) hD hS hA (fun hc0 hc7 x ce q9 H1 locs hF hP hD hS hcell hcv hcl => v_out htab hlocks hcell hcv hcl hF hP hD hS hc0 hc7 (Nat.le_of_ble_eq_true rfl) (Nat.le_of_ble_eq_true rfl)) (fun hc0 x H1 locs hF hP hD hS => ?_)
    obtain ⟨z9, hz9⟩ : ∃ z, z = (f_X7_wouldBuild (kQ K) (kG K) a).2 := ⟨_, rfl⟩
    refine topI (y := bI z9) (congrArg bI hz9.symm) ?_
    refine bif_eq (tgt := 134) hx hb dL_asked_127 (by decide) (fun c9 => ?_) (fun c9 => ?_)
    · refine lv_iconst (v := 0) hx hb dL_asked_134 (by decide) ?_
      exact v_retI hx hb hr hc0 hF hP hD hS (show bI (f_X7_wouldBuild (kQ K) (kG K) a).2 = 0 from by rw [← hz9, c9]; rfl) (Nat.le_of_ble_eq_true rfl) (Nat.le_of_ble_eq_true rfl) dL_asked_135 hlocks
    · refine lv_iconst (v := 1) hx hb dL_asked_130 (by decide) ?_
      refine lv_goto (tgt := 135) hx hb dL_asked_131 (by decide) ?_
      exact v_retI hx hb hr hc0 hF hP hD hS (show bI (f_X7_wouldBuild (kQ K) (kG K) a).2 = 1 from by rw [← hz9, c9]; rfl) (Nat.le_of_ble_eq_true rfl) (Nat.le_of_ble_eq_true rfl) dL_asked_135 hlocks
  · refine lv_tableIn (off := 135) (tgt := 136) hx hb dL_asked_1 (by decide +kernel) (by decide +kernel) (by decide +kernel) (by decide) ?_
    refine lv_aload_n hx hb dL_asked_136 rfl (lv_at hl 0 rfl) ?_
    refine callKV (vx_runV (As := []) (rest := []) ⟨hx, hb, hml, hown, hts⟩ (kv_cheapestFreeSite (T := T) hl9 hI hFe a b x _ hF) (cwV 0 hts gL_asked_X7_cheapestFreeSite rfl rfl rfl (by decide +kernel) ⟨Nat.le_of_ble_eq_true rfl, Nat.le_of_ble_eq_true rfl⟩) (hloP_v hP hK hE hD hR hX hT9 hV9 hDV hN hC hS (all_F hD hS hA) (kRc (owns := []) hK hP)) rfl rfl hl.1 rfl (lv_room (Nat.le_of_ble_eq_true rfl)) dL_asked_137 ⟨Nat.le_of_ble_eq_true rfl, Nat.le_of_ble_eq_true rfl⟩) hD hS hA (fun hc0 hc7 x ce q9 H1 locs hF hP hD hS hcell hcv hcl => v_out htab hlocks hcell hcv hcl hF hP hD hS hc0 hc7 (Nat.le_of_ble_eq_true rfl) (Nat.le_of_ble_eq_true rfl)) (fun hc0 x H1 locs hF hP hD hS => ?_)
    exact v_retI hx hb hr hc0 hF hP hD hS rfl (Nat.le_of_ble_eq_true rfl) (Nat.le_of_ble_eq_true rfl) dL_asked_140 hlocks
  · refine lv_tableIn (off := 140) (tgt := 141) hx hb dL_asked_1 (by decide +kernel) (by decide +kernel) (by decide +kernel) (by decide) ?_
    refine lv_aload_n hx hb dL_asked_141 rfl (lv_at hl 0 rfl) ?_
    refine lv_iload_n hx hb dL_asked_142 rfl (lv_at hl 2 rfl) ?_
    refine callKV (vx_runV (As := [.int a]) (rest := []) ⟨hx, hb, hml, hown, hts⟩ (kv_playerByScore (T := T) hl9 hI hFe a b x _ hF) (cwV 1 hts gL_asked_X7_playerByScore rfl rfl rfl (by decide +kernel) ⟨Nat.le_of_ble_eq_true rfl, Nat.le_of_ble_eq_true rfl⟩) (hloP_v hP hK hE hD hR hX hT9 hV9 hDV hN hC hS (all_F hD hS hA) (kRc (owns := []) hK hP)) rfl rfl hl.1 rfl (lv_room (Nat.le_of_ble_eq_true rfl)) dL_asked_143 ⟨Nat.le_of_ble_eq_true rfl, Nat.le_of_ble_eq_true rfl⟩) hD hS hA (fun hc0 hc7 x ce q9 H1 locs hF hP hD hS hcell hcv hcl => v_out htab hlocks hcell hcv hcl hF hP hD hS hc0 hc7 (Nat.le_of_ble_eq_true rfl) (Nat.le_of_ble_eq_true rfl)) (fun hc0 x H1 locs hF hP hD hS => ?_)
    exact v_retI hx hb hr hc0 hF hP hD hS rfl (Nat.le_of_ble_eq_true rfl) (Nat.le_of_ble_eq_true rfl) dL_asked_146 hlocks
  · refine lv_tableIn (off := 146) (tgt := 147) hx hb dL_asked_1 (by decide +kernel) (by decide +kernel) (by decide +kernel) (by decide) ?_
    refine lv_aload_n hx hb dL_asked_147 rfl (lv_at hl 0 rfl) ?_
    refine callKV (vx_runV (As := []) (rest := []) ⟨hx, hb, hml, hown, hts⟩ (kv_errorPosition (T := T) hl9 hI hFe a b x _ hF) (cwV 0 hts gL_asked_X7_errorPosition rfl rfl rfl (by decide +kernel) ⟨Nat.le_of_ble_eq_true rfl, Nat.le_of_ble_eq_true rfl⟩) (hloP_v hP hK hE hD hR hX hT9 hV9 hDV hN hC hS (all_F hD hS hA) (kRc (owns := []) hK hP)) rfl rfl hl.1 rfl (lv_room (Nat.le_of_ble_eq_true rfl)) dL_asked_148 ⟨Nat.le_of_ble_eq_true rfl, Nat.le_of_ble_eq_true rfl⟩) hD hS hA (fun hc0 hc7 x ce q9 H1 locs hF hP hD hS hcell hcv hcl => v_out htab hlocks hcell hcv hcl hF hP hD hS hc0 hc7 (Nat.le_of_ble_eq_true rfl) (Nat.le_of_ble_eq_true rfl)) (fun hc0 x H1 locs hF hP hD hS => ?_)
    exact v_retI hx hb hr hc0 hF hP hD hS rfl (Nat.le_of_ble_eq_true rfl) (Nat.le_of_ble_eq_true rfl) dL_asked_151 hlocks
  · refine lv_tableIn (off := 151) (tgt := 152) hx hb dL_asked_1 (by decide +kernel) (by decide +kernel) (by decide +kernel) (by decide) ?_
    refine lv_aload_n hx hb dL_asked_152 rfl (lv_at hl 0 rfl) ?_
    refine callKV (vx_runV (As := []) (rest := []) ⟨hx, hb, hml, hown, hts⟩ (kv_failedCommand (T := T) hl9 hI hFe a b x _ hF) (cwV 0 hts gL_asked_X7_failedCommand rfl rfl rfl (by decide +kernel) ⟨Nat.le_of_ble_eq_true rfl, Nat.le_of_ble_eq_true rfl⟩) (hloP_v hP hK hE hD hR hX hT9 hV9 hDV hN hC hS (all_F hD hS hA) (kRc (owns := []) hK hP)) rfl rfl hl.1 rfl (lv_room (Nat.le_of_ble_eq_true rfl)) dL_asked_153 ⟨Nat.le_of_ble_eq_true rfl, Nat.le_of_ble_eq_true rfl⟩) hD hS hA (fun hc0 hc7 x ce q9 H1 locs hF hP hD hS hcell hcv hcl => v_out htab hlocks hcell hcv hcl hF hP hD hS hc0 hc7 (Nat.le_of_ble_eq_true rfl) (Nat.le_of_ble_eq_true rfl)) (fun hc0 x H1 locs hF hP hD hS => ?_)
    exact v_retI hx hb hr hc0 hF hP hD hS rfl (Nat.le_of_ble_eq_true rfl) (Nat.le_of_ble_eq_true rfl) dL_asked_156 hlocks
  · refine lv_tableIn (off := 156) (tgt := 157) hx hb dL_asked_1 (by decide +kernel) (by decide +kernel) (by decide +kernel) (by decide) ?_
    refine lv_aload_n hx hb dL_asked_157 rfl (lv_at hl 0 rfl) ?_
    refine lv_iload_n hx hb dL_asked_158 rfl (lv_at hl 2 rfl) ?_
    refine callKV (vx_runV (As := [.int a]) (rest := []) ⟨hx, hb, hml, hown, hts⟩ (kv_length (T := T) hl9 hI hFe a b x _ hF) (cwV 1 hts gL_asked_X7_length rfl rfl rfl (by decide +kernel) ⟨Nat.le_of_ble_eq_true rfl, Nat.le_of_ble_eq_true rfl⟩) (hloP_v hP hK hE hD hR hX hT9 hV9 hDV hN hC hS (all_F hD hS hA) (kRc (owns := []) hK hP)) rfl rfl hl.1 rfl (lv_room (Nat.le_of_ble_eq_true rfl)) dL_asked_159 ⟨Nat.le_of_ble_eq_true rfl, Nat.le_of_ble_eq_true rfl⟩) hD hS hA (fun hc0 hc7 x ce q9 H1 locs hF hP hD hS hcell hcv hcl => v_out htab hlocks hcell hcv hcl hF hP hD hS hc0 hc7 (Nat.le_of_ble_eq_true rfl) (Nat.le_of_ble_eq_true rfl)) (fun hc0 x H1 locs hF hP hD hS => ?_)
    exact v_retI hx hb hr hc0 hF hP hD hS rfl (Nat.le_of_ble_eq_true rfl) (Nat.le_of_ble_eq_true rfl) dL_asked_162 hlocks
  · refine lv_tableOut (tgt := 163) hx hb dL_asked_1 (by decide +kernel) (by decide) ?_
    refine lv_aload_n hx hb dL_asked_163 rfl (lv_at hl 0 rfl) ?_
    refine lv_iload_n hx hb dL_asked_164 rfl (lv_at hl 2 rfl) ?_
    refine callKV (vx_runV (As := [.int a]) (rest := []) ⟨hx, hb, hml, hown, hts⟩ (kv_money (T := T) hl9 hI hFe a b x _ hF) (cwV 1 hts gL_asked_X7_money rfl rfl rfl (by decide +kernel) ⟨Nat.le_of_ble_eq_true rfl, Nat.le_of_ble_eq_true rfl⟩) (hloP_v hP hK hE hD hR hX hT9 hV9 hDV hN hC hS (all_F hD hS hA) (kRc (owns := []) hK hP)) rfl rfl hl.1 rfl (lv_room (Nat.le_of_ble_eq_true rfl)) dL_asked_165 ⟨Nat.le_of_ble_eq_true rfl, Nat.le_of_ble_eq_true rfl⟩) hD hS hA (fun hc0 hc7 x ce q9 H1 locs hF hP hD hS hcell hcv hcl => v_out htab hlocks hcell hcv hcl hF hP hD hS hc0 hc7 (Nat.le_of_ble_eq_true rfl) (Nat.le_of_ble_eq_true rfl)) (fun hc0 x H1 locs hF hP hD hS => ?_)
    exact v_retI hx hb hr hc0 hF hP hD hS rfl (Nat.le_of_ble_eq_true rfl) (Nat.le_of_ble_eq_true rfl) dL_asked_168 hlocks
