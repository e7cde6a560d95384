set_option maxRecDepth 20000 in
theorem ggL_arePlayersRight_X7_playerCount : GoodIn wsL_arePlayersRight wsX7_playerCount := goodIn_r _ [5, 6, 415, 416, 417, 418, 419, 420, 421, 422, 423, 424, 425, 426, 427, 428, 429, 430, 431, 432, 433, 434, 435, 436, 437, 438, 439, 440] (by decide +kernel) (by decide +kernel)
set_option maxRecDepth 20000 in
theorem gL_arePlayersRight_X7_playerCount : GoodIn wsL_arePlayersRight (wsV RL 120 RX7 yX7_playerCount wsX7_playerCount) := goodIn_app (goodIn_r _ [1, 2, 3, 4] (by decide +kernel) (by decide +kernel)) ggL_arePlayersRight_X7_playerCount
set_option maxRecDepth 20000 in
theorem ggL_arePlayersRight_X7_bankMoney : GoodIn wsL_arePlayersRight wsX7_bankMoney := goodIn_r _ [10, 6, 415, 416, 417, 418, 419, 420, 421, 422, 423, 424, 425, 426, 427, 428, 429, 430, 431, 432, 433, 434, 435, 436, 437, 438, 439, 440] (by decide +kernel) (by decide +kernel)
set_option maxRecDepth 20000 in
theorem gL_arePlayersRight_X7_bankMoney : GoodIn wsL_arePlayersRight (wsV RL 137 RX7 yX7_bankMoney wsX7_bankMoney) := goodIn_app (goodIn_r _ [7, 8, 9, 4] (by decide +kernel) (by decide +kernel)) ggL_arePlayersRight_X7_bankMoney
set_option maxRecDepth 20000 in
theorem ggL_arePlayersRight_X7_money : GoodIn wsL_arePlayersRight wsX7_money := goodIn_ca (goodIn_ca (goodIn_r _ [320, 6, 112, 113, 114, 4, 115, 27, 28, 116, 117, 118, 31, 119, 120, 415, 416, 417, 418, 419, 420, 421, 422, 423, 424, 425, 426, 427, 428, 429, 430, 431, 432, 433, 434, 435, 436, 437, 438, 439, 440] (by decide +kernel) (by decide +kernel)) (goodIn_sub (fun _ h => List.mem_cons_of_mem _ (List.mem_append_left _ (List.mem_append_left _ (List.mem_append_left _ (List.mem_append_left _ (List.mem_append_left _ (List.mem_append_right _ h))))))) (by decide +kernel))) (goodIn_sub (fun _ h => List.mem_cons_of_mem _ (List.mem_append_left _ (List.mem_append_left _ (List.mem_append_left _ (List.mem_append_left _ (List.mem_append_right _ h)))))) (by decide +kernel))
set_option maxRecDepth 20000 in
theorem gL_arePlayersRight_X7_money : GoodIn wsL_arePlayersRight (wsV RL 106 RX7 yX7_money wsX7_money) := goodIn_app (goodIn_r _ [317, 318, 319, 4] (by decide +kernel) (by decide +kernel)) ggL_arePlayersRight_X7_money
set_option maxRecDepth 20000 in
theorem ggL_arePlayersRight_X7_siteCount : GoodIn wsL_arePlayersRight wsX7_siteCount := goodIn_r _ [324, 6, 415, 416, 417, 418, 419, 420, 421, 422, 423, 424, 425, 426, 427, 428, 429, 430, 431, 432, 433, 434, 435, 436, 437, 438, 439, 440] (by decide +kernel) (by decide +kernel)
set_option maxRecDepth 20000 in
theorem gL_arePlayersRight_X7_siteCount : GoodIn wsL_arePlayersRight (wsV RL 128 RX7 yX7_siteCount wsX7_siteCount) := goodIn_app (goodIn_r _ [321, 322, 323, 4] (by decide +kernel) (by decide +kernel)) ggL_arePlayersRight_X7_siteCount
set_option maxRecDepth 20000 in
theorem ggL_arePlayersRight_L_bid : GoodIn wsL_arePlayersRight wsL_bid := goodIn_ca (goodIn_ca (goodIn_ca (goodIn_ca (goodIn_ca (goodIn_ca (goodIn_r _ [327, 328, 189, 56, 190, 11, 12, 13, 14, 15, 16, 17, 18, 19, 20, 21, 4, 22, 23, 6, 24, 25, 26, 27, 28, 29, 30, 31, 32, 33, 34, 35, 36, 37, 38, 39, 40, 41, 42, 43, 44, 45, 46, 47, 48, 49, 50, 51, 52, 53, 54, 55, 57, 58, 59, 60, 61, 62, 63, 64, 65, 66, 67, 68, 69, 70, 71, 72, 73, 74, 75, 76, 77, 78, 79, 80, 81, 82, 83, 84, 85, 86, 87, 88, 89, 90, 91, 92, 93, 94, 95, 96, 97, 98, 99, 100, 101, 102, 103, 104, 105, 106, 107, 108, 109, 110, 111, 112, 113, 114, 115, 116, 117, 118, 119, 120, 121, 122, 123, 124, 125, 126, 127, 128, 129, 130, 131, 132, 133, 134, 135, 136, 137, 138, 139, 140, 141, 142, 143, 144, 145, 146, 147, 148, 149, 150, 151, 152, 153, 154, 155, 156, 157, 158, 159, 160, 161, 162, 163, 164, 165, 166, 167, 168, 169, 170, 171, 172, 173, 174, 175, 176, 177, 178, 179, 180, 181, 182, 183, 184, 185, 186, 187, 188, 191, 192, 193, 194, 195, 196, 197, 198, 199, 200, 201, 202, 203, 204, 205, 206, 207, 208, 209, 210, 211, 212, 213, 214, 215, 216, 217, 218, 219, 220, 221, 222, 223, 224, 225, 226, 227, 228, 229, 230, 231, 232, 233, 234, 235, 236, 237, 238, 239, 240, 241, 242, 243, 244, 245, 246, 247, 248, 249, 250, 251, 252, 253, 254, 255, 256, 257, 258, 259, 260, 261, 262, 263, 264, 265, 266, 267, 268, 269, 270, 271, 272, 273, 274, 275, 276, 277, 278, 279, 280, 281, 282, 283, 284, 285, 286, 287, 288, 289, 290, 291, 292, 293, 294, 295, 296, 297, 298, 299, 300, 301, 302, 303, 304, 305, 306, 307, 308, 309, 310, 311, 312, 313, 314, 315, 316, 317, 318, 319, 320, 415, 416, 417, 418, 419, 420, 421, 422, 423, 424, 441, 442, 443, 425, 426, 427, 428, 429, 430, 431, 432, 433, 434, 435, 436, 437, 438, 439, 440] (by decide +kernel) (by decide +kernel)) (goodIn_sub (fun _ h => List.mem_cons_of_mem _ (List.mem_append_left _ (List.mem_append_left _ (List.mem_append_left _ (List.mem_append_left _ (List.mem_append_left _ (List.mem_append_right _ h))))))) (by decide +kernel))) (goodIn_sub (fun _ h => List.mem_cons_of_mem _ (List.mem_append_left _ (List.mem_append_left _ (List.mem_append_left _ (List.mem_append_left _ (List.mem_append_right _ h)))))) (by decide +kernel))) (goodIn_sub (fun _ h => List.mem_cons_of_mem _ (List.mem_append_left _ (List.mem_append_left _ (List.mem_append_left _ (List.mem_append_right _ h))))) (by decide +kernel))) (goodIn_sub (fun _ h => List.mem_cons_of_mem _ (List.mem_append_left _ (List.mem_append_left _ (List.mem_append_right _ h)))) (by decide +kernel))) (goodIn_sub (fun _ h => List.mem_cons_of_mem _ (List.mem_append_left _ (List.mem_append_right _ h))) (by decide +kernel))) (goodIn_sub (fun _ h => List.mem_cons_of_mem _ (List.mem_append_right _ h)) (by decide +kernel))
set_option maxRecDepth 20000 in
theorem gL_arePlayersRight_L_bid : GoodIn wsL_arePlayersRight (va_wsS RL 152 yL_bid wsL_bid) := goodIn_app (goodIn_r _ [325, 326, 13] (by decide +kernel) (by decide +kernel)) ggL_arePlayersRight_L_bid
theorem ggL_arePlayersRight_L_ask : GoodIn wsL_arePlayersRight wsL_ask := gd_tr ggL_arePlayersRight_L_bid ggL_bid_L_ask
set_option maxRecDepth 20000 in
theorem gL_arePlayersRight_L_ask : GoodIn wsL_arePlayersRight (va_wsS RL 131 yL_ask wsL_ask) := goodIn_app (goodIn_r _ [11, 12, 13] (by decide +kernel) (by decide +kernel)) ggL_arePlayersRight_L_ask
set_option maxRecDepth 20000 in
theorem ggL_arePlayersRight_X7_availableMoney : GoodIn wsL_arePlayersRight wsX7_availableMoney := goodIn_ca (goodIn_ca (goodIn_r _ [332, 6, 112, 113, 114, 4, 115, 27, 28, 116, 117, 118, 31, 119, 120, 333, 219, 220, 221, 222, 100, 223, 224, 225, 226, 125, 188, 189, 56, 190, 126, 127, 128, 415, 416, 417, 418, 419, 420, 421, 422, 423, 424, 425, 426, 427, 428, 429, 430, 431, 432, 433, 434, 435, 436, 437, 438, 439, 440] (by decide +kernel) (by decide +kernel)) (goodIn_sub (fun _ h => List.mem_cons_of_mem _ (List.mem_append_left _ (List.mem_append_left _ (List.mem_append_left _ (List.mem_append_left _ (List.mem_append_right _ h)))))) (by decide +kernel))) (goodIn_sub (fun _ h => List.mem_cons_of_mem _ (List.mem_append_left _ (List.mem_append_left _ (List.mem_append_left _ (List.mem_append_left _ (List.mem_append_left _ (List.mem_append_right _ h))))))) (by decide +kernel))
set_option maxRecDepth 20000 in
theorem gL_arePlayersRight_X7_availableMoney : GoodIn wsL_arePlayersRight (wsV RL 190 RX7 yX7_availableMoney wsX7_availableMoney) := goodIn_app (goodIn_r _ [329, 330, 331, 4] (by decide +kernel) (by decide +kernel)) ggL_arePlayersRight_X7_availableMoney
set_option maxRecDepth 20000 in
theorem ggL_arePlayersRight_X7_bridgeCount : GoodIn wsL_arePlayersRight wsX7_bridgeCount := goodIn_ca (goodIn_ca (goodIn_r _ [337, 6, 112, 113, 114, 4, 115, 27, 28, 116, 117, 118, 31, 119, 120, 338, 339, 340, 341, 100, 68, 415, 416, 417, 418, 419, 420, 421, 422, 423, 424, 425, 426, 427, 428, 429, 430, 431, 432, 433, 434, 435, 436, 437, 438, 439, 440] (by decide +kernel) (by decide +kernel)) (goodIn_sub (fun _ h => List.mem_cons_of_mem _ (List.mem_append_left _ (List.mem_append_left _ (List.mem_append_left _ (List.mem_append_left _ (List.mem_append_right _ h)))))) (by decide +kernel))) (goodIn_sub (fun _ h => List.mem_cons_of_mem _ (List.mem_append_left _ (List.mem_append_left _ (List.mem_append_left _ (List.mem_append_left _ (List.mem_append_left _ (List.mem_append_right _ h))))))) (by decide +kernel))
set_option maxRecDepth 20000 in
theorem gL_arePlayersRight_X7_bridgeCount : GoodIn wsL_arePlayersRight (wsV RL 193 RX7 yX7_bridgeCount wsX7_bridgeCount) := goodIn_app (goodIn_r _ [334, 335, 336, 4] (by decide +kernel) (by decide +kernel)) ggL_arePlayersRight_X7_bridgeCount
set_option maxRecDepth 20000 in
theorem ggL_arePlayersRight_X7_score : GoodIn wsL_arePlayersRight wsX7_score := goodIn_ca (goodIn_ca (goodIn_r _ [345, 6, 112, 113, 114, 4, 115, 27, 28, 116, 117, 118, 31, 119, 120, 346, 296, 297, 298, 100, 68, 269, 232, 62, 63, 415, 416, 417, 418, 419, 420, 421, 422, 423, 424, 425, 426, 427, 428, 429, 430, 431, 432, 433, 434, 435, 436, 437, 438, 439, 440] (by decide +kernel) (by decide +kernel)) (goodIn_sub (fun _ h => List.mem_cons_of_mem _ (List.mem_append_left _ (List.mem_append_left _ (List.mem_append_left _ (List.mem_append_left _ (List.mem_append_right _ h)))))) (by decide +kernel))) (goodIn_sub (fun _ h => List.mem_cons_of_mem _ (List.mem_append_left _ (List.mem_append_left _ (List.mem_append_left _ (List.mem_append_left _ (List.mem_append_left _ (List.mem_append_right _ h))))))) (by decide +kernel))
set_option maxRecDepth 20000 in
theorem gL_arePlayersRight_X7_score : GoodIn wsL_arePlayersRight (wsV RL 196 RX7 yX7_score wsX7_score) := goodIn_app (goodIn_r _ [342, 343, 344, 4] (by decide +kernel) (by decide +kernel)) ggL_arePlayersRight_X7_score
set_option maxRecDepth 20000 in
theorem ggL_arePlayersRight_L_score : GoodIn wsL_arePlayersRight wsL_score := goodIn_ca (goodIn_ca (goodIn_ca (goodIn_ca (goodIn_ca (goodIn_ca (goodIn_r _ [349, 321, 322, 323, 4, 324, 6, 350, 351, 352, 353, 92, 93, 94, 95, 27, 28, 96, 97, 98, 31, 99, 100, 354, 355, 356, 357, 24, 25, 26, 29, 30, 32, 358, 359, 360, 361, 11, 12, 13, 14, 15, 16, 17, 18, 19, 20, 21, 22, 23, 33, 34, 35, 36, 37, 38, 39, 40, 41, 42, 43, 44, 45, 46, 47, 48, 49, 50, 51, 52, 53, 54, 55, 56, 57, 58, 59, 60, 61, 62, 63, 64, 65, 66, 67, 68, 69, 70, 71, 72, 73, 74, 75, 76, 77, 78, 79, 80, 81, 82, 83, 84, 85, 86, 87, 88, 89, 90, 91, 101, 102, 103, 104, 105, 106, 107, 108, 109, 110, 111, 112, 113, 114, 115, 116, 117, 118, 119, 120, 121, 122, 123, 124, 125, 126, 127, 128, 129, 130, 131, 132, 133, 134, 135, 136, 137, 138, 139, 140, 141, 142, 143, 144, 145, 146, 147, 148, 149, 150, 151, 152, 153, 154, 155, 156, 157, 158, 159, 160, 161, 162, 163, 164, 165, 166, 167, 168, 169, 170, 171, 172, 173, 174, 175, 176, 177, 178, 179, 180, 181, 182, 183, 184, 185, 186, 187, 188, 189, 190, 191, 192, 193, 194, 195, 196, 197, 198, 199, 200, 201, 202, 203, 204, 205, 206, 207, 208, 209, 210, 211, 212, 213, 214, 215, 216, 217, 218, 219, 220, 221, 222, 223, 224, 225, 226, 227, 228, 229, 230, 231, 232, 233, 234, 235, 236, 237, 238, 239, 240, 241, 242, 243, 244, 245, 246, 247, 248, 249, 250, 251, 252, 253, 254, 255, 256, 257, 258, 259, 260, 261, 262, 263, 264, 265, 266, 267, 268, 269, 270, 271, 272, 273, 274, 275, 276, 277, 278, 279, 280, 281, 282, 283, 284, 285, 286, 287, 288, 289, 290, 291, 292, 293, 294, 295, 296, 297, 298, 299, 300, 301, 302, 303, 304, 305, 306, 307, 308, 309, 310, 311, 312, 313, 314, 315, 316, 317, 318, 319, 320, 415, 416, 417, 418, 419, 420, 421, 422, 423, 424, 425, 426, 427, 428, 429, 430, 431, 432, 433, 434, 435, 436, 437, 438, 439, 440, 441, 442, 443] (by decide +kernel) (by decide +kernel)) (goodIn_sub (fun _ h => List.mem_cons_of_mem _ (List.mem_append_left _ (List.mem_append_left _ (List.mem_append_left _ (List.mem_append_left _ (List.mem_append_left _ (List.mem_append_right _ h))))))) (by decide +kernel))) (goodIn_sub (fun _ h => List.mem_cons_of_mem _ (List.mem_append_left _ (List.mem_append_left _ (List.mem_append_left _ (List.mem_append_left _ (List.mem_append_right _ h)))))) (by decide +kernel))) (goodIn_sub (fun _ h => List.mem_cons_of_mem _ (List.mem_append_left _ (List.mem_append_left _ (List.mem_append_left _ (List.mem_append_right _ h))))) (by decide +kernel))) (goodIn_sub (fun _ h => List.mem_cons_of_mem _ (List.mem_append_left _ (List.mem_append_left _ (List.mem_append_right _ h)))) (by decide +kernel))) (goodIn_sub (fun _ h => List.mem_cons_of_mem _ (List.mem_append_left _ (List.mem_append_right _ h))) (by decide +kernel))) (goodIn_sub (fun _ h => List.mem_cons_of_mem _ (List.mem_append_right _ h)) (by decide +kernel))
set_option maxRecDepth 20000 in
theorem gL_arePlayersRight_L_score : GoodIn wsL_arePlayersRight (va_wsS RL 199 yL_score wsL_score) := goodIn_app (goodIn_r _ [347, 348, 13] (by decide +kernel) (by decide +kernel)) ggL_arePlayersRight_L_score
set_option maxRecDepth 20000 in
theorem ggL_arePlayersRight_X7_playerByScore : GoodIn wsL_arePlayersRight wsX7_playerByScore := goodIn_ca (goodIn_ca (goodIn_r _ [282, 6, 283, 284, 285, 31, 286, 120, 287, 288, 289, 290, 291, 292, 293, 294, 222, 295, 296, 297, 298, 100, 68, 269, 232, 62, 63, 299, 300, 301, 302, 101, 102, 4, 103, 72, 73, 415, 416, 417, 418, 419, 420, 421, 422, 423, 424, 425, 426, 427, 428, 429, 430, 431, 432, 433, 434, 435, 436, 437, 438, 439, 440] (by decide +kernel) (by decide +kernel)) (goodIn_sub (fun _ h => List.mem_cons_of_mem _ (List.mem_append_left _ (List.mem_append_left _ (List.mem_append_left _ (List.mem_append_left _ (List.mem_append_left _ (List.mem_append_right _ h))))))) (by decide +kernel))) (goodIn_sub (fun _ h => List.mem_cons_of_mem _ (List.mem_append_left _ (List.mem_append_left _ (List.mem_append_left _ (List.mem_append_right _ h))))) (by decide +kernel))
set_option maxRecDepth 20000 in
theorem gL_arePlayersRight_X7_playerByScore : GoodIn wsL_arePlayersRight (wsV RL 94 RX7 yX7_playerByScore wsX7_playerByScore) := goodIn_app (goodIn_r _ [279, 280, 281, 4] (by decide +kernel) (by decide +kernel)) ggL_arePlayersRight_X7_playerByScore
set_option maxRecDepth 20000 in
theorem ggL_arePlayersRight_X7_isConsistent : GoodIn wsL_arePlayersRight wsX7_isConsistent := goodIn_ca (goodIn_r _ [365, 23, 6, 366, 367, 368, 36, 369, 38, 82, 370, 34, 35, 37, 39, 40, 41, 42, 43, 44, 45, 46, 47, 48, 49, 50, 51, 52, 53, 54, 55, 56, 57, 58, 59, 60, 31, 61, 62, 63, 64, 65, 66, 67, 68, 371, 79, 80, 81, 83, 84, 85, 86, 87, 372, 373, 374, 375, 376, 377, 378, 379, 380, 381, 382, 383, 384, 385, 386, 387, 388, 389, 390, 391, 392, 393, 394, 395, 396, 397, 398, 399, 400, 401, 402, 403, 404, 405, 406, 407, 408, 120, 218, 219, 220, 221, 222, 100, 223, 224, 225, 226, 125, 188, 189, 190, 126, 127, 128, 409, 410, 411, 412, 413, 414, 415, 416, 417, 418, 419, 420, 421, 422, 423, 424, 441, 442, 443, 425, 426, 427, 428, 429, 430, 431, 432, 433, 434, 435, 436, 437, 438, 439, 440] (by decide +kernel) (by decide +kernel)) (goodIn_sub (fun _ h => List.mem_cons_of_mem _ (List.mem_append_left _ (List.mem_append_left _ (List.mem_append_left _ (List.mem_append_left _ (List.mem_append_left _ (List.mem_append_right _ h))))))) (by decide +kernel))
set_option maxRecDepth 20000 in
theorem gL_arePlayersRight_X7_isConsistent : GoodIn wsL_arePlayersRight (wsV RL 202 RX7 yX7_isConsistent wsX7_isConsistent) := goodIn_app (goodIn_r _ [362, 363, 364, 4] (by decide +kernel) (by decide +kernel)) ggL_arePlayersRight_X7_isConsistent
theorem dL_arePlayersRight_0 : decode cL_arePlayersRight 0 = .ok (.aload_n 0, 1) := by decide +kernel
theorem dL_arePlayersRight_1 : decode cL_arePlayersRight 1 = .ok (.invokevirtual 120, 3) := by decide +kernel
theorem dL_arePlayersRight_4 : decode cL_arePlayersRight 4 = .ok (.istore_n 2, 1) := by decide +kernel
theorem dL_arePlayersRight_5 : decode cL_arePlayersRight 5 = .ok (.aload_n 0, 1) := by decide +kernel
theorem dL_arePlayersRight_6 : decode cL_arePlayersRight 6 = .ok (.invokevirtual 137, 3) := by decide +kernel
theorem dL_arePlayersRight_9 : decode cL_arePlayersRight 9 = .ok (.istore_n 3, 1) := by decide +kernel
theorem dL_arePlayersRight_10 : decode cL_arePlayersRight 10 = .ok (.aload_n 0, 1) := by decide +kernel
theorem dL_arePlayersRight_11 : decode cL_arePlayersRight 11 = .ok (.bipush 9, 2) := by decide +kernel
theorem dL_arePlayersRight_13 : decode cL_arePlayersRight 13 = .ok (.iload_n 2, 1) := by decide +kernel
theorem dL_arePlayersRight_14 : decode cL_arePlayersRight 14 = .ok (.iconst 0, 1) := by decide +kernel
theorem dL_arePlayersRight_15 : decode cL_arePlayersRight 15 = .ok (.invokestatic 131, 3) := by decide +kernel
theorem dL_arePlayersRight_18 : decode cL_arePlayersRight 18 = .ok (.sipush (-2004), 3) := by decide +kernel
theorem dL_arePlayersRight_21 : decode cL_arePlayersRight 21 = .ok (.if_icmp .ne 35, 3) := by decide +kernel
theorem dL_arePlayersRight_24 : decode cL_arePlayersRight 24 = .ok (.aload_n 0, 1) := by decide +kernel
theorem dL_arePlayersRight_25 : decode cL_arePlayersRight 25 = .ok (.bipush 9, 2) := by decide +kernel
theorem dL_arePlayersRight_27 : decode cL_arePlayersRight 27 = .ok (.iconst (-1), 1) := by decide +kernel
theorem dL_arePlayersRight_28 : decode cL_arePlayersRight 28 = .ok (.iconst 0, 1) := by decide +kernel
theorem dL_arePlayersRight_29 : decode cL_arePlayersRight 29 = .ok (.invokestatic 131, 3) := by decide +kernel
theorem dL_arePlayersRight_32 : decode cL_arePlayersRight 32 = .ok (.sipush (-2004), 3) := by decide +kernel
theorem dL_arePlayersRight_35 : decode cL_arePlayersRight 35 = .ok (.if_icmp .ne 21, 3) := by decide +kernel
theorem dL_arePlayersRight_38 : decode cL_arePlayersRight 38 = .ok (.aload_n 0, 1) := by decide +kernel
theorem dL_arePlayersRight_39 : decode cL_arePlayersRight 39 = .ok (.bipush 13, 2) := by decide +kernel
theorem dL_arePlayersRight_41 : decode cL_arePlayersRight 41 = .ok (.iload_n 2, 1) := by decide +kernel
theorem dL_arePlayersRight_42 : decode cL_arePlayersRight 42 = .ok (.iconst 0, 1) := by decide +kernel
theorem dL_arePlayersRight_43 : decode cL_arePlayersRight 43 = .ok (.invokestatic 131, 3) := by decide +kernel
theorem dL_arePlayersRight_46 : decode cL_arePlayersRight 46 = .ok (.sipush (-2002), 3) := by decide +kernel
theorem dL_arePlayersRight_49 : decode cL_arePlayersRight 49 = .ok (.if_icmp .ne 7, 3) := by decide +kernel
theorem dL_arePlayersRight_52 : decode cL_arePlayersRight 52 = .ok (.iconst 1, 1) := by decide +kernel
theorem dL_arePlayersRight_53 : decode cL_arePlayersRight 53 = .ok (.goto 4, 3) := by decide +kernel
theorem dL_arePlayersRight_56 : decode cL_arePlayersRight 56 = .ok (.iconst 0, 1) := by decide +kernel
theorem dL_arePlayersRight_57 : decode cL_arePlayersRight 57 = .ok (.istore 4, 2) := by decide +kernel
theorem dL_arePlayersRight_59 : decode cL_arePlayersRight 59 = .ok (.iconst 0, 1) := by decide +kernel
theorem dL_arePlayersRight_60 : decode cL_arePlayersRight 60 = .ok (.istore 5, 2) := by decide +kernel
theorem dL_arePlayersRight_62 : decode cL_arePlayersRight 62 = .ok (.iload 5, 2) := by decide +kernel
theorem dL_arePlayersRight_64 : decode cL_arePlayersRight 64 = .ok (.iload_n 2, 1) := by decide +kernel
theorem dL_arePlayersRight_65 : decode cL_arePlayersRight 65 = .ok (.if_icmp .ge 153, 3) := by decide +kernel
theorem dL_arePlayersRight_68 : decode cL_arePlayersRight 68 = .ok (.aload_n 0, 1) := by decide +kernel
theorem dL_arePlayersRight_69 : decode cL_arePlayersRight 69 = .ok (.iload 5, 2) := by decide +kernel
theorem dL_arePlayersRight_71 : decode cL_arePlayersRight 71 = .ok (.invokevirtual 106, 3) := by decide +kernel
theorem dL_arePlayersRight_74 : decode cL_arePlayersRight 74 = .ok (.istore 6, 2) := by decide +kernel
theorem dL_arePlayersRight_76 : decode cL_arePlayersRight 76 = .ok (.iconst 0, 1) := by decide +kernel
theorem dL_arePlayersRight_77 : decode cL_arePlayersRight 77 = .ok (.istore 7, 2) := by decide +kernel
theorem dL_arePlayersRight_79 : decode cL_arePlayersRight 79 = .ok (.iconst 0, 1) := by decide +kernel
theorem dL_arePlayersRight_80 : decode cL_arePlayersRight 80 = .ok (.istore 8, 2) := by decide +kernel
theorem dL_arePlayersRight_82 : decode cL_arePlayersRight 82 = .ok (.iload 8, 2) := by decide +kernel
theorem dL_arePlayersRight_84 : decode cL_arePlayersRight 84 = .ok (.aload_n 0, 1) := by decide +kernel
theorem dL_arePlayersRight_85 : decode cL_arePlayersRight 85 = .ok (.invokevirtual 128, 3) := by decide +kernel
theorem dL_arePlayersRight_88 : decode cL_arePlayersRight 88 = .ok (.if_icmp .ge 61, 3) := by decide +kernel
theorem dL_arePlayersRight_91 : decode cL_arePlayersRight 91 = .ok (.iload 6, 2) := by decide +kernel
theorem dL_arePlayersRight_93 : decode cL_arePlayersRight 93 = .ok (.aload_n 0, 1) := by decide +kernel
theorem dL_arePlayersRight_94 : decode cL_arePlayersRight 94 = .ok (.iconst 4, 1) := by decide +kernel
theorem dL_arePlayersRight_95 : decode cL_arePlayersRight 95 = .ok (.iload 5, 2) := by decide +kernel
theorem dL_arePlayersRight_97 : decode cL_arePlayersRight 97 = .ok (.iload 8, 2) := by decide +kernel
theorem dL_arePlayersRight_99 : decode cL_arePlayersRight 99 = .ok (.invokestatic 131, 3) := by decide +kernel
theorem dL_arePlayersRight_102 : decode cL_arePlayersRight 102 = .ok (.ifCond .ne 14, 3) := by decide +kernel
theorem dL_arePlayersRight_105 : decode cL_arePlayersRight 105 = .ok (.aload_n 0, 1) := by decide +kernel
theorem dL_arePlayersRight_106 : decode cL_arePlayersRight 106 = .ok (.iload 5, 2) := by decide +kernel
theorem dL_arePlayersRight_108 : decode cL_arePlayersRight 108 = .ok (.iload 8, 2) := by decide +kernel
theorem dL_arePlayersRight_110 : decode cL_arePlayersRight 110 = .ok (.invokestatic 152, 3) := by decide +kernel
theorem dL_arePlayersRight_113 : decode cL_arePlayersRight 113 = .ok (.goto 4, 3) := by decide +kernel
theorem dL_arePlayersRight_116 : decode cL_arePlayersRight 116 = .ok (.iconst 0, 1) := by decide +kernel
theorem dL_arePlayersRight_117 : decode cL_arePlayersRight 117 = .ok (.isub, 1) := by decide +kernel
theorem dL_arePlayersRight_118 : decode cL_arePlayersRight 118 = .ok (.istore 6, 2) := by decide +kernel
theorem dL_arePlayersRight_120 : decode cL_arePlayersRight 120 = .ok (.iload 7, 2) := by decide +kernel
theorem dL_arePlayersRight_122 : decode cL_arePlayersRight 122 = .ok (.aload_n 0, 1) := by decide +kernel
theorem dL_arePlayersRight_123 : decode cL_arePlayersRight 123 = .ok (.iconst 2, 1) := by decide +kernel
theorem dL_arePlayersRight_124 : decode cL_arePlayersRight 124 = .ok (.iload 8, 2) := by decide +kernel
theorem dL_arePlayersRight_126 : decode cL_arePlayersRight 126 = .ok (.iconst 0, 1) := by decide +kernel
theorem dL_arePlayersRight_127 : decode cL_arePlayersRight 127 = .ok (.invokestatic 131, 3) := by decide +kernel
theorem dL_arePlayersRight_130 : decode cL_arePlayersRight 130 = .ok (.iload 5, 2) := by decide +kernel
theorem dL_arePlayersRight_132 : decode cL_arePlayersRight 132 = .ok (.if_icmp .ne 7, 3) := by decide +kernel
theorem dL_arePlayersRight_135 : decode cL_arePlayersRight 135 = .ok (.iconst 1, 1) := by decide +kernel
theorem dL_arePlayersRight_136 : decode cL_arePlayersRight 136 = .ok (.goto 4, 3) := by decide +kernel
theorem dL_arePlayersRight_139 : decode cL_arePlayersRight 139 = .ok (.iconst 0, 1) := by decide +kernel
theorem dL_arePlayersRight_140 : decode cL_arePlayersRight 140 = .ok (.iadd, 1) := by decide +kernel
theorem dL_arePlayersRight_141 : decode cL_arePlayersRight 141 = .ok (.istore 7, 2) := by decide +kernel
theorem dL_arePlayersRight_143 : decode cL_arePlayersRight 143 = .ok (.iinc 8 1, 3) := by decide +kernel
theorem dL_arePlayersRight_146 : decode cL_arePlayersRight 146 = .ok (.goto (-64), 3) := by decide +kernel
theorem dL_arePlayersRight_149 : decode cL_arePlayersRight 149 = .ok (.iload_n 3, 1) := by decide +kernel
theorem dL_arePlayersRight_150 : decode cL_arePlayersRight 150 = .ok (.aload_n 0, 1) := by decide +kernel
theorem dL_arePlayersRight_151 : decode cL_arePlayersRight 151 = .ok (.iload 5, 2) := by decide +kernel
theorem dL_arePlayersRight_153 : decode cL_arePlayersRight 153 = .ok (.invokevirtual 106, 3) := by decide +kernel
theorem dL_arePlayersRight_156 : decode cL_arePlayersRight 156 = .ok (.iadd, 1) := by decide +kernel
theorem dL_arePlayersRight_157 : decode cL_arePlayersRight 157 = .ok (.istore_n 3, 1) := by decide +kernel
theorem dL_arePlayersRight_158 : decode cL_arePlayersRight 158 = .ok (.iload 4, 2) := by decide +kernel
theorem dL_arePlayersRight_160 : decode cL_arePlayersRight 160 = .ok (.ifCond .eq 49, 3) := by decide +kernel
theorem dL_arePlayersRight_163 : decode cL_arePlayersRight 163 = .ok (.aload_n 0, 1) := by decide +kernel
theorem dL_arePlayersRight_164 : decode cL_arePlayersRight 164 = .ok (.iload 5, 2) := by decide +kernel
theorem dL_arePlayersRight_166 : decode cL_arePlayersRight 166 = .ok (.invokevirtual 190, 3) := by decide +kernel
theorem dL_arePlayersRight_169 : decode cL_arePlayersRight 169 = .ok (.iload 6, 2) := by decide +kernel
theorem dL_arePlayersRight_171 : decode cL_arePlayersRight 171 = .ok (.if_icmp .ne 38, 3) := by decide +kernel
theorem dL_arePlayersRight_174 : decode cL_arePlayersRight 174 = .ok (.iload 6, 2) := by decide +kernel
theorem dL_arePlayersRight_176 : decode cL_arePlayersRight 176 = .ok (.ifCond .lt 33, 3) := by decide +kernel
theorem dL_arePlayersRight_179 : decode cL_arePlayersRight 179 = .ok (.aload_n 0, 1) := by decide +kernel
theorem dL_arePlayersRight_180 : decode cL_arePlayersRight 180 = .ok (.iload 5, 2) := by decide +kernel
theorem dL_arePlayersRight_182 : decode cL_arePlayersRight 182 = .ok (.invokevirtual 193, 3) := by decide +kernel
theorem dL_arePlayersRight_185 : decode cL_arePlayersRight 185 = .ok (.iload 7, 2) := by decide +kernel
theorem dL_arePlayersRight_187 : decode cL_arePlayersRight 187 = .ok (.if_icmp .ne 22, 3) := by decide +kernel
theorem dL_arePlayersRight_190 : decode cL_arePlayersRight 190 = .ok (.aload_n 0, 1) := by decide +kernel
theorem dL_arePlayersRight_191 : decode cL_arePlayersRight 191 = .ok (.iload 5, 2) := by decide +kernel
theorem dL_arePlayersRight_193 : decode cL_arePlayersRight 193 = .ok (.invokevirtual 196, 3) := by decide +kernel
theorem dL_arePlayersRight_196 : decode cL_arePlayersRight 196 = .ok (.aload_n 0, 1) := by decide +kernel
theorem dL_arePlayersRight_197 : decode cL_arePlayersRight 197 = .ok (.iload 5, 2) := by decide +kernel
theorem dL_arePlayersRight_199 : decode cL_arePlayersRight 199 = .ok (.invokestatic 199, 3) := by decide +kernel
theorem dL_arePlayersRight_202 : decode cL_arePlayersRight 202 = .ok (.if_icmp .ne 7, 3) := by decide +kernel
theorem dL_arePlayersRight_205 : decode cL_arePlayersRight 205 = .ok (.iconst 1, 1) := by decide +kernel
theorem dL_arePlayersRight_206 : decode cL_arePlayersRight 206 = .ok (.goto 4, 3) := by decide +kernel
theorem dL_arePlayersRight_209 : decode cL_arePlayersRight 209 = .ok (.iconst 0, 1) := by decide +kernel
theorem dL_arePlayersRight_210 : decode cL_arePlayersRight 210 = .ok (.istore 4, 2) := by decide +kernel
theorem dL_arePlayersRight_212 : decode cL_arePlayersRight 212 = .ok (.iinc 5 1, 3) := by decide +kernel
theorem dL_arePlayersRight_215 : decode cL_arePlayersRight 215 = .ok (.goto (-153), 3) := by decide +kernel
theorem dL_arePlayersRight_218 : decode cL_arePlayersRight 218 = .ok (.iconst 0, 1) := by decide +kernel
theorem dL_arePlayersRight_219 : decode cL_arePlayersRight 219 = .ok (.istore 5, 2) := by decide +kernel
theorem dL_arePlayersRight_221 : decode cL_arePlayersRight 221 = .ok (.iload 5, 2) := by decide +kernel
theorem dL_arePlayersRight_223 : decode cL_arePlayersRight 223 = .ok (.iconst 1, 1) := by decide +kernel
theorem dL_arePlayersRight_224 : decode cL_arePlayersRight 224 = .ok (.iadd, 1) := by decide +kernel
theorem dL_arePlayersRight_225 : decode cL_arePlayersRight 225 = .ok (.iload_n 2, 1) := by decide +kernel
theorem dL_arePlayersRight_226 : decode cL_arePlayersRight 226 = .ok (.if_icmp .ge 96, 3) := by decide +kernel
theorem dL_arePlayersRight_229 : decode cL_arePlayersRight 229 = .ok (.aload_n 0, 1) := by decide +kernel
theorem dL_arePlayersRight_230 : decode cL_arePlayersRight 230 = .ok (.iload 5, 2) := by decide +kernel
theorem dL_arePlayersRight_232 : decode cL_arePlayersRight 232 = .ok (.invokevirtual 94, 3) := by decide +kernel
theorem dL_arePlayersRight_235 : decode cL_arePlayersRight 235 = .ok (.istore 6, 2) := by decide +kernel
theorem dL_arePlayersRight_237 : decode cL_arePlayersRight 237 = .ok (.aload_n 0, 1) := by decide +kernel
theorem dL_arePlayersRight_238 : decode cL_arePlayersRight 238 = .ok (.iload 5, 2) := by decide +kernel
theorem dL_arePlayersRight_240 : decode cL_arePlayersRight 240 = .ok (.iconst 1, 1) := by decide +kernel
theorem dL_arePlayersRight_241 : decode cL_arePlayersRight 241 = .ok (.iadd, 1) := by decide +kernel
theorem dL_arePlayersRight_242 : decode cL_arePlayersRight 242 = .ok (.invokevirtual 94, 3) := by decide +kernel
theorem dL_arePlayersRight_245 : decode cL_arePlayersRight 245 = .ok (.istore 7, 2) := by decide +kernel
theorem dL_arePlayersRight_247 : decode cL_arePlayersRight 247 = .ok (.aload_n 0, 1) := by decide +kernel
theorem dL_arePlayersRight_248 : decode cL_arePlayersRight 248 = .ok (.iload 6, 2) := by decide +kernel
theorem dL_arePlayersRight_250 : decode cL_arePlayersRight 250 = .ok (.invokevirtual 196, 3) := by decide +kernel
theorem dL_arePlayersRight_253 : decode cL_arePlayersRight 253 = .ok (.aload_n 0, 1) := by decide +kernel
theorem dL_arePlayersRight_254 : decode cL_arePlayersRight 254 = .ok (.iload 7, 2) := by decide +kernel
theorem dL_arePlayersRight_256 : decode cL_arePlayersRight 256 = .ok (.invokevirtual 196, 3) := by decide +kernel
theorem dL_arePlayersRight_259 : decode cL_arePlayersRight 259 = .ok (.isub, 1) := by decide +kernel
theorem dL_arePlayersRight_260 : decode cL_arePlayersRight 260 = .ok (.istore 8, 2) := by decide +kernel
theorem dL_arePlayersRight_262 : decode cL_arePlayersRight 262 = .ok (.aload_n 0, 1) := by decide +kernel
theorem dL_arePlayersRight_263 : decode cL_arePlayersRight 263 = .ok (.iload 6, 2) := by decide +kernel
theorem dL_arePlayersRight_265 : decode cL_arePlayersRight 265 = .ok (.invokevirtual 106, 3) := by decide +kernel
theorem dL_arePlayersRight_268 : decode cL_arePlayersRight 268 = .ok (.aload_n 0, 1) := by decide +kernel
theorem dL_arePlayersRight_269 : decode cL_arePlayersRight 269 = .ok (.iload 7, 2) := by decide +kernel
theorem dL_arePlayersRight_271 : decode cL_arePlayersRight 271 = .ok (.invokevirtual 106, 3) := by decide +kernel
theorem dL_arePlayersRight_274 : decode cL_arePlayersRight 274 = .ok (.isub, 1) := by decide +kernel
theorem dL_arePlayersRight_275 : decode cL_arePlayersRight 275 = .ok (.istore 9, 2) := by decide +kernel
theorem dL_arePlayersRight_277 : decode cL_arePlayersRight 277 = .ok (.iload 4, 2) := by decide +kernel
theorem dL_arePlayersRight_279 : decode cL_arePlayersRight 279 = .ok (.ifCond .eq 34, 3) := by decide +kernel
theorem dL_arePlayersRight_282 : decode cL_arePlayersRight 282 = .ok (.iload 8, 2) := by decide +kernel
theorem dL_arePlayersRight_284 : decode cL_arePlayersRight 284 = .ok (.ifCond .gt 25, 3) := by decide +kernel
theorem dL_arePlayersRight_287 : decode cL_arePlayersRight 287 = .ok (.iload 8, 2) := by decide +kernel
theorem dL_arePlayersRight_289 : decode cL_arePlayersRight 289 = .ok (.ifCond .ne 24, 3) := by decide +kernel
theorem dL_arePlayersRight_292 : decode cL_arePlayersRight 292 = .ok (.iload 9, 2) := by decide +kernel
theorem dL_arePlayersRight_294 : decode cL_arePlayersRight 294 = .ok (.ifCond .gt 15, 3) := by decide +kernel
theorem dL_arePlayersRight_297 : decode cL_arePlayersRight 297 = .ok (.iload 9, 2) := by decide +kernel
theorem dL_arePlayersRight_299 : decode cL_arePlayersRight 299 = .ok (.ifCond .ne 14, 3) := by decide +kernel
theorem dL_arePlayersRight_302 : decode cL_arePlayersRight 302 = .ok (.iload 6, 2) := by decide +kernel
theorem dL_arePlayersRight_304 : decode cL_arePlayersRight 304 = .ok (.iload 7, 2) := by decide +kernel
theorem dL_arePlayersRight_306 : decode cL_arePlayersRight 306 = .ok (.if_icmp .ge 7, 3) := by decide +kernel
theorem dL_arePlayersRight_309 : decode cL_arePlayersRight 309 = .ok (.iconst 1, 1) := by decide +kernel
theorem dL_arePlayersRight_310 : decode cL_arePlayersRight 310 = .ok (.goto 4, 3) := by decide +kernel
theorem dL_arePlayersRight_313 : decode cL_arePlayersRight 313 = .ok (.iconst 0, 1) := by decide +kernel
theorem dL_arePlayersRight_314 : decode cL_arePlayersRight 314 = .ok (.istore 4, 2) := by decide +kernel
theorem dL_arePlayersRight_316 : decode cL_arePlayersRight 316 = .ok (.iinc 5 1, 3) := by decide +kernel
theorem dL_arePlayersRight_319 : decode cL_arePlayersRight 319 = .ok (.goto (-98), 3) := by decide +kernel
theorem dL_arePlayersRight_322 : decode cL_arePlayersRight 322 = .ok (.iload 4, 2) := by decide +kernel
theorem dL_arePlayersRight_324 : decode cL_arePlayersRight 324 = .ok (.ifCond .eq 19, 3) := by decide +kernel
theorem dL_arePlayersRight_327 : decode cL_arePlayersRight 327 = .ok (.iload_n 3, 1) := by decide +kernel
theorem dL_arePlayersRight_328 : decode cL_arePlayersRight 328 = .ok (.iload_n 1, 1) := by decide +kernel
theorem dL_arePlayersRight_329 : decode cL_arePlayersRight 329 = .ok (.if_icmp .ne 14, 3) := by decide +kernel
theorem dL_arePlayersRight_332 : decode cL_arePlayersRight 332 = .ok (.aload_n 0, 1) := by decide +kernel
theorem dL_arePlayersRight_333 : decode cL_arePlayersRight 333 = .ok (.invokevirtual 202, 3) := by decide +kernel
theorem dL_arePlayersRight_336 : decode cL_arePlayersRight 336 = .ok (.ifCond .eq 7, 3) := by decide +kernel
theorem dL_arePlayersRight_339 : decode cL_arePlayersRight 339 = .ok (.iconst 1, 1) := by decide +kernel
theorem dL_arePlayersRight_340 : decode cL_arePlayersRight 340 = .ok (.goto 4, 3) := by decide +kernel
theorem dL_arePlayersRight_343 : decode cL_arePlayersRight 343 = .ok (.iconst 0, 1) := by decide +kernel
theorem dL_arePlayersRight_344 : decode cL_arePlayersRight 344 = .ok (.ireturn, 1) := by decide +kernel
def f_L_arePlayersRight_j344  (s0_344 : Bool) : Bool := s0_344
def f_L_arePlayersRight_j343  : Bool := (f_L_arePlayersRight_j344 (false))
def f_L_arePlayersRight_j314  (v3_314 : Int32) (s0_314 : Bool) : Sum (Bool) (Int32 × Bool) := (Sum.inr (v3_314, s0_314))
def f_L_arePlayersRight_j313  (v3_313 : Int32) : Sum (Bool) (Int32 × Bool) := (f_L_arePlayersRight_j314 (v3_313) (false))
def f_L_arePlayersRight_j309  (v3_309 : Int32) : Sum (Bool) (Int32 × Bool) := (f_L_arePlayersRight_j314 (v3_309) (true))
def f_L_arePlayersRight_l221b (K : CT) (w : Int32) (k221 : Nat) (v3_221 : Int32) (v4_221 : Bool) : Sum (Bool) (Int32 × Bool) := (if v4_221 = true then (if 0 < ((f_X1_scoreOf (kG K) (nI (kRk (kG K) k221))) - (f_X1_scoreOf (kG K) (nI (kRk (kG K) (k221 + 1))))) then (f_L_arePlayersRight_j309 (v3_221)) else (if ((f_X1_scoreOf (kG K) (nI (kRk (kG K) k221))) - (f_X1_scoreOf (kG K) (nI (kRk (kG K) (k221 + 1))))) = 0 then (if 0 < ((gMon (kG K) (kRk (kG K) k221)) - (gMon (kG K) (kRk (kG K) (k221 + 1)))) then (f_L_arePlayersRight_j309 (v3_221)) else (if ((gMon (kG K) (kRk (kG K) k221)) - (gMon (kG K) (kRk (kG K) (k221 + 1)))) = 0 then (if (nI (kRk (kG K) (k221 + 1))) ≤ (nI (kRk (kG K) k221)) then (f_L_arePlayersRight_j313 (v3_221)) else (f_L_arePlayersRight_j309 (v3_221))) else (f_L_arePlayersRight_j313 (v3_221)))) else (f_L_arePlayersRight_j313 (v3_221)))) else (f_L_arePlayersRight_j313 (v3_221)))
def f_L_arePlayersRight_l221x (K : CT) (w : Int32) (v3_221 : Int32) (v4_221 : Bool) : Bool := (if v4_221 = true then (if v3_221 = w then (if true = true then (f_L_arePlayersRight_j344 (true)) else (f_L_arePlayersRight_j343)) else (f_L_arePlayersRight_j343)) else (f_L_arePlayersRight_j343))
def f_L_arePlayersRight_l221s (K : CT) (w : Int32) (k221 : Nat) (q_ : Int32 × Bool) : Sum (Bool) (Int32 × Bool) := f_L_arePlayersRight_l221b K w k221 (q_.1) (q_.2)
def f_L_arePlayersRight_l221e (K : CT) (w : Int32) (q_ : Int32 × Bool) : Bool := f_L_arePlayersRight_l221x K w (q_.1) (q_.2)
def f_L_arePlayersRight_l221 (K : CT) (w : Int32) (n221 k221 : Nat) (v3_221 : Int32) (v4_221 : Bool) : Bool := lpF (f_L_arePlayersRight_l221s K w) (f_L_arePlayersRight_l221e K w) n221 k221 (v3_221, v4_221)
def f_L_arePlayersRight_j210  (v3_210 : Int32) (s0_210 : Bool) : Sum (Bool) (Int32 × Bool) := (Sum.inr (v3_210, s0_210))
def f_L_arePlayersRight_j209  (v3_209 : Int32) : Sum (Bool) (Int32 × Bool) := (f_L_arePlayersRight_j210 (v3_209) (false))
def f_L_arePlayersRight_j140  (v3_140 : Int32) (v4_140 : Bool) (v6_140 : Int32) (s0_140 : Bool) (s1_140 : Int32) : Sum (Sum (Bool) (Int32 × Bool)) (Int32 × Bool × Int32 × Int32) := (Sum.inr (v3_140, v4_140, v6_140, (s1_140 + (bI s0_140))))
def f_L_arePlayersRight_j117 (K : CT) (k62 : Nat) (k82 : Nat) (v3_117 : Int32) (v4_117 : Bool) (v7_117 : Int32) (s0_117 : Int32) (s1_117 : Int32) : Sum (Sum (Bool) (Int32 × Bool)) (Int32 × Bool × Int32 × Int32) := (if (askV K (2) ((nI k82)) (0)) = (nI k62) then (f_L_arePlayersRight_j140 (v3_117) (v4_117) ((s1_117 - s0_117)) (true) (v7_117)) else (f_L_arePlayersRight_j140 (v3_117) (v4_117) ((s1_117 - s0_117)) (false) (v7_117)))
def f_L_arePlayersRight_l82b (K : CT) (k62 : Nat) (k82 : Nat) (v3_82 : Int32) (v4_82 : Bool) (v6_82 : Int32) (v7_82 : Int32) : Sum (Sum (Bool) (Int32 × Bool)) (Int32 × Bool × Int32 × Int32) := (if (askV K (4) ((nI k62)) ((nI k82))) = 0 then (f_L_arePlayersRight_j117 K k62 k82 (v3_82) (v4_82) (v7_82) ((f_L_bid K ((nI k62)) ((nI k82)))) (v6_82)) else (f_L_arePlayersRight_j117 K k62 k82 (v3_82) (v4_82) (v7_82) (0) (v6_82)))
def f_L_arePlayersRight_l82x (K : CT) (k62 : Nat) (v3_82 : Int32) (v4_82 : Bool) (v6_82 : Int32) (v7_82 : Int32) : Sum (Bool) (Int32 × Bool) := (if v4_82 = true then (if (f_X1_availableTo (kG K) k62) = v6_82 then (if v6_82 < 0 then (f_L_arePlayersRight_j209 ((v3_82 + (gMon (kG K) k62)))) else (if (f_X1_bridgesOf (kG K) (nI k62)) = v7_82 then (if (f_X1_scoreOf (kG K) (nI k62)) = (f_L_score K ((nI k62))) then (f_L_arePlayersRight_j210 ((v3_82 + (gMon (kG K) k62))) (true)) else (f_L_arePlayersRight_j209 ((v3_82 + (gMon (kG K) k62))))) else (f_L_arePlayersRight_j209 ((v3_82 + (gMon (kG K) k62)))))) else (f_L_arePlayersRight_j209 ((v3_82 + (gMon (kG K) k62))))) else (f_L_arePlayersRight_j209 ((v3_82 + (gMon (kG K) k62)))))
def f_L_arePlayersRight_l82s (K : CT) (k62 : Nat) (k82 : Nat) (q_ : Int32 × Bool × Int32 × Int32) : Sum (Sum (Bool) (Int32 × Bool)) (Int32 × Bool × Int32 × Int32) := f_L_arePlayersRight_l82b K k62 k82 (q_.1) (q_.2.1) (q_.2.2.1) (q_.2.2.2)
def f_L_arePlayersRight_l82e (K : CT) (k62 : Nat) (q_ : Int32 × Bool × Int32 × Int32) : Sum (Bool) (Int32 × Bool) := f_L_arePlayersRight_l82x K k62 (q_.1) (q_.2.1) (q_.2.2.1) (q_.2.2.2)
def f_L_arePlayersRight_l82 (K : CT) (k62 : Nat) (n82 k82 : Nat) (v3_82 : Int32) (v4_82 : Bool) (v6_82 : Int32) (v7_82 : Int32) : Sum (Bool) (Int32 × Bool) := lpF (f_L_arePlayersRight_l82s K k62) (f_L_arePlayersRight_l82e K k62) n82 k82 (v3_82, v4_82, v6_82, v7_82)
def f_L_arePlayersRight_l62b (K : CT) (w : Int32) (k62 : Nat) (v3_62 : Int32) (v4_62 : Bool) : Sum (Bool) (Int32 × Bool) := (f_L_arePlayersRight_l82 K k62 (gS (kG K)) 0 (v3_62) (v4_62) ((gMon (kG K) k62)) (0))
def f_L_arePlayersRight_l62x (K : CT) (w : Int32) (v3_62 : Int32) (v4_62 : Bool) : Bool := (f_L_arePlayersRight_l221 K w (gP (kG K) - 1) 0 (v3_62) (v4_62))
def f_L_arePlayersRight_l62s (K : CT) (w : Int32) (k62 : Nat) (q_ : Int32 × Bool) : Sum (Bool) (Int32 × Bool) := f_L_arePlayersRight_l62b K w k62 (q_.1) (q_.2)
def f_L_arePlayersRight_l62e (K : CT) (w : Int32) (q_ : Int32 × Bool) : Bool := f_L_arePlayersRight_l62x K w (q_.1) (q_.2)
def f_L_arePlayersRight_l62 (K : CT) (w : Int32) (n62 k62 : Nat) (v3_62 : Int32) (v4_62 : Bool) : Bool := lpF (f_L_arePlayersRight_l62s K w) (f_L_arePlayersRight_l62e K w) n62 k62 (v3_62, v4_62)
def f_L_arePlayersRight_j57 (K : CT) (w : Int32) (v3_57 : Int32) (s0_57 : Bool) : Bool := (f_L_arePlayersRight_l62 K w (gP (kG K)) 0 (v3_57) (s0_57))
def f_L_arePlayersRight_j56 (K : CT) (w : Int32) (v3_56 : Int32) : Bool := (f_L_arePlayersRight_j57 K w (v3_56) (false))
def f_L_arePlayersRight (K : CT) (w : Int32) : Bool := (if (askV K (9) ((nI (gP (kG K)))) (0)) = (-2004) then (if (askV K (9) ((-1)) (0)) = (-2004) then (if (askV K (13) ((nI (gP (kG K)))) (0)) = (-2002) then (f_L_arePlayersRight_j57 K w ((gBank (kG K))) (true)) else (f_L_arePlayersRight_j56 K w ((gBank (kG K))))) else (f_L_arePlayersRight_j56 K w ((gBank (kG K))))) else (f_L_arePlayersRight_j56 K w ((gBank (kG K)))))
set_option maxHeartbeats 40000000 in
set_option maxRecDepth 100000 in
theorem c_L_arePlayersRight (l : Launch) (D : va_G) (C : Nat → ClassId) (ev u : Nat → Nat) (K : CT) (T : TX) (w : Int32) (hl9 : l.stackTraces = false) (hI : GI (kG K)) (hFe : FerOK (kG K)) : KM l yL_arePlayersRight wsL_arePlayersRight ({ frames := 12, cells := 1169, slots := 7014, locals := 286 } : Room) [.ref (u 0), .int w] D C ev u K T T (some (.int (bI (f_L_arePlayersRight K w)))) 1169 7014 := by
  intro x sz hF
  refine Met.ofW (cc := cL_arePlayersRight) (maxL := 10) (ret := (some .boolean)) (by decide) rfl ?_
  intro p e s m args below meth c s₁ B hml hv
  obtain ⟨⟨⟨rfl, hsz, hP, hK, hD0, hE, hR, hX, hT9, hV9⟩, hDV⟩, hN, hC⟩ := hv
  have hx := B.exec
  have hb := B.bytes
  have hr := B.returns
  have hts := atoms_spec (ws := wsL_arePlayersRight) B.pre
  have hown : s.vm.findClass RL = some m.cls := findClass_of_methodNamed B.named
  have hlocks := B.notSynchronized
  subst hsz
  have hD := hD0.self (sz := s.heap.size)
  generalize hAe : va_A (kW C ev u K x) s.heap.size = A at hD hX hV9 hDV ⊢
  have hA : ∀ q : Nat, s.heap.size ≤ q → A q := fun q h => by rw [← hAe]; exact Or.inr h
  have hS : va_S A s.heap s.heap [] := va_S.rf
  have hP : va_P D vwCl (wj [kW C ev u K x]) s.heap := hP
  have hD : va_D A (wj [kW C ev u K x]) := hD
  obtain ⟨hS12, hP4, hlo, hhi⟩ := GI_safe hI
  have hl := lv_entry ([.ref (u 0), .int w]) (n := 10) (Nat.le_of_ble_eq_true rfl)
  rw [lg_entry_eq]
  generalize (lg_sl ([.ref (u 0), .int w]) ++ List.replicate (10 - (lg_sl ([.ref (u 0), .int w])).length) Slot.unset).toArray = ls at hl ⊢
  have hl : lv_has ls 10 [(0, .ref (u 0)), (1, .int w)] := hl
  obtain ⟨z, hz⟩ : ∃ z, z = f_L_arePlayersRight K w := ⟨_, rfl⟩
  rw [← hz]
  suffices hh : ∀ cells slots : Nat, cells = 0 → slots = 0 → W p l e ({ frames := 12, cells := 1169, slots := 7014, locals := 286 } : Room) s m ([.ref (u 0), .int w] : List Value).toArray below meth c s.heap [] cells slots (MQ below (eO (fun _ : KX => (some (.int (bI z)))) D (kF T) (kW C ev u K) A) ([.ref (u 0), .int w] : List Value).toArray s 1169 7014 A) (F0 m 0 ls []) from hh 0 0 rfl rfl
  intro cells slots hc0 hs0
  have hc : cells + (1169) ≤ 1169 := by omega
  have hs : slots + (7014) ≤ 7014 := by omega
  clear hc0 hs0
  have J344 : ∀ (s0_344 : Bool)  (x : KX) (H : Heap) (locs : List Loc) (cells slots : Nat) (ls : Array Slot), z = f_L_arePlayersRight_j344 s0_344 → kF T x → cells + (0) ≤ 1169 → slots + (0) ≤ 7014 → va_P D vwCl (wj [kW C ev u K x]) H → va_D A (wj [kW C ev u K x]) → va_S A s.heap H locs → lv_has ls 10 [] → W p l e ({ frames := 12, cells := 1169, slots := 7014, locals := 286 } : Room) s m ([.ref (u 0), .int w] : List Value).toArray below meth c H locs cells slots (MQ below (eO (fun _ : KX => (some (.int (bI z)))) D (kF T) (kW C ev u K) A) ([.ref (u 0), .int w] : List Value).toArray s 1169 7014 A) (F0 m 344 ls [.int (bI s0_344)]) := by
    intro s0_344 x H locs cells slots ls hz  hF hc hs hP hD hS hl
    exact k_retB hx hb hr hF hP hD hS (show _ = s0_344 from hz) (by omega) (by omega) dL_arePlayersRight_344 hlocks
  have J343 : ∀  (x : KX) (H : Heap) (locs : List Loc) (cells slots : Nat) (ls : Array Slot), z = f_L_arePlayersRight_j343 → kF T x → cells + (0) ≤ 1169 → slots + (0) ≤ 7014 → va_P D vwCl (wj [kW C ev u K x]) H → va_D A (wj [kW C ev u K x]) → va_S A s.heap H locs → lv_has ls 10 [] → W p l e ({ frames := 12, cells := 1169, slots := 7014, locals := 286 } : Room) s m ([.ref (u 0), .int w] : List Value).toArray below meth c H locs cells slots (MQ below (eO (fun _ : KX => (some (.int (bI z)))) D (kF T) (kW C ev u K) A) ([.ref (u 0), .int w] : List Value).toArray s 1169 7014 A) (F0 m 343 ls []) := by
    intro  x H locs cells slots ls hz  hF hc hs hP hD hS hl
    refine lv_iconst (v := 0) hx hb dL_arePlayersRight_343 (by decide) ?_
    exact J344 (false) _ _ _ _ _ ls hz  hF (by omega) (by omega) hP hD hS (lv_sub hl [] rfl)
  have J221 : ∀ (n221 k221 : Nat) (v3_221 : Int32) (v4_221 : Bool) (x : KX) (H : Heap) (locs : List Loc) (cells slots : Nat) (ls : Array Slot), k221 + n221 = gP (kG K) - 1 → z = f_L_arePlayersRight_l221 K w n221 k221 v3_221 v4_221 → kF T x → cells + ((n221 + 1) * 6) ≤ 1169 → slots + ((n221 + 1) * 36) ≤ 7014 → va_P D vwCl (wj [kW C ev u K x]) H → va_D A (wj [kW C ev u K x]) → va_S A s.heap H locs → lv_has ls 10 [(0, .ref (u 0)), (1, .int w), (2, .int (nI (gP (kG K)))), (3, .int v3_221), (4, .int (bI v4_221)), (5, .int (nI k221))] → W p l e ({ frames := 12, cells := 1169, slots := 7014, locals := 286 } : Room) s m ([.ref (u 0), .int w] : List Value).toArray below meth c H locs cells slots (MQ below (eO (fun _ : KX => (some (.int (bI z)))) D (kF T) (kW C ev u K) A) ([.ref (u 0), .int w] : List Value).toArray s 1169 7014 A) (F0 m 221 ls []) := by
    intro n221
    induction n221 with
    | zero =>
      intro k221 v3_221 v4_221 x H locs cells slots ls hk221 hz  hF hc hs hP hD hS hl
      have hz : z = f_L_arePlayersRight_l221x K w v3_221 v4_221 := hz
      refine lv_iload hx hb dL_arePlayersRight_221 (lv_at hl 5 rfl) ?_
      refine lv_iconst (v := 1) hx hb dL_arePlayersRight_223 (by decide) ?_
      refine topN (k := 1) (by decide +kernel) ?_
      refine addN hx hb dL_arePlayersRight_224 ?_
      refine lv_iload_n hx hb dL_arePlayersRight_225 rfl (lv_at hl 2 rfl) ?_
      refine lv_icmp_ge (tgt := 322) hx hb dL_arePlayersRight_226 (by decide) (fun c_226 => ?_) (fun c_226 => absurd (nI_le (by omega) (by omega)) c_226)
      refine lv_iload hx hb dL_arePlayersRight_322 (lv_at hl 4 rfl) ?_
      refine bif_eq (tgt := 343) hx hb dL_arePlayersRight_324 (by decide) (fun c_324 => ?_) (fun c_324 => ?_)
      · have hz := hz.trans (ifB_f c_324)
        exact J343  _ _ _ _ _ ls hz  hF (by omega) (by omega) hP hD hS (lv_sub hl [] rfl)
      · have hz := hz.trans (ifB_t c_324)
        refine lv_iload_n hx hb dL_arePlayersRight_327 rfl (lv_at hl 3 rfl) ?_
        refine lv_iload_n hx hb dL_arePlayersRight_328 rfl (lv_at hl 1 rfl) ?_
        refine lv_icmp_ne (tgt := 343) hx hb dL_arePlayersRight_329 (by decide) (fun c_329 => ?_) (fun c_329 => ?_)
        · have hz := hz.trans (if_neg c_329)
          exact J343  _ _ _ _ _ ls hz  hF (by omega) (by omega) hP hD hS (lv_sub hl [] rfl)
        · have hz := hz.trans (if_pos c_329)
          refine lv_aload_n hx hb dL_arePlayersRight_332 rfl (lv_at hl 0 rfl) ?_
          refine callK (va_runV (As := []) (rest := []) ⟨hx, hb, hml, hown, hts⟩ (k_isConsistent (l := l) (D := D) (C := C) (ev := ev) (u := u) (T := T) hl9 hI x _ hF) (cwV 0 hts gL_arePlayersRight_X7_isConsistent rfl rfl rfl (by decide +kernel) ⟨Nat.le_of_ble_eq_true rfl, Nat.le_of_ble_eq_true rfl⟩) (hloP_v (kP hP) hK hE (kD hD) hR hX hT9 hV9 hDV hN hC hS (kFr hD hS hA) (kRc hK hP)) rfl rfl hl.1 rfl (lv_room (Nat.le_of_ble_eq_true rfl)) dL_arePlayersRight_333 ⟨show _ ≤ 1169 from by omega, show _ ≤ 7014 from by omega⟩) hP hD hS hA (fun x H locs hF hP hD hS => ?_)
          refine bif_eq (tgt := 343) hx hb dL_arePlayersRight_336 (by decide) (fun c_336 => ?_) (fun c_336 => ?_)
          · have hz := hz.trans (ifB_f c_336)
            exact J343  _ _ _ _ _ ls hz  hF (by omega) (by omega) hP hD hS (lv_sub hl [] rfl)
          · have hz := hz.trans (ifB_t c_336)
            refine lv_iconst (v := 1) hx hb dL_arePlayersRight_339 (by decide) ?_
            refine lv_goto (tgt := 344) hx hb dL_arePlayersRight_340 (by decide) ?_
            exact J344 (true) _ _ _ _ _ ls hz  hF (by omega) (by omega) hP hD hS (lv_sub hl [] rfl)
    | succ n221 ih221 =>
      intro k221 v3_221 v4_221 x H locs cells slots ls hk221 hz221  hF hc hs hP hD hS hl
      obtain ⟨z221, hz⟩ : ∃ zz_, zz_ = f_L_arePlayersRight_l221b K w k221 v3_221 v4_221 := ⟨_, rfl⟩
      have hq221 : z = sE id (fun q_ => lpF (f_L_arePlayersRight_l221s K w) (f_L_arePlayersRight_l221e K w) n221 (k221 + 1) q_) z221 := by rw [hz221, hz]; rfl
      have J314 : ∀ (v3_314 : Int32) (s0_314 : Bool)  (x : KX) (H : Heap) (locs : List Loc) (cells slots : Nat) (ls : Array Slot), z221 = f_L_arePlayersRight_j314 v3_314 s0_314 → kF T x → cells + ((n221 + 1) * 6) ≤ 1169 → slots + ((n221 + 1) * 36) ≤ 7014 → va_P D vwCl (wj [kW C ev u K x]) H → va_D A (wj [kW C ev u K x]) → va_S A s.heap H locs → lv_has ls 10 [(0, .ref (u 0)), (1, .int w), (2, .int (nI (gP (kG K)))), (3, .int v3_314), (5, .int (nI k221))] → W p l e ({ frames := 12, cells := 1169, slots := 7014, locals := 286 } : Room) s m ([.ref (u 0), .int w] : List Value).toArray below meth c H locs cells slots (MQ below (eO (fun _ : KX => (some (.int (bI z)))) D (kF T) (kW C ev u K) A) ([.ref (u 0), .int w] : List Value).toArray s 1169 7014 A) (F0 m 314 ls [.int (bI s0_314)]) := by
        intro v3_314 s0_314 x H locs cells slots ls hz  hF hc hs hP hD hS hl
        refine lv_istore (lv' := [(4, .int (bI s0_314)), (0, .ref (u 0)), (1, .int w), (2, .int (nI (gP (kG K)))), (3, .int v3_314), (5, .int (nI k221))]) hx hb dL_arePlayersRight_314 hl (by decide) rfl (fun ls hl => ?_)
        refine lv_iinc (v := (nI (k221 + 1))) (lv' := [(5, .int (nI (k221 + 1))), (4, .int (bI s0_314)), (0, .ref (u 0)), (1, .int w), (2, .int (nI (gP (kG K)))), (3, .int v3_314)]) hx hb dL_arePlayersRight_316 hl (k := 5) rfl (by exact nI_1 _) (by decide) rfl (fun ls hl => ?_)
        refine lv_goto (tgt := 221) hx hb dL_arePlayersRight_319 (by decide) ?_
        exact ih221 (k221 + 1) (v3_314) (s0_314) _ _ _ _ _ ls (by omega) (by rw [hq221, hz]; rfl)  hF (by omega) (by omega) hP hD hS (lv_sub hl [2, 3, 4, 5, 1, 0] rfl)
      have J313 : ∀ (v3_313 : Int32)  (x : KX) (H : Heap) (locs : List Loc) (cells slots : Nat) (ls : Array Slot), z221 = f_L_arePlayersRight_j313 v3_313 → kF T x → cells + ((n221 + 1) * 6) ≤ 1169 → slots + ((n221 + 1) * 36) ≤ 7014 → va_P D vwCl (wj [kW C ev u K x]) H → va_D A (wj [kW C ev u K x]) → va_S A s.heap H locs → lv_has ls 10 [(0, .ref (u 0)), (1, .int w), (2, .int (nI (gP (kG K)))), (3, .int v3_313), (5, .int (nI k221))] → W p l e ({ frames := 12, cells := 1169, slots := 7014, locals := 286 } : Room) s m ([.ref (u 0), .int w] : List Value).toArray below meth c H locs cells slots (MQ below (eO (fun _ : KX => (some (.int (bI z)))) D (kF T) (kW C ev u K) A) ([.ref (u 0), .int w] : List Value).toArray s 1169 7014 A) (F0 m 313 ls []) := by
        intro v3_313 x H locs cells slots ls hz  hF hc hs hP hD hS hl
        refine lv_iconst (v := 0) hx hb dL_arePlayersRight_313 (by decide) ?_
        exact J314 (v3_313) (false) _ _ _ _ _ ls hz  hF (by omega) (by omega) hP hD hS (lv_sub hl [0, 1, 2, 3, 4] rfl)
      have J309 : ∀ (v3_309 : Int32)  (x : KX) (H : Heap) (locs : List Loc) (cells slots : Nat) (ls : Array Slot), z221 = f_L_arePlayersRight_j309 v3_309 → kF T x → cells + ((n221 + 1) * 6) ≤ 1169 → slots + ((n221 + 1) * 36) ≤ 7014 → va_P D vwCl (wj [kW C ev u K x]) H → va_D A (wj [kW C ev u K x]) → va_S A s.heap H locs → lv_has ls 10 [(0, .ref (u 0)), (1, .int w), (2, .int (nI (gP (kG K)))), (3, .int v3_309), (5, .int (nI k221))] → W p l e ({ frames := 12, cells := 1169, slots := 7014, locals := 286 } : Room) s m ([.ref (u 0), .int w] : List Value).toArray below meth c H locs cells slots (MQ below (eO (fun _ : KX => (some (.int (bI z)))) D (kF T) (kW C ev u K) A) ([.ref (u 0), .int w] : List Value).toArray s 1169 7014 A) (F0 m 309 ls []) := by
        intro v3_309 x H locs cells slots ls hz  hF hc hs hP hD hS hl
        refine lv_iconst (v := 1) hx hb dL_arePlayersRight_309 (by decide) ?_
        refine lv_goto (tgt := 314) hx hb dL_arePlayersRight_310 (by decide) ?_
        exact J314 (v3_309) (true) _ _ _ _ _ ls hz  hF (by omega) (by omega) hP hD hS (lv_sub hl [0, 1, 2, 3, 4] rfl)
      refine lv_iload hx hb dL_arePlayersRight_221 (lv_at hl 5 rfl) ?_
      refine lv_iconst (v := 1) hx hb dL_arePlayersRight_223 (by decide) ?_
      refine topN (k := 1) (by decide +kernel) ?_
      refine addN hx hb dL_arePlayersRight_224 ?_
      refine lv_iload_n hx hb dL_arePlayersRight_225 rfl (lv_at hl 2 rfl) ?_
      refine lv_icmp_ge (tgt := 322) hx hb dL_arePlayersRight_226 (by decide) (fun c_226 => absurd c_226 (nI_ge (by omega) (by omega))) (fun c_226 => ?_)
      refine lv_aload_n hx hb dL_arePlayersRight_229 rfl (lv_at hl 0 rfl) ?_
      refine lv_iload hx hb dL_arePlayersRight_230 (lv_at hl 5 rfl) ?_
      refine callK (va_runV (As := [.int (nI k221)]) (rest := []) ⟨hx, hb, hml, hown, hts⟩ (k_playerByScore (l := l) (D := D) (C := C) (ev := ev) (u := u) (T := T) hl9 hI (r := k221) (j := kRk (kG K) k221) (rk_at hI (by omega)).1 (Nat.lt_of_lt_of_le (rk_at hI (by omega)).2 hP4) x _ hF) (cwV 1 hts gL_arePlayersRight_X7_playerByScore rfl rfl rfl (by decide +kernel) ⟨Nat.le_of_ble_eq_true rfl, Nat.le_of_ble_eq_true rfl⟩) (hloP_v (kP hP) hK hE (kD hD) hR hX hT9 hV9 hDV hN hC hS (kFr hD hS hA) (kRc hK hP)) rfl rfl hl.1 rfl (lv_room (Nat.le_of_ble_eq_true rfl)) dL_arePlayersRight_232 ⟨show _ ≤ 1169 from by omega, show _ ≤ 7014 from by omega⟩) hP hD hS hA (fun x H locs hF hP hD hS => ?_)
      have hb_1 := (rk_at hI (r := k221) (by omega)).2
      refine lv_istore (lv' := [(6, .int (nI (kRk (kG K) k221))), (0, .ref (u 0)), (1, .int w), (2, .int (nI (gP (kG K)))), (3, .int v3_221), (4, .int (bI v4_221)), (5, .int (nI k221))]) hx hb dL_arePlayersRight_235 hl (by decide) rfl (fun ls hl => ?_)
      refine lv_aload_n hx hb dL_arePlayersRight_237 rfl (lv_at hl 1 rfl) ?_
      refine lv_iload hx hb dL_arePlayersRight_238 (lv_at hl 6 rfl) ?_
      refine lv_iconst (v := 1) hx hb dL_arePlayersRight_240 (by decide) ?_
      refine topN (k := 1) (by decide +kernel) ?_
      refine addN hx hb dL_arePlayersRight_241 ?_
      refine callK (va_runV (As := [.int (nI (k221 + 1))]) (rest := []) ⟨hx, hb, hml, hown, hts⟩ (k_playerByScore (l := l) (D := D) (C := C) (ev := ev) (u := u) (T := T) hl9 hI (r := (k221 + 1)) (j := kRk (kG K) (k221 + 1)) (rk_at hI (by omega)).1 (Nat.lt_of_lt_of_le (rk_at hI (by omega)).2 hP4) x _ hF) (cwV 1 hts gL_arePlayersRight_X7_playerByScore rfl rfl rfl (by decide +kernel) ⟨Nat.le_of_ble_eq_true rfl, Nat.le_of_ble_eq_true rfl⟩) (hloP_v (kP hP) hK hE (kD hD) hR hX hT9 hV9 hDV hN hC hS (kFr hD hS hA) (kRc hK hP)) rfl rfl hl.1 rfl (lv_room (Nat.le_of_ble_eq_true rfl)) dL_arePlayersRight_242 ⟨show _ ≤ 1169 from by omega, show _ ≤ 7014 from by omega⟩) hP hD hS hA (fun x H locs hF hP hD hS => ?_)
      have hb_2 := (rk_at hI (r := (k221 + 1)) (by omega)).2
      refine lv_istore (lv' := [(7, .int (nI (kRk (kG K) (k221 + 1)))), (6, .int (nI (kRk (kG K) k221))), (0, .ref (u 0)), (1, .int w), (2, .int (nI (gP (kG K)))), (3, .int v3_221), (4, .int (bI v4_221)), (5, .int (nI k221))]) hx hb dL_arePlayersRight_245 hl (by decide) rfl (fun ls hl => ?_)
      refine lv_aload_n hx hb dL_arePlayersRight_247 rfl (lv_at hl 2 rfl) ?_
      refine lv_iload hx hb dL_arePlayersRight_248 (lv_at hl 1 rfl) ?_
      refine callK (va_runV (As := [.int (nI (kRk (kG K) k221))]) (rest := []) ⟨hx, hb, hml, hown, hts⟩ (k_score (l := l) (D := D) (C := C) (ev := ev) (u := u) (T := T) hl9 hI (k := (kRk (kG K) k221)) (by omega) x _ hF) (cwV 1 hts gL_arePlayersRight_X7_score rfl rfl rfl (by decide +kernel) ⟨Nat.le_of_ble_eq_true rfl, Nat.le_of_ble_eq_true rfl⟩) (hloP_v (kP hP) hK hE (kD hD) hR hX hT9 hV9 hDV hN hC hS (kFr hD hS hA) (kRc hK hP)) rfl rfl hl.1 rfl (lv_room (Nat.le_of_ble_eq_true rfl)) dL_arePlayersRight_250 ⟨show _ ≤ 1169 from by omega, show _ ≤ 7014 from by omega⟩) hP hD hS hA (fun x H locs hF hP hD hS => ?_)
      refine lv_aload_n hx hb dL_arePlayersRight_253 rfl (lv_at hl 2 rfl) ?_
      refine lv_iload hx hb dL_arePlayersRight_254 (lv_at hl 0 rfl) ?_
      refine callK (va_runV (As := [.int (nI (kRk (kG K) (k221 + 1)))]) (rest := [.int (f_X1_scoreOf (kG K) (nI (kRk (kG K) k221)))]) ⟨hx, hb, hml, hown, hts⟩ (k_score (l := l) (D := D) (C := C) (ev := ev) (u := u) (T := T) hl9 hI (k := (kRk (kG K) (k221 + 1))) (by omega) x _ hF) (cwV 1 hts gL_arePlayersRight_X7_score rfl rfl rfl (by decide +kernel) ⟨Nat.le_of_ble_eq_true rfl, Nat.le_of_ble_eq_true rfl⟩) (hloP_v (kP hP) hK hE (kD hD) hR hX hT9 hV9 hDV hN hC hS (kFr hD hS hA) (kRc hK hP)) rfl rfl hl.1 rfl (lv_room (Nat.le_of_ble_eq_true rfl)) dL_arePlayersRight_256 ⟨show _ ≤ 1169 from by omega, show _ ≤ 7014 from by omega⟩) hP hD hS hA (fun x H locs hF hP hD hS => ?_)
      refine lv_isub hx hb dL_arePlayersRight_259 ?_
      refine lv_istore (lv' := [(8, .int ((f_X1_scoreOf (kG K) (nI (kRk (kG K) k221))) - (f_X1_scoreOf (kG K) (nI (kRk (kG K) (k221 + 1)))))), (7, .int (nI (kRk (kG K) (k221 + 1)))), (6, .int (nI (kRk (kG K) k221))), (0, .ref (u 0)), (1, .int w), (2, .int (nI (gP (kG K)))), (3, .int v3_221), (4, .int (bI v4_221)), (5, .int (nI k221))]) hx hb dL_arePlayersRight_260 hl (by decide) rfl (fun ls hl => ?_)
      refine lv_aload_n hx hb dL_arePlayersRight_262 rfl (lv_at hl 3 rfl) ?_
      refine lv_iload hx hb dL_arePlayersRight_263 (lv_at hl 2 rfl) ?_
      refine callK (va_runV (As := [.int (nI (kRk (kG K) k221))]) (rest := []) ⟨hx, hb, hml, hown, hts⟩ (k_money (l := l) (D := D) (C := C) (ev := ev) (u := u) (T := T) hl9 hI (k := (kRk (kG K) k221)) (by omega) x _ hF) (cwV 1 hts gL_arePlayersRight_X7_money rfl rfl rfl (by decide +kernel) ⟨Nat.le_of_ble_eq_true rfl, Nat.le_of_ble_eq_true rfl⟩) (hloP_v (kP hP) hK hE (kD hD) hR hX hT9 hV9 hDV hN hC hS (kFr hD hS hA) (kRc hK hP)) rfl rfl hl.1 rfl (lv_room (Nat.le_of_ble_eq_true rfl)) dL_arePlayersRight_265 ⟨show _ ≤ 1169 from by omega, show _ ≤ 7014 from by omega⟩) hP hD hS hA (fun x H locs hF hP hD hS => ?_)
      refine lv_aload_n hx hb dL_arePlayersRight_268 rfl (lv_at hl 3 rfl) ?_
      refine lv_iload hx hb dL_arePlayersRight_269 (lv_at hl 1 rfl) ?_
      refine callK (va_runV (As := [.int (nI (kRk (kG K) (k221 + 1)))]) (rest := [.int (gMon (kG K) (kRk (kG K) k221))]) ⟨hx, hb, hml, hown, hts⟩ (k_money (l := l) (D := D) (C := C) (ev := ev) (u := u) (T := T) hl9 hI (k := (kRk (kG K) (k221 + 1))) (by omega) x _ hF) (cwV 1 hts gL_arePlayersRight_X7_money rfl rfl rfl (by decide +kernel) ⟨Nat.le_of_ble_eq_true rfl, Nat.le_of_ble_eq_true rfl⟩) (hloP_v (kP hP) hK hE (kD hD) hR hX hT9 hV9 hDV hN hC hS (kFr hD hS hA) (kRc hK hP)) rfl rfl hl.1 rfl (lv_room (Nat.le_of_ble_eq_true rfl)) dL_arePlayersRight_271 ⟨show _ ≤ 1169 from by omega, show _ ≤ 7014 from by omega⟩) hP hD hS hA (fun x H locs hF hP hD hS => ?_)
      refine lv_isub hx hb dL_arePlayersRight_274 ?_
      refine lv_istore (lv' := [(9, .int ((gMon (kG K) (kRk (kG K) k221)) - (gMon (kG K) (kRk (kG K) (k221 + 1))))), (8, .int ((f_X1_scoreOf (kG K) (nI (kRk (kG K) k221))) - (f_X1_scoreOf (kG K) (nI (kRk (kG K) (k221 + 1)))))), (7, .int (nI (kRk (kG K) (k221 + 1)))), (6, .int (nI (kRk (kG K) k221))), (0, .ref (u 0)), (1, .int w), (2, .int (nI (gP (kG K)))), (3, .int v3_221), (4, .int (bI v4_221)), (5, .int (nI k221))]) hx hb dL_arePlayersRight_275 hl (by decide) rfl (fun ls hl => ?_)
      refine lv_iload hx hb dL_arePlayersRight_277 (lv_at hl 8 rfl) ?_
      refine bif_eq (tgt := 313) hx hb dL_arePlayersRight_279 (by decide) (fun c_279 => ?_) (fun c_279 => ?_)
      · have hz := hz.trans (ifB_f c_279)
        exact J313 (v3_221) _ _ _ _ _ ls hz  hF (by omega) (by omega) hP hD hS (lv_sub hl [4, 5, 6, 7, 9] rfl)
      · have hz := hz.trans (ifB_t c_279)
        refine lv_iload hx hb dL_arePlayersRight_282 (lv_at hl 1 rfl) ?_
        refine lv_if_gt (tgt := 309) hx hb dL_arePlayersRight_284 (by decide) (fun c_284 => ?_) (fun c_284 => ?_)
        · have hz := hz.trans (if_pos c_284)
          exact J309 (v3_221) _ _ _ _ _ ls hz  hF (by omega) (by omega) hP hD hS (lv_sub hl [4, 5, 6, 7, 9] rfl)
        · have hz := hz.trans (if_neg c_284)
          refine lv_iload hx hb dL_arePlayersRight_287 (lv_at hl 1 rfl) ?_
          refine lv_if_ne (tgt := 313) hx hb dL_arePlayersRight_289 (by decide) (fun c_289 => ?_) (fun c_289 => ?_)
          · have hz := hz.trans (if_neg c_289)
            exact J313 (v3_221) _ _ _ _ _ ls hz  hF (by omega) (by omega) hP hD hS (lv_sub hl [4, 5, 6, 7, 9] rfl)
          · have hz := hz.trans (if_pos c_289)
            refine lv_iload hx hb dL_arePlayersRight_292 (lv_at hl 0 rfl) ?_
            refine lv_if_gt (tgt := 309) hx hb dL_arePlayersRight_294 (by decide) (fun c_294 => ?_) (fun c_294 => ?_)
            · have hz := hz.trans (if_pos c_294)
              exact J309 (v3_221) _ _ _ _ _ ls hz  hF (by omega) (by omega) hP hD hS (lv_sub hl [4, 5, 6, 7, 9] rfl)
            · have hz := hz.trans (if_neg c_294)
              refine lv_iload hx hb dL_arePlayersRight_297 (lv_at hl 0 rfl) ?_
              refine lv_if_ne (tgt := 313) hx hb dL_arePlayersRight_299 (by decide) (fun c_299 => ?_) (fun c_299 => ?_)
              · have hz := hz.trans (if_neg c_299)
                exact J313 (v3_221) _ _ _ _ _ ls hz  hF (by omega) (by omega) hP hD hS (lv_sub hl [4, 5, 6, 7, 9] rfl)
              · have hz := hz.trans (if_pos c_299)
                refine lv_iload hx hb dL_arePlayersRight_302 (lv_at hl 3 rfl) ?_
                refine lv_iload hx hb dL_arePlayersRight_304 (lv_at hl 2 rfl) ?_
                refine lv_icmp_ge (tgt := 313) hx hb dL_arePlayersRight_306 (by decide) (fun c_306 => ?_) (fun c_306 => ?_)
                · have hz := hz.trans (if_pos c_306)
                  exact J313 (v3_221) _ _ _ _ _ ls hz  hF (by omega) (by omega) hP hD hS (lv_sub hl [4, 5, 6, 7, 9] rfl)
                · have hz := hz.trans (if_neg c_306)
                  exact J309 (v3_221) _ _ _ _ _ ls hz  hF (by omega) (by omega) hP hD hS (lv_sub hl [4, 5, 6, 7, 9] rfl)
  have J62 : ∀ (n62 k62 : Nat) (v3_62 : Int32) (v4_62 : Bool) (x : KX) (H : Heap) (locs : List Loc) (cells slots : Nat) (ls : Array Slot), k62 + n62 = gP (kG K) → z = f_L_arePlayersRight_l62 K w n62 k62 v3_62 v4_62 → kF T x → cells + ((n62 + 1) * 226 + 30) ≤ 1169 → slots + ((n62 + 1) * 1356 + 180) ≤ 7014 → va_P D vwCl (wj [kW C ev u K x]) H → va_D A (wj [kW C ev u K x]) → va_S A s.heap H locs → lv_has ls 10 [(0, .ref (u 0)), (1, .int w), (2, .int (nI (gP (kG K)))), (3, .int v3_62), (4, .int (bI v4_62)), (5, .int (nI k62))] → W p l e ({ frames := 12, cells := 1169, slots := 7014, locals := 286 } : Room) s m ([.ref (u 0), .int w] : List Value).toArray below meth c H locs cells slots (MQ below (eO (fun _ : KX => (some (.int (bI z)))) D (kF T) (kW C ev u K) A) ([.ref (u 0), .int w] : List Value).toArray s 1169 7014 A) (F0 m 62 ls []) := by
    intro n62
    induction n62 with
    | zero =>
      intro k62 v3_62 v4_62 x H locs cells slots ls hk62 hz  hF hc hs hP hD hS hl
      have hz : z = f_L_arePlayersRight_l62x K w v3_62 v4_62 := hz
      refine lv_iload hx hb dL_arePlayersRight_62 (lv_at hl 5 rfl) ?_
      refine lv_iload_n hx hb dL_arePlayersRight_64 rfl (lv_at hl 2 rfl) ?_
      refine lv_icmp_ge (tgt := 218) hx hb dL_arePlayersRight_65 (by decide) (fun c_65 => ?_) (fun c_65 => absurd (nI_le (by omega) (by omega)) c_65)
      refine lv_iconst (v := 0) hx hb dL_arePlayersRight_218 (by decide) ?_
      refine lv_istore (lv' := [(5, .int 0), (0, .ref (u 0)), (1, .int w), (2, .int (nI (gP (kG K)))), (3, .int v3_62), (4, .int (bI v4_62))]) hx hb dL_arePlayersRight_219 hl (by decide) rfl (fun ls hl => ?_)
      exact J221 (gP (kG K) - 1) 0 (v3_62) (v4_62) _ _ _ _ _ ls (by omega) hz  hF (by omega) (by omega) hP hD hS (lv_sub hl [1, 2, 3, 4, 5, 0] rfl)
    | succ n62 ih62 =>
      intro k62 v3_62 v4_62 x H locs cells slots ls hk62 hz62  hF hc hs hP hD hS hl
      obtain ⟨z62, hz⟩ : ∃ zz_, zz_ = f_L_arePlayersRight_l62b K w k62 v3_62 v4_62 := ⟨_, rfl⟩
      have hq62 : z = sE id (fun q_ => lpF (f_L_arePlayersRight_l62s K w) (f_L_arePlayersRight_l62e K w) n62 (k62 + 1) q_) z62 := by rw [hz62, hz]; rfl
      have J210 : ∀ (v3_210 : Int32) (s0_210 : Bool)  (x : KX) (H : Heap) (locs : List Loc) (cells slots : Nat) (ls : Array Slot), z62 = f_L_arePlayersRight_j210 v3_210 s0_210 → kF T x → cells + ((n62 + 1) * 226 + 30) ≤ 1169 → slots + ((n62 + 1) * 1356 + 180) ≤ 7014 → va_P D vwCl (wj [kW C ev u K x]) H → va_D A (wj [kW C ev u K x]) → va_S A s.heap H locs → lv_has ls 10 [(0, .ref (u 0)), (1, .int w), (2, .int (nI (gP (kG K)))), (3, .int v3_210), (5, .int (nI k62))] → W p l e ({ frames := 12, cells := 1169, slots := 7014, locals := 286 } : Room) s m ([.ref (u 0), .int w] : List Value).toArray below meth c H locs cells slots (MQ below (eO (fun _ : KX => (some (.int (bI z)))) D (kF T) (kW C ev u K) A) ([.ref (u 0), .int w] : List Value).toArray s 1169 7014 A) (F0 m 210 ls [.int (bI s0_210)]) := by
        intro v3_210 s0_210 x H locs cells slots ls hz  hF hc hs hP hD hS hl
        refine lv_istore (lv' := [(4, .int (bI s0_210)), (0, .ref (u 0)), (1, .int w), (2, .int (nI (gP (kG K)))), (3, .int v3_210), (5, .int (nI k62))]) hx hb dL_arePlayersRight_210 hl (by decide) rfl (fun ls hl => ?_)
        refine lv_iinc (v := (nI (k62 + 1))) (lv' := [(5, .int (nI (k62 + 1))), (4, .int (bI s0_210)), (0, .ref (u 0)), (1, .int w), (2, .int (nI (gP (kG K)))), (3, .int v3_210)]) hx hb dL_arePlayersRight_212 hl (k := 5) rfl (by exact nI_1 _) (by decide) rfl (fun ls hl => ?_)
        refine lv_goto (tgt := 62) hx hb dL_arePlayersRight_215 (by decide) ?_
        exact ih62 (k62 + 1) (v3_210) (s0_210) _ _ _ _ _ ls (by omega) (by rw [hq62, hz]; rfl)  hF (by omega) (by omega) hP hD hS (lv_sub hl [2, 3, 4, 5, 1, 0] rfl)
      have J209 : ∀ (v3_209 : Int32)  (x : KX) (H : Heap) (locs : List Loc) (cells slots : Nat) (ls : Array Slot), z62 = f_L_arePlayersRight_j209 v3_209 → kF T x → cells + ((n62 + 1) * 226 + 30) ≤ 1169 → slots + ((n62 + 1) * 1356 + 180) ≤ 7014 → va_P D vwCl (wj [kW C ev u K x]) H → va_D A (wj [kW C ev u K x]) → va_S A s.heap H locs → lv_has ls 10 [(0, .ref (u 0)), (1, .int w), (2, .int (nI (gP (kG K)))), (3, .int v3_209), (5, .int (nI k62))] → W p l e ({ frames := 12, cells := 1169, slots := 7014, locals := 286 } : Room) s m ([.ref (u 0), .int w] : List Value).toArray below meth c H locs cells slots (MQ below (eO (fun _ : KX => (some (.int (bI z)))) D (kF T) (kW C ev u K) A) ([.ref (u 0), .int w] : List Value).toArray s 1169 7014 A) (F0 m 209 ls []) := by
        intro v3_209 x H locs cells slots ls hz  hF hc hs hP hD hS hl
        refine lv_iconst (v := 0) hx hb dL_arePlayersRight_209 (by decide) ?_
        exact J210 (v3_209) (false) _ _ _ _ _ ls hz  hF (by omega) (by omega) hP hD hS (lv_sub hl [0, 1, 2, 3, 4] rfl)
      have J82 : ∀ (n82 k82 : Nat) (v3_82 : Int32) (v4_82 : Bool) (v6_82 : Int32) (v7_82 : Int32) (x : KX) (H : Heap) (locs : List Loc) (cells slots : Nat) (ls : Array Slot), k82 + n82 = gS (kG K) → z62 = f_L_arePlayersRight_l82 K k62 n82 k82 v3_82 v4_82 v6_82 v7_82 → kF T x → cells + ((n82 + 1) * 9 + 108 + (n62 + 1) * 226 + 30) ≤ 1169 → slots + ((n82 + 1) * 54 + 648 + (n62 + 1) * 1356 + 180) ≤ 7014 → va_P D vwCl (wj [kW C ev u K x]) H → va_D A (wj [kW C ev u K x]) → va_S A s.heap H locs → lv_has ls 10 [(0, .ref (u 0)), (1, .int w), (2, .int (nI (gP (kG K)))), (3, .int v3_82), (4, .int (bI v4_82)), (5, .int (nI k62)), (6, .int v6_82), (7, .int v7_82), (8, .int (nI k82))] → W p l e ({ frames := 12, cells := 1169, slots := 7014, locals := 286 } : Room) s m ([.ref (u 0), .int w] : List Value).toArray below meth c H locs cells slots (MQ below (eO (fun _ : KX => (some (.int (bI z)))) D (kF T) (kW C ev u K) A) ([.ref (u 0), .int w] : List Value).toArray s 1169 7014 A) (F0 m 82 ls []) := by
        intro n82
        induction n82 with
        | zero =>
          intro k82 v3_82 v4_82 v6_82 v7_82 x H locs cells slots ls hk82 hz  hF hc hs hP hD hS hl
          have hz : z62 = f_L_arePlayersRight_l82x K k62 v3_82 v4_82 v6_82 v7_82 := hz
          refine lv_iload hx hb dL_arePlayersRight_82 (lv_at hl 8 rfl) ?_
          refine lv_aload_n hx hb dL_arePlayersRight_84 rfl (lv_at hl 0 rfl) ?_
          refine callK (va_runV (As := []) (rest := [.int (nI k82)]) ⟨hx, hb, hml, hown, hts⟩ (k_siteCount (l := l) (D := D) (C := C) (ev := ev) (u := u) (T := T) hl9 hI x _ hF) (cwV 0 hts gL_arePlayersRight_X7_siteCount rfl rfl rfl (by decide +kernel) ⟨Nat.le_of_ble_eq_true rfl, Nat.le_of_ble_eq_true rfl⟩) (hloP_v (kP hP) hK hE (kD hD) hR hX hT9 hV9 hDV hN hC hS (kFr hD hS hA) (kRc hK hP)) rfl rfl hl.1 rfl (lv_room (Nat.le_of_ble_eq_true rfl)) dL_arePlayersRight_85 ⟨show _ ≤ 1169 from by omega, show _ ≤ 7014 from by omega⟩) hP hD hS hA (fun x H locs hF hP hD hS => ?_)
          refine lv_icmp_ge (tgt := 149) hx hb dL_arePlayersRight_88 (by decide) (fun c_88 => ?_) (fun c_88 => absurd (nI_le (by omega) (by omega)) c_88)
          refine lv_iload_n hx hb dL_arePlayersRight_149 rfl (lv_at hl 3 rfl) ?_
          refine lv_aload_n hx hb dL_arePlayersRight_150 rfl (lv_at hl 0 rfl) ?_
          refine lv_iload hx hb dL_arePlayersRight_151 (lv_at hl 5 rfl) ?_
          refine callK (va_runV (As := [.int (nI k62)]) (rest := [.int v3_82]) ⟨hx, hb, hml, hown, hts⟩ (k_money (l := l) (D := D) (C := C) (ev := ev) (u := u) (T := T) hl9 hI (k := k62) (by omega) x _ hF) (cwV 1 hts gL_arePlayersRight_X7_money rfl rfl rfl (by decide +kernel) ⟨Nat.le_of_ble_eq_true rfl, Nat.le_of_ble_eq_true rfl⟩) (hloP_v (kP hP) hK hE (kD hD) hR hX hT9 hV9 hDV hN hC hS (kFr hD hS hA) (kRc hK hP)) rfl rfl hl.1 rfl (lv_room (Nat.le_of_ble_eq_true rfl)) dL_arePlayersRight_153 ⟨show _ ≤ 1169 from by omega, show _ ≤ 7014 from by omega⟩) hP hD hS hA (fun x H locs hF hP hD hS => ?_)
          refine lv_iadd hx hb dL_arePlayersRight_156 ?_
          refine lv_istore_n (lv' := [(3, .int (v3_82 + (gMon (kG K) k62))), (0, .ref (u 0)), (1, .int w), (2, .int (nI (gP (kG K)))), (4, .int (bI v4_82)), (5, .int (nI k62)), (6, .int v6_82), (7, .int v7_82), (8, .int (nI k82))]) hx hb dL_arePlayersRight_157 rfl hl (by decide) rfl (fun ls hl => ?_)
          refine lv_iload hx hb dL_arePlayersRight_158 (lv_at hl 4 rfl) ?_
          refine bif_eq (tgt := 209) hx hb dL_arePlayersRight_160 (by decide) (fun c_160 => ?_) (fun c_160 => ?_)
          · have hz := hz.trans (ifB_f c_160)
            exact J209 ((v3_82 + (gMon (kG K) k62))) _ _ _ _ _ ls hz  hF (by omega) (by omega) hP hD hS (lv_sub hl [1, 2, 3, 0, 5] rfl)
          · have hz := hz.trans (ifB_t c_160)
            refine lv_aload_n hx hb dL_arePlayersRight_163 rfl (lv_at hl 1 rfl) ?_
            refine lv_iload hx hb dL_arePlayersRight_164 (lv_at hl 5 rfl) ?_
            refine callK (va_runV (As := [.int (nI k62)]) (rest := []) ⟨hx, hb, hml, hown, hts⟩ (k_availableMoney (l := l) (D := D) (C := C) (ev := ev) (u := u) (T := T) hl9 hI (k := k62) (by omega) x _ hF) (cwV 1 hts gL_arePlayersRight_X7_availableMoney rfl rfl rfl (by decide +kernel) ⟨Nat.le_of_ble_eq_true rfl, Nat.le_of_ble_eq_true rfl⟩) (hloP_v (kP hP) hK hE (kD hD) hR hX hT9 hV9 hDV hN hC hS (kFr hD hS hA) (kRc hK hP)) rfl rfl hl.1 rfl (lv_room (Nat.le_of_ble_eq_true rfl)) dL_arePlayersRight_166 ⟨show _ ≤ 1169 from by omega, show _ ≤ 7014 from by omega⟩) hP hD hS hA (fun x H locs hF hP hD hS => ?_)
            refine lv_iload hx hb dL_arePlayersRight_169 (lv_at hl 6 rfl) ?_
            refine lv_icmp_ne (tgt := 209) hx hb dL_arePlayersRight_171 (by decide) (fun c_171 => ?_) (fun c_171 => ?_)
            · have hz := hz.trans (if_neg c_171)
              exact J209 ((v3_82 + (gMon (kG K) k62))) _ _ _ _ _ ls hz  hF (by omega) (by omega) hP hD hS (lv_sub hl [1, 2, 3, 0, 5] rfl)
            · have hz := hz.trans (if_pos c_171)
              refine lv_iload hx hb dL_arePlayersRight_174 (lv_at hl 6 rfl) ?_
              refine lv_if_lt (tgt := 209) hx hb dL_arePlayersRight_176 (by decide) (fun c_176 => ?_) (fun c_176 => ?_)
              · have hz := hz.trans (if_pos c_176)
                exact J209 ((v3_82 + (gMon (kG K) k62))) _ _ _ _ _ ls hz  hF (by omega) (by omega) hP hD hS (lv_sub hl [1, 2, 3, 0, 5] rfl)
              · have hz := hz.trans (if_neg c_176)
                refine lv_aload_n hx hb dL_arePlayersRight_179 rfl (lv_at hl 1 rfl) ?_
                refine lv_iload hx hb dL_arePlayersRight_180 (lv_at hl 5 rfl) ?_
                refine callK (va_runV (As := [.int (nI k62)]) (rest := []) ⟨hx, hb, hml, hown, hts⟩ (k_bridgeCount (l := l) (D := D) (C := C) (ev := ev) (u := u) (T := T) hl9 hI (k := k62) (by omega) x _ hF) (cwV 1 hts gL_arePlayersRight_X7_bridgeCount rfl rfl rfl (by decide +kernel) ⟨Nat.le_of_ble_eq_true rfl, Nat.le_of_ble_eq_true rfl⟩) (hloP_v (kP hP) hK hE (kD hD) hR hX hT9 hV9 hDV hN hC hS (kFr hD hS hA) (kRc hK hP)) rfl rfl hl.1 rfl (lv_room (Nat.le_of_ble_eq_true rfl)) dL_arePlayersRight_182 ⟨show _ ≤ 1169 from by omega, show _ ≤ 7014 from by omega⟩) hP hD hS hA (fun x H locs hF hP hD hS => ?_)
                refine lv_iload hx hb dL_arePlayersRight_185 (lv_at hl 7 rfl) ?_
                refine lv_icmp_ne (tgt := 209) hx hb dL_arePlayersRight_187 (by decide) (fun c_187 => ?_) (fun c_187 => ?_)
                · have hz := hz.trans (if_neg c_187)
                  exact J209 ((v3_82 + (gMon (kG K) k62))) _ _ _ _ _ ls hz  hF (by omega) (by omega) hP hD hS (lv_sub hl [1, 2, 3, 0, 5] rfl)
                · have hz := hz.trans (if_pos c_187)
                  refine lv_aload_n hx hb dL_arePlayersRight_190 rfl (lv_at hl 1 rfl) ?_
                  refine lv_iload hx hb dL_arePlayersRight_191 (lv_at hl 5 rfl) ?_
                  refine callK (va_runV (As := [.int (nI k62)]) (rest := []) ⟨hx, hb, hml, hown, hts⟩ (k_score (l := l) (D := D) (C := C) (ev := ev) (u := u) (T := T) hl9 hI (k := k62) (by omega) x _ hF) (cwV 1 hts gL_arePlayersRight_X7_score rfl rfl rfl (by decide +kernel) ⟨Nat.le_of_ble_eq_true rfl, Nat.le_of_ble_eq_true rfl⟩) (hloP_v (kP hP) hK hE (kD hD) hR hX hT9 hV9 hDV hN hC hS (kFr hD hS hA) (kRc hK hP)) rfl rfl hl.1 rfl (lv_room (Nat.le_of_ble_eq_true rfl)) dL_arePlayersRight_193 ⟨show _ ≤ 1169 from by omega, show _ ≤ 7014 from by omega⟩) hP hD hS hA (fun x H locs hF hP hD hS => ?_)
                  refine lv_aload_n hx hb dL_arePlayersRight_196 rfl (lv_at hl 1 rfl) ?_
                  refine lv_iload hx hb dL_arePlayersRight_197 (lv_at hl 5 rfl) ?_
                  refine callK (va_runS (As := [.ref (u 0), .int (nI k62)]) (rest := [.int (f_X1_scoreOf (kG K) (nI k62))]) ⟨hx, hb, hml, hown, hts⟩ (c_L_score l D C ev u K T ((nI k62)) hl9 hI hFe x _ hF) (va_cwS 2 hts gL_arePlayersRight_L_score rfl rfl rfl (by decide +kernel) ⟨Nat.le_of_ble_eq_true rfl, Nat.le_of_ble_eq_true rfl⟩) (hloP_s (kP hP) hK hE (kD hD) hR hX hT9 hV9 hDV hN hC hS (kFr hD hS hA)) rfl rfl hl.1 rfl (lv_room (Nat.le_of_ble_eq_true rfl)) dL_arePlayersRight_199 ⟨show _ ≤ 1169 from by omega, show _ ≤ 7014 from by omega⟩) hP hD hS hA (fun x H locs hF hP hD hS => ?_)
                  refine lv_icmp_ne (tgt := 209) hx hb dL_arePlayersRight_202 (by decide) (fun c_202 => ?_) (fun c_202 => ?_)
                  · have hz := hz.trans (if_neg c_202)
                    exact J209 ((v3_82 + (gMon (kG K) k62))) _ _ _ _ _ ls hz  hF (by omega) (by omega) hP hD hS (lv_sub hl [1, 2, 3, 0, 5] rfl)
                  · have hz := hz.trans (if_pos c_202)
                    refine lv_iconst (v := 1) hx hb dL_arePlayersRight_205 (by decide) ?_
                    refine lv_goto (tgt := 210) hx hb dL_arePlayersRight_206 (by decide) ?_
                    exact J210 ((v3_82 + (gMon (kG K) k62))) (true) _ _ _ _ _ ls hz  hF (by omega) (by omega) hP hD hS (lv_sub hl [1, 2, 3, 0, 5] rfl)
        | succ n82 ih82 =>
          intro k82 v3_82 v4_82 v6_82 v7_82 x H locs cells slots ls hk82 hz82  hF hc hs hP hD hS hl
          obtain ⟨z82, hz⟩ : ∃ zz_, zz_ = f_L_arePlayersRight_l82b K k62 k82 v3_82 v4_82 v6_82 v7_82 := ⟨_, rfl⟩
          have hq82 : z62 = sE id (fun q_ => lpF (f_L_arePlayersRight_l82s K k62) (f_L_arePlayersRight_l82e K k62) n82 (k82 + 1) q_) z82 := by rw [hz82, hz]; rfl
          have J140 : ∀ (v3_140 : Int32) (v4_140 : Bool) (v6_140 : Int32) (s0_140 : Bool) (s1_140 : Int32)  (x : KX) (H : Heap) (locs : List Loc) (cells slots : Nat) (ls : Array Slot), z82 = f_L_arePlayersRight_j140 v3_140 v4_140 v6_140 s0_140 s1_140 → kF T x → cells + ((n82 + 1) * 9 + 108 + (n62 + 1) * 226 + 30) ≤ 1169 → slots + ((n82 + 1) * 54 + 648 + (n62 + 1) * 1356 + 180) ≤ 7014 → va_P D vwCl (wj [kW C ev u K x]) H → va_D A (wj [kW C ev u K x]) → va_S A s.heap H locs → lv_has ls 10 [(0, .ref (u 0)), (1, .int w), (2, .int (nI (gP (kG K)))), (3, .int v3_140), (4, .int (bI v4_140)), (5, .int (nI k62)), (6, .int v6_140), (8, .int (nI k82))] → W p l e ({ frames := 12, cells := 1169, slots := 7014, locals := 286 } : Room) s m ([.ref (u 0), .int w] : List Value).toArray below meth c H locs cells slots (MQ below (eO (fun _ : KX => (some (.int (bI z)))) D (kF T) (kW C ev u K) A) ([.ref (u 0), .int w] : List Value).toArray s 1169 7014 A) (F0 m 140 ls [.int (bI s0_140), .int s1_140]) := by
            intro v3_140 v4_140 v6_140 s0_140 s1_140 x H locs cells slots ls hz  hF hc hs hP hD hS hl
            refine lv_iadd hx hb dL_arePlayersRight_140 ?_
            refine lv_istore (lv' := [(7, .int (s1_140 + (bI s0_140))), (0, .ref (u 0)), (1, .int w), (2, .int (nI (gP (kG K)))), (3, .int v3_140), (4, .int (bI v4_140)), (5, .int (nI k62)), (6, .int v6_140), (8, .int (nI k82))]) hx hb dL_arePlayersRight_141 hl (by decide) rfl (fun ls hl => ?_)
            refine lv_iinc (v := (nI (k82 + 1))) (lv' := [(8, .int (nI (k82 + 1))), (7, .int (s1_140 + (bI s0_140))), (0, .ref (u 0)), (1, .int w), (2, .int (nI (gP (kG K)))), (3, .int v3_140), (4, .int (bI v4_140)), (5, .int (nI k62)), (6, .int v6_140)]) hx hb dL_arePlayersRight_143 hl (k := 8) rfl (by exact nI_1 _) (by decide) rfl (fun ls hl => ?_)
            refine lv_goto (tgt := 82) hx hb dL_arePlayersRight_146 (by decide) ?_
            exact ih82 (k82 + 1) (v3_140) (v4_140) (v6_140) ((s1_140 + (bI s0_140))) _ _ _ _ _ ls (by omega) (by rw [hq82, hz]; rfl)  hF (by omega) (by omega) hP hD hS (lv_sub hl [2, 3, 4, 5, 6, 7, 8, 1, 0] rfl)
          have J117 : ∀ (v3_117 : Int32) (v4_117 : Bool) (v7_117 : Int32) (s0_117 : Int32) (s1_117 : Int32)  (x : KX) (H : Heap) (locs : List Loc) (cells slots : Nat) (ls : Array Slot), z82 = f_L_arePlayersRight_j117 K k62 k82 v3_117 v4_117 v7_117 s0_117 s1_117 → kF T x → cells + (3 + (n82 + 1) * 9 + 108 + (n62 + 1) * 226 + 30) ≤ 1169 → slots + (18 + (n82 + 1) * 54 + 648 + (n62 + 1) * 1356 + 180) ≤ 7014 → va_P D vwCl (wj [kW C ev u K x]) H → va_D A (wj [kW C ev u K x]) → va_S A s.heap H locs → lv_has ls 10 [(0, .ref (u 0)), (1, .int w), (2, .int (nI (gP (kG K)))), (3, .int v3_117), (4, .int (bI v4_117)), (5, .int (nI k62)), (7, .int v7_117), (8, .int (nI k82))] → W p l e ({ frames := 12, cells := 1169, slots := 7014, locals := 286 } : Room) s m ([.ref (u 0), .int w] : List Value).toArray below meth c H locs cells slots (MQ below (eO (fun _ : KX => (some (.int (bI z)))) D (kF T) (kW C ev u K) A) ([.ref (u 0), .int w] : List Value).toArray s 1169 7014 A) (F0 m 117 ls [.int s0_117, .int s1_117]) := by
            intro v3_117 v4_117 v7_117 s0_117 s1_117 x H locs cells slots ls hz  hF hc hs hP hD hS hl
            refine lv_isub hx hb dL_arePlayersRight_117 ?_
            refine lv_istore (lv' := [(6, .int (s1_117 - s0_117)), (0, .ref (u 0)), (1, .int w), (2, .int (nI (gP (kG K)))), (3, .int v3_117), (4, .int (bI v4_117)), (5, .int (nI k62)), (7, .int v7_117), (8, .int (nI k82))]) hx hb dL_arePlayersRight_118 hl (by decide) rfl (fun ls hl => ?_)
            refine lv_iload hx hb dL_arePlayersRight_120 (lv_at hl 7 rfl) ?_
            refine lv_aload_n hx hb dL_arePlayersRight_122 rfl (lv_at hl 1 rfl) ?_
            refine lv_iconst (v := 2) hx hb dL_arePlayersRight_123 (by decide) ?_
            refine lv_iload hx hb dL_arePlayersRight_124 (lv_at hl 8 rfl) ?_
            refine lv_iconst (v := 0) hx hb dL_arePlayersRight_126 (by decide) ?_
            refine callK (vx_runSW (As := [.ref (u 0), .int 2, .int (nI k82), .int 0]) (rest := [.int v7_117]) ⟨hx, hb, hml, hown, hts⟩ (c_L_ask l D C ev u K T (2) ((nI k82)) (0) hl9 hI hFe (by decide) (ask_ok hI (by decide) _ _) x _ hF) (vx_cwSW 4 hts gL_arePlayersRight_L_ask rfl rfl rfl (by decide +kernel) ⟨Nat.le_of_ble_eq_true rfl, Nat.le_of_ble_eq_true rfl⟩) (hloP_s (kP hP) hK hE (kD hD) hR hX hT9 hV9 hDV hN hC hS (kFr hD hS hA)) rfl rfl hl.1 rfl (lv_room (Nat.le_of_ble_eq_true rfl)) dL_arePlayersRight_127 ⟨show _ ≤ 1169 from by omega, show _ ≤ 7014 from by omega⟩) hP hD hS hA (fun x H locs hF hP hD hS => ?_)
            refine lv_iload hx hb dL_arePlayersRight_130 (lv_at hl 6 rfl) ?_
            refine lv_icmp_ne (tgt := 139) hx hb dL_arePlayersRight_132 (by decide) (fun c_132 => ?_) (fun c_132 => ?_)
            · have hz := hz.trans (if_neg c_132)
              refine lv_iconst (v := 0) hx hb dL_arePlayersRight_139 (by decide) ?_
              exact J140 (v3_117) (v4_117) ((s1_117 - s0_117)) (false) (v7_117) _ _ _ _ _ ls hz  hF (by omega) (by omega) hP hD hS (lv_sub hl [1, 2, 3, 4, 5, 6, 0, 8] rfl)
            · have hz := hz.trans (if_pos c_132)
              refine lv_iconst (v := 1) hx hb dL_arePlayersRight_135 (by decide) ?_
              refine lv_goto (tgt := 140) hx hb dL_arePlayersRight_136 (by decide) ?_
              exact J140 (v3_117) (v4_117) ((s1_117 - s0_117)) (true) (v7_117) _ _ _ _ _ ls hz  hF (by omega) (by omega) hP hD hS (lv_sub hl [1, 2, 3, 4, 5, 6, 0, 8] rfl)
          refine lv_iload hx hb dL_arePlayersRight_82 (lv_at hl 8 rfl) ?_
          refine lv_aload_n hx hb dL_arePlayersRight_84 rfl (lv_at hl 0 rfl) ?_
          refine callK (va_runV (As := []) (rest := [.int (nI k82)]) ⟨hx, hb, hml, hown, hts⟩ (k_siteCount (l := l) (D := D) (C := C) (ev := ev) (u := u) (T := T) hl9 hI x _ hF) (cwV 0 hts gL_arePlayersRight_X7_siteCount rfl rfl rfl (by decide +kernel) ⟨Nat.le_of_ble_eq_true rfl, Nat.le_of_ble_eq_true rfl⟩) (hloP_v (kP hP) hK hE (kD hD) hR hX hT9 hV9 hDV hN hC hS (kFr hD hS hA) (kRc hK hP)) rfl rfl hl.1 rfl (lv_room (Nat.le_of_ble_eq_true rfl)) dL_arePlayersRight_85 ⟨show _ ≤ 1169 from by omega, show _ ≤ 7014 from by omega⟩) hP hD hS hA (fun x H locs hF hP hD hS => ?_)
          refine lv_icmp_ge (tgt := 149) hx hb dL_arePlayersRight_88 (by decide) (fun c_88 => absurd c_88 (nI_ge (by omega) (by omega))) (fun c_88 => ?_)
          refine lv_iload hx hb dL_arePlayersRight_91 (lv_at hl 6 rfl) ?_
          refine lv_aload_n hx hb dL_arePlayersRight_93 rfl (lv_at hl 0 rfl) ?_
          refine lv_iconst (v := 4) hx hb dL_arePlayersRight_94 (by decide) ?_
          refine lv_iload hx hb dL_arePlayersRight_95 (lv_at hl 5 rfl) ?_
          refine lv_iload hx hb dL_arePlayersRight_97 (lv_at hl 8 rfl) ?_
          refine callK (vx_runSW (As := [.ref (u 0), .int 4, .int (nI k62), .int (nI k82)]) (rest := [.int v6_82]) ⟨hx, hb, hml, hown, hts⟩ (c_L_ask l D C ev u K T (4) ((nI k62)) ((nI k82)) hl9 hI hFe (by decide) (ask_ok hI (by decide) _ _) x _ hF) (vx_cwSW 4 hts gL_arePlayersRight_L_ask rfl rfl rfl (by decide +kernel) ⟨Nat.le_of_ble_eq_true rfl, Nat.le_of_ble_eq_true rfl⟩) (hloP_s (kP hP) hK hE (kD hD) hR hX hT9 hV9 hDV hN hC hS (kFr hD hS hA)) rfl rfl hl.1 rfl (lv_room (Nat.le_of_ble_eq_true rfl)) dL_arePlayersRight_99 ⟨show _ ≤ 1169 from by omega, show _ ≤ 7014 from by omega⟩) hP hD hS hA (fun x H locs hF hP hD hS => ?_)
          refine lv_if_ne (tgt := 116) hx hb dL_arePlayersRight_102 (by decide) (fun c_102 => ?_) (fun c_102 => ?_)
          · have hz := hz.trans (if_neg c_102)
            refine lv_iconst (v := 0) hx hb dL_arePlayersRight_116 (by decide) ?_
            exact J117 (v3_82) (v4_82) (v7_82) (0) (v6_82) _ _ _ _ _ ls hz  hF (by omega) (by omega) hP hD hS (lv_sub hl [0, 1, 2, 3, 4, 5, 7, 8] rfl)
          · have hz := hz.trans (if_pos c_102)
            refine lv_aload_n hx hb dL_arePlayersRight_105 rfl (lv_at hl 0 rfl) ?_
            refine lv_iload hx hb dL_arePlayersRight_106 (lv_at hl 5 rfl) ?_
            refine lv_iload hx hb dL_arePlayersRight_108 (lv_at hl 8 rfl) ?_
            refine callK (va_runS (As := [.ref (u 0), .int (nI k62), .int (nI k82)]) (rest := [.int v6_82]) ⟨hx, hb, hml, hown, hts⟩ (c_L_bid l D C ev u K T ((nI k62)) ((nI k82)) hl9 hI hFe x _ hF) (va_cwS 3 hts gL_arePlayersRight_L_bid rfl rfl rfl (by decide +kernel) ⟨Nat.le_of_ble_eq_true rfl, Nat.le_of_ble_eq_true rfl⟩) (hloP_s (kP hP) hK hE (kD hD) hR hX hT9 hV9 hDV hN hC hS (kFr hD hS hA)) rfl rfl hl.1 rfl (lv_room (Nat.le_of_ble_eq_true rfl)) dL_arePlayersRight_110 ⟨show _ ≤ 1169 from by omega, show _ ≤ 7014 from by omega⟩) hP hD hS hA (fun x H locs hF hP hD hS => ?_)
            refine lv_goto (tgt := 117) hx hb dL_arePlayersRight_113 (by decide) ?_
            exact J117 (v3_82) (v4_82) (v7_82) ((f_L_bid K ((nI k62)) ((nI k82)))) (v6_82) _ _ _ _ _ ls hz  hF (by omega) (by omega) hP hD hS (lv_sub hl [0, 1, 2, 3, 4, 5, 7, 8] rfl)
      refine lv_iload hx hb dL_arePlayersRight_62 (lv_at hl 5 rfl) ?_
      refine lv_iload_n hx hb dL_arePlayersRight_64 rfl (lv_at hl 2 rfl) ?_
      refine lv_icmp_ge (tgt := 218) hx hb dL_arePlayersRight_65 (by decide) (fun c_65 => absurd c_65 (nI_ge (by omega) (by omega))) (fun c_65 => ?_)
      refine lv_aload_n hx hb dL_arePlayersRight_68 rfl (lv_at hl 0 rfl) ?_
      refine lv_iload hx hb dL_arePlayersRight_69 (lv_at hl 5 rfl) ?_
      refine callK (va_runV (As := [.int (nI k62)]) (rest := []) ⟨hx, hb, hml, hown, hts⟩ (k_money (l := l) (D := D) (C := C) (ev := ev) (u := u) (T := T) hl9 hI (k := k62) (by omega) x _ hF) (cwV 1 hts gL_arePlayersRight_X7_money rfl rfl rfl (by decide +kernel) ⟨Nat.le_of_ble_eq_true rfl, Nat.le_of_ble_eq_true rfl⟩) (hloP_v (kP hP) hK hE (kD hD) hR hX hT9 hV9 hDV hN hC hS (kFr hD hS hA) (kRc hK hP)) rfl rfl hl.1 rfl (lv_room (Nat.le_of_ble_eq_true rfl)) dL_arePlayersRight_71 ⟨show _ ≤ 1169 from by omega, show _ ≤ 7014 from by omega⟩) hP hD hS hA (fun x H locs hF hP hD hS => ?_)
      refine lv_istore (lv' := [(6, .int (gMon (kG K) k62)), (0, .ref (u 0)), (1, .int w), (2, .int (nI (gP (kG K)))), (3, .int v3_62), (4, .int (bI v4_62)), (5, .int (nI k62))]) hx hb dL_arePlayersRight_74 hl (by decide) rfl (fun ls hl => ?_)
      refine lv_iconst (v := 0) hx hb dL_arePlayersRight_76 (by decide) ?_
      refine lv_istore (lv' := [(7, .int 0), (6, .int (gMon (kG K) k62)), (0, .ref (u 0)), (1, .int w), (2, .int (nI (gP (kG K)))), (3, .int v3_62), (4, .int (bI v4_62)), (5, .int (nI k62))]) hx hb dL_arePlayersRight_77 hl (by decide) rfl (fun ls hl => ?_)
      refine lv_iconst (v := 0) hx hb dL_arePlayersRight_79 (by decide) ?_
      refine lv_istore (lv' := [(8, .int 0), (7, .int 0), (6, .int (gMon (kG K) k62)), (0, .ref (u 0)), (1, .int w), (2, .int (nI (gP (kG K)))), (3, .int v3_62), (4, .int (bI v4_62)), (5, .int (nI k62))]) hx hb dL_arePlayersRight_80 hl (by decide) rfl (fun ls hl => ?_)
      exact J82 (gS (kG K)) 0 (v3_62) (v4_62) ((gMon (kG K) k62)) (0) _ _ _ _ _ ls (by omega) hz  hF (by omega) (by omega) hP hD hS (lv_sub hl [3, 4, 5, 6, 7, 8, 2, 1, 0] rfl)
  have J57 : ∀ (v3_57 : Int32) (s0_57 : Bool)  (x : KX) (H : Heap) (locs : List Loc) (cells slots : Nat) (ls : Array Slot), z = f_L_arePlayersRight_j57 K w v3_57 s0_57 → kF T x → cells + (1160) ≤ 1169 → slots + (6960) ≤ 7014 → va_P D vwCl (wj [kW C ev u K x]) H → va_D A (wj [kW C ev u K x]) → va_S A s.heap H locs → lv_has ls 10 [(0, .ref (u 0)), (1, .int w), (2, .int (nI (gP (kG K)))), (3, .int v3_57)] → W p l e ({ frames := 12, cells := 1169, slots := 7014, locals := 286 } : Room) s m ([.ref (u 0), .int w] : List Value).toArray below meth c H locs cells slots (MQ below (eO (fun _ : KX => (some (.int (bI z)))) D (kF T) (kW C ev u K) A) ([.ref (u 0), .int w] : List Value).toArray s 1169 7014 A) (F0 m 57 ls [.int (bI s0_57)]) := by
    intro v3_57 s0_57 x H locs cells slots ls hz  hF hc hs hP hD hS hl
    refine lv_istore (lv' := [(4, .int (bI s0_57)), (0, .ref (u 0)), (1, .int w), (2, .int (nI (gP (kG K)))), (3, .int v3_57)]) hx hb dL_arePlayersRight_57 hl (by decide) rfl (fun ls hl => ?_)
    refine lv_iconst (v := 0) hx hb dL_arePlayersRight_59 (by decide) ?_
    refine lv_istore (lv' := [(5, .int 0), (4, .int (bI s0_57)), (0, .ref (u 0)), (1, .int w), (2, .int (nI (gP (kG K)))), (3, .int v3_57)]) hx hb dL_arePlayersRight_60 hl (by decide) rfl (fun ls hl => ?_)
    exact J62 (gP (kG K)) 0 (v3_57) (s0_57) _ _ _ _ _ ls (by omega) hz  hF (by omega) (by omega) hP hD hS (lv_sub hl [2, 3, 4, 5, 1, 0] rfl)
  have J56 : ∀ (v3_56 : Int32)  (x : KX) (H : Heap) (locs : List Loc) (cells slots : Nat) (ls : Array Slot), z = f_L_arePlayersRight_j56 K w v3_56 → kF T x → cells + (1160) ≤ 1169 → slots + (6960) ≤ 7014 → va_P D vwCl (wj [kW C ev u K x]) H → va_D A (wj [kW C ev u K x]) → va_S A s.heap H locs → lv_has ls 10 [(0, .ref (u 0)), (1, .int w), (2, .int (nI (gP (kG K)))), (3, .int v3_56)] → W p l e ({ frames := 12, cells := 1169, slots := 7014, locals := 286 } : Room) s m ([.ref (u 0), .int w] : List Value).toArray below meth c H locs cells slots (MQ below (eO (fun _ : KX => (some (.int (bI z)))) D (kF T) (kW C ev u K) A) ([.ref (u 0), .int w] : List Value).toArray s 1169 7014 A) (F0 m 56 ls []) := by
    intro v3_56 x H locs cells slots ls hz  hF hc hs hP hD hS hl
    refine lv_iconst (v := 0) hx hb dL_arePlayersRight_56 (by decide) ?_
    exact J57 (v3_56) (false) _ _ _ _ _ ls hz  hF (by omega) (by omega) hP hD hS (lv_sub hl [0, 1, 2, 3] rfl)
  refine lv_aload_n hx hb dL_arePlayersRight_0 rfl (lv_at hl 0 rfl) ?_
  refine callK (va_runV (As := []) (rest := []) ⟨hx, hb, hml, hown, hts⟩ (k_playerCount (l := l) (D := D) (C := C) (ev := ev) (u := u) (T := T) hl9 hI x _ hF) (cwV 0 hts gL_arePlayersRight_X7_playerCount rfl rfl rfl (by decide +kernel) ⟨Nat.le_of_ble_eq_true rfl, Nat.le_of_ble_eq_true rfl⟩) (hloP_v (kP hP) hK hE (kD hD) hR hX hT9 hV9 hDV hN hC hS (kFr hD hS hA) (kRc hK hP)) rfl rfl hl.1 rfl (lv_room (Nat.le_of_ble_eq_true rfl)) dL_arePlayersRight_1 ⟨show _ ≤ 1169 from by omega, show _ ≤ 7014 from by omega⟩) hP hD hS hA (fun x H locs hF hP hD hS => ?_)
  refine lv_istore_n (lv' := [(2, .int (nI (gP (kG K)))), (0, .ref (u 0)), (1, .int w)]) hx hb dL_arePlayersRight_4 rfl hl (by decide) rfl (fun ls hl => ?_)
  refine lv_aload_n hx hb dL_arePlayersRight_5 rfl (lv_at hl 1 rfl) ?_
  refine callK (va_runV (As := []) (rest := []) ⟨hx, hb, hml, hown, hts⟩ (k_bankMoney (l := l) (D := D) (C := C) (ev := ev) (u := u) (T := T) hl9 hI x _ hF) (cwV 0 hts gL_arePlayersRight_X7_bankMoney rfl rfl rfl (by decide +kernel) ⟨Nat.le_of_ble_eq_true rfl, Nat.le_of_ble_eq_true rfl⟩) (hloP_v (kP hP) hK hE (kD hD) hR hX hT9 hV9 hDV hN hC hS (kFr hD hS hA) (kRc hK hP)) rfl rfl hl.1 rfl (lv_room (Nat.le_of_ble_eq_true rfl)) dL_arePlayersRight_6 ⟨show _ ≤ 1169 from by omega, show _ ≤ 7014 from by omega⟩) hP hD hS hA (fun x H locs hF hP hD hS => ?_)
  refine lv_istore_n (lv' := [(3, .int (gBank (kG K))), (2, .int (nI (gP (kG K)))), (0, .ref (u 0)), (1, .int w)]) hx hb dL_arePlayersRight_9 rfl hl (by decide) rfl (fun ls hl => ?_)
  refine lv_aload_n hx hb dL_arePlayersRight_10 rfl (lv_at hl 2 rfl) ?_
  refine lv_bipush (v := 9) hx hb dL_arePlayersRight_11 (by decide +kernel) ?_
  refine lv_iload_n hx hb dL_arePlayersRight_13 rfl (lv_at hl 1 rfl) ?_
  refine lv_iconst (v := 0) hx hb dL_arePlayersRight_14 (by decide) ?_
  refine callK (vx_runSW (As := [.ref (u 0), .int 9, .int (nI (gP (kG K))), .int 0]) (rest := []) ⟨hx, hb, hml, hown, hts⟩ (c_L_ask l D C ev u K T (9) ((nI (gP (kG K)))) (0) hl9 hI hFe (by decide) (ask_ok hI (by decide) _ _) x _ hF) (vx_cwSW 4 hts gL_arePlayersRight_L_ask rfl rfl rfl (by decide +kernel) ⟨Nat.le_of_ble_eq_true rfl, Nat.le_of_ble_eq_true rfl⟩) (hloP_s (kP hP) hK hE (kD hD) hR hX hT9 hV9 hDV hN hC hS (kFr hD hS hA)) rfl rfl hl.1 rfl (lv_room (Nat.le_of_ble_eq_true rfl)) dL_arePlayersRight_15 ⟨show _ ≤ 1169 from by omega, show _ ≤ 7014 from by omega⟩) hP hD hS hA (fun x H locs hF hP hD hS => ?_)
  refine lv_sipush (v := (-2004)) hx hb dL_arePlayersRight_18 (by decide +kernel) ?_
  refine lv_icmp_ne (tgt := 56) hx hb dL_arePlayersRight_21 (by decide) (fun c_21 => ?_) (fun c_21 => ?_)
  · have hz := hz.trans (if_neg c_21)
    exact J56 ((gBank (kG K))) _ _ _ _ _ ls hz  hF (by omega) (by omega) hP hD hS (lv_sub hl [2, 3, 1, 0] rfl)
  · have hz := hz.trans (if_pos c_21)
    refine lv_aload_n hx hb dL_arePlayersRight_24 rfl (lv_at hl 2 rfl) ?_
    refine lv_bipush (v := 9) hx hb dL_arePlayersRight_25 (by decide +kernel) ?_
    refine lv_iconst (v := (-1)) hx hb dL_arePlayersRight_27 (by decide) ?_
    refine lv_iconst (v := 0) hx hb dL_arePlayersRight_28 (by decide) ?_
    refine callK (vx_runSW (As := [.ref (u 0), .int 9, .int (-1), .int 0]) (rest := []) ⟨hx, hb, hml, hown, hts⟩ (c_L_ask l D C ev u K T (9) ((-1)) (0) hl9 hI hFe (by decide) (ask_ok hI (by decide) _ _) x _ hF) (vx_cwSW 4 hts gL_arePlayersRight_L_ask rfl rfl rfl (by decide +kernel) ⟨Nat.le_of_ble_eq_true rfl, Nat.le_of_ble_eq_true rfl⟩) (hloP_s (kP hP) hK hE (kD hD) hR hX hT9 hV9 hDV hN hC hS (kFr hD hS hA)) rfl rfl hl.1 rfl (lv_room (Nat.le_of_ble_eq_true rfl)) dL_arePlayersRight_29 ⟨show _ ≤ 1169 from by omega, show _ ≤ 7014 from by omega⟩) hP hD hS hA (fun x H locs hF hP hD hS => ?_)
    refine lv_sipush (v := (-2004)) hx hb dL_arePlayersRight_32 (by decide +kernel) ?_
    refine lv_icmp_ne (tgt := 56) hx hb dL_arePlayersRight_35 (by decide) (fun c_35 => ?_) (fun c_35 => ?_)
    · have hz := hz.trans (if_neg c_35)
      exact J56 ((gBank (kG K))) _ _ _ _ _ ls hz  hF (by omega) (by omega) hP hD hS (lv_sub hl [2, 3, 1, 0] rfl)
    · have hz := hz.trans (if_pos c_35)
      refine lv_aload_n hx hb dL_arePlayersRight_38 rfl (lv_at hl 2 rfl) ?_
      refine lv_bipush (v := 13) hx hb dL_arePlayersRight_39 (by decide +kernel) ?_
      refine lv_iload_n hx hb dL_arePlayersRight_41 rfl (lv_at hl 1 rfl) ?_
      refine lv_iconst (v := 0) hx hb dL_arePlayersRight_42 (by decide) ?_
      refine callK (vx_runSW (As := [.ref (u 0), .int 13, .int (nI (gP (kG K))), .int 0]) (rest := []) ⟨hx, hb, hml, hown, hts⟩ (c_L_ask l D C ev u K T (13) ((nI (gP (kG K)))) (0) hl9 hI hFe (by decide) (ask_ok hI (by decide) _ _) x _ hF) (vx_cwSW 4 hts gL_arePlayersRight_L_ask rfl rfl rfl (by decide +kernel) ⟨Nat.le_of_ble_eq_true rfl, Nat.le_of_ble_eq_true rfl⟩) (hloP_s (kP hP) hK hE (kD hD) hR hX hT9 hV9 hDV hN hC hS (kFr hD hS hA)) rfl rfl hl.1 rfl (lv_room (Nat.le_of_ble_eq_true rfl)) dL_arePlayersRight_43 ⟨show _ ≤ 1169 from by omega, show _ ≤ 7014 from by omega⟩) hP hD hS hA (fun x H locs hF hP hD hS => ?_)
      refine lv_sipush (v := (-2002)) hx hb dL_arePlayersRight_46 (by decide +kernel) ?_
      refine lv_icmp_ne (tgt := 56) hx hb dL_arePlayersRight_49 (by decide) (fun c_49 => ?_) (fun c_49 => ?_)
      · have hz := hz.trans (if_neg c_49)
        exact J56 ((gBank (kG K))) _ _ _ _ _ ls hz  hF (by omega) (by omega) hP hD hS (lv_sub hl [2, 3, 1, 0] rfl)
      · have hz := hz.trans (if_pos c_49)
        refine lv_iconst (v := 1) hx hb dL_arePlayersRight_52 (by decide) ?_
        refine lv_goto (tgt := 57) hx hb dL_arePlayersRight_53 (by decide) ?_
        exact J57 ((gBank (kG K))) (true) _ _ _ _ _ ls hz  hF (by omega) (by omega) hP hD hS (lv_sub hl [2, 3, 1, 0] rfl)
