set_option maxRecDepth 20000 in
theorem ggL_any_X7_playerCount : GoodIn wsL_any wsX7_playerCount := goodIn_r _ [9, 10, 398, 399, 400, 401, 402, 403, 404, 405, 406, 407, 408, 409, 410, 411, 412, 413, 414, 415, 416, 417, 418, 419, 420, 421, 422, 423] (by decide +kernel) (by decide +kernel)
set_option maxRecDepth 20000 in
theorem gL_any_X7_playerCount : GoodIn wsL_any (wsV RL 120 RX7 yX7_playerCount wsX7_playerCount) := goodIn_app (goodIn_r _ [5, 6, 7, 8] (by decide +kernel) (by decide +kernel)) ggL_any_X7_playerCount
set_option maxRecDepth 20000 in
theorem ggL_any_X7_siteCount : GoodIn wsL_any wsX7_siteCount := goodIn_r _ [14, 10, 398, 399, 400, 401, 402, 403, 404, 405, 406, 407, 408, 409, 410, 411, 412, 413, 414, 415, 416, 417, 418, 419, 420, 421, 422, 423] (by decide +kernel) (by decide +kernel)
set_option maxRecDepth 20000 in
theorem gL_any_X7_siteCount : GoodIn wsL_any (wsV RL 128 RX7 yX7_siteCount wsX7_siteCount) := goodIn_app (goodIn_r _ [11, 12, 13, 8] (by decide +kernel) (by decide +kernel)) ggL_any_X7_siteCount
set_option maxRecDepth 20000 in
theorem ggL_any_L_pick : GoodIn wsL_any wsL_pick := goodIn_ca (goodIn_ca (goodIn_r _ [18, 19, 20, 17, 21, 22, 23] (by decide +kernel) (by decide +kernel)) (goodIn_sub (fun _ h => List.mem_cons_of_mem _ (List.mem_append_left _ (List.mem_append_left _ (List.mem_append_left _ (List.mem_append_left _ (List.mem_append_left _ (List.mem_append_left _ (List.mem_append_right _ h)))))))) (by decide +kernel))) (goodIn_sub (fun _ h => List.mem_cons_of_mem _ (List.mem_append_left _ (List.mem_append_left _ (List.mem_append_left _ (List.mem_append_left _ (List.mem_append_left _ (List.mem_append_right _ h))))))) (by decide +kernel))
set_option maxRecDepth 20000 in
theorem gL_any_L_pick : GoodIn wsL_any (va_wsS RL 113 yL_pick wsL_pick) := goodIn_app (goodIn_r _ [15, 16, 17] (by decide +kernel) (by decide +kernel)) ggL_any_L_pick
set_option maxRecDepth 20000 in
theorem ggL_any_L_deed : GoodIn wsL_any wsL_deed := goodIn_ca (goodIn_ca (goodIn_ca (goodIn_ca (goodIn_ca (goodIn_ca (goodIn_r _ [26, 27, 28, 29, 17, 30, 31, 32, 33, 8, 34, 35, 36, 37, 38, 39, 10, 40, 41, 42, 43, 44, 45, 46, 47, 48, 49, 50, 51, 52, 53, 54, 55, 56, 57, 58, 59, 60, 61, 62, 63, 64, 65, 66, 67, 68, 3, 69, 70, 2, 4, 71, 72, 73, 74, 75, 76, 77, 78, 79, 80, 81, 82, 83, 84, 85, 86, 87, 88, 89, 90, 91, 92, 93, 94, 95, 96, 97, 98, 99, 100, 101, 102, 103, 104, 105, 106, 107, 108, 109, 110, 111, 112, 113, 114, 115, 116, 117, 118, 119, 120, 121, 122, 123, 124, 125, 126, 127, 128, 129, 130, 131, 132, 133, 134, 135, 136, 137, 138, 139, 140, 141, 142, 143, 144, 145, 146, 147, 148, 149, 150, 151, 152, 153, 154, 155, 156, 157, 158, 159, 160, 161, 162, 163, 164, 165, 166, 167, 168, 169, 170, 171, 172, 173, 174, 175, 176, 177, 178, 179, 180, 181, 182, 183, 184, 185, 186, 187, 188, 189, 190, 191, 192, 193, 194, 195, 196, 197, 198, 199, 200, 201, 202, 203, 204, 205, 206, 207, 208, 209, 210, 211, 212, 213, 214, 215, 216, 217, 218, 219, 220, 221, 222, 223, 224, 225, 226, 227, 228, 229, 230, 231, 232, 233, 234, 235, 236, 237, 238, 239, 240, 241, 242, 243, 244, 245, 246, 247, 248, 249, 250, 251, 252, 253, 254, 255, 256, 257, 258, 259, 260, 261, 262, 263, 264, 265, 266, 267, 268, 269, 270, 271, 272, 273, 274, 275, 276, 277, 278, 279, 280, 281, 282, 283, 284, 285, 286, 287, 288, 289, 290, 291, 292, 293, 294, 295, 296, 297, 298, 299, 300, 301, 302, 303, 304, 305, 306, 307, 308, 309, 310, 311, 312, 313, 314, 315, 316, 317, 318, 319, 320, 321, 322, 323, 324, 325, 326, 327, 328, 329, 330, 331, 332, 333, 334, 335, 336, 337, 338, 339, 340, 341, 342, 343, 344, 345, 346, 347, 348, 349, 350, 351, 352, 353, 354, 355, 356, 357, 358, 359, 360, 361, 362, 363, 364, 365, 366, 367, 368, 369, 370, 371, 372, 373, 374, 375, 376, 377, 378, 379, 380, 381, 382, 383, 384, 385, 386, 387, 388, 389, 390, 391, 392, 393, 394, 395, 396, 397, 398, 399, 400, 401, 402, 403, 404, 405, 406, 407, 408, 409, 410, 411, 412, 413, 414, 415, 416, 417, 418, 419, 420, 421, 422, 423, 424, 425, 426, 427, 428, 429, 430, 431, 432, 433, 434, 435] (by decide +kernel) (by decide +kernel)) (goodIn_sub (fun _ h => List.mem_cons_of_mem _ (List.mem_append_left _ (List.mem_append_left _ (List.mem_append_left _ (List.mem_append_left _ (List.mem_append_left _ (List.mem_append_right _ h))))))) (by decide +kernel))) (goodIn_sub (fun _ h => List.mem_cons_of_mem _ (List.mem_append_left _ (List.mem_append_left _ (List.mem_append_left _ (List.mem_append_left _ (List.mem_append_right _ h)))))) (by decide +kernel))) (goodIn_sub (fun _ h => List.mem_cons_of_mem _ (List.mem_append_left _ (List.mem_append_left _ (List.mem_append_left _ (List.mem_append_right _ h))))) (by decide +kernel))) (goodIn_sub (fun _ h => List.mem_cons_of_mem _ (List.mem_append_left _ (List.mem_append_left _ (List.mem_append_right _ h)))) (by decide +kernel))) (goodIn_sub (fun _ h => List.mem_cons_of_mem _ (List.mem_append_left _ (List.mem_append_right _ h))) (by decide +kernel))) (goodIn_sub (fun _ h => List.mem_cons_of_mem _ (List.mem_append_right _ h)) (by decide +kernel))
set_option maxRecDepth 20000 in
theorem gL_any_L_deed : GoodIn wsL_any (va_wsS RL 117 yL_deed wsL_deed) := goodIn_app (goodIn_r _ [24, 25, 17] (by decide +kernel) (by decide +kernel)) ggL_any_L_deed
theorem dL_any_0 : decode cL_any 0 = .ok (.iconst 1, 1) := by decide +kernel
theorem dL_any_1 : decode cL_any 1 = .ok (.aload_n 0, 1) := by decide +kernel
theorem dL_any_2 : decode cL_any 2 = .ok (.invokevirtual 120, 3) := by decide +kernel
theorem dL_any_5 : decode cL_any 5 = .ok (.invokestatic 123, 3) := by decide +kernel
theorem dL_any_8 : decode cL_any 8 = .ok (.istore_n 3, 1) := by decide +kernel
theorem dL_any_9 : decode cL_any 9 = .ok (.iconst 1, 1) := by decide +kernel
theorem dL_any_10 : decode cL_any 10 = .ok (.aload_n 0, 1) := by decide +kernel
theorem dL_any_11 : decode cL_any 11 = .ok (.invokevirtual 128, 3) := by decide +kernel
theorem dL_any_14 : decode cL_any 14 = .ok (.invokestatic 123, 3) := by decide +kernel
theorem dL_any_17 : decode cL_any 17 = .ok (.istore 4, 2) := by decide +kernel
theorem dL_any_19 : decode cL_any 19 = .ok (.aload_n 1, 1) := by decide +kernel
theorem dL_any_20 : decode cL_any 20 = .ok (.iload_n 2, 1) := by decide +kernel
theorem dL_any_21 : decode cL_any 21 = .ok (.bipush 24, 2) := by decide +kernel
theorem dL_any_23 : decode cL_any 23 = .ok (.invokestatic 113, 3) := by decide +kernel
theorem dL_any_26 : decode cL_any 26 = .ok (.tableswitch 277 0 16 #[82, 99, 99, 134, 134, 158, 175, 200, 200, 200, 225, 225, 225, 225, 243, 243, 243], 82) := by decide +kernel
theorem dL_any_108 : decode cL_any 108 = .ok (.aload_n 0, 1) := by decide +kernel
theorem dL_any_109 : decode cL_any 109 = .ok (.iconst 0, 1) := by decide +kernel
theorem dL_any_110 : decode cL_any 110 = .ok (.aload_n 1, 1) := by decide +kernel
theorem dL_any_111 : decode cL_any 111 = .ok (.iload_n 2, 1) := by decide +kernel
theorem dL_any_112 : decode cL_any 112 = .ok (.iconst 1, 1) := by decide +kernel
theorem dL_any_113 : decode cL_any 113 = .ok (.iadd, 1) := by decide +kernel
theorem dL_any_114 : decode cL_any 114 = .ok (.bipush 100, 2) := by decide +kernel
theorem dL_any_116 : decode cL_any 116 = .ok (.invokestatic 113, 3) := by decide +kernel
theorem dL_any_119 : decode cL_any 119 = .ok (.iconst 0, 1) := by decide +kernel
theorem dL_any_120 : decode cL_any 120 = .ok (.iconst 0, 1) := by decide +kernel
theorem dL_any_121 : decode cL_any 121 = .ok (.invokestatic 117, 3) := by decide +kernel
theorem dL_any_124 : decode cL_any 124 = .ok (.ireturn, 1) := by decide +kernel
theorem dL_any_125 : decode cL_any 125 = .ok (.aload_n 0, 1) := by decide +kernel
theorem dL_any_126 : decode cL_any 126 = .ok (.iconst 1, 1) := by decide +kernel
theorem dL_any_127 : decode cL_any 127 = .ok (.aload_n 1, 1) := by decide +kernel
theorem dL_any_128 : decode cL_any 128 = .ok (.iload_n 2, 1) := by decide +kernel
theorem dL_any_129 : decode cL_any 129 = .ok (.iconst 1, 1) := by decide +kernel
theorem dL_any_130 : decode cL_any 130 = .ok (.iadd, 1) := by decide +kernel
theorem dL_any_131 : decode cL_any 131 = .ok (.bipush 8, 2) := by decide +kernel
theorem dL_any_133 : decode cL_any 133 = .ok (.invokestatic 113, 3) := by decide +kernel
theorem dL_any_136 : decode cL_any 136 = .ok (.aload_n 1, 1) := by decide +kernel
theorem dL_any_137 : decode cL_any 137 = .ok (.iload_n 2, 1) := by decide +kernel
theorem dL_any_138 : decode cL_any 138 = .ok (.iconst 2, 1) := by decide +kernel
theorem dL_any_139 : decode cL_any 139 = .ok (.iadd, 1) := by decide +kernel
theorem dL_any_140 : decode cL_any 140 = .ok (.bipush 8, 2) := by decide +kernel
theorem dL_any_142 : decode cL_any 142 = .ok (.invokestatic 113, 3) := by decide +kernel
theorem dL_any_145 : decode cL_any 145 = .ok (.iconst 1, 1) := by decide +kernel
theorem dL_any_146 : decode cL_any 146 = .ok (.aload_n 1, 1) := by decide +kernel
theorem dL_any_147 : decode cL_any 147 = .ok (.iload_n 2, 1) := by decide +kernel
theorem dL_any_148 : decode cL_any 148 = .ok (.iconst 3, 1) := by decide +kernel
theorem dL_any_149 : decode cL_any 149 = .ok (.iadd, 1) := by decide +kernel
theorem dL_any_150 : decode cL_any 150 = .ok (.bipush 9, 2) := by decide +kernel
theorem dL_any_152 : decode cL_any 152 = .ok (.invokestatic 113, 3) := by decide +kernel
theorem dL_any_155 : decode cL_any 155 = .ok (.iadd, 1) := by decide +kernel
theorem dL_any_156 : decode cL_any 156 = .ok (.invokestatic 117, 3) := by decide +kernel
theorem dL_any_159 : decode cL_any 159 = .ok (.ireturn, 1) := by decide +kernel
theorem dL_any_160 : decode cL_any 160 = .ok (.aload_n 0, 1) := by decide +kernel
theorem dL_any_161 : decode cL_any 161 = .ok (.iconst 2, 1) := by decide +kernel
theorem dL_any_162 : decode cL_any 162 = .ok (.aload_n 1, 1) := by decide +kernel
theorem dL_any_163 : decode cL_any 163 = .ok (.iload_n 2, 1) := by decide +kernel
theorem dL_any_164 : decode cL_any 164 = .ok (.iconst 1, 1) := by decide +kernel
theorem dL_any_165 : decode cL_any 165 = .ok (.iadd, 1) := by decide +kernel
theorem dL_any_166 : decode cL_any 166 = .ok (.bipush 8, 2) := by decide +kernel
theorem dL_any_168 : decode cL_any 168 = .ok (.invokestatic 113, 3) := by decide +kernel
theorem dL_any_171 : decode cL_any 171 = .ok (.aload_n 1, 1) := by decide +kernel
theorem dL_any_172 : decode cL_any 172 = .ok (.iload_n 2, 1) := by decide +kernel
theorem dL_any_173 : decode cL_any 173 = .ok (.iconst 2, 1) := by decide +kernel
theorem dL_any_174 : decode cL_any 174 = .ok (.iadd, 1) := by decide +kernel
theorem dL_any_175 : decode cL_any 175 = .ok (.iconst 4, 1) := by decide +kernel
theorem dL_any_176 : decode cL_any 176 = .ok (.invokestatic 113, 3) := by decide +kernel
theorem dL_any_179 : decode cL_any 179 = .ok (.iconst 0, 1) := by decide +kernel
theorem dL_any_180 : decode cL_any 180 = .ok (.invokestatic 117, 3) := by decide +kernel
theorem dL_any_183 : decode cL_any 183 = .ok (.ireturn, 1) := by decide +kernel
theorem dL_any_184 : decode cL_any 184 = .ok (.aload_n 0, 1) := by decide +kernel
theorem dL_any_185 : decode cL_any 185 = .ok (.iconst 3, 1) := by decide +kernel
theorem dL_any_186 : decode cL_any 186 = .ok (.aload_n 1, 1) := by decide +kernel
theorem dL_any_187 : decode cL_any 187 = .ok (.iload_n 2, 1) := by decide +kernel
theorem dL_any_188 : decode cL_any 188 = .ok (.iconst 1, 1) := by decide +kernel
theorem dL_any_189 : decode cL_any 189 = .ok (.iadd, 1) := by decide +kernel
theorem dL_any_190 : decode cL_any 190 = .ok (.bipush 10, 2) := by decide +kernel
theorem dL_any_192 : decode cL_any 192 = .ok (.invokestatic 113, 3) := by decide +kernel
theorem dL_any_195 : decode cL_any 195 = .ok (.iconst 0, 1) := by decide +kernel
theorem dL_any_196 : decode cL_any 196 = .ok (.iconst 0, 1) := by decide +kernel
theorem dL_any_197 : decode cL_any 197 = .ok (.invokestatic 117, 3) := by decide +kernel
theorem dL_any_200 : decode cL_any 200 = .ok (.ireturn, 1) := by decide +kernel
theorem dL_any_201 : decode cL_any 201 = .ok (.aload_n 0, 1) := by decide +kernel
theorem dL_any_202 : decode cL_any 202 = .ok (.bipush 6, 2) := by decide +kernel
theorem dL_any_204 : decode cL_any 204 = .ok (.aload_n 1, 1) := by decide +kernel
theorem dL_any_205 : decode cL_any 205 = .ok (.iload_n 2, 1) := by decide +kernel
theorem dL_any_206 : decode cL_any 206 = .ok (.iconst 1, 1) := by decide +kernel
theorem dL_any_207 : decode cL_any 207 = .ok (.iadd, 1) := by decide +kernel
theorem dL_any_208 : decode cL_any 208 = .ok (.iload_n 3, 1) := by decide +kernel
theorem dL_any_209 : decode cL_any 209 = .ok (.invokestatic 113, 3) := by decide +kernel
theorem dL_any_212 : decode cL_any 212 = .ok (.aload_n 1, 1) := by decide +kernel
theorem dL_any_213 : decode cL_any 213 = .ok (.iload_n 2, 1) := by decide +kernel
theorem dL_any_214 : decode cL_any 214 = .ok (.iconst 2, 1) := by decide +kernel
theorem dL_any_215 : decode cL_any 215 = .ok (.iadd, 1) := by decide +kernel
theorem dL_any_216 : decode cL_any 216 = .ok (.iload 4, 2) := by decide +kernel
theorem dL_any_218 : decode cL_any 218 = .ok (.invokestatic 113, 3) := by decide +kernel
theorem dL_any_221 : decode cL_any 221 = .ok (.iconst 0, 1) := by decide +kernel
theorem dL_any_222 : decode cL_any 222 = .ok (.invokestatic 117, 3) := by decide +kernel
theorem dL_any_225 : decode cL_any 225 = .ok (.ireturn, 1) := by decide +kernel
theorem dL_any_226 : decode cL_any 226 = .ok (.aload_n 0, 1) := by decide +kernel
theorem dL_any_227 : decode cL_any 227 = .ok (.bipush 7, 2) := by decide +kernel
theorem dL_any_229 : decode cL_any 229 = .ok (.aload_n 1, 1) := by decide +kernel
theorem dL_any_230 : decode cL_any 230 = .ok (.iload_n 2, 1) := by decide +kernel
theorem dL_any_231 : decode cL_any 231 = .ok (.iconst 1, 1) := by decide +kernel
theorem dL_any_232 : decode cL_any 232 = .ok (.iadd, 1) := by decide +kernel
theorem dL_any_233 : decode cL_any 233 = .ok (.iload_n 3, 1) := by decide +kernel
theorem dL_any_234 : decode cL_any 234 = .ok (.invokestatic 113, 3) := by decide +kernel
theorem dL_any_237 : decode cL_any 237 = .ok (.aload_n 1, 1) := by decide +kernel
theorem dL_any_238 : decode cL_any 238 = .ok (.iload_n 2, 1) := by decide +kernel
theorem dL_any_239 : decode cL_any 239 = .ok (.iconst 2, 1) := by decide +kernel
theorem dL_any_240 : decode cL_any 240 = .ok (.iadd, 1) := by decide +kernel
theorem dL_any_241 : decode cL_any 241 = .ok (.iload 4, 2) := by decide +kernel
theorem dL_any_243 : decode cL_any 243 = .ok (.invokestatic 113, 3) := by decide +kernel
theorem dL_any_246 : decode cL_any 246 = .ok (.iconst 0, 1) := by decide +kernel
theorem dL_any_247 : decode cL_any 247 = .ok (.invokestatic 117, 3) := by decide +kernel
theorem dL_any_250 : decode cL_any 250 = .ok (.ireturn, 1) := by decide +kernel
theorem dL_any_251 : decode cL_any 251 = .ok (.aload_n 0, 1) := by decide +kernel
theorem dL_any_252 : decode cL_any 252 = .ok (.bipush 8, 2) := by decide +kernel
theorem dL_any_254 : decode cL_any 254 = .ok (.aload_n 1, 1) := by decide +kernel
theorem dL_any_255 : decode cL_any 255 = .ok (.iload_n 2, 1) := by decide +kernel
theorem dL_any_256 : decode cL_any 256 = .ok (.iconst 1, 1) := by decide +kernel
theorem dL_any_257 : decode cL_any 257 = .ok (.iadd, 1) := by decide +kernel
theorem dL_any_258 : decode cL_any 258 = .ok (.iload 4, 2) := by decide +kernel
theorem dL_any_260 : decode cL_any 260 = .ok (.invokestatic 113, 3) := by decide +kernel
theorem dL_any_263 : decode cL_any 263 = .ok (.iconst 0, 1) := by decide +kernel
theorem dL_any_264 : decode cL_any 264 = .ok (.iconst 0, 1) := by decide +kernel
theorem dL_any_265 : decode cL_any 265 = .ok (.invokestatic 117, 3) := by decide +kernel
theorem dL_any_268 : decode cL_any 268 = .ok (.ireturn, 1) := by decide +kernel
theorem dL_any_269 : decode cL_any 269 = .ok (.aload_n 0, 1) := by decide +kernel
theorem dL_any_270 : decode cL_any 270 = .ok (.iconst 5, 1) := by decide +kernel
theorem dL_any_271 : decode cL_any 271 = .ok (.aload_n 1, 1) := by decide +kernel
theorem dL_any_272 : decode cL_any 272 = .ok (.iload_n 2, 1) := by decide +kernel
theorem dL_any_273 : decode cL_any 273 = .ok (.iconst 1, 1) := by decide +kernel
theorem dL_any_274 : decode cL_any 274 = .ok (.iadd, 1) := by decide +kernel
theorem dL_any_275 : decode cL_any 275 = .ok (.iload_n 3, 1) := by decide +kernel
theorem dL_any_276 : decode cL_any 276 = .ok (.invokestatic 113, 3) := by decide +kernel
theorem dL_any_279 : decode cL_any 279 = .ok (.aload_n 1, 1) := by decide +kernel
theorem dL_any_280 : decode cL_any 280 = .ok (.iload_n 2, 1) := by decide +kernel
theorem dL_any_281 : decode cL_any 281 = .ok (.iconst 2, 1) := by decide +kernel
theorem dL_any_282 : decode cL_any 282 = .ok (.iadd, 1) := by decide +kernel
theorem dL_any_283 : decode cL_any 283 = .ok (.iload 4, 2) := by decide +kernel
theorem dL_any_285 : decode cL_any 285 = .ok (.invokestatic 113, 3) := by decide +kernel
theorem dL_any_288 : decode cL_any 288 = .ok (.iconst 1, 1) := by decide +kernel
theorem dL_any_289 : decode cL_any 289 = .ok (.aload_n 1, 1) := by decide +kernel
theorem dL_any_290 : decode cL_any 290 = .ok (.iload_n 2, 1) := by decide +kernel
theorem dL_any_291 : decode cL_any 291 = .ok (.iconst 3, 1) := by decide +kernel
theorem dL_any_292 : decode cL_any 292 = .ok (.iadd, 1) := by decide +kernel
theorem dL_any_293 : decode cL_any 293 = .ok (.bipush 60, 2) := by decide +kernel
theorem dL_any_295 : decode cL_any 295 = .ok (.invokestatic 113, 3) := by decide +kernel
theorem dL_any_298 : decode cL_any 298 = .ok (.iadd, 1) := by decide +kernel
theorem dL_any_299 : decode cL_any 299 = .ok (.invokestatic 117, 3) := by decide +kernel
theorem dL_any_302 : decode cL_any 302 = .ok (.ireturn, 1) := by decide +kernel
theorem dL_any_303 : decode cL_any 303 = .ok (.aload_n 0, 1) := by decide +kernel
theorem dL_any_304 : decode cL_any 304 = .ok (.iconst 4, 1) := by decide +kernel
theorem dL_any_305 : decode cL_any 305 = .ok (.aload_n 1, 1) := by decide +kernel
theorem dL_any_306 : decode cL_any 306 = .ok (.iload_n 2, 1) := by decide +kernel
theorem dL_any_307 : decode cL_any 307 = .ok (.iconst 1, 1) := by decide +kernel
theorem dL_any_308 : decode cL_any 308 = .ok (.iadd, 1) := by decide +kernel
theorem dL_any_309 : decode cL_any 309 = .ok (.iload_n 3, 1) := by decide +kernel
theorem dL_any_310 : decode cL_any 310 = .ok (.invokestatic 113, 3) := by decide +kernel
theorem dL_any_313 : decode cL_any 313 = .ok (.aload_n 1, 1) := by decide +kernel
theorem dL_any_314 : decode cL_any 314 = .ok (.iload_n 2, 1) := by decide +kernel
theorem dL_any_315 : decode cL_any 315 = .ok (.iconst 2, 1) := by decide +kernel
theorem dL_any_316 : decode cL_any 316 = .ok (.iadd, 1) := by decide +kernel
theorem dL_any_317 : decode cL_any 317 = .ok (.iload 4, 2) := by decide +kernel
theorem dL_any_319 : decode cL_any 319 = .ok (.invokestatic 113, 3) := by decide +kernel
theorem dL_any_322 : decode cL_any 322 = .ok (.iconst 1, 1) := by decide +kernel
theorem dL_any_323 : decode cL_any 323 = .ok (.aload_n 1, 1) := by decide +kernel
theorem dL_any_324 : decode cL_any 324 = .ok (.iload_n 2, 1) := by decide +kernel
theorem dL_any_325 : decode cL_any 325 = .ok (.iconst 3, 1) := by decide +kernel
theorem dL_any_326 : decode cL_any 326 = .ok (.iadd, 1) := by decide +kernel
theorem dL_any_327 : decode cL_any 327 = .ok (.bipush 30, 2) := by decide +kernel
theorem dL_any_329 : decode cL_any 329 = .ok (.invokestatic 113, 3) := by decide +kernel
theorem dL_any_332 : decode cL_any 332 = .ok (.iadd, 1) := by decide +kernel
theorem dL_any_333 : decode cL_any 333 = .ok (.invokestatic 117, 3) := by decide +kernel
theorem dL_any_336 : decode cL_any 336 = .ok (.ireturn, 1) := by decide +kernel
set_option maxHeartbeats 4000000 in
set_option maxRecDepth 100000 in
theorem c_L_any (l : Launch) (D : va_G) (C : Nat → ClassId) (ev u : Nat → Nat) (K : CT) (T : TX) (a L : Nat) (xs : Nat → Int32) (i : Nat) (hi : i < 2 ^ 19) (hl9 : l.stackTraces = false) (hd : DI K) (hL : L < 2 ^ 20) (x : KX) (sz : Nat) (hF : kF T x) : Met l yL_any wsL_any ({ frames := 11, cells := 1, slots := 6, locals := 260 } : Room) (scH [.ref (u 0), .ref a, .int (nI i)] D C ev (kW C ev u K x) sz a L xs) (eO (fun q : (CT × KX) × Int32 => some (.int q.2)) D (fun q => DI q.1.1 ∧ MREL (kG K) (kG q.1.1) ∧ kF T q.1.2) (fun q => kW C ev u q.1.1 q.1.2) (va_A (kW C ev u K x) sz)) 1 6 (va_A (kW C ev u K x) sz) := by
  refine Met.ofW (cc := cL_any) (maxL := 5) (ret := some .int) (by decide) rfl ?_
  intro p e s m args below meth c s₁ B hml hv
  obtain ⟨⟨⟨⟨rfl, hsz, hP, hK, hD0, hE, hR, hX, hT9, hV9⟩, hDV⟩, hN, hC⟩, hSC⟩ := hv
  have hx := B.exec
  have hb := B.bytes
  have hr := B.returns
  have hts := atoms_spec (ws := wsL_any) B.pre
  have hown : s.vm.findClass RL = some m.cls := findClass_of_methodNamed B.named
  have hlocks := B.notSynchronized
  subst hsz
  have hD := hD0.self (sz := s.heap.size)
  generalize hAe : va_A (kW C ev u K x) s.heap.size = A at hD hX hV9 hDV hSC ⊢
  have hA : ∀ q : Nat, s.heap.size ≤ q → A q := fun q h => by rw [← hAe]; exact Or.inr h
  have hS : va_S A s.heap s.heap [] := va_S.rf
  have hl := lv_entry ([.ref (u 0), .ref a, .int (nI i)]) (n := 5) (Nat.le_of_ble_eq_true rfl)
  rw [lg_entry_eq]
  generalize (lg_sl ([.ref (u 0), .ref a, .int (nI i)]) ++ List.replicate (5 - (lg_sl ([.ref (u 0), .ref a, .int (nI i)])).length) Slot.unset).toArray = ls at hl ⊢
  have hl : lv_has ls 5 [(0, .ref (u 0)), (1, .ref a), (2, .int (nI i))] := hl
  have hI := DI_I hd
  have hG := GI_safe hI
  have hS12 : gS (kG K) ≤ 12 := hG.1
  have hP4 : gP (kG K) ≤ 4 := hG.2.1
  have mx1 : ∀ n, n ≤ 12 → (if (1 : Int32) < nI n then nI n else 1) = nI (max n 1) := by decide +kernel
  have hP : va_P D vwCl (wj [kW C ev u K x]) s.heap := hP
  have hD : va_D A (wj [kW C ev u K x]) := hD
  refine lv_iconst (v := 1) hx hb dL_any_0 (by decide) ?_
  refine lv_aload_n hx hb dL_any_1 rfl (lv_at hl 0 rfl) ?_
  refine callK (va_runV (As := []) (rest := [.int 1]) ⟨hx, hb, hml, hown, hts⟩ (k_playerCount (l := l) (D := D) (C := C) (ev := ev) (u := u) (T := T) hl9 hI x _ hF) (cwV 0 hts gL_any_X7_playerCount rfl rfl rfl (by decide +kernel) ⟨Nat.le_of_ble_eq_true rfl, Nat.le_of_ble_eq_true rfl⟩) (hloP_v (kP hP) hK hE (kD hD) hR hX hT9 hV9 hDV hN hC hS (kFr hD hS hA) (kRc hK hP)) rfl rfl hl.1 rfl (lv_room (Nat.le_of_ble_eq_true rfl)) dL_any_2 ⟨show _ ≤ 1 from by omega, show _ ≤ 6 from by omega⟩) (owns := []) hP hD hS hA (fun x H locs hF hP hD hS => ?_)
  refine va_mmax hx hb (hml.trans hl.1.symm) hown (hts (.methodLink RL 123 Lib.Math.max.name) (by decide +kernel)) (hts (.static Lib.Math.max.name) (by decide +kernel)) (hts (.initialized "java/lang/Math") (by decide +kernel)) (hts (.code Lib.Math.max.name Lib.Math.max.code 2 (some .int)) (by decide +kernel)) (Nat.le_of_ble_eq_true rfl) (Nat.le_of_ble_eq_true rfl) (Nat.zero_le _) (Nat.zero_le _) dL_any_5 ?_
  refine topI (y := nI (max (gP (kG K)) 1)) (mx1 _ (by omega)) ?_
  refine lv_istore_n (lv' := [(3, .int (nI (max (gP (kG K)) 1))), (0, .ref (u 0)), (1, .ref a), (2, .int (nI i))]) hx hb dL_any_8 rfl hl (by decide) rfl (fun ls hl => ?_)
  refine lv_iconst (v := 1) hx hb dL_any_9 (by decide) ?_
  refine lv_aload_n hx hb dL_any_10 rfl (lv_at hl 1 rfl) ?_
  refine callK (va_runV (As := []) (rest := [.int 1]) ⟨hx, hb, hml, hown, hts⟩ (k_siteCount (l := l) (D := D) (C := C) (ev := ev) (u := u) (T := T) hl9 hI x _ hF) (cwV 0 hts gL_any_X7_siteCount rfl rfl rfl (by decide +kernel) ⟨Nat.le_of_ble_eq_true rfl, Nat.le_of_ble_eq_true rfl⟩) (hloP_v (kP hP) hK hE (kD hD) hR hX hT9 hV9 hDV hN hC hS (kFr hD hS hA) (kRc hK hP)) rfl rfl hl.1 rfl (lv_room (Nat.le_of_ble_eq_true rfl)) dL_any_11 ⟨show _ ≤ 1 from by omega, show _ ≤ 6 from by omega⟩) (owns := []) hP hD hS hA (fun x H locs hF hP hD hS => ?_)
  refine va_mmax hx hb (hml.trans hl.1.symm) hown (hts (.methodLink RL 123 Lib.Math.max.name) (by decide +kernel)) (hts (.static Lib.Math.max.name) (by decide +kernel)) (hts (.initialized "java/lang/Math") (by decide +kernel)) (hts (.code Lib.Math.max.name Lib.Math.max.code 2 (some .int)) (by decide +kernel)) (Nat.le_of_ble_eq_true rfl) (Nat.le_of_ble_eq_true rfl) (Nat.zero_le _) (Nat.zero_le _) dL_any_14 ?_
  refine topI (y := nI (max (gS (kG K)) 1)) (mx1 _ (by omega)) ?_
  refine lv_istore (lv' := [(4, .int (nI (max (gS (kG K)) 1))), (3, .int (nI (max (gP (kG K)) 1))), (0, .ref (u 0)), (1, .ref a), (2, .int (nI i))]) hx hb dL_any_17 hl (by decide) rfl (fun ls hl => ?_)
  refine lv_aload_n hx hb dL_any_19 rfl (lv_at hl 3 rfl) ?_
  refine lv_iload_n hx hb dL_any_20 rfl (lv_at hl 4 rfl) ?_
  refine lv_bipush (v := 24) hx hb dL_any_21 (by decide) ?_
  refine callRo (va_runS (As := [.ref a, .int (nI i), .int (nI 24)]) (rest := []) ⟨hx, hb, hml, hown, hts⟩ (c_L_pick l a L xs i 24 (by omega) (by omega) (by omega) (by omega)) (va_cwS 3 hts gL_any_L_pick rfl rfl rfl (by decide +kernel) ⟨Nat.le_of_ble_eq_true rfl, Nat.le_of_ble_eq_true rfl⟩) (scP_s hSC hS) rfl rfl hl.1 rfl (lv_room (Nat.le_of_ble_eq_true rfl)) dL_any_23 ⟨show _ ≤ 1 from by omega, show _ ≤ 6 from by omega⟩) ?_
  have hp23 : (pkN xs L i 24) < 24 := pkN_lt (by omega)
  obtain ⟨pk, hpk⟩ : ∃ pk, pk = pkN xs L i 24 := ⟨_, rfl⟩
  rw [← hpk] at hp23 ⊢
  rcases (by omega : pk = 0 ∨ pk = 1 ∨ pk = 2 ∨ pk = 3 ∨ pk = 4 ∨ pk = 5 ∨ pk = 6 ∨ pk = 7 ∨ pk = 8 ∨ pk = 9 ∨ pk = 10 ∨ pk = 11 ∨ pk = 12 ∨ pk = 13 ∨ pk = 14 ∨ pk = 15 ∨ pk = 16 ∨ (17 ≤ pk ∧ pk < 24)) with r | r | r | r | r | r | r | r | r | r | r | r | r | r | r | r | r | r
  · subst r
    refine lv_tableIn (off := 82) (tgt := 108) hx hb dL_any_26 (by decide +kernel) (by decide +kernel) (by decide +kernel) (by decide) ?_
    refine lv_aload_n hx hb dL_any_108 rfl (lv_at hl 2 rfl) ?_
    refine lv_iconst (v := 0) hx hb dL_any_109 (by decide) ?_
    refine lv_aload_n hx hb dL_any_110 rfl (lv_at hl 3 rfl) ?_
    refine lv_iload_n hx hb dL_any_111 rfl (lv_at hl 4 rfl) ?_
    refine lv_iconst (v := 1) hx hb dL_any_112 (by decide) ?_
    refine lv_iadd hx hb dL_any_113 ?_
    refine topI (y := nI (i + 1)) (show nI i + nI 1 = nI (i + 1)  from nI_add _ _) ?_
    refine lv_bipush (v := 100) hx hb dL_any_114 (by decide) ?_
    refine callRo (va_runS (As := [.ref a, .int (nI (i + 1)), .int (nI 100)]) (rest := [.int 0, .ref (u 0)]) ⟨hx, hb, hml, hown, hts⟩ (c_L_pick l a L xs (i + 1) 100 (by omega) (by omega) (by omega) (by omega)) (va_cwS 3 hts gL_any_L_pick rfl rfl rfl (by decide +kernel) ⟨Nat.le_of_ble_eq_true rfl, Nat.le_of_ble_eq_true rfl⟩) (scP_s hSC hS) rfl rfl hl.1 rfl (lv_room (Nat.le_of_ble_eq_true rfl)) dL_any_116 ⟨show _ ≤ 1 from by omega, show _ ≤ 6 from by omega⟩) ?_
    have hp116 : (pkN xs L (i + 1) 100) < 100 := pkN_lt (by omega)
    refine lv_iconst (v := 0) hx hb dL_any_119 (by decide) ?_
    refine lv_iconst (v := 0) hx hb dL_any_120 (by decide) ?_
    refine callE (vx_runSW (As := [.ref (u 0), .int (nI 0), .int (nI (pkN xs L (i + 1) 100)), .int 0, .int 0]) (rest := []) ⟨hx, hb, hml, hown, hts⟩ (c_L_deed l D C ev u K T 0 (nI (pkN xs L (i + 1) 100)) 0 0 hl9 hd (by decide) x _ hF) (vx_cwSW 5 hts gL_any_L_deed rfl rfl rfl (by decide +kernel) ⟨Nat.le_of_ble_eq_true rfl, Nat.le_of_ble_eq_true rfl⟩) (hloP_s hP hK hE hD hR hX hT9 hV9 hDV hN hC hS (all_F hD hS hA)) rfl rfl hl.1 rfl (lv_room (Nat.le_of_ble_eq_true rfl)) dL_any_121 ⟨show _ ≤ 1 from by omega, show _ ≤ 6 from by omega⟩) hS (all_F hD hS hA) (fun x9 H9 locs9 hF9 hP9 hD9 _ hS9 => ?_)
    have hD9 : va_D A (kW C ev u (plK K 0 (nI (pkN xs L (i + 1) 100)) 0 0) x9) := hD9.weaken (fun _ q _ h => all_F hD hS hA q.1 h)
    obtain ⟨hd9, -, hm9⟩ := deed_all hd (n := 0) (by decide) (nI (pkN xs L (i + 1) 100)) 0 0
    generalize plK K 0 (nI (pkN xs L (i + 1) 100)) 0 0 = K9 at hP9 hD9 hd9 hm9
    generalize deedV ((plF K 0 (nI (pkN xs L (i + 1) 100)) 0 0).1, (plF K 0 (nI (pkN xs L (i + 1) 100)) 0 0).2.1) = r9
    exact e_retI ((K9, x9), r9) rfl hx hb hr ⟨hd9, hm9, hF9⟩ hP9 hD9 hS9 (by omega) (by omega) dL_any_124 hlocks
  · subst r
    refine lv_tableIn (off := 99) (tgt := 125) hx hb dL_any_26 (by decide +kernel) (by decide +kernel) (by decide +kernel) (by decide) ?_
    refine lv_aload_n hx hb dL_any_125 rfl (lv_at hl 2 rfl) ?_
    refine lv_iconst (v := 1) hx hb dL_any_126 (by decide) ?_
    refine lv_aload_n hx hb dL_any_127 rfl (lv_at hl 3 rfl) ?_
    refine lv_iload_n hx hb dL_any_128 rfl (lv_at hl 4 rfl) ?_
    refine lv_iconst (v := 1) hx hb dL_any_129 (by decide) ?_
    refine lv_iadd hx hb dL_any_130 ?_
    refine topI (y := nI (i + 1)) (show nI i + nI 1 = nI (i + 1)  from nI_add _ _) ?_
    refine lv_bipush (v := 8) hx hb dL_any_131 (by decide) ?_
    refine callRo (va_runS (As := [.ref a, .int (nI (i + 1)), .int (nI 8)]) (rest := [.int 1, .ref (u 0)]) ⟨hx, hb, hml, hown, hts⟩ (c_L_pick l a L xs (i + 1) 8 (by omega) (by omega) (by omega) (by omega)) (va_cwS 3 hts gL_any_L_pick rfl rfl rfl (by decide +kernel) ⟨Nat.le_of_ble_eq_true rfl, Nat.le_of_ble_eq_true rfl⟩) (scP_s hSC hS) rfl rfl hl.1 rfl (lv_room (Nat.le_of_ble_eq_true rfl)) dL_any_133 ⟨show _ ≤ 1 from by omega, show _ ≤ 6 from by omega⟩) ?_
    have hp133 : (pkN xs L (i + 1) 8) < 8 := pkN_lt (by omega)
    refine lv_aload_n hx hb dL_any_136 rfl (lv_at hl 3 rfl) ?_
    refine lv_iload_n hx hb dL_any_137 rfl (lv_at hl 4 rfl) ?_
    refine lv_iconst (v := 2) hx hb dL_any_138 (by decide) ?_
    refine lv_iadd hx hb dL_any_139 ?_
    refine topI (y := nI (i + 2)) (show nI i + nI 2 = nI (i + 2)  from nI_add _ _) ?_
    refine lv_bipush (v := 8) hx hb dL_any_140 (by decide) ?_
    refine callRo (va_runS (As := [.ref a, .int (nI (i + 2)), .int (nI 8)]) (rest := [.int (nI (pkN xs L (i + 1) 8)), .int 1, .ref (u 0)]) ⟨hx, hb, hml, hown, hts⟩ (c_L_pick l a L xs (i + 2) 8 (by omega) (by omega) (by omega) (by omega)) (va_cwS 3 hts gL_any_L_pick rfl rfl rfl (by decide +kernel) ⟨Nat.le_of_ble_eq_true rfl, Nat.le_of_ble_eq_true rfl⟩) (scP_s hSC hS) rfl rfl hl.1 rfl (lv_room (Nat.le_of_ble_eq_true rfl)) dL_any_142 ⟨show _ ≤ 1 from by omega, show _ ≤ 6 from by omega⟩) ?_
    have hp142 : (pkN xs L (i + 2) 8) < 8 := pkN_lt (by omega)
    refine lv_iconst (v := 1) hx hb dL_any_145 (by decide) ?_
    refine lv_aload_n hx hb dL_any_146 rfl (lv_at hl 3 rfl) ?_
    refine lv_iload_n hx hb dL_any_147 rfl (lv_at hl 4 rfl) ?_
    refine lv_iconst (v := 3) hx hb dL_any_148 (by decide) ?_
    refine lv_iadd hx hb dL_any_149 ?_
    refine topI (y := nI (i + 3)) (show nI i + nI 3 = nI (i + 3)  from nI_add _ _) ?_
    refine lv_bipush (v := 9) hx hb dL_any_150 (by decide) ?_
    refine callRo (va_runS (As := [.ref a, .int (nI (i + 3)), .int (nI 9)]) (rest := [.int 1, .int (nI (pkN xs L (i + 2) 8)), .int (nI (pkN xs L (i + 1) 8)), .int 1, .ref (u 0)]) ⟨hx, hb, hml, hown, hts⟩ (c_L_pick l a L xs (i + 3) 9 (by omega) (by omega) (by omega) (by omega)) (va_cwS 3 hts gL_any_L_pick rfl rfl rfl (by decide +kernel) ⟨Nat.le_of_ble_eq_true rfl, Nat.le_of_ble_eq_true rfl⟩) (scP_s hSC hS) rfl rfl hl.1 rfl (lv_room (Nat.le_of_ble_eq_true rfl)) dL_any_152 ⟨show _ ≤ 1 from by omega, show _ ≤ 6 from by omega⟩) ?_
    have hp152 : (pkN xs L (i + 3) 9) < 9 := pkN_lt (by omega)
    refine lv_iadd hx hb dL_any_155 ?_
    refine topI (y := nI (1 + (pkN xs L (i + 3) 9))) (show nI 1 + nI (pkN xs L (i + 3) 9) = nI (1 + (pkN xs L (i + 3) 9))  from nI_add _ _) ?_
    refine callE (vx_runSW (As := [.ref (u 0), .int (nI 1), .int (nI (pkN xs L (i + 1) 8)), .int (nI (pkN xs L (i + 2) 8)), .int (nI (1 + (pkN xs L (i + 3) 9)))]) (rest := []) ⟨hx, hb, hml, hown, hts⟩ (c_L_deed l D C ev u K T 1 (nI (pkN xs L (i + 1) 8)) (nI (pkN xs L (i + 2) 8)) (nI (1 + (pkN xs L (i + 3) 9))) hl9 hd (by decide) x _ hF) (vx_cwSW 5 hts gL_any_L_deed rfl rfl rfl (by decide +kernel) ⟨Nat.le_of_ble_eq_true rfl, Nat.le_of_ble_eq_true rfl⟩) (hloP_s hP hK hE hD hR hX hT9 hV9 hDV hN hC hS (all_F hD hS hA)) rfl rfl hl.1 rfl (lv_room (Nat.le_of_ble_eq_true rfl)) dL_any_156 ⟨show _ ≤ 1 from by omega, show _ ≤ 6 from by omega⟩) hS (all_F hD hS hA) (fun x9 H9 locs9 hF9 hP9 hD9 _ hS9 => ?_)
    have hD9 : va_D A (kW C ev u (plK K 1 (nI (pkN xs L (i + 1) 8)) (nI (pkN xs L (i + 2) 8)) (nI (1 + (pkN xs L (i + 3) 9)))) x9) := hD9.weaken (fun _ q _ h => all_F hD hS hA q.1 h)
    obtain ⟨hd9, -, hm9⟩ := deed_all hd (n := 1) (by decide) (nI (pkN xs L (i + 1) 8)) (nI (pkN xs L (i + 2) 8)) (nI (1 + (pkN xs L (i + 3) 9)))
    generalize plK K 1 (nI (pkN xs L (i + 1) 8)) (nI (pkN xs L (i + 2) 8)) (nI (1 + (pkN xs L (i + 3) 9))) = K9 at hP9 hD9 hd9 hm9
    generalize deedV ((plF K 1 (nI (pkN xs L (i + 1) 8)) (nI (pkN xs L (i + 2) 8)) (nI (1 + (pkN xs L (i + 3) 9)))).1, (plF K 1 (nI (pkN xs L (i + 1) 8)) (nI (pkN xs L (i + 2) 8)) (nI (1 + (pkN xs L (i + 3) 9)))).2.1) = r9
    exact e_retI ((K9, x9), r9) rfl hx hb hr ⟨hd9, hm9, hF9⟩ hP9 hD9 hS9 (by omega) (by omega) dL_any_159 hlocks
  · subst r
    refine lv_tableIn (off := 99) (tgt := 125) hx hb dL_any_26 (by decide +kernel) (by decide +kernel) (by decide +kernel) (by decide) ?_
    refine lv_aload_n hx hb dL_any_125 rfl (lv_at hl 2 rfl) ?_
    refine lv_iconst (v := 1) hx hb dL_any_126 (by decide) ?_
    refine lv_aload_n hx hb dL_any_127 rfl (lv_at hl 3 rfl) ?_
    refine lv_iload_n hx hb dL_any_128 rfl (lv_at hl 4 rfl) ?_
    refine lv_iconst (v := 1) hx hb dL_any_129 (by decide) ?_
    refine lv_iadd hx hb dL_any_130 ?_
    refine topI (y := nI (i + 1)) (show nI i + nI 1 = nI (i + 1)  from nI_add _ _) ?_
    refine lv_bipush (v := 8) hx hb dL_any_131 (by decide) ?_
    refine callRo (va_runS (As := [.ref a, .int (nI (i + 1)), .int (nI 8)]) (rest := [.int 1, .ref (u 0)]) ⟨hx, hb, hml, hown, hts⟩ (c_L_pick l a L xs (i + 1) 8 (by omega) (by omega) (by omega) (by omega)) (va_cwS 3 hts gL_any_L_pick rfl rfl rfl (by decide +kernel) ⟨Nat.le_of_ble_eq_true rfl, Nat.le_of_ble_eq_true rfl⟩) (scP_s hSC hS) rfl rfl hl.1 rfl (lv_room (Nat.le_of_ble_eq_true rfl)) dL_any_133 ⟨show _ ≤ 1 from by omega, show _ ≤ 6 from by omega⟩) ?_
    have hp133 : (pkN xs L (i + 1) 8) < 8 := pkN_lt (by omega)
    refine lv_aload_n hx hb dL_any_136 rfl (lv_at hl 3 rfl) ?_
    refine lv_iload_n hx hb dL_any_137 rfl (lv_at hl 4 rfl) ?_
    refine lv_iconst (v := 2) hx hb dL_any_138 (by decide) ?_
    refine lv_iadd hx hb dL_any_139 ?_
    refine topI (y := nI (i + 2)) (show nI i + nI 2 = nI (i + 2)  from nI_add _ _) ?_
    refine lv_bipush (v := 8) hx hb dL_any_140 (by decide) ?_
    refine callRo (va_runS (As := [.ref a, .int (nI (i + 2)), .int (nI 8)]) (rest := [.int (nI (pkN xs L (i + 1) 8)), .int 1, .ref (u 0)]) ⟨hx, hb, hml, hown, hts⟩ (c_L_pick l a L xs (i + 2) 8 (by omega) (by omega) (by omega) (by omega)) (va_cwS 3 hts gL_any_L_pick rfl rfl rfl (by decide +kernel) ⟨Nat.le_of_ble_eq_true rfl, Nat.le_of_ble_eq_true rfl⟩) (scP_s hSC hS) rfl rfl hl.1 rfl (lv_room (Nat.le_of_ble_eq_true rfl)) dL_any_142 ⟨show _ ≤ 1 from by omega, show _ ≤ 6 from by omega⟩) ?_
    have hp142 : (pkN xs L (i + 2) 8) < 8 := pkN_lt (by omega)
    refine lv_iconst (v := 1) hx hb dL_any_145 (by decide) ?_
    refine lv_aload_n hx hb dL_any_146 rfl (lv_at hl 3 rfl) ?_
    refine lv_iload_n hx hb dL_any_147 rfl (lv_at hl 4 rfl) ?_
    refine lv_iconst (v := 3) hx hb dL_any_148 (by decide) ?_
    refine lv_iadd hx hb dL_any_149 ?_
    refine topI (y := nI (i + 3)) (show nI i + nI 3 = nI (i + 3)  from nI_add _ _) ?_
    refine lv_bipush (v := 9) hx hb dL_any_150 (by decide) ?_
    refine callRo (va_runS (As := [.ref a, .int (nI (i + 3)), .int (nI 9)]) (rest := [.int 1, .int (nI (pkN xs L (i + 2) 8)), .int (nI (pkN xs L (i + 1) 8)), .int 1, .ref (u 0)]) ⟨hx, hb, hml, hown, hts⟩ (c_L_pick l a L xs (i + 3) 9 (by omega) (by omega) (by omega) (by omega)) (va_cwS 3 hts gL_any_L_pick rfl rfl rfl (by decide +kernel) ⟨Nat.le_of_ble_eq_true rfl, Nat.le_of_ble_eq_true rfl⟩) (scP_s hSC hS) rfl rfl hl.1 rfl (lv_room (Nat.le_of_ble_eq_true rfl)) dL_any_152 ⟨show _ ≤ 1 from by omega, show _ ≤ 6 from by omega⟩) ?_
    have hp152 : (pkN xs L (i + 3) 9) < 9 := pkN_lt (by omega)
    refine lv_iadd hx hb dL_any_155 ?_
    refine topI (y := nI (1 + (pkN xs L (i + 3) 9))) (show nI 1 + nI (pkN xs L (i + 3) 9) = nI (1 + (pkN xs L (i + 3) 9))  from nI_add _ _) ?_
    refine callE (vx_runSW (As := [.ref (u 0), .int (nI 1), .int (nI (pkN xs L (i + 1) 8)), .int (nI (pkN xs L (i + 2) 8)), .int (nI (1 + (pkN xs L (i + 3) 9)))]) (rest := []) ⟨hx, hb, hml, hown, hts⟩ (c_L_deed l D C ev u K T 1 (nI (pkN xs L (i + 1) 8)) (nI (pkN xs L (i + 2) 8)) (nI (1 + (pkN xs L (i + 3) 9))) hl9 hd (by decide) x _ hF) (vx_cwSW 5 hts gL_any_L_deed rfl rfl rfl (by decide +kernel) ⟨Nat.le_of_ble_eq_true rfl, Nat.le_of_ble_eq_true rfl⟩) (hloP_s hP hK hE hD hR hX hT9 hV9 hDV hN hC hS (all_F hD hS hA)) rfl rfl hl.1 rfl (lv_room (Nat.le_of_ble_eq_true rfl)) dL_any_156 ⟨show _ ≤ 1 from by omega, show _ ≤ 6 from by omega⟩) hS (all_F hD hS hA) (fun x9 H9 locs9 hF9 hP9 hD9 _ hS9 => ?_)
    have hD9 : va_D A (kW C ev u (plK K 1 (nI (pkN xs L (i + 1) 8)) (nI (pkN xs L (i + 2) 8)) (nI (1 + (pkN xs L (i + 3) 9)))) x9) := hD9.weaken (fun _ q _ h => all_F hD hS hA q.1 h)
    obtain ⟨hd9, -, hm9⟩ := deed_all hd (n := 1) (by decide) (nI (pkN xs L (i + 1) 8)) (nI (pkN xs L (i + 2) 8)) (nI (1 + (pkN xs L (i + 3) 9)))
    generalize plK K 1 (nI (pkN xs L (i + 1) 8)) (nI (pkN xs L (i + 2) 8)) (nI (1 + (pkN xs L (i + 3) 9))) = K9 at hP9 hD9 hd9 hm9
    generalize deedV ((plF K 1 (nI (pkN xs L (i + 1) 8)) (nI (pkN xs L (i + 2) 8)) (nI (1 + (pkN xs L (i + 3) 9)))).1, (plF K 1 (nI (pkN xs L (i + 1) 8)) (nI (pkN xs L (i + 2) 8)) (nI (1 + (pkN xs L (i + 3) 9)))).2.1) = r9
    exact e_retI ((K9, x9), r9) rfl hx hb hr ⟨hd9, hm9, hF9⟩ hP9 hD9 hS9 (by omega) (by omega) dL_any_159 hlocks
  · subst r
    refine lv_tableIn (off := 134) (tgt := 160) hx hb dL_any_26 (by decide +kernel) (by decide +kernel) (by decide +kernel) (by decide) ?_
    refine lv_aload_n hx hb dL_any_160 rfl (lv_at hl 2 rfl) ?_
    refine lv_iconst (v := 2) hx hb dL_any_161 (by decide) ?_
    refine lv_aload_n hx hb dL_any_162 rfl (lv_at hl 3 rfl) ?_
    refine lv_iload_n hx hb dL_any_163 rfl (lv_at hl 4 rfl) ?_
    refine lv_iconst (v := 1) hx hb dL_any_164 (by decide) ?_
    refine lv_iadd hx hb dL_any_165 ?_
    refine topI (y := nI (i + 1)) (show nI i + nI 1 = nI (i + 1)  from nI_add _ _) ?_
    refine lv_bipush (v := 8) hx hb dL_any_166 (by decide) ?_
    refine callRo (va_runS (As := [.ref a, .int (nI (i + 1)), .int (nI 8)]) (rest := [.int 2, .ref (u 0)]) ⟨hx, hb, hml, hown, hts⟩ (c_L_pick l a L xs (i + 1) 8 (by omega) (by omega) (by omega) (by omega)) (va_cwS 3 hts gL_any_L_pick rfl rfl rfl (by decide +kernel) ⟨Nat.le_of_ble_eq_true rfl, Nat.le_of_ble_eq_true rfl⟩) (scP_s hSC hS) rfl rfl hl.1 rfl (lv_room (Nat.le_of_ble_eq_true rfl)) dL_any_168 ⟨show _ ≤ 1 from by omega, show _ ≤ 6 from by omega⟩) ?_
    have hp168 : (pkN xs L (i + 1) 8) < 8 := pkN_lt (by omega)
    refine lv_aload_n hx hb dL_any_171 rfl (lv_at hl 3 rfl) ?_
    refine lv_iload_n hx hb dL_any_172 rfl (lv_at hl 4 rfl) ?_
    refine lv_iconst (v := 2) hx hb dL_any_173 (by decide) ?_
    refine lv_iadd hx hb dL_any_174 ?_
    refine topI (y := nI (i + 2)) (show nI i + nI 2 = nI (i + 2)  from nI_add _ _) ?_
    refine lv_iconst (v := 4) hx hb dL_any_175 (by decide) ?_
    refine callRo (va_runS (As := [.ref a, .int (nI (i + 2)), .int (nI 4)]) (rest := [.int (nI (pkN xs L (i + 1) 8)), .int 2, .ref (u 0)]) ⟨hx, hb, hml, hown, hts⟩ (c_L_pick l a L xs (i + 2) 4 (by omega) (by omega) (by omega) (by omega)) (va_cwS 3 hts gL_any_L_pick rfl rfl rfl (by decide +kernel) ⟨Nat.le_of_ble_eq_true rfl, Nat.le_of_ble_eq_true rfl⟩) (scP_s hSC hS) rfl rfl hl.1 rfl (lv_room (Nat.le_of_ble_eq_true rfl)) dL_any_176 ⟨show _ ≤ 1 from by omega, show _ ≤ 6 from by omega⟩) ?_
    have hp176 : (pkN xs L (i + 2) 4) < 4 := pkN_lt (by omega)
    refine lv_iconst (v := 0) hx hb dL_any_179 (by decide) ?_
    refine callE (vx_runSW (As := [.ref (u 0), .int (nI 2), .int (nI (pkN xs L (i + 1) 8)), .int (nI (pkN xs L (i + 2) 4)), .int 0]) (rest := []) ⟨hx, hb, hml, hown, hts⟩ (c_L_deed l D C ev u K T 2 (nI (pkN xs L (i + 1) 8)) (nI (pkN xs L (i + 2) 4)) 0 hl9 hd (by decide) x _ hF) (vx_cwSW 5 hts gL_any_L_deed rfl rfl rfl (by decide +kernel) ⟨Nat.le_of_ble_eq_true rfl, Nat.le_of_ble_eq_true rfl⟩) (hloP_s hP hK hE hD hR hX hT9 hV9 hDV hN hC hS (all_F hD hS hA)) rfl rfl hl.1 rfl (lv_room (Nat.le_of_ble_eq_true rfl)) dL_any_180 ⟨show _ ≤ 1 from by omega, show _ ≤ 6 from by omega⟩) hS (all_F hD hS hA) (fun x9 H9 locs9 hF9 hP9 hD9 _ hS9 => ?_)
    have hD9 : va_D A (kW C ev u (plK K 2 (nI (pkN xs L (i + 1) 8)) (nI (pkN xs L (i + 2) 4)) 0) x9) := hD9.weaken (fun _ q _ h => all_F hD hS hA q.1 h)
    obtain ⟨hd9, -, hm9⟩ := deed_all hd (n := 2) (by decide) (nI (pkN xs L (i + 1) 8)) (nI (pkN xs L (i + 2) 4)) 0
    generalize plK K 2 (nI (pkN xs L (i + 1) 8)) (nI (pkN xs L (i + 2) 4)) 0 = K9 at hP9 hD9 hd9 hm9
    generalize deedV ((plF K 2 (nI (pkN xs L (i + 1) 8)) (nI (pkN xs L (i + 2) 4)) 0).1, (plF K 2 (nI (pkN xs L (i + 1) 8)) (nI (pkN xs L (i + 2) 4)) 0).2.1) = r9
    exact e_retI ((K9, x9), r9) rfl hx hb hr ⟨hd9, hm9, hF9⟩ hP9 hD9 hS9 (by omega) (by omega) dL_any_183 hlocks
  · subst r
    refine lv_tableIn (off := 134) (tgt := 160) hx hb dL_any_26 (by decide +kernel) (by decide +kernel) (by decide +kernel) (by decide) ?_
    refine lv_aload_n hx hb dL_any_160 rfl (lv_at hl 2 rfl) ?_
    refine lv_iconst (v := 2) hx hb dL_any_161 (by decide) ?_
    refine lv_aload_n hx hb dL_any_162 rfl (lv_at hl 3 rfl) ?_
    refine lv_iload_n hx hb dL_any_163 rfl (lv_at hl 4 rfl) ?_
    refine lv_iconst (v := 1) hx hb dL_any_164 (by decide) ?_
    refine lv_iadd hx hb dL_any_165 ?_
    refine topI (y := nI (i + 1)) (show nI i + nI 1 = nI (i + 1)  from nI_add _ _) ?_
    refine lv_bipush (v := 8) hx hb dL_any_166 (by decide) ?_
    refine callRo (va_runS (As := [.ref a, .int (nI (i + 1)), .int (nI 8)]) (rest := [.int 2, .ref (u 0)]) ⟨hx, hb, hml, hown, hts⟩ (c_L_pick l a L xs (i + 1) 8 (by omega) (by omega) (by omega) (by omega)) (va_cwS 3 hts gL_any_L_pick rfl rfl rfl (by decide +kernel) ⟨Nat.le_of_ble_eq_true rfl, Nat.le_of_ble_eq_true rfl⟩) (scP_s hSC hS) rfl rfl hl.1 rfl (lv_room (Nat.le_of_ble_eq_true rfl)) dL_any_168 ⟨show _ ≤ 1 from by omega, show _ ≤ 6 from by omega⟩) ?_
    have hp168 : (pkN xs L (i + 1) 8) < 8 := pkN_lt (by omega)
    refine lv_aload_n hx hb dL_any_171 rfl (lv_at hl 3 rfl) ?_
    refine lv_iload_n hx hb dL_any_172 rfl (lv_at hl 4 rfl) ?_
    refine lv_iconst (v := 2) hx hb dL_any_173 (by decide) ?_
    refine lv_iadd hx hb dL_any_174 ?_
    refine topI (y := nI (i + 2)) (show nI i + nI 2 = nI (i + 2)  from nI_add _ _) ?_
    refine lv_iconst (v := 4) hx hb dL_any_175 (by decide) ?_
    refine callRo (va_runS (As := [.ref a, .int (nI (i + 2)), .int (nI 4)]) (rest := [.int (nI (pkN xs L (i + 1) 8)), .int 2, .ref (u 0)]) ⟨hx, hb, hml, hown, hts⟩ (c_L_pick l a L xs (i + 2) 4 (by omega) (by omega) (by omega) (by omega)) (va_cwS 3 hts gL_any_L_pick rfl rfl rfl (by decide +kernel) ⟨Nat.le_of_ble_eq_true rfl, Nat.le_of_ble_eq_true rfl⟩) (scP_s hSC hS) rfl rfl hl.1 rfl (lv_room (Nat.le_of_ble_eq_true rfl)) dL_any_176 ⟨show _ ≤ 1 from by omega, show _ ≤ 6 from by omega⟩) ?_
    have hp176 : (pkN xs L (i + 2) 4) < 4 := pkN_lt (by omega)
    refine lv_iconst (v := 0) hx hb dL_any_179 (by decide) ?_
    refine callE (vx_runSW (As := [.ref (u 0), .int (nI 2), .int (nI (pkN xs L (i + 1) 8)), .int (nI (pkN xs L (i + 2) 4)), .int 0]) (rest := []) ⟨hx, hb, hml, hown, hts⟩ (c_L_deed l D C ev u K T 2 (nI (pkN xs L (i + 1) 8)) (nI (pkN xs L (i + 2) 4)) 0 hl9 hd (by decide) x _ hF) (vx_cwSW 5 hts gL_any_L_deed rfl rfl rfl (by decide +kernel) ⟨Nat.le_of_ble_eq_true rfl, Nat.le_of_ble_eq_true rfl⟩) (hloP_s hP hK hE hD hR hX hT9 hV9 hDV hN hC hS (all_F hD hS hA)) rfl rfl hl.1 rfl (lv_room (Nat.le_of_ble_eq_true rfl)) dL_any_180 ⟨show _ ≤ 1 from by omega, show _ ≤ 6 from by omega⟩) hS (all_F hD hS hA) (fun x9 H9 locs9 hF9 hP9 hD9 _ hS9 => ?_)
    have hD9 : va_D A (kW C ev u (plK K 2 (nI (pkN xs L (i + 1) 8)) (nI (pkN xs L (i + 2) 4)) 0) x9) := hD9.weaken (fun _ q _ h => all_F hD hS hA q.1 h)
    obtain ⟨hd9, -, hm9⟩ := deed_all hd (n := 2) (by decide) (nI (pkN xs L (i + 1) 8)) (nI (pkN xs L (i + 2) 4)) 0
    generalize plK K 2 (nI (pkN xs L (i + 1) 8)) (nI (pkN xs L (i + 2) 4)) 0 = K9 at hP9 hD9 hd9 hm9
    generalize deedV ((plF K 2 (nI (pkN xs L (i + 1) 8)) (nI (pkN xs L (i + 2) 4)) 0).1, (plF K 2 (nI (pkN xs L (i + 1) 8)) (nI (pkN xs L (i + 2) 4)) 0).2.1) = r9
    exact e_retI ((K9, x9), r9) rfl hx hb hr ⟨hd9, hm9, hF9⟩ hP9 hD9 hS9 (by omega) (by omega) dL_any_183 hlocks
  · subst r
    refine lv_tableIn (off := 158) (tgt := 184) hx hb dL_any_26 (by decide +kernel) (by decide +kernel) (by decide +kernel) (by decide) ?_
    refine lv_aload_n hx hb dL_any_184 rfl (lv_at hl 2 rfl) ?_
    refine lv_iconst (v := 3) hx hb dL_any_185 (by decide) ?_
    refine lv_aload_n hx hb dL_any_186 rfl (lv_at hl 3 rfl) ?_
    refine lv_iload_n hx hb dL_any_187 rfl (lv_at hl 4 rfl) ?_
    refine lv_iconst (v := 1) hx hb dL_any_188 (by decide) ?_
    refine lv_iadd hx hb dL_any_189 ?_
    refine topI (y := nI (i + 1)) (show nI i + nI 1 = nI (i + 1)  from nI_add _ _) ?_
    refine lv_bipush (v := 10) hx hb dL_any_190 (by decide) ?_
    refine callRo (va_runS (As := [.ref a, .int (nI (i + 1)), .int (nI 10)]) (rest := [.int 3, .ref (u 0)]) ⟨hx, hb, hml, hown, hts⟩ (c_L_pick l a L xs (i + 1) 10 (by omega) (by omega) (by omega) (by omega)) (va_cwS 3 hts gL_any_L_pick rfl rfl rfl (by decide +kernel) ⟨Nat.le_of_ble_eq_true rfl, Nat.le_of_ble_eq_true rfl⟩) (scP_s hSC hS) rfl rfl hl.1 rfl (lv_room (Nat.le_of_ble_eq_true rfl)) dL_any_192 ⟨show _ ≤ 1 from by omega, show _ ≤ 6 from by omega⟩) ?_
    have hp192 : (pkN xs L (i + 1) 10) < 10 := pkN_lt (by omega)
    refine lv_iconst (v := 0) hx hb dL_any_195 (by decide) ?_
    refine lv_iconst (v := 0) hx hb dL_any_196 (by decide) ?_
    refine callE (vx_runSW (As := [.ref (u 0), .int (nI 3), .int (nI (pkN xs L (i + 1) 10)), .int 0, .int 0]) (rest := []) ⟨hx, hb, hml, hown, hts⟩ (c_L_deed l D C ev u K T 3 (nI (pkN xs L (i + 1) 10)) 0 0 hl9 hd (by decide) x _ hF) (vx_cwSW 5 hts gL_any_L_deed rfl rfl rfl (by decide +kernel) ⟨Nat.le_of_ble_eq_true rfl, Nat.le_of_ble_eq_true rfl⟩) (hloP_s hP hK hE hD hR hX hT9 hV9 hDV hN hC hS (all_F hD hS hA)) rfl rfl hl.1 rfl (lv_room (Nat.le_of_ble_eq_true rfl)) dL_any_197 ⟨show _ ≤ 1 from by omega, show _ ≤ 6 from by omega⟩) hS (all_F hD hS hA) (fun x9 H9 locs9 hF9 hP9 hD9 _ hS9 => ?_)
    have hD9 : va_D A (kW C ev u (plK K 3 (nI (pkN xs L (i + 1) 10)) 0 0) x9) := hD9.weaken (fun _ q _ h => all_F hD hS hA q.1 h)
    obtain ⟨hd9, -, hm9⟩ := deed_all hd (n := 3) (by decide) (nI (pkN xs L (i + 1) 10)) 0 0
    generalize plK K 3 (nI (pkN xs L (i + 1) 10)) 0 0 = K9 at hP9 hD9 hd9 hm9
    generalize deedV ((plF K 3 (nI (pkN xs L (i + 1) 10)) 0 0).1, (plF K 3 (nI (pkN xs L (i + 1) 10)) 0 0).2.1) = r9
    exact e_retI ((K9, x9), r9) rfl hx hb hr ⟨hd9, hm9, hF9⟩ hP9 hD9 hS9 (by omega) (by omega) dL_any_200 hlocks
  · subst r
    refine lv_tableIn (off := 175) (tgt := 201) hx hb dL_any_26 (by decide +kernel) (by decide +kernel) (by decide +kernel) (by decide) ?_
    refine lv_aload_n hx hb dL_any_201 rfl (lv_at hl 2 rfl) ?_
    refine lv_bipush (v := 6) hx hb dL_any_202 (by decide) ?_
    refine lv_aload_n hx hb dL_any_204 rfl (lv_at hl 3 rfl) ?_
    refine lv_iload_n hx hb dL_any_205 rfl (lv_at hl 4 rfl) ?_
    refine lv_iconst (v := 1) hx hb dL_any_206 (by decide) ?_
    refine lv_iadd hx hb dL_any_207 ?_
    refine topI (y := nI (i + 1)) (show nI i + nI 1 = nI (i + 1)  from nI_add _ _) ?_
    refine lv_iload_n hx hb dL_any_208 rfl (lv_at hl 1 rfl) ?_
    refine callRo (va_runS (As := [.ref a, .int (nI (i + 1)), .int (nI (max (gP (kG K)) 1))]) (rest := [.int 6, .ref (u 0)]) ⟨hx, hb, hml, hown, hts⟩ (c_L_pick l a L xs (i + 1) (max (gP (kG K)) 1) (by omega) (by omega) (by omega) (by omega)) (va_cwS 3 hts gL_any_L_pick rfl rfl rfl (by decide +kernel) ⟨Nat.le_of_ble_eq_true rfl, Nat.le_of_ble_eq_true rfl⟩) (scP_s hSC hS) rfl rfl hl.1 rfl (lv_room (Nat.le_of_ble_eq_true rfl)) dL_any_209 ⟨show _ ≤ 1 from by omega, show _ ≤ 6 from by omega⟩) ?_
    have hp209 : (pkN xs L (i + 1) (max (gP (kG K)) 1)) < (max (gP (kG K)) 1) := pkN_lt (by omega)
    refine lv_aload_n hx hb dL_any_212 rfl (lv_at hl 3 rfl) ?_
    refine lv_iload_n hx hb dL_any_213 rfl (lv_at hl 4 rfl) ?_
    refine lv_iconst (v := 2) hx hb dL_any_214 (by decide) ?_
    refine lv_iadd hx hb dL_any_215 ?_
    refine topI (y := nI (i + 2)) (show nI i + nI 2 = nI (i + 2)  from nI_add _ _) ?_
    refine lv_iload hx hb dL_any_216 (lv_at hl 0 rfl) ?_
    refine callRo (va_runS (As := [.ref a, .int (nI (i + 2)), .int (nI (max (gS (kG K)) 1))]) (rest := [.int (nI (pkN xs L (i + 1) (max (gP (kG K)) 1))), .int 6, .ref (u 0)]) ⟨hx, hb, hml, hown, hts⟩ (c_L_pick l a L xs (i + 2) (max (gS (kG K)) 1) (by omega) (by omega) (by omega) (by omega)) (va_cwS 3 hts gL_any_L_pick rfl rfl rfl (by decide +kernel) ⟨Nat.le_of_ble_eq_true rfl, Nat.le_of_ble_eq_true rfl⟩) (scP_s hSC hS) rfl rfl hl.1 rfl (lv_room (Nat.le_of_ble_eq_true rfl)) dL_any_218 ⟨show _ ≤ 1 from by omega, show _ ≤ 6 from by omega⟩) ?_
    have hp218 : (pkN xs L (i + 2) (max (gS (kG K)) 1)) < (max (gS (kG K)) 1) := pkN_lt (by omega)
    refine lv_iconst (v := 0) hx hb dL_any_221 (by decide) ?_
    refine callE (vx_runSW (As := [.ref (u 0), .int (nI 6), .int (nI (pkN xs L (i + 1) (max (gP (kG K)) 1))), .int (nI (pkN xs L (i + 2) (max (gS (kG K)) 1))), .int 0]) (rest := []) ⟨hx, hb, hml, hown, hts⟩ (c_L_deed l D C ev u K T 6 (nI (pkN xs L (i + 1) (max (gP (kG K)) 1))) (nI (pkN xs L (i + 2) (max (gS (kG K)) 1))) 0 hl9 hd (by decide) x _ hF) (vx_cwSW 5 hts gL_any_L_deed rfl rfl rfl (by decide +kernel) ⟨Nat.le_of_ble_eq_true rfl, Nat.le_of_ble_eq_true rfl⟩) (hloP_s hP hK hE hD hR hX hT9 hV9 hDV hN hC hS (all_F hD hS hA)) rfl rfl hl.1 rfl (lv_room (Nat.le_of_ble_eq_true rfl)) dL_any_222 ⟨show _ ≤ 1 from by omega, show _ ≤ 6 from by omega⟩) hS (all_F hD hS hA) (fun x9 H9 locs9 hF9 hP9 hD9 _ hS9 => ?_)
    have hD9 : va_D A (kW C ev u (plK K 6 (nI (pkN xs L (i + 1) (max (gP (kG K)) 1))) (nI (pkN xs L (i + 2) (max (gS (kG K)) 1))) 0) x9) := hD9.weaken (fun _ q _ h => all_F hD hS hA q.1 h)
    obtain ⟨hd9, -, hm9⟩ := deed_all hd (n := 6) (by decide) (nI (pkN xs L (i + 1) (max (gP (kG K)) 1))) (nI (pkN xs L (i + 2) (max (gS (kG K)) 1))) 0
    generalize plK K 6 (nI (pkN xs L (i + 1) (max (gP (kG K)) 1))) (nI (pkN xs L (i + 2) (max (gS (kG K)) 1))) 0 = K9 at hP9 hD9 hd9 hm9
    generalize deedV ((plF K 6 (nI (pkN xs L (i + 1) (max (gP (kG K)) 1))) (nI (pkN xs L (i + 2) (max (gS (kG K)) 1))) 0).1, (plF K 6 (nI (pkN xs L (i + 1) (max (gP (kG K)) 1))) (nI (pkN xs L (i + 2) (max (gS (kG K)) 1))) 0).2.1) = r9
    exact e_retI ((K9, x9), r9) rfl hx hb hr ⟨hd9, hm9, hF9⟩ hP9 hD9 hS9 (by omega) (by omega) dL_any_225 hlocks
  · subst r
    refine lv_tableIn (off := 200) (tgt := 226) hx hb dL_any_26 (by decide +kernel) (by decide +kernel) (by decide +kernel) (by decide) ?_
    refine lv_aload_n hx hb dL_any_226 rfl (lv_at hl 2 rfl) ?_
    refine lv_bipush (v := 7) hx hb dL_any_227 (by decide) ?_
    refine lv_aload_n hx hb dL_any_229 rfl (lv_at hl 3 rfl) ?_
    refine lv_iload_n hx hb dL_any_230 rfl (lv_at hl 4 rfl) ?_
    refine lv_iconst (v := 1) hx hb dL_any_231 (by decide) ?_
    refine lv_iadd hx hb dL_any_232 ?_
    refine topI (y := nI (i + 1)) (show nI i + nI 1 = nI (i + 1)  from nI_add _ _) ?_
    refine lv_iload_n hx hb dL_any_233 rfl (lv_at hl 1 rfl) ?_
    refine callRo (va_runS (As := [.ref a, .int (nI (i + 1)), .int (nI (max (gP (kG K)) 1))]) (rest := [.int 7, .ref (u 0)]) ⟨hx, hb, hml, hown, hts⟩ (c_L_pick l a L xs (i + 1) (max (gP (kG K)) 1) (by omega) (by omega) (by omega) (by omega)) (va_cwS 3 hts gL_any_L_pick rfl rfl rfl (by decide +kernel) ⟨Nat.le_of_ble_eq_true rfl, Nat.le_of_ble_eq_true rfl⟩) (scP_s hSC hS) rfl rfl hl.1 rfl (lv_room (Nat.le_of_ble_eq_true rfl)) dL_any_234 ⟨show _ ≤ 1 from by omega, show _ ≤ 6 from by omega⟩) ?_
    have hp234 : (pkN xs L (i + 1) (max (gP (kG K)) 1)) < (max (gP (kG K)) 1) := pkN_lt (by omega)
    refine lv_aload_n hx hb dL_any_237 rfl (lv_at hl 3 rfl) ?_
    refine lv_iload_n hx hb dL_any_238 rfl (lv_at hl 4 rfl) ?_
    refine lv_iconst (v := 2) hx hb dL_any_239 (by decide) ?_
    refine lv_iadd hx hb dL_any_240 ?_
    refine topI (y := nI (i + 2)) (show nI i + nI 2 = nI (i + 2)  from nI_add _ _) ?_
    refine lv_iload hx hb dL_any_241 (lv_at hl 0 rfl) ?_
    refine callRo (va_runS (As := [.ref a, .int (nI (i + 2)), .int (nI (max (gS (kG K)) 1))]) (rest := [.int (nI (pkN xs L (i + 1) (max (gP (kG K)) 1))), .int 7, .ref (u 0)]) ⟨hx, hb, hml, hown, hts⟩ (c_L_pick l a L xs (i + 2) (max (gS (kG K)) 1) (by omega) (by omega) (by omega) (by omega)) (va_cwS 3 hts gL_any_L_pick rfl rfl rfl (by decide +kernel) ⟨Nat.le_of_ble_eq_true rfl, Nat.le_of_ble_eq_true rfl⟩) (scP_s hSC hS) rfl rfl hl.1 rfl (lv_room (Nat.le_of_ble_eq_true rfl)) dL_any_243 ⟨show _ ≤ 1 from by omega, show _ ≤ 6 from by omega⟩) ?_
    have hp243 : (pkN xs L (i + 2) (max (gS (kG K)) 1)) < (max (gS (kG K)) 1) := pkN_lt (by omega)
    refine lv_iconst (v := 0) hx hb dL_any_246 (by decide) ?_
    refine callE (vx_runSW (As := [.ref (u 0), .int (nI 7), .int (nI (pkN xs L (i + 1) (max (gP (kG K)) 1))), .int (nI (pkN xs L (i + 2) (max (gS (kG K)) 1))), .int 0]) (rest := []) ⟨hx, hb, hml, hown, hts⟩ (c_L_deed l D C ev u K T 7 (nI (pkN xs L (i + 1) (max (gP (kG K)) 1))) (nI (pkN xs L (i + 2) (max (gS (kG K)) 1))) 0 hl9 hd (by decide) x _ hF) (vx_cwSW 5 hts gL_any_L_deed rfl rfl rfl (by decide +kernel) ⟨Nat.le_of_ble_eq_true rfl, Nat.le_of_ble_eq_true rfl⟩) (hloP_s hP hK hE hD hR hX hT9 hV9 hDV hN hC hS (all_F hD hS hA)) rfl rfl hl.1 rfl (lv_room (Nat.le_of_ble_eq_true rfl)) dL_any_247 ⟨show _ ≤ 1 from by omega, show _ ≤ 6 from by omega⟩) hS (all_F hD hS hA) (fun x9 H9 locs9 hF9 hP9 hD9 _ hS9 => ?_)
    have hD9 : va_D A (kW C ev u (plK K 7 (nI (pkN xs L (i + 1) (max (gP (kG K)) 1))) (nI (pkN xs L (i + 2) (max (gS (kG K)) 1))) 0) x9) := hD9.weaken (fun _ q _ h => all_F hD hS hA q.1 h)
    obtain ⟨hd9, -, hm9⟩ := deed_all hd (n := 7) (by decide) (nI (pkN xs L (i + 1) (max (gP (kG K)) 1))) (nI (pkN xs L (i + 2) (max (gS (kG K)) 1))) 0
    generalize plK K 7 (nI (pkN xs L (i + 1) (max (gP (kG K)) 1))) (nI (pkN xs L (i + 2) (max (gS (kG K)) 1))) 0 = K9 at hP9 hD9 hd9 hm9
    generalize deedV ((plF K 7 (nI (pkN xs L (i + 1) (max (gP (kG K)) 1))) (nI (pkN xs L (i + 2) (max (gS (kG K)) 1))) 0).1, (plF K 7 (nI (pkN xs L (i + 1) (max (gP (kG K)) 1))) (nI (pkN xs L (i + 2) (max (gS (kG K)) 1))) 0).2.1) = r9
    exact e_retI ((K9, x9), r9) rfl hx hb hr ⟨hd9, hm9, hF9⟩ hP9 hD9 hS9 (by omega) (by omega) dL_any_250 hlocks
  · subst r
    refine lv_tableIn (off := 200) (tgt := 226) hx hb dL_any_26 (by decide +kernel) (by decide +kernel) (by decide +kernel) (by decide) ?_
    refine lv_aload_n hx hb dL_any_226 rfl (lv_at hl 2 rfl) ?_
    refine lv_bipush (v := 7) hx hb dL_any_227 (by decide) ?_
    refine lv_aload_n hx hb dL_any_229 rfl (lv_at hl 3 rfl) ?_
    refine lv_iload_n hx hb dL_any_230 rfl (lv_at hl 4 rfl) ?_
    refine lv_iconst (v := 1) hx hb dL_any_231 (by decide) ?_
    refine lv_iadd hx hb dL_any_232 ?_
    refine topI (y := nI (i + 1)) (show nI i + nI 1 = nI (i + 1)  from nI_add _ _) ?_
    refine lv_iload_n hx hb dL_any_233 rfl (lv_at hl 1 rfl) ?_
    refine callRo (va_runS (As := [.ref a, .int (nI (i + 1)), .int (nI (max (gP (kG K)) 1))]) (rest := [.int 7, .ref (u 0)]) ⟨hx, hb, hml, hown, hts⟩ (c_L_pick l a L xs (i + 1) (max (gP (kG K)) 1) (by omega) (by omega) (by omega) (by omega)) (va_cwS 3 hts gL_any_L_pick rfl rfl rfl (by decide +kernel) ⟨Nat.le_of_ble_eq_true rfl, Nat.le_of_ble_eq_true rfl⟩) (scP_s hSC hS) rfl rfl hl.1 rfl (lv_room (Nat.le_of_ble_eq_true rfl)) dL_any_234 ⟨show _ ≤ 1 from by omega, show _ ≤ 6 from by omega⟩) ?_
    have hp234 : (pkN xs L (i + 1) (max (gP (kG K)) 1)) < (max (gP (kG K)) 1) := pkN_lt (by omega)
    refine lv_aload_n hx hb dL_any_237 rfl (lv_at hl 3 rfl) ?_
    refine lv_iload_n hx hb dL_any_238 rfl (lv_at hl 4 rfl) ?_
    refine lv_iconst (v := 2) hx hb dL_any_239 (by decide) ?_
    refine lv_iadd hx hb dL_any_240 ?_
    refine topI (y := nI (i + 2)) (show nI i + nI 2 = nI (i + 2)  from nI_add _ _) ?_
    refine lv_iload hx hb dL_any_241 (lv_at hl 0 rfl) ?_
    refine callRo (va_runS (As := [.ref a, .int (nI (i + 2)), .int (nI (max (gS (kG K)) 1))]) (rest := [.int (nI (pkN xs L (i + 1) (max (gP (kG K)) 1))), .int 7, .ref (u 0)]) ⟨hx, hb, hml, hown, hts⟩ (c_L_pick l a L xs (i + 2) (max (gS (kG K)) 1) (by omega) (by omega) (by omega) (by omega)) (va_cwS 3 hts gL_any_L_pick rfl rfl rfl (by decide +kernel) ⟨Nat.le_of_ble_eq_true rfl, Nat.le_of_ble_eq_true rfl⟩) (scP_s hSC hS) rfl rfl hl.1 rfl (lv_room (Nat.le_of_ble_eq_true rfl)) dL_any_243 ⟨show _ ≤ 1 from by omega, show _ ≤ 6 from by omega⟩) ?_
    have hp243 : (pkN xs L (i + 2) (max (gS (kG K)) 1)) < (max (gS (kG K)) 1) := pkN_lt (by omega)
    refine lv_iconst (v := 0) hx hb dL_any_246 (by decide) ?_
    refine callE (vx_runSW (As := [.ref (u 0), .int (nI 7), .int (nI (pkN xs L (i + 1) (max (gP (kG K)) 1))), .int (nI (pkN xs L (i + 2) (max (gS (kG K)) 1))), .int 0]) (rest := []) ⟨hx, hb, hml, hown, hts⟩ (c_L_deed l D C ev u K T 7 (nI (pkN xs L (i + 1) (max (gP (kG K)) 1))) (nI (pkN xs L (i + 2) (max (gS (kG K)) 1))) 0 hl9 hd (by decide) x _ hF) (vx_cwSW 5 hts gL_any_L_deed rfl rfl rfl (by decide +kernel) ⟨Nat.le_of_ble_eq_true rfl, Nat.le_of_ble_eq_true rfl⟩) (hloP_s hP hK hE hD hR hX hT9 hV9 hDV hN hC hS (all_F hD hS hA)) rfl rfl hl.1 rfl (lv_room (Nat.le_of_ble_eq_true rfl)) dL_any_247 ⟨show _ ≤ 1 from by omega, show _ ≤ 6 from by omega⟩) hS (all_F hD hS hA) (fun x9 H9 locs9 hF9 hP9 hD9 _ hS9 => ?_)
    have hD9 : va_D A (kW C ev u (plK K 7 (nI (pkN xs L (i + 1) (max (gP (kG K)) 1))) (nI (pkN xs L (i + 2) (max (gS (kG K)) 1))) 0) x9) := hD9.weaken (fun _ q _ h => all_F hD hS hA q.1 h)
    obtain ⟨hd9, -, hm9⟩ := deed_all hd (n := 7) (by decide) (nI (pkN xs L (i + 1) (max (gP (kG K)) 1))) (nI (pkN xs L (i + 2) (max (gS (kG K)) 1))) 0
    generalize plK K 7 (nI (pkN xs L (i + 1) (max (gP (kG K)) 1))) (nI (pkN xs L (i + 2) (max (gS (kG K)) 1))) 0 = K9 at hP9 hD9 hd9 hm9
    generalize deedV ((plF K 7 (nI (pkN xs L (i + 1) (max (gP (kG K)) 1))) (nI (pkN xs L (i + 2) (max (gS (kG K)) 1))) 0).1, (plF K 7 (nI (pkN xs L (i + 1) (max (gP (kG K)) 1))) (nI (pkN xs L (i + 2) (max (gS (kG K)) 1))) 0).2.1) = r9
    exact e_retI ((K9, x9), r9) rfl hx hb hr ⟨hd9, hm9, hF9⟩ hP9 hD9 hS9 (by omega) (by omega) dL_any_250 hlocks
  · subst r
    refine lv_tableIn (off := 200) (tgt := 226) hx hb dL_any_26 (by decide +kernel) (by decide +kernel) (by decide +kernel) (by decide) ?_
    refine lv_aload_n hx hb dL_any_226 rfl (lv_at hl 2 rfl) ?_
    refine lv_bipush (v := 7) hx hb dL_any_227 (by decide) ?_
    refine lv_aload_n hx hb dL_any_229 rfl (lv_at hl 3 rfl) ?_
    refine lv_iload_n hx hb dL_any_230 rfl (lv_at hl 4 rfl) ?_
    refine lv_iconst (v := 1) hx hb dL_any_231 (by decide) ?_
    refine lv_iadd hx hb dL_any_232 ?_
    refine topI (y := nI (i + 1)) (show nI i + nI 1 = nI (i + 1)  from nI_add _ _) ?_
    refine lv_iload_n hx hb dL_any_233 rfl (lv_at hl 1 rfl) ?_
    refine callRo (va_runS (As := [.ref a, .int (nI (i + 1)), .int (nI (max (gP (kG K)) 1))]) (rest := [.int 7, .ref (u 0)]) ⟨hx, hb, hml, hown, hts⟩ (c_L_pick l a L xs (i + 1) (max (gP (kG K)) 1) (by omega) (by omega) (by omega) (by omega)) (va_cwS 3 hts gL_any_L_pick rfl rfl rfl (by decide +kernel) ⟨Nat.le_of_ble_eq_true rfl, Nat.le_of_ble_eq_true rfl⟩) (scP_s hSC hS) rfl rfl hl.1 rfl (lv_room (Nat.le_of_ble_eq_true rfl)) dL_any_234 ⟨show _ ≤ 1 from by omega, show _ ≤ 6 from by omega⟩) ?_
    have hp234 : (pkN xs L (i + 1) (max (gP (kG K)) 1)) < (max (gP (kG K)) 1) := pkN_lt (by omega)
    refine lv_aload_n hx hb dL_any_237 rfl (lv_at hl 3 rfl) ?_
    refine lv_iload_n hx hb dL_any_238 rfl (lv_at hl 4 rfl) ?_
    refine lv_iconst (v := 2) hx hb dL_any_239 (by decide) ?_
    refine lv_iadd hx hb dL_any_240 ?_
    refine topI (y := nI (i + 2)) (show nI i + nI 2 = nI (i + 2)  from nI_add _ _) ?_
    refine lv_iload hx hb dL_any_241 (lv_at hl 0 rfl) ?_
    refine callRo (va_runS (As := [.ref a, .int (nI (i + 2)), .int (nI (max (gS (kG K)) 1))]) (rest := [.int (nI (pkN xs L (i + 1) (max (gP (kG K)) 1))), .int 7, .ref (u 0)]) ⟨hx, hb, hml, hown, hts⟩ (c_L_pick l a L xs (i + 2) (max (gS (kG K)) 1) (by omega) (by omega) (by omega) (by omega)) (va_cwS 3 hts gL_any_L_pick rfl rfl rfl (by decide +kernel) ⟨Nat.le_of_ble_eq_true rfl, Nat.le_of_ble_eq_true rfl⟩) (scP_s hSC hS) rfl rfl hl.1 rfl (lv_room (Nat.le_of_ble_eq_true rfl)) dL_any_243 ⟨show _ ≤ 1 from by omega, show _ ≤ 6 from by omega⟩) ?_
    have hp243 : (pkN xs L (i + 2) (max (gS (kG K)) 1)) < (max (gS (kG K)) 1) := pkN_lt (by omega)
    refine lv_iconst (v := 0) hx hb dL_any_246 (by decide) ?_
    refine callE (vx_runSW (As := [.ref (u 0), .int (nI 7), .int (nI (pkN xs L (i + 1) (max (gP (kG K)) 1))), .int (nI (pkN xs L (i + 2) (max (gS (kG K)) 1))), .int 0]) (rest := []) ⟨hx, hb, hml, hown, hts⟩ (c_L_deed l D C ev u K T 7 (nI (pkN xs L (i + 1) (max (gP (kG K)) 1))) (nI (pkN xs L (i + 2) (max (gS (kG K)) 1))) 0 hl9 hd (by decide) x _ hF) (vx_cwSW 5 hts gL_any_L_deed rfl rfl rfl (by decide +kernel) ⟨Nat.le_of_ble_eq_true rfl, Nat.le_of_ble_eq_true rfl⟩) (hloP_s hP hK hE hD hR hX hT9 hV9 hDV hN hC hS (all_F hD hS hA)) rfl rfl hl.1 rfl (lv_room (Nat.le_of_ble_eq_true rfl)) dL_any_247 ⟨show _ ≤ 1 from by omega, show _ ≤ 6 from by omega⟩) hS (all_F hD hS hA) (fun x9 H9 locs9 hF9 hP9 hD9 _ hS9 => ?_)
    have hD9 : va_D A (kW C ev u (plK K 7 (nI (pkN xs L (i + 1) (max (gP (kG K)) 1))) (nI (pkN xs L (i + 2) (max (gS (kG K)) 1))) 0) x9) := hD9.weaken (fun _ q _ h => all_F hD hS hA q.1 h)
    obtain ⟨hd9, -, hm9⟩ := deed_all hd (n := 7) (by decide) (nI (pkN xs L (i + 1) (max (gP (kG K)) 1))) (nI (pkN xs L (i + 2) (max (gS (kG K)) 1))) 0
    generalize plK K 7 (nI (pkN xs L (i + 1) (max (gP (kG K)) 1))) (nI (pkN xs L (i + 2) (max (gS (kG K)) 1))) 0 = K9 at hP9 hD9 hd9 hm9
    generalize deedV ((plF K 7 (nI (pkN xs L (i + 1) (max (gP (kG K)) 1))) (nI (pkN xs L (i + 2) (max (gS (kG K)) 1))) 0).1, (plF K 7 (nI (pkN xs L (i + 1) (max (gP (kG K)) 1))) (nI (pkN xs L (i + 2) (max (gS (kG K)) 1))) 0).2.1) = r9
    exact e_retI ((K9, x9), r9) rfl hx hb hr ⟨hd9, hm9, hF9⟩ hP9 hD9 hS9 (by omega) (by omega) dL_any_250 hlocks
  · subst r
    refine lv_tableIn (off := 225) (tgt := 251) hx hb dL_any_26 (by decide +kernel) (by decide +kernel) (by decide +kernel) (by decide) ?_
    refine lv_aload_n hx hb dL_any_251 rfl (lv_at hl 2 rfl) ?_
    refine lv_bipush (v := 8) hx hb dL_any_252 (by decide) ?_
    refine lv_aload_n hx hb dL_any_254 rfl (lv_at hl 3 rfl) ?_
    refine lv_iload_n hx hb dL_any_255 rfl (lv_at hl 4 rfl) ?_
    refine lv_iconst (v := 1) hx hb dL_any_256 (by decide) ?_
    refine lv_iadd hx hb dL_any_257 ?_
    refine topI (y := nI (i + 1)) (show nI i + nI 1 = nI (i + 1)  from nI_add _ _) ?_
    refine lv_iload hx hb dL_any_258 (lv_at hl 0 rfl) ?_
    refine callRo (va_runS (As := [.ref a, .int (nI (i + 1)), .int (nI (max (gS (kG K)) 1))]) (rest := [.int 8, .ref (u 0)]) ⟨hx, hb, hml, hown, hts⟩ (c_L_pick l a L xs (i + 1) (max (gS (kG K)) 1) (by omega) (by omega) (by omega) (by omega)) (va_cwS 3 hts gL_any_L_pick rfl rfl rfl (by decide +kernel) ⟨Nat.le_of_ble_eq_true rfl, Nat.le_of_ble_eq_true rfl⟩) (scP_s hSC hS) rfl rfl hl.1 rfl (lv_room (Nat.le_of_ble_eq_true rfl)) dL_any_260 ⟨show _ ≤ 1 from by omega, show _ ≤ 6 from by omega⟩) ?_
    have hp260 : (pkN xs L (i + 1) (max (gS (kG K)) 1)) < (max (gS (kG K)) 1) := pkN_lt (by omega)
    refine lv_iconst (v := 0) hx hb dL_any_263 (by decide) ?_
    refine lv_iconst (v := 0) hx hb dL_any_264 (by decide) ?_
    refine callE (vx_runSW (As := [.ref (u 0), .int (nI 8), .int (nI (pkN xs L (i + 1) (max (gS (kG K)) 1))), .int 0, .int 0]) (rest := []) ⟨hx, hb, hml, hown, hts⟩ (c_L_deed l D C ev u K T 8 (nI (pkN xs L (i + 1) (max (gS (kG K)) 1))) 0 0 hl9 hd (by decide) x _ hF) (vx_cwSW 5 hts gL_any_L_deed rfl rfl rfl (by decide +kernel) ⟨Nat.le_of_ble_eq_true rfl, Nat.le_of_ble_eq_true rfl⟩) (hloP_s hP hK hE hD hR hX hT9 hV9 hDV hN hC hS (all_F hD hS hA)) rfl rfl hl.1 rfl (lv_room (Nat.le_of_ble_eq_true rfl)) dL_any_265 ⟨show _ ≤ 1 from by omega, show _ ≤ 6 from by omega⟩) hS (all_F hD hS hA) (fun x9 H9 locs9 hF9 hP9 hD9 _ hS9 => ?_)
    have hD9 : va_D A (kW C ev u (plK K 8 (nI (pkN xs L (i + 1) (max (gS (kG K)) 1))) 0 0) x9) := hD9.weaken (fun _ q _ h => all_F hD hS hA q.1 h)
    obtain ⟨hd9, -, hm9⟩ := deed_all hd (n := 8) (by decide) (nI (pkN xs L (i + 1) (max (gS (kG K)) 1))) 0 0
    generalize plK K 8 (nI (pkN xs L (i + 1) (max (gS (kG K)) 1))) 0 0 = K9 at hP9 hD9 hd9 hm9
    generalize deedV ((plF K 8 (nI (pkN xs L (i + 1) (max (gS (kG K)) 1))) 0 0).1, (plF K 8 (nI (pkN xs L (i + 1) (max (gS (kG K)) 1))) 0 0).2.1) = r9
    exact e_retI ((K9, x9), r9) rfl hx hb hr ⟨hd9, hm9, hF9⟩ hP9 hD9 hS9 (by omega) (by omega) dL_any_268 hlocks
  · subst r
    refine lv_tableIn (off := 225) (tgt := 251) hx hb dL_any_26 (by decide +kernel) (by decide +kernel) (by decide +kernel) (by decide) ?_
    refine lv_aload_n hx hb dL_any_251 rfl (lv_at hl 2 rfl) ?_
    refine lv_bipush (v := 8) hx hb dL_any_252 (by decide) ?_
    refine lv_aload_n hx hb dL_any_254 rfl (lv_at hl 3 rfl) ?_
    refine lv_iload_n hx hb dL_any_255 rfl (lv_at hl 4 rfl) ?_
    refine lv_iconst (v := 1) hx hb dL_any_256 (by decide) ?_
    refine lv_iadd hx hb dL_any_257 ?_
    refine topI (y := nI (i + 1)) (show nI i + nI 1 = nI (i + 1)  from nI_add _ _) ?_
    refine lv_iload hx hb dL_any_258 (lv_at hl 0 rfl) ?_
    refine callRo (va_runS (As := [.ref a, .int (nI (i + 1)), .int (nI (max (gS (kG K)) 1))]) (rest := [.int 8, .ref (u 0)]) ⟨hx, hb, hml, hown, hts⟩ (c_L_pick l a L xs (i + 1) (max (gS (kG K)) 1) (by omega) (by omega) (by omega) (by omega)) (va_cwS 3 hts gL_any_L_pick rfl rfl rfl (by decide +kernel) ⟨Nat.le_of_ble_eq_true rfl, Nat.le_of_ble_eq_true rfl⟩) (scP_s hSC hS) rfl rfl hl.1 rfl (lv_room (Nat.le_of_ble_eq_true rfl)) dL_any_260 ⟨show _ ≤ 1 from by omega, show _ ≤ 6 from by omega⟩) ?_
    have hp260 : (pkN xs L (i + 1) (max (gS (kG K)) 1)) < (max (gS (kG K)) 1) := pkN_lt (by omega)
    refine lv_iconst (v := 0) hx hb dL_any_263 (by decide) ?_
    refine lv_iconst (v := 0) hx hb dL_any_264 (by decide) ?_
    refine callE (vx_runSW (As := [.ref (u 0), .int (nI 8), .int (nI (pkN xs L (i + 1) (max (gS (kG K)) 1))), .int 0, .int 0]) (rest := []) ⟨hx, hb, hml, hown, hts⟩ (c_L_deed l D C ev u K T 8 (nI (pkN xs L (i + 1) (max (gS (kG K)) 1))) 0 0 hl9 hd (by decide) x _ hF) (vx_cwSW 5 hts gL_any_L_deed rfl rfl rfl (by decide +kernel) ⟨Nat.le_of_ble_eq_true rfl, Nat.le_of_ble_eq_true rfl⟩) (hloP_s hP hK hE hD hR hX hT9 hV9 hDV hN hC hS (all_F hD hS hA)) rfl rfl hl.1 rfl (lv_room (Nat.le_of_ble_eq_true rfl)) dL_any_265 ⟨show _ ≤ 1 from by omega, show _ ≤ 6 from by omega⟩) hS (all_F hD hS hA) (fun x9 H9 locs9 hF9 hP9 hD9 _ hS9 => ?_)
    have hD9 : va_D A (kW C ev u (plK K 8 (nI (pkN xs L (i + 1) (max (gS (kG K)) 1))) 0 0) x9) := hD9.weaken (fun _ q _ h => all_F hD hS hA q.1 h)
    obtain ⟨hd9, -, hm9⟩ := deed_all hd (n := 8) (by decide) (nI (pkN xs L (i + 1) (max (gS (kG K)) 1))) 0 0
    generalize plK K 8 (nI (pkN xs L (i + 1) (max (gS (kG K)) 1))) 0 0 = K9 at hP9 hD9 hd9 hm9
    generalize deedV ((plF K 8 (nI (pkN xs L (i + 1) (max (gS (kG K)) 1))) 0 0).1, (plF K 8 (nI (pkN xs L (i + 1) (max (gS (kG K)) 1))) 0 0).2.1) = r9
    exact e_retI ((K9, x9), r9) rfl hx hb hr ⟨hd9, hm9, hF9⟩ hP9 hD9 hS9 (by omega) (by omega) dL_any_268 hlocks
  · subst r
    refine lv_tableIn (off := 225) (tgt := 251) hx hb dL_any_26 (by decide +kernel) (by decide +kernel) (by decide +kernel) (by decide) ?_
    refine lv_aload_n hx hb dL_any_251 rfl (lv_at hl 2 rfl) ?_
    refine lv_bipush (v := 8) hx hb dL_any_252 (by decide) ?_
    refine lv_aload_n hx hb dL_any_254 rfl (lv_at hl 3 rfl) ?_
    refine lv_iload_n hx hb dL_any_255 rfl (lv_at hl 4 rfl) ?_
    refine lv_iconst (v := 1) hx hb dL_any_256 (by decide) ?_
    refine lv_iadd hx hb dL_any_257 ?_
    refine topI (y := nI (i + 1)) (show nI i + nI 1 = nI (i + 1)  from nI_add _ _) ?_
    refine lv_iload hx hb dL_any_258 (lv_at hl 0 rfl) ?_
    refine callRo (va_runS (As := [.ref a, .int (nI (i + 1)), .int (nI (max (gS (kG K)) 1))]) (rest := [.int 8, .ref (u 0)]) ⟨hx, hb, hml, hown, hts⟩ (c_L_pick l a L xs (i + 1) (max (gS (kG K)) 1) (by omega) (by omega) (by omega) (by omega)) (va_cwS 3 hts gL_any_L_pick rfl rfl rfl (by decide +kernel) ⟨Nat.le_of_ble_eq_true rfl, Nat.le_of_ble_eq_true rfl⟩) (scP_s hSC hS) rfl rfl hl.1 rfl (lv_room (Nat.le_of_ble_eq_true rfl)) dL_any_260 ⟨show _ ≤ 1 from by omega, show _ ≤ 6 from by omega⟩) ?_
    have hp260 : (pkN xs L (i + 1) (max (gS (kG K)) 1)) < (max (gS (kG K)) 1) := pkN_lt (by omega)
    refine lv_iconst (v := 0) hx hb dL_any_263 (by decide) ?_
    refine lv_iconst (v := 0) hx hb dL_any_264 (by decide) ?_
    refine callE (vx_runSW (As := [.ref (u 0), .int (nI 8), .int (nI (pkN xs L (i + 1) (max (gS (kG K)) 1))), .int 0, .int 0]) (rest := []) ⟨hx, hb, hml, hown, hts⟩ (c_L_deed l D C ev u K T 8 (nI (pkN xs L (i + 1) (max (gS (kG K)) 1))) 0 0 hl9 hd (by decide) x _ hF) (vx_cwSW 5 hts gL_any_L_deed rfl rfl rfl (by decide +kernel) ⟨Nat.le_of_ble_eq_true rfl, Nat.le_of_ble_eq_true rfl⟩) (hloP_s hP hK hE hD hR hX hT9 hV9 hDV hN hC hS (all_F hD hS hA)) rfl rfl hl.1 rfl (lv_room (Nat.le_of_ble_eq_true rfl)) dL_any_265 ⟨show _ ≤ 1 from by omega, show _ ≤ 6 from by omega⟩) hS (all_F hD hS hA) (fun x9 H9 locs9 hF9 hP9 hD9 _ hS9 => ?_)
    have hD9 : va_D A (kW C ev u (plK K 8 (nI (pkN xs L (i + 1) (max (gS (kG K)) 1))) 0 0) x9) := hD9.weaken (fun _ q _ h => all_F hD hS hA q.1 h)
    obtain ⟨hd9, -, hm9⟩ := deed_all hd (n := 8) (by decide) (nI (pkN xs L (i + 1) (max (gS (kG K)) 1))) 0 0
    generalize plK K 8 (nI (pkN xs L (i + 1) (max (gS (kG K)) 1))) 0 0 = K9 at hP9 hD9 hd9 hm9
    generalize deedV ((plF K 8 (nI (pkN xs L (i + 1) (max (gS (kG K)) 1))) 0 0).1, (plF K 8 (nI (pkN xs L (i + 1) (max (gS (kG K)) 1))) 0 0).2.1) = r9
    exact e_retI ((K9, x9), r9) rfl hx hb hr ⟨hd9, hm9, hF9⟩ hP9 hD9 hS9 (by omega) (by omega) dL_any_268 hlocks
  · subst r
    refine lv_tableIn (off := 225) (tgt := 251) hx hb dL_any_26 (by decide +kernel) (by decide +kernel) (by decide +kernel) (by decide) ?_
    refine lv_aload_n hx hb dL_any_251 rfl (lv_at hl 2 rfl) ?_
    refine lv_bipush (v := 8) hx hb dL_any_252 (by decide) ?_
    refine lv_aload_n hx hb dL_any_254 rfl (lv_at hl 3 rfl) ?_
    refine lv_iload_n hx hb dL_any_255 rfl (lv_at hl 4 rfl) ?_
    refine lv_iconst (v := 1) hx hb dL_any_256 (by decide) ?_
    refine lv_iadd hx hb dL_any_257 ?_
    refine topI (y := nI (i + 1)) (show nI i + nI 1 = nI (i + 1)  from nI_add _ _) ?_
    refine lv_iload hx hb dL_any_258 (lv_at hl 0 rfl) ?_
    refine callRo (va_runS (As := [.ref a, .int (nI (i + 1)), .int (nI (max (gS (kG K)) 1))]) (rest := [.int 8, .ref (u 0)]) ⟨hx, hb, hml, hown, hts⟩ (c_L_pick l a L xs (i + 1) (max (gS (kG K)) 1) (by omega) (by omega) (by omega) (by omega)) (va_cwS 3 hts gL_any_L_pick rfl rfl rfl (by decide +kernel) ⟨Nat.le_of_ble_eq_true rfl, Nat.le_of_ble_eq_true rfl⟩) (scP_s hSC hS) rfl rfl hl.1 rfl (lv_room (Nat.le_of_ble_eq_true rfl)) dL_any_260 ⟨show _ ≤ 1 from by omega, show _ ≤ 6 from by omega⟩) ?_
    have hp260 : (pkN xs L (i + 1) (max (gS (kG K)) 1)) < (max (gS (kG K)) 1) := pkN_lt (by omega)
    refine lv_iconst (v := 0) hx hb dL_any_263 (by decide) ?_
    refine lv_iconst (v := 0) hx hb dL_any_264 (by decide) ?_
    refine callE (vx_runSW (As := [.ref (u 0), .int (nI 8), .int (nI (pkN xs L (i + 1) (max (gS (kG K)) 1))), .int 0, .int 0]) (rest := []) ⟨hx, hb, hml, hown, hts⟩ (c_L_deed l D C ev u K T 8 (nI (pkN xs L (i + 1) (max (gS (kG K)) 1))) 0 0 hl9 hd (by decide) x _ hF) (vx_cwSW 5 hts gL_any_L_deed rfl rfl rfl (by decide +kernel) ⟨Nat.le_of_ble_eq_true rfl, Nat.le_of_ble_eq_true rfl⟩) (hloP_s hP hK hE hD hR hX hT9 hV9 hDV hN hC hS (all_F hD hS hA)) rfl rfl hl.1 rfl (lv_room (Nat.le_of_ble_eq_true rfl)) dL_any_265 ⟨show _ ≤ 1 from by omega, show _ ≤ 6 from by omega⟩) hS (all_F hD hS hA) (fun x9 H9 locs9 hF9 hP9 hD9 _ hS9 => ?_)
    have hD9 : va_D A (kW C ev u (plK K 8 (nI (pkN xs L (i + 1) (max (gS (kG K)) 1))) 0 0) x9) := hD9.weaken (fun _ q _ h => all_F hD hS hA q.1 h)
    obtain ⟨hd9, -, hm9⟩ := deed_all hd (n := 8) (by decide) (nI (pkN xs L (i + 1) (max (gS (kG K)) 1))) 0 0
    generalize plK K 8 (nI (pkN xs L (i + 1) (max (gS (kG K)) 1))) 0 0 = K9 at hP9 hD9 hd9 hm9
    generalize deedV ((plF K 8 (nI (pkN xs L (i + 1) (max (gS (kG K)) 1))) 0 0).1, (plF K 8 (nI (pkN xs L (i + 1) (max (gS (kG K)) 1))) 0 0).2.1) = r9
    exact e_retI ((K9, x9), r9) rfl hx hb hr ⟨hd9, hm9, hF9⟩ hP9 hD9 hS9 (by omega) (by omega) dL_any_268 hlocks
  · subst r
    refine lv_tableIn (off := 243) (tgt := 269) hx hb dL_any_26 (by decide +kernel) (by decide +kernel) (by decide +kernel) (by decide) ?_
    refine lv_aload_n hx hb dL_any_269 rfl (lv_at hl 2 rfl) ?_
    refine lv_iconst (v := 5) hx hb dL_any_270 (by decide) ?_
    refine lv_aload_n hx hb dL_any_271 rfl (lv_at hl 3 rfl) ?_
    refine lv_iload_n hx hb dL_any_272 rfl (lv_at hl 4 rfl) ?_
    refine lv_iconst (v := 1) hx hb dL_any_273 (by decide) ?_
    refine lv_iadd hx hb dL_any_274 ?_
    refine topI (y := nI (i + 1)) (show nI i + nI 1 = nI (i + 1)  from nI_add _ _) ?_
    refine lv_iload_n hx hb dL_any_275 rfl (lv_at hl 1 rfl) ?_
    refine callRo (va_runS (As := [.ref a, .int (nI (i + 1)), .int (nI (max (gP (kG K)) 1))]) (rest := [.int 5, .ref (u 0)]) ⟨hx, hb, hml, hown, hts⟩ (c_L_pick l a L xs (i + 1) (max (gP (kG K)) 1) (by omega) (by omega) (by omega) (by omega)) (va_cwS 3 hts gL_any_L_pick rfl rfl rfl (by decide +kernel) ⟨Nat.le_of_ble_eq_true rfl, Nat.le_of_ble_eq_true rfl⟩) (scP_s hSC hS) rfl rfl hl.1 rfl (lv_room (Nat.le_of_ble_eq_true rfl)) dL_any_276 ⟨show _ ≤ 1 from by omega, show _ ≤ 6 from by omega⟩) ?_
    have hp276 : (pkN xs L (i + 1) (max (gP (kG K)) 1)) < (max (gP (kG K)) 1) := pkN_lt (by omega)
    refine lv_aload_n hx hb dL_any_279 rfl (lv_at hl 3 rfl) ?_
    refine lv_iload_n hx hb dL_any_280 rfl (lv_at hl 4 rfl) ?_
    refine lv_iconst (v := 2) hx hb dL_any_281 (by decide) ?_
    refine lv_iadd hx hb dL_any_282 ?_
    refine topI (y := nI (i + 2)) (show nI i + nI 2 = nI (i + 2)  from nI_add _ _) ?_
    refine lv_iload hx hb dL_any_283 (lv_at hl 0 rfl) ?_
    refine callRo (va_runS (As := [.ref a, .int (nI (i + 2)), .int (nI (max (gS (kG K)) 1))]) (rest := [.int (nI (pkN xs L (i + 1) (max (gP (kG K)) 1))), .int 5, .ref (u 0)]) ⟨hx, hb, hml, hown, hts⟩ (c_L_pick l a L xs (i + 2) (max (gS (kG K)) 1) (by omega) (by omega) (by omega) (by omega)) (va_cwS 3 hts gL_any_L_pick rfl rfl rfl (by decide +kernel) ⟨Nat.le_of_ble_eq_true rfl, Nat.le_of_ble_eq_true rfl⟩) (scP_s hSC hS) rfl rfl hl.1 rfl (lv_room (Nat.le_of_ble_eq_true rfl)) dL_any_285 ⟨show _ ≤ 1 from by omega, show _ ≤ 6 from by omega⟩) ?_
    have hp285 : (pkN xs L (i + 2) (max (gS (kG K)) 1)) < (max (gS (kG K)) 1) := pkN_lt (by omega)
    refine lv_iconst (v := 1) hx hb dL_any_288 (by decide) ?_
    refine lv_aload_n hx hb dL_any_289 rfl (lv_at hl 3 rfl) ?_
    refine lv_iload_n hx hb dL_any_290 rfl (lv_at hl 4 rfl) ?_
    refine lv_iconst (v := 3) hx hb dL_any_291 (by decide) ?_
    refine lv_iadd hx hb dL_any_292 ?_
    refine topI (y := nI (i + 3)) (show nI i + nI 3 = nI (i + 3)  from nI_add _ _) ?_
    refine lv_bipush (v := 60) hx hb dL_any_293 (by decide) ?_
    refine callRo (va_runS (As := [.ref a, .int (nI (i + 3)), .int (nI 60)]) (rest := [.int 1, .int (nI (pkN xs L (i + 2) (max (gS (kG K)) 1))), .int (nI (pkN xs L (i + 1) (max (gP (kG K)) 1))), .int 5, .ref (u 0)]) ⟨hx, hb, hml, hown, hts⟩ (c_L_pick l a L xs (i + 3) 60 (by omega) (by omega) (by omega) (by omega)) (va_cwS 3 hts gL_any_L_pick rfl rfl rfl (by decide +kernel) ⟨Nat.le_of_ble_eq_true rfl, Nat.le_of_ble_eq_true rfl⟩) (scP_s hSC hS) rfl rfl hl.1 rfl (lv_room (Nat.le_of_ble_eq_true rfl)) dL_any_295 ⟨show _ ≤ 1 from by omega, show _ ≤ 6 from by omega⟩) ?_
    have hp295 : (pkN xs L (i + 3) 60) < 60 := pkN_lt (by omega)
    refine lv_iadd hx hb dL_any_298 ?_
    refine topI (y := nI (1 + (pkN xs L (i + 3) 60))) (show nI 1 + nI (pkN xs L (i + 3) 60) = nI (1 + (pkN xs L (i + 3) 60))  from nI_add _ _) ?_
    refine callE (vx_runSW (As := [.ref (u 0), .int (nI 5), .int (nI (pkN xs L (i + 1) (max (gP (kG K)) 1))), .int (nI (pkN xs L (i + 2) (max (gS (kG K)) 1))), .int (nI (1 + (pkN xs L (i + 3) 60)))]) (rest := []) ⟨hx, hb, hml, hown, hts⟩ (c_L_deed l D C ev u K T 5 (nI (pkN xs L (i + 1) (max (gP (kG K)) 1))) (nI (pkN xs L (i + 2) (max (gS (kG K)) 1))) (nI (1 + (pkN xs L (i + 3) 60))) hl9 hd (by decide) x _ hF) (vx_cwSW 5 hts gL_any_L_deed rfl rfl rfl (by decide +kernel) ⟨Nat.le_of_ble_eq_true rfl, Nat.le_of_ble_eq_true rfl⟩) (hloP_s hP hK hE hD hR hX hT9 hV9 hDV hN hC hS (all_F hD hS hA)) rfl rfl hl.1 rfl (lv_room (Nat.le_of_ble_eq_true rfl)) dL_any_299 ⟨show _ ≤ 1 from by omega, show _ ≤ 6 from by omega⟩) hS (all_F hD hS hA) (fun x9 H9 locs9 hF9 hP9 hD9 _ hS9 => ?_)
    have hD9 : va_D A (kW C ev u (plK K 5 (nI (pkN xs L (i + 1) (max (gP (kG K)) 1))) (nI (pkN xs L (i + 2) (max (gS (kG K)) 1))) (nI (1 + (pkN xs L (i + 3) 60)))) x9) := hD9.weaken (fun _ q _ h => all_F hD hS hA q.1 h)
    obtain ⟨hd9, -, hm9⟩ := deed_all hd (n := 5) (by decide) (nI (pkN xs L (i + 1) (max (gP (kG K)) 1))) (nI (pkN xs L (i + 2) (max (gS (kG K)) 1))) (nI (1 + (pkN xs L (i + 3) 60)))
    generalize plK K 5 (nI (pkN xs L (i + 1) (max (gP (kG K)) 1))) (nI (pkN xs L (i + 2) (max (gS (kG K)) 1))) (nI (1 + (pkN xs L (i + 3) 60))) = K9 at hP9 hD9 hd9 hm9
    generalize deedV ((plF K 5 (nI (pkN xs L (i + 1) (max (gP (kG K)) 1))) (nI (pkN xs L (i + 2) (max (gS (kG K)) 1))) (nI (1 + (pkN xs L (i + 3) 60)))).1, (plF K 5 (nI (pkN xs L (i + 1) (max (gP (kG K)) 1))) (nI (pkN xs L (i + 2) (max (gS (kG K)) 1))) (nI (1 + (pkN xs L (i + 3) 60)))).2.1) = r9
    exact e_retI ((K9, x9), r9) rfl hx hb hr ⟨hd9, hm9, hF9⟩ hP9 hD9 hS9 (by omega) (by omega) dL_any_302 hlocks
  · subst r
    refine lv_tableIn (off := 243) (tgt := 269) hx hb dL_any_26 (by decide +kernel) (by decide +kernel) (by decide +kernel) (by decide) ?_
    refine lv_aload_n hx hb dL_any_269 rfl (lv_at hl 2 rfl) ?_
    refine lv_iconst (v := 5) hx hb dL_any_270 (by decide) ?_
    refine lv_aload_n hx hb dL_any_271 rfl (lv_at hl 3 rfl) ?_
    refine lv_iload_n hx hb dL_any_272 rfl (lv_at hl 4 rfl) ?_
    refine lv_iconst (v := 1) hx hb dL_any_273 (by decide) ?_
    refine lv_iadd hx hb dL_any_274 ?_
    refine topI (y := nI (i + 1)) (show nI i + nI 1 = nI (i + 1)  from nI_add _ _) ?_
    refine lv_iload_n hx hb dL_any_275 rfl (lv_at hl 1 rfl) ?_
    refine callRo (va_runS (As := [.ref a, .int (nI (i + 1)), .int (nI (max (gP (kG K)) 1))]) (rest := [.int 5, .ref (u 0)]) ⟨hx, hb, hml, hown, hts⟩ (c_L_pick l a L xs (i + 1) (max (gP (kG K)) 1) (by omega) (by omega) (by omega) (by omega)) (va_cwS 3 hts gL_any_L_pick rfl rfl rfl (by decide +kernel) ⟨Nat.le_of_ble_eq_true rfl, Nat.le_of_ble_eq_true rfl⟩) (scP_s hSC hS) rfl rfl hl.1 rfl (lv_room (Nat.le_of_ble_eq_true rfl)) dL_any_276 ⟨show _ ≤ 1 from by omega, show _ ≤ 6 from by omega⟩) ?_
    have hp276 : (pkN xs L (i + 1) (max (gP (kG K)) 1)) < (max (gP (kG K)) 1) := pkN_lt (by omega)
    refine lv_aload_n hx hb dL_any_279 rfl (lv_at hl 3 rfl) ?_
    refine lv_iload_n hx hb dL_any_280 rfl (lv_at hl 4 rfl) ?_
    refine lv_iconst (v := 2) hx hb dL_any_281 (by decide) ?_
    refine lv_iadd hx hb dL_any_282 ?_
    refine topI (y := nI (i + 2)) (show nI i + nI 2 = nI (i + 2)  from nI_add _ _) ?_
    refine lv_iload hx hb dL_any_283 (lv_at hl 0 rfl) ?_
    refine callRo (va_runS (As := [.ref a, .int (nI (i + 2)), .int (nI (max (gS (kG K)) 1))]) (rest := [.int (nI (pkN xs L (i + 1) (max (gP (kG K)) 1))), .int 5, .ref (u 0)]) ⟨hx, hb, hml, hown, hts⟩ (c_L_pick l a L xs (i + 2) (max (gS (kG K)) 1) (by omega) (by omega) (by omega) (by omega)) (va_cwS 3 hts gL_any_L_pick rfl rfl rfl (by decide +kernel) ⟨Nat.le_of_ble_eq_true rfl, Nat.le_of_ble_eq_true rfl⟩) (scP_s hSC hS) rfl rfl hl.1 rfl (lv_room (Nat.le_of_ble_eq_true rfl)) dL_any_285 ⟨show _ ≤ 1 from by omega, show _ ≤ 6 from by omega⟩) ?_
    have hp285 : (pkN xs L (i + 2) (max (gS (kG K)) 1)) < (max (gS (kG K)) 1) := pkN_lt (by omega)
    refine lv_iconst (v := 1) hx hb dL_any_288 (by decide) ?_
    refine lv_aload_n hx hb dL_any_289 rfl (lv_at hl 3 rfl) ?_
    refine lv_iload_n hx hb dL_any_290 rfl (lv_at hl 4 rfl) ?_
    refine lv_iconst (v := 3) hx hb dL_any_291 (by decide) ?_
    refine lv_iadd hx hb dL_any_292 ?_
    refine topI (y := nI (i + 3)) (show nI i + nI 3 = nI (i + 3)  from nI_add _ _) ?_
    refine lv_bipush (v := 60) hx hb dL_any_293 (by decide) ?_
    refine callRo (va_runS (As := [.ref a, .int (nI (i + 3)), .int (nI 60)]) (rest := [.int 1, .int (nI (pkN xs L (i + 2) (max (gS (kG K)) 1))), .int (nI (pkN xs L (i + 1) (max (gP (kG K)) 1))), .int 5, .ref (u 0)]) ⟨hx, hb, hml, hown, hts⟩ (c_L_pick l a L xs (i + 3) 60 (by omega) (by omega) (by omega) (by omega)) (va_cwS 3 hts gL_any_L_pick rfl rfl rfl (by decide +kernel) ⟨Nat.le_of_ble_eq_true rfl, Nat.le_of_ble_eq_true rfl⟩) (scP_s hSC hS) rfl rfl hl.1 rfl (lv_room (Nat.le_of_ble_eq_true rfl)) dL_any_295 ⟨show _ ≤ 1 from by omega, show _ ≤ 6 from by omega⟩) ?_
    have hp295 : (pkN xs L (i + 3) 60) < 60 := pkN_lt (by omega)
    refine lv_iadd hx hb dL_any_298 ?_
    refine topI (y := nI (1 + (pkN xs L (i + 3) 60))) (show nI 1 + nI (pkN xs L (i + 3) 60) = nI (1 + (pkN xs L (i + 3) 60))  from nI_add _ _) ?_
    refine callE (vx_runSW (As := [.ref (u 0), .int (nI 5), .int (nI (pkN xs L (i + 1) (max (gP (kG K)) 1))), .int (nI (pkN xs L (i + 2) (max (gS (kG K)) 1))), .int (nI (1 + (pkN xs L (i + 3) 60)))]) (rest := []) ⟨hx, hb, hml, hown, hts⟩ (c_L_deed l D C ev u K T 5 (nI (pkN xs L (i + 1) (max (gP (kG K)) 1))) (nI (pkN xs L (i + 2) (max (gS (kG K)) 1))) (nI (1 + (pkN xs L (i + 3) 60))) hl9 hd (by decide) x _ hF) (vx_cwSW 5 hts gL_any_L_deed rfl rfl rfl (by decide +kernel) ⟨Nat.le_of_ble_eq_true rfl, Nat.le_of_ble_eq_true rfl⟩) (hloP_s hP hK hE hD hR hX hT9 hV9 hDV hN hC hS (all_F hD hS hA)) rfl rfl hl.1 rfl (lv_room (Nat.le_of_ble_eq_true rfl)) dL_any_299 ⟨show _ ≤ 1 from by omega, show _ ≤ 6 from by omega⟩) hS (all_F hD hS hA) (fun x9 H9 locs9 hF9 hP9 hD9 _ hS9 => ?_)
    have hD9 : va_D A (kW C ev u (plK K 5 (nI (pkN xs L (i + 1) (max (gP (kG K)) 1))) (nI (pkN xs L (i + 2) (max (gS (kG K)) 1))) (nI (1 + (pkN xs L (i + 3) 60)))) x9) := hD9.weaken (fun _ q _ h => all_F hD hS hA q.1 h)
    obtain ⟨hd9, -, hm9⟩ := deed_all hd (n := 5) (by decide) (nI (pkN xs L (i + 1) (max (gP (kG K)) 1))) (nI (pkN xs L (i + 2) (max (gS (kG K)) 1))) (nI (1 + (pkN xs L (i + 3) 60)))
    generalize plK K 5 (nI (pkN xs L (i + 1) (max (gP (kG K)) 1))) (nI (pkN xs L (i + 2) (max (gS (kG K)) 1))) (nI (1 + (pkN xs L (i + 3) 60))) = K9 at hP9 hD9 hd9 hm9
    generalize deedV ((plF K 5 (nI (pkN xs L (i + 1) (max (gP (kG K)) 1))) (nI (pkN xs L (i + 2) (max (gS (kG K)) 1))) (nI (1 + (pkN xs L (i + 3) 60)))).1, (plF K 5 (nI (pkN xs L (i + 1) (max (gP (kG K)) 1))) (nI (pkN xs L (i + 2) (max (gS (kG K)) 1))) (nI (1 + (pkN xs L (i + 3) 60)))).2.1) = r9
    exact e_retI ((K9, x9), r9) rfl hx hb hr ⟨hd9, hm9, hF9⟩ hP9 hD9 hS9 (by omega) (by omega) dL_any_302 hlocks
  · subst r
    refine lv_tableIn (off := 243) (tgt := 269) hx hb dL_any_26 (by decide +kernel) (by decide +kernel) (by decide +kernel) (by decide) ?_
    refine lv_aload_n hx hb dL_any_269 rfl (lv_at hl 2 rfl) ?_
    refine lv_iconst (v := 5) hx hb dL_any_270 (by decide) ?_
    refine lv_aload_n hx hb dL_any_271 rfl (lv_at hl 3 rfl) ?_
    refine lv_iload_n hx hb dL_any_272 rfl (lv_at hl 4 rfl) ?_
    refine lv_iconst (v := 1) hx hb dL_any_273 (by decide) ?_
    refine lv_iadd hx hb dL_any_274 ?_
    refine topI (y := nI (i + 1)) (show nI i + nI 1 = nI (i + 1)  from nI_add _ _) ?_
    refine lv_iload_n hx hb dL_any_275 rfl (lv_at hl 1 rfl) ?_
    refine callRo (va_runS (As := [.ref a, .int (nI (i + 1)), .int (nI (max (gP (kG K)) 1))]) (rest := [.int 5, .ref (u 0)]) ⟨hx, hb, hml, hown, hts⟩ (c_L_pick l a L xs (i + 1) (max (gP (kG K)) 1) (by omega) (by omega) (by omega) (by omega)) (va_cwS 3 hts gL_any_L_pick rfl rfl rfl (by decide +kernel) ⟨Nat.le_of_ble_eq_true rfl, Nat.le_of_ble_eq_true rfl⟩) (scP_s hSC hS) rfl rfl hl.1 rfl (lv_room (Nat.le_of_ble_eq_true rfl)) dL_any_276 ⟨show _ ≤ 1 from by omega, show _ ≤ 6 from by omega⟩) ?_
    have hp276 : (pkN xs L (i + 1) (max (gP (kG K)) 1)) < (max (gP (kG K)) 1) := pkN_lt (by omega)
    refine lv_aload_n hx hb dL_any_279 rfl (lv_at hl 3 rfl) ?_
    refine lv_iload_n hx hb dL_any_280 rfl (lv_at hl 4 rfl) ?_
    refine lv_iconst (v := 2) hx hb dL_any_281 (by decide) ?_
    refine lv_iadd hx hb dL_any_282 ?_
    refine topI (y := nI (i + 2)) (show nI i + nI 2 = nI (i + 2)  from nI_add _ _) ?_
    refine lv_iload hx hb dL_any_283 (lv_at hl 0 rfl) ?_
    refine callRo (va_runS (As := [.ref a, .int (nI (i + 2)), .int (nI (max (gS (kG K)) 1))]) (rest := [.int (nI (pkN xs L (i + 1) (max (gP (kG K)) 1))), .int 5, .ref (u 0)]) ⟨hx, hb, hml, hown, hts⟩ (c_L_pick l a L xs (i + 2) (max (gS (kG K)) 1) (by omega) (by omega) (by omega) (by omega)) (va_cwS 3 hts gL_any_L_pick rfl rfl rfl (by decide +kernel) ⟨Nat.le_of_ble_eq_true rfl, Nat.le_of_ble_eq_true rfl⟩) (scP_s hSC hS) rfl rfl hl.1 rfl (lv_room (Nat.le_of_ble_eq_true rfl)) dL_any_285 ⟨show _ ≤ 1 from by omega, show _ ≤ 6 from by omega⟩) ?_
    have hp285 : (pkN xs L (i + 2) (max (gS (kG K)) 1)) < (max (gS (kG K)) 1) := pkN_lt (by omega)
    refine lv_iconst (v := 1) hx hb dL_any_288 (by decide) ?_
    refine lv_aload_n hx hb dL_any_289 rfl (lv_at hl 3 rfl) ?_
    refine lv_iload_n hx hb dL_any_290 rfl (lv_at hl 4 rfl) ?_
    refine lv_iconst (v := 3) hx hb dL_any_291 (by decide) ?_
    refine lv_iadd hx hb dL_any_292 ?_
    refine topI (y := nI (i + 3)) (show nI i + nI 3 = nI (i + 3)  from nI_add _ _) ?_
    refine lv_bipush (v := 60) hx hb dL_any_293 (by decide) ?_
    refine callRo (va_runS (As := [.ref a, .int (nI (i + 3)), .int (nI 60)]) (rest := [.int 1, .int (nI (pkN xs L (i + 2) (max (gS (kG K)) 1))), .int (nI (pkN xs L (i + 1) (max (gP (kG K)) 1))), .int 5, .ref (u 0)]) ⟨hx, hb, hml, hown, hts⟩ (c_L_pick l a L xs (i + 3) 60 (by omega) (by omega) (by omega) (by omega)) (va_cwS 3 hts gL_any_L_pick rfl rfl rfl (by decide +kernel) ⟨Nat.le_of_ble_eq_true rfl, Nat.le_of_ble_eq_true rfl⟩) (scP_s hSC hS) rfl rfl hl.1 rfl (lv_room (Nat.le_of_ble_eq_true rfl)) dL_any_295 ⟨show _ ≤ 1 from by omega, show _ ≤ 6 from by omega⟩) ?_
    have hp295 : (pkN xs L (i + 3) 60) < 60 := pkN_lt (by omega)
    refine lv_iadd hx hb dL_any_298 ?_
    refine topI (y := nI (1 + (pkN xs L (i + 3) 60))) (show nI 1 + nI (pkN xs L (i + 3) 60) = nI (1 + (pkN xs L (i + 3) 60))  from nI_add _ _) ?_
    refine callE (vx_runSW (As := [.ref (u 0), .int (nI 5), .int (nI (pkN xs L (i + 1) (max (gP (kG K)) 1))), .int (nI (pkN xs L (i + 2) (max (gS (kG K)) 1))), .int (nI (1 + (pkN xs L (i + 3) 60)))]) (rest := []) ⟨hx, hb, hml, hown, hts⟩ (c_L_deed l D C ev u K T 5 (nI (pkN xs L (i + 1) (max (gP (kG K)) 1))) (nI (pkN xs L (i + 2) (max (gS (kG K)) 1))) (nI (1 + (pkN xs L (i + 3) 60))) hl9 hd (by decide) x _ hF) (vx_cwSW 5 hts gL_any_L_deed rfl rfl rfl (by decide +kernel) ⟨Nat.le_of_ble_eq_true rfl, Nat.le_of_ble_eq_true rfl⟩) (hloP_s hP hK hE hD hR hX hT9 hV9 hDV hN hC hS (all_F hD hS hA)) rfl rfl hl.1 rfl (lv_room (Nat.le_of_ble_eq_true rfl)) dL_any_299 ⟨show _ ≤ 1 from by omega, show _ ≤ 6 from by omega⟩) hS (all_F hD hS hA) (fun x9 H9 locs9 hF9 hP9 hD9 _ hS9 => ?_)
    have hD9 : va_D A (kW C ev u (plK K 5 (nI (pkN xs L (i + 1) (max (gP (kG K)) 1))) (nI (pkN xs L (i + 2) (max (gS (kG K)) 1))) (nI (1 + (pkN xs L (i + 3) 60)))) x9) := hD9.weaken (fun _ q _ h => all_F hD hS hA q.1 h)
    obtain ⟨hd9, -, hm9⟩ := deed_all hd (n := 5) (by decide) (nI (pkN xs L (i + 1) (max (gP (kG K)) 1))) (nI (pkN xs L (i + 2) (max (gS (kG K)) 1))) (nI (1 + (pkN xs L (i + 3) 60)))
    generalize plK K 5 (nI (pkN xs L (i + 1) (max (gP (kG K)) 1))) (nI (pkN xs L (i + 2) (max (gS (kG K)) 1))) (nI (1 + (pkN xs L (i + 3) 60))) = K9 at hP9 hD9 hd9 hm9
    generalize deedV ((plF K 5 (nI (pkN xs L (i + 1) (max (gP (kG K)) 1))) (nI (pkN xs L (i + 2) (max (gS (kG K)) 1))) (nI (1 + (pkN xs L (i + 3) 60)))).1, (plF K 5 (nI (pkN xs L (i + 1) (max (gP (kG K)) 1))) (nI (pkN xs L (i + 2) (max (gS (kG K)) 1))) (nI (1 + (pkN xs L (i + 3) 60)))).2.1) = r9
    exact e_retI ((K9, x9), r9) rfl hx hb hr ⟨hd9, hm9, hF9⟩ hP9 hD9 hS9 (by omega) (by omega) dL_any_302 hlocks
  · have r9 : pk = 17 ∨ pk = 18 ∨ pk = 19 ∨ pk = 20 ∨ pk = 21 ∨ pk = 22 ∨ pk = 23 := by omega
    clear r
    rcases r9 with r | r | r | r | r | r | r <;> subst r
    · refine lv_tableOut (tgt := 303) hx hb dL_any_26 (by decide +kernel) (by decide) ?_
      refine lv_aload_n hx hb dL_any_303 rfl (lv_at hl 2 rfl) ?_
      refine lv_iconst (v := 4) hx hb dL_any_304 (by decide) ?_
      refine lv_aload_n hx hb dL_any_305 rfl (lv_at hl 3 rfl) ?_
      refine lv_iload_n hx hb dL_any_306 rfl (lv_at hl 4 rfl) ?_
      refine lv_iconst (v := 1) hx hb dL_any_307 (by decide) ?_
      refine lv_iadd hx hb dL_any_308 ?_
      refine topI (y := nI (i + 1)) (show nI i + nI 1 = nI (i + 1)  from nI_add _ _) ?_
      refine lv_iload_n hx hb dL_any_309 rfl (lv_at hl 1 rfl) ?_
      refine callRo (va_runS (As := [.ref a, .int (nI (i + 1)), .int (nI (max (gP (kG K)) 1))]) (rest := [.int 4, .ref (u 0)]) ⟨hx, hb, hml, hown, hts⟩ (c_L_pick l a L xs (i + 1) (max (gP (kG K)) 1) (by omega) (by omega) (by omega) (by omega)) (va_cwS 3 hts gL_any_L_pick rfl rfl rfl (by decide +kernel) ⟨Nat.le_of_ble_eq_true rfl, Nat.le_of_ble_eq_true rfl⟩) (scP_s hSC hS) rfl rfl hl.1 rfl (lv_room (Nat.le_of_ble_eq_true rfl)) dL_any_310 ⟨show _ ≤ 1 from by omega, show _ ≤ 6 from by omega⟩) ?_
      have hp310 : (pkN xs L (i + 1) (max (gP (kG K)) 1)) < (max (gP (kG K)) 1) := pkN_lt (by omega)
      refine lv_aload_n hx hb dL_any_313 rfl (lv_at hl 3 rfl) ?_
      refine lv_iload_n hx hb dL_any_314 rfl (lv_at hl 4 rfl) ?_
      refine lv_iconst (v := 2) hx hb dL_any_315 (by decide) ?_
      refine lv_iadd hx hb dL_any_316 ?_
      refine topI (y := nI (i + 2)) (show nI i + nI 2 = nI (i + 2)  from nI_add _ _) ?_
      refine lv_iload hx hb dL_any_317 (lv_at hl 0 rfl) ?_
      refine callRo (va_runS (As := [.ref a, .int (nI (i + 2)), .int (nI (max (gS (kG K)) 1))]) (rest := [.int (nI (pkN xs L (i + 1) (max (gP (kG K)) 1))), .int 4, .ref (u 0)]) ⟨hx, hb, hml, hown, hts⟩ (c_L_pick l a L xs (i + 2) (max (gS (kG K)) 1) (by omega) (by omega) (by omega) (by omega)) (va_cwS 3 hts gL_any_L_pick rfl rfl rfl (by decide +kernel) ⟨Nat.le_of_ble_eq_true rfl, Nat.le_of_ble_eq_true rfl⟩) (scP_s hSC hS) rfl rfl hl.1 rfl (lv_room (Nat.le_of_ble_eq_true rfl)) dL_any_319 ⟨show _ ≤ 1 from by omega, show _ ≤ 6 from by omega⟩) ?_
      have hp319 : (pkN xs L (i + 2) (max (gS (kG K)) 1)) < (max (gS (kG K)) 1) := pkN_lt (by omega)
      refine lv_iconst (v := 1) hx hb dL_any_322 (by decide) ?_
      refine lv_aload_n hx hb dL_any_323 rfl (lv_at hl 3 rfl) ?_
      refine lv_iload_n hx hb dL_any_324 rfl (lv_at hl 4 rfl) ?_
      refine lv_iconst (v := 3) hx hb dL_any_325 (by decide) ?_
      refine lv_iadd hx hb dL_any_326 ?_
      refine topI (y := nI (i + 3)) (show nI i + nI 3 = nI (i + 3)  from nI_add _ _) ?_
      refine lv_bipush (v := 30) hx hb dL_any_327 (by decide) ?_
      refine callRo (va_runS (As := [.ref a, .int (nI (i + 3)), .int (nI 30)]) (rest := [.int 1, .int (nI (pkN xs L (i + 2) (max (gS (kG K)) 1))), .int (nI (pkN xs L (i + 1) (max (gP (kG K)) 1))), .int 4, .ref (u 0)]) ⟨hx, hb, hml, hown, hts⟩ (c_L_pick l a L xs (i + 3) 30 (by omega) (by omega) (by omega) (by omega)) (va_cwS 3 hts gL_any_L_pick rfl rfl rfl (by decide +kernel) ⟨Nat.le_of_ble_eq_true rfl, Nat.le_of_ble_eq_true rfl⟩) (scP_s hSC hS) rfl rfl hl.1 rfl (lv_room (Nat.le_of_ble_eq_true rfl)) dL_any_329 ⟨show _ ≤ 1 from by omega, show _ ≤ 6 from by omega⟩) ?_
      have hp329 : (pkN xs L (i + 3) 30) < 30 := pkN_lt (by omega)
      refine lv_iadd hx hb dL_any_332 ?_
      refine topI (y := nI (1 + (pkN xs L (i + 3) 30))) (show nI 1 + nI (pkN xs L (i + 3) 30) = nI (1 + (pkN xs L (i + 3) 30))  from nI_add _ _) ?_
      refine callE (vx_runSW (As := [.ref (u 0), .int (nI 4), .int (nI (pkN xs L (i + 1) (max (gP (kG K)) 1))), .int (nI (pkN xs L (i + 2) (max (gS (kG K)) 1))), .int (nI (1 + (pkN xs L (i + 3) 30)))]) (rest := []) ⟨hx, hb, hml, hown, hts⟩ (c_L_deed l D C ev u K T 4 (nI (pkN xs L (i + 1) (max (gP (kG K)) 1))) (nI (pkN xs L (i + 2) (max (gS (kG K)) 1))) (nI (1 + (pkN xs L (i + 3) 30))) hl9 hd (by decide) x _ hF) (vx_cwSW 5 hts gL_any_L_deed rfl rfl rfl (by decide +kernel) ⟨Nat.le_of_ble_eq_true rfl, Nat.le_of_ble_eq_true rfl⟩) (hloP_s hP hK hE hD hR hX hT9 hV9 hDV hN hC hS (all_F hD hS hA)) rfl rfl hl.1 rfl (lv_room (Nat.le_of_ble_eq_true rfl)) dL_any_333 ⟨show _ ≤ 1 from by omega, show _ ≤ 6 from by omega⟩) hS (all_F hD hS hA) (fun x9 H9 locs9 hF9 hP9 hD9 _ hS9 => ?_)
      have hD9 : va_D A (kW C ev u (plK K 4 (nI (pkN xs L (i + 1) (max (gP (kG K)) 1))) (nI (pkN xs L (i + 2) (max (gS (kG K)) 1))) (nI (1 + (pkN xs L (i + 3) 30)))) x9) := hD9.weaken (fun _ q _ h => all_F hD hS hA q.1 h)
      obtain ⟨hd9, -, hm9⟩ := deed_all hd (n := 4) (by decide) (nI (pkN xs L (i + 1) (max (gP (kG K)) 1))) (nI (pkN xs L (i + 2) (max (gS (kG K)) 1))) (nI (1 + (pkN xs L (i + 3) 30)))
      generalize plK K 4 (nI (pkN xs L (i + 1) (max (gP (kG K)) 1))) (nI (pkN xs L (i + 2) (max (gS (kG K)) 1))) (nI (1 + (pkN xs L (i + 3) 30))) = K9 at hP9 hD9 hd9 hm9
      generalize deedV ((plF K 4 (nI (pkN xs L (i + 1) (max (gP (kG K)) 1))) (nI (pkN xs L (i + 2) (max (gS (kG K)) 1))) (nI (1 + (pkN xs L (i + 3) 30)))).1, (plF K 4 (nI (pkN xs L (i + 1) (max (gP (kG K)) 1))) (nI (pkN xs L (i + 2) (max (gS (kG K)) 1))) (nI (1 + (pkN xs L (i + 3) 30)))).2.1) = r9
      exact e_retI ((K9, x9), r9) rfl hx hb hr ⟨hd9, hm9, hF9⟩ hP9 hD9 hS9 (by omega) (by omega) dL_any_336 hlocks
    · refine lv_tableOut (tgt := 303) hx hb dL_any_26 (by decide +kernel) (by decide) ?_
      refine lv_aload_n hx hb dL_any_303 rfl (lv_at hl 2 rfl) ?_
      refine lv_iconst (v := 4) hx hb dL_any_304 (by decide) ?_
      refine lv_aload_n hx hb dL_any_305 rfl (lv_at hl 3 rfl) ?_
      refine lv_iload_n hx hb dL_any_306 rfl (lv_at hl 4 rfl) ?_
      refine lv_iconst (v := 1) hx hb dL_any_307 (by decide) ?_
      refine lv_iadd hx hb dL_any_308 ?_
      refine topI (y := nI (i + 1)) (show nI i + nI 1 = nI (i + 1)  from nI_add _ _) ?_
      refine lv_iload_n hx hb dL_any_309 rfl (lv_at hl 1 rfl) ?_
      refine callRo (va_runS (As := [.ref a, .int (nI (i + 1)), .int (nI (max (gP (kG K)) 1))]) (rest := [.int 4, .ref (u 0)]) ⟨hx, hb, hml, hown, hts⟩ (c_L_pick l a L xs (i + 1) (max (gP (kG K)) 1) (by omega) (by omega) (by omega) (by omega)) (va_cwS 3 hts gL_any_L_pick rfl rfl rfl (by decide +kernel) ⟨Nat.le_of_ble_eq_true rfl, Nat.le_of_ble_eq_true rfl⟩) (scP_s hSC hS) rfl rfl hl.1 rfl (lv_room (Nat.le_of_ble_eq_true rfl)) dL_any_310 ⟨show _ ≤ 1 from by omega, show _ ≤ 6 from by omega⟩) ?_
      have hp310 : (pkN xs L (i + 1) (max (gP (kG K)) 1)) < (max (gP (kG K)) 1) := pkN_lt (by omega)
      refine lv_aload_n hx hb dL_any_313 rfl (lv_at hl 3 rfl) ?_
      refine lv_iload_n hx hb dL_any_314 rfl (lv_at hl 4 rfl) ?_
      refine lv_iconst (v := 2) hx hb dL_any_315 (by decide) ?_
      refine lv_iadd hx hb dL_any_316 ?_
      refine topI (y := nI (i + 2)) (show nI i + nI 2 = nI (i + 2)  from nI_add _ _) ?_
      refine lv_iload hx hb dL_any_317 (lv_at hl 0 rfl) ?_
      refine callRo (va_runS (As := [.ref a, .int (nI (i + 2)), .int (nI (max (gS (kG K)) 1))]) (rest := [.int (nI (pkN xs L (i + 1) (max (gP (kG K)) 1))), .int 4, .ref (u 0)]) ⟨hx, hb, hml, hown, hts⟩ (c_L_pick l a L xs (i + 2) (max (gS (kG K)) 1) (by omega) (by omega) (by omega) (by omega)) (va_cwS 3 hts gL_any_L_pick rfl rfl rfl (by decide +kernel) ⟨Nat.le_of_ble_eq_true rfl, Nat.le_of_ble_eq_true rfl⟩) (scP_s hSC hS) rfl rfl hl.1 rfl (lv_room (Nat.le_of_ble_eq_true rfl)) dL_any_319 ⟨show _ ≤ 1 from by omega, show _ ≤ 6 from by omega⟩) ?_
      have hp319 : (pkN xs L (i + 2) (max (gS (kG K)) 1)) < (max (gS (kG K)) 1) := pkN_lt (by omega)
      refine lv_iconst (v := 1) hx hb dL_any_322 (by decide) ?_
      refine lv_aload_n hx hb dL_any_323 rfl (lv_at hl 3 rfl) ?_
      refine lv_iload_n hx hb dL_any_324 rfl (lv_at hl 4 rfl) ?_
      refine lv_iconst (v := 3) hx hb dL_any_325 (by decide) ?_
      refine lv_iadd hx hb dL_any_326 ?_
      refine topI (y := nI (i + 3)) (show nI i + nI 3 = nI (i + 3)  from nI_add _ _) ?_
      refine lv_bipush (v := 30) hx hb dL_any_327 (by decide) ?_
      refine callRo (va_runS (As := [.ref a, .int (nI (i + 3)), .int (nI 30)]) (rest := [.int 1, .int (nI (pkN xs L (i + 2) (max (gS (kG K)) 1))), .int (nI (pkN xs L (i + 1) (max (gP (kG K)) 1))), .int 4, .ref (u 0)]) ⟨hx, hb, hml, hown, hts⟩ (c_L_pick l a L xs (i + 3) 30 (by omega) (by omega) (by omega) (by omega)) (va_cwS 3 hts gL_any_L_pick rfl rfl rfl (by decide +kernel) ⟨Nat.le_of_ble_eq_true rfl, Nat.le_of_ble_eq_true rfl⟩) (scP_s hSC hS) rfl rfl hl.1 rfl (lv_room (Nat.le_of_ble_eq_true rfl)) dL_any_329 ⟨show _ ≤ 1 from by omega, show _ ≤ 6 from by omega⟩) ?_
      have hp329 : (pkN xs L (i + 3) 30) < 30 := pkN_lt (by omega)
      refine lv_iadd hx hb dL_any_332 ?_
      refine topI (y := nI (1 + (pkN xs L (i + 3) 30))) (show nI 1 + nI (pkN xs L (i + 3) 30) = nI (1 + (pkN xs L (i + 3) 30))  from nI_add _ _) ?_
      refine callE (vx_runSW (As := [.ref (u 0), .int (nI 4), .int (nI (pkN xs L (i + 1) (max (gP (kG K)) 1))), .int (nI (pkN xs L (i + 2) (max (gS (kG K)) 1))), .int (nI (1 + (pkN xs L (i + 3) 30)))]) (rest := []) ⟨hx, hb, hml, hown, hts⟩ (c_L_deed l D C ev u K T 4 (nI (pkN xs L (i + 1) (max (gP (kG K)) 1))) (nI (pkN xs L (i + 2) (max (gS (kG K)) 1))) (nI (1 + (pkN xs L (i + 3) 30))) hl9 hd (by decide) x _ hF) (vx_cwSW 5 hts gL_any_L_deed rfl rfl rfl (by decide +kernel) ⟨Nat.le_of_ble_eq_true rfl, Nat.le_of_ble_eq_true rfl⟩) (hloP_s hP hK hE hD hR hX hT9 hV9 hDV hN hC hS (all_F hD hS hA)) rfl rfl hl.1 rfl (lv_room (Nat.le_of_ble_eq_true rfl)) dL_any_333 ⟨show _ ≤ 1 from by omega, show _ ≤ 6 from by omega⟩) hS (all_F hD hS hA) (fun x9 H9 locs9 hF9 hP9 hD9 _ hS9 => ?_)
      have hD9 : va_D A (kW C ev u (plK K 4 (nI (pkN xs L (i + 1) (max (gP (kG K)) 1))) (nI (pkN xs L (i + 2) (max (gS (kG K)) 1))) (nI (1 + (pkN xs L (i + 3) 30)))) x9) := hD9.weaken (fun _ q _ h => all_F hD hS hA q.1 h)
      obtain ⟨hd9, -, hm9⟩ := deed_all hd (n := 4) (by decide) (nI (pkN xs L (i + 1) (max (gP (kG K)) 1))) (nI (pkN xs L (i + 2) (max (gS (kG K)) 1))) (nI (1 + (pkN xs L (i + 3) 30)))
      generalize plK K 4 (nI (pkN xs L (i + 1) (max (gP (kG K)) 1))) (nI (pkN xs L (i + 2) (max (gS (kG K)) 1))) (nI (1 + (pkN xs L (i + 3) 30))) = K9 at hP9 hD9 hd9 hm9
      generalize deedV ((plF K 4 (nI (pkN xs L (i + 1) (max (gP (kG K)) 1))) (nI (pkN xs L (i + 2) (max (gS (kG K)) 1))) (nI (1 + (pkN xs L (i + 3) 30)))).1, (plF K 4 (nI (pkN xs L (i + 1) (max (gP (kG K)) 1))) (nI (pkN xs L (i + 2) (max (gS (kG K)) 1))) (nI (1 + (pkN xs L (i + 3) 30)))).2.1) = r9
      exact e_retI ((K9, x9), r9) rfl hx hb hr ⟨hd9, hm9, hF9⟩ hP9 hD9 hS9 (by omega) (by omega) dL_any_336 hlocks
    · refine lv_tableOut (tgt := 303) hx hb dL_any_26 (by decide +kernel) (by decide) ?_
      refine lv_aload_n hx hb dL_any_303 rfl (lv_at hl 2 rfl) ?_
      refine lv_iconst (v := 4) hx hb dL_any_304 (by decide) ?_
      refine lv_aload_n hx hb dL_any_305 rfl (lv_at hl 3 rfl) ?_
      refine lv_iload_n hx hb dL_any_306 rfl (lv_at hl 4 rfl) ?_
      refine lv_iconst (v := 1) hx hb dL_any_307 (by decide) ?_
      refine lv_iadd hx hb dL_any_308 ?_
      refine topI (y := nI (i + 1)) (show nI i + nI 1 = nI (i + 1)  from nI_add _ _) ?_
      refine lv_iload_n hx hb dL_any_309 rfl (lv_at hl 1 rfl) ?_
      refine callRo (va_runS (As := [.ref a, .int (nI (i + 1)), .int (nI (max (gP (kG K)) 1))]) (rest := [.int 4, .ref (u 0)]) ⟨hx, hb, hml, hown, hts⟩ (c_L_pick l a L xs (i + 1) (max (gP (kG K)) 1) (by omega) (by omega) (by omega) (by omega)) (va_cwS 3 hts gL_any_L_pick rfl rfl rfl (by decide +kernel) ⟨Nat.le_of_ble_eq_true rfl, Nat.le_of_ble_eq_true rfl⟩) (scP_s hSC hS) rfl rfl hl.1 rfl (lv_room (Nat.le_of_ble_eq_true rfl)) dL_any_310 ⟨show _ ≤ 1 from by omega, show _ ≤ 6 from by omega⟩) ?_
      have hp310 : (pkN xs L (i + 1) (max (gP (kG K)) 1)) < (max (gP (kG K)) 1) := pkN_lt (by omega)
      refine lv_aload_n hx hb dL_any_313 rfl (lv_at hl 3 rfl) ?_
      refine lv_iload_n hx hb dL_any_314 rfl (lv_at hl 4 rfl) ?_
      refine lv_iconst (v := 2) hx hb dL_any_315 (by decide) ?_
      refine lv_iadd hx hb dL_any_316 ?_
      refine topI (y := nI (i + 2)) (show nI i + nI 2 = nI (i + 2)  from nI_add _ _) ?_
      refine lv_iload hx hb dL_any_317 (lv_at hl 0 rfl) ?_
      refine callRo (va_runS (As := [.ref a, .int (nI (i + 2)), .int (nI (max (gS (kG K)) 1))]) (rest := [.int (nI (pkN xs L (i + 1) (max (gP (kG K)) 1))), .int 4, .ref (u 0)]) ⟨hx, hb, hml, hown, hts⟩ (c_L_pick l a L xs (i + 2) (max (gS (kG K)) 1) (by omega) (by omega) (by omega) (by omega)) (va_cwS 3 hts gL_any_L_pick rfl rfl rfl (by decide +kernel) ⟨Nat.le_of_ble_eq_true rfl, Nat.le_of_ble_eq_true rfl⟩) (scP_s hSC hS) rfl rfl hl.1 rfl (lv_room (Nat.le_of_ble_eq_true rfl)) dL_any_319 ⟨show _ ≤ 1 from by omega, show _ ≤ 6 from by omega⟩) ?_
      have hp319 : (pkN xs L (i + 2) (max (gS (kG K)) 1)) < (max (gS (kG K)) 1) := pkN_lt (by omega)
      refine lv_iconst (v := 1) hx hb dL_any_322 (by decide) ?_
      refine lv_aload_n hx hb dL_any_323 rfl (lv_at hl 3 rfl) ?_
      refine lv_iload_n hx hb dL_any_324 rfl (lv_at hl 4 rfl) ?_
      refine lv_iconst (v := 3) hx hb dL_any_325 (by decide) ?_
      refine lv_iadd hx hb dL_any_326 ?_
      refine topI (y := nI (i + 3)) (show nI i + nI 3 = nI (i + 3)  from nI_add _ _) ?_
      refine lv_bipush (v := 30) hx hb dL_any_327 (by decide) ?_
      refine callRo (va_runS (As := [.ref a, .int (nI (i + 3)), .int (nI 30)]) (rest := [.int 1, .int (nI (pkN xs L (i + 2) (max (gS (kG K)) 1))), .int (nI (pkN xs L (i + 1) (max (gP (kG K)) 1))), .int 4, .ref (u 0)]) ⟨hx, hb, hml, hown, hts⟩ (c_L_pick l a L xs (i + 3) 30 (by omega) (by omega) (by omega) (by omega)) (va_cwS 3 hts gL_any_L_pick rfl rfl rfl (by decide +kernel) ⟨Nat.le_of_ble_eq_true rfl, Nat.le_of_ble_eq_true rfl⟩) (scP_s hSC hS) rfl rfl hl.1 rfl (lv_room (Nat.le_of_ble_eq_true rfl)) dL_any_329 ⟨show _ ≤ 1 from by omega, show _ ≤ 6 from by omega⟩) ?_
      have hp329 : (pkN xs L (i + 3) 30) < 30 := pkN_lt (by omega)
      refine lv_iadd hx hb dL_any_332 ?_
      refine topI (y := nI (1 + (pkN xs L (i + 3) 30))) (show nI 1 + nI (pkN xs L (i + 3) 30) = nI (1 + (pkN xs L (i + 3) 30))  from nI_add _ _) ?_
      refine callE (vx_runSW (As := [.ref (u 0), .int (nI 4), .int (nI (pkN xs L (i + 1) (max (gP (kG K)) 1))), .int (nI (pkN xs L (i + 2) (max (gS (kG K)) 1))), .int (nI (1 + (pkN xs L (i + 3) 30)))]) (rest := []) ⟨hx, hb, hml, hown, hts⟩ (c_L_deed l D C ev u K T 4 (nI (pkN xs L (i + 1) (max (gP (kG K)) 1))) (nI (pkN xs L (i + 2) (max (gS (kG K)) 1))) (nI (1 + (pkN xs L (i + 3) 30))) hl9 hd (by decide) x _ hF) (vx_cwSW 5 hts gL_any_L_deed rfl rfl rfl (by decide +kernel) ⟨Nat.le_of_ble_eq_true rfl, Nat.le_of_ble_eq_true rfl⟩) (hloP_s hP hK hE hD hR hX hT9 hV9 hDV hN hC hS (all_F hD hS hA)) rfl rfl hl.1 rfl (lv_room (Nat.le_of_ble_eq_true rfl)) dL_any_333 ⟨show _ ≤ 1 from by omega, show _ ≤ 6 from by omega⟩) hS (all_F hD hS hA) (fun x9 H9 locs9 hF9 hP9 hD9 _ hS9 => ?_)
      have hD9 : va_D A (kW C ev u (plK K 4 (nI (pkN xs L (i + 1) (max (gP (kG K)) 1))) (nI (pkN xs L (i + 2) (max (gS (kG K)) 1))) (nI (1 + (pkN xs L (i + 3) 30)))) x9) := hD9.weaken (fun _ q _ h => all_F hD hS hA q.1 h)
      obtain ⟨hd9, -, hm9⟩ := deed_all hd (n := 4) (by decide) (nI (pkN xs L (i + 1) (max (gP (kG K)) 1))) (nI (pkN xs L (i + 2) (max (gS (kG K)) 1))) (nI (1 + (pkN xs L (i + 3) 30)))
      generalize plK K 4 (nI (pkN xs L (i + 1) (max (gP (kG K)) 1))) (nI (pkN xs L (i + 2) (max (gS (kG K)) 1))) (nI (1 + (pkN xs L (i + 3) 30))) = K9 at hP9 hD9 hd9 hm9
      generalize deedV ((plF K 4 (nI (pkN xs L (i + 1) (max (gP (kG K)) 1))) (nI (pkN xs L (i + 2) (max (gS (kG K)) 1))) (nI (1 + (pkN xs L (i + 3) 30)))).1, (plF K 4 (nI (pkN xs L (i + 1) (max (gP (kG K)) 1))) (nI (pkN xs L (i + 2) (max (gS (kG K)) 1))) (nI (1 + (pkN xs L (i + 3) 30)))).2.1) = r9
      exact e_retI ((K9, x9), r9) rfl hx hb hr ⟨hd9, hm9, hF9⟩ hP9 hD9 hS9 (by omega) (by omega) dL_any_336 hlocks
    · refine lv_tableOut (tgt := 303) hx hb dL_any_26 (by decide +kernel) (by decide) ?_
      refine lv_aload_n hx hb dL_any_303 rfl (lv_at hl 2 rfl) ?_
      refine lv_iconst (v := 4) hx hb dL_any_304 (by decide) ?_
      refine lv_aload_n hx hb dL_any_305 rfl (lv_at hl 3 rfl) ?_
      refine lv_iload_n hx hb dL_any_306 rfl (lv_at hl 4 rfl) ?_
      refine lv_iconst (v := 1) hx hb dL_any_307 (by decide) ?_
      refine lv_iadd hx hb dL_any_308 ?_
      refine topI (y := nI (i + 1)) (show nI i + nI 1 = nI (i + 1)  from nI_add _ _) ?_
      refine lv_iload_n hx hb dL_any_309 rfl (lv_at hl 1 rfl) ?_
      refine callRo (va_runS (As := [.ref a, .int (nI (i + 1)), .int (nI (max (gP (kG K)) 1))]) (rest := [.int 4, .ref (u 0)]) ⟨hx, hb, hml, hown, hts⟩ (c_L_pick l a L xs (i + 1) (max (gP (kG K)) 1) (by omega) (by omega) (by omega) (by omega)) (va_cwS 3 hts gL_any_L_pick rfl rfl rfl (by decide +kernel) ⟨Nat.le_of_ble_eq_true rfl, Nat.le_of_ble_eq_true rfl⟩) (scP_s hSC hS) rfl rfl hl.1 rfl (lv_room (Nat.le_of_ble_eq_true rfl)) dL_any_310 ⟨show _ ≤ 1 from by omega, show _ ≤ 6 from by omega⟩) ?_
      have hp310 : (pkN xs L (i + 1) (max (gP (kG K)) 1)) < (max (gP (kG K)) 1) := pkN_lt (by omega)
      refine lv_aload_n hx hb dL_any_313 rfl (lv_at hl 3 rfl) ?_
      refine lv_iload_n hx hb dL_any_314 rfl (lv_at hl 4 rfl) ?_
      refine lv_iconst (v := 2) hx hb dL_any_315 (by decide) ?_
      refine lv_iadd hx hb dL_any_316 ?_
      refine topI (y := nI (i + 2)) (show nI i + nI 2 = nI (i + 2)  from nI_add _ _) ?_
      refine lv_iload hx hb dL_any_317 (lv_at hl 0 rfl) ?_
      refine callRo (va_runS (As := [.ref a, .int (nI (i + 2)), .int (nI (max (gS (kG K)) 1))]) (rest := [.int (nI (pkN xs L (i + 1) (max (gP (kG K)) 1))), .int 4, .ref (u 0)]) ⟨hx, hb, hml, hown, hts⟩ (c_L_pick l a L xs (i + 2) (max (gS (kG K)) 1) (by omega) (by omega) (by omega) (by omega)) (va_cwS 3 hts gL_any_L_pick rfl rfl rfl (by decide +kernel) ⟨Nat.le_of_ble_eq_true rfl, Nat.le_of_ble_eq_true rfl⟩) (scP_s hSC hS) rfl rfl hl.1 rfl (lv_room (Nat.le_of_ble_eq_true rfl)) dL_any_319 ⟨show _ ≤ 1 from by omega, show _ ≤ 6 from by omega⟩) ?_
      have hp319 : (pkN xs L (i + 2) (max (gS (kG K)) 1)) < (max (gS (kG K)) 1) := pkN_lt (by omega)
      refine lv_iconst (v := 1) hx hb dL_any_322 (by decide) ?_
      refine lv_aload_n hx hb dL_any_323 rfl (lv_at hl 3 rfl) ?_
      refine lv_iload_n hx hb dL_any_324 rfl (lv_at hl 4 rfl) ?_
      refine lv_iconst (v := 3) hx hb dL_any_325 (by decide) ?_
      refine lv_iadd hx hb dL_any_326 ?_
      refine topI (y := nI (i + 3)) (show nI i + nI 3 = nI (i + 3)  from nI_add _ _) ?_
      refine lv_bipush (v := 30) hx hb dL_any_327 (by decide) ?_
      refine callRo (va_runS (As := [.ref a, .int (nI (i + 3)), .int (nI 30)]) (rest := [.int 1, .int (nI (pkN xs L (i + 2) (max (gS (kG K)) 1))), .int (nI (pkN xs L (i + 1) (max (gP (kG K)) 1))), .int 4, .ref (u 0)]) ⟨hx, hb, hml, hown, hts⟩ (c_L_pick l a L xs (i + 3) 30 (by omega) (by omega) (by omega) (by omega)) (va_cwS 3 hts gL_any_L_pick rfl rfl rfl (by decide +kernel) ⟨Nat.le_of_ble_eq_true rfl, Nat.le_of_ble_eq_true rfl⟩) (scP_s hSC hS) rfl rfl hl.1 rfl (lv_room (Nat.le_of_ble_eq_true rfl)) dL_any_329 ⟨show _ ≤ 1 from by omega, show _ ≤ 6 from by omega⟩) ?_
      have hp329 : (pkN xs L (i + 3) 30) < 30 := pkN_lt (by omega)
      refine lv_iadd hx hb dL_any_332 ?_
      refine topI (y := nI (1 + (pkN xs L (i + 3) 30))) (show nI 1 + nI (pkN xs L (i + 3) 30) = nI (1 + (pkN xs L (i + 3) 30))  from nI_add _ _) ?_
      refine callE (vx_runSW (As := [.ref (u 0), .int (nI 4), .int (nI (pkN xs L (i + 1) (max (gP (kG K)) 1))), .int (nI (pkN xs L (i + 2) (max (gS (kG K)) 1))), .int (nI (1 + (pkN xs L (i + 3) 30)))]) (rest := []) ⟨hx, hb, hml, hown, hts⟩ (c_L_deed l D C ev u K T 4 (nI (pkN xs L (i + 1) (max (gP (kG K)) 1))) (nI (pkN xs L (i + 2) (max (gS (kG K)) 1))) (nI (1 + (pkN xs L (i + 3) 30))) hl9 hd (by decide) x _ hF) (vx_cwSW 5 hts gL_any_L_deed rfl rfl rfl (by decide +kernel) ⟨Nat.le_of_ble_eq_true rfl, Nat.le_of_ble_eq_true rfl⟩) (hloP_s hP hK hE hD hR hX hT9 hV9 hDV hN hC hS (all_F hD hS hA)) rfl rfl hl.1 rfl (lv_room (Nat.le_of_ble_eq_true rfl)) dL_any_333 ⟨show _ ≤ 1 from by omega, show _ ≤ 6 from by omega⟩) hS (all_F hD hS hA) (fun x9 H9 locs9 hF9 hP9 hD9 _ hS9 => ?_)
      have hD9 : va_D A (kW C ev u (plK K 4 (nI (pkN xs L (i + 1) (max (gP (kG K)) 1))) (nI (pkN xs L (i + 2) (max (gS (kG K)) 1))) (nI (1 + (pkN xs L (i + 3) 30)))) x9) := hD9.weaken (fun _ q _ h => all_F hD hS hA q.1 h)
      obtain ⟨hd9, -, hm9⟩ := deed_all hd (n := 4) (by decide) (nI (pkN xs L (i + 1) (max (gP (kG K)) 1))) (nI (pkN xs L (i + 2) (max (gS (kG K)) 1))) (nI (1 + (pkN xs L (i + 3) 30)))
      generalize plK K 4 (nI (pkN xs L (i + 1) (max (gP (kG K)) 1))) (nI (pkN xs L (i + 2) (max (gS (kG K)) 1))) (nI (1 + (pkN xs L (i + 3) 30))) = K9 at hP9 hD9 hd9 hm9
      generalize deedV ((plF K 4 (nI (pkN xs L (i + 1) (max (gP (kG K)) 1))) (nI (pkN xs L (i + 2) (max (gS (kG K)) 1))) (nI (1 + (pkN xs L (i + 3) 30)))).1, (plF K 4 (nI (pkN xs L (i + 1) (max (gP (kG K)) 1))) (nI (pkN xs L (i + 2) (max (gS (kG K)) 1))) (nI (1 + (pkN xs L (i + 3) 30)))).2.1) = r9
      exact e_retI ((K9, x9), r9) rfl hx hb hr ⟨hd9, hm9, hF9⟩ hP9 hD9 hS9 (by omega) (by omega) dL_any_336 hlocks
    · refine lv_tableOut (tgt := 303) hx hb dL_any_26 (by decide +kernel) (by decide) ?_
      refine lv_aload_n hx hb dL_any_303 rfl (lv_at hl 2 rfl) ?_
      refine lv_iconst (v := 4) hx hb dL_any_304 (by decide) ?_
      refine lv_aload_n hx hb dL_any_305 rfl (lv_at hl 3 rfl) ?_
      refine lv_iload_n hx hb dL_any_306 rfl (lv_at hl 4 rfl) ?_
      refine lv_iconst (v := 1) hx hb dL_any_307 (by decide) ?_
      refine lv_iadd hx hb dL_any_308 ?_
      refine topI (y := nI (i + 1)) (show nI i + nI 1 = nI (i + 1)  from nI_add _ _) ?_
      refine lv_iload_n hx hb dL_any_309 rfl (lv_at hl 1 rfl) ?_
      refine callRo (va_runS (As := [.ref a, .int (nI (i + 1)), .int (nI (max (gP (kG K)) 1))]) (rest := [.int 4, .ref (u 0)]) ⟨hx, hb, hml, hown, hts⟩ (c_L_pick l a L xs (i + 1) (max (gP (kG K)) 1) (by omega) (by omega) (by omega) (by omega)) (va_cwS 3 hts gL_any_L_pick rfl rfl rfl (by decide +kernel) ⟨Nat.le_of_ble_eq_true rfl, Nat.le_of_ble_eq_true rfl⟩) (scP_s hSC hS) rfl rfl hl.1 rfl (lv_room (Nat.le_of_ble_eq_true rfl)) dL_any_310 ⟨show _ ≤ 1 from by omega, show _ ≤ 6 from by omega⟩) ?_
      have hp310 : (pkN xs L (i + 1) (max (gP (kG K)) 1)) < (max (gP (kG K)) 1) := pkN_lt (by omega)
      refine lv_aload_n hx hb dL_any_313 rfl (lv_at hl 3 rfl) ?_
      refine lv_iload_n hx hb dL_any_314 rfl (lv_at hl 4 rfl) ?_
      refine lv_iconst (v := 2) hx hb dL_any_315 (by decide) ?_
      refine lv_iadd hx hb dL_any_316 ?_
      refine topI (y := nI (i + 2)) (show nI i + nI 2 = nI (i + 2)  from nI_add _ _) ?_
      refine lv_iload hx hb dL_any_317 (lv_at hl 0 rfl) ?_
      refine callRo (va_runS (As := [.ref a, .int (nI (i + 2)), .int (nI (max (gS (kG K)) 1))]) (rest := [.int (nI (pkN xs L (i + 1) (max (gP (kG K)) 1))), .int 4, .ref (u 0)]) ⟨hx, hb, hml, hown, hts⟩ (c_L_pick l a L xs (i + 2) (max (gS (kG K)) 1) (by omega) (by omega) (by omega) (by omega)) (va_cwS 3 hts gL_any_L_pick rfl rfl rfl (by decide +kernel) ⟨Nat.le_of_ble_eq_true rfl, Nat.le_of_ble_eq_true rfl⟩) (scP_s hSC hS) rfl rfl hl.1 rfl (lv_room (Nat.le_of_ble_eq_true rfl)) dL_any_319 ⟨show _ ≤ 1 from by omega, show _ ≤ 6 from by omega⟩) ?_
      have hp319 : (pkN xs L (i + 2) (max (gS (kG K)) 1)) < (max (gS (kG K)) 1) := pkN_lt (by omega)
      refine lv_iconst (v := 1) hx hb dL_any_322 (by decide) ?_
      refine lv_aload_n hx hb dL_any_323 rfl (lv_at hl 3 rfl) ?_
      refine lv_iload_n hx hb dL_any_324 rfl (lv_at hl 4 rfl) ?_
      refine lv_iconst (v := 3) hx hb dL_any_325 (by decide) ?_
      refine lv_iadd hx hb dL_any_326 ?_
      refine topI (y := nI (i + 3)) (show nI i + nI 3 = nI (i + 3)  from nI_add _ _) ?_
      refine lv_bipush (v := 30) hx hb dL_any_327 (by decide) ?_
      refine callRo (va_runS (As := [.ref a, .int (nI (i + 3)), .int (nI 30)]) (rest := [.int 1, .int (nI (pkN xs L (i + 2) (max (gS (kG K)) 1))), .int (nI (pkN xs L (i + 1) (max (gP (kG K)) 1))), .int 4, .ref (u 0)]) ⟨hx, hb, hml, hown, hts⟩ (c_L_pick l a L xs (i + 3) 30 (by omega) (by omega) (by omega) (by omega)) (va_cwS 3 hts gL_any_L_pick rfl rfl rfl (by decide +kernel) ⟨Nat.le_of_ble_eq_true rfl, Nat.le_of_ble_eq_true rfl⟩) (scP_s hSC hS) rfl rfl hl.1 rfl (lv_room (Nat.le_of_ble_eq_true rfl)) dL_any_329 ⟨show _ ≤ 1 from by omega, show _ ≤ 6 from by omega⟩) ?_
      have hp329 : (pkN xs L (i + 3) 30) < 30 := pkN_lt (by omega)
      refine lv_iadd hx hb dL_any_332 ?_
      refine topI (y := nI (1 + (pkN xs L (i + 3) 30))) (show nI 1 + nI (pkN xs L (i + 3) 30) = nI (1 + (pkN xs L (i + 3) 30))  from nI_add _ _) ?_
      refine callE (vx_runSW (As := [.ref (u 0), .int (nI 4), .int (nI (pkN xs L (i + 1) (max (gP (kG K)) 1))), .int (nI (pkN xs L (i + 2) (max (gS (kG K)) 1))), .int (nI (1 + (pkN xs L (i + 3) 30)))]) (rest := []) ⟨hx, hb, hml, hown, hts⟩ (c_L_deed l D C ev u K T 4 (nI (pkN xs L (i + 1) (max (gP (kG K)) 1))) (nI (pkN xs L (i + 2) (max (gS (kG K)) 1))) (nI (1 + (pkN xs L (i + 3) 30))) hl9 hd (by decide) x _ hF) (vx_cwSW 5 hts gL_any_L_deed rfl rfl rfl (by decide +kernel) ⟨Nat.le_of_ble_eq_true rfl, Nat.le_of_ble_eq_true rfl⟩) (hloP_s hP hK hE hD hR hX hT9 hV9 hDV hN hC hS (all_F hD hS hA)) rfl rfl hl.1 rfl (lv_room (Nat.le_of_ble_eq_true rfl)) dL_any_333 ⟨show _ ≤ 1 from by omega, show _ ≤ 6 from by omega⟩) hS (all_F hD hS hA) (fun x9 H9 locs9 hF9 hP9 hD9 _ hS9 => ?_)
      have hD9 : va_D A (kW C ev u (plK K 4 (nI (pkN xs L (i + 1) (max (gP (kG K)) 1))) (nI (pkN xs L (i + 2) (max (gS (kG K)) 1))) (nI (1 + (pkN xs L (i + 3) 30)))) x9) := hD9.weaken (fun _ q _ h => all_F hD hS hA q.1 h)
      obtain ⟨hd9, -, hm9⟩ := deed_all hd (n := 4) (by decide) (nI (pkN xs L (i + 1) (max (gP (kG K)) 1))) (nI (pkN xs L (i + 2) (max (gS (kG K)) 1))) (nI (1 + (pkN xs L (i + 3) 30)))
      generalize plK K 4 (nI (pkN xs L (i + 1) (max (gP (kG K)) 1))) (nI (pkN xs L (i + 2) (max (gS (kG K)) 1))) (nI (1 + (pkN xs L (i + 3) 30))) = K9 at hP9 hD9 hd9 hm9
      generalize deedV ((plF K 4 (nI (pkN xs L (i + 1) (max (gP (kG K)) 1))) (nI (pkN xs L (i + 2) (max (gS (kG K)) 1))) (nI (1 + (pkN xs L (i + 3) 30)))).1, (plF K 4 (nI (pkN xs L (i + 1) (max (gP (kG K)) 1))) (nI (pkN xs L (i + 2) (max (gS (kG K)) 1))) (nI (1 + (pkN xs L (i + 3) 30)))).2.1) = r9
      exact e_retI ((K9, x9), r9) rfl hx hb hr ⟨hd9, hm9, hF9⟩ hP9 hD9 hS9 (by omega) (by omega) dL_any_336 hlocks
    · refine lv_tableOut (tgt := 303) hx hb dL_any_26 (by decide +kernel) (by decide) ?_
      refine lv_aload_n hx hb dL_any_303 rfl (lv_at hl 2 rfl) ?_
      refine lv_iconst (v := 4) hx hb dL_any_304 (by decide) ?_
      refine lv_aload_n hx hb dL_any_305 rfl (lv_at hl 3 rfl) ?_
      refine lv_iload_n hx hb dL_any_306 rfl (lv_at hl 4 rfl) ?_
      refine lv_iconst (v := 1) hx hb dL_any_307 (by decide) ?_
      refine lv_iadd hx hb dL_any_308 ?_
      refine topI (y := nI (i + 1)) (show nI i + nI 1 = nI (i + 1)  from nI_add _ _) ?_
      refine lv_iload_n hx hb dL_any_309 rfl (lv_at hl 1 rfl) ?_
      refine callRo (va_runS (As := [.ref a, .int (nI (i + 1)), .int (nI (max (gP (kG K)) 1))]) (rest := [.int 4, .ref (u 0)]) ⟨hx, hb, hml, hown, hts⟩ (c_L_pick l a L xs (i + 1) (max (gP (kG K)) 1) (by omega) (by omega) (by omega) (by omega)) (va_cwS 3 hts gL_any_L_pick rfl rfl rfl (by decide +kernel) ⟨Nat.le_of_ble_eq_true rfl, Nat.le_of_ble_eq_true rfl⟩) (scP_s hSC hS) rfl rfl hl.1 rfl (lv_room (Nat.le_of_ble_eq_true rfl)) dL_any_310 ⟨show _ ≤ 1 from by omega, show _ ≤ 6 from by omega⟩) ?_
      have hp310 : (pkN xs L (i + 1) (max (gP (kG K)) 1)) < (max (gP (kG K)) 1) := pkN_lt (by omega)
      refine lv_aload_n hx hb dL_any_313 rfl (lv_at hl 3 rfl) ?_
      refine lv_iload_n hx hb dL_any_314 rfl (lv_at hl 4 rfl) ?_
      refine lv_iconst (v := 2) hx hb dL_any_315 (by decide) ?_
      refine lv_iadd hx hb dL_any_316 ?_
      refine topI (y := nI (i + 2)) (show nI i + nI 2 = nI (i + 2)  from nI_add _ _) ?_
      refine lv_iload hx hb dL_any_317 (lv_at hl 0 rfl) ?_
      refine callRo (va_runS (As := [.ref a, .int (nI (i + 2)), .int (nI (max (gS (kG K)) 1))]) (rest := [.int (nI (pkN xs L (i + 1) (max (gP (kG K)) 1))), .int 4, .ref (u 0)]) ⟨hx, hb, hml, hown, hts⟩ (c_L_pick l a L xs (i + 2) (max (gS (kG K)) 1) (by omega) (by omega) (by omega) (by omega)) (va_cwS 3 hts gL_any_L_pick rfl rfl rfl (by decide +kernel) ⟨Nat.le_of_ble_eq_true rfl, Nat.le_of_ble_eq_true rfl⟩) (scP_s hSC hS) rfl rfl hl.1 rfl (lv_room (Nat.le_of_ble_eq_true rfl)) dL_any_319 ⟨show _ ≤ 1 from by omega, show _ ≤ 6 from by omega⟩) ?_
      have hp319 : (pkN xs L (i + 2) (max (gS (kG K)) 1)) < (max (gS (kG K)) 1) := pkN_lt (by omega)
      refine lv_iconst (v := 1) hx hb dL_any_322 (by decide) ?_
      refine lv_aload_n hx hb dL_any_323 rfl (lv_at hl 3 rfl) ?_
      refine lv_iload_n hx hb dL_any_324 rfl (lv_at hl 4 rfl) ?_
      refine lv_iconst (v := 3) hx hb dL_any_325 (by decide) ?_
      refine lv_iadd hx hb dL_any_326 ?_
      refine topI (y := nI (i + 3)) (show nI i + nI 3 = nI (i + 3)  from nI_add _ _) ?_
      refine lv_bipush (v := 30) hx hb dL_any_327 (by decide) ?_
      refine callRo (va_runS (As := [.ref a, .int (nI (i + 3)), .int (nI 30)]) (rest := [.int 1, .int (nI (pkN xs L (i + 2) (max (gS (kG K)) 1))), .int (nI (pkN xs L (i + 1) (max (gP (kG K)) 1))), .int 4, .ref (u 0)]) ⟨hx, hb, hml, hown, hts⟩ (c_L_pick l a L xs (i + 3) 30 (by omega) (by omega) (by omega) (by omega)) (va_cwS 3 hts gL_any_L_pick rfl rfl rfl (by decide +kernel) ⟨Nat.le_of_ble_eq_true rfl, Nat.le_of_ble_eq_true rfl⟩) (scP_s hSC hS) rfl rfl hl.1 rfl (lv_room (Nat.le_of_ble_eq_true rfl)) dL_any_329 ⟨show _ ≤ 1 from by omega, show _ ≤ 6 from by omega⟩) ?_
      have hp329 : (pkN xs L (i + 3) 30) < 30 := pkN_lt (by omega)
      refine lv_iadd hx hb dL_any_332 ?_
      refine topI (y := nI (1 + (pkN xs L (i + 3) 30))) (show nI 1 + nI (pkN xs L (i + 3) 30) = nI (1 + (pkN xs L (i + 3) 30))  from nI_add _ _) ?_
      refine callE (vx_runSW (As := [.ref (u 0), .int (nI 4), .int (nI (pkN xs L (i + 1) (max (gP (kG K)) 1))), .int (nI (pkN xs L (i + 2) (max (gS (kG K)) 1))), .int (nI (1 + (pkN xs L (i + 3) 30)))]) (rest := []) ⟨hx, hb, hml, hown, hts⟩ (c_L_deed l D C ev u K T 4 (nI (pkN xs L (i + 1) (max (gP (kG K)) 1))) (nI (pkN xs L (i + 2) (max (gS (kG K)) 1))) (nI (1 + (pkN xs L (i + 3) 30))) hl9 hd (by decide) x _ hF) (vx_cwSW 5 hts gL_any_L_deed rfl rfl rfl (by decide +kernel) ⟨Nat.le_of_ble_eq_true rfl, Nat.le_of_ble_eq_true rfl⟩) (hloP_s hP hK hE hD hR hX hT9 hV9 hDV hN hC hS (all_F hD hS hA)) rfl rfl hl.1 rfl (lv_room (Nat.le_of_ble_eq_true rfl)) dL_any_333 ⟨show _ ≤ 1 from by omega, show _ ≤ 6 from by omega⟩) hS (all_F hD hS hA) (fun x9 H9 locs9 hF9 hP9 hD9 _ hS9 => ?_)
      have hD9 : va_D A (kW C ev u (plK K 4 (nI (pkN xs L (i + 1) (max (gP (kG K)) 1))) (nI (pkN xs L (i + 2) (max (gS (kG K)) 1))) (nI (1 + (pkN xs L (i + 3) 30)))) x9) := hD9.weaken (fun _ q _ h => all_F hD hS hA q.1 h)
      obtain ⟨hd9, -, hm9⟩ := deed_all hd (n := 4) (by decide) (nI (pkN xs L (i + 1) (max (gP (kG K)) 1))) (nI (pkN xs L (i + 2) (max (gS (kG K)) 1))) (nI (1 + (pkN xs L (i + 3) 30)))
      generalize plK K 4 (nI (pkN xs L (i + 1) (max (gP (kG K)) 1))) (nI (pkN xs L (i + 2) (max (gS (kG K)) 1))) (nI (1 + (pkN xs L (i + 3) 30))) = K9 at hP9 hD9 hd9 hm9
      generalize deedV ((plF K 4 (nI (pkN xs L (i + 1) (max (gP (kG K)) 1))) (nI (pkN xs L (i + 2) (max (gS (kG K)) 1))) (nI (1 + (pkN xs L (i + 3) 30)))).1, (plF K 4 (nI (pkN xs L (i + 1) (max (gP (kG K)) 1))) (nI (pkN xs L (i + 2) (max (gS (kG K)) 1))) (nI (1 + (pkN xs L (i + 3) 30)))).2.1) = r9
      exact e_retI ((K9, x9), r9) rfl hx hb hr ⟨hd9, hm9, hF9⟩ hP9 hD9 hS9 (by omega) (by omega) dL_any_336 hlocks
    · refine lv_tableOut (tgt := 303) hx hb dL_any_26 (by decide +kernel) (by decide) ?_
      refine lv_aload_n hx hb dL_any_303 rfl (lv_at hl 2 rfl) ?_
      refine lv_iconst (v := 4) hx hb dL_any_304 (by decide) ?_
      refine lv_aload_n hx hb dL_any_305 rfl (lv_at hl 3 rfl) ?_
      refine lv_iload_n hx hb dL_any_306 rfl (lv_at hl 4 rfl) ?_
      refine lv_iconst (v := 1) hx hb dL_any_307 (by decide) ?_
      refine lv_iadd hx hb dL_any_308 ?_
      refine topI (y := nI (i + 1)) (show nI i + nI 1 = nI (i + 1)  from nI_add _ _) ?_
      refine lv_iload_n hx hb dL_any_309 rfl (lv_at hl 1 rfl) ?_
      refine callRo (va_runS (As := [.ref a, .int (nI (i + 1)), .int (nI (max (gP (kG K)) 1))]) (rest := [.int 4, .ref (u 0)]) ⟨hx, hb, hml, hown, hts⟩ (c_L_pick l a L xs (i + 1) (max (gP (kG K)) 1) (by omega) (by omega) (by omega) (by omega)) (va_cwS 3 hts gL_any_L_pick rfl rfl rfl (by decide +kernel) ⟨Nat.le_of_ble_eq_true rfl, Nat.le_of_ble_eq_true rfl⟩) (scP_s hSC hS) rfl rfl hl.1 rfl (lv_room (Nat.le_of_ble_eq_true rfl)) dL_any_310 ⟨show _ ≤ 1 from by omega, show _ ≤ 6 from by omega⟩) ?_
      have hp310 : (pkN xs L (i + 1) (max (gP (kG K)) 1)) < (max (gP (kG K)) 1) := pkN_lt (by omega)
      refine lv_aload_n hx hb dL_any_313 rfl (lv_at hl 3 rfl) ?_
      refine lv_iload_n hx hb dL_any_314 rfl (lv_at hl 4 rfl) ?_
      refine lv_iconst (v := 2) hx hb dL_any_315 (by decide) ?_
      refine lv_iadd hx hb dL_any_316 ?_
      refine topI (y := nI (i + 2)) (show nI i + nI 2 = nI (i + 2)  from nI_add _ _) ?_
      refine lv_iload hx hb dL_any_317 (lv_at hl 0 rfl) ?_
      refine callRo (va_runS (As := [.ref a, .int (nI (i + 2)), .int (nI (max (gS (kG K)) 1))]) (rest := [.int (nI (pkN xs L (i + 1) (max (gP (kG K)) 1))), .int 4, .ref (u 0)]) ⟨hx, hb, hml, hown, hts⟩ (c_L_pick l a L xs (i + 2) (max (gS (kG K)) 1) (by omega) (by omega) (by omega) (by omega)) (va_cwS 3 hts gL_any_L_pick rfl rfl rfl (by decide +kernel) ⟨Nat.le_of_ble_eq_true rfl, Nat.le_of_ble_eq_true rfl⟩) (scP_s hSC hS) rfl rfl hl.1 rfl (lv_room (Nat.le_of_ble_eq_true rfl)) dL_any_319 ⟨show _ ≤ 1 from by omega, show _ ≤ 6 from by omega⟩) ?_
      have hp319 : (pkN xs L (i + 2) (max (gS (kG K)) 1)) < (max (gS (kG K)) 1) := pkN_lt (by omega)
      refine lv_iconst (v := 1) hx hb dL_any_322 (by decide) ?_
      refine lv_aload_n hx hb dL_any_323 rfl (lv_at hl 3 rfl) ?_
      refine lv_iload_n hx hb dL_any_324 rfl (lv_at hl 4 rfl) ?_
      refine lv_iconst (v := 3) hx hb dL_any_325 (by decide) ?_
      refine lv_iadd hx hb dL_any_326 ?_
      refine topI (y := nI (i + 3)) (show nI i + nI 3 = nI (i + 3)  from nI_add _ _) ?_
      refine lv_bipush (v := 30) hx hb dL_any_327 (by decide) ?_
      refine callRo (va_runS (As := [.ref a, .int (nI (i + 3)), .int (nI 30)]) (rest := [.int 1, .int (nI (pkN xs L (i + 2) (max (gS (kG K)) 1))), .int (nI (pkN xs L (i + 1) (max (gP (kG K)) 1))), .int 4, .ref (u 0)]) ⟨hx, hb, hml, hown, hts⟩ (c_L_pick l a L xs (i + 3) 30 (by omega) (by omega) (by omega) (by omega)) (va_cwS 3 hts gL_any_L_pick rfl rfl rfl (by decide +kernel) ⟨Nat.le_of_ble_eq_true rfl, Nat.le_of_ble_eq_true rfl⟩) (scP_s hSC hS) rfl rfl hl.1 rfl (lv_room (Nat.le_of_ble_eq_true rfl)) dL_any_329 ⟨show _ ≤ 1 from by omega, show _ ≤ 6 from by omega⟩) ?_
      have hp329 : (pkN xs L (i + 3) 30) < 30 := pkN_lt (by omega)
      refine lv_iadd hx hb dL_any_332 ?_
      refine topI (y := nI (1 + (pkN xs L (i + 3) 30))) (show nI 1 + nI (pkN xs L (i + 3) 30) = nI (1 + (pkN xs L (i + 3) 30))  from nI_add _ _) ?_
      refine callE (vx_runSW (As := [.ref (u 0), .int (nI 4), .int (nI (pkN xs L (i + 1) (max (gP (kG K)) 1))), .int (nI (pkN xs L (i + 2) (max (gS (kG K)) 1))), .int (nI (1 + (pkN xs L (i + 3) 30)))]) (rest := []) ⟨hx, hb, hml, hown, hts⟩ (c_L_deed l D C ev u K T 4 (nI (pkN xs L (i + 1) (max (gP (kG K)) 1))) (nI (pkN xs L (i + 2) (max (gS (kG K)) 1))) (nI (1 + (pkN xs L (i + 3) 30))) hl9 hd (by decide) x _ hF) (vx_cwSW 5 hts gL_any_L_deed rfl rfl rfl (by decide +kernel) ⟨Nat.le_of_ble_eq_true rfl, Nat.le_of_ble_eq_true rfl⟩) (hloP_s hP hK hE hD hR hX hT9 hV9 hDV hN hC hS (all_F hD hS hA)) rfl rfl hl.1 rfl (lv_room (Nat.le_of_ble_eq_true rfl)) dL_any_333 ⟨show _ ≤ 1 from by omega, show _ ≤ 6 from by omega⟩) hS (all_F hD hS hA) (fun x9 H9 locs9 hF9 hP9 hD9 _ hS9 => ?_)
      have hD9 : va_D A (kW C ev u (plK K 4 (nI (pkN xs L (i + 1) (max (gP (kG K)) 1))) (nI (pkN xs L (i + 2) (max (gS (kG K)) 1))) (nI (1 + (pkN xs L (i + 3) 30)))) x9) := hD9.weaken (fun _ q _ h => all_F hD hS hA q.1 h)
      obtain ⟨hd9, -, hm9⟩ := deed_all hd (n := 4) (by decide) (nI (pkN xs L (i + 1) (max (gP (kG K)) 1))) (nI (pkN xs L (i + 2) (max (gS (kG K)) 1))) (nI (1 + (pkN xs L (i + 3) 30)))
      generalize plK K 4 (nI (pkN xs L (i + 1) (max (gP (kG K)) 1))) (nI (pkN xs L (i + 2) (max (gS (kG K)) 1))) (nI (1 + (pkN xs L (i + 3) 30))) = K9 at hP9 hD9 hd9 hm9
      generalize deedV ((plF K 4 (nI (pkN xs L (i + 1) (max (gP (kG K)) 1))) (nI (pkN xs L (i + 2) (max (gS (kG K)) 1))) (nI (1 + (pkN xs L (i + 3) 30)))).1, (plF K 4 (nI (pkN xs L (i + 1) (max (gP (kG K)) 1))) (nI (pkN xs L (i + 2) (max (gS (kG K)) 1))) (nI (1 + (pkN xs L (i + 3) 30)))).2.1) = r9
      exact e_retI ((K9, x9), r9) rfl hx hb hr ⟨hd9, hm9, hF9⟩ hP9 hD9 hS9 (by omega) (by omega) dL_any_336 hlocks
