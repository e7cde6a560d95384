/-! the law lays out a game, and changes it -/
def scH (av : List Value) (D : va_G) (C : Nat → ClassId) (ev : Nat → Nat) (ws : va_W) (sz a L : Nat) (xs : Nat → Int32) : Array Value → State → Prop := fun v U => hloP av D C ev ws sz v U ∧ va_T .int a L (fun j => .int (xs j)) (va_A ws sz) U U.heap
theorem scH_blind {av : List Value} {D : va_G} {C : Nat → ClassId} {ev : Nat → Nat} {ws : va_W} {sz a L : Nat} {xs : Nat → Int32} : FrameBlind (scH av D C ev ws sz a L xs) := fun v U g mk q => ⟨hloP_blind v U g mk q.1, va_T.moved (u := U) (U := U.calling g mk v) (Vm.Alike.refl U.vm) q.2⟩
theorem scH_s {s : State} {H : Heap} {As : List Value} {D : va_G} {C : Nat → ClassId} {ev : Nat → Nat} {ws : va_W} {A : Nat → Prop} {locs : List Loc} {a L : Nat} {xs : Nat → Int32} (hp : PreS s H (hloP As D C ev ws H.size) As) (hT : va_T .int a L (fun j => .int (xs j)) A s s.heap) (hS : va_S A s.heap H locs) (hF : ∀ q, va_A ws H.size q → A q) : PreS s H (scH As D C ev ws H.size a L xs) As :=
  ⟨scH_blind, fun U hU hW => ⟨hp.2 U hU hW, by rw [hU]; exact ((hT.kept hS.2.1).moved hW.alike).narrow hF⟩⟩
set_option maxRecDepth 20000 in
theorem ggL_lay_L_pick : GoodIn wsL_lay wsL_pick := goodIn_ca (goodIn_ca (goodIn_r _ [4, 5, 6, 3, 7, 8, 9] (by decide +kernel) (by decide +kernel)) (goodIn_sub (fun _ h => List.mem_cons_of_mem _ (List.mem_append_left _ (List.mem_append_left _ (List.mem_append_left _ (List.mem_append_left _ (List.mem_append_left _ (List.mem_append_left _ (List.mem_append_right _ h)))))))) (by decide +kernel))) (goodIn_sub (fun _ h => List.mem_cons_of_mem _ (List.mem_append_left _ (List.mem_append_left _ (List.mem_append_left _ (List.mem_append_left _ (List.mem_append_left _ (List.mem_append_right _ h))))))) (by decide +kernel))
set_option maxRecDepth 20000 in
theorem gL_lay_L_pick : GoodIn wsL_lay (va_wsS RL 113 yL_pick wsL_pick) := goodIn_app (goodIn_r _ [1, 2, 3] (by decide +kernel) (by decide +kernel)) ggL_lay_L_pick
set_option maxRecDepth 20000 in
theorem ggL_lay_L_deed : GoodIn wsL_lay wsL_deed := goodIn_ca (goodIn_ca (goodIn_ca (goodIn_ca (goodIn_ca (goodIn_ca (goodIn_r _ [12, 13, 14, 15, 3, 16, 17, 18, 19, 20, 21, 22, 23, 24, 25, 26, 27, 28, 29, 30, 31, 32, 33, 34, 35, 36, 37, 38, 39, 40, 41, 42, 43, 44, 45, 46, 47, 48, 49, 50, 51, 52, 53, 54, 55, 56, 57, 58, 59, 60, 61, 62, 63, 64, 65, 66, 67, 68, 69, 70, 71, 72, 73, 74, 75, 76, 77, 78, 79, 80, 81, 82, 83, 84, 85, 86, 87, 88, 89, 90, 91, 92, 93, 94, 95, 96, 97, 98, 99, 100, 101, 102, 103, 104, 105, 106, 107, 108, 109, 110, 111, 112, 113, 114, 115, 116, 117, 118, 119, 120, 121, 122, 123, 124, 125, 126, 127, 128, 129, 130, 131, 132, 133, 134, 135, 136, 137, 138, 139, 140, 141, 142, 143, 144, 145, 146, 147, 148, 149, 150, 151, 152, 153, 154, 155, 156, 157, 158, 159, 160, 161, 162, 163, 164, 165, 166, 167, 168, 169, 170, 171, 172, 173, 174, 175, 176, 177, 178, 179, 180, 181, 182, 183, 184, 185, 186, 187, 188, 189, 190, 191, 192, 193, 194, 195, 196, 197, 198, 199, 200, 201, 202, 203, 204, 205, 206, 207, 208, 209, 210, 211, 212, 213, 214, 215, 216, 217, 218, 219, 220, 221, 222, 223, 224, 225, 226, 227, 228, 229, 230, 231, 232, 233, 234, 235, 236, 237, 238, 239, 240, 241, 242, 243, 244, 245, 246, 247, 248, 249, 250, 251, 252, 253, 254, 255, 256, 257, 258, 259, 260, 261, 262, 263, 264, 265, 266, 267, 268, 269, 270, 271, 272, 273, 274, 275, 276, 277, 278, 279, 280, 281, 282, 283, 284, 285, 286, 287, 288, 289, 290, 291, 292, 293, 294, 295, 296, 297, 298, 299, 300, 301, 302, 303, 304, 305, 306, 307, 308, 309, 310, 311, 312, 313, 314, 315, 316, 317, 318, 319, 320, 321, 322, 323, 324, 325, 326, 327, 328, 329, 330, 331, 332, 333, 334, 335, 336, 337, 338, 339, 340, 341, 342, 343, 344, 345, 346, 347, 348, 349, 350, 351, 352, 353, 354, 355, 356, 357, 358, 359, 360, 361, 362, 363, 364, 365, 366, 367, 368, 369, 370, 371, 372, 373, 374, 375, 376, 377, 378, 379, 380, 381, 382, 383, 384, 385, 386, 387, 388, 389, 390, 391, 392, 393, 394, 395, 396, 397, 398, 399, 400, 401, 402, 403, 404, 405, 406, 407, 408, 409, 410, 411, 412, 413, 414, 415, 416, 417, 418, 419, 420, 421, 422, 423, 424, 425, 426] (by decide +kernel) (by decide +kernel)) (goodIn_sub (fun _ h => List.mem_cons_of_mem _ (List.mem_append_left _ (List.mem_append_left _ (List.mem_append_left _ (List.mem_append_left _ (List.mem_append_left _ (List.mem_append_right _ h))))))) (by decide +kernel))) (goodIn_sub (fun _ h => List.mem_cons_of_mem _ (List.mem_append_left _ (List.mem_append_left _ (List.mem_append_left _ (List.mem_append_left _ (List.mem_append_right _ h)))))) (by decide +kernel))) (goodIn_sub (fun _ h => List.mem_cons_of_mem _ (List.mem_append_left _ (List.mem_append_left _ (List.mem_append_left _ (List.mem_append_right _ h))))) (by decide +kernel))) (goodIn_sub (fun _ h => List.mem_cons_of_mem _ (List.mem_append_left _ (List.mem_append_left _ (List.mem_append_right _ h)))) (by decide +kernel))) (goodIn_sub (fun _ h => List.mem_cons_of_mem _ (List.mem_append_left _ (List.mem_append_right _ h))) (by decide +kernel))) (goodIn_sub (fun _ h => List.mem_cons_of_mem _ (List.mem_append_right _ h)) (by decide +kernel))
set_option maxRecDepth 20000 in
theorem gL_lay_L_deed : GoodIn wsL_lay (va_wsS RL 117 yL_deed wsL_deed) := goodIn_app (goodIn_r _ [10, 11, 3] (by decide +kernel) (by decide +kernel)) ggL_lay_L_deed
theorem dL_lay_0 : decode cL_lay 0 = .ok (.aload_n 0, 1) := by decide +kernel
theorem dL_lay_1 : decode cL_lay 1 = .ok (.iconst 3, 1) := by decide +kernel
theorem dL_lay_2 : decode cL_lay 2 = .ok (.aload_n 1, 1) := by decide +kernel
theorem dL_lay_3 : decode cL_lay 3 = .ok (.iconst 0, 1) := by decide +kernel
theorem dL_lay_4 : decode cL_lay 4 = .ok (.bipush 10, 2) := by decide +kernel
theorem dL_lay_6 : decode cL_lay 6 = .ok (.invokestatic 113, 3) := by decide +kernel
theorem dL_lay_9 : decode cL_lay 9 = .ok (.iconst 3, 1) := by decide +kernel
theorem dL_lay_10 : decode cL_lay 10 = .ok (.idiv, 1) := by decide +kernel
theorem dL_lay_11 : decode cL_lay 11 = .ok (.iconst 0, 1) := by decide +kernel
theorem dL_lay_12 : decode cL_lay 12 = .ok (.iconst 0, 1) := by decide +kernel
theorem dL_lay_13 : decode cL_lay 13 = .ok (.invokestatic 117, 3) := by decide +kernel
theorem dL_lay_16 : decode cL_lay 16 = .ok (.istore_n 2, 1) := by decide +kernel
theorem dL_lay_17 : decode cL_lay 17 = .ok (.iconst 0, 1) := by decide +kernel
theorem dL_lay_18 : decode cL_lay 18 = .ok (.istore_n 3, 1) := by decide +kernel
theorem dL_lay_19 : decode cL_lay 19 = .ok (.iload_n 3, 1) := by decide +kernel
theorem dL_lay_20 : decode cL_lay 20 = .ok (.aload_n 1, 1) := by decide +kernel
theorem dL_lay_21 : decode cL_lay 21 = .ok (.iconst 1, 1) := by decide +kernel
theorem dL_lay_22 : decode cL_lay 22 = .ok (.iconst 5, 1) := by decide +kernel
theorem dL_lay_23 : decode cL_lay 23 = .ok (.invokestatic 113, 3) := by decide +kernel
theorem dL_lay_26 : decode cL_lay 26 = .ok (.if_icmp .ge 31, 3) := by decide +kernel
theorem dL_lay_29 : decode cL_lay 29 = .ok (.iload_n 2, 1) := by decide +kernel
theorem dL_lay_30 : decode cL_lay 30 = .ok (.aload_n 0, 1) := by decide +kernel
theorem dL_lay_31 : decode cL_lay 31 = .ok (.iconst 0, 1) := by decide +kernel
theorem dL_lay_32 : decode cL_lay 32 = .ok (.bipush 20, 2) := by decide +kernel
theorem dL_lay_34 : decode cL_lay 34 = .ok (.aload_n 1, 1) := by decide +kernel
theorem dL_lay_35 : decode cL_lay 35 = .ok (.iconst 2, 1) := by decide +kernel
theorem dL_lay_36 : decode cL_lay 36 = .ok (.iload_n 3, 1) := by decide +kernel
theorem dL_lay_37 : decode cL_lay 37 = .ok (.iadd, 1) := by decide +kernel
theorem dL_lay_38 : decode cL_lay 38 = .ok (.bipush 80, 2) := by decide +kernel
theorem dL_lay_40 : decode cL_lay 40 = .ok (.invokestatic 113, 3) := by decide +kernel
theorem dL_lay_43 : decode cL_lay 43 = .ok (.iadd, 1) := by decide +kernel
theorem dL_lay_44 : decode cL_lay 44 = .ok (.iconst 0, 1) := by decide +kernel
theorem dL_lay_45 : decode cL_lay 45 = .ok (.iconst 0, 1) := by decide +kernel
theorem dL_lay_46 : decode cL_lay 46 = .ok (.invokestatic 117, 3) := by decide +kernel
theorem dL_lay_49 : decode cL_lay 49 = .ok (.iadd, 1) := by decide +kernel
theorem dL_lay_50 : decode cL_lay 50 = .ok (.istore_n 2, 1) := by decide +kernel
theorem dL_lay_51 : decode cL_lay 51 = .ok (.iinc 3 1, 3) := by decide +kernel
theorem dL_lay_54 : decode cL_lay 54 = .ok (.goto (-35), 3) := by decide +kernel
theorem dL_lay_57 : decode cL_lay 57 = .ok (.iconst 0, 1) := by decide +kernel
theorem dL_lay_58 : decode cL_lay 58 = .ok (.istore_n 3, 1) := by decide +kernel
theorem dL_lay_59 : decode cL_lay 59 = .ok (.iload_n 3, 1) := by decide +kernel
theorem dL_lay_60 : decode cL_lay 60 = .ok (.aload_n 1, 1) := by decide +kernel
theorem dL_lay_61 : decode cL_lay 61 = .ok (.bipush 10, 2) := by decide +kernel
theorem dL_lay_63 : decode cL_lay 63 = .ok (.bipush 17, 2) := by decide +kernel
theorem dL_lay_65 : decode cL_lay 65 = .ok (.invokestatic 113, 3) := by decide +kernel
theorem dL_lay_68 : decode cL_lay 68 = .ok (.if_icmp .ge 49, 3) := by decide +kernel
theorem dL_lay_71 : decode cL_lay 71 = .ok (.iload_n 2, 1) := by decide +kernel
theorem dL_lay_72 : decode cL_lay 72 = .ok (.aload_n 0, 1) := by decide +kernel
theorem dL_lay_73 : decode cL_lay 73 = .ok (.iconst 1, 1) := by decide +kernel
theorem dL_lay_74 : decode cL_lay 74 = .ok (.aload_n 1, 1) := by decide +kernel
theorem dL_lay_75 : decode cL_lay 75 = .ok (.bipush 11, 2) := by decide +kernel
theorem dL_lay_77 : decode cL_lay 77 = .ok (.iload_n 3, 1) := by decide +kernel
theorem dL_lay_78 : decode cL_lay 78 = .ok (.iadd, 1) := by decide +kernel
theorem dL_lay_79 : decode cL_lay 79 = .ok (.bipush 8, 2) := by decide +kernel
theorem dL_lay_81 : decode cL_lay 81 = .ok (.invokestatic 113, 3) := by decide +kernel
theorem dL_lay_84 : decode cL_lay 84 = .ok (.aload_n 1, 1) := by decide +kernel
theorem dL_lay_85 : decode cL_lay 85 = .ok (.bipush 31, 2) := by decide +kernel
theorem dL_lay_87 : decode cL_lay 87 = .ok (.iload_n 3, 1) := by decide +kernel
theorem dL_lay_88 : decode cL_lay 88 = .ok (.iadd, 1) := by decide +kernel
theorem dL_lay_89 : decode cL_lay 89 = .ok (.bipush 8, 2) := by decide +kernel
theorem dL_lay_91 : decode cL_lay 91 = .ok (.invokestatic 113, 3) := by decide +kernel
theorem dL_lay_94 : decode cL_lay 94 = .ok (.iconst 1, 1) := by decide +kernel
theorem dL_lay_95 : decode cL_lay 95 = .ok (.aload_n 1, 1) := by decide +kernel
theorem dL_lay_96 : decode cL_lay 96 = .ok (.bipush 51, 2) := by decide +kernel
theorem dL_lay_98 : decode cL_lay 98 = .ok (.iload_n 3, 1) := by decide +kernel
theorem dL_lay_99 : decode cL_lay 99 = .ok (.iadd, 1) := by decide +kernel
theorem dL_lay_100 : decode cL_lay 100 = .ok (.bipush 9, 2) := by decide +kernel
theorem dL_lay_102 : decode cL_lay 102 = .ok (.invokestatic 113, 3) := by decide +kernel
theorem dL_lay_105 : decode cL_lay 105 = .ok (.iadd, 1) := by decide +kernel
theorem dL_lay_106 : decode cL_lay 106 = .ok (.invokestatic 117, 3) := by decide +kernel
theorem dL_lay_109 : decode cL_lay 109 = .ok (.iadd, 1) := by decide +kernel
theorem dL_lay_110 : decode cL_lay 110 = .ok (.istore_n 2, 1) := by decide +kernel
theorem dL_lay_111 : decode cL_lay 111 = .ok (.iinc 3 1, 3) := by decide +kernel
theorem dL_lay_114 : decode cL_lay 114 = .ok (.goto (-55), 3) := by decide +kernel
theorem dL_lay_117 : decode cL_lay 117 = .ok (.iconst 0, 1) := by decide +kernel
theorem dL_lay_118 : decode cL_lay 118 = .ok (.istore_n 3, 1) := by decide +kernel
theorem dL_lay_119 : decode cL_lay 119 = .ok (.iload_n 3, 1) := by decide +kernel
theorem dL_lay_120 : decode cL_lay 120 = .ok (.aload_n 1, 1) := by decide +kernel
theorem dL_lay_121 : decode cL_lay 121 = .ok (.bipush 70, 2) := by decide +kernel
theorem dL_lay_123 : decode cL_lay 123 = .ok (.bipush 30, 2) := by decide +kernel
theorem dL_lay_125 : decode cL_lay 125 = .ok (.invokestatic 113, 3) := by decide +kernel
theorem dL_lay_128 : decode cL_lay 128 = .ok (.if_icmp .ge 153, 3) := by decide +kernel
theorem dL_lay_131 : decode cL_lay 131 = .ok (.iload_n 2, 1) := by decide +kernel
theorem dL_lay_132 : decode cL_lay 132 = .ok (.aload_n 0, 1) := by decide +kernel
theorem dL_lay_133 : decode cL_lay 133 = .ok (.aload_n 1, 1) := by decide +kernel
theorem dL_lay_134 : decode cL_lay 134 = .ok (.bipush 71, 2) := by decide +kernel
theorem dL_lay_136 : decode cL_lay 136 = .ok (.iload_n 3, 1) := by decide +kernel
theorem dL_lay_137 : decode cL_lay 137 = .ok (.iadd, 1) := by decide +kernel
theorem dL_lay_138 : decode cL_lay 138 = .ok (.iconst 4, 1) := by decide +kernel
theorem dL_lay_139 : decode cL_lay 139 = .ok (.invokestatic 113, 3) := by decide +kernel
theorem dL_lay_142 : decode cL_lay 142 = .ok (.ifCond .ne 7, 3) := by decide +kernel
theorem dL_lay_145 : decode cL_lay 145 = .ok (.iconst 5, 1) := by decide +kernel
theorem dL_lay_146 : decode cL_lay 146 = .ok (.goto 4, 3) := by decide +kernel
theorem dL_lay_149 : decode cL_lay 149 = .ok (.iconst 4, 1) := by decide +kernel
theorem dL_lay_150 : decode cL_lay 150 = .ok (.aload_n 1, 1) := by decide +kernel
theorem dL_lay_151 : decode cL_lay 151 = .ok (.bipush 101, 2) := by decide +kernel
theorem dL_lay_153 : decode cL_lay 153 = .ok (.iload_n 3, 1) := by decide +kernel
theorem dL_lay_154 : decode cL_lay 154 = .ok (.iadd, 1) := by decide +kernel
theorem dL_lay_155 : decode cL_lay 155 = .ok (.iconst 4, 1) := by decide +kernel
theorem dL_lay_156 : decode cL_lay 156 = .ok (.invokestatic 113, 3) := by decide +kernel
theorem dL_lay_159 : decode cL_lay 159 = .ok (.aload_n 1, 1) := by decide +kernel
theorem dL_lay_160 : decode cL_lay 160 = .ok (.sipush 131, 3) := by decide +kernel
theorem dL_lay_163 : decode cL_lay 163 = .ok (.iload_n 3, 1) := by decide +kernel
theorem dL_lay_164 : decode cL_lay 164 = .ok (.iadd, 1) := by decide +kernel
theorem dL_lay_165 : decode cL_lay 165 = .ok (.bipush 12, 2) := by decide +kernel
theorem dL_lay_167 : decode cL_lay 167 = .ok (.invokestatic 113, 3) := by decide +kernel
theorem dL_lay_170 : decode cL_lay 170 = .ok (.iconst 1, 1) := by decide +kernel
theorem dL_lay_171 : decode cL_lay 171 = .ok (.aload_n 1, 1) := by decide +kernel
theorem dL_lay_172 : decode cL_lay 172 = .ok (.sipush 161, 3) := by decide +kernel
theorem dL_lay_175 : decode cL_lay 175 = .ok (.iload_n 3, 1) := by decide +kernel
theorem dL_lay_176 : decode cL_lay 176 = .ok (.iadd, 1) := by decide +kernel
theorem dL_lay_177 : decode cL_lay 177 = .ok (.bipush 25, 2) := by decide +kernel
theorem dL_lay_179 : decode cL_lay 179 = .ok (.invokestatic 113, 3) := by decide +kernel
theorem dL_lay_182 : decode cL_lay 182 = .ok (.iadd, 1) := by decide +kernel
theorem dL_lay_183 : decode cL_lay 183 = .ok (.invokestatic 117, 3) := by decide +kernel
theorem dL_lay_186 : decode cL_lay 186 = .ok (.iadd, 1) := by decide +kernel
theorem dL_lay_187 : decode cL_lay 187 = .ok (.istore_n 2, 1) := by decide +kernel
theorem dL_lay_188 : decode cL_lay 188 = .ok (.iload_n 2, 1) := by decide +kernel
theorem dL_lay_189 : decode cL_lay 189 = .ok (.aload_n 1, 1) := by decide +kernel
theorem dL_lay_190 : decode cL_lay 190 = .ok (.sipush 191, 3) := by decide +kernel
theorem dL_lay_193 : decode cL_lay 193 = .ok (.iload_n 3, 1) := by decide +kernel
theorem dL_lay_194 : decode cL_lay 194 = .ok (.iadd, 1) := by decide +kernel
theorem dL_lay_195 : decode cL_lay 195 = .ok (.iconst 5, 1) := by decide +kernel
theorem dL_lay_196 : decode cL_lay 196 = .ok (.invokestatic 113, 3) := by decide +kernel
theorem dL_lay_199 : decode cL_lay 199 = .ok (.ifCond .ne 34, 3) := by decide +kernel
theorem dL_lay_202 : decode cL_lay 202 = .ok (.aload_n 0, 1) := by decide +kernel
theorem dL_lay_203 : decode cL_lay 203 = .ok (.bipush 7, 2) := by decide +kernel
theorem dL_lay_205 : decode cL_lay 205 = .ok (.aload_n 1, 1) := by decide +kernel
theorem dL_lay_206 : decode cL_lay 206 = .ok (.sipush 221, 3) := by decide +kernel
theorem dL_lay_209 : decode cL_lay 209 = .ok (.iload_n 3, 1) := by decide +kernel
theorem dL_lay_210 : decode cL_lay 210 = .ok (.iadd, 1) := by decide +kernel
theorem dL_lay_211 : decode cL_lay 211 = .ok (.iconst 4, 1) := by decide +kernel
theorem dL_lay_212 : decode cL_lay 212 = .ok (.invokestatic 113, 3) := by decide +kernel
theorem dL_lay_215 : decode cL_lay 215 = .ok (.aload_n 1, 1) := by decide +kernel
theorem dL_lay_216 : decode cL_lay 216 = .ok (.sipush 131, 3) := by decide +kernel
theorem dL_lay_219 : decode cL_lay 219 = .ok (.iload_n 3, 1) := by decide +kernel
theorem dL_lay_220 : decode cL_lay 220 = .ok (.iadd, 1) := by decide +kernel
theorem dL_lay_221 : decode cL_lay 221 = .ok (.bipush 12, 2) := by decide +kernel
theorem dL_lay_223 : decode cL_lay 223 = .ok (.invokestatic 113, 3) := by decide +kernel
theorem dL_lay_226 : decode cL_lay 226 = .ok (.iconst 0, 1) := by decide +kernel
theorem dL_lay_227 : decode cL_lay 227 = .ok (.invokestatic 117, 3) := by decide +kernel
theorem dL_lay_230 : decode cL_lay 230 = .ok (.goto 4, 3) := by decide +kernel
theorem dL_lay_233 : decode cL_lay 233 = .ok (.iconst 0, 1) := by decide +kernel
theorem dL_lay_234 : decode cL_lay 234 = .ok (.iadd, 1) := by decide +kernel
theorem dL_lay_235 : decode cL_lay 235 = .ok (.istore_n 2, 1) := by decide +kernel
theorem dL_lay_236 : decode cL_lay 236 = .ok (.iload_n 2, 1) := by decide +kernel
theorem dL_lay_237 : decode cL_lay 237 = .ok (.aload_n 1, 1) := by decide +kernel
theorem dL_lay_238 : decode cL_lay 238 = .ok (.sipush 251, 3) := by decide +kernel
theorem dL_lay_241 : decode cL_lay 241 = .ok (.iload_n 3, 1) := by decide +kernel
theorem dL_lay_242 : decode cL_lay 242 = .ok (.iadd, 1) := by decide +kernel
theorem dL_lay_243 : decode cL_lay 243 = .ok (.iconst 2, 1) := by decide +kernel
theorem dL_lay_244 : decode cL_lay 244 = .ok (.invokestatic 113, 3) := by decide +kernel
theorem dL_lay_247 : decode cL_lay 247 = .ok (.ifCond .ne 25, 3) := by decide +kernel
theorem dL_lay_250 : decode cL_lay 250 = .ok (.aload_n 0, 1) := by decide +kernel
theorem dL_lay_251 : decode cL_lay 251 = .ok (.bipush 8, 2) := by decide +kernel
theorem dL_lay_253 : decode cL_lay 253 = .ok (.aload_n 1, 1) := by decide +kernel
theorem dL_lay_254 : decode cL_lay 254 = .ok (.sipush 281, 3) := by decide +kernel
theorem dL_lay_257 : decode cL_lay 257 = .ok (.iload_n 3, 1) := by decide +kernel
theorem dL_lay_258 : decode cL_lay 258 = .ok (.iadd, 1) := by decide +kernel
theorem dL_lay_259 : decode cL_lay 259 = .ok (.bipush 12, 2) := by decide +kernel
theorem dL_lay_261 : decode cL_lay 261 = .ok (.invokestatic 113, 3) := by decide +kernel
theorem dL_lay_264 : decode cL_lay 264 = .ok (.iconst 0, 1) := by decide +kernel
theorem dL_lay_265 : decode cL_lay 265 = .ok (.iconst 0, 1) := by decide +kernel
theorem dL_lay_266 : decode cL_lay 266 = .ok (.invokestatic 117, 3) := by decide +kernel
theorem dL_lay_269 : decode cL_lay 269 = .ok (.goto 4, 3) := by decide +kernel
theorem dL_lay_272 : decode cL_lay 272 = .ok (.iconst 0, 1) := by decide +kernel
theorem dL_lay_273 : decode cL_lay 273 = .ok (.iadd, 1) := by decide +kernel
theorem dL_lay_274 : decode cL_lay 274 = .ok (.istore_n 2, 1) := by decide +kernel
theorem dL_lay_275 : decode cL_lay 275 = .ok (.iinc 3 1, 3) := by decide +kernel
theorem dL_lay_278 : decode cL_lay 278 = .ok (.goto (-159), 3) := by decide +kernel
theorem dL_lay_281 : decode cL_lay 281 = .ok (.return_, 1) := by decide +kernel
set_option maxHeartbeats 4000000 in
set_option maxRecDepth 100000 in
theorem c_L_lay (l : Launch) (D : va_G) (C : Nat → ClassId) (ev u : Nat → Nat) (K : CT) (T : TX) (a L : Nat) (xs : Nat → Int32) (hl9 : l.stackTraces = false) (hd : DI K) (hL : L < 2 ^ 20) (x : KX) (sz : Nat) (hF : kF T x) : Met l yL_lay wsL_lay ({ frames := 11, cells := 108, slots := 648, locals := 260 } : Room) (scH [.ref (u 0), .ref a] D C ev (kW C ev u K x) sz a L xs) (eO (fun _ : CT × KX => none) D (fun q => DI q.1 ∧ kF T q.2) (fun q => kW C ev u q.1 q.2) (va_A (kW C ev u K x) sz)) 108 648 (va_A (kW C ev u K x) sz) := by
  refine Met.ofW (cc := cL_lay) (maxL := 4) (ret := none) (by decide) rfl ?_
  intro p e s m args below meth c s₁ B hml hv
  obtain ⟨⟨⟨⟨rfl, hsz, hP, hK, hD0, hE, hR, hX, hT9, hV9⟩, hDV⟩, hN, hC⟩, hSC⟩ := hv
  have hx := B.exec
  have hb := B.bytes
  have hr := B.returns
  have hts := atoms_spec (ws := wsL_lay) B.pre
  have hown : s.vm.findClass RL = some m.cls := findClass_of_methodNamed B.named
  have hlocks := B.notSynchronized
  subst hsz
  have hD := hD0.self (sz := s.heap.size)
  generalize hAe : va_A (kW C ev u K x) s.heap.size = A at hD hX hV9 hDV hSC ⊢
  have hA : ∀ q : Nat, s.heap.size ≤ q → A q := fun q h => by rw [← hAe]; exact Or.inr h
  have hS : va_S A s.heap s.heap [] := va_S.rf
  have hl := lv_entry ([.ref (u 0), .ref a]) (n := 4) (Nat.le_of_ble_eq_true rfl)
  rw [lg_entry_eq]
  generalize (lg_sl ([.ref (u 0), .ref a]) ++ List.replicate (4 - (lg_sl ([.ref (u 0), .ref a])).length) Slot.unset).toArray = ls at hl ⊢
  have hl : lv_has ls 4 [(0, .ref (u 0)), (1, .ref a)] := hl
  have J119 : ∀ (r k : Nat) (K : CT) (x : KX) (H : Heap) (locs : List Loc) (cells slots : Nat) (ls : Array Slot) (v : Int32), k + r = pkN xs L 70 30 → DI K → kF T x → lv_has ls 4 [(3, .int (nI k)), (2, .int v), (0, .ref (u 0)), (1, .ref a)] → cells + (r * 3) ≤ 108 → slots + (r * 18) ≤ 648 → va_P D vwCl (kW C ev u K x) H → va_D A (kW C ev u K x) → va_S A s.heap H locs → W p l e ({ frames := 11, cells := 108, slots := 648, locals := 260 } : Room) s m ([.ref (u 0), .ref a] : List Value).toArray below meth c H locs cells slots (MQ below (eO (fun _ : CT × KX => none) D (fun q => DI q.1 ∧ kF T q.2) (fun q => kW C ev u q.1 q.2) A) ([.ref (u 0), .ref a] : List Value).toArray s 108 648 A) (F0 m 119 ls []) := by
    have hb3 : pkN xs L 70 30 < 30 := pkN_lt (by decide)
    intro r
    induction r with
    | zero =>
      intro k K x H locs cells slots ls v hk hd hF hl hc hs hP hD hS
      refine lv_iload_n hx hb dL_lay_119 rfl (lv_at hl 0 rfl) ?_
      refine lv_aload_n hx hb dL_lay_120 rfl (lv_at hl 3 rfl) ?_
      refine lv_bipush (v := 70) hx hb dL_lay_121 (by decide) ?_
      refine lv_bipush (v := 30) hx hb dL_lay_123 (by decide) ?_
      refine callRo (va_runS (As := [.ref a, .int (nI 70), .int (nI 30)]) (rest := [.int (nI k)]) ⟨hx, hb, hml, hown, hts⟩ (c_L_pick l a L xs 70 30 (by omega) (by omega) (by omega) (by omega)) (va_cwS 3 hts gL_lay_L_pick rfl rfl rfl (by decide +kernel) ⟨Nat.le_of_ble_eq_true rfl, Nat.le_of_ble_eq_true rfl⟩) (scP_s hSC hS) rfl rfl hl.1 rfl (lv_room (Nat.le_of_ble_eq_true rfl)) dL_lay_125 ⟨show _ ≤ 108 from by omega, show _ ≤ 648 from by omega⟩) ?_
      have hp125 : (pkN xs L 70 30) < 30 := pkN_lt (by omega)
      refine lv_icmp_ge (tgt := 281) hx hb dL_lay_128 (by decide) (fun _ => ?_) (fun c => absurd (by rw [ile, nI_toInt (by omega), nI_toInt (by omega)]; omega) c)
      exact e_retV (K, x) rfl hx hb hr ⟨hd, hF⟩ hP hD hS (by omega) (by omega) dL_lay_281 hlocks
    | succ r ih =>
      intro k K x H locs cells slots ls v hk hd hF hl hc hs hP hD hS
      have hk30 : k < 30 := by omega
      have J236 : ∀ (K : CT) (x : KX) (H : Heap) (locs : List Loc) (cells slots : Nat) (ls : Array Slot) (v : Int32), DI K → kF T x → lv_has ls 4 [(3, .int (nI k)), (2, .int v), (0, .ref (u 0)), (1, .ref a)] → cells + (1 + r * 3) ≤ 108 → slots + (6 + r * 18) ≤ 648 → va_P D vwCl (kW C ev u K x) H → va_D A (kW C ev u K x) → va_S A s.heap H locs → W p l e ({ frames := 11, cells := 108, slots := 648, locals := 260 } : Room) s m ([.ref (u 0), .ref a] : List Value).toArray below meth c H locs cells slots (MQ below (eO (fun _ : CT × KX => none) D (fun q => DI q.1 ∧ kF T q.2) (fun q => kW C ev u q.1 q.2) A) ([.ref (u 0), .ref a] : List Value).toArray s 108 648 A) (F0 m 236 ls []) := by
        intro K x H locs cells slots ls v hd hF hl hc hs hP hD hS
        refine lv_iload_n hx hb dL_lay_236 rfl (lv_at hl 1 rfl) ?_
        refine lv_aload_n hx hb dL_lay_237 rfl (lv_at hl 3 rfl) ?_
        refine lv_sipush (v := 251) hx hb dL_lay_238 (by decide +kernel) ?_
        refine lv_iload_n hx hb dL_lay_241 rfl (lv_at hl 0 rfl) ?_
        refine lv_iadd hx hb dL_lay_242 ?_
        refine topI (y := nI (251 + k)) (show nI 251 + nI k = nI (251 + k)  from nI_add _ _) ?_
        refine lv_iconst (v := 2) hx hb dL_lay_243 (by decide) ?_
        refine callRo (va_runS (As := [.ref a, .int (nI (251 + k)), .int (nI 2)]) (rest := [.int v]) ⟨hx, hb, hml, hown, hts⟩ (c_L_pick l a L xs (251 + k) 2 (by omega) (by omega) (by omega) (by omega)) (va_cwS 3 hts gL_lay_L_pick rfl rfl rfl (by decide +kernel) ⟨Nat.le_of_ble_eq_true rfl, Nat.le_of_ble_eq_true rfl⟩) (scP_s hSC hS) rfl rfl hl.1 rfl (lv_room (Nat.le_of_ble_eq_true rfl)) dL_lay_244 ⟨show _ ≤ 108 from by omega, show _ ≤ 648 from by omega⟩) ?_
        have hp244 : (pkN xs L (251 + k) 2) < 2 := pkN_lt (by omega)
        refine lv_if_ne (tgt := 272) hx hb dL_lay_247 (by decide) (fun _ => ?_) (fun _ => ?_)
        · skip
          refine lv_iconst (v := 0) hx hb dL_lay_272 (by decide) ?_
          refine lv_iadd hx hb dL_lay_273 ?_
          refine lv_istore_n (lv' := [(2, .int (v + 0)), (3, .int (nI k)), (0, .ref (u 0)), (1, .ref a)]) hx hb dL_lay_274 rfl hl (by decide) rfl (fun ls hl => ?_)
          refine lv_iinc (v := nI (k + 1)) (lv' := [(3, .int (nI (k + 1))), (2, .int (v + 0)), (0, .ref (u 0)), (1, .ref a)]) hx hb dL_lay_275 hl (k := 1) rfl (by exact nI_1 _) (by decide) rfl (fun ls hl => ?_)
          refine lv_goto (tgt := 119) hx hb dL_lay_278 (by decide) ?_
          exact ih (k + 1) K x H locs _ _ ls (v + 0) (by omega) hd hF (lv_sub hl [0, 1, 2, 3] rfl) (by omega) (by omega) hP hD hS
        · skip
          refine lv_aload_n hx hb dL_lay_250 rfl (lv_at hl 2 rfl) ?_
          refine lv_bipush (v := 8) hx hb dL_lay_251 (by decide) ?_
          refine lv_aload_n hx hb dL_lay_253 rfl (lv_at hl 3 rfl) ?_
          refine lv_sipush (v := 281) hx hb dL_lay_254 (by decide +kernel) ?_
          refine lv_iload_n hx hb dL_lay_257 rfl (lv_at hl 0 rfl) ?_
          refine lv_iadd hx hb dL_lay_258 ?_
          refine topI (y := nI (281 + k)) (show nI 281 + nI k = nI (281 + k)  from nI_add _ _) ?_
          refine lv_bipush (v := 12) hx hb dL_lay_259 (by decide) ?_
          refine callRo (va_runS (As := [.ref a, .int (nI (281 + k)), .int (nI 12)]) (rest := [.int 8, .ref (u 0), .int v]) ⟨hx, hb, hml, hown, hts⟩ (c_L_pick l a L xs (281 + k) 12 (by omega) (by omega) (by omega) (by omega)) (va_cwS 3 hts gL_lay_L_pick rfl rfl rfl (by decide +kernel) ⟨Nat.le_of_ble_eq_true rfl, Nat.le_of_ble_eq_true rfl⟩) (scP_s hSC hS) rfl rfl hl.1 rfl (lv_room (Nat.le_of_ble_eq_true rfl)) dL_lay_261 ⟨show _ ≤ 108 from by omega, show _ ≤ 648 from by omega⟩) ?_
          have hp261 : (pkN xs L (281 + k) 12) < 12 := pkN_lt (by omega)
          refine lv_iconst (v := 0) hx hb dL_lay_264 (by decide) ?_
          refine lv_iconst (v := 0) hx hb dL_lay_265 (by decide) ?_
          refine callE (vx_runSW (As := [.ref (u 0), .int (nI 8), .int (nI (pkN xs L (281 + k) 12)), .int 0, .int 0]) (rest := [.int v]) ⟨hx, hb, hml, hown, hts⟩ (c_L_deed l D C ev u K T 8 (nI (pkN xs L (281 + k) 12)) 0 0 hl9 hd (by decide) x _ hF) (vx_cwSW 5 hts gL_lay_L_deed rfl rfl rfl (by decide +kernel) ⟨Nat.le_of_ble_eq_true rfl, Nat.le_of_ble_eq_true rfl⟩) (hloP_s hP hK hE hD hR hX hT9 hV9 hDV hN hC hS (all_F hD hS hA)) rfl rfl hl.1 rfl (lv_room (Nat.le_of_ble_eq_true rfl)) dL_lay_266 ⟨show _ ≤ 108 from by omega, show _ ≤ 648 from by omega⟩) hS (all_F hD hS hA) (fun x9 H9 locs9 hF9 hP9 hD9 _ hS9 => ?_)
          have hD9 : va_D A (kW C ev u (plK K 8 (nI (pkN xs L (281 + k) 12)) 0 0) x9) := hD9.weaken (fun _ q _ h => all_F hD hS hA q.1 h)
          obtain ⟨hd9, -, hm9⟩ := deed_all hd (n := 8) (by decide) (nI (pkN xs L (281 + k) 12)) 0 0
          generalize plK K 8 (nI (pkN xs L (281 + k) 12)) 0 0 = K9 at hP9 hD9 hd9 hm9
          generalize deedV ((plF K 8 (nI (pkN xs L (281 + k) 12)) 0 0).1, (plF K 8 (nI (pkN xs L (281 + k) 12)) 0 0).2.1) = r9
          refine lv_goto (tgt := 273) hx hb dL_lay_269 (by decide) ?_
          refine lv_iadd hx hb dL_lay_273 ?_
          refine lv_istore_n (lv' := [(2, .int (v + r9)), (3, .int (nI k)), (0, .ref (u 0)), (1, .ref a)]) hx hb dL_lay_274 rfl hl (by decide) rfl (fun ls hl => ?_)
          refine lv_iinc (v := nI (k + 1)) (lv' := [(3, .int (nI (k + 1))), (2, .int (v + r9)), (0, .ref (u 0)), (1, .ref a)]) hx hb dL_lay_275 hl (k := 1) rfl (by exact nI_1 _) (by decide) rfl (fun ls hl => ?_)
          refine lv_goto (tgt := 119) hx hb dL_lay_278 (by decide) ?_
          exact ih (k + 1) K9 x9 H9 locs9 _ _ ls (v + r9) (by omega) hd9 hF9 (lv_sub hl [0, 1, 2, 3] rfl) (by omega) (by omega) hP9 hD9 hS9
      have J188 : ∀ (K : CT) (x : KX) (H : Heap) (locs : List Loc) (cells slots : Nat) (ls : Array Slot) (v : Int32), DI K → kF T x → lv_has ls 4 [(3, .int (nI k)), (2, .int v), (0, .ref (u 0)), (1, .ref a)] → cells + (2 + r * 3) ≤ 108 → slots + (12 + r * 18) ≤ 648 → va_P D vwCl (kW C ev u K x) H → va_D A (kW C ev u K x) → va_S A s.heap H locs → W p l e ({ frames := 11, cells := 108, slots := 648, locals := 260 } : Room) s m ([.ref (u 0), .ref a] : List Value).toArray below meth c H locs cells slots (MQ below (eO (fun _ : CT × KX => none) D (fun q => DI q.1 ∧ kF T q.2) (fun q => kW C ev u q.1 q.2) A) ([.ref (u 0), .ref a] : List Value).toArray s 108 648 A) (F0 m 188 ls []) := by
        intro K x H locs cells slots ls v hd hF hl hc hs hP hD hS
        refine lv_iload_n hx hb dL_lay_188 rfl (lv_at hl 1 rfl) ?_
        refine lv_aload_n hx hb dL_lay_189 rfl (lv_at hl 3 rfl) ?_
        refine lv_sipush (v := 191) hx hb dL_lay_190 (by decide +kernel) ?_
        refine lv_iload_n hx hb dL_lay_193 rfl (lv_at hl 0 rfl) ?_
        refine lv_iadd hx hb dL_lay_194 ?_
        refine topI (y := nI (191 + k)) (show nI 191 + nI k = nI (191 + k)  from nI_add _ _) ?_
        refine lv_iconst (v := 5) hx hb dL_lay_195 (by decide) ?_
        refine callRo (va_runS (As := [.ref a, .int (nI (191 + k)), .int (nI 5)]) (rest := [.int v]) ⟨hx, hb, hml, hown, hts⟩ (c_L_pick l a L xs (191 + k) 5 (by omega) (by omega) (by omega) (by omega)) (va_cwS 3 hts gL_lay_L_pick rfl rfl rfl (by decide +kernel) ⟨Nat.le_of_ble_eq_true rfl, Nat.le_of_ble_eq_true rfl⟩) (scP_s hSC hS) rfl rfl hl.1 rfl (lv_room (Nat.le_of_ble_eq_true rfl)) dL_lay_196 ⟨show _ ≤ 108 from by omega, show _ ≤ 648 from by omega⟩) ?_
        have hp196 : (pkN xs L (191 + k) 5) < 5 := pkN_lt (by omega)
        refine lv_if_ne (tgt := 233) hx hb dL_lay_199 (by decide) (fun _ => ?_) (fun _ => ?_)
        · skip
          refine lv_iconst (v := 0) hx hb dL_lay_233 (by decide) ?_
          refine lv_iadd hx hb dL_lay_234 ?_
          refine lv_istore_n (lv' := [(2, .int (v + 0)), (3, .int (nI k)), (0, .ref (u 0)), (1, .ref a)]) hx hb dL_lay_235 rfl hl (by decide) rfl (fun ls hl => ?_)
          exact J236  K x H locs _ _ ls (v + 0) hd hF (lv_sub hl [1, 0, 2, 3] rfl) (by omega) (by omega) hP hD hS
        · skip
          refine lv_aload_n hx hb dL_lay_202 rfl (lv_at hl 2 rfl) ?_
          refine lv_bipush (v := 7) hx hb dL_lay_203 (by decide) ?_
          refine lv_aload_n hx hb dL_lay_205 rfl (lv_at hl 3 rfl) ?_
          refine lv_sipush (v := 221) hx hb dL_lay_206 (by decide +kernel) ?_
          refine lv_iload_n hx hb dL_lay_209 rfl (lv_at hl 0 rfl) ?_
          refine lv_iadd hx hb dL_lay_210 ?_
          refine topI (y := nI (221 + k)) (show nI 221 + nI k = nI (221 + k)  from nI_add _ _) ?_
          refine lv_iconst (v := 4) hx hb dL_lay_211 (by decide) ?_
          refine callRo (va_runS (As := [.ref a, .int (nI (221 + k)), .int (nI 4)]) (rest := [.int 7, .ref (u 0), .int v]) ⟨hx, hb, hml, hown, hts⟩ (c_L_pick l a L xs (221 + k) 4 (by omega) (by omega) (by omega) (by omega)) (va_cwS 3 hts gL_lay_L_pick rfl rfl rfl (by decide +kernel) ⟨Nat.le_of_ble_eq_true rfl, Nat.le_of_ble_eq_true rfl⟩) (scP_s hSC hS) rfl rfl hl.1 rfl (lv_room (Nat.le_of_ble_eq_true rfl)) dL_lay_212 ⟨show _ ≤ 108 from by omega, show _ ≤ 648 from by omega⟩) ?_
          have hp212 : (pkN xs L (221 + k) 4) < 4 := pkN_lt (by omega)
          refine lv_aload_n hx hb dL_lay_215 rfl (lv_at hl 3 rfl) ?_
          refine lv_sipush (v := 131) hx hb dL_lay_216 (by decide +kernel) ?_
          refine lv_iload_n hx hb dL_lay_219 rfl (lv_at hl 0 rfl) ?_
          refine lv_iadd hx hb dL_lay_220 ?_
          refine topI (y := nI (131 + k)) (show nI 131 + nI k = nI (131 + k)  from nI_add _ _) ?_
          refine lv_bipush (v := 12) hx hb dL_lay_221 (by decide) ?_
          refine callRo (va_runS (As := [.ref a, .int (nI (131 + k)), .int (nI 12)]) (rest := [.int (nI (pkN xs L (221 + k) 4)), .int 7, .ref (u 0), .int v]) ⟨hx, hb, hml, hown, hts⟩ (c_L_pick l a L xs (131 + k) 12 (by omega) (by omega) (by omega) (by omega)) (va_cwS 3 hts gL_lay_L_pick rfl rfl rfl (by decide +kernel) ⟨Nat.le_of_ble_eq_true rfl, Nat.le_of_ble_eq_true rfl⟩) (scP_s hSC hS) rfl rfl hl.1 rfl (lv_room (Nat.le_of_ble_eq_true rfl)) dL_lay_223 ⟨show _ ≤ 108 from by omega, show _ ≤ 648 from by omega⟩) ?_
          have hp223 : (pkN xs L (131 + k) 12) < 12 := pkN_lt (by omega)
          refine lv_iconst (v := 0) hx hb dL_lay_226 (by decide) ?_
          refine callE (vx_runSW (As := [.ref (u 0), .int (nI 7), .int (nI (pkN xs L (221 + k) 4)), .int (nI (pkN xs L (131 + k) 12)), .int 0]) (rest := [.int v]) ⟨hx, hb, hml, hown, hts⟩ (c_L_deed l D C ev u K T 7 (nI (pkN xs L (221 + k) 4)) (nI (pkN xs L (131 + k) 12)) 0 hl9 hd (by decide) x _ hF) (vx_cwSW 5 hts gL_lay_L_deed rfl rfl rfl (by decide +kernel) ⟨Nat.le_of_ble_eq_true rfl, Nat.le_of_ble_eq_true rfl⟩) (hloP_s hP hK hE hD hR hX hT9 hV9 hDV hN hC hS (all_F hD hS hA)) rfl rfl hl.1 rfl (lv_room (Nat.le_of_ble_eq_true rfl)) dL_lay_227 ⟨show _ ≤ 108 from by omega, show _ ≤ 648 from by omega⟩) hS (all_F hD hS hA) (fun x9 H9 locs9 hF9 hP9 hD9 _ hS9 => ?_)
          have hD9 : va_D A (kW C ev u (plK K 7 (nI (pkN xs L (221 + k) 4)) (nI (pkN xs L (131 + k) 12)) 0) x9) := hD9.weaken (fun _ q _ h => all_F hD hS hA q.1 h)
          obtain ⟨hd9, -, hm9⟩ := deed_all hd (n := 7) (by decide) (nI (pkN xs L (221 + k) 4)) (nI (pkN xs L (131 + k) 12)) 0
          generalize plK K 7 (nI (pkN xs L (221 + k) 4)) (nI (pkN xs L (131 + k) 12)) 0 = K9 at hP9 hD9 hd9 hm9
          generalize deedV ((plF K 7 (nI (pkN xs L (221 + k) 4)) (nI (pkN xs L (131 + k) 12)) 0).1, (plF K 7 (nI (pkN xs L (221 + k) 4)) (nI (pkN xs L (131 + k) 12)) 0).2.1) = r9
          refine lv_goto (tgt := 234) hx hb dL_lay_230 (by decide) ?_
          refine lv_iadd hx hb dL_lay_234 ?_
          refine lv_istore_n (lv' := [(2, .int (v + r9)), (3, .int (nI k)), (0, .ref (u 0)), (1, .ref a)]) hx hb dL_lay_235 rfl hl (by decide) rfl (fun ls hl => ?_)
          exact J236  K9 x9 H9 locs9 _ _ ls (v + r9) hd9 hF9 (lv_sub hl [1, 0, 2, 3] rfl) (by omega) (by omega) hP9 hD9 hS9
      refine lv_iload_n hx hb dL_lay_119 rfl (lv_at hl 0 rfl) ?_
      refine lv_aload_n hx hb dL_lay_120 rfl (lv_at hl 3 rfl) ?_
      refine lv_bipush (v := 70) hx hb dL_lay_121 (by decide) ?_
      refine lv_bipush (v := 30) hx hb dL_lay_123 (by decide) ?_
      refine callRo (va_runS (As := [.ref a, .int (nI 70), .int (nI 30)]) (rest := [.int (nI k)]) ⟨hx, hb, hml, hown, hts⟩ (c_L_pick l a L xs 70 30 (by omega) (by omega) (by omega) (by omega)) (va_cwS 3 hts gL_lay_L_pick rfl rfl rfl (by decide +kernel) ⟨Nat.le_of_ble_eq_true rfl, Nat.le_of_ble_eq_true rfl⟩) (scP_s hSC hS) rfl rfl hl.1 rfl (lv_room (Nat.le_of_ble_eq_true rfl)) dL_lay_125 ⟨show _ ≤ 108 from by omega, show _ ≤ 648 from by omega⟩) ?_
      have hp125 : (pkN xs L 70 30) < 30 := pkN_lt (by omega)
      refine lv_icmp_ge (tgt := 281) hx hb dL_lay_128 (by decide) (fun c => absurd c (by rw [ile, nI_toInt (by omega), nI_toInt (by omega)]; omega)) (fun _ => ?_)
      refine lv_iload_n hx hb dL_lay_131 rfl (lv_at hl 1 rfl) ?_
      refine lv_aload_n hx hb dL_lay_132 rfl (lv_at hl 2 rfl) ?_
      refine lv_aload_n hx hb dL_lay_133 rfl (lv_at hl 3 rfl) ?_
      refine lv_bipush (v := 71) hx hb dL_lay_134 (by decide) ?_
      refine lv_iload_n hx hb dL_lay_136 rfl (lv_at hl 0 rfl) ?_
      refine lv_iadd hx hb dL_lay_137 ?_
      refine topI (y := nI (71 + k)) (show nI 71 + nI k = nI (71 + k)  from nI_add _ _) ?_
      refine lv_iconst (v := 4) hx hb dL_lay_138 (by decide) ?_
      refine callRo (va_runS (As := [.ref a, .int (nI (71 + k)), .int (nI 4)]) (rest := [.ref (u 0), .int v]) ⟨hx, hb, hml, hown, hts⟩ (c_L_pick l a L xs (71 + k) 4 (by omega) (by omega) (by omega) (by omega)) (va_cwS 3 hts gL_lay_L_pick rfl rfl rfl (by decide +kernel) ⟨Nat.le_of_ble_eq_true rfl, Nat.le_of_ble_eq_true rfl⟩) (scP_s hSC hS) rfl rfl hl.1 rfl (lv_room (Nat.le_of_ble_eq_true rfl)) dL_lay_139 ⟨show _ ≤ 108 from by omega, show _ ≤ 648 from by omega⟩) ?_
      have hp139 : (pkN xs L (71 + k) 4) < 4 := pkN_lt (by omega)
      refine lv_if_ne (tgt := 149) hx hb dL_lay_142 (by decide) (fun _ => ?_) (fun _ => ?_)
      · skip
        refine lv_iconst (v := 4) hx hb dL_lay_149 (by decide) ?_
        refine lv_aload_n hx hb dL_lay_150 rfl (lv_at hl 3 rfl) ?_
        refine lv_bipush (v := 101) hx hb dL_lay_151 (by decide) ?_
        refine lv_iload_n hx hb dL_lay_153 rfl (lv_at hl 0 rfl) ?_
        refine lv_iadd hx hb dL_lay_154 ?_
        refine topI (y := nI (101 + k)) (show nI 101 + nI k = nI (101 + k)  from nI_add _ _) ?_
        refine lv_iconst (v := 4) hx hb dL_lay_155 (by decide) ?_
        refine callRo (va_runS (As := [.ref a, .int (nI (101 + k)), .int (nI 4)]) (rest := [.int 4, .ref (u 0), .int v]) ⟨hx, hb, hml, hown, hts⟩ (c_L_pick l a L xs (101 + k) 4 (by omega) (by omega) (by omega) (by omega)) (va_cwS 3 hts gL_lay_L_pick rfl rfl rfl (by decide +kernel) ⟨Nat.le_of_ble_eq_true rfl, Nat.le_of_ble_eq_true rfl⟩) (scP_s hSC hS) rfl rfl hl.1 rfl (lv_room (Nat.le_of_ble_eq_true rfl)) dL_lay_156 ⟨show _ ≤ 108 from by omega, show _ ≤ 648 from by omega⟩) ?_
        have hp156 : (pkN xs L (101 + k) 4) < 4 := pkN_lt (by omega)
        refine lv_aload_n hx hb dL_lay_159 rfl (lv_at hl 3 rfl) ?_
        refine lv_sipush (v := 131) hx hb dL_lay_160 (by decide +kernel) ?_
        refine lv_iload_n hx hb dL_lay_163 rfl (lv_at hl 0 rfl) ?_
        refine lv_iadd hx hb dL_lay_164 ?_
        refine topI (y := nI (131 + k)) (show nI 131 + nI k = nI (131 + k)  from nI_add _ _) ?_
        refine lv_bipush (v := 12) hx hb dL_lay_165 (by decide) ?_
        refine callRo (va_runS (As := [.ref a, .int (nI (131 + k)), .int (nI 12)]) (rest := [.int (nI (pkN xs L (101 + k) 4)), .int 4, .ref (u 0), .int v]) ⟨hx, hb, hml, hown, hts⟩ (c_L_pick l a L xs (131 + k) 12 (by omega) (by omega) (by omega) (by omega)) (va_cwS 3 hts gL_lay_L_pick rfl rfl rfl (by decide +kernel) ⟨Nat.le_of_ble_eq_true rfl, Nat.le_of_ble_eq_true rfl⟩) (scP_s hSC hS) rfl rfl hl.1 rfl (lv_room (Nat.le_of_ble_eq_true rfl)) dL_lay_167 ⟨show _ ≤ 108 from by omega, show _ ≤ 648 from by omega⟩) ?_
        have hp167 : (pkN xs L (131 + k) 12) < 12 := pkN_lt (by omega)
        refine lv_iconst (v := 1) hx hb dL_lay_170 (by decide) ?_
        refine lv_aload_n hx hb dL_lay_171 rfl (lv_at hl 3 rfl) ?_
        refine lv_sipush (v := 161) hx hb dL_lay_172 (by decide +kernel) ?_
        refine lv_iload_n hx hb dL_lay_175 rfl (lv_at hl 0 rfl) ?_
        refine lv_iadd hx hb dL_lay_176 ?_
        refine topI (y := nI (161 + k)) (show nI 161 + nI k = nI (161 + k)  from nI_add _ _) ?_
        refine lv_bipush (v := 25) hx hb dL_lay_177 (by decide) ?_
        refine callRo (va_runS (As := [.ref a, .int (nI (161 + k)), .int (nI 25)]) (rest := [.int 1, .int (nI (pkN xs L (131 + k) 12)), .int (nI (pkN xs L (101 + k) 4)), .int 4, .ref (u 0), .int v]) ⟨hx, hb, hml, hown, hts⟩ (c_L_pick l a L xs (161 + k) 25 (by omega) (by omega) (by omega) (by omega)) (va_cwS 3 hts gL_lay_L_pick rfl rfl rfl (by decide +kernel) ⟨Nat.le_of_ble_eq_true rfl, Nat.le_of_ble_eq_true rfl⟩) (scP_s hSC hS) rfl rfl hl.1 rfl (lv_room (Nat.le_of_ble_eq_true rfl)) dL_lay_179 ⟨show _ ≤ 108 from by omega, show _ ≤ 648 from by omega⟩) ?_
        have hp179 : (pkN xs L (161 + k) 25) < 25 := pkN_lt (by omega)
        refine lv_iadd hx hb dL_lay_182 ?_
        refine topI (y := nI (1 + (pkN xs L (161 + k) 25))) (show nI 1 + nI (pkN xs L (161 + k) 25) = nI (1 + (pkN xs L (161 + k) 25))  from nI_add _ _) ?_
        refine callE (vx_runSW (As := [.ref (u 0), .int (nI 4), .int (nI (pkN xs L (101 + k) 4)), .int (nI (pkN xs L (131 + k) 12)), .int (nI (1 + (pkN xs L (161 + k) 25)))]) (rest := [.int v]) ⟨hx, hb, hml, hown, hts⟩ (c_L_deed l D C ev u K T 4 (nI (pkN xs L (101 + k) 4)) (nI (pkN xs L (131 + k) 12)) (nI (1 + (pkN xs L (161 + k) 25))) hl9 hd (by decide) x _ hF) (vx_cwSW 5 hts gL_lay_L_deed rfl rfl rfl (by decide +kernel) ⟨Nat.le_of_ble_eq_true rfl, Nat.le_of_ble_eq_true rfl⟩) (hloP_s hP hK hE hD hR hX hT9 hV9 hDV hN hC hS (all_F hD hS hA)) rfl rfl hl.1 rfl (lv_room (Nat.le_of_ble_eq_true rfl)) dL_lay_183 ⟨show _ ≤ 108 from by omega, show _ ≤ 648 from by omega⟩) hS (all_F hD hS hA) (fun x9 H9 locs9 hF9 hP9 hD9 _ hS9 => ?_)
        have hD9 : va_D A (kW C ev u (plK K 4 (nI (pkN xs L (101 + k) 4)) (nI (pkN xs L (131 + k) 12)) (nI (1 + (pkN xs L (161 + k) 25)))) x9) := hD9.weaken (fun _ q _ h => all_F hD hS hA q.1 h)
        obtain ⟨hd9, -, hm9⟩ := deed_all hd (n := 4) (by decide) (nI (pkN xs L (101 + k) 4)) (nI (pkN xs L (131 + k) 12)) (nI (1 + (pkN xs L (161 + k) 25)))
        generalize plK K 4 (nI (pkN xs L (101 + k) 4)) (nI (pkN xs L (131 + k) 12)) (nI (1 + (pkN xs L (161 + k) 25))) = K9 at hP9 hD9 hd9 hm9
        generalize deedV ((plF K 4 (nI (pkN xs L (101 + k) 4)) (nI (pkN xs L (131 + k) 12)) (nI (1 + (pkN xs L (161 + k) 25)))).1, (plF K 4 (nI (pkN xs L (101 + k) 4)) (nI (pkN xs L (131 + k) 12)) (nI (1 + (pkN xs L (161 + k) 25)))).2.1) = r9
        refine lv_iadd hx hb dL_lay_186 ?_
        refine lv_istore_n (lv' := [(2, .int (v + r9)), (3, .int (nI k)), (0, .ref (u 0)), (1, .ref a)]) hx hb dL_lay_187 rfl hl (by decide) rfl (fun ls hl => ?_)
        exact J188  K9 x9 H9 locs9 _ _ ls (v + r9) hd9 hF9 (lv_sub hl [1, 0, 2, 3] rfl) (by omega) (by omega) hP9 hD9 hS9
      · skip
        refine lv_iconst (v := 5) hx hb dL_lay_145 (by decide) ?_
        refine lv_goto (tgt := 150) hx hb dL_lay_146 (by decide) ?_
        refine lv_aload_n hx hb dL_lay_150 rfl (lv_at hl 3 rfl) ?_
        refine lv_bipush (v := 101) hx hb dL_lay_151 (by decide) ?_
        refine lv_iload_n hx hb dL_lay_153 rfl (lv_at hl 0 rfl) ?_
        refine lv_iadd hx hb dL_lay_154 ?_
        refine topI (y := nI (101 + k)) (show nI 101 + nI k = nI (101 + k)  from nI_add _ _) ?_
        refine lv_iconst (v := 4) hx hb dL_lay_155 (by decide) ?_
        refine callRo (va_runS (As := [.ref a, .int (nI (101 + k)), .int (nI 4)]) (rest := [.int 5, .ref (u 0), .int v]) ⟨hx, hb, hml, hown, hts⟩ (c_L_pick l a L xs (101 + k) 4 (by omega) (by omega) (by omega) (by omega)) (va_cwS 3 hts gL_lay_L_pick rfl rfl rfl (by decide +kernel) ⟨Nat.le_of_ble_eq_true rfl, Nat.le_of_ble_eq_true rfl⟩) (scP_s hSC hS) rfl rfl hl.1 rfl (lv_room (Nat.le_of_ble_eq_true rfl)) dL_lay_156 ⟨show _ ≤ 108 from by omega, show _ ≤ 648 from by omega⟩) ?_
        have hp156 : (pkN xs L (101 + k) 4) < 4 := pkN_lt (by omega)
        refine lv_aload_n hx hb dL_lay_159 rfl (lv_at hl 3 rfl) ?_
        refine lv_sipush (v := 131) hx hb dL_lay_160 (by decide +kernel) ?_
        refine lv_iload_n hx hb dL_lay_163 rfl (lv_at hl 0 rfl) ?_
        refine lv_iadd hx hb dL_lay_164 ?_
        refine topI (y := nI (131 + k)) (show nI 131 + nI k = nI (131 + k)  from nI_add _ _) ?_
        refine lv_bipush (v := 12) hx hb dL_lay_165 (by decide) ?_
        refine callRo (va_runS (As := [.ref a, .int (nI (131 + k)), .int (nI 12)]) (rest := [.int (nI (pkN xs L (101 + k) 4)), .int 5, .ref (u 0), .int v]) ⟨hx, hb, hml, hown, hts⟩ (c_L_pick l a L xs (131 + k) 12 (by omega) (by omega) (by omega) (by omega)) (va_cwS 3 hts gL_lay_L_pick rfl rfl rfl (by decide +kernel) ⟨Nat.le_of_ble_eq_true rfl, Nat.le_of_ble_eq_true rfl⟩) (scP_s hSC hS) rfl rfl hl.1 rfl (lv_room (Nat.le_of_ble_eq_true rfl)) dL_lay_167 ⟨show _ ≤ 108 from by omega, show _ ≤ 648 from by omega⟩) ?_
        have hp167 : (pkN xs L (131 + k) 12) < 12 := pkN_lt (by omega)
        refine lv_iconst (v := 1) hx hb dL_lay_170 (by decide) ?_
        refine lv_aload_n hx hb dL_lay_171 rfl (lv_at hl 3 rfl) ?_
        refine lv_sipush (v := 161) hx hb dL_lay_172 (by decide +kernel) ?_
        refine lv_iload_n hx hb dL_lay_175 rfl (lv_at hl 0 rfl) ?_
        refine lv_iadd hx hb dL_lay_176 ?_
        refine topI (y := nI (161 + k)) (show nI 161 + nI k = nI (161 + k)  from nI_add _ _) ?_
        refine lv_bipush (v := 25) hx hb dL_lay_177 (by decide) ?_
        refine callRo (va_runS (As := [.ref a, .int (nI (161 + k)), .int (nI 25)]) (rest := [.int 1, .int (nI (pkN xs L (131 + k) 12)), .int (nI (pkN xs L (101 + k) 4)), .int 5, .ref (u 0), .int v]) ⟨hx, hb, hml, hown, hts⟩ (c_L_pick l a L xs (161 + k) 25 (by omega) (by omega) (by omega) (by omega)) (va_cwS 3 hts gL_lay_L_pick rfl rfl rfl (by decide +kernel) ⟨Nat.le_of_ble_eq_true rfl, Nat.le_of_ble_eq_true rfl⟩) (scP_s hSC hS) rfl rfl hl.1 rfl (lv_room (Nat.le_of_ble_eq_true rfl)) dL_lay_179 ⟨show _ ≤ 108 from by omega, show _ ≤ 648 from by omega⟩) ?_
        have hp179 : (pkN xs L (161 + k) 25) < 25 := pkN_lt (by omega)
        refine lv_iadd hx hb dL_lay_182 ?_
        refine topI (y := nI (1 + (pkN xs L (161 + k) 25))) (show nI 1 + nI (pkN xs L (161 + k) 25) = nI (1 + (pkN xs L (161 + k) 25))  from nI_add _ _) ?_
        refine callE (vx_runSW (As := [.ref (u 0), .int (nI 5), .int (nI (pkN xs L (101 + k) 4)), .int (nI (pkN xs L (131 + k) 12)), .int (nI (1 + (pkN xs L (161 + k) 25)))]) (rest := [.int v]) ⟨hx, hb, hml, hown, hts⟩ (c_L_deed l D C ev u K T 5 (nI (pkN xs L (101 + k) 4)) (nI (pkN xs L (131 + k) 12)) (nI (1 + (pkN xs L (161 + k) 25))) hl9 hd (by decide) x _ hF) (vx_cwSW 5 hts gL_lay_L_deed rfl rfl rfl (by decide +kernel) ⟨Nat.le_of_ble_eq_true rfl, Nat.le_of_ble_eq_true rfl⟩) (hloP_s hP hK hE hD hR hX hT9 hV9 hDV hN hC hS (all_F hD hS hA)) rfl rfl hl.1 rfl (lv_room (Nat.le_of_ble_eq_true rfl)) dL_lay_183 ⟨show _ ≤ 108 from by omega, show _ ≤ 648 from by omega⟩) hS (all_F hD hS hA) (fun x9 H9 locs9 hF9 hP9 hD9 _ hS9 => ?_)
        have hD9 : va_D A (kW C ev u (plK K 5 (nI (pkN xs L (101 + k) 4)) (nI (pkN xs L (131 + k) 12)) (nI (1 + (pkN xs L (161 + k) 25)))) x9) := hD9.weaken (fun _ q _ h => all_F hD hS hA q.1 h)
        obtain ⟨hd9, -, hm9⟩ := deed_all hd (n := 5) (by decide) (nI (pkN xs L (101 + k) 4)) (nI (pkN xs L (131 + k) 12)) (nI (1 + (pkN xs L (161 + k) 25)))
        generalize plK K 5 (nI (pkN xs L (101 + k) 4)) (nI (pkN xs L (131 + k) 12)) (nI (1 + (pkN xs L (161 + k) 25))) = K9 at hP9 hD9 hd9 hm9
        generalize deedV ((plF K 5 (nI (pkN xs L (101 + k) 4)) (nI (pkN xs L (131 + k) 12)) (nI (1 + (pkN xs L (161 + k) 25)))).1, (plF K 5 (nI (pkN xs L (101 + k) 4)) (nI (pkN xs L (131 + k) 12)) (nI (1 + (pkN xs L (161 + k) 25)))).2.1) = r9
        refine lv_iadd hx hb dL_lay_186 ?_
        refine lv_istore_n (lv' := [(2, .int (v + r9)), (3, .int (nI k)), (0, .ref (u 0)), (1, .ref a)]) hx hb dL_lay_187 rfl hl (by decide) rfl (fun ls hl => ?_)
        exact J188  K9 x9 H9 locs9 _ _ ls (v + r9) hd9 hF9 (lv_sub hl [1, 0, 2, 3] rfl) (by omega) (by omega) hP9 hD9 hS9
  have hb9 : pkN xs L 70 30 < 30 := pkN_lt (by decide)
  have J59 : ∀ (r k : Nat) (K : CT) (x : KX) (H : Heap) (locs : List Loc) (cells slots : Nat) (ls : Array Slot) (v : Int32), k + r = pkN xs L 10 17 → DI K → kF T x → lv_has ls 4 [(3, .int (nI k)), (2, .int v), (0, .ref (u 0)), (1, .ref a)] → cells + (r + 87) ≤ 108 → slots + (r * 6 + 522) ≤ 648 → va_P D vwCl (kW C ev u K x) H → va_D A (kW C ev u K x) → va_S A s.heap H locs → W p l e ({ frames := 11, cells := 108, slots := 648, locals := 260 } : Room) s m ([.ref (u 0), .ref a] : List Value).toArray below meth c H locs cells slots (MQ below (eO (fun _ : CT × KX => none) D (fun q => DI q.1 ∧ kF T q.2) (fun q => kW C ev u q.1 q.2) A) ([.ref (u 0), .ref a] : List Value).toArray s 108 648 A) (F0 m 59 ls []) := by
    have hb3 : pkN xs L 10 17 < 17 := pkN_lt (by decide)
    intro r
    induction r with
    | zero =>
      intro k K x H locs cells slots ls v hk hd hF hl hc hs hP hD hS
      refine lv_iload_n hx hb dL_lay_59 rfl (lv_at hl 0 rfl) ?_
      refine lv_aload_n hx hb dL_lay_60 rfl (lv_at hl 3 rfl) ?_
      refine lv_bipush (v := 10) hx hb dL_lay_61 (by decide) ?_
      refine lv_bipush (v := 17) hx hb dL_lay_63 (by decide) ?_
      refine callRo (va_runS (As := [.ref a, .int (nI 10), .int (nI 17)]) (rest := [.int (nI k)]) ⟨hx, hb, hml, hown, hts⟩ (c_L_pick l a L xs 10 17 (by omega) (by omega) (by omega) (by omega)) (va_cwS 3 hts gL_lay_L_pick rfl rfl rfl (by decide +kernel) ⟨Nat.le_of_ble_eq_true rfl, Nat.le_of_ble_eq_true rfl⟩) (scP_s hSC hS) rfl rfl hl.1 rfl (lv_room (Nat.le_of_ble_eq_true rfl)) dL_lay_65 ⟨show _ ≤ 108 from by omega, show _ ≤ 648 from by omega⟩) ?_
      have hp65 : (pkN xs L 10 17) < 17 := pkN_lt (by omega)
      refine lv_icmp_ge (tgt := 117) hx hb dL_lay_68 (by decide) (fun _ => ?_) (fun c => absurd (by rw [ile, nI_toInt (by omega), nI_toInt (by omega)]; omega) c)
      refine lv_iconst (v := 0) hx hb dL_lay_117 (by decide) ?_
      refine lv_istore_n (lv' := [(3, .int 0), (2, .int v), (0, .ref (u 0)), (1, .ref a)]) hx hb dL_lay_118 rfl hl (by decide) rfl (fun ls hl => ?_)
      exact J119 (pkN xs L 70 30) 0 K x H locs _ _ ls v (by omega) hd hF (lv_sub hl [0, 1, 2, 3] rfl) (by have := hb9; omega) (by have := hb9; omega) hP hD hS
    | succ r ih =>
      intro k K x H locs cells slots ls v hk hd hF hl hc hs hP hD hS
      refine lv_iload_n hx hb dL_lay_59 rfl (lv_at hl 0 rfl) ?_
      refine lv_aload_n hx hb dL_lay_60 rfl (lv_at hl 3 rfl) ?_
      refine lv_bipush (v := 10) hx hb dL_lay_61 (by decide) ?_
      refine lv_bipush (v := 17) hx hb dL_lay_63 (by decide) ?_
      refine callRo (va_runS (As := [.ref a, .int (nI 10), .int (nI 17)]) (rest := [.int (nI k)]) ⟨hx, hb, hml, hown, hts⟩ (c_L_pick l a L xs 10 17 (by omega) (by omega) (by omega) (by omega)) (va_cwS 3 hts gL_lay_L_pick rfl rfl rfl (by decide +kernel) ⟨Nat.le_of_ble_eq_true rfl, Nat.le_of_ble_eq_true rfl⟩) (scP_s hSC hS) rfl rfl hl.1 rfl (lv_room (Nat.le_of_ble_eq_true rfl)) dL_lay_65 ⟨show _ ≤ 108 from by omega, show _ ≤ 648 from by omega⟩) ?_
      have hp65 : (pkN xs L 10 17) < 17 := pkN_lt (by omega)
      refine lv_icmp_ge (tgt := 117) hx hb dL_lay_68 (by decide) (fun c => absurd c (by rw [ile, nI_toInt (by omega), nI_toInt (by omega)]; omega)) (fun _ => ?_)
      refine lv_iload_n hx hb dL_lay_71 rfl (lv_at hl 1 rfl) ?_
      refine lv_aload_n hx hb dL_lay_72 rfl (lv_at hl 2 rfl) ?_
      refine lv_iconst (v := 1) hx hb dL_lay_73 (by decide) ?_
      refine lv_aload_n hx hb dL_lay_74 rfl (lv_at hl 3 rfl) ?_
      refine lv_bipush (v := 11) hx hb dL_lay_75 (by decide) ?_
      refine lv_iload_n hx hb dL_lay_77 rfl (lv_at hl 0 rfl) ?_
      refine lv_iadd hx hb dL_lay_78 ?_
      refine topI (y := nI (11 + k)) (show nI 11 + nI k = nI (11 + k)  from nI_add _ _) ?_
      refine lv_bipush (v := 8) hx hb dL_lay_79 (by decide) ?_
      refine callRo (va_runS (As := [.ref a, .int (nI (11 + k)), .int (nI 8)]) (rest := [.int 1, .ref (u 0), .int v]) ⟨hx, hb, hml, hown, hts⟩ (c_L_pick l a L xs (11 + k) 8 (by omega) (by omega) (by omega) (by omega)) (va_cwS 3 hts gL_lay_L_pick rfl rfl rfl (by decide +kernel) ⟨Nat.le_of_ble_eq_true rfl, Nat.le_of_ble_eq_true rfl⟩) (scP_s hSC hS) rfl rfl hl.1 rfl (lv_room (Nat.le_of_ble_eq_true rfl)) dL_lay_81 ⟨show _ ≤ 108 from by omega, show _ ≤ 648 from by omega⟩) ?_
      have hp81 : (pkN xs L (11 + k) 8) < 8 := pkN_lt (by omega)
      refine lv_aload_n hx hb dL_lay_84 rfl (lv_at hl 3 rfl) ?_
      refine lv_bipush (v := 31) hx hb dL_lay_85 (by decide) ?_
      refine lv_iload_n hx hb dL_lay_87 rfl (lv_at hl 0 rfl) ?_
      refine lv_iadd hx hb dL_lay_88 ?_
      refine topI (y := nI (31 + k)) (show nI 31 + nI k = nI (31 + k)  from nI_add _ _) ?_
      refine lv_bipush (v := 8) hx hb dL_lay_89 (by decide) ?_
      refine callRo (va_runS (As := [.ref a, .int (nI (31 + k)), .int (nI 8)]) (rest := [.int (nI (pkN xs L (11 + k) 8)), .int 1, .ref (u 0), .int v]) ⟨hx, hb, hml, hown, hts⟩ (c_L_pick l a L xs (31 + k) 8 (by omega) (by omega) (by omega) (by omega)) (va_cwS 3 hts gL_lay_L_pick rfl rfl rfl (by decide +kernel) ⟨Nat.le_of_ble_eq_true rfl, Nat.le_of_ble_eq_true rfl⟩) (scP_s hSC hS) rfl rfl hl.1 rfl (lv_room (Nat.le_of_ble_eq_true rfl)) dL_lay_91 ⟨show _ ≤ 108 from by omega, show _ ≤ 648 from by omega⟩) ?_
      have hp91 : (pkN xs L (31 + k) 8) < 8 := pkN_lt (by omega)
      refine lv_iconst (v := 1) hx hb dL_lay_94 (by decide) ?_
      refine lv_aload_n hx hb dL_lay_95 rfl (lv_at hl 3 rfl) ?_
      refine lv_bipush (v := 51) hx hb dL_lay_96 (by decide) ?_
      refine lv_iload_n hx hb dL_lay_98 rfl (lv_at hl 0 rfl) ?_
      refine lv_iadd hx hb dL_lay_99 ?_
      refine topI (y := nI (51 + k)) (show nI 51 + nI k = nI (51 + k)  from nI_add _ _) ?_
      refine lv_bipush (v := 9) hx hb dL_lay_100 (by decide) ?_
      refine callRo (va_runS (As := [.ref a, .int (nI (51 + k)), .int (nI 9)]) (rest := [.int 1, .int (nI (pkN xs L (31 + k) 8)), .int (nI (pkN xs L (11 + k) 8)), .int 1, .ref (u 0), .int v]) ⟨hx, hb, hml, hown, hts⟩ (c_L_pick l a L xs (51 + k) 9 (by omega) (by omega) (by omega) (by omega)) (va_cwS 3 hts gL_lay_L_pick rfl rfl rfl (by decide +kernel) ⟨Nat.le_of_ble_eq_true rfl, Nat.le_of_ble_eq_true rfl⟩) (scP_s hSC hS) rfl rfl hl.1 rfl (lv_room (Nat.le_of_ble_eq_true rfl)) dL_lay_102 ⟨show _ ≤ 108 from by omega, show _ ≤ 648 from by omega⟩) ?_
      have hp102 : (pkN xs L (51 + k) 9) < 9 := pkN_lt (by omega)
      refine lv_iadd hx hb dL_lay_105 ?_
      refine topI (y := nI (1 + (pkN xs L (51 + k) 9))) (show nI 1 + nI (pkN xs L (51 + k) 9) = nI (1 + (pkN xs L (51 + k) 9))  from nI_add _ _) ?_
      refine callE (vx_runSW (As := [.ref (u 0), .int (nI 1), .int (nI (pkN xs L (11 + k) 8)), .int (nI (pkN xs L (31 + k) 8)), .int (nI (1 + (pkN xs L (51 + k) 9)))]) (rest := [.int v]) ⟨hx, hb, hml, hown, hts⟩ (c_L_deed l D C ev u K T 1 (nI (pkN xs L (11 + k) 8)) (nI (pkN xs L (31 + k) 8)) (nI (1 + (pkN xs L (51 + k) 9))) hl9 hd (by decide) x _ hF) (vx_cwSW 5 hts gL_lay_L_deed rfl rfl rfl (by decide +kernel) ⟨Nat.le_of_ble_eq_true rfl, Nat.le_of_ble_eq_true rfl⟩) (hloP_s hP hK hE hD hR hX hT9 hV9 hDV hN hC hS (all_F hD hS hA)) rfl rfl hl.1 rfl (lv_room (Nat.le_of_ble_eq_true rfl)) dL_lay_106 ⟨show _ ≤ 108 from by omega, show _ ≤ 648 from by omega⟩) hS (all_F hD hS hA) (fun x9 H9 locs9 hF9 hP9 hD9 _ hS9 => ?_)
      have hD9 : va_D A (kW C ev u (plK K 1 (nI (pkN xs L (11 + k) 8)) (nI (pkN xs L (31 + k) 8)) (nI (1 + (pkN xs L (51 + k) 9)))) x9) := hD9.weaken (fun _ q _ h => all_F hD hS hA q.1 h)
      obtain ⟨hd9, -, hm9⟩ := deed_all hd (n := 1) (by decide) (nI (pkN xs L (11 + k) 8)) (nI (pkN xs L (31 + k) 8)) (nI (1 + (pkN xs L (51 + k) 9)))
      generalize plK K 1 (nI (pkN xs L (11 + k) 8)) (nI (pkN xs L (31 + k) 8)) (nI (1 + (pkN xs L (51 + k) 9))) = K9 at hP9 hD9 hd9 hm9
      generalize deedV ((plF K 1 (nI (pkN xs L (11 + k) 8)) (nI (pkN xs L (31 + k) 8)) (nI (1 + (pkN xs L (51 + k) 9)))).1, (plF K 1 (nI (pkN xs L (11 + k) 8)) (nI (pkN xs L (31 + k) 8)) (nI (1 + (pkN xs L (51 + k) 9)))).2.1) = r9
      refine lv_iadd hx hb dL_lay_109 ?_
      refine lv_istore_n (lv' := [(2, .int (v + r9)), (3, .int (nI k)), (0, .ref (u 0)), (1, .ref a)]) hx hb dL_lay_110 rfl hl (by decide) rfl (fun ls hl => ?_)
      refine lv_iinc (v := nI (k + 1)) (lv' := [(3, .int (nI (k + 1))), (2, .int (v + r9)), (0, .ref (u 0)), (1, .ref a)]) hx hb dL_lay_111 hl (k := 1) rfl (by exact nI_1 _) (by decide) rfl (fun ls hl => ?_)
      refine lv_goto (tgt := 59) hx hb dL_lay_114 (by decide) ?_
      exact ih (k + 1) K9 x9 H9 locs9 _ _ ls (v + r9) (by omega) hd9 hF9 (lv_sub hl [0, 1, 2, 3] rfl) (by omega) (by omega) hP9 hD9 hS9
  have hb9 : pkN xs L 10 17 < 17 := pkN_lt (by decide)
  have J19 : ∀ (r k : Nat) (K : CT) (x : KX) (H : Heap) (locs : List Loc) (cells slots : Nat) (ls : Array Slot) (v : Int32), k + r = pkN xs L 1 5 → DI K → kF T x → lv_has ls 4 [(3, .int (nI k)), (2, .int v), (0, .ref (u 0)), (1, .ref a)] → cells + (r + 103) ≤ 108 → slots + (r * 6 + 618) ≤ 648 → va_P D vwCl (kW C ev u K x) H → va_D A (kW C ev u K x) → va_S A s.heap H locs → W p l e ({ frames := 11, cells := 108, slots := 648, locals := 260 } : Room) s m ([.ref (u 0), .ref a] : List Value).toArray below meth c H locs cells slots (MQ below (eO (fun _ : CT × KX => none) D (fun q => DI q.1 ∧ kF T q.2) (fun q => kW C ev u q.1 q.2) A) ([.ref (u 0), .ref a] : List Value).toArray s 108 648 A) (F0 m 19 ls []) := by
    have hb3 : pkN xs L 1 5 < 5 := pkN_lt (by decide)
    intro r
    induction r with
    | zero =>
      intro k K x H locs cells slots ls v hk hd hF hl hc hs hP hD hS
      refine lv_iload_n hx hb dL_lay_19 rfl (lv_at hl 0 rfl) ?_
      refine lv_aload_n hx hb dL_lay_20 rfl (lv_at hl 3 rfl) ?_
      refine lv_iconst (v := 1) hx hb dL_lay_21 (by decide) ?_
      refine lv_iconst (v := 5) hx hb dL_lay_22 (by decide) ?_
      refine callRo (va_runS (As := [.ref a, .int (nI 1), .int (nI 5)]) (rest := [.int (nI k)]) ⟨hx, hb, hml, hown, hts⟩ (c_L_pick l a L xs 1 5 (by omega) (by omega) (by omega) (by omega)) (va_cwS 3 hts gL_lay_L_pick rfl rfl rfl (by decide +kernel) ⟨Nat.le_of_ble_eq_true rfl, Nat.le_of_ble_eq_true rfl⟩) (scP_s hSC hS) rfl rfl hl.1 rfl (lv_room (Nat.le_of_ble_eq_true rfl)) dL_lay_23 ⟨show _ ≤ 108 from by omega, show _ ≤ 648 from by omega⟩) ?_
      have hp23 : (pkN xs L 1 5) < 5 := pkN_lt (by omega)
      refine lv_icmp_ge (tgt := 57) hx hb dL_lay_26 (by decide) (fun _ => ?_) (fun c => absurd (by rw [ile, nI_toInt (by omega), nI_toInt (by omega)]; omega) c)
      refine lv_iconst (v := 0) hx hb dL_lay_57 (by decide) ?_
      refine lv_istore_n (lv' := [(3, .int 0), (2, .int v), (0, .ref (u 0)), (1, .ref a)]) hx hb dL_lay_58 rfl hl (by decide) rfl (fun ls hl => ?_)
      exact J59 (pkN xs L 10 17) 0 K x H locs _ _ ls v (by omega) hd hF (lv_sub hl [0, 1, 2, 3] rfl) (by have := hb9; omega) (by have := hb9; omega) hP hD hS
    | succ r ih =>
      intro k K x H locs cells slots ls v hk hd hF hl hc hs hP hD hS
      refine lv_iload_n hx hb dL_lay_19 rfl (lv_at hl 0 rfl) ?_
      refine lv_aload_n hx hb dL_lay_20 rfl (lv_at hl 3 rfl) ?_
      refine lv_iconst (v := 1) hx hb dL_lay_21 (by decide) ?_
      refine lv_iconst (v := 5) hx hb dL_lay_22 (by decide) ?_
      refine callRo (va_runS (As := [.ref a, .int (nI 1), .int (nI 5)]) (rest := [.int (nI k)]) ⟨hx, hb, hml, hown, hts⟩ (c_L_pick l a L xs 1 5 (by omega) (by omega) (by omega) (by omega)) (va_cwS 3 hts gL_lay_L_pick rfl rfl rfl (by decide +kernel) ⟨Nat.le_of_ble_eq_true rfl, Nat.le_of_ble_eq_true rfl⟩) (scP_s hSC hS) rfl rfl hl.1 rfl (lv_room (Nat.le_of_ble_eq_true rfl)) dL_lay_23 ⟨show _ ≤ 108 from by omega, show _ ≤ 648 from by omega⟩) ?_
      have hp23 : (pkN xs L 1 5) < 5 := pkN_lt (by omega)
      refine lv_icmp_ge (tgt := 57) hx hb dL_lay_26 (by decide) (fun c => absurd c (by rw [ile, nI_toInt (by omega), nI_toInt (by omega)]; omega)) (fun _ => ?_)
      refine lv_iload_n hx hb dL_lay_29 rfl (lv_at hl 1 rfl) ?_
      refine lv_aload_n hx hb dL_lay_30 rfl (lv_at hl 2 rfl) ?_
      refine lv_iconst (v := 0) hx hb dL_lay_31 (by decide) ?_
      refine lv_bipush (v := 20) hx hb dL_lay_32 (by decide) ?_
      refine lv_aload_n hx hb dL_lay_34 rfl (lv_at hl 3 rfl) ?_
      refine lv_iconst (v := 2) hx hb dL_lay_35 (by decide) ?_
      refine lv_iload_n hx hb dL_lay_36 rfl (lv_at hl 0 rfl) ?_
      refine lv_iadd hx hb dL_lay_37 ?_
      refine topI (y := nI (2 + k)) (show nI 2 + nI k = nI (2 + k)  from nI_add _ _) ?_
      refine lv_bipush (v := 80) hx hb dL_lay_38 (by decide) ?_
      refine callRo (va_runS (As := [.ref a, .int (nI (2 + k)), .int (nI 80)]) (rest := [.int 20, .int 0, .ref (u 0), .int v]) ⟨hx, hb, hml, hown, hts⟩ (c_L_pick l a L xs (2 + k) 80 (by omega) (by omega) (by omega) (by omega)) (va_cwS 3 hts gL_lay_L_pick rfl rfl rfl (by decide +kernel) ⟨Nat.le_of_ble_eq_true rfl, Nat.le_of_ble_eq_true rfl⟩) (scP_s hSC hS) rfl rfl hl.1 rfl (lv_room (Nat.le_of_ble_eq_true rfl)) dL_lay_40 ⟨show _ ≤ 108 from by omega, show _ ≤ 648 from by omega⟩) ?_
      have hp40 : (pkN xs L (2 + k) 80) < 80 := pkN_lt (by omega)
      refine lv_iadd hx hb dL_lay_43 ?_
      refine topI (y := nI (20 + (pkN xs L (2 + k) 80))) (show nI 20 + nI (pkN xs L (2 + k) 80) = nI (20 + (pkN xs L (2 + k) 80))  from nI_add _ _) ?_
      refine lv_iconst (v := 0) hx hb dL_lay_44 (by decide) ?_
      refine lv_iconst (v := 0) hx hb dL_lay_45 (by decide) ?_
      refine callE (vx_runSW (As := [.ref (u 0), .int (nI 0), .int (nI (20 + (pkN xs L (2 + k) 80))), .int 0, .int 0]) (rest := [.int v]) ⟨hx, hb, hml, hown, hts⟩ (c_L_deed l D C ev u K T 0 (nI (20 + (pkN xs L (2 + k) 80))) 0 0 hl9 hd (by decide) x _ hF) (vx_cwSW 5 hts gL_lay_L_deed rfl rfl rfl (by decide +kernel) ⟨Nat.le_of_ble_eq_true rfl, Nat.le_of_ble_eq_true rfl⟩) (hloP_s hP hK hE hD hR hX hT9 hV9 hDV hN hC hS (all_F hD hS hA)) rfl rfl hl.1 rfl (lv_room (Nat.le_of_ble_eq_true rfl)) dL_lay_46 ⟨show _ ≤ 108 from by omega, show _ ≤ 648 from by omega⟩) hS (all_F hD hS hA) (fun x9 H9 locs9 hF9 hP9 hD9 _ hS9 => ?_)
      have hD9 : va_D A (kW C ev u (plK K 0 (nI (20 + (pkN xs L (2 + k) 80))) 0 0) x9) := hD9.weaken (fun _ q _ h => all_F hD hS hA q.1 h)
      obtain ⟨hd9, -, hm9⟩ := deed_all hd (n := 0) (by decide) (nI (20 + (pkN xs L (2 + k) 80))) 0 0
      generalize plK K 0 (nI (20 + (pkN xs L (2 + k) 80))) 0 0 = K9 at hP9 hD9 hd9 hm9
      generalize deedV ((plF K 0 (nI (20 + (pkN xs L (2 + k) 80))) 0 0).1, (plF K 0 (nI (20 + (pkN xs L (2 + k) 80))) 0 0).2.1) = r9
      refine lv_iadd hx hb dL_lay_49 ?_
      refine lv_istore_n (lv' := [(2, .int (v + r9)), (3, .int (nI k)), (0, .ref (u 0)), (1, .ref a)]) hx hb dL_lay_50 rfl hl (by decide) rfl (fun ls hl => ?_)
      refine lv_iinc (v := nI (k + 1)) (lv' := [(3, .int (nI (k + 1))), (2, .int (v + r9)), (0, .ref (u 0)), (1, .ref a)]) hx hb dL_lay_51 hl (k := 1) rfl (by exact nI_1 _) (by decide) rfl (fun ls hl => ?_)
      refine lv_goto (tgt := 19) hx hb dL_lay_54 (by decide) ?_
      exact ih (k + 1) K9 x9 H9 locs9 _ _ ls (v + r9) (by omega) hd9 hF9 (lv_sub hl [0, 1, 2, 3] rfl) (by omega) (by omega) hP9 hD9 hS9
  have hb9 : pkN xs L 1 5 < 5 := pkN_lt (by decide)
  refine lv_aload_n hx hb dL_lay_0 rfl (lv_at hl 0 rfl) ?_
  refine lv_iconst (v := 3) hx hb dL_lay_1 (by decide) ?_
  refine lv_aload_n hx hb dL_lay_2 rfl (lv_at hl 1 rfl) ?_
  refine lv_iconst (v := 0) hx hb dL_lay_3 (by decide) ?_
  refine lv_bipush (v := 10) hx hb dL_lay_4 (by decide) ?_
  refine callRo (va_runS (As := [.ref a, .int (nI 0), .int (nI 10)]) (rest := [.int 3, .ref (u 0)]) ⟨hx, hb, hml, hown, hts⟩ (c_L_pick l a L xs 0 10 (by omega) (by omega) (by omega) (by omega)) (va_cwS 3 hts gL_lay_L_pick rfl rfl rfl (by decide +kernel) ⟨Nat.le_of_ble_eq_true rfl, Nat.le_of_ble_eq_true rfl⟩) (scP_s hSC hS) rfl rfl hl.1 rfl (lv_room (Nat.le_of_ble_eq_true rfl)) dL_lay_6 ⟨show _ ≤ 108 from by omega, show _ ≤ 648 from by omega⟩) ?_
  have hp6 : (pkN xs L 0 10) < 10 := pkN_lt (by omega)
  refine lv_iconst (v := 3) hx hb dL_lay_9 (by decide) ?_
  refine lv_idiv hx hb dL_lay_10 (by decide) ?_
  refine lv_iconst (v := 0) hx hb dL_lay_11 (by decide) ?_
  refine lv_iconst (v := 0) hx hb dL_lay_12 (by decide) ?_
  refine callE (vx_runSW (As := [.ref (u 0), .int (nI 3), .int (nI (pkN xs L 0 10) / 3), .int 0, .int 0]) (rest := []) ⟨hx, hb, hml, hown, hts⟩ (c_L_deed l D C ev u K T 3 (nI (pkN xs L 0 10) / 3) 0 0 hl9 hd (by decide) x _ hF) (vx_cwSW 5 hts gL_lay_L_deed rfl rfl rfl (by decide +kernel) ⟨Nat.le_of_ble_eq_true rfl, Nat.le_of_ble_eq_true rfl⟩) (hloP_s hP hK hE hD hR hX hT9 hV9 hDV hN hC hS (all_F hD hS hA)) rfl rfl hl.1 rfl (lv_room (Nat.le_of_ble_eq_true rfl)) dL_lay_13 ⟨show _ ≤ 108 from by omega, show _ ≤ 648 from by omega⟩) hS (all_F hD hS hA) (fun x9 H9 locs9 hF9 hP9 hD9 _ hS9 => ?_)
  have hD9 : va_D A (kW C ev u (plK K 3 (nI (pkN xs L 0 10) / 3) 0 0) x9) := hD9.weaken (fun _ q _ h => all_F hD hS hA q.1 h)
  obtain ⟨hd9, -, hm9⟩ := deed_all hd (n := 3) (by decide) (nI (pkN xs L 0 10) / 3) 0 0
  generalize plK K 3 (nI (pkN xs L 0 10) / 3) 0 0 = K9 at hP9 hD9 hd9 hm9
  generalize deedV ((plF K 3 (nI (pkN xs L 0 10) / 3) 0 0).1, (plF K 3 (nI (pkN xs L 0 10) / 3) 0 0).2.1) = r9
  refine lv_istore_n (lv' := [(2, .int r9), (0, .ref (u 0)), (1, .ref a)]) hx hb dL_lay_16 rfl hl (by decide) rfl (fun ls hl => ?_)
  refine lv_iconst (v := 0) hx hb dL_lay_17 (by decide) ?_
  refine lv_istore_n (lv' := [(3, .int 0), (2, .int r9), (0, .ref (u 0)), (1, .ref a)]) hx hb dL_lay_18 rfl hl (by decide) rfl (fun ls hl => ?_)
  exact J19 (pkN xs L 1 5) 0 K9 x9 H9 locs9 _ _ ls r9 (Nat.zero_add _) hd9 hF9 (lv_sub hl [0, 1, 2, 3] rfl) (by show 0 + 1 + _ ≤ _; omega) (by show 0 + 6 + _ ≤ _; omega) hP9 hD9 hS9
