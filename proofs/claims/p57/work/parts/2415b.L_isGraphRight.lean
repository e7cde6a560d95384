theorem dL_isGraphRight_0 : decode cL_isGraphRight 0 = .ok (.bipush 8, 2) := by decide +kernel
theorem dL_isGraphRight_2 : decode cL_isGraphRight 2 = .ok (.bipush 8, 2) := by decide +kernel
theorem dL_isGraphRight_4 : decode cL_isGraphRight 4 = .ok (.multianewarray 156 2, 4) := by decide +kernel
theorem dL_isGraphRight_8 : decode cL_isGraphRight 8 = .ok (.astore_n 1, 1) := by decide +kernel
theorem dL_isGraphRight_9 : decode cL_isGraphRight 9 = .ok (.iconst 0, 1) := by decide +kernel
theorem dL_isGraphRight_10 : decode cL_isGraphRight 10 = .ok (.istore_n 2, 1) := by decide +kernel
theorem dL_isGraphRight_11 : decode cL_isGraphRight 11 = .ok (.iload_n 2, 1) := by decide +kernel
theorem dL_isGraphRight_12 : decode cL_isGraphRight 12 = .ok (.bipush 64, 2) := by decide +kernel
theorem dL_isGraphRight_14 : decode cL_isGraphRight 14 = .ok (.if_icmp .ge 37, 3) := by decide +kernel
theorem dL_isGraphRight_17 : decode cL_isGraphRight 17 = .ok (.aload_n 1, 1) := by decide +kernel
theorem dL_isGraphRight_18 : decode cL_isGraphRight 18 = .ok (.iload_n 2, 1) := by decide +kernel
theorem dL_isGraphRight_19 : decode cL_isGraphRight 19 = .ok (.bipush 8, 2) := by decide +kernel
theorem dL_isGraphRight_21 : decode cL_isGraphRight 21 = .ok (.idiv, 1) := by decide +kernel
theorem dL_isGraphRight_22 : decode cL_isGraphRight 22 = .ok (.aaload, 1) := by decide +kernel
theorem dL_isGraphRight_23 : decode cL_isGraphRight 23 = .ok (.iload_n 2, 1) := by decide +kernel
theorem dL_isGraphRight_24 : decode cL_isGraphRight 24 = .ok (.bipush 8, 2) := by decide +kernel
theorem dL_isGraphRight_26 : decode cL_isGraphRight 26 = .ok (.irem, 1) := by decide +kernel
theorem dL_isGraphRight_27 : decode cL_isGraphRight 27 = .ok (.iload_n 2, 1) := by decide +kernel
theorem dL_isGraphRight_28 : decode cL_isGraphRight 28 = .ok (.bipush 8, 2) := by decide +kernel
theorem dL_isGraphRight_30 : decode cL_isGraphRight 30 = .ok (.idiv, 1) := by decide +kernel
theorem dL_isGraphRight_31 : decode cL_isGraphRight 31 = .ok (.iload_n 2, 1) := by decide +kernel
theorem dL_isGraphRight_32 : decode cL_isGraphRight 32 = .ok (.bipush 8, 2) := by decide +kernel
theorem dL_isGraphRight_34 : decode cL_isGraphRight 34 = .ok (.irem, 1) := by decide +kernel
theorem dL_isGraphRight_35 : decode cL_isGraphRight 35 = .ok (.if_icmp .ne 7, 3) := by decide +kernel
theorem dL_isGraphRight_38 : decode cL_isGraphRight 38 = .ok (.iconst 0, 1) := by decide +kernel
theorem dL_isGraphRight_39 : decode cL_isGraphRight 39 = .ok (.goto 5, 3) := by decide +kernel
theorem dL_isGraphRight_42 : decode cL_isGraphRight 42 = .ok (.ldc 158, 2) := by decide +kernel
theorem dL_isGraphRight_44 : decode cL_isGraphRight 44 = .ok (.iastore, 1) := by decide +kernel
theorem dL_isGraphRight_45 : decode cL_isGraphRight 45 = .ok (.iinc 2 1, 3) := by decide +kernel
theorem dL_isGraphRight_48 : decode cL_isGraphRight 48 = .ok (.goto (-37), 3) := by decide +kernel
theorem dL_isGraphRight_51 : decode cL_isGraphRight 51 = .ok (.iconst 0, 1) := by decide +kernel
theorem dL_isGraphRight_52 : decode cL_isGraphRight 52 = .ok (.istore_n 2, 1) := by decide +kernel
theorem dL_isGraphRight_53 : decode cL_isGraphRight 53 = .ok (.iload_n 2, 1) := by decide +kernel
theorem dL_isGraphRight_54 : decode cL_isGraphRight 54 = .ok (.aload_n 0, 1) := by decide +kernel
theorem dL_isGraphRight_55 : decode cL_isGraphRight 55 = .ok (.invokevirtual 128, 3) := by decide +kernel
theorem dL_isGraphRight_58 : decode cL_isGraphRight 58 = .ok (.if_icmp .ge 53, 3) := by decide +kernel
theorem dL_isGraphRight_61 : decode cL_isGraphRight 61 = .ok (.aload_n 0, 1) := by decide +kernel
theorem dL_isGraphRight_62 : decode cL_isGraphRight 62 = .ok (.iload_n 2, 1) := by decide +kernel
theorem dL_isGraphRight_63 : decode cL_isGraphRight 63 = .ok (.invokevirtual 159, 3) := by decide +kernel
theorem dL_isGraphRight_66 : decode cL_isGraphRight 66 = .ok (.ifCond .eq 39, 3) := by decide +kernel
theorem dL_isGraphRight_69 : decode cL_isGraphRight 69 = .ok (.aload_n 1, 1) := by decide +kernel
theorem dL_isGraphRight_70 : decode cL_isGraphRight 70 = .ok (.aload_n 0, 1) := by decide +kernel
theorem dL_isGraphRight_71 : decode cL_isGraphRight 71 = .ok (.iload_n 2, 1) := by decide +kernel
theorem dL_isGraphRight_72 : decode cL_isGraphRight 72 = .ok (.invokevirtual 162, 3) := by decide +kernel
theorem dL_isGraphRight_75 : decode cL_isGraphRight 75 = .ok (.aaload, 1) := by decide +kernel
theorem dL_isGraphRight_76 : decode cL_isGraphRight 76 = .ok (.aload_n 0, 1) := by decide +kernel
theorem dL_isGraphRight_77 : decode cL_isGraphRight 77 = .ok (.iload_n 2, 1) := by decide +kernel
theorem dL_isGraphRight_78 : decode cL_isGraphRight 78 = .ok (.invokevirtual 165, 3) := by decide +kernel
theorem dL_isGraphRight_81 : decode cL_isGraphRight 81 = .ok (.aload_n 0, 1) := by decide +kernel
theorem dL_isGraphRight_82 : decode cL_isGraphRight 82 = .ok (.iload_n 2, 1) := by decide +kernel
theorem dL_isGraphRight_83 : decode cL_isGraphRight 83 = .ok (.invokevirtual 103, 3) := by decide +kernel
theorem dL_isGraphRight_86 : decode cL_isGraphRight 86 = .ok (.iastore, 1) := by decide +kernel
theorem dL_isGraphRight_87 : decode cL_isGraphRight 87 = .ok (.aload_n 1, 1) := by decide +kernel
theorem dL_isGraphRight_88 : decode cL_isGraphRight 88 = .ok (.aload_n 0, 1) := by decide +kernel
theorem dL_isGraphRight_89 : decode cL_isGraphRight 89 = .ok (.iload_n 2, 1) := by decide +kernel
theorem dL_isGraphRight_90 : decode cL_isGraphRight 90 = .ok (.invokevirtual 165, 3) := by decide +kernel
theorem dL_isGraphRight_93 : decode cL_isGraphRight 93 = .ok (.aaload, 1) := by decide +kernel
theorem dL_isGraphRight_94 : decode cL_isGraphRight 94 = .ok (.aload_n 0, 1) := by decide +kernel
theorem dL_isGraphRight_95 : decode cL_isGraphRight 95 = .ok (.iload_n 2, 1) := by decide +kernel
theorem dL_isGraphRight_96 : decode cL_isGraphRight 96 = .ok (.invokevirtual 162, 3) := by decide +kernel
theorem dL_isGraphRight_99 : decode cL_isGraphRight 99 = .ok (.aload_n 0, 1) := by decide +kernel
theorem dL_isGraphRight_100 : decode cL_isGraphRight 100 = .ok (.iload_n 2, 1) := by decide +kernel
theorem dL_isGraphRight_101 : decode cL_isGraphRight 101 = .ok (.invokevirtual 103, 3) := by decide +kernel
theorem dL_isGraphRight_104 : decode cL_isGraphRight 104 = .ok (.iastore, 1) := by decide +kernel
theorem dL_isGraphRight_105 : decode cL_isGraphRight 105 = .ok (.iinc 2 1, 3) := by decide +kernel
theorem dL_isGraphRight_108 : decode cL_isGraphRight 108 = .ok (.goto (-55), 3) := by decide +kernel
theorem dL_isGraphRight_111 : decode cL_isGraphRight 111 = .ok (.iconst 0, 1) := by decide +kernel
theorem dL_isGraphRight_112 : decode cL_isGraphRight 112 = .ok (.istore_n 2, 1) := by decide +kernel
theorem dL_isGraphRight_113 : decode cL_isGraphRight 113 = .ok (.iload_n 2, 1) := by decide +kernel
theorem dL_isGraphRight_114 : decode cL_isGraphRight 114 = .ok (.sipush 512, 3) := by decide +kernel
theorem dL_isGraphRight_117 : decode cL_isGraphRight 117 = .ok (.if_icmp .ge 56, 3) := by decide +kernel
theorem dL_isGraphRight_120 : decode cL_isGraphRight 120 = .ok (.iload_n 2, 1) := by decide +kernel
theorem dL_isGraphRight_121 : decode cL_isGraphRight 121 = .ok (.bipush 8, 2) := by decide +kernel
theorem dL_isGraphRight_123 : decode cL_isGraphRight 123 = .ok (.idiv, 1) := by decide +kernel
theorem dL_isGraphRight_124 : decode cL_isGraphRight 124 = .ok (.bipush 8, 2) := by decide +kernel
theorem dL_isGraphRight_126 : decode cL_isGraphRight 126 = .ok (.irem, 1) := by decide +kernel
theorem dL_isGraphRight_127 : decode cL_isGraphRight 127 = .ok (.istore_n 3, 1) := by decide +kernel
theorem dL_isGraphRight_128 : decode cL_isGraphRight 128 = .ok (.iload_n 2, 1) := by decide +kernel
theorem dL_isGraphRight_129 : decode cL_isGraphRight 129 = .ok (.bipush 8, 2) := by decide +kernel
theorem dL_isGraphRight_131 : decode cL_isGraphRight 131 = .ok (.irem, 1) := by decide +kernel
theorem dL_isGraphRight_132 : decode cL_isGraphRight 132 = .ok (.istore 4, 2) := by decide +kernel
theorem dL_isGraphRight_134 : decode cL_isGraphRight 134 = .ok (.aload_n 1, 1) := by decide +kernel
theorem dL_isGraphRight_135 : decode cL_isGraphRight 135 = .ok (.iload_n 3, 1) := by decide +kernel
theorem dL_isGraphRight_136 : decode cL_isGraphRight 136 = .ok (.aaload, 1) := by decide +kernel
theorem dL_isGraphRight_137 : decode cL_isGraphRight 137 = .ok (.iload 4, 2) := by decide +kernel
theorem dL_isGraphRight_139 : decode cL_isGraphRight 139 = .ok (.aload_n 1, 1) := by decide +kernel
theorem dL_isGraphRight_140 : decode cL_isGraphRight 140 = .ok (.iload_n 3, 1) := by decide +kernel
theorem dL_isGraphRight_141 : decode cL_isGraphRight 141 = .ok (.aaload, 1) := by decide +kernel
theorem dL_isGraphRight_142 : decode cL_isGraphRight 142 = .ok (.iload 4, 2) := by decide +kernel
theorem dL_isGraphRight_144 : decode cL_isGraphRight 144 = .ok (.iaload, 1) := by decide +kernel
theorem dL_isGraphRight_145 : decode cL_isGraphRight 145 = .ok (.aload_n 1, 1) := by decide +kernel
theorem dL_isGraphRight_146 : decode cL_isGraphRight 146 = .ok (.iload_n 3, 1) := by decide +kernel
theorem dL_isGraphRight_147 : decode cL_isGraphRight 147 = .ok (.aaload, 1) := by decide +kernel
theorem dL_isGraphRight_148 : decode cL_isGraphRight 148 = .ok (.iload_n 2, 1) := by decide +kernel
theorem dL_isGraphRight_149 : decode cL_isGraphRight 149 = .ok (.bipush 64, 2) := by decide +kernel
theorem dL_isGraphRight_151 : decode cL_isGraphRight 151 = .ok (.idiv, 1) := by decide +kernel
theorem dL_isGraphRight_152 : decode cL_isGraphRight 152 = .ok (.iaload, 1) := by decide +kernel
theorem dL_isGraphRight_153 : decode cL_isGraphRight 153 = .ok (.aload_n 1, 1) := by decide +kernel
theorem dL_isGraphRight_154 : decode cL_isGraphRight 154 = .ok (.iload_n 2, 1) := by decide +kernel
theorem dL_isGraphRight_155 : decode cL_isGraphRight 155 = .ok (.bipush 64, 2) := by decide +kernel
theorem dL_isGraphRight_157 : decode cL_isGraphRight 157 = .ok (.idiv, 1) := by decide +kernel
theorem dL_isGraphRight_158 : decode cL_isGraphRight 158 = .ok (.aaload, 1) := by decide +kernel
theorem dL_isGraphRight_159 : decode cL_isGraphRight 159 = .ok (.iload 4, 2) := by decide +kernel
theorem dL_isGraphRight_161 : decode cL_isGraphRight 161 = .ok (.iaload, 1) := by decide +kernel
theorem dL_isGraphRight_162 : decode cL_isGraphRight 162 = .ok (.iadd, 1) := by decide +kernel
theorem dL_isGraphRight_163 : decode cL_isGraphRight 163 = .ok (.invokestatic 168, 3) := by decide +kernel
theorem dL_isGraphRight_166 : decode cL_isGraphRight 166 = .ok (.iastore, 1) := by decide +kernel
theorem dL_isGraphRight_167 : decode cL_isGraphRight 167 = .ok (.iinc 2 1, 3) := by decide +kernel
theorem dL_isGraphRight_170 : decode cL_isGraphRight 170 = .ok (.goto (-57), 3) := by decide +kernel
theorem dL_isGraphRight_173 : decode cL_isGraphRight 173 = .ok (.iconst 0, 1) := by decide +kernel
theorem dL_isGraphRight_174 : decode cL_isGraphRight 174 = .ok (.istore_n 2, 1) := by decide +kernel
theorem dL_isGraphRight_175 : decode cL_isGraphRight 175 = .ok (.iconst 1, 1) := by decide +kernel
theorem dL_isGraphRight_176 : decode cL_isGraphRight 176 = .ok (.istore_n 3, 1) := by decide +kernel
theorem dL_isGraphRight_177 : decode cL_isGraphRight 177 = .ok (.iconst 0, 1) := by decide +kernel
theorem dL_isGraphRight_178 : decode cL_isGraphRight 178 = .ok (.istore 4, 2) := by decide +kernel
theorem dL_isGraphRight_180 : decode cL_isGraphRight 180 = .ok (.iload 4, 2) := by decide +kernel
theorem dL_isGraphRight_182 : decode cL_isGraphRight 182 = .ok (.bipush 8, 2) := by decide +kernel
theorem dL_isGraphRight_184 : decode cL_isGraphRight 184 = .ok (.if_icmp .ge 158, 3) := by decide +kernel
theorem dL_isGraphRight_187 : decode cL_isGraphRight 187 = .ok (.iconst 1, 1) := by decide +kernel
theorem dL_isGraphRight_188 : decode cL_isGraphRight 188 = .ok (.istore 5, 2) := by decide +kernel
theorem dL_isGraphRight_190 : decode cL_isGraphRight 190 = .ok (.iconst 0, 1) := by decide +kernel
theorem dL_isGraphRight_191 : decode cL_isGraphRight 191 = .ok (.istore 6, 2) := by decide +kernel
theorem dL_isGraphRight_193 : decode cL_isGraphRight 193 = .ok (.iload 6, 2) := by decide +kernel
theorem dL_isGraphRight_195 : decode cL_isGraphRight 195 = .ok (.bipush 8, 2) := by decide +kernel
theorem dL_isGraphRight_197 : decode cL_isGraphRight 197 = .ok (.if_icmp .ge 126, 3) := by decide +kernel
theorem dL_isGraphRight_200 : decode cL_isGraphRight 200 = .ok (.aload_n 1, 1) := by decide +kernel
theorem dL_isGraphRight_201 : decode cL_isGraphRight 201 = .ok (.iload 4, 2) := by decide +kernel
theorem dL_isGraphRight_203 : decode cL_isGraphRight 203 = .ok (.aaload, 1) := by decide +kernel
theorem dL_isGraphRight_204 : decode cL_isGraphRight 204 = .ok (.iload 6, 2) := by decide +kernel
theorem dL_isGraphRight_206 : decode cL_isGraphRight 206 = .ok (.iaload, 1) := by decide +kernel
theorem dL_isGraphRight_207 : decode cL_isGraphRight 207 = .ok (.ldc 158, 2) := by decide +kernel
theorem dL_isGraphRight_209 : decode cL_isGraphRight 209 = .ok (.if_icmp .ge 13, 3) := by decide +kernel
theorem dL_isGraphRight_212 : decode cL_isGraphRight 212 = .ok (.aload_n 1, 1) := by decide +kernel
theorem dL_isGraphRight_213 : decode cL_isGraphRight 213 = .ok (.iload 4, 2) := by decide +kernel
theorem dL_isGraphRight_215 : decode cL_isGraphRight 215 = .ok (.aaload, 1) := by decide +kernel
theorem dL_isGraphRight_216 : decode cL_isGraphRight 216 = .ok (.iload 6, 2) := by decide +kernel
theorem dL_isGraphRight_218 : decode cL_isGraphRight 218 = .ok (.iaload, 1) := by decide +kernel
theorem dL_isGraphRight_219 : decode cL_isGraphRight 219 = .ok (.goto 6, 3) := by decide +kernel
theorem dL_isGraphRight_222 : decode cL_isGraphRight 222 = .ok (.sipush (-2004), 3) := by decide +kernel
theorem dL_isGraphRight_225 : decode cL_isGraphRight 225 = .ok (.istore 7, 2) := by decide +kernel
theorem dL_isGraphRight_227 : decode cL_isGraphRight 227 = .ok (.iload_n 3, 1) := by decide +kernel
theorem dL_isGraphRight_228 : decode cL_isGraphRight 228 = .ok (.ifCond .eq 56, 3) := by decide +kernel
theorem dL_isGraphRight_231 : decode cL_isGraphRight 231 = .ok (.aload_n 0, 1) := by decide +kernel
theorem dL_isGraphRight_232 : decode cL_isGraphRight 232 = .ok (.iconst 0, 1) := by decide +kernel
theorem dL_isGraphRight_233 : decode cL_isGraphRight 233 = .ok (.iload 4, 2) := by decide +kernel
theorem dL_isGraphRight_235 : decode cL_isGraphRight 235 = .ok (.iload 6, 2) := by decide +kernel
theorem dL_isGraphRight_237 : decode cL_isGraphRight 237 = .ok (.invokestatic 131, 3) := by decide +kernel
theorem dL_isGraphRight_240 : decode cL_isGraphRight 240 = .ok (.iload 7, 2) := by decide +kernel
theorem dL_isGraphRight_242 : decode cL_isGraphRight 242 = .ok (.if_icmp .ne 42, 3) := by decide +kernel
theorem dL_isGraphRight_245 : decode cL_isGraphRight 245 = .ok (.aload_n 0, 1) := by decide +kernel
theorem dL_isGraphRight_246 : decode cL_isGraphRight 246 = .ok (.iconst 1, 1) := by decide +kernel
theorem dL_isGraphRight_247 : decode cL_isGraphRight 247 = .ok (.iload 4, 2) := by decide +kernel
theorem dL_isGraphRight_249 : decode cL_isGraphRight 249 = .ok (.iload 6, 2) := by decide +kernel
theorem dL_isGraphRight_251 : decode cL_isGraphRight 251 = .ok (.invokestatic 131, 3) := by decide +kernel
theorem dL_isGraphRight_254 : decode cL_isGraphRight 254 = .ok (.iload 7, 2) := by decide +kernel
theorem dL_isGraphRight_256 : decode cL_isGraphRight 256 = .ok (.if_icmp .ne 28, 3) := by decide +kernel
theorem dL_isGraphRight_259 : decode cL_isGraphRight 259 = .ok (.aload_n 0, 1) := by decide +kernel
theorem dL_isGraphRight_260 : decode cL_isGraphRight 260 = .ok (.iload 4, 2) := by decide +kernel
theorem dL_isGraphRight_262 : decode cL_isGraphRight 262 = .ok (.iload 6, 2) := by decide +kernel
theorem dL_isGraphRight_264 : decode cL_isGraphRight 264 = .ok (.invokevirtual 171, 3) := by decide +kernel
theorem dL_isGraphRight_267 : decode cL_isGraphRight 267 = .ok (.iload 7, 2) := by decide +kernel
theorem dL_isGraphRight_269 : decode cL_isGraphRight 269 = .ok (.ifCond .lt 7, 3) := by decide +kernel
theorem dL_isGraphRight_272 : decode cL_isGraphRight 272 = .ok (.iconst 1, 1) := by decide +kernel
theorem dL_isGraphRight_273 : decode cL_isGraphRight 273 = .ok (.goto 4, 3) := by decide +kernel
theorem dL_isGraphRight_276 : decode cL_isGraphRight 276 = .ok (.iconst 0, 1) := by decide +kernel
theorem dL_isGraphRight_277 : decode cL_isGraphRight 277 = .ok (.if_icmp .ne 7, 3) := by decide +kernel
theorem dL_isGraphRight_280 : decode cL_isGraphRight 280 = .ok (.iconst 1, 1) := by decide +kernel
theorem dL_isGraphRight_281 : decode cL_isGraphRight 281 = .ok (.goto 4, 3) := by decide +kernel
theorem dL_isGraphRight_284 : decode cL_isGraphRight 284 = .ok (.iconst 0, 1) := by decide +kernel
theorem dL_isGraphRight_285 : decode cL_isGraphRight 285 = .ok (.istore_n 3, 1) := by decide +kernel
theorem dL_isGraphRight_286 : decode cL_isGraphRight 286 = .ok (.iload 5, 2) := by decide +kernel
theorem dL_isGraphRight_288 : decode cL_isGraphRight 288 = .ok (.ifCond .eq 26, 3) := by decide +kernel
theorem dL_isGraphRight_291 : decode cL_isGraphRight 291 = .ok (.iload 6, 2) := by decide +kernel
theorem dL_isGraphRight_293 : decode cL_isGraphRight 293 = .ok (.iload 4, 2) := by decide +kernel
theorem dL_isGraphRight_295 : decode cL_isGraphRight 295 = .ok (.if_icmp .ge 15, 3) := by decide +kernel
theorem dL_isGraphRight_298 : decode cL_isGraphRight 298 = .ok (.aload_n 1, 1) := by decide +kernel
theorem dL_isGraphRight_299 : decode cL_isGraphRight 299 = .ok (.iload 4, 2) := by decide +kernel
theorem dL_isGraphRight_301 : decode cL_isGraphRight 301 = .ok (.aaload, 1) := by decide +kernel
theorem dL_isGraphRight_302 : decode cL_isGraphRight 302 = .ok (.iload 6, 2) := by decide +kernel
theorem dL_isGraphRight_304 : decode cL_isGraphRight 304 = .ok (.iaload, 1) := by decide +kernel
theorem dL_isGraphRight_305 : decode cL_isGraphRight 305 = .ok (.ldc 158, 2) := by decide +kernel
theorem dL_isGraphRight_307 : decode cL_isGraphRight 307 = .ok (.if_icmp .lt 7, 3) := by decide +kernel
theorem dL_isGraphRight_310 : decode cL_isGraphRight 310 = .ok (.iconst 1, 1) := by decide +kernel
theorem dL_isGraphRight_311 : decode cL_isGraphRight 311 = .ok (.goto 4, 3) := by decide +kernel
theorem dL_isGraphRight_314 : decode cL_isGraphRight 314 = .ok (.iconst 0, 1) := by decide +kernel
theorem dL_isGraphRight_315 : decode cL_isGraphRight 315 = .ok (.istore 5, 2) := by decide +kernel
theorem dL_isGraphRight_317 : decode cL_isGraphRight 317 = .ok (.iinc 6 1, 3) := by decide +kernel
theorem dL_isGraphRight_320 : decode cL_isGraphRight 320 = .ok (.goto (-127), 3) := by decide +kernel
theorem dL_isGraphRight_323 : decode cL_isGraphRight 323 = .ok (.iload_n 2, 1) := by decide +kernel
theorem dL_isGraphRight_324 : decode cL_isGraphRight 324 = .ok (.iload 5, 2) := by decide +kernel
theorem dL_isGraphRight_326 : decode cL_isGraphRight 326 = .ok (.ifCond .eq 7, 3) := by decide +kernel
theorem dL_isGraphRight_329 : decode cL_isGraphRight 329 = .ok (.iconst 1, 1) := by decide +kernel
theorem dL_isGraphRight_330 : decode cL_isGraphRight 330 = .ok (.goto 4, 3) := by decide +kernel
theorem dL_isGraphRight_333 : decode cL_isGraphRight 333 = .ok (.iconst 0, 1) := by decide +kernel
theorem dL_isGraphRight_334 : decode cL_isGraphRight 334 = .ok (.iadd, 1) := by decide +kernel
theorem dL_isGraphRight_335 : decode cL_isGraphRight 335 = .ok (.istore_n 2, 1) := by decide +kernel
theorem dL_isGraphRight_336 : decode cL_isGraphRight 336 = .ok (.iinc 4 1, 3) := by decide +kernel
theorem dL_isGraphRight_339 : decode cL_isGraphRight 339 = .ok (.goto (-159), 3) := by decide +kernel
theorem dL_isGraphRight_342 : decode cL_isGraphRight 342 = .ok (.iload_n 3, 1) := by decide +kernel
theorem dL_isGraphRight_343 : decode cL_isGraphRight 343 = .ok (.ifCond .eq 50, 3) := by decide +kernel
theorem dL_isGraphRight_346 : decode cL_isGraphRight 346 = .ok (.aload_n 0, 1) := by decide +kernel
theorem dL_isGraphRight_347 : decode cL_isGraphRight 347 = .ok (.invokevirtual 174, 3) := by decide +kernel
theorem dL_isGraphRight_350 : decode cL_isGraphRight 350 = .ok (.iload_n 2, 1) := by decide +kernel
theorem dL_isGraphRight_351 : decode cL_isGraphRight 351 = .ok (.if_icmp .ne 42, 3) := by decide +kernel
theorem dL_isGraphRight_354 : decode cL_isGraphRight 354 = .ok (.aload_n 0, 1) := by decide +kernel
theorem dL_isGraphRight_355 : decode cL_isGraphRight 355 = .ok (.invokevirtual 177, 3) := by decide +kernel
theorem dL_isGraphRight_358 : decode cL_isGraphRight 358 = .ok (.iload_n 2, 1) := by decide +kernel
theorem dL_isGraphRight_359 : decode cL_isGraphRight 359 = .ok (.if_icmp .ne 34, 3) := by decide +kernel
theorem dL_isGraphRight_362 : decode cL_isGraphRight 362 = .ok (.aload_n 0, 1) := by decide +kernel
theorem dL_isGraphRight_363 : decode cL_isGraphRight 363 = .ok (.iconst 0, 1) := by decide +kernel
theorem dL_isGraphRight_364 : decode cL_isGraphRight 364 = .ok (.bipush 8, 2) := by decide +kernel
theorem dL_isGraphRight_366 : decode cL_isGraphRight 366 = .ok (.iconst 0, 1) := by decide +kernel
theorem dL_isGraphRight_367 : decode cL_isGraphRight 367 = .ok (.invokestatic 131, 3) := by decide +kernel
theorem dL_isGraphRight_370 : decode cL_isGraphRight 370 = .ok (.sipush (-2002), 3) := by decide +kernel
theorem dL_isGraphRight_373 : decode cL_isGraphRight 373 = .ok (.if_icmp .ne 20, 3) := by decide +kernel
theorem dL_isGraphRight_376 : decode cL_isGraphRight 376 = .ok (.aload_n 0, 1) := by decide +kernel
theorem dL_isGraphRight_377 : decode cL_isGraphRight 377 = .ok (.iconst 1, 1) := by decide +kernel
theorem dL_isGraphRight_378 : decode cL_isGraphRight 378 = .ok (.iconst 0, 1) := by decide +kernel
theorem dL_isGraphRight_379 : decode cL_isGraphRight 379 = .ok (.iconst (-1), 1) := by decide +kernel
theorem dL_isGraphRight_380 : decode cL_isGraphRight 380 = .ok (.invokestatic 131, 3) := by decide +kernel
theorem dL_isGraphRight_383 : decode cL_isGraphRight 383 = .ok (.sipush (-2002), 3) := by decide +kernel
theorem dL_isGraphRight_386 : decode cL_isGraphRight 386 = .ok (.if_icmp .ne 7, 3) := by decide +kernel
theorem dL_isGraphRight_389 : decode cL_isGraphRight 389 = .ok (.iconst 1, 1) := by decide +kernel
theorem dL_isGraphRight_390 : decode cL_isGraphRight 390 = .ok (.goto 4, 3) := by decide +kernel
theorem dL_isGraphRight_393 : decode cL_isGraphRight 393 = .ok (.iconst 0, 1) := by decide +kernel
theorem dL_isGraphRight_394 : decode cL_isGraphRight 394 = .ok (.ireturn, 1) := by decide +kernel
def f_L_isGraphRight_j394  (s0_394 : Bool) (far0_394 : (Nat → Nat → Int32)) : Bool := s0_394
def f_L_isGraphRight_j393  (far0_393 : (Nat → Nat → Int32)) : Bool := (f_L_isGraphRight_j394 (false) (far0_393))
def f_L_isGraphRight_j334  (v3_334 : Bool) (s0_334 : Bool) (s1_334 : Int32) (far0_334 : (Nat → Nat → Int32)) : Sum (Bool) (Int32 × Bool × (Nat → Nat → Int32)) := (Sum.inr ((s1_334 + (bI s0_334)), v3_334, far0_334))
def f_L_isGraphRight_j315  (v2_315 : Int32) (v3_315 : Bool) (s0_315 : Bool) (far0_315 : (Nat → Nat → Int32)) : Sum (Sum (Bool) (Int32 × Bool × (Nat → Nat → Int32))) (Int32 × Bool × Bool × (Nat → Nat → Int32)) := (Sum.inr (v2_315, v3_315, s0_315, far0_315))
def f_L_isGraphRight_j314  (v2_314 : Int32) (v3_314 : Bool) (far0_314 : (Nat → Nat → Int32)) : Sum (Sum (Bool) (Int32 × Bool × (Nat → Nat → Int32))) (Int32 × Bool × Bool × (Nat → Nat → Int32)) := (f_L_isGraphRight_j315 (v2_314) (v3_314) (false) (far0_314))
def f_L_isGraphRight_j310  (v2_310 : Int32) (v3_310 : Bool) (far0_310 : (Nat → Nat → Int32)) : Sum (Sum (Bool) (Int32 × Bool × (Nat → Nat → Int32))) (Int32 × Bool × Bool × (Nat → Nat → Int32)) := (f_L_isGraphRight_j315 (v2_310) (v3_310) (true) (far0_310))
def f_L_isGraphRight_j285 (k180 : Nat) (k193 : Nat) (v2_285 : Int32) (v5_285 : Bool) (s0_285 : Bool) (far0_285 : (Nat → Nat → Int32)) : Sum (Sum (Bool) (Int32 × Bool × (Nat → Nat → Int32))) (Int32 × Bool × Bool × (Nat → Nat → Int32)) := (if v5_285 = true then (if (nI k180) ≤ (nI k193) then (f_L_isGraphRight_j310 (v2_285) (s0_285) (far0_285)) else (if (far0_285 k180 k193) < 100000 then (f_L_isGraphRight_j314 (v2_285) (s0_285) (far0_285)) else (f_L_isGraphRight_j310 (v2_285) (s0_285) (far0_285)))) else (f_L_isGraphRight_j314 (v2_285) (s0_285) (far0_285)))
def f_L_isGraphRight_j284 (k180 : Nat) (k193 : Nat) (v2_284 : Int32) (v5_284 : Bool) (far0_284 : (Nat → Nat → Int32)) : Sum (Sum (Bool) (Int32 × Bool × (Nat → Nat → Int32))) (Int32 × Bool × Bool × (Nat → Nat → Int32)) := (f_L_isGraphRight_j285 k180 k193 (v2_284) (v5_284) (false) (far0_284))
def f_L_isGraphRight_j277 (k180 : Nat) (k193 : Nat) (v2_277 : Int32) (v5_277 : Bool) (s0_277 : Bool) (s1_277 : Bool) (far0_277 : (Nat → Nat → Int32)) : Sum (Sum (Bool) (Int32 × Bool × (Nat → Nat → Int32))) (Int32 × Bool × Bool × (Nat → Nat → Int32)) := (if (bI s1_277) = (bI s0_277) then (f_L_isGraphRight_j285 k180 k193 (v2_277) (v5_277) (true) (far0_277)) else (f_L_isGraphRight_j284 k180 k193 (v2_277) (v5_277) (far0_277)))
def f_L_isGraphRight_j225 (K : CT) (k180 : Nat) (k193 : Nat) (v2_225 : Int32) (v3_225 : Bool) (v5_225 : Bool) (s0_225 : Int32) (far0_225 : (Nat → Nat → Int32)) : Sum (Sum (Bool) (Int32 × Bool × (Nat → Nat → Int32))) (Int32 × Bool × Bool × (Nat → Nat → Int32)) := (if v3_225 = true then (if (askV K (0) ((nI k180)) ((nI k193))) = s0_225 then (if (askV K (1) ((nI k180)) ((nI k193))) = s0_225 then (if s0_225 < 0 then (f_L_isGraphRight_j277 k180 k193 (v2_225) (v5_225) (false) ((f_X2_reaches R0 (kG K) (nI k180) (nI k193))) (far0_225)) else (f_L_isGraphRight_j277 k180 k193 (v2_225) (v5_225) (true) ((f_X2_reaches R0 (kG K) (nI k180) (nI k193))) (far0_225))) else (f_L_isGraphRight_j284 k180 k193 (v2_225) (v5_225) (far0_225))) else (f_L_isGraphRight_j284 k180 k193 (v2_225) (v5_225) (far0_225))) else (f_L_isGraphRight_j284 k180 k193 (v2_225) (v5_225) (far0_225)))
def f_L_isGraphRight_l193b (K : CT) (k180 : Nat) (k193 : Nat) (v2_193 : Int32) (v3_193 : Bool) (v5_193 : Bool) (far0_193 : (Nat → Nat → Int32)) : Sum (Sum (Bool) (Int32 × Bool × (Nat → Nat → Int32))) (Int32 × Bool × Bool × (Nat → Nat → Int32)) := (if 100000 ≤ (far0_193 k180 k193) then (f_L_isGraphRight_j225 K k180 k193 (v2_193) (v3_193) (v5_193) ((-2004)) (far0_193)) else (f_L_isGraphRight_j225 K k180 k193 (v2_193) (v3_193) (v5_193) ((far0_193 k180 k193)) (far0_193)))
def f_L_isGraphRight_l193x (K : CT) (k180 : Nat) (v2_193 : Int32) (v3_193 : Bool) (v5_193 : Bool) (far0_193 : (Nat → Nat → Int32)) : Sum (Bool) (Int32 × Bool × (Nat → Nat → Int32)) := (if v5_193 = true then (f_L_isGraphRight_j334 (v3_193) (true) (v2_193) (far0_193)) else (f_L_isGraphRight_j334 (v3_193) (false) (v2_193) (far0_193)))
def f_L_isGraphRight_l193s (K : CT) (k180 : Nat) (k193 : Nat) (q_ : Int32 × Bool × Bool × (Nat → Nat → Int32)) : Sum (Sum (Bool) (Int32 × Bool × (Nat → Nat → Int32))) (Int32 × Bool × Bool × (Nat → Nat → Int32)) := f_L_isGraphRight_l193b K k180 k193 (q_.1) (q_.2.1) (q_.2.2.1) (q_.2.2.2)
def f_L_isGraphRight_l193e (K : CT) (k180 : Nat) (q_ : Int32 × Bool × Bool × (Nat → Nat → Int32)) : Sum (Bool) (Int32 × Bool × (Nat → Nat → Int32)) := f_L_isGraphRight_l193x K k180 (q_.1) (q_.2.1) (q_.2.2.1) (q_.2.2.2)
def f_L_isGraphRight_l193 (K : CT) (k180 : Nat) (n193 k193 : Nat) (v2_193 : Int32) (v3_193 : Bool) (v5_193 : Bool) (far0_193 : (Nat → Nat → Int32)) : Sum (Bool) (Int32 × Bool × (Nat → Nat → Int32)) := lpF (f_L_isGraphRight_l193s K k180) (f_L_isGraphRight_l193e K k180) n193 k193 (v2_193, v3_193, v5_193, far0_193)
def f_L_isGraphRight_l180b (K : CT) (k180 : Nat) (v2_180 : Int32) (v3_180 : Bool) (far0_180 : (Nat → Nat → Int32)) : Sum (Bool) (Int32 × Bool × (Nat → Nat → Int32)) := (f_L_isGraphRight_l193 K k180 (8) 0 (v2_180) (v3_180) (true) (far0_180))
def f_L_isGraphRight_l180x (K : CT) (v2_180 : Int32) (v3_180 : Bool) (far0_180 : (Nat → Nat → Int32)) : Bool := (if v3_180 = true then (if (f_X2_countBySearch R0 (kG K)) = v2_180 then (if (f_X2_countByJoining R0 (kG K)).1 = v2_180 then (if (askV K (0) (8) (0)) = (-2002) then (if (askV K (1) (0) ((-1))) = (-2002) then (f_L_isGraphRight_j394 (true) (far0_180)) else (f_L_isGraphRight_j393 (far0_180))) else (f_L_isGraphRight_j393 (far0_180))) else (f_L_isGraphRight_j393 (far0_180))) else (f_L_isGraphRight_j393 (far0_180))) else (f_L_isGraphRight_j393 (far0_180)))
def f_L_isGraphRight_l180s (K : CT) (k180 : Nat) (q_ : Int32 × Bool × (Nat → Nat → Int32)) : Sum (Bool) (Int32 × Bool × (Nat → Nat → Int32)) := f_L_isGraphRight_l180b K k180 (q_.1) (q_.2.1) (q_.2.2)
def f_L_isGraphRight_l180e (K : CT) (q_ : Int32 × Bool × (Nat → Nat → Int32)) : Bool := f_L_isGraphRight_l180x K (q_.1) (q_.2.1) (q_.2.2)
def f_L_isGraphRight_l180 (K : CT) (n180 k180 : Nat) (v2_180 : Int32) (v3_180 : Bool) (far0_180 : (Nat → Nat → Int32)) : Bool := lpF (f_L_isGraphRight_l180s K) (f_L_isGraphRight_l180e K) n180 k180 (v2_180, v3_180, far0_180)
def f_L_isGraphRight_l113b (K : CT) (k113 : Nat) (far0_113 : (Nat → Nat → Int32)) : Sum (Bool) ((Nat → Nat → Int32)) := (Sum.inr (updT far0_113 (k113 / 8 % 8) (k113 % 8) (imin (far0_113 (k113 / 8 % 8) (k113 % 8)) ((far0_113 (k113 / 8 % 8) (k113 / 64)) + (far0_113 (k113 / 64) (k113 % 8))))))
def f_L_isGraphRight_l113x (K : CT) (far0_113 : (Nat → Nat → Int32)) : Bool := (f_L_isGraphRight_l180 K (8) 0 (0) (true) (far0_113))
def f_L_isGraphRight_l113s (K : CT) (k113 : Nat) (q_ : (Nat → Nat → Int32)) : Sum (Bool) ((Nat → Nat → Int32)) := f_L_isGraphRight_l113b K k113 (q_)
def f_L_isGraphRight_l113e (K : CT) (q_ : (Nat → Nat → Int32)) : Bool := f_L_isGraphRight_l113x K (q_)
def f_L_isGraphRight_l113 (K : CT) (n113 k113 : Nat) (far0_113 : (Nat → Nat → Int32)) : Bool := lpF (f_L_isGraphRight_l113s K) (f_L_isGraphRight_l113e K) n113 k113 far0_113
def f_L_isGraphRight_j105  (far0_105 : (Nat → Nat → Int32)) : Sum (Bool) ((Nat → Nat → Int32)) := (Sum.inr far0_105)
def f_L_isGraphRight_l53b (K : CT) (k53 : Nat) (far0_53 : (Nat → Nat → Int32)) : Sum (Bool) ((Nat → Nat → Int32)) := (if (f_X1_hasBridge (kG K) k53) = true then (f_L_isGraphRight_j105 ((updT (updT far0_53 (gLo (kG K) k53) (gHi (kG K) k53) (gLen (kG K) k53)) (gHi (kG K) k53) (gLo (kG K) k53) (gLen (kG K) k53)))) else (f_L_isGraphRight_j105 (far0_53)))
def f_L_isGraphRight_l53x (K : CT) (far0_53 : (Nat → Nat → Int32)) : Bool := (f_L_isGraphRight_l113 K (512) 0 (far0_53))
def f_L_isGraphRight_l53s (K : CT) (k53 : Nat) (q_ : (Nat → Nat → Int32)) : Sum (Bool) ((Nat → Nat → Int32)) := f_L_isGraphRight_l53b K k53 (q_)
def f_L_isGraphRight_l53e (K : CT) (q_ : (Nat → Nat → Int32)) : Bool := f_L_isGraphRight_l53x K (q_)
def f_L_isGraphRight_l53 (K : CT) (n53 k53 : Nat) (far0_53 : (Nat → Nat → Int32)) : Bool := lpF (f_L_isGraphRight_l53s K) (f_L_isGraphRight_l53e K) n53 k53 far0_53
def f_L_isGraphRight_j44 (k11 : Nat) (s0_44 : Int32) (s1_44 : Nat) (far0_44 : (Nat → Nat → Int32)) : Sum (Bool) ((Nat → Nat → Int32)) := (Sum.inr (updT far0_44 (k11 / 8) s1_44 s0_44))
def f_L_isGraphRight_l11b (K : CT) (k11 : Nat) (far0_11 : (Nat → Nat → Int32)) : Sum (Bool) ((Nat → Nat → Int32)) := (if (nI (k11 / 8)) = (nI (k11 % 8)) then (f_L_isGraphRight_j44 k11 (0) ((k11 % 8)) (far0_11)) else (f_L_isGraphRight_j44 k11 (100000) ((k11 % 8)) (far0_11)))
def f_L_isGraphRight_l11x (K : CT) (far0_11 : (Nat → Nat → Int32)) : Bool := (f_L_isGraphRight_l53 K (gS (kG K)) 0 (far0_11))
def f_L_isGraphRight_l11s (K : CT) (k11 : Nat) (q_ : (Nat → Nat → Int32)) : Sum (Bool) ((Nat → Nat → Int32)) := f_L_isGraphRight_l11b K k11 (q_)
def f_L_isGraphRight_l11e (K : CT) (q_ : (Nat → Nat → Int32)) : Bool := f_L_isGraphRight_l11x K (q_)
def f_L_isGraphRight_l11 (K : CT) (n11 k11 : Nat) (far0_11 : (Nat → Nat → Int32)) : Bool := lpF (f_L_isGraphRight_l11s K) (f_L_isGraphRight_l11e K) n11 k11 far0_11
def f_L_isGraphRight (K : CT) : Bool := (f_L_isGraphRight_l11 K (64) 0 ((fun _ _ => 0)))
set_option maxHeartbeats 40000000 in
set_option maxRecDepth 100000 in
theorem c_L_isGraphRight (l : Launch) (D : va_G) (C : Nat → ClassId) (ev u : Nat → Nat) (K : CT) (T : TX) (hl9 : l.stackTraces = false) (hI : GI (kG K)) (hFe : FerOK (kG K)) : KM l yL_isGraphRight wsL_isGraphRight ({ frames := 12, cells := 754, slots := 4542, locals := 287 } : Room) [.ref (u 0)] D C ev u K T T (some (.int (bI (f_L_isGraphRight K)))) 754 4542 := by
  intro x sz hF
  refine Met.ofW (cc := cL_isGraphRight) (maxL := 8) (ret := (some .boolean)) (by decide) rfl ?_
  intro p e s m args below meth c s₁ B hml hv
  obtain ⟨⟨⟨rfl, hsz, hP, hK, hD0, hE, hR, hX, hT9, hV9⟩, hDV⟩, hN, hC⟩ := hv
  have hx := B.exec
  have hb := B.bytes
  have hr := B.returns
  have hts := atoms_spec (ws := wsL_isGraphRight) B.pre
  have hown : s.vm.findClass RL = some m.cls := findClass_of_methodNamed B.named
  have hlocks := B.notSynchronized
  subst hsz
  have hD := hD0.self (sz := s.heap.size)
  generalize hAe : va_A (kW C ev u K x) s.heap.size = A at hD hX hV9 hDV ⊢
  have hA : ∀ q : Nat, s.heap.size ≤ q → A q := fun q h => by rw [← hAe]; exact Or.inr h
  have hS : va_S A s.heap s.heap [] := va_S.rf
  have hP : va_P D vwCl (wj [kW C ev u K x]) s.heap := hP
  have hD : va_D A (wj [kW C ev u K x]) := hD
  obtain ⟨hS12, hP4, hlo, hhi⟩ := GI_safe hI
  have hl := lv_entry ([.ref (u 0)]) (n := 8) (Nat.le_of_ble_eq_true rfl)
  rw [lg_entry_eq]
  generalize (lg_sl ([.ref (u 0)]) ++ List.replicate (8 - (lg_sl ([.ref (u 0)])).length) Slot.unset).toArray = ls at hl ⊢
  have hl : lv_has ls 8 [(0, .ref (u 0))] := hl
  obtain ⟨z, hz⟩ : ∃ z, z = f_L_isGraphRight K := ⟨_, rfl⟩
  rw [← hz]
  suffices hh : ∀ cells slots : Nat, cells = 0 → slots = 0 → W p l e ({ frames := 12, cells := 754, slots := 4542, locals := 287 } : Room) s m ([.ref (u 0)] : List Value).toArray below meth c s.heap [] cells slots (MQ below (eO (fun _ : KX => (some (.int (bI z)))) D (kF T) (kW C ev u K) A) ([.ref (u 0)] : List Value).toArray s 754 4542 A) (F0 m 0 ls []) from hh 0 0 rfl rfl
  intro cells slots hc0 hs0
  have hc : cells + (754) ≤ 754 := by omega
  have hs : slots + (4542) ≤ 4542 := by omega
  clear hc0 hs0
  refine lv_bipush (v := 8) hx hb dL_isGraphRight_0 (by decide +kernel) ?_
  refine lv_bipush (v := 8) hx hb dL_isGraphRight_2 (by decide +kernel) ?_
  refine farNew (X := kW C ev u K x) hx hb hown (hts (.classLink RL 156 "[[I") (by decide +kernel)) hR.2.1 (hts (.arrayClass .int) (by decide +kernel)) hK hP hD hS hA (show _ ≤ 754 from by omega) (show _ ≤ 4542 from by omega) dL_isGraphRight_4 (fun f H hP hD hS => ?_)
  have J394 : ∀ (s0_394 : Bool) (far0_394 : (Nat → Nat → Int32))  (x : KX) (H : Heap) (locs : List Loc) (cells slots : Nat) (ls : Array Slot), z = f_L_isGraphRight_j394 s0_394 far0_394 → kF T x → cells + (0) ≤ 754 → slots + (0) ≤ 4542 → va_P D vwCl (wj [kW C ev u K x, farc C f far0_394]) H → va_D A (wj [kW C ev u K x, farc C f far0_394]) → va_S A s.heap H locs → lv_has ls 8 [] → W p l e ({ frames := 12, cells := 754, slots := 4542, locals := 287 } : Room) s m ([.ref (u 0)] : List Value).toArray below meth c H locs cells slots (MQ below (eO (fun _ : KX => (some (.int (bI z)))) D (kF T) (kW C ev u K) A) ([.ref (u 0)] : List Value).toArray s 754 4542 A) (F0 m 394 ls [.int (bI s0_394)]) := by
    intro s0_394 far0_394 x H locs cells slots ls hz  hF hc hs hP hD hS hl
    exact k_retB hx hb hr hF hP hD hS (show _ = s0_394 from hz) (by omega) (by omega) dL_isGraphRight_394 hlocks
  have J393 : ∀ (far0_393 : (Nat → Nat → Int32))  (x : KX) (H : Heap) (locs : List Loc) (cells slots : Nat) (ls : Array Slot), z = f_L_isGraphRight_j393 far0_393 → kF T x → cells + (0) ≤ 754 → slots + (0) ≤ 4542 → va_P D vwCl (wj [kW C ev u K x, farc C f far0_393]) H → va_D A (wj [kW C ev u K x, farc C f far0_393]) → va_S A s.heap H locs → lv_has ls 8 [] → W p l e ({ frames := 12, cells := 754, slots := 4542, locals := 287 } : Room) s m ([.ref (u 0)] : List Value).toArray below meth c H locs cells slots (MQ below (eO (fun _ : KX => (some (.int (bI z)))) D (kF T) (kW C ev u K) A) ([.ref (u 0)] : List Value).toArray s 754 4542 A) (F0 m 393 ls []) := by
    intro far0_393 x H locs cells slots ls hz  hF hc hs hP hD hS hl
    refine lv_iconst (v := 0) hx hb dL_isGraphRight_393 (by decide) ?_
    exact J394 (false) (far0_393) _ _ _ _ _ ls hz  hF (by omega) (by omega) hP hD hS (lv_sub hl [] rfl)
  have J180 : ∀ (n180 k180 : Nat) (v2_180 : Int32) (v3_180 : Bool) (far0_180 : (Nat → Nat → Int32)) (x : KX) (H : Heap) (locs : List Loc) (cells slots : Nat) (ls : Array Slot), k180 + n180 = 8 → z = f_L_isGraphRight_l180 K n180 k180 v2_180 v3_180 far0_180 → kF T x → cells + ((n180 + 1) * 72 + 6) ≤ 754 → slots + ((n180 + 1) * 432 + 36) ≤ 4542 → va_P D vwCl (wj [kW C ev u K x, farc C f far0_180]) H → va_D A (wj [kW C ev u K x, farc C f far0_180]) → va_S A s.heap H locs → lv_has ls 8 [(0, .ref (u 0)), (1, .ref (f 0)), (2, .int v2_180), (3, .int (bI v3_180)), (4, .int (nI k180))] → W p l e ({ frames := 12, cells := 754, slots := 4542, locals := 287 } : Room) s m ([.ref (u 0)] : List Value).toArray below meth c H locs cells slots (MQ below (eO (fun _ : KX => (some (.int (bI z)))) D (kF T) (kW C ev u K) A) ([.ref (u 0)] : List Value).toArray s 754 4542 A) (F0 m 180 ls []) := by
    intro n180
    induction n180 with
    | zero =>
      intro k180 v2_180 v3_180 far0_180 x H locs cells slots ls hk180 hz  hF hc hs hP hD hS hl
      have hz : z = f_L_isGraphRight_l180x K v2_180 v3_180 far0_180 := hz
      refine lv_iload hx hb dL_isGraphRight_180 (lv_at hl 4 rfl) ?_
      refine lv_bipush (v := 8) hx hb dL_isGraphRight_182 (by decide +kernel) ?_
      refine lv_icmp_ge (tgt := 342) hx hb dL_isGraphRight_184 (by decide) (fun c_184 => ?_) (fun c_184 => absurd (by have e : (8 : Int32) = nI 8 := (by decide +kernel); rw [e]; exact nI_le (by omega) (by omega)) c_184)
      refine lv_iload_n hx hb dL_isGraphRight_342 rfl (lv_at hl 3 rfl) ?_
      refine bif_eq (tgt := 393) hx hb dL_isGraphRight_343 (by decide) (fun c_343 => ?_) (fun c_343 => ?_)
      · have hz := hz.trans (ifB_f c_343)
        exact J393 (far0_180) _ _ _ _ _ ls hz  hF (by omega) (by omega) hP hD hS (lv_sub hl [] rfl)
      · have hz := hz.trans (ifB_t c_343)
        refine lv_aload_n hx hb dL_isGraphRight_346 rfl (lv_at hl 0 rfl) ?_
        refine callK (va_runV (As := []) (rest := []) ⟨hx, hb, hml, hown, hts⟩ (k_componentCount (l := l) (D := D) (C := C) (ev := ev) (u := u) (T := T) hl9 hI x _ hF) (cwV 0 hts gL_isGraphRight_X7_componentCount rfl rfl rfl (by decide +kernel) ⟨Nat.le_of_ble_eq_true rfl, Nat.le_of_ble_eq_true rfl⟩) (hloP_v (kP hP) hK hE (kD hD) hR hX hT9 hV9 hDV hN hC hS (kFr hD hS hA) (kRc hK hP)) rfl rfl hl.1 rfl (lv_room (Nat.le_of_ble_eq_true rfl)) dL_isGraphRight_347 ⟨show _ ≤ 754 from by omega, show _ ≤ 4542 from by omega⟩) hP hD hS hA (fun x H locs hF hP hD hS => ?_)
        refine lv_iload_n hx hb dL_isGraphRight_350 rfl (lv_at hl 2 rfl) ?_
        refine lv_icmp_ne (tgt := 393) hx hb dL_isGraphRight_351 (by decide) (fun c_351 => ?_) (fun c_351 => ?_)
        · have hz := hz.trans (if_neg c_351)
          exact J393 (far0_180) _ _ _ _ _ ls hz  hF (by omega) (by omega) hP hD hS (lv_sub hl [] rfl)
        · have hz := hz.trans (if_pos c_351)
          refine lv_aload_n hx hb dL_isGraphRight_354 rfl (lv_at hl 0 rfl) ?_
          refine callK (va_runV (As := []) (rest := []) ⟨hx, hb, hml, hown, hts⟩ (k_componentCountByUnion (l := l) (D := D) (C := C) (ev := ev) (u := u) (T := T) hl9 hI x _ hF) (cwV 0 hts gL_isGraphRight_X7_componentCountByUnion rfl rfl rfl (by decide +kernel) ⟨Nat.le_of_ble_eq_true rfl, Nat.le_of_ble_eq_true rfl⟩) (hloP_v (kP hP) hK hE (kD hD) hR hX hT9 hV9 hDV hN hC hS (kFr hD hS hA) (kRc hK hP)) rfl rfl hl.1 rfl (lv_room (Nat.le_of_ble_eq_true rfl)) dL_isGraphRight_355 ⟨show _ ≤ 754 from by omega, show _ ≤ 4542 from by omega⟩) hP hD hS hA (fun x H locs hF hP hD hS => ?_)
          refine lv_iload_n hx hb dL_isGraphRight_358 rfl (lv_at hl 2 rfl) ?_
          refine lv_icmp_ne (tgt := 393) hx hb dL_isGraphRight_359 (by decide) (fun c_359 => ?_) (fun c_359 => ?_)
          · have hz := hz.trans (if_neg c_359)
            exact J393 (far0_180) _ _ _ _ _ ls hz  hF (by omega) (by omega) hP hD hS (lv_sub hl [] rfl)
          · have hz := hz.trans (if_pos c_359)
            refine lv_aload_n hx hb dL_isGraphRight_362 rfl (lv_at hl 0 rfl) ?_
            refine lv_iconst (v := 0) hx hb dL_isGraphRight_363 (by decide) ?_
            refine lv_bipush (v := 8) hx hb dL_isGraphRight_364 (by decide +kernel) ?_
            refine lv_iconst (v := 0) hx hb dL_isGraphRight_366 (by decide) ?_
            refine callK (vx_runSW (As := [.ref (u 0), .int 0, .int 8, .int 0]) (rest := []) ⟨hx, hb, hml, hown, hts⟩ (c_L_ask l D C ev u K T (0) (8) (0) hl9 hI hFe (by decide) (ask_ok hI (by decide) _ _) x _ hF) (vx_cwSW 4 hts gL_isGraphRight_L_ask rfl rfl rfl (by decide +kernel) ⟨Nat.le_of_ble_eq_true rfl, Nat.le_of_ble_eq_true rfl⟩) (hloP_s (kP hP) hK hE (kD hD) hR hX hT9 hV9 hDV hN hC hS (kFr hD hS hA)) rfl rfl hl.1 rfl (lv_room (Nat.le_of_ble_eq_true rfl)) dL_isGraphRight_367 ⟨show _ ≤ 754 from by omega, show _ ≤ 4542 from by omega⟩) hP hD hS hA (fun x H locs hF hP hD hS => ?_)
            refine lv_sipush (v := (-2002)) hx hb dL_isGraphRight_370 (by decide +kernel) ?_
            refine lv_icmp_ne (tgt := 393) hx hb dL_isGraphRight_373 (by decide) (fun c_373 => ?_) (fun c_373 => ?_)
            · have hz := hz.trans (if_neg c_373)
              exact J393 (far0_180) _ _ _ _ _ ls hz  hF (by omega) (by omega) hP hD hS (lv_sub hl [] rfl)
            · have hz := hz.trans (if_pos c_373)
              refine lv_aload_n hx hb dL_isGraphRight_376 rfl (lv_at hl 0 rfl) ?_
              refine lv_iconst (v := 1) hx hb dL_isGraphRight_377 (by decide) ?_
              refine lv_iconst (v := 0) hx hb dL_isGraphRight_378 (by decide) ?_
              refine lv_iconst (v := (-1)) hx hb dL_isGraphRight_379 (by decide) ?_
              refine callK (vx_runSW (As := [.ref (u 0), .int 1, .int 0, .int (-1)]) (rest := []) ⟨hx, hb, hml, hown, hts⟩ (c_L_ask l D C ev u K T (1) (0) ((-1)) hl9 hI hFe (by decide) (ask_ok hI (by decide) _ _) x _ hF) (vx_cwSW 4 hts gL_isGraphRight_L_ask rfl rfl rfl (by decide +kernel) ⟨Nat.le_of_ble_eq_true rfl, Nat.le_of_ble_eq_true rfl⟩) (hloP_s (kP hP) hK hE (kD hD) hR hX hT9 hV9 hDV hN hC hS (kFr hD hS hA)) rfl rfl hl.1 rfl (lv_room (Nat.le_of_ble_eq_true rfl)) dL_isGraphRight_380 ⟨show _ ≤ 754 from by omega, show _ ≤ 4542 from by omega⟩) hP hD hS hA (fun x H locs hF hP hD hS => ?_)
              refine lv_sipush (v := (-2002)) hx hb dL_isGraphRight_383 (by decide +kernel) ?_
              refine lv_icmp_ne (tgt := 393) hx hb dL_isGraphRight_386 (by decide) (fun c_386 => ?_) (fun c_386 => ?_)
              · have hz := hz.trans (if_neg c_386)
                exact J393 (far0_180) _ _ _ _ _ ls hz  hF (by omega) (by omega) hP hD hS (lv_sub hl [] rfl)
              · have hz := hz.trans (if_pos c_386)
                refine lv_iconst (v := 1) hx hb dL_isGraphRight_389 (by decide) ?_
                refine lv_goto (tgt := 394) hx hb dL_isGraphRight_390 (by decide) ?_
                exact J394 (true) (far0_180) _ _ _ _ _ ls hz  hF (by omega) (by omega) hP hD hS (lv_sub hl [] rfl)
    | succ n180 ih180 =>
      intro k180 v2_180 v3_180 far0_180 x H locs cells slots ls hk180 hz180  hF hc hs hP hD hS hl
      obtain ⟨z180, hz⟩ : ∃ zz_, zz_ = f_L_isGraphRight_l180b K k180 v2_180 v3_180 far0_180 := ⟨_, rfl⟩
      have hq180 : z = sE id (fun q_ => lpF (f_L_isGraphRight_l180s K) (f_L_isGraphRight_l180e K) n180 (k180 + 1) q_) z180 := by rw [hz180, hz]; rfl
      have J334 : ∀ (v3_334 : Bool) (s0_334 : Bool) (s1_334 : Int32) (far0_334 : (Nat → Nat → Int32))  (x : KX) (H : Heap) (locs : List Loc) (cells slots : Nat) (ls : Array Slot), z180 = f_L_isGraphRight_j334 v3_334 s0_334 s1_334 far0_334 → kF T x → cells + ((n180 + 1) * 72 + 6) ≤ 754 → slots + ((n180 + 1) * 432 + 36) ≤ 4542 → va_P D vwCl (wj [kW C ev u K x, farc C f far0_334]) H → va_D A (wj [kW C ev u K x, farc C f far0_334]) → va_S A s.heap H locs → lv_has ls 8 [(0, .ref (u 0)), (1, .ref (f 0)), (3, .int (bI v3_334)), (4, .int (nI k180))] → W p l e ({ frames := 12, cells := 754, slots := 4542, locals := 287 } : Room) s m ([.ref (u 0)] : List Value).toArray below meth c H locs cells slots (MQ below (eO (fun _ : KX => (some (.int (bI z)))) D (kF T) (kW C ev u K) A) ([.ref (u 0)] : List Value).toArray s 754 4542 A) (F0 m 334 ls [.int (bI s0_334), .int s1_334]) := by
        intro v3_334 s0_334 s1_334 far0_334 x H locs cells slots ls hz  hF hc hs hP hD hS hl
        refine lv_iadd hx hb dL_isGraphRight_334 ?_
        refine lv_istore_n (lv' := [(2, .int (s1_334 + (bI s0_334))), (0, .ref (u 0)), (1, .ref (f 0)), (3, .int (bI v3_334)), (4, .int (nI k180))]) hx hb dL_isGraphRight_335 rfl hl (by decide) rfl (fun ls hl => ?_)
        refine lv_iinc (v := (nI (k180 + 1))) (lv' := [(4, .int (nI (k180 + 1))), (2, .int (s1_334 + (bI s0_334))), (0, .ref (u 0)), (1, .ref (f 0)), (3, .int (bI v3_334))]) hx hb dL_isGraphRight_336 hl (k := 4) rfl (by exact nI_1 _) (by decide) rfl (fun ls hl => ?_)
        refine lv_goto (tgt := 180) hx hb dL_isGraphRight_339 (by decide) ?_
        exact ih180 (k180 + 1) ((s1_334 + (bI s0_334))) (v3_334) (far0_334) _ _ _ _ _ ls (by omega) (by rw [hq180, hz]; rfl)  hF (by omega) (by omega) hP hD hS (lv_sub hl [2, 3, 1, 4, 0] rfl)
      have J193 : ∀ (n193 k193 : Nat) (v2_193 : Int32) (v3_193 : Bool) (v5_193 : Bool) (far0_193 : (Nat → Nat → Int32)) (x : KX) (H : Heap) (locs : List Loc) (cells slots : Nat) (ls : Array Slot), k193 + n193 = 8 → z180 = f_L_isGraphRight_l193 K k180 n193 k193 v2_193 v3_193 v5_193 far0_193 → kF T x → cells + ((n193 + 1) * 8 + (n180 + 1) * 72 + 6) ≤ 754 → slots + ((n193 + 1) * 48 + (n180 + 1) * 432 + 36) ≤ 4542 → va_P D vwCl (wj [kW C ev u K x, farc C f far0_193]) H → va_D A (wj [kW C ev u K x, farc C f far0_193]) → va_S A s.heap H locs → lv_has ls 8 [(0, .ref (u 0)), (1, .ref (f 0)), (2, .int v2_193), (3, .int (bI v3_193)), (4, .int (nI k180)), (5, .int (bI v5_193)), (6, .int (nI k193))] → W p l e ({ frames := 12, cells := 754, slots := 4542, locals := 287 } : Room) s m ([.ref (u 0)] : List Value).toArray below meth c H locs cells slots (MQ below (eO (fun _ : KX => (some (.int (bI z)))) D (kF T) (kW C ev u K) A) ([.ref (u 0)] : List Value).toArray s 754 4542 A) (F0 m 193 ls []) := by
        intro n193
        induction n193 with
        | zero =>
          intro k193 v2_193 v3_193 v5_193 far0_193 x H locs cells slots ls hk193 hz  hF hc hs hP hD hS hl
          have hz : z180 = f_L_isGraphRight_l193x K k180 v2_193 v3_193 v5_193 far0_193 := hz
          refine lv_iload hx hb dL_isGraphRight_193 (lv_at hl 6 rfl) ?_
          refine lv_bipush (v := 8) hx hb dL_isGraphRight_195 (by decide +kernel) ?_
          refine lv_icmp_ge (tgt := 323) hx hb dL_isGraphRight_197 (by decide) (fun c_197 => ?_) (fun c_197 => absurd (by have e : (8 : Int32) = nI 8 := (by decide +kernel); rw [e]; exact nI_le (by omega) (by omega)) c_197)
          refine lv_iload_n hx hb dL_isGraphRight_323 rfl (lv_at hl 2 rfl) ?_
          refine lv_iload hx hb dL_isGraphRight_324 (lv_at hl 5 rfl) ?_
          refine bif_eq (tgt := 333) hx hb dL_isGraphRight_326 (by decide) (fun c_326 => ?_) (fun c_326 => ?_)
          · have hz := hz.trans (ifB_f c_326)
            refine lv_iconst (v := 0) hx hb dL_isGraphRight_333 (by decide) ?_
            exact J334 (v3_193) (false) (v2_193) (far0_193) _ _ _ _ _ ls hz  hF (by omega) (by omega) hP hD hS (lv_sub hl [0, 1, 3, 4] rfl)
          · have hz := hz.trans (ifB_t c_326)
            refine lv_iconst (v := 1) hx hb dL_isGraphRight_329 (by decide) ?_
            refine lv_goto (tgt := 334) hx hb dL_isGraphRight_330 (by decide) ?_
            exact J334 (v3_193) (true) (v2_193) (far0_193) _ _ _ _ _ ls hz  hF (by omega) (by omega) hP hD hS (lv_sub hl [0, 1, 3, 4] rfl)
        | succ n193 ih193 =>
          intro k193 v2_193 v3_193 v5_193 far0_193 x H locs cells slots ls hk193 hz193  hF hc hs hP hD hS hl
          obtain ⟨z193, hz⟩ : ∃ zz_, zz_ = f_L_isGraphRight_l193b K k180 k193 v2_193 v3_193 v5_193 far0_193 := ⟨_, rfl⟩
          have hq193 : z180 = sE id (fun q_ => lpF (f_L_isGraphRight_l193s K k180) (f_L_isGraphRight_l193e K k180) n193 (k193 + 1) q_) z193 := by rw [hz193, hz]; rfl
          have J315 : ∀ (v2_315 : Int32) (v3_315 : Bool) (s0_315 : Bool) (far0_315 : (Nat → Nat → Int32))  (x : KX) (H : Heap) (locs : List Loc) (cells slots : Nat) (ls : Array Slot), z193 = f_L_isGraphRight_j315 v2_315 v3_315 s0_315 far0_315 → kF T x → cells + ((n193 + 1) * 8 + (n180 + 1) * 72 + 6) ≤ 754 → slots + ((n193 + 1) * 48 + (n180 + 1) * 432 + 36) ≤ 4542 → va_P D vwCl (wj [kW C ev u K x, farc C f far0_315]) H → va_D A (wj [kW C ev u K x, farc C f far0_315]) → va_S A s.heap H locs → lv_has ls 8 [(0, .ref (u 0)), (1, .ref (f 0)), (2, .int v2_315), (3, .int (bI v3_315)), (4, .int (nI k180)), (6, .int (nI k193))] → W p l e ({ frames := 12, cells := 754, slots := 4542, locals := 287 } : Room) s m ([.ref (u 0)] : List Value).toArray below meth c H locs cells slots (MQ below (eO (fun _ : KX => (some (.int (bI z)))) D (kF T) (kW C ev u K) A) ([.ref (u 0)] : List Value).toArray s 754 4542 A) (F0 m 315 ls [.int (bI s0_315)]) := by
            intro v2_315 v3_315 s0_315 far0_315 x H locs cells slots ls hz  hF hc hs hP hD hS hl
            refine lv_istore (lv' := [(5, .int (bI s0_315)), (0, .ref (u 0)), (1, .ref (f 0)), (2, .int v2_315), (3, .int (bI v3_315)), (4, .int (nI k180)), (6, .int (nI k193))]) hx hb dL_isGraphRight_315 hl (by decide) rfl (fun ls hl => ?_)
            refine lv_iinc (v := (nI (k193 + 1))) (lv' := [(6, .int (nI (k193 + 1))), (5, .int (bI s0_315)), (0, .ref (u 0)), (1, .ref (f 0)), (2, .int v2_315), (3, .int (bI v3_315)), (4, .int (nI k180))]) hx hb dL_isGraphRight_317 hl (k := 6) rfl (by exact nI_1 _) (by decide) rfl (fun ls hl => ?_)
            refine lv_goto (tgt := 193) hx hb dL_isGraphRight_320 (by decide) ?_
            exact ih193 (k193 + 1) (v2_315) (v3_315) (s0_315) (far0_315) _ _ _ _ _ ls (by omega) (by rw [hq193, hz]; rfl)  hF (by omega) (by omega) hP hD hS (lv_sub hl [2, 3, 4, 5, 6, 1, 0] rfl)
          have J314 : ∀ (v2_314 : Int32) (v3_314 : Bool) (far0_314 : (Nat → Nat → Int32))  (x : KX) (H : Heap) (locs : List Loc) (cells slots : Nat) (ls : Array Slot), z193 = f_L_isGraphRight_j314 v2_314 v3_314 far0_314 → kF T x → cells + ((n193 + 1) * 8 + (n180 + 1) * 72 + 6) ≤ 754 → slots + ((n193 + 1) * 48 + (n180 + 1) * 432 + 36) ≤ 4542 → va_P D vwCl (wj [kW C ev u K x, farc C f far0_314]) H → va_D A (wj [kW C ev u K x, farc C f far0_314]) → va_S A s.heap H locs → lv_has ls 8 [(0, .ref (u 0)), (1, .ref (f 0)), (2, .int v2_314), (3, .int (bI v3_314)), (4, .int (nI k180)), (6, .int (nI k193))] → W p l e ({ frames := 12, cells := 754, slots := 4542, locals := 287 } : Room) s m ([.ref (u 0)] : List Value).toArray below meth c H locs cells slots (MQ below (eO (fun _ : KX => (some (.int (bI z)))) D (kF T) (kW C ev u K) A) ([.ref (u 0)] : List Value).toArray s 754 4542 A) (F0 m 314 ls []) := by
            intro v2_314 v3_314 far0_314 x H locs cells slots ls hz  hF hc hs hP hD hS hl
            refine lv_iconst (v := 0) hx hb dL_isGraphRight_314 (by decide) ?_
            exact J315 (v2_314) (v3_314) (false) (far0_314) _ _ _ _ _ ls hz  hF (by omega) (by omega) hP hD hS (lv_sub hl [0, 1, 2, 3, 4, 5] rfl)
          have J310 : ∀ (v2_310 : Int32) (v3_310 : Bool) (far0_310 : (Nat → Nat → Int32))  (x : KX) (H : Heap) (locs : List Loc) (cells slots : Nat) (ls : Array Slot), z193 = f_L_isGraphRight_j310 v2_310 v3_310 far0_310 → kF T x → cells + ((n193 + 1) * 8 + (n180 + 1) * 72 + 6) ≤ 754 → slots + ((n193 + 1) * 48 + (n180 + 1) * 432 + 36) ≤ 4542 → va_P D vwCl (wj [kW C ev u K x, farc C f far0_310]) H → va_D A (wj [kW C ev u K x, farc C f far0_310]) → va_S A s.heap H locs → lv_has ls 8 [(0, .ref (u 0)), (1, .ref (f 0)), (2, .int v2_310), (3, .int (bI v3_310)), (4, .int (nI k180)), (6, .int (nI k193))] → W p l e ({ frames := 12, cells := 754, slots := 4542, locals := 287 } : Room) s m ([.ref (u 0)] : List Value).toArray below meth c H locs cells slots (MQ below (eO (fun _ : KX => (some (.int (bI z)))) D (kF T) (kW C ev u K) A) ([.ref (u 0)] : List Value).toArray s 754 4542 A) (F0 m 310 ls []) := by
            intro v2_310 v3_310 far0_310 x H locs cells slots ls hz  hF hc hs hP hD hS hl
            refine lv_iconst (v := 1) hx hb dL_isGraphRight_310 (by decide) ?_
            refine lv_goto (tgt := 315) hx hb dL_isGraphRight_311 (by decide) ?_
            exact J315 (v2_310) (v3_310) (true) (far0_310) _ _ _ _ _ ls hz  hF (by omega) (by omega) hP hD hS (lv_sub hl [0, 1, 2, 3, 4, 5] rfl)
          have J285 : ∀ (v2_285 : Int32) (v5_285 : Bool) (s0_285 : Bool) (far0_285 : (Nat → Nat → Int32))  (x : KX) (H : Heap) (locs : List Loc) (cells slots : Nat) (ls : Array Slot), z193 = f_L_isGraphRight_j285 k180 k193 v2_285 v5_285 s0_285 far0_285 → kF T x → cells + ((n193 + 1) * 8 + (n180 + 1) * 72 + 6) ≤ 754 → slots + ((n193 + 1) * 48 + (n180 + 1) * 432 + 36) ≤ 4542 → va_P D vwCl (wj [kW C ev u K x, farc C f far0_285]) H → va_D A (wj [kW C ev u K x, farc C f far0_285]) → va_S A s.heap H locs → lv_has ls 8 [(0, .ref (u 0)), (1, .ref (f 0)), (2, .int v2_285), (4, .int (nI k180)), (5, .int (bI v5_285)), (6, .int (nI k193))] → W p l e ({ frames := 12, cells := 754, slots := 4542, locals := 287 } : Room) s m ([.ref (u 0)] : List Value).toArray below meth c H locs cells slots (MQ below (eO (fun _ : KX => (some (.int (bI z)))) D (kF T) (kW C ev u K) A) ([.ref (u 0)] : List Value).toArray s 754 4542 A) (F0 m 285 ls [.int (bI s0_285)]) := by
            intro v2_285 v5_285 s0_285 far0_285 x H locs cells slots ls hz  hF hc hs hP hD hS hl
            refine lv_istore_n (lv' := [(3, .int (bI s0_285)), (0, .ref (u 0)), (1, .ref (f 0)), (2, .int v2_285), (4, .int (nI k180)), (5, .int (bI v5_285)), (6, .int (nI k193))]) hx hb dL_isGraphRight_285 rfl hl (by decide) rfl (fun ls hl => ?_)
            refine lv_iload hx hb dL_isGraphRight_286 (lv_at hl 5 rfl) ?_
            refine bif_eq (tgt := 314) hx hb dL_isGraphRight_288 (by decide) (fun c_288 => ?_) (fun c_288 => ?_)
            · have hz := hz.trans (ifB_f c_288)
              exact J314 (v2_285) (s0_285) (far0_285) _ _ _ _ _ ls hz  hF (by omega) (by omega) hP hD hS (lv_sub hl [1, 2, 3, 0, 4, 6] rfl)
            · have hz := hz.trans (ifB_t c_288)
              refine lv_iload hx hb dL_isGraphRight_291 (lv_at hl 6 rfl) ?_
              refine lv_iload hx hb dL_isGraphRight_293 (lv_at hl 4 rfl) ?_
              refine lv_icmp_ge (tgt := 310) hx hb dL_isGraphRight_295 (by decide) (fun c_295 => ?_) (fun c_295 => ?_)
              · have hz := hz.trans (if_pos c_295)
                exact J310 (v2_285) (s0_285) (far0_285) _ _ _ _ _ ls hz  hF (by omega) (by omega) hP hD hS (lv_sub hl [1, 2, 3, 0, 4, 6] rfl)
              · have hz := hz.trans (if_neg c_295)
                refine lv_aload_n hx hb dL_isGraphRight_298 rfl (lv_at hl 2 rfl) ?_
                refine lv_iload hx hb dL_isGraphRight_299 (lv_at hl 4 rfl) ?_
                refine farRow hx hb hK hP (i := k180) (by omega) dL_isGraphRight_301 ?_
                refine lv_iload hx hb dL_isGraphRight_302 (lv_at hl 6 rfl) ?_
                refine farGet hx hb hK hP (i := k180) (j := k193) (by omega) (by omega) dL_isGraphRight_304 ?_
                refine lv_ldc (v := 100000) hx hb hown (hts (.constant RL 158 (100000)) (by decide +kernel)) dL_isGraphRight_305 ?_
                refine lv_icmp_lt (tgt := 314) hx hb dL_isGraphRight_307 (by decide) (fun c_307 => ?_) (fun c_307 => ?_)
                · have hz := hz.trans (if_pos c_307)
                  exact J314 (v2_285) (s0_285) (far0_285) _ _ _ _ _ ls hz  hF (by omega) (by omega) hP hD hS (lv_sub hl [1, 2, 3, 0, 4, 6] rfl)
                · have hz := hz.trans (if_neg c_307)
                  exact J310 (v2_285) (s0_285) (far0_285) _ _ _ _ _ ls hz  hF (by omega) (by omega) hP hD hS (lv_sub hl [1, 2, 3, 0, 4, 6] rfl)
          have J284 : ∀ (v2_284 : Int32) (v5_284 : Bool) (far0_284 : (Nat → Nat → Int32))  (x : KX) (H : Heap) (locs : List Loc) (cells slots : Nat) (ls : Array Slot), z193 = f_L_isGraphRight_j284 k180 k193 v2_284 v5_284 far0_284 → kF T x → cells + ((n193 + 1) * 8 + (n180 + 1) * 72 + 6) ≤ 754 → slots + ((n193 + 1) * 48 + (n180 + 1) * 432 + 36) ≤ 4542 → va_P D vwCl (wj [kW C ev u K x, farc C f far0_284]) H → va_D A (wj [kW C ev u K x, farc C f far0_284]) → va_S A s.heap H locs → lv_has ls 8 [(0, .ref (u 0)), (1, .ref (f 0)), (2, .int v2_284), (4, .int (nI k180)), (5, .int (bI v5_284)), (6, .int (nI k193))] → W p l e ({ frames := 12, cells := 754, slots := 4542, locals := 287 } : Room) s m ([.ref (u 0)] : List Value).toArray below meth c H locs cells slots (MQ below (eO (fun _ : KX => (some (.int (bI z)))) D (kF T) (kW C ev u K) A) ([.ref (u 0)] : List Value).toArray s 754 4542 A) (F0 m 284 ls []) := by
            intro v2_284 v5_284 far0_284 x H locs cells slots ls hz  hF hc hs hP hD hS hl
            refine lv_iconst (v := 0) hx hb dL_isGraphRight_284 (by decide) ?_
            exact J285 (v2_284) (v5_284) (false) (far0_284) _ _ _ _ _ ls hz  hF (by omega) (by omega) hP hD hS (lv_sub hl [0, 1, 2, 3, 4, 5] rfl)
          have J277 : ∀ (v2_277 : Int32) (v5_277 : Bool) (s0_277 : Bool) (s1_277 : Bool) (far0_277 : (Nat → Nat → Int32))  (x : KX) (H : Heap) (locs : List Loc) (cells slots : Nat) (ls : Array Slot), z193 = f_L_isGraphRight_j277 k180 k193 v2_277 v5_277 s0_277 s1_277 far0_277 → kF T x → cells + ((n193 + 1) * 8 + (n180 + 1) * 72 + 6) ≤ 754 → slots + ((n193 + 1) * 48 + (n180 + 1) * 432 + 36) ≤ 4542 → va_P D vwCl (wj [kW C ev u K x, farc C f far0_277]) H → va_D A (wj [kW C ev u K x, farc C f far0_277]) → va_S A s.heap H locs → lv_has ls 8 [(0, .ref (u 0)), (1, .ref (f 0)), (2, .int v2_277), (4, .int (nI k180)), (5, .int (bI v5_277)), (6, .int (nI k193))] → W p l e ({ frames := 12, cells := 754, slots := 4542, locals := 287 } : Room) s m ([.ref (u 0)] : List Value).toArray below meth c H locs cells slots (MQ below (eO (fun _ : KX => (some (.int (bI z)))) D (kF T) (kW C ev u K) A) ([.ref (u 0)] : List Value).toArray s 754 4542 A) (F0 m 277 ls [.int (bI s0_277), .int (bI s1_277)]) := by
            intro v2_277 v5_277 s0_277 s1_277 far0_277 x H locs cells slots ls hz  hF hc hs hP hD hS hl
            refine lv_icmp_ne (tgt := 284) hx hb dL_isGraphRight_277 (by decide) (fun c_277 => ?_) (fun c_277 => ?_)
            · have hz := hz.trans (if_neg c_277)
              exact J284 (v2_277) (v5_277) (far0_277) _ _ _ _ _ ls hz  hF (by omega) (by omega) hP hD hS (lv_sub hl [0, 1, 2, 3, 4, 5] rfl)
            · have hz := hz.trans (if_pos c_277)
              refine lv_iconst (v := 1) hx hb dL_isGraphRight_280 (by decide) ?_
              refine lv_goto (tgt := 285) hx hb dL_isGraphRight_281 (by decide) ?_
              exact J285 (v2_277) (v5_277) (true) (far0_277) _ _ _ _ _ ls hz  hF (by omega) (by omega) hP hD hS (lv_sub hl [0, 1, 2, 3, 4, 5] rfl)
          have J225 : ∀ (v2_225 : Int32) (v3_225 : Bool) (v5_225 : Bool) (s0_225 : Int32) (far0_225 : (Nat → Nat → Int32))  (x : KX) (H : Heap) (locs : List Loc) (cells slots : Nat) (ls : Array Slot), z193 = f_L_isGraphRight_j225 K k180 k193 v2_225 v3_225 v5_225 s0_225 far0_225 → kF T x → cells + (8 + (n193 + 1) * 8 + (n180 + 1) * 72 + 6) ≤ 754 → slots + (48 + (n193 + 1) * 48 + (n180 + 1) * 432 + 36) ≤ 4542 → va_P D vwCl (wj [kW C ev u K x, farc C f far0_225]) H → va_D A (wj [kW C ev u K x, farc C f far0_225]) → va_S A s.heap H locs → lv_has ls 8 [(0, .ref (u 0)), (1, .ref (f 0)), (2, .int v2_225), (3, .int (bI v3_225)), (4, .int (nI k180)), (5, .int (bI v5_225)), (6, .int (nI k193))] → W p l e ({ frames := 12, cells := 754, slots := 4542, locals := 287 } : Room) s m ([.ref (u 0)] : List Value).toArray below meth c H locs cells slots (MQ below (eO (fun _ : KX => (some (.int (bI z)))) D (kF T) (kW C ev u K) A) ([.ref (u 0)] : List Value).toArray s 754 4542 A) (F0 m 225 ls [.int s0_225]) := by
            intro v2_225 v3_225 v5_225 s0_225 far0_225 x H locs cells slots ls hz  hF hc hs hP hD hS hl
            refine lv_istore (lv' := [(7, .int s0_225), (0, .ref (u 0)), (1, .ref (f 0)), (2, .int v2_225), (3, .int (bI v3_225)), (4, .int (nI k180)), (5, .int (bI v5_225)), (6, .int (nI k193))]) hx hb dL_isGraphRight_225 hl (by decide) rfl (fun ls hl => ?_)
            refine lv_iload_n hx hb dL_isGraphRight_227 rfl (lv_at hl 4 rfl) ?_
            refine bif_eq (tgt := 284) hx hb dL_isGraphRight_228 (by decide) (fun c_228 => ?_) (fun c_228 => ?_)
            · have hz := hz.trans (ifB_f c_228)
              exact J284 (v2_225) (v5_225) (far0_225) _ _ _ _ _ ls hz  hF (by omega) (by omega) hP hD hS (lv_sub hl [1, 2, 3, 5, 6, 7] rfl)
            · have hz := hz.trans (ifB_t c_228)
              refine lv_aload_n hx hb dL_isGraphRight_231 rfl (lv_at hl 1 rfl) ?_
              refine lv_iconst (v := 0) hx hb dL_isGraphRight_232 (by decide) ?_
              refine lv_iload hx hb dL_isGraphRight_233 (lv_at hl 5 rfl) ?_
              refine lv_iload hx hb dL_isGraphRight_235 (lv_at hl 7 rfl) ?_
              refine callK (vx_runSW (As := [.ref (u 0), .int 0, .int (nI k180), .int (nI k193)]) (rest := []) ⟨hx, hb, hml, hown, hts⟩ (c_L_ask l D C ev u K T (0) ((nI k180)) ((nI k193)) hl9 hI hFe (by decide) (ask_ok hI (by decide) _ _) x _ hF) (vx_cwSW 4 hts gL_isGraphRight_L_ask rfl rfl rfl (by decide +kernel) ⟨Nat.le_of_ble_eq_true rfl, Nat.le_of_ble_eq_true rfl⟩) (hloP_s (kP hP) hK hE (kD hD) hR hX hT9 hV9 hDV hN hC hS (kFr hD hS hA)) rfl rfl hl.1 rfl (lv_room (Nat.le_of_ble_eq_true rfl)) dL_isGraphRight_237 ⟨show _ ≤ 754 from by omega, show _ ≤ 4542 from by omega⟩) hP hD hS hA (fun x H locs hF hP hD hS => ?_)
              refine lv_iload hx hb dL_isGraphRight_240 (lv_at hl 0 rfl) ?_
              refine lv_icmp_ne (tgt := 284) hx hb dL_isGraphRight_242 (by decide) (fun c_242 => ?_) (fun c_242 => ?_)
              · have hz := hz.trans (if_neg c_242)
                exact J284 (v2_225) (v5_225) (far0_225) _ _ _ _ _ ls hz  hF (by omega) (by omega) hP hD hS (lv_sub hl [1, 2, 3, 5, 6, 7] rfl)
              · have hz := hz.trans (if_pos c_242)
                refine lv_aload_n hx hb dL_isGraphRight_245 rfl (lv_at hl 1 rfl) ?_
                refine lv_iconst (v := 1) hx hb dL_isGraphRight_246 (by decide) ?_
                refine lv_iload hx hb dL_isGraphRight_247 (lv_at hl 5 rfl) ?_
                refine lv_iload hx hb dL_isGraphRight_249 (lv_at hl 7 rfl) ?_
                refine callK (vx_runSW (As := [.ref (u 0), .int 1, .int (nI k180), .int (nI k193)]) (rest := []) ⟨hx, hb, hml, hown, hts⟩ (c_L_ask l D C ev u K T (1) ((nI k180)) ((nI k193)) hl9 hI hFe (by decide) (ask_ok hI (by decide) _ _) x _ hF) (vx_cwSW 4 hts gL_isGraphRight_L_ask rfl rfl rfl (by decide +kernel) ⟨Nat.le_of_ble_eq_true rfl, Nat.le_of_ble_eq_true rfl⟩) (hloP_s (kP hP) hK hE (kD hD) hR hX hT9 hV9 hDV hN hC hS (kFr hD hS hA)) rfl rfl hl.1 rfl (lv_room (Nat.le_of_ble_eq_true rfl)) dL_isGraphRight_251 ⟨show _ ≤ 754 from by omega, show _ ≤ 4542 from by omega⟩) hP hD hS hA (fun x H locs hF hP hD hS => ?_)
                refine lv_iload hx hb dL_isGraphRight_254 (lv_at hl 0 rfl) ?_
                refine lv_icmp_ne (tgt := 284) hx hb dL_isGraphRight_256 (by decide) (fun c_256 => ?_) (fun c_256 => ?_)
                · have hz := hz.trans (if_neg c_256)
                  exact J284 (v2_225) (v5_225) (far0_225) _ _ _ _ _ ls hz  hF (by omega) (by omega) hP hD hS (lv_sub hl [1, 2, 3, 5, 6, 7] rfl)
                · have hz := hz.trans (if_pos c_256)
                  refine lv_aload_n hx hb dL_isGraphRight_259 rfl (lv_at hl 1 rfl) ?_
                  refine lv_iload hx hb dL_isGraphRight_260 (lv_at hl 5 rfl) ?_
                  refine lv_iload hx hb dL_isGraphRight_262 (lv_at hl 7 rfl) ?_
                  refine callK (va_runV (As := [.int (nI k180), .int (nI k193)]) (rest := []) ⟨hx, hb, hml, hown, hts⟩ (k_isConnected (l := l) (D := D) (C := C) (ev := ev) (u := u) (T := T) hl9 hI (a := k180) (b := k193) (by omega) (by omega) x _ hF) (cwV 2 hts gL_isGraphRight_X7_isConnected rfl rfl rfl (by decide +kernel) ⟨Nat.le_of_ble_eq_true rfl, Nat.le_of_ble_eq_true rfl⟩) (hloP_v (kP hP) hK hE (kD hD) hR hX hT9 hV9 hDV hN hC hS (kFr hD hS hA) (kRc hK hP)) rfl rfl hl.1 rfl (lv_room (Nat.le_of_ble_eq_true rfl)) dL_isGraphRight_264 ⟨show _ ≤ 754 from by omega, show _ ≤ 4542 from by omega⟩) hP hD hS hA (fun x H locs hF hP hD hS => ?_)
                  refine lv_iload hx hb dL_isGraphRight_267 (lv_at hl 0 rfl) ?_
                  refine lv_if_lt (tgt := 276) hx hb dL_isGraphRight_269 (by decide) (fun c_269 => ?_) (fun c_269 => ?_)
                  · have hz := hz.trans (if_pos c_269)
                    refine lv_iconst (v := 0) hx hb dL_isGraphRight_276 (by decide) ?_
                    exact J277 (v2_225) (v5_225) (false) ((f_X2_reaches R0 (kG K) (nI k180) (nI k193))) (far0_225) _ _ _ _ _ ls hz  hF (by omega) (by omega) hP hD hS (lv_sub hl [1, 2, 3, 5, 6, 7] rfl)
                  · have hz := hz.trans (if_neg c_269)
                    refine lv_iconst (v := 1) hx hb dL_isGraphRight_272 (by decide) ?_
                    refine lv_goto (tgt := 277) hx hb dL_isGraphRight_273 (by decide) ?_
                    exact J277 (v2_225) (v5_225) (true) ((f_X2_reaches R0 (kG K) (nI k180) (nI k193))) (far0_225) _ _ _ _ _ ls hz  hF (by omega) (by omega) hP hD hS (lv_sub hl [1, 2, 3, 5, 6, 7] rfl)
          refine lv_iload hx hb dL_isGraphRight_193 (lv_at hl 6 rfl) ?_
          refine lv_bipush (v := 8) hx hb dL_isGraphRight_195 (by decide +kernel) ?_
          refine lv_icmp_ge (tgt := 323) hx hb dL_isGraphRight_197 (by decide) (fun c_197 => absurd c_197 (by have e : (8 : Int32) = nI 8 := (by decide +kernel); rw [e]; exact nI_ge (by omega) (by omega))) (fun c_197 => ?_)
          refine lv_aload_n hx hb dL_isGraphRight_200 rfl (lv_at hl 1 rfl) ?_
          refine lv_iload hx hb dL_isGraphRight_201 (lv_at hl 4 rfl) ?_
          refine farRow hx hb hK hP (i := k180) (by omega) dL_isGraphRight_203 ?_
          refine lv_iload hx hb dL_isGraphRight_204 (lv_at hl 6 rfl) ?_
          refine farGet hx hb hK hP (i := k180) (j := k193) (by omega) (by omega) dL_isGraphRight_206 ?_
          refine lv_ldc (v := 100000) hx hb hown (hts (.constant RL 158 (100000)) (by decide +kernel)) dL_isGraphRight_207 ?_
          refine lv_icmp_ge (tgt := 222) hx hb dL_isGraphRight_209 (by decide) (fun c_209 => ?_) (fun c_209 => ?_)
          · have hz := hz.trans (if_pos c_209)
            refine lv_sipush (v := (-2004)) hx hb dL_isGraphRight_222 (by decide +kernel) ?_
            exact J225 (v2_193) (v3_193) (v5_193) ((-2004)) (far0_193) _ _ _ _ _ ls hz  hF (by omega) (by omega) hP hD hS (lv_sub hl [0, 1, 2, 3, 4, 5, 6] rfl)
          · have hz := hz.trans (if_neg c_209)
            refine lv_aload_n hx hb dL_isGraphRight_212 rfl (lv_at hl 1 rfl) ?_
            refine lv_iload hx hb dL_isGraphRight_213 (lv_at hl 4 rfl) ?_
            refine farRow hx hb hK hP (i := k180) (by omega) dL_isGraphRight_215 ?_
            refine lv_iload hx hb dL_isGraphRight_216 (lv_at hl 6 rfl) ?_
            refine farGet hx hb hK hP (i := k180) (j := k193) (by omega) (by omega) dL_isGraphRight_218 ?_
            refine lv_goto (tgt := 225) hx hb dL_isGraphRight_219 (by decide) ?_
            exact J225 (v2_193) (v3_193) (v5_193) ((far0_193 k180 k193)) (far0_193) _ _ _ _ _ ls hz  hF (by omega) (by omega) hP hD hS (lv_sub hl [0, 1, 2, 3, 4, 5, 6] rfl)
      refine lv_iload hx hb dL_isGraphRight_180 (lv_at hl 4 rfl) ?_
      refine lv_bipush (v := 8) hx hb dL_isGraphRight_182 (by decide +kernel) ?_
      refine lv_icmp_ge (tgt := 342) hx hb dL_isGraphRight_184 (by decide) (fun c_184 => absurd c_184 (by have e : (8 : Int32) = nI 8 := (by decide +kernel); rw [e]; exact nI_ge (by omega) (by omega))) (fun c_184 => ?_)
      refine lv_iconst (v := 1) hx hb dL_isGraphRight_187 (by decide) ?_
      refine lv_istore (lv' := [(5, .int 1), (0, .ref (u 0)), (1, .ref (f 0)), (2, .int v2_180), (3, .int (bI v3_180)), (4, .int (nI k180))]) hx hb dL_isGraphRight_188 hl (by decide) rfl (fun ls hl => ?_)
      refine lv_iconst (v := 0) hx hb dL_isGraphRight_190 (by decide) ?_
      refine lv_istore (lv' := [(6, .int 0), (5, .int 1), (0, .ref (u 0)), (1, .ref (f 0)), (2, .int v2_180), (3, .int (bI v3_180)), (4, .int (nI k180))]) hx hb dL_isGraphRight_191 hl (by decide) rfl (fun ls hl => ?_)
      exact J193 (8) 0 (v2_180) (v3_180) (true) (far0_180) _ _ _ _ _ ls (by omega) hz  hF (by omega) (by omega) hP hD hS (lv_sub hl [2, 3, 4, 5, 6, 1, 0] rfl)
  have J113 : ∀ (n113 k113 : Nat) (far0_113 : (Nat → Nat → Int32)) (x : KX) (H : Heap) (locs : List Loc) (cells slots : Nat) (ls : Array Slot), k113 + n113 = 512 → z = f_L_isGraphRight_l113 K n113 k113 far0_113 → kF T x → cells + (654) ≤ 754 → slots + (3924) ≤ 4542 → va_P D vwCl (wj [kW C ev u K x, farc C f far0_113]) H → va_D A (wj [kW C ev u K x, farc C f far0_113]) → va_S A s.heap H locs → lv_has ls 8 [(0, .ref (u 0)), (1, .ref (f 0)), (2, .int (nI k113))] → W p l e ({ frames := 12, cells := 754, slots := 4542, locals := 287 } : Room) s m ([.ref (u 0)] : List Value).toArray below meth c H locs cells slots (MQ below (eO (fun _ : KX => (some (.int (bI z)))) D (kF T) (kW C ev u K) A) ([.ref (u 0)] : List Value).toArray s 754 4542 A) (F0 m 113 ls []) := by
    intro n113
    induction n113 with
    | zero =>
      intro k113 far0_113 x H locs cells slots ls hk113 hz  hF hc hs hP hD hS hl
      have hz : z = f_L_isGraphRight_l113x K far0_113 := hz
      refine lv_iload_n hx hb dL_isGraphRight_113 rfl (lv_at hl 2 rfl) ?_
      refine lv_sipush (v := 512) hx hb dL_isGraphRight_114 (by decide +kernel) ?_
      refine lv_icmp_ge (tgt := 173) hx hb dL_isGraphRight_117 (by decide) (fun c_117 => ?_) (fun c_117 => absurd (by have e : (512 : Int32) = nI 512 := (by decide +kernel); rw [e]; exact nI_le (by omega) (by omega)) c_117)
      refine lv_iconst (v := 0) hx hb dL_isGraphRight_173 (by decide) ?_
      refine lv_istore_n (lv' := [(2, .int 0), (0, .ref (u 0)), (1, .ref (f 0))]) hx hb dL_isGraphRight_174 rfl hl (by decide) rfl (fun ls hl => ?_)
      refine lv_iconst (v := 1) hx hb dL_isGraphRight_175 (by decide) ?_
      refine lv_istore_n (lv' := [(3, .int 1), (2, .int 0), (0, .ref (u 0)), (1, .ref (f 0))]) hx hb dL_isGraphRight_176 rfl hl (by decide) rfl (fun ls hl => ?_)
      refine lv_iconst (v := 0) hx hb dL_isGraphRight_177 (by decide) ?_
      refine lv_istore (lv' := [(4, .int 0), (3, .int 1), (2, .int 0), (0, .ref (u 0)), (1, .ref (f 0))]) hx hb dL_isGraphRight_178 hl (by decide) rfl (fun ls hl => ?_)
      exact J180 (8) 0 (0) (true) (far0_113) _ _ _ _ _ ls (by omega) hz  hF (by omega) (by omega) hP hD hS (lv_sub hl [3, 4, 2, 1, 0] rfl)
    | succ n113 ih113 =>
      intro k113 far0_113 x H locs cells slots ls hk113 hz113  hF hc hs hP hD hS hl
      obtain ⟨z113, hz⟩ : ∃ zz_, zz_ = f_L_isGraphRight_l113b K k113 far0_113 := ⟨_, rfl⟩
      have hq113 : z = sE id (fun q_ => lpF (f_L_isGraphRight_l113s K) (f_L_isGraphRight_l113e K) n113 (k113 + 1) q_) z113 := by rw [hz113, hz]; rfl
      refine lv_iload_n hx hb dL_isGraphRight_113 rfl (lv_at hl 2 rfl) ?_
      refine lv_sipush (v := 512) hx hb dL_isGraphRight_114 (by decide +kernel) ?_
      refine lv_icmp_ge (tgt := 173) hx hb dL_isGraphRight_117 (by decide) (fun c_117 => absurd c_117 (by have e : (512 : Int32) = nI 512 := (by decide +kernel); rw [e]; exact nI_ge (by omega) (by omega))) (fun c_117 => ?_)
      refine lv_iload_n hx hb dL_isGraphRight_120 rfl (lv_at hl 2 rfl) ?_
      refine lv_bipush (v := 8) hx hb dL_isGraphRight_121 (by decide +kernel) ?_
      refine lv_idiv hx hb dL_isGraphRight_123 (by decide) ?_
      refine topN (k := (k113 / 8)) (show ((nI k113) / 8) = (nI (k113 / 8)) from by exact nI_d8 k113 (by omega)) ?_
      refine lv_bipush (v := 8) hx hb dL_isGraphRight_124 (by decide +kernel) ?_
      refine lv_irem hx hb dL_isGraphRight_126 (by decide) ?_
      refine topN (k := (k113 / 8 % 8)) (show ((nI (k113 / 8)) - (nI (k113 / 8)) / 8 * 8) = (nI (k113 / 8 % 8)) from by exact nI_r8 (k113 / 8) (by omega)) ?_
      refine lv_istore_n (lv' := [(3, .int (nI (k113 / 8 % 8))), (0, .ref (u 0)), (1, .ref (f 0)), (2, .int (nI k113))]) hx hb dL_isGraphRight_127 rfl hl (by decide) rfl (fun ls hl => ?_)
      refine lv_iload_n hx hb dL_isGraphRight_128 rfl (lv_at hl 3 rfl) ?_
      refine lv_bipush (v := 8) hx hb dL_isGraphRight_129 (by decide +kernel) ?_
      refine lv_irem hx hb dL_isGraphRight_131 (by decide) ?_
      refine topN (k := (k113 % 8)) (show ((nI k113) - (nI k113) / 8 * 8) = (nI (k113 % 8)) from by exact nI_r8 k113 (by omega)) ?_
      refine lv_istore (lv' := [(4, .int (nI (k113 % 8))), (3, .int (nI (k113 / 8 % 8))), (0, .ref (u 0)), (1, .ref (f 0)), (2, .int (nI k113))]) hx hb dL_isGraphRight_132 hl (by decide) rfl (fun ls hl => ?_)
      refine lv_aload_n hx hb dL_isGraphRight_134 rfl (lv_at hl 3 rfl) ?_
      refine lv_iload_n hx hb dL_isGraphRight_135 rfl (lv_at hl 1 rfl) ?_
      refine farRow hx hb hK hP (i := (k113 / 8 % 8)) (by omega) dL_isGraphRight_136 ?_
      refine lv_iload hx hb dL_isGraphRight_137 (lv_at hl 0 rfl) ?_
      refine lv_aload_n hx hb dL_isGraphRight_139 rfl (lv_at hl 3 rfl) ?_
      refine lv_iload_n hx hb dL_isGraphRight_140 rfl (lv_at hl 1 rfl) ?_
      refine farRow hx hb hK hP (i := (k113 / 8 % 8)) (by omega) dL_isGraphRight_141 ?_
      refine lv_iload hx hb dL_isGraphRight_142 (lv_at hl 0 rfl) ?_
      refine farGet hx hb hK hP (i := (k113 / 8 % 8)) (j := (k113 % 8)) (by omega) (by omega) dL_isGraphRight_144 ?_
      refine lv_aload_n hx hb dL_isGraphRight_145 rfl (lv_at hl 3 rfl) ?_
      refine lv_iload_n hx hb dL_isGraphRight_146 rfl (lv_at hl 1 rfl) ?_
      refine farRow hx hb hK hP (i := (k113 / 8 % 8)) (by omega) dL_isGraphRight_147 ?_
      refine lv_iload_n hx hb dL_isGraphRight_148 rfl (lv_at hl 4 rfl) ?_
      refine lv_bipush (v := 64) hx hb dL_isGraphRight_149 (by decide +kernel) ?_
      refine lv_idiv hx hb dL_isGraphRight_151 (by decide) ?_
      refine topN (k := (k113 / 64)) (show ((nI k113) / 64) = (nI (k113 / 64)) from by exact nI_d64 k113 (by omega)) ?_
      refine farGet hx hb hK hP (i := (k113 / 8 % 8)) (j := (k113 / 64)) (by omega) (by omega) dL_isGraphRight_152 ?_
      refine lv_aload_n hx hb dL_isGraphRight_153 rfl (lv_at hl 3 rfl) ?_
      refine lv_iload_n hx hb dL_isGraphRight_154 rfl (lv_at hl 4 rfl) ?_
      refine lv_bipush (v := 64) hx hb dL_isGraphRight_155 (by decide +kernel) ?_
      refine lv_idiv hx hb dL_isGraphRight_157 (by decide) ?_
      refine topN (k := (k113 / 64)) (show ((nI k113) / 64) = (nI (k113 / 64)) from by exact nI_d64 k113 (by omega)) ?_
      refine farRow hx hb hK hP (i := (k113 / 64)) (by omega) dL_isGraphRight_158 ?_
      refine lv_iload hx hb dL_isGraphRight_159 (lv_at hl 0 rfl) ?_
      refine farGet hx hb hK hP (i := (k113 / 64)) (j := (k113 % 8)) (by omega) (by omega) dL_isGraphRight_161 ?_
      refine lv_iadd hx hb dL_isGraphRight_162 ?_
      refine va_mmin hx hb (hml.trans hl.1.symm) hown (hts (.methodLink RL 168 Lib.Math.min.name) (by decide +kernel)) (hts (.static Lib.Math.min.name) (by decide +kernel)) (hts (.initialized "java/lang/Math") (by decide +kernel)) (hts (.code Lib.Math.min.name Lib.Math.min.code 2 (some .int)) (by decide +kernel)) (Nat.le_of_ble_eq_true rfl) (Nat.le_of_ble_eq_true rfl) (show _ ≤ 754 from by omega) (show _ ≤ 4542 from by omega) dL_isGraphRight_163 ?_
      refine topI (y := (imin (far0_113 (k113 / 8 % 8) (k113 % 8)) ((far0_113 (k113 / 8 % 8) (k113 / 64)) + (far0_113 (k113 / 64) (k113 % 8))))) rfl ?_
      refine farPut hx hb hK hP hD hS (i := (k113 / 8 % 8)) (j := (k113 % 8)) (by omega) (by omega) dL_isGraphRight_166 (fun H locs hP hD hS => ?_)
      refine lv_iinc (v := (nI (k113 + 1))) (lv' := [(2, .int (nI (k113 + 1))), (4, .int (nI (k113 % 8))), (3, .int (nI (k113 / 8 % 8))), (0, .ref (u 0)), (1, .ref (f 0))]) hx hb dL_isGraphRight_167 hl (k := 4) rfl (by exact nI_1 _) (by decide) rfl (fun ls hl => ?_)
      refine lv_goto (tgt := 113) hx hb dL_isGraphRight_170 (by decide) ?_
      exact ih113 (k113 + 1) ((updT far0_113 (k113 / 8 % 8) (k113 % 8) (imin (far0_113 (k113 / 8 % 8) (k113 % 8)) ((far0_113 (k113 / 8 % 8) (k113 / 64)) + (far0_113 (k113 / 64) (k113 % 8)))))) _ _ _ _ _ ls (by omega) (by rw [hq113, hz]; rfl)  hF (by omega) (by omega) hP hD hS (lv_sub hl [3, 4, 0] rfl)
  have J53 : ∀ (n53 k53 : Nat) (far0_53 : (Nat → Nat → Int32)) (x : KX) (H : Heap) (locs : List Loc) (cells slots : Nat) (ls : Array Slot), k53 + n53 = gS (kG K) → z = f_L_isGraphRight_l53 K n53 k53 far0_53 → kF T x → cells + ((n53 + 1) * 7 + 654) ≤ 754 → slots + ((n53 + 1) * 42 + 3924) ≤ 4542 → va_P D vwCl (wj [kW C ev u K x, farc C f far0_53]) H → va_D A (wj [kW C ev u K x, farc C f far0_53]) → va_S A s.heap H locs → lv_has ls 8 [(0, .ref (u 0)), (1, .ref (f 0)), (2, .int (nI k53))] → W p l e ({ frames := 12, cells := 754, slots := 4542, locals := 287 } : Room) s m ([.ref (u 0)] : List Value).toArray below meth c H locs cells slots (MQ below (eO (fun _ : KX => (some (.int (bI z)))) D (kF T) (kW C ev u K) A) ([.ref (u 0)] : List Value).toArray s 754 4542 A) (F0 m 53 ls []) := by
    intro n53
    induction n53 with
    | zero =>
      intro k53 far0_53 x H locs cells slots ls hk53 hz  hF hc hs hP hD hS hl
      have hz : z = f_L_isGraphRight_l53x K far0_53 := hz
      refine lv_iload_n hx hb dL_isGraphRight_53 rfl (lv_at hl 2 rfl) ?_
      refine lv_aload_n hx hb dL_isGraphRight_54 rfl (lv_at hl 0 rfl) ?_
      refine callK (va_runV (As := []) (rest := [.int (nI k53)]) ⟨hx, hb, hml, hown, hts⟩ (k_siteCount (l := l) (D := D) (C := C) (ev := ev) (u := u) (T := T) hl9 hI x _ hF) (cwV 0 hts gL_isGraphRight_X7_siteCount rfl rfl rfl (by decide +kernel) ⟨Nat.le_of_ble_eq_true rfl, Nat.le_of_ble_eq_true rfl⟩) (hloP_v (kP hP) hK hE (kD hD) hR hX hT9 hV9 hDV hN hC hS (kFr hD hS hA) (kRc hK hP)) rfl rfl hl.1 rfl (lv_room (Nat.le_of_ble_eq_true rfl)) dL_isGraphRight_55 ⟨show _ ≤ 754 from by omega, show _ ≤ 4542 from by omega⟩) hP hD hS hA (fun x H locs hF hP hD hS => ?_)
      refine lv_icmp_ge (tgt := 111) hx hb dL_isGraphRight_58 (by decide) (fun c_58 => ?_) (fun c_58 => absurd (nI_le (by omega) (by omega)) c_58)
      refine lv_iconst (v := 0) hx hb dL_isGraphRight_111 (by decide) ?_
      refine lv_istore_n (lv' := [(2, .int 0), (0, .ref (u 0)), (1, .ref (f 0))]) hx hb dL_isGraphRight_112 rfl hl (by decide) rfl (fun ls hl => ?_)
      exact J113 (512) 0 (far0_53) _ _ _ _ _ ls (by omega) hz  hF (by omega) (by omega) hP hD hS (lv_sub hl [1, 2, 0] rfl)
    | succ n53 ih53 =>
      intro k53 far0_53 x H locs cells slots ls hk53 hz53  hF hc hs hP hD hS hl
      obtain ⟨z53, hz⟩ : ∃ zz_, zz_ = f_L_isGraphRight_l53b K k53 far0_53 := ⟨_, rfl⟩
      have hq53 : z = sE id (fun q_ => lpF (f_L_isGraphRight_l53s K) (f_L_isGraphRight_l53e K) n53 (k53 + 1) q_) z53 := by rw [hz53, hz]; rfl
      have J105 : ∀ (far0_105 : (Nat → Nat → Int32))  (x : KX) (H : Heap) (locs : List Loc) (cells slots : Nat) (ls : Array Slot), z53 = f_L_isGraphRight_j105 far0_105 → kF T x → cells + ((n53 + 1) * 7 + 654) ≤ 754 → slots + ((n53 + 1) * 42 + 3924) ≤ 4542 → va_P D vwCl (wj [kW C ev u K x, farc C f far0_105]) H → va_D A (wj [kW C ev u K x, farc C f far0_105]) → va_S A s.heap H locs → lv_has ls 8 [(0, .ref (u 0)), (1, .ref (f 0)), (2, .int (nI k53))] → W p l e ({ frames := 12, cells := 754, slots := 4542, locals := 287 } : Room) s m ([.ref (u 0)] : List Value).toArray below meth c H locs cells slots (MQ below (eO (fun _ : KX => (some (.int (bI z)))) D (kF T) (kW C ev u K) A) ([.ref (u 0)] : List Value).toArray s 754 4542 A) (F0 m 105 ls []) := by
        intro far0_105 x H locs cells slots ls hz  hF hc hs hP hD hS hl
        refine lv_iinc (v := (nI (k53 + 1))) (lv' := [(2, .int (nI (k53 + 1))), (0, .ref (u 0)), (1, .ref (f 0))]) hx hb dL_isGraphRight_105 hl (k := 2) rfl (by exact nI_1 _) (by decide) rfl (fun ls hl => ?_)
        refine lv_goto (tgt := 53) hx hb dL_isGraphRight_108 (by decide) ?_
        exact ih53 (k53 + 1) (far0_105) _ _ _ _ _ ls (by omega) (by rw [hq53, hz]; rfl)  hF (by omega) (by omega) hP hD hS (lv_sub hl [1, 2, 0] rfl)
      refine lv_iload_n hx hb dL_isGraphRight_53 rfl (lv_at hl 2 rfl) ?_
      refine lv_aload_n hx hb dL_isGraphRight_54 rfl (lv_at hl 0 rfl) ?_
      refine callK (va_runV (As := []) (rest := [.int (nI k53)]) ⟨hx, hb, hml, hown, hts⟩ (k_siteCount (l := l) (D := D) (C := C) (ev := ev) (u := u) (T := T) hl9 hI x _ hF) (cwV 0 hts gL_isGraphRight_X7_siteCount rfl rfl rfl (by decide +kernel) ⟨Nat.le_of_ble_eq_true rfl, Nat.le_of_ble_eq_true rfl⟩) (hloP_v (kP hP) hK hE (kD hD) hR hX hT9 hV9 hDV hN hC hS (kFr hD hS hA) (kRc hK hP)) rfl rfl hl.1 rfl (lv_room (Nat.le_of_ble_eq_true rfl)) dL_isGraphRight_55 ⟨show _ ≤ 754 from by omega, show _ ≤ 4542 from by omega⟩) hP hD hS hA (fun x H locs hF hP hD hS => ?_)
      refine lv_icmp_ge (tgt := 111) hx hb dL_isGraphRight_58 (by decide) (fun c_58 => absurd c_58 (nI_ge (by omega) (by omega))) (fun c_58 => ?_)
      refine lv_aload_n hx hb dL_isGraphRight_61 rfl (lv_at hl 0 rfl) ?_
      refine lv_iload_n hx hb dL_isGraphRight_62 rfl (lv_at hl 2 rfl) ?_
      refine callK (va_runV (As := [.int (nI k53)]) (rest := []) ⟨hx, hb, hml, hown, hts⟩ (k_isBuilt (l := l) (D := D) (C := C) (ev := ev) (u := u) (T := T) hl9 hI (k := k53) (by omega) x _ hF) (cwV 1 hts gL_isGraphRight_X7_isBuilt rfl rfl rfl (by decide +kernel) ⟨Nat.le_of_ble_eq_true rfl, Nat.le_of_ble_eq_true rfl⟩) (hloP_v (kP hP) hK hE (kD hD) hR hX hT9 hV9 hDV hN hC hS (kFr hD hS hA) (kRc hK hP)) rfl rfl hl.1 rfl (lv_room (Nat.le_of_ble_eq_true rfl)) dL_isGraphRight_63 ⟨show _ ≤ 754 from by omega, show _ ≤ 4542 from by omega⟩) hP hD hS hA (fun x H locs hF hP hD hS => ?_)
      refine bif_eq (tgt := 105) hx hb dL_isGraphRight_66 (by decide) (fun c_66 => ?_) (fun c_66 => ?_)
      · have hz := hz.trans (ifB_f c_66)
        exact J105 (far0_53) _ _ _ _ _ ls hz  hF (by omega) (by omega) hP hD hS (lv_sub hl [0, 1, 2] rfl)
      · have hz := hz.trans (ifB_t c_66)
        refine lv_aload_n hx hb dL_isGraphRight_69 rfl (lv_at hl 1 rfl) ?_
        refine lv_aload_n hx hb dL_isGraphRight_70 rfl (lv_at hl 0 rfl) ?_
        refine lv_iload_n hx hb dL_isGraphRight_71 rfl (lv_at hl 2 rfl) ?_
        refine callK (va_runV (As := [.int (nI k53)]) (rest := [.ref (f 0)]) ⟨hx, hb, hml, hown, hts⟩ (k_lowerIsland (l := l) (D := D) (C := C) (ev := ev) (u := u) (T := T) hl9 hI (k := k53) (by omega) x _ hF) (cwV 1 hts gL_isGraphRight_X7_lowerIsland rfl rfl rfl (by decide +kernel) ⟨Nat.le_of_ble_eq_true rfl, Nat.le_of_ble_eq_true rfl⟩) (hloP_v (kP hP) hK hE (kD hD) hR hX hT9 hV9 hDV hN hC hS (kFr hD hS hA) (kRc hK hP)) rfl rfl hl.1 rfl (lv_room (Nat.le_of_ble_eq_true rfl)) dL_isGraphRight_72 ⟨show _ ≤ 754 from by omega, show _ ≤ 4542 from by omega⟩) hP hD hS hA (fun x H locs hF hP hD hS => ?_)
        have hb_1 := hlo (k53)
        refine farRow hx hb hK hP (i := (gLo (kG K) k53)) (by omega) dL_isGraphRight_75 ?_
        refine lv_aload_n hx hb dL_isGraphRight_76 rfl (lv_at hl 0 rfl) ?_
        refine lv_iload_n hx hb dL_isGraphRight_77 rfl (lv_at hl 2 rfl) ?_
        refine callK (va_runV (As := [.int (nI k53)]) (rest := [.ref (f (1 + (gLo (kG K) k53)))]) ⟨hx, hb, hml, hown, hts⟩ (k_higherIsland (l := l) (D := D) (C := C) (ev := ev) (u := u) (T := T) hl9 hI (k := k53) (by omega) x _ hF) (cwV 1 hts gL_isGraphRight_X7_higherIsland rfl rfl rfl (by decide +kernel) ⟨Nat.le_of_ble_eq_true rfl, Nat.le_of_ble_eq_true rfl⟩) (hloP_v (kP hP) hK hE (kD hD) hR hX hT9 hV9 hDV hN hC hS (kFr hD hS hA) (kRc hK hP)) rfl rfl hl.1 rfl (lv_room (Nat.le_of_ble_eq_true rfl)) dL_isGraphRight_78 ⟨show _ ≤ 754 from by omega, show _ ≤ 4542 from by omega⟩) hP hD hS hA (fun x H locs hF hP hD hS => ?_)
        have hb_2 := hhi (k53)
        refine lv_aload_n hx hb dL_isGraphRight_81 rfl (lv_at hl 0 rfl) ?_
        refine lv_iload_n hx hb dL_isGraphRight_82 rfl (lv_at hl 2 rfl) ?_
        refine callK (va_runV (As := [.int (nI k53)]) (rest := [.int (nI (gHi (kG K) k53)), .ref (f (1 + (gLo (kG K) k53)))]) ⟨hx, hb, hml, hown, hts⟩ (k_length (l := l) (D := D) (C := C) (ev := ev) (u := u) (T := T) hl9 hI (k := k53) (by omega) x _ hF) (cwV 1 hts gL_isGraphRight_X7_length rfl rfl rfl (by decide +kernel) ⟨Nat.le_of_ble_eq_true rfl, Nat.le_of_ble_eq_true rfl⟩) (hloP_v (kP hP) hK hE (kD hD) hR hX hT9 hV9 hDV hN hC hS (kFr hD hS hA) (kRc hK hP)) rfl rfl hl.1 rfl (lv_room (Nat.le_of_ble_eq_true rfl)) dL_isGraphRight_83 ⟨show _ ≤ 754 from by omega, show _ ≤ 4542 from by omega⟩) hP hD hS hA (fun x H locs hF hP hD hS => ?_)
        refine farPut hx hb hK hP hD hS (i := (gLo (kG K) k53)) (j := (gHi (kG K) k53)) (by omega) (by omega) dL_isGraphRight_86 (fun H locs hP hD hS => ?_)
        refine lv_aload_n hx hb dL_isGraphRight_87 rfl (lv_at hl 1 rfl) ?_
        refine lv_aload_n hx hb dL_isGraphRight_88 rfl (lv_at hl 0 rfl) ?_
        refine lv_iload_n hx hb dL_isGraphRight_89 rfl (lv_at hl 2 rfl) ?_
        refine callK (va_runV (As := [.int (nI k53)]) (rest := [.ref (f 0)]) ⟨hx, hb, hml, hown, hts⟩ (k_higherIsland (l := l) (D := D) (C := C) (ev := ev) (u := u) (T := T) hl9 hI (k := k53) (by omega) x _ hF) (cwV 1 hts gL_isGraphRight_X7_higherIsland rfl rfl rfl (by decide +kernel) ⟨Nat.le_of_ble_eq_true rfl, Nat.le_of_ble_eq_true rfl⟩) (hloP_v (kP hP) hK hE (kD hD) hR hX hT9 hV9 hDV hN hC hS (kFr hD hS hA) (kRc hK hP)) rfl rfl hl.1 rfl (lv_room (Nat.le_of_ble_eq_true rfl)) dL_isGraphRight_90 ⟨show _ ≤ 754 from by omega, show _ ≤ 4542 from by omega⟩) hP hD hS hA (fun x H locs hF hP hD hS => ?_)
        have hb_3 := hhi (k53)
        refine farRow hx hb hK hP (i := (gHi (kG K) k53)) (by omega) dL_isGraphRight_93 ?_
        refine lv_aload_n hx hb dL_isGraphRight_94 rfl (lv_at hl 0 rfl) ?_
        refine lv_iload_n hx hb dL_isGraphRight_95 rfl (lv_at hl 2 rfl) ?_
        refine callK (va_runV (As := [.int (nI k53)]) (rest := [.ref (f (1 + (gHi (kG K) k53)))]) ⟨hx, hb, hml, hown, hts⟩ (k_lowerIsland (l := l) (D := D) (C := C) (ev := ev) (u := u) (T := T) hl9 hI (k := k53) (by omega) x _ hF) (cwV 1 hts gL_isGraphRight_X7_lowerIsland rfl rfl rfl (by decide +kernel) ⟨Nat.le_of_ble_eq_true rfl, Nat.le_of_ble_eq_true rfl⟩) (hloP_v (kP hP) hK hE (kD hD) hR hX hT9 hV9 hDV hN hC hS (kFr hD hS hA) (kRc hK hP)) rfl rfl hl.1 rfl (lv_room (Nat.le_of_ble_eq_true rfl)) dL_isGraphRight_96 ⟨show _ ≤ 754 from by omega, show _ ≤ 4542 from by omega⟩) hP hD hS hA (fun x H locs hF hP hD hS => ?_)
        have hb_4 := hlo (k53)
        refine lv_aload_n hx hb dL_isGraphRight_99 rfl (lv_at hl 0 rfl) ?_
        refine lv_iload_n hx hb dL_isGraphRight_100 rfl (lv_at hl 2 rfl) ?_
        refine callK (va_runV (As := [.int (nI k53)]) (rest := [.int (nI (gLo (kG K) k53)), .ref (f (1 + (gHi (kG K) k53)))]) ⟨hx, hb, hml, hown, hts⟩ (k_length (l := l) (D := D) (C := C) (ev := ev) (u := u) (T := T) hl9 hI (k := k53) (by omega) x _ hF) (cwV 1 hts gL_isGraphRight_X7_length rfl rfl rfl (by decide +kernel) ⟨Nat.le_of_ble_eq_true rfl, Nat.le_of_ble_eq_true rfl⟩) (hloP_v (kP hP) hK hE (kD hD) hR hX hT9 hV9 hDV hN hC hS (kFr hD hS hA) (kRc hK hP)) rfl rfl hl.1 rfl (lv_room (Nat.le_of_ble_eq_true rfl)) dL_isGraphRight_101 ⟨show _ ≤ 754 from by omega, show _ ≤ 4542 from by omega⟩) hP hD hS hA (fun x H locs hF hP hD hS => ?_)
        refine farPut hx hb hK hP hD hS (i := (gHi (kG K) k53)) (j := (gLo (kG K) k53)) (by omega) (by omega) dL_isGraphRight_104 (fun H locs hP hD hS => ?_)
        exact J105 ((updT (updT far0_53 (gLo (kG K) k53) (gHi (kG K) k53) (gLen (kG K) k53)) (gHi (kG K) k53) (gLo (kG K) k53) (gLen (kG K) k53))) _ _ _ _ _ ls hz  hF (by omega) (by omega) hP hD hS (lv_sub hl [0, 1, 2] rfl)
  have J11 : ∀ (n11 k11 : Nat) (far0_11 : (Nat → Nat → Int32)) (x : KX) (H : Heap) (locs : List Loc) (cells slots : Nat) (ls : Array Slot), k11 + n11 = 64 → z = f_L_isGraphRight_l11 K n11 k11 far0_11 → kF T x → cells + (745) ≤ 754 → slots + (4470) ≤ 4542 → va_P D vwCl (wj [kW C ev u K x, farc C f far0_11]) H → va_D A (wj [kW C ev u K x, farc C f far0_11]) → va_S A s.heap H locs → lv_has ls 8 [(0, .ref (u 0)), (1, .ref (f 0)), (2, .int (nI k11))] → W p l e ({ frames := 12, cells := 754, slots := 4542, locals := 287 } : Room) s m ([.ref (u 0)] : List Value).toArray below meth c H locs cells slots (MQ below (eO (fun _ : KX => (some (.int (bI z)))) D (kF T) (kW C ev u K) A) ([.ref (u 0)] : List Value).toArray s 754 4542 A) (F0 m 11 ls []) := by
    intro n11
    induction n11 with
    | zero =>
      intro k11 far0_11 x H locs cells slots ls hk11 hz  hF hc hs hP hD hS hl
      have hz : z = f_L_isGraphRight_l11x K far0_11 := hz
      refine lv_iload_n hx hb dL_isGraphRight_11 rfl (lv_at hl 2 rfl) ?_
      refine lv_bipush (v := 64) hx hb dL_isGraphRight_12 (by decide +kernel) ?_
      refine lv_icmp_ge (tgt := 51) hx hb dL_isGraphRight_14 (by decide) (fun c_14 => ?_) (fun c_14 => absurd (by have e : (64 : Int32) = nI 64 := (by decide +kernel); rw [e]; exact nI_le (by omega) (by omega)) c_14)
      refine lv_iconst (v := 0) hx hb dL_isGraphRight_51 (by decide) ?_
      refine lv_istore_n (lv' := [(2, .int 0), (0, .ref (u 0)), (1, .ref (f 0))]) hx hb dL_isGraphRight_52 rfl hl (by decide) rfl (fun ls hl => ?_)
      exact J53 (gS (kG K)) 0 (far0_11) _ _ _ _ _ ls (by omega) hz  hF (by omega) (by omega) hP hD hS (lv_sub hl [1, 2, 0] rfl)
    | succ n11 ih11 =>
      intro k11 far0_11 x H locs cells slots ls hk11 hz11  hF hc hs hP hD hS hl
      obtain ⟨z11, hz⟩ : ∃ zz_, zz_ = f_L_isGraphRight_l11b K k11 far0_11 := ⟨_, rfl⟩
      have hq11 : z = sE id (fun q_ => lpF (f_L_isGraphRight_l11s K) (f_L_isGraphRight_l11e K) n11 (k11 + 1) q_) z11 := by rw [hz11, hz]; rfl
      have J44 : ∀ (s0_44 : Int32) (s1_44 : Nat) (far0_44 : (Nat → Nat → Int32))  (x : KX) (H : Heap) (locs : List Loc) (cells slots : Nat) (ls : Array Slot), z11 = f_L_isGraphRight_j44 k11 s0_44 s1_44 far0_44 → (s1_44 < 8) → kF T x → cells + (745) ≤ 754 → slots + (4470) ≤ 4542 → va_P D vwCl (wj [kW C ev u K x, farc C f far0_44]) H → va_D A (wj [kW C ev u K x, farc C f far0_44]) → va_S A s.heap H locs → lv_has ls 8 [(0, .ref (u 0)), (1, .ref (f 0)), (2, .int (nI k11))] → W p l e ({ frames := 12, cells := 754, slots := 4542, locals := 287 } : Room) s m ([.ref (u 0)] : List Value).toArray below meth c H locs cells slots (MQ below (eO (fun _ : KX => (some (.int (bI z)))) D (kF T) (kW C ev u K) A) ([.ref (u 0)] : List Value).toArray s 754 4542 A) (F0 m 44 ls [.int s0_44, .int (nI s1_44), .ref (f (1 + (k11 / 8)))]) := by
        intro s0_44 s1_44 far0_44 x H locs cells slots ls hz iv44_0 hF hc hs hP hD hS hl
        refine farPut hx hb hK hP hD hS (i := (k11 / 8)) (j := s1_44) (by omega) (by omega) dL_isGraphRight_44 (fun H locs hP hD hS => ?_)
        refine lv_iinc (v := (nI (k11 + 1))) (lv' := [(2, .int (nI (k11 + 1))), (0, .ref (u 0)), (1, .ref (f 0))]) hx hb dL_isGraphRight_45 hl (k := 2) rfl (by exact nI_1 _) (by decide) rfl (fun ls hl => ?_)
        refine lv_goto (tgt := 11) hx hb dL_isGraphRight_48 (by decide) ?_
        exact ih11 (k11 + 1) ((updT far0_44 (k11 / 8) s1_44 s0_44)) _ _ _ _ _ ls (by omega) (by rw [hq11, hz]; rfl)  hF (by omega) (by omega) hP hD hS (lv_sub hl [1, 2, 0] rfl)
      refine lv_iload_n hx hb dL_isGraphRight_11 rfl (lv_at hl 2 rfl) ?_
      refine lv_bipush (v := 64) hx hb dL_isGraphRight_12 (by decide +kernel) ?_
      refine lv_icmp_ge (tgt := 51) hx hb dL_isGraphRight_14 (by decide) (fun c_14 => absurd c_14 (by have e : (64 : Int32) = nI 64 := (by decide +kernel); rw [e]; exact nI_ge (by omega) (by omega))) (fun c_14 => ?_)
      refine lv_aload_n hx hb dL_isGraphRight_17 rfl (lv_at hl 1 rfl) ?_
      refine lv_iload_n hx hb dL_isGraphRight_18 rfl (lv_at hl 2 rfl) ?_
      refine lv_bipush (v := 8) hx hb dL_isGraphRight_19 (by decide +kernel) ?_
      refine lv_idiv hx hb dL_isGraphRight_21 (by decide) ?_
      refine topN (k := (k11 / 8)) (show ((nI k11) / 8) = (nI (k11 / 8)) from by exact nI_d8 k11 (by omega)) ?_
      refine farRow hx hb hK hP (i := (k11 / 8)) (by omega) dL_isGraphRight_22 ?_
      refine lv_iload_n hx hb dL_isGraphRight_23 rfl (lv_at hl 2 rfl) ?_
      refine lv_bipush (v := 8) hx hb dL_isGraphRight_24 (by decide +kernel) ?_
      refine lv_irem hx hb dL_isGraphRight_26 (by decide) ?_
      refine topN (k := (k11 % 8)) (show ((nI k11) - (nI k11) / 8 * 8) = (nI (k11 % 8)) from by exact nI_r8 k11 (by omega)) ?_
      refine lv_iload_n hx hb dL_isGraphRight_27 rfl (lv_at hl 2 rfl) ?_
      refine lv_bipush (v := 8) hx hb dL_isGraphRight_28 (by decide +kernel) ?_
      refine lv_idiv hx hb dL_isGraphRight_30 (by decide) ?_
      refine topN (k := (k11 / 8)) (show ((nI k11) / 8) = (nI (k11 / 8)) from by exact nI_d8 k11 (by omega)) ?_
      refine lv_iload_n hx hb dL_isGraphRight_31 rfl (lv_at hl 2 rfl) ?_
      refine lv_bipush (v := 8) hx hb dL_isGraphRight_32 (by decide +kernel) ?_
      refine lv_irem hx hb dL_isGraphRight_34 (by decide) ?_
      refine topN (k := (k11 % 8)) (show ((nI k11) - (nI k11) / 8 * 8) = (nI (k11 % 8)) from by exact nI_r8 k11 (by omega)) ?_
      refine lv_icmp_ne (tgt := 42) hx hb dL_isGraphRight_35 (by decide) (fun c_35 => ?_) (fun c_35 => ?_)
      · have hz := hz.trans (if_neg c_35)
        refine lv_ldc (v := 100000) hx hb hown (hts (.constant RL 158 (100000)) (by decide +kernel)) dL_isGraphRight_42 ?_
        exact J44 (100000) ((k11 % 8)) (far0_11) _ _ _ _ _ ls hz (by omega) hF (by omega) (by omega) hP hD hS (lv_sub hl [0, 1, 2] rfl)
      · have hz := hz.trans (if_pos c_35)
        refine lv_iconst (v := 0) hx hb dL_isGraphRight_38 (by decide) ?_
        refine lv_goto (tgt := 44) hx hb dL_isGraphRight_39 (by decide) ?_
        exact J44 (0) ((k11 % 8)) (far0_11) _ _ _ _ _ ls hz (by omega) hF (by omega) (by omega) hP hD hS (lv_sub hl [0, 1, 2] rfl)
  refine lv_astore_n (lv' := [(1, .ref (f 0)), (0, .ref (u 0))]) hx hb dL_isGraphRight_8 rfl hl (by decide) rfl (fun ls hl => ?_)
  refine lv_iconst (v := 0) hx hb dL_isGraphRight_9 (by decide) ?_
  refine lv_istore_n (lv' := [(2, .int 0), (1, .ref (f 0)), (0, .ref (u 0))]) hx hb dL_isGraphRight_10 rfl hl (by decide) rfl (fun ls hl => ?_)
  exact J11 (64) 0 ((fun _ _ => 0)) _ _ _ _ _ ls (by omega) hz  hF (by omega) (by omega) hP hD hS (lv_sub hl [2, 1, 0] rfl)
