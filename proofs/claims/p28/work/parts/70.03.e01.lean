set_option maxRecDepth 20000 in
theorem gL_holds_X7_cell : GoodIn wsL_holds (wsV RL 25 RX7 yX7_cell wsX7_cell) := goodIn_app (goodIn_of _ (by decide +kernel)) ggL_holds_X7_cell
set_option maxRecDepth 20000 in
theorem ggL_holds_X7_ring : GoodIn wsL_holds wsX7_ring := goodIn_r _ [167, 6, 138, 139, 140, 12, 141, 15, 101, 69, 70, 71, 14, 156, 21, 22, 23, 24, 25, 18, 26, 27, 17, 19, 192, 193, 194, 195, 196, 197, 198, 199, 200, 201, 202, 203, 204, 205, 206, 207, 208, 209, 210, 211, 212, 213, 214, 215, 216] (by decide +kernel) (by decide +kernel)
set_option maxRecDepth 20000 in
theorem gL_holds_X7_ring : GoodIn wsL_holds (wsV RL 28 RX7 yX7_ring wsX7_ring) := goodIn_app (goodIn_of _ (by decide +kernel)) ggL_holds_X7_ring
set_option maxRecDepth 20000 in
theorem ggL_holds_X7_longest : GoodIn wsL_holds wsX7_longest := goodIn_r _ [171, 6, 89, 172, 173, 174, 12, 175, 14, 16, 17, 18, 19, 176, 177, 178, 179, 180, 181, 182, 183, 97, 98, 99, 100, 101, 69, 70, 71, 90, 91, 92, 93, 94, 95, 96, 102, 103, 104, 105, 106, 107, 108, 109, 110, 111, 112, 113, 114, 115, 116, 117, 118, 119, 184, 185, 186, 187, 132, 192, 193, 194, 195, 196, 197, 198, 199, 200, 201, 202, 203, 204, 205, 206, 207, 208, 209, 210, 211, 212, 213, 214, 215, 216, 226, 227, 228, 229, 230, 231, 232] (by decide +kernel) (by decide +kernel)
set_option maxRecDepth 20000 in
theorem gL_holds_X7_longest : GoodIn wsL_holds (wsV RL 31 RX7 yX7_longest wsX7_longest) := goodIn_app (goodIn_of _ (by decide +kernel)) ggL_holds_X7_longest
set_option maxRecDepth 20000 in
theorem ggL_holds_X7_density : GoodIn wsL_holds wsX7_density := goodIn_r _ [191, 6, 9, 10, 11, 12, 13, 14, 15, 16, 17, 18, 19, 20, 21, 22, 23, 24, 25, 26, 27, 192, 193, 194, 195, 196, 197, 198, 199, 200, 201, 202, 203, 204, 205, 206, 207, 208, 209, 210, 211, 212, 213, 214, 215, 216] (by decide +kernel) (by decide +kernel)
set_option maxRecDepth 20000 in
theorem gL_holds_X7_density : GoodIn wsL_holds (wsV RL 34 RX7 yX7_density wsX7_density) := goodIn_app (goodIn_of _ (by decide +kernel)) ggL_holds_X7_density
theorem dL_holds_0 : decode cL_holds 0 = .ok (.aload_n 0, 1) := by decide +kernel
theorem dL_holds_1 : decode cL_holds 1 = .ok (.iconst 0, 1) := by decide +kernel
theorem dL_holds_2 : decode cL_holds 2 = .ok (.invokevirtual 13, 3) := by decide +kernel
theorem dL_holds_5 : decode cL_holds 5 = .ok (.istore_n 1, 1) := by decide +kernel
theorem dL_holds_6 : decode cL_holds 6 = .ok (.iconst 0, 1) := by decide +kernel
theorem dL_holds_7 : decode cL_holds 7 = .ok (.istore_n 2, 1) := by decide +kernel
theorem dL_holds_8 : decode cL_holds 8 = .ok (.iconst 0, 1) := by decide +kernel
theorem dL_holds_9 : decode cL_holds 9 = .ok (.istore_n 3, 1) := by decide +kernel
theorem dL_holds_10 : decode cL_holds 10 = .ok (.iconst 0, 1) := by decide +kernel
theorem dL_holds_11 : decode cL_holds 11 = .ok (.istore 4, 2) := by decide +kernel
theorem dL_holds_13 : decode cL_holds 13 = .ok (.iconst 0, 1) := by decide +kernel
theorem dL_holds_14 : decode cL_holds 14 = .ok (.istore 5, 2) := by decide +kernel
theorem dL_holds_16 : decode cL_holds 16 = .ok (.iconst 0, 1) := by decide +kernel
theorem dL_holds_17 : decode cL_holds 17 = .ok (.istore 6, 2) := by decide +kernel
theorem dL_holds_19 : decode cL_holds 19 = .ok (.iload_n 1, 1) := by decide +kernel
theorem dL_holds_20 : decode cL_holds 20 = .ok (.ifCond .le 74, 3) := by decide +kernel
theorem dL_holds_23 : decode cL_holds 23 = .ok (.iload_n 1, 1) := by decide +kernel
theorem dL_holds_24 : decode cL_holds 24 = .ok (.bipush 121, 2) := by decide +kernel
theorem dL_holds_26 : decode cL_holds 26 = .ok (.if_icmp .gt 68, 3) := by decide +kernel
theorem dL_holds_29 : decode cL_holds 29 = .ok (.iload_n 1, 1) := by decide +kernel
theorem dL_holds_30 : decode cL_holds 30 = .ok (.aload_n 0, 1) := by decide +kernel
theorem dL_holds_31 : decode cL_holds 31 = .ok (.iconst 1, 1) := by decide +kernel
theorem dL_holds_32 : decode cL_holds 32 = .ok (.invokevirtual 13, 3) := by decide +kernel
theorem dL_holds_35 : decode cL_holds 35 = .ok (.isub, 1) := by decide +kernel
theorem dL_holds_36 : decode cL_holds 36 = .ok (.aload_n 0, 1) := by decide +kernel
theorem dL_holds_37 : decode cL_holds 37 = .ok (.bipush 7, 2) := by decide +kernel
theorem dL_holds_39 : decode cL_holds 39 = .ok (.invokevirtual 13, 3) := by decide +kernel
theorem dL_holds_42 : decode cL_holds 42 = .ok (.aload_n 0, 1) := by decide +kernel
theorem dL_holds_43 : decode cL_holds 43 = .ok (.bipush 8, 2) := by decide +kernel
theorem dL_holds_45 : decode cL_holds 45 = .ok (.invokevirtual 13, 3) := by decide +kernel
theorem dL_holds_48 : decode cL_holds 48 = .ok (.isub, 1) := by decide +kernel
theorem dL_holds_49 : decode cL_holds 49 = .ok (.aload_n 0, 1) := by decide +kernel
theorem dL_holds_50 : decode cL_holds 50 = .ok (.bipush 9, 2) := by decide +kernel
theorem dL_holds_52 : decode cL_holds 52 = .ok (.invokevirtual 13, 3) := by decide +kernel
theorem dL_holds_55 : decode cL_holds 55 = .ok (.isub, 1) := by decide +kernel
theorem dL_holds_56 : decode cL_holds 56 = .ok (.if_icmp .ne 38, 3) := by decide +kernel
theorem dL_holds_59 : decode cL_holds 59 = .ok (.aload_n 0, 1) := by decide +kernel
theorem dL_holds_60 : decode cL_holds 60 = .ok (.bipush 17, 2) := by decide +kernel
theorem dL_holds_62 : decode cL_holds 62 = .ok (.invokevirtual 13, 3) := by decide +kernel
theorem dL_holds_65 : decode cL_holds 65 = .ok (.ifCond .lt 29, 3) := by decide +kernel
theorem dL_holds_68 : decode cL_holds 68 = .ok (.aload_n 0, 1) := by decide +kernel
theorem dL_holds_69 : decode cL_holds 69 = .ok (.bipush 17, 2) := by decide +kernel
theorem dL_holds_71 : decode cL_holds 71 = .ok (.invokevirtual 13, 3) := by decide +kernel
theorem dL_holds_74 : decode cL_holds 74 = .ok (.sipush 10000, 3) := by decide +kernel
theorem dL_holds_77 : decode cL_holds 77 = .ok (.if_icmp .ge 17, 3) := by decide +kernel
theorem dL_holds_80 : decode cL_holds 80 = .ok (.aload_n 0, 1) := by decide +kernel
theorem dL_holds_81 : decode cL_holds 81 = .ok (.iload_n 1, 1) := by decide +kernel
theorem dL_holds_82 : decode cL_holds 82 = .ok (.iconst 0, 1) := by decide +kernel
theorem dL_holds_83 : decode cL_holds 83 = .ok (.invokevirtual 19, 3) := by decide +kernel
theorem dL_holds_86 : decode cL_holds 86 = .ok (.iconst (-1), 1) := by decide +kernel
theorem dL_holds_87 : decode cL_holds 87 = .ok (.if_icmp .ne 7, 3) := by decide +kernel
theorem dL_holds_90 : decode cL_holds 90 = .ok (.iconst 1, 1) := by decide +kernel
theorem dL_holds_91 : decode cL_holds 91 = .ok (.goto 4, 3) := by decide +kernel
theorem dL_holds_94 : decode cL_holds 94 = .ok (.iconst 0, 1) := by decide +kernel
theorem dL_holds_95 : decode cL_holds 95 = .ok (.istore 7, 2) := by decide +kernel
theorem dL_holds_97 : decode cL_holds 97 = .ok (.iconst 0, 1) := by decide +kernel
theorem dL_holds_98 : decode cL_holds 98 = .ok (.istore 8, 2) := by decide +kernel
theorem dL_holds_100 : decode cL_holds 100 = .ok (.iload 8, 2) := by decide +kernel
theorem dL_holds_102 : decode cL_holds 102 = .ok (.iload_n 1, 1) := by decide +kernel
theorem dL_holds_103 : decode cL_holds 103 = .ok (.if_icmp .ge 299, 3) := by decide +kernel
theorem dL_holds_106 : decode cL_holds 106 = .ok (.iload 7, 2) := by decide +kernel
theorem dL_holds_108 : decode cL_holds 108 = .ok (.ifCond .eq 294, 3) := by decide +kernel
theorem dL_holds_111 : decode cL_holds 111 = .ok (.aload_n 0, 1) := by decide +kernel
theorem dL_holds_112 : decode cL_holds 112 = .ok (.iload 8, 2) := by decide +kernel
theorem dL_holds_114 : decode cL_holds 114 = .ok (.iconst 1, 1) := by decide +kernel
theorem dL_holds_115 : decode cL_holds 115 = .ok (.invokevirtual 19, 3) := by decide +kernel
theorem dL_holds_118 : decode cL_holds 118 = .ok (.istore 9, 2) := by decide +kernel
theorem dL_holds_120 : decode cL_holds 120 = .ok (.aload_n 0, 1) := by decide +kernel
theorem dL_holds_121 : decode cL_holds 121 = .ok (.iload 8, 2) := by decide +kernel
theorem dL_holds_123 : decode cL_holds 123 = .ok (.iconst 0, 1) := by decide +kernel
theorem dL_holds_124 : decode cL_holds 124 = .ok (.invokevirtual 19, 3) := by decide +kernel
theorem dL_holds_127 : decode cL_holds 127 = .ok (.istore 10, 2) := by decide +kernel
theorem dL_holds_129 : decode cL_holds 129 = .ok (.iload 9, 2) := by decide +kernel
theorem dL_holds_131 : decode cL_holds 131 = .ok (.bipush (-4), 2) := by decide +kernel
theorem dL_holds_133 : decode cL_holds 133 = .ok (.if_icmp .ne 8, 3) := by decide +kernel
theorem dL_holds_136 : decode cL_holds 136 = .ok (.iload 10, 2) := by decide +kernel
theorem dL_holds_138 : decode cL_holds 138 = .ok (.goto 10, 3) := by decide +kernel
theorem dL_holds_141 : decode cL_holds 141 = .ok (.aload_n 0, 1) := by decide +kernel
theorem dL_holds_142 : decode cL_holds 142 = .ok (.iload 9, 2) := by decide +kernel
theorem dL_holds_144 : decode cL_holds 144 = .ok (.iconst 0, 1) := by decide +kernel
theorem dL_holds_145 : decode cL_holds 145 = .ok (.invokevirtual 19, 3) := by decide +kernel
theorem dL_holds_148 : decode cL_holds 148 = .ok (.istore 11, 2) := by decide +kernel
theorem dL_holds_150 : decode cL_holds 150 = .ok (.iload 10, 2) := by decide +kernel
theorem dL_holds_152 : decode cL_holds 152 = .ok (.iload 11, 2) := by decide +kernel
theorem dL_holds_154 : decode cL_holds 154 = .ok (.if_icmp .le 11, 3) := by decide +kernel
theorem dL_holds_157 : decode cL_holds 157 = .ok (.iload 10, 2) := by decide +kernel
theorem dL_holds_159 : decode cL_holds 159 = .ok (.iload 11, 2) := by decide +kernel
theorem dL_holds_161 : decode cL_holds 161 = .ok (.isub, 1) := by decide +kernel
theorem dL_holds_162 : decode cL_holds 162 = .ok (.goto 8, 3) := by decide +kernel
theorem dL_holds_165 : decode cL_holds 165 = .ok (.iload 11, 2) := by decide +kernel
theorem dL_holds_167 : decode cL_holds 167 = .ok (.iload 10, 2) := by decide +kernel
theorem dL_holds_169 : decode cL_holds 169 = .ok (.isub, 1) := by decide +kernel
theorem dL_holds_170 : decode cL_holds 170 = .ok (.istore 12, 2) := by decide +kernel
theorem dL_holds_172 : decode cL_holds 172 = .ok (.iload_n 2, 1) := by decide +kernel
theorem dL_holds_173 : decode cL_holds 173 = .ok (.iload 9, 2) := by decide +kernel
theorem dL_holds_175 : decode cL_holds 175 = .ok (.bipush (-4), 2) := by decide +kernel
theorem dL_holds_177 : decode cL_holds 177 = .ok (.if_icmp .ne 7, 3) := by decide +kernel
theorem dL_holds_180 : decode cL_holds 180 = .ok (.iconst 1, 1) := by decide +kernel
theorem dL_holds_181 : decode cL_holds 181 = .ok (.goto 4, 3) := by decide +kernel
theorem dL_holds_184 : decode cL_holds 184 = .ok (.iconst 0, 1) := by decide +kernel
theorem dL_holds_185 : decode cL_holds 185 = .ok (.iadd, 1) := by decide +kernel
theorem dL_holds_186 : decode cL_holds 186 = .ok (.istore_n 2, 1) := by decide +kernel
theorem dL_holds_187 : decode cL_holds 187 = .ok (.iload_n 3, 1) := by decide +kernel
theorem dL_holds_188 : decode cL_holds 188 = .ok (.aload_n 0, 1) := by decide +kernel
theorem dL_holds_189 : decode cL_holds 189 = .ok (.iload 8, 2) := by decide +kernel
theorem dL_holds_191 : decode cL_holds 191 = .ok (.iconst 3, 1) := by decide +kernel
theorem dL_holds_192 : decode cL_holds 192 = .ok (.invokevirtual 19, 3) := by decide +kernel
theorem dL_holds_195 : decode cL_holds 195 = .ok (.ifCond .ne 7, 3) := by decide +kernel
theorem dL_holds_198 : decode cL_holds 198 = .ok (.iconst 1, 1) := by decide +kernel
theorem dL_holds_199 : decode cL_holds 199 = .ok (.goto 4, 3) := by decide +kernel
theorem dL_holds_202 : decode cL_holds 202 = .ok (.iconst 0, 1) := by decide +kernel
theorem dL_holds_203 : decode cL_holds 203 = .ok (.iadd, 1) := by decide +kernel
theorem dL_holds_204 : decode cL_holds 204 = .ok (.istore_n 3, 1) := by decide +kernel
theorem dL_holds_205 : decode cL_holds 205 = .ok (.iload 4, 2) := by decide +kernel
theorem dL_holds_207 : decode cL_holds 207 = .ok (.aload_n 0, 1) := by decide +kernel
theorem dL_holds_208 : decode cL_holds 208 = .ok (.iload 8, 2) := by decide +kernel
theorem dL_holds_210 : decode cL_holds 210 = .ok (.iconst 3, 1) := by decide +kernel
theorem dL_holds_211 : decode cL_holds 211 = .ok (.invokevirtual 19, 3) := by decide +kernel
theorem dL_holds_214 : decode cL_holds 214 = .ok (.iconst 1, 1) := by decide +kernel
theorem dL_holds_215 : decode cL_holds 215 = .ok (.if_icmp .le 7, 3) := by decide +kernel
theorem dL_holds_218 : decode cL_holds 218 = .ok (.iconst 1, 1) := by decide +kernel
theorem dL_holds_219 : decode cL_holds 219 = .ok (.goto 4, 3) := by decide +kernel
theorem dL_holds_222 : decode cL_holds 222 = .ok (.iconst 0, 1) := by decide +kernel
theorem dL_holds_223 : decode cL_holds 223 = .ok (.iadd, 1) := by decide +kernel
theorem dL_holds_224 : decode cL_holds 224 = .ok (.istore 4, 2) := by decide +kernel
theorem dL_holds_226 : decode cL_holds 226 = .ok (.iload 5, 2) := by decide +kernel
theorem dL_holds_228 : decode cL_holds 228 = .ok (.aload_n 0, 1) := by decide +kernel
theorem dL_holds_229 : decode cL_holds 229 = .ok (.iload 8, 2) := by decide +kernel
theorem dL_holds_231 : decode cL_holds 231 = .ok (.iconst 3, 1) := by decide +kernel
theorem dL_holds_232 : decode cL_holds 232 = .ok (.invokevirtual 19, 3) := by decide +kernel
theorem dL_holds_235 : decode cL_holds 235 = .ok (.iadd, 1) := by decide +kernel
theorem dL_holds_236 : decode cL_holds 236 = .ok (.istore 5, 2) := by decide +kernel
theorem dL_holds_238 : decode cL_holds 238 = .ok (.aload_n 0, 1) := by decide +kernel
theorem dL_holds_239 : decode cL_holds 239 = .ok (.iload 10, 2) := by decide +kernel
theorem dL_holds_241 : decode cL_holds 241 = .ok (.iconst 0, 1) := by decide +kernel
theorem dL_holds_242 : decode cL_holds 242 = .ok (.invokevirtual 25, 3) := by decide +kernel
theorem dL_holds_245 : decode cL_holds 245 = .ok (.iload 8, 2) := by decide +kernel
theorem dL_holds_247 : decode cL_holds 247 = .ok (.if_icmp .ne 146, 3) := by decide +kernel
theorem dL_holds_250 : decode cL_holds 250 = .ok (.iload 9, 2) := by decide +kernel
theorem dL_holds_252 : decode cL_holds 252 = .ok (.bipush (-4), 2) := by decide +kernel
theorem dL_holds_254 : decode cL_holds 254 = .ok (.if_icmp .ne 30, 3) := by decide +kernel
theorem dL_holds_257 : decode cL_holds 257 = .ok (.aload_n 0, 1) := by decide +kernel
theorem dL_holds_258 : decode cL_holds 258 = .ok (.iload 8, 2) := by decide +kernel
theorem dL_holds_260 : decode cL_holds 260 = .ok (.bipush 8, 2) := by decide +kernel
theorem dL_holds_262 : decode cL_holds 262 = .ok (.invokevirtual 19, 3) := by decide +kernel
theorem dL_holds_265 : decode cL_holds 265 = .ok (.ifCond .ne 128, 3) := by decide +kernel
theorem dL_holds_268 : decode cL_holds 268 = .ok (.aload_n 0, 1) := by decide +kernel
theorem dL_holds_269 : decode cL_holds 269 = .ok (.iload 8, 2) := by decide +kernel
theorem dL_holds_271 : decode cL_holds 271 = .ok (.bipush 7, 2) := by decide +kernel
theorem dL_holds_273 : decode cL_holds 273 = .ok (.invokevirtual 19, 3) := by decide +kernel
theorem dL_holds_276 : decode cL_holds 276 = .ok (.iload 8, 2) := by decide +kernel
theorem dL_holds_278 : decode cL_holds 278 = .ok (.if_icmp .ne 115, 3) := by decide +kernel
theorem dL_holds_281 : decode cL_holds 281 = .ok (.goto 79, 3) := by decide +kernel
theorem dL_holds_284 : decode cL_holds 284 = .ok (.iload 9, 2) := by decide +kernel
theorem dL_holds_286 : decode cL_holds 286 = .ok (.ifCond .lt 107, 3) := by decide +kernel
theorem dL_holds_289 : decode cL_holds 289 = .ok (.iload 9, 2) := by decide +kernel
theorem dL_holds_291 : decode cL_holds 291 = .ok (.iload 8, 2) := by decide +kernel
theorem dL_holds_293 : decode cL_holds 293 = .ok (.if_icmp .ge 100, 3) := by decide +kernel
theorem dL_holds_296 : decode cL_holds 296 = .ok (.iload 12, 2) := by decide +kernel
theorem dL_holds_298 : decode cL_holds 298 = .ok (.bipush 11, 2) := by decide +kernel
theorem dL_holds_300 : decode cL_holds 300 = .ok (.if_icmp .eq 22, 3) := by decide +kernel
theorem dL_holds_303 : decode cL_holds 303 = .ok (.iload 12, 2) := by decide +kernel
theorem dL_holds_305 : decode cL_holds 305 = .ok (.iconst 1, 1) := by decide +kernel
theorem dL_holds_306 : decode cL_holds 306 = .ok (.if_icmp .ne 87, 3) := by decide +kernel
theorem dL_holds_309 : decode cL_holds 309 = .ok (.iload 10, 2) := by decide +kernel
theorem dL_holds_311 : decode cL_holds 311 = .ok (.bipush 11, 2) := by decide +kernel
theorem dL_holds_313 : decode cL_holds 313 = .ok (.idiv, 1) := by decide +kernel
theorem dL_holds_314 : decode cL_holds 314 = .ok (.iload 11, 2) := by decide +kernel
theorem dL_holds_316 : decode cL_holds 316 = .ok (.bipush 11, 2) := by decide +kernel
theorem dL_holds_318 : decode cL_holds 318 = .ok (.idiv, 1) := by decide +kernel
theorem dL_holds_319 : decode cL_holds 319 = .ok (.if_icmp .ne 74, 3) := by decide +kernel
theorem dL_holds_322 : decode cL_holds 322 = .ok (.aload_n 0, 1) := by decide +kernel
theorem dL_holds_323 : decode cL_holds 323 = .ok (.iload 8, 2) := by decide +kernel
theorem dL_holds_325 : decode cL_holds 325 = .ok (.bipush 7, 2) := by decide +kernel
theorem dL_holds_327 : decode cL_holds 327 = .ok (.invokevirtual 19, 3) := by decide +kernel
theorem dL_holds_330 : decode cL_holds 330 = .ok (.aload_n 0, 1) := by decide +kernel
theorem dL_holds_331 : decode cL_holds 331 = .ok (.iload 9, 2) := by decide +kernel
theorem dL_holds_333 : decode cL_holds 333 = .ok (.bipush 7, 2) := by decide +kernel
theorem dL_holds_335 : decode cL_holds 335 = .ok (.invokevirtual 19, 3) := by decide +kernel
theorem dL_holds_338 : decode cL_holds 338 = .ok (.if_icmp .ne 55, 3) := by decide +kernel
theorem dL_holds_341 : decode cL_holds 341 = .ok (.aload_n 0, 1) := by decide +kernel
theorem dL_holds_342 : decode cL_holds 342 = .ok (.iload 8, 2) := by decide +kernel
theorem dL_holds_344 : decode cL_holds 344 = .ok (.iconst 2, 1) := by decide +kernel
theorem dL_holds_345 : decode cL_holds 345 = .ok (.invokevirtual 19, 3) := by decide +kernel
theorem dL_holds_348 : decode cL_holds 348 = .ok (.aload_n 0, 1) := by decide +kernel
theorem dL_holds_349 : decode cL_holds 349 = .ok (.iload 9, 2) := by decide +kernel
theorem dL_holds_351 : decode cL_holds 351 = .ok (.iconst 2, 1) := by decide +kernel
theorem dL_holds_352 : decode cL_holds 352 = .ok (.invokevirtual 19, 3) := by decide +kernel
theorem dL_holds_355 : decode cL_holds 355 = .ok (.iconst 1, 1) := by decide +kernel
theorem dL_holds_356 : decode cL_holds 356 = .ok (.iadd, 1) := by decide +kernel
theorem dL_holds_357 : decode cL_holds 357 = .ok (.if_icmp .ne 36, 3) := by decide +kernel
theorem dL_holds_360 : decode cL_holds 360 = .ok (.aload_n 0, 1) := by decide +kernel
theorem dL_holds_361 : decode cL_holds 361 = .ok (.iload 8, 2) := by decide +kernel
theorem dL_holds_363 : decode cL_holds 363 = .ok (.bipush 8, 2) := by decide +kernel
theorem dL_holds_365 : decode cL_holds 365 = .ok (.invokevirtual 19, 3) := by decide +kernel
theorem dL_holds_368 : decode cL_holds 368 = .ok (.sipush 200, 3) := by decide +kernel
theorem dL_holds_371 : decode cL_holds 371 = .ok (.if_icmp .gt 22, 3) := by decide +kernel
theorem dL_holds_374 : decode cL_holds 374 = .ok (.aload_n 0, 1) := by decide +kernel
theorem dL_holds_375 : decode cL_holds 375 = .ok (.iload 10, 2) := by decide +kernel
theorem dL_holds_377 : decode cL_holds 377 = .ok (.iconst 1, 1) := by decide +kernel
theorem dL_holds_378 : decode cL_holds 378 = .ok (.invokevirtual 25, 3) := by decide +kernel
theorem dL_holds_381 : decode cL_holds 381 = .ok (.aload_n 0, 1) := by decide +kernel
theorem dL_holds_382 : decode cL_holds 382 = .ok (.iconst 5, 1) := by decide +kernel
theorem dL_holds_383 : decode cL_holds 383 = .ok (.invokevirtual 13, 3) := by decide +kernel
theorem dL_holds_386 : decode cL_holds 386 = .ok (.if_icmp .gt 7, 3) := by decide +kernel
theorem dL_holds_389 : decode cL_holds 389 = .ok (.iconst 1, 1) := by decide +kernel
theorem dL_holds_390 : decode cL_holds 390 = .ok (.goto 4, 3) := by decide +kernel
theorem dL_holds_393 : decode cL_holds 393 = .ok (.iconst 0, 1) := by decide +kernel
theorem dL_holds_394 : decode cL_holds 394 = .ok (.istore 7, 2) := by decide +kernel
theorem dL_holds_396 : decode cL_holds 396 = .ok (.iinc 8 1, 3) := by decide +kernel
theorem dL_holds_399 : decode cL_holds 399 = .ok (.goto (-299), 3) := by decide +kernel
theorem dL_holds_402 : decode cL_holds 402 = .ok (.iconst 0, 1) := by decide +kernel
theorem dL_holds_403 : decode cL_holds 403 = .ok (.istore 8, 2) := by decide +kernel
theorem dL_holds_405 : decode cL_holds 405 = .ok (.iload 8, 2) := by decide +kernel
theorem dL_holds_407 : decode cL_holds 407 = .ok (.bipush 6, 2) := by decide +kernel
theorem dL_holds_409 : decode cL_holds 409 = .ok (.if_icmp .ge 20, 3) := by decide +kernel
theorem dL_holds_412 : decode cL_holds 412 = .ok (.iload 6, 2) := by decide +kernel
theorem dL_holds_414 : decode cL_holds 414 = .ok (.aload_n 0, 1) := by decide +kernel
theorem dL_holds_415 : decode cL_holds 415 = .ok (.iload 8, 2) := by decide +kernel
theorem dL_holds_417 : decode cL_holds 417 = .ok (.invokevirtual 28, 3) := by decide +kernel
theorem dL_holds_420 : decode cL_holds 420 = .ok (.iadd, 1) := by decide +kernel
theorem dL_holds_421 : decode cL_holds 421 = .ok (.istore 6, 2) := by decide +kernel
theorem dL_holds_423 : decode cL_holds 423 = .ok (.iinc 8 1, 3) := by decide +kernel
theorem dL_holds_426 : decode cL_holds 426 = .ok (.goto (-21), 3) := by decide +kernel
theorem dL_holds_429 : decode cL_holds 429 = .ok (.iload 7, 2) := by decide +kernel
theorem dL_holds_431 : decode cL_holds 431 = .ok (.ifCond .eq 101, 3) := by decide +kernel
theorem dL_holds_434 : decode cL_holds 434 = .ok (.iload_n 2, 1) := by decide +kernel
theorem dL_holds_435 : decode cL_holds 435 = .ok (.aload_n 0, 1) := by decide +kernel
theorem dL_holds_436 : decode cL_holds 436 = .ok (.iconst 1, 1) := by decide +kernel
theorem dL_holds_437 : decode cL_holds 437 = .ok (.invokevirtual 13, 3) := by decide +kernel
theorem dL_holds_440 : decode cL_holds 440 = .ok (.if_icmp .ne 92, 3) := by decide +kernel
theorem dL_holds_443 : decode cL_holds 443 = .ok (.iload_n 3, 1) := by decide +kernel
theorem dL_holds_444 : decode cL_holds 444 = .ok (.aload_n 0, 1) := by decide +kernel
theorem dL_holds_445 : decode cL_holds 445 = .ok (.iconst 2, 1) := by decide +kernel
theorem dL_holds_446 : decode cL_holds 446 = .ok (.invokevirtual 13, 3) := by decide +kernel
theorem dL_holds_449 : decode cL_holds 449 = .ok (.if_icmp .ne 83, 3) := by decide +kernel
theorem dL_holds_452 : decode cL_holds 452 = .ok (.iload 4, 2) := by decide +kernel
theorem dL_holds_454 : decode cL_holds 454 = .ok (.aload_n 0, 1) := by decide +kernel
theorem dL_holds_455 : decode cL_holds 455 = .ok (.iconst 3, 1) := by decide +kernel
theorem dL_holds_456 : decode cL_holds 456 = .ok (.invokevirtual 13, 3) := by decide +kernel
theorem dL_holds_459 : decode cL_holds 459 = .ok (.if_icmp .ne 73, 3) := by decide +kernel
theorem dL_holds_462 : decode cL_holds 462 = .ok (.iload 5, 2) := by decide +kernel
theorem dL_holds_464 : decode cL_holds 464 = .ok (.iload_n 1, 1) := by decide +kernel
theorem dL_holds_465 : decode cL_holds 465 = .ok (.iload_n 2, 1) := by decide +kernel
theorem dL_holds_466 : decode cL_holds 466 = .ok (.isub, 1) := by decide +kernel
theorem dL_holds_467 : decode cL_holds 467 = .ok (.if_icmp .ne 65, 3) := by decide +kernel
theorem dL_holds_470 : decode cL_holds 470 = .ok (.iload 6, 2) := by decide +kernel
theorem dL_holds_472 : decode cL_holds 472 = .ok (.iload_n 1, 1) := by decide +kernel
theorem dL_holds_473 : decode cL_holds 473 = .ok (.if_icmp .ne 59, 3) := by decide +kernel
theorem dL_holds_476 : decode cL_holds 476 = .ok (.aload_n 0, 1) := by decide +kernel
theorem dL_holds_477 : decode cL_holds 477 = .ok (.iconst 0, 1) := by decide +kernel
theorem dL_holds_478 : decode cL_holds 478 = .ok (.invokevirtual 31, 3) := by decide +kernel
theorem dL_holds_481 : decode cL_holds 481 = .ok (.aload_n 0, 1) := by decide +kernel
theorem dL_holds_482 : decode cL_holds 482 = .ok (.iconst 1, 1) := by decide +kernel
theorem dL_holds_483 : decode cL_holds 483 = .ok (.invokevirtual 31, 3) := by decide +kernel
theorem dL_holds_486 : decode cL_holds 486 = .ok (.if_icmp .ne 46, 3) := by decide +kernel
theorem dL_holds_489 : decode cL_holds 489 = .ok (.aload_n 0, 1) := by decide +kernel
theorem dL_holds_490 : decode cL_holds 490 = .ok (.aload_n 0, 1) := by decide +kernel
theorem dL_holds_491 : decode cL_holds 491 = .ok (.bipush 12, 2) := by decide +kernel
theorem dL_holds_493 : decode cL_holds 493 = .ok (.invokevirtual 13, 3) := by decide +kernel
theorem dL_holds_496 : decode cL_holds 496 = .ok (.bipush 6, 2) := by decide +kernel
theorem dL_holds_498 : decode cL_holds 498 = .ok (.invokevirtual 19, 3) := by decide +kernel
theorem dL_holds_501 : decode cL_holds 501 = .ok (.aload_n 0, 1) := by decide +kernel
theorem dL_holds_502 : decode cL_holds 502 = .ok (.bipush 11, 2) := by decide +kernel
theorem dL_holds_504 : decode cL_holds 504 = .ok (.invokevirtual 13, 3) := by decide +kernel
theorem dL_holds_507 : decode cL_holds 507 = .ok (.if_icmp .ne 25, 3) := by decide +kernel
theorem dL_holds_510 : decode cL_holds 510 = .ok (.aload_n 0, 1) := by decide +kernel
theorem dL_holds_511 : decode cL_holds 511 = .ok (.invokevirtual 34, 3) := by decide +kernel
theorem dL_holds_514 : decode cL_holds 514 = .ok (.dconst 0, 1) := by decide +kernel
theorem dL_holds_515 : decode cL_holds 515 = .ok (.dcmp .l, 1) := by decide +kernel
theorem dL_holds_516 : decode cL_holds 516 = .ok (.ifCond .le 16, 3) := by decide +kernel
theorem dL_holds_519 : decode cL_holds 519 = .ok (.aload_n 0, 1) := by decide +kernel
theorem dL_holds_520 : decode cL_holds 520 = .ok (.invokevirtual 34, 3) := by decide +kernel
theorem dL_holds_523 : decode cL_holds 523 = .ok (.dconst 1, 1) := by decide +kernel
theorem dL_holds_524 : decode cL_holds 524 = .ok (.dcmp .g, 1) := by decide +kernel
theorem dL_holds_525 : decode cL_holds 525 = .ok (.ifCond .gt 7, 3) := by decide +kernel
theorem dL_holds_528 : decode cL_holds 528 = .ok (.iconst 1, 1) := by decide +kernel
theorem dL_holds_529 : decode cL_holds 529 = .ok (.goto 4, 3) := by decide +kernel
theorem dL_holds_532 : decode cL_holds 532 = .ok (.iconst 0, 1) := by decide +kernel
theorem dL_holds_533 : decode cL_holds 533 = .ok (.ireturn, 1) := by decide +kernel
set_option maxRecDepth 20000 in
theorem ggL_would_L_low : GoodIn wsL_would wsL_low := goodIn_r _ [4, 5] (by decide +kernel) (by decide +kernel)
set_option maxRecDepth 20000 in
theorem gL_would_L_low : GoodIn wsL_would (va_wsS RL 38 yL_low wsL_low) := goodIn_app (goodIn_of _ (by decide +kernel)) ggL_would_L_low
set_option maxRecDepth 20000 in
theorem ggL_would_X7_ifGone : GoodIn wsL_would wsX7_ifGone := goodIn_r _ [10, 11, 12, 13, 14, 15, 16, 17, 18, 19, 20, 21, 22, 23, 24, 25, 26, 27, 28, 29, 30, 31, 32, 33, 34, 35, 36, 37, 38, 39, 40, 41, 42, 43, 44, 45, 46, 47, 48, 49, 50, 51, 52, 53, 54, 55, 56, 57, 58, 59, 60, 61, 9, 62, 63, 64, 65, 66, 67, 68, 69, 70, 71, 72, 73, 74, 75, 76, 291, 292, 293, 294, 295, 296, 297, 298, 299, 300, 301, 302, 303, 304, 305, 306, 307, 308, 309, 310, 311, 312, 313, 314, 315, 316, 317, 318, 319, 320] (by decide +kernel) (by decide +kernel)
set_option maxRecDepth 20000 in
theorem gL_would_X7_ifGone : GoodIn wsL_would (wsV RL 41 RX7 yX7_ifGone wsX7_ifGone) := goodIn_app (goodIn_of _ (by decide +kernel)) ggL_would_X7_ifGone
set_option maxRecDepth 20000 in
theorem ggL_would_X7_screens : GoodIn wsL_would wsX7_screens := goodIn_r _ [80, 11, 81, 19, 20, 21, 82, 83, 84, 85, 86, 23, 24, 87, 88, 89, 90, 26, 27, 16, 28, 29, 91, 55, 56, 291, 292, 293, 294, 295, 296, 297, 298, 299, 300, 301, 302, 303, 304, 310, 311, 312, 313, 314, 315, 316, 317, 318, 319, 320] (by decide +kernel) (by decide +kernel)
set_option maxRecDepth 20000 in
theorem gL_would_X7_screens : GoodIn wsL_would (wsV RL 44 RX7 yX7_screens wsX7_screens) := goodIn_app (goodIn_of _ (by decide +kernel)) ggL_would_X7_screens
set_option maxRecDepth 20000 in
theorem ggL_would_X7_grain : GoodIn wsL_would wsX7_grain := goodIn_r _ [95, 11, 96, 97, 98, 99, 16, 100, 101, 102, 103, 104, 105, 106, 107, 108, 109, 110, 111, 112, 113, 114, 115, 116, 117, 118, 119, 120, 121, 122, 123, 124, 125, 126, 127, 128, 129, 130, 131, 132, 133, 134, 135, 136, 137, 138, 139, 140, 9, 141, 142, 143, 144, 145, 84, 146, 147, 148, 149, 150, 83, 85, 86, 23, 20, 24, 87, 88, 89, 90, 26, 27, 28, 29, 91, 55, 56, 151, 152, 153, 154, 155, 156, 291, 292, 293, 294, 295, 296, 297, 298, 299, 300, 301, 302, 303, 304, 321, 322, 323, 324, 325, 326, 327, 310, 311, 312, 313, 314, 315, 316, 317, 318, 319, 320, 328, 329, 330] (by decide +kernel) (by decide +kernel)
set_option maxRecDepth 20000 in
theorem gL_would_X7_grain : GoodIn wsL_would (wsV RL 19 RX7 yX7_grain wsX7_grain) := goodIn_app (goodIn_of _ (by decide +kernel)) ggL_would_X7_grain
set_option maxRecDepth 20000 in
theorem ggL_would_X7_count : GoodIn wsL_would wsX7_count := goodIn_r _ [160, 11, 161, 162, 163, 164, 165, 16, 166, 101, 136, 167, 168, 169, 170, 171, 172, 20, 173, 174, 175, 176, 177, 178, 179, 180, 181, 25, 26, 27, 28, 29, 182, 51, 52, 53, 54, 55, 56, 183, 184, 185, 9, 186, 142, 143, 144, 145, 84, 146, 147, 148, 149, 150, 83, 85, 86, 23, 24, 87, 88, 89, 90, 91, 151, 98, 99, 100, 187, 188, 189, 190, 138, 139, 140, 141, 191, 42, 43, 44, 45, 192, 193, 194, 195, 96, 102, 103, 104, 105, 106, 107, 108, 109, 110, 111, 112, 113, 114, 115, 116, 117, 118, 119, 120, 121, 122, 123, 124, 125, 126, 127, 128, 129, 130, 131, 196, 197, 198, 199, 200, 201, 202, 203, 204, 205, 206, 207, 208, 291, 292, 293, 294, 295, 296, 297, 298, 299, 300, 301, 302, 303, 304, 310, 311, 312, 313, 314, 315, 316, 317, 318, 319, 320, 331, 332, 333, 334, 335, 336, 328, 329, 330, 321, 322, 323, 324, 325, 326, 327] (by decide +kernel) (by decide +kernel)
set_option maxRecDepth 20000 in
theorem gL_would_X7_count : GoodIn wsL_would (wsV RL 13 RX7 yX7_count wsX7_count) := goodIn_app (goodIn_of _ (by decide +kernel)) ggL_would_X7_count
set_option maxRecDepth 20000 in
theorem ggL_would_X7_ifBroken : GoodIn wsL_would wsX7_ifBroken := goodIn_r _ [212, 11, 213, 214, 96, 142, 215, 216, 217, 16, 218, 113, 98, 99, 100, 101, 219, 109, 110, 111, 112, 220, 221, 222, 223, 136, 224, 225, 226, 227, 156, 29, 45, 228, 229, 230, 231, 232, 233, 234, 235, 236, 237, 238, 239, 240, 241, 242, 243, 244, 245, 246, 247, 248, 249, 250, 251, 20, 252, 163, 164, 165, 166, 167, 168, 169, 170, 171, 172, 173, 174, 175, 176, 177, 102, 103, 104, 105, 106, 107, 108, 114, 115, 116, 117, 118, 119, 120, 121, 122, 123, 124, 125, 126, 127, 128, 129, 130, 131, 204, 205, 206, 207, 208, 143, 144, 145, 84, 146, 147, 148, 149, 150, 83, 85, 86, 23, 24, 87, 88, 89, 90, 26, 27, 28, 91, 55, 56, 151, 291, 292, 293, 294, 295, 296, 297, 298, 299, 300, 301, 302, 303, 304, 310, 311, 312, 313, 314, 315, 316, 317, 318, 319, 320, 328, 329, 330, 337, 338, 321, 322, 323, 324, 325, 326, 327] (by decide +kernel) (by decide +kernel)
set_option maxRecDepth 20000 in
theorem gL_would_X7_ifBroken : GoodIn wsL_would (wsV RL 47 RX7 yX7_ifBroken wsX7_ifBroken) := goodIn_app (goodIn_of _ (by decide +kernel)) ggL_would_X7_ifBroken
set_option maxRecDepth 20000 in
theorem ggL_would_X7_apart : GoodIn wsL_would wsX7_apart := goodIn_r _ [256, 11, 97, 98, 99, 16, 100, 101, 257, 258, 259, 260, 167, 168, 169, 170, 261, 262, 263, 219, 109, 110, 111, 112, 113, 291, 292, 293, 294, 295, 296, 297, 298, 299, 300, 301, 302, 303, 304, 310, 311, 312, 313, 314, 315, 316, 317, 318, 319, 320] (by decide +kernel) (by decide +kernel)
set_option maxRecDepth 20000 in
theorem gL_would_X7_apart : GoodIn wsL_would (wsV RL 50 RX7 yX7_apart wsX7_apart) := goodIn_app (goodIn_of _ (by decide +kernel)) ggL_would_X7_apart
set_option maxRecDepth 20000 in
theorem ggL_would_X7_cell : GoodIn wsL_would wsX7_cell := goodIn_r _ [267, 11, 268, 251, 20, 252, 269, 26, 27, 16, 28, 29, 270, 172, 173, 174, 175, 169, 176, 177, 168, 170, 271, 272, 273, 274, 54, 55, 56, 25, 275, 276, 277, 291, 292, 293, 294, 295, 296, 297, 298, 299, 300, 301, 302, 303, 304, 310, 311, 312, 313, 314, 315, 316, 317, 318, 319, 320] (by decide +kernel) (by decide +kernel)
set_option maxRecDepth 20000 in
theorem gL_would_X7_cell : GoodIn wsL_would (wsV RL 25 RX7 yX7_cell wsX7_cell) := goodIn_app (goodIn_of _ (by decide +kernel)) ggL_would_X7_cell
set_option maxRecDepth 20000 in
theorem ggL_would_X7_longest : GoodIn wsL_would wsX7_longest := goodIn_r _ [281, 11, 96, 282, 283, 284, 16, 285, 101, 167, 168, 169, 170, 286, 258, 259, 260, 261, 262, 263, 219, 109, 110, 111, 112, 113, 98, 99, 100, 102, 103, 104, 105, 106, 107, 108, 114, 115, 116, 117, 118, 119, 120, 121, 122, 123, 124, 125, 126, 127, 128, 129, 130, 131, 287, 288, 289, 290, 208, 291, 292, 293, 294, 295, 296, 297, 298, 299, 300, 301, 302, 303, 304, 310, 311, 312, 313, 314, 315, 316, 317, 318, 319, 320, 321, 322, 323, 324, 325, 326, 327] (by decide +kernel) (by decide +kernel)
set_option maxRecDepth 20000 in
theorem gL_would_X7_longest : GoodIn wsL_would (wsV RL 31 RX7 yX7_longest wsX7_longest) := goodIn_app (goodIn_of _ (by decide +kernel)) ggL_would_X7_longest
theorem dL_would_0 : decode cL_would 0 = .ok (.iload_n 1, 1) := by decide +kernel
theorem dL_would_1 : decode cL_would 1 = .ok (.bipush 42, 2) := by decide +kernel
theorem dL_would_3 : decode cL_would 3 = .ok (.invokestatic 38, 3) := by decide +kernel
theorem dL_would_6 : decode cL_would 6 = .ok (.iconst 1, 1) := by decide +kernel
theorem dL_would_7 : decode cL_would 7 = .ok (.isub, 1) := by decide +kernel
theorem dL_would_8 : decode cL_would 8 = .ok (.istore_n 2, 1) := by decide +kernel
theorem dL_would_9 : decode cL_would 9 = .ok (.iload_n 1, 1) := by decide +kernel
theorem dL_would_10 : decode cL_would 10 = .ok (.bipush 6, 2) := by decide +kernel
theorem dL_would_12 : decode cL_would 12 = .ok (.ishr, 1) := by decide +kernel
theorem dL_would_13 : decode cL_would 13 = .ok (.iconst 5, 1) := by decide +kernel
theorem dL_would_14 : decode cL_would 14 = .ok (.invokestatic 38, 3) := by decide +kernel
theorem dL_would_17 : decode cL_would 17 = .ok (.iconst 1, 1) := by decide +kernel
theorem dL_would_18 : decode cL_would 18 = .ok (.isub, 1) := by decide +kernel
theorem dL_would_19 : decode cL_would 19 = .ok (.istore_n 3, 1) := by decide +kernel
theorem dL_would_20 : decode cL_would 20 = .ok (.aload_n 0, 1) := by decide +kernel
theorem dL_would_21 : decode cL_would 21 = .ok (.iload_n 2, 1) := by decide +kernel
theorem dL_would_22 : decode cL_would 22 = .ok (.iload_n 3, 1) := by decide +kernel
theorem dL_would_23 : decode cL_would 23 = .ok (.invokevirtual 41, 3) := by decide +kernel
theorem dL_would_26 : decode cL_would 26 = .ok (.istore 4, 2) := by decide +kernel
theorem dL_would_28 : decode cL_would 28 = .ok (.iload_n 2, 1) := by decide +kernel
theorem dL_would_29 : decode cL_would 29 = .ok (.ifCond .lt 9, 3) := by decide +kernel
theorem dL_would_32 : decode cL_would 32 = .ok (.iload_n 2, 1) := by decide +kernel
theorem dL_would_33 : decode cL_would 33 = .ok (.bipush 39, 2) := by decide +kernel
theorem dL_would_35 : decode cL_would 35 = .ok (.if_icmp .le 8, 3) := by decide +kernel
theorem dL_would_38 : decode cL_would 38 = .ok (.bipush (-4), 2) := by decide +kernel
theorem dL_would_40 : decode cL_would 40 = .ok (.goto 8, 3) := by decide +kernel
theorem dL_would_43 : decode cL_would 43 = .ok (.aload_n 0, 1) := by decide +kernel
theorem dL_would_44 : decode cL_would 44 = .ok (.iload_n 2, 1) := by decide +kernel
theorem dL_would_45 : decode cL_would 45 = .ok (.invokevirtual 44, 3) := by decide +kernel
theorem dL_would_48 : decode cL_would 48 = .ok (.istore 5, 2) := by decide +kernel
theorem dL_would_50 : decode cL_would 50 = .ok (.iload_n 2, 1) := by decide +kernel
theorem dL_would_51 : decode cL_would 51 = .ok (.ifCond .lt 9, 3) := by decide +kernel
theorem dL_would_54 : decode cL_would 54 = .ok (.iload_n 2, 1) := by decide +kernel
theorem dL_would_55 : decode cL_would 55 = .ok (.bipush 39, 2) := by decide +kernel
theorem dL_would_57 : decode cL_would 57 = .ok (.if_icmp .le 7, 3) := by decide +kernel
theorem dL_would_60 : decode cL_would 60 = .ok (.iconst 0, 1) := by decide +kernel
theorem dL_would_61 : decode cL_would 61 = .ok (.goto 53, 3) := by decide +kernel
theorem dL_would_64 : decode cL_would 64 = .ok (.iload_n 2, 1) := by decide +kernel
theorem dL_would_65 : decode cL_would 65 = .ok (.bipush 11, 2) := by decide +kernel
theorem dL_would_67 : decode cL_would 67 = .ok (.if_icmp .ge 7, 3) := by decide +kernel
theorem dL_would_70 : decode cL_would 70 = .ok (.iload_n 2, 1) := by decide +kernel
theorem dL_would_71 : decode cL_would 71 = .ok (.goto 43, 3) := by decide +kernel
theorem dL_would_74 : decode cL_would 74 = .ok (.iload_n 2, 1) := by decide +kernel
theorem dL_would_75 : decode cL_would 75 = .ok (.bipush 21, 2) := by decide +kernel
theorem dL_would_77 : decode cL_would 77 = .ok (.if_icmp .ge 16, 3) := by decide +kernel
theorem dL_would_80 : decode cL_would 80 = .ok (.bipush 11, 2) := by decide +kernel
theorem dL_would_82 : decode cL_would 82 = .ok (.iload_n 2, 1) := by decide +kernel
theorem dL_would_83 : decode cL_would 83 = .ok (.bipush 10, 2) := by decide +kernel
theorem dL_would_85 : decode cL_would 85 = .ok (.isub, 1) := by decide +kernel
theorem dL_would_86 : decode cL_would 86 = .ok (.imul, 1) := by decide +kernel
theorem dL_would_87 : decode cL_would 87 = .ok (.bipush 10, 2) := by decide +kernel
theorem dL_would_89 : decode cL_would 89 = .ok (.iadd, 1) := by decide +kernel
theorem dL_would_90 : decode cL_would 90 = .ok (.goto 24, 3) := by decide +kernel
theorem dL_would_93 : decode cL_would 93 = .ok (.iload_n 2, 1) := by decide +kernel
theorem dL_would_94 : decode cL_would 94 = .ok (.bipush 31, 2) := by decide +kernel
theorem dL_would_96 : decode cL_would 96 = .ok (.if_icmp .ge 11, 3) := by decide +kernel
theorem dL_would_99 : decode cL_would 99 = .ok (.sipush 140, 3) := by decide +kernel
theorem dL_would_102 : decode cL_would 102 = .ok (.iload_n 2, 1) := by decide +kernel
theorem dL_would_103 : decode cL_would 103 = .ok (.isub, 1) := by decide +kernel
theorem dL_would_104 : decode cL_would 104 = .ok (.goto 10, 3) := by decide +kernel
theorem dL_would_107 : decode cL_would 107 = .ok (.bipush 11, 2) := by decide +kernel
theorem dL_would_109 : decode cL_would 109 = .ok (.bipush 40, 2) := by decide +kernel
theorem dL_would_111 : decode cL_would 111 = .ok (.iload_n 2, 1) := by decide +kernel
theorem dL_would_112 : decode cL_would 112 = .ok (.isub, 1) := by decide +kernel
theorem dL_would_113 : decode cL_would 113 = .ok (.imul, 1) := by decide +kernel
theorem dL_would_114 : decode cL_would 114 = .ok (.istore 6, 2) := by decide +kernel
theorem dL_would_116 : decode cL_would 116 = .ok (.iload_n 2, 1) := by decide +kernel
theorem dL_would_117 : decode cL_would 117 = .ok (.ifCond .lt 18, 3) := by decide +kernel
theorem dL_would_120 : decode cL_would 120 = .ok (.iload_n 2, 1) := by decide +kernel
theorem dL_would_121 : decode cL_would 121 = .ok (.bipush 39, 2) := by decide +kernel
theorem dL_would_123 : decode cL_would 123 = .ok (.if_icmp .gt 12, 3) := by decide +kernel
theorem dL_would_126 : decode cL_would 126 = .ok (.iload_n 3, 1) := by decide +kernel
theorem dL_would_127 : decode cL_would 127 = .ok (.ifCond .lt 8, 3) := by decide +kernel
theorem dL_would_130 : decode cL_would 130 = .ok (.iload_n 3, 1) := by decide +kernel
theorem dL_would_131 : decode cL_would 131 = .ok (.iconst 2, 1) := by decide +kernel
theorem dL_would_132 : decode cL_would 132 = .ok (.if_icmp .le 7, 3) := by decide +kernel
theorem dL_would_135 : decode cL_would 135 = .ok (.iconst 1, 1) := by decide +kernel
theorem dL_would_136 : decode cL_would 136 = .ok (.goto 4, 3) := by decide +kernel
theorem dL_would_139 : decode cL_would 139 = .ok (.iconst 0, 1) := by decide +kernel
theorem dL_would_140 : decode cL_would 140 = .ok (.istore 7, 2) := by decide +kernel
theorem dL_would_142 : decode cL_would 142 = .ok (.iload 5, 2) := by decide +kernel
theorem dL_would_144 : decode cL_would 144 = .ok (.ifCond .lt 19, 3) := by decide +kernel
theorem dL_would_147 : decode cL_would 147 = .ok (.aload_n 0, 1) := by decide +kernel
theorem dL_would_148 : decode cL_would 148 = .ok (.iload 5, 2) := by decide +kernel
theorem dL_would_150 : decode cL_would 150 = .ok (.iconst 0, 1) := by decide +kernel
theorem dL_would_151 : decode cL_would 151 = .ok (.invokevirtual 19, 3) := by decide +kernel
theorem dL_would_154 : decode cL_would 154 = .ok (.iload 6, 2) := by decide +kernel
theorem dL_would_156 : decode cL_would 156 = .ok (.if_icmp .ne 7, 3) := by decide +kernel
theorem dL_would_159 : decode cL_would 159 = .ok (.iconst 1, 1) := by decide +kernel
theorem dL_would_160 : decode cL_would 160 = .ok (.goto 4, 3) := by decide +kernel
theorem dL_would_163 : decode cL_would 163 = .ok (.iconst 0, 1) := by decide +kernel
theorem dL_would_164 : decode cL_would 164 = .ok (.istore 8, 2) := by decide +kernel
theorem dL_would_166 : decode cL_would 166 = .ok (.iload_n 1, 1) := by decide +kernel
theorem dL_would_167 : decode cL_would 167 = .ok (.bipush 9, 2) := by decide +kernel
theorem dL_would_169 : decode cL_would 169 = .ok (.ishr, 1) := by decide +kernel
theorem dL_would_170 : decode cL_would 170 = .ok (.aload_n 0, 1) := by decide +kernel
theorem dL_would_171 : decode cL_would 171 = .ok (.iconst 0, 1) := by decide +kernel
theorem dL_would_172 : decode cL_would 172 = .ok (.invokevirtual 13, 3) := by decide +kernel
theorem dL_would_175 : decode cL_would 175 = .ok (.iconst 1, 1) := by decide +kernel
theorem dL_would_176 : decode cL_would 176 = .ok (.iadd, 1) := by decide +kernel
theorem dL_would_177 : decode cL_would 177 = .ok (.invokestatic 38, 3) := by decide +kernel
theorem dL_would_180 : decode cL_would 180 = .ok (.istore 9, 2) := by decide +kernel
theorem dL_would_182 : decode cL_would 182 = .ok (.iload_n 1, 1) := by decide +kernel
theorem dL_would_183 : decode cL_would 183 = .ok (.bipush 16, 2) := by decide +kernel
theorem dL_would_185 : decode cL_would 185 = .ok (.ishr, 1) := by decide +kernel
theorem dL_would_186 : decode cL_would 186 = .ok (.bipush 6, 2) := by decide +kernel
theorem dL_would_188 : decode cL_would 188 = .ok (.invokestatic 38, 3) := by decide +kernel
theorem dL_would_191 : decode cL_would 191 = .ok (.iconst 1, 1) := by decide +kernel
theorem dL_would_192 : decode cL_would 192 = .ok (.isub, 1) := by decide +kernel
theorem dL_would_193 : decode cL_would 193 = .ok (.istore 10, 2) := by decide +kernel
theorem dL_would_195 : decode cL_would 195 = .ok (.aload_n 0, 1) := by decide +kernel
theorem dL_would_196 : decode cL_would 196 = .ok (.iload 9, 2) := by decide +kernel
theorem dL_would_198 : decode cL_would 198 = .ok (.iload 10, 2) := by decide +kernel
theorem dL_would_200 : decode cL_would 200 = .ok (.invokevirtual 47, 3) := by decide +kernel
theorem dL_would_203 : decode cL_would 203 = .ok (.istore 11, 2) := by decide +kernel
theorem dL_would_205 : decode cL_would 205 = .ok (.iload 9, 2) := by decide +kernel
theorem dL_would_207 : decode cL_would 207 = .ok (.aload_n 0, 1) := by decide +kernel
theorem dL_would_208 : decode cL_would 208 = .ok (.iconst 0, 1) := by decide +kernel
theorem dL_would_209 : decode cL_would 209 = .ok (.invokevirtual 13, 3) := by decide +kernel
theorem dL_would_212 : decode cL_would 212 = .ok (.if_icmp .eq 14, 3) := by decide +kernel
theorem dL_would_215 : decode cL_would 215 = .ok (.iload 10, 2) := by decide +kernel
theorem dL_would_217 : decode cL_would 217 = .ok (.ifCond .lt 9, 3) := by decide +kernel
theorem dL_would_220 : decode cL_would 220 = .ok (.iload 10, 2) := by decide +kernel
theorem dL_would_222 : decode cL_would 222 = .ok (.iconst 3, 1) := by decide +kernel
theorem dL_would_223 : decode cL_would 223 = .ok (.if_icmp .le 7, 3) := by decide +kernel
theorem dL_would_226 : decode cL_would 226 = .ok (.iconst 1, 1) := by decide +kernel
theorem dL_would_227 : decode cL_would 227 = .ok (.goto 4, 3) := by decide +kernel
theorem dL_would_230 : decode cL_would 230 = .ok (.iconst 0, 1) := by decide +kernel
theorem dL_would_231 : decode cL_would 231 = .ok (.istore 12, 2) := by decide +kernel
theorem dL_would_233 : decode cL_would 233 = .ok (.iload_n 1, 1) := by decide +kernel
theorem dL_would_234 : decode cL_would 234 = .ok (.iconst 4, 1) := by decide +kernel
theorem dL_would_235 : decode cL_would 235 = .ok (.ishr, 1) := by decide +kernel
theorem dL_would_236 : decode cL_would 236 = .ok (.aload_n 0, 1) := by decide +kernel
theorem dL_would_237 : decode cL_would 237 = .ok (.iconst 0, 1) := by decide +kernel
theorem dL_would_238 : decode cL_would 238 = .ok (.invokevirtual 13, 3) := by decide +kernel
theorem dL_would_241 : decode cL_would 241 = .ok (.invokestatic 38, 3) := by decide +kernel
theorem dL_would_244 : decode cL_would 244 = .ok (.istore 13, 2) := by decide +kernel
theorem dL_would_246 : decode cL_would 246 = .ok (.iload_n 1, 1) := by decide +kernel
theorem dL_would_247 : decode cL_would 247 = .ok (.bipush 12, 2) := by decide +kernel
theorem dL_would_249 : decode cL_would 249 = .ok (.ishr, 1) := by decide +kernel
theorem dL_would_250 : decode cL_would 250 = .ok (.aload_n 0, 1) := by decide +kernel
theorem dL_would_251 : decode cL_would 251 = .ok (.iconst 0, 1) := by decide +kernel
theorem dL_would_252 : decode cL_would 252 = .ok (.invokevirtual 13, 3) := by decide +kernel
theorem dL_would_255 : decode cL_would 255 = .ok (.invokestatic 38, 3) := by decide +kernel
theorem dL_would_258 : decode cL_would 258 = .ok (.istore 14, 2) := by decide +kernel
theorem dL_would_260 : decode cL_would 260 = .ok (.aload_n 0, 1) := by decide +kernel
theorem dL_would_261 : decode cL_would 261 = .ok (.iload 13, 2) := by decide +kernel
theorem dL_would_263 : decode cL_would 263 = .ok (.iload 14, 2) := by decide +kernel
theorem dL_would_265 : decode cL_would 265 = .ok (.invokevirtual 50, 3) := by decide +kernel
theorem dL_would_268 : decode cL_would 268 = .ok (.istore 15, 2) := by decide +kernel
theorem dL_would_270 : decode cL_would 270 = .ok (.iload 7, 2) := by decide +kernel
theorem dL_would_272 : decode cL_would 272 = .ok (.ifCond .eq 12, 3) := by decide +kernel
theorem dL_would_275 : decode cL_would 275 = .ok (.iload 4, 2) := by decide +kernel
theorem dL_would_277 : decode cL_would 277 = .ok (.iconst (-1), 1) := by decide +kernel
