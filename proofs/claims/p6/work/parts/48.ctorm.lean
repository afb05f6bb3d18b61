theorem dX12_init_0 : decode cX12_init 0 = .ok (.aload_n 0, 1) := by decide +kernel
theorem dX12_init_1 : decode cX12_init 1 = .ok (.invokespecial 1, 3) := by decide +kernel
theorem dX12_init_4 : decode cX12_init 4 = .ok (.aload_n 0, 1) := by decide +kernel
theorem dX12_init_5 : decode cX12_init 5 = .ok (.sipush 192, 3) := by decide +kernel
theorem dX12_init_8 : decode cX12_init 8 = .ok (.newarray .int, 2) := by decide +kernel
theorem dX12_init_10 : decode cX12_init 10 = .ok (.putfield 7, 3) := by decide +kernel
theorem dX12_init_13 : decode cX12_init 13 = .ok (.aload_n 0, 1) := by decide +kernel
theorem dX12_init_14 : decode cX12_init 14 = .ok (.bipush 6, 2) := by decide +kernel
theorem dX12_init_16 : decode cX12_init 16 = .ok (.newarray .boolean, 2) := by decide +kernel
theorem dX12_init_18 : decode cX12_init 18 = .ok (.putfield 13, 3) := by decide +kernel
theorem dX12_init_21 : decode cX12_init 21 = .ok (.aload_n 0, 1) := by decide +kernel
theorem dX12_init_22 : decode cX12_init 22 = .ok (.bipush 6, 2) := by decide +kernel
theorem dX12_init_24 : decode cX12_init 24 = .ok (.newarray .boolean, 2) := by decide +kernel
theorem dX12_init_26 : decode cX12_init 26 = .ok (.putfield 17, 3) := by decide +kernel
theorem dX12_init_29 : decode cX12_init 29 = .ok (.aload_n 0, 1) := by decide +kernel
theorem dX12_init_30 : decode cX12_init 30 = .ok (.bipush 6, 2) := by decide +kernel
theorem dX12_init_32 : decode cX12_init 32 = .ok (.newarray .boolean, 2) := by decide +kernel
theorem dX12_init_34 : decode cX12_init 34 = .ok (.putfield 20, 3) := by decide +kernel
theorem dX12_init_37 : decode cX12_init 37 = .ok (.aload_n 0, 1) := by decide +kernel
theorem dX12_init_38 : decode cX12_init 38 = .ok (.bipush 16, 2) := by decide +kernel
theorem dX12_init_40 : decode cX12_init 40 = .ok (.newarray .int, 2) := by decide +kernel
theorem dX12_init_42 : decode cX12_init 42 = .ok (.putfield 23, 3) := by decide +kernel
theorem dX12_init_45 : decode cX12_init 45 = .ok (.aload_n 0, 1) := by decide +kernel
theorem dX12_init_46 : decode cX12_init 46 = .ok (.iconst (-1), 1) := by decide +kernel
theorem dX12_init_47 : decode cX12_init 47 = .ok (.putfield 26, 3) := by decide +kernel
theorem dX12_init_50 : decode cX12_init 50 = .ok (.aload_n 0, 1) := by decide +kernel
theorem dX12_init_51 : decode cX12_init 51 = .ok (.sipush 600, 3) := by decide +kernel
theorem dX12_init_54 : decode cX12_init 54 = .ok (.newarray .int, 2) := by decide +kernel
theorem dX12_init_56 : decode cX12_init 56 = .ok (.putfield 30, 3) := by decide +kernel
theorem dX12_init_59 : decode cX12_init 59 = .ok (.aload_n 0, 1) := by decide +kernel
theorem dX12_init_60 : decode cX12_init 60 = .ok (.sipush 600, 3) := by decide +kernel
theorem dX12_init_63 : decode cX12_init 63 = .ok (.newarray .int, 2) := by decide +kernel
theorem dX12_init_65 : decode cX12_init 65 = .ok (.putfield 33, 3) := by decide +kernel
theorem dX12_init_68 : decode cX12_init 68 = .ok (.aload_n 0, 1) := by decide +kernel
theorem dX12_init_69 : decode cX12_init 69 = .ok (.bipush 9, 2) := by decide +kernel
theorem dX12_init_71 : decode cX12_init 71 = .ok (.newarray .int, 2) := by decide +kernel
theorem dX12_init_73 : decode cX12_init 73 = .ok (.putfield 36, 3) := by decide +kernel
theorem dX12_init_76 : decode cX12_init 76 = .ok (.aload_n 0, 1) := by decide +kernel
theorem dX12_init_77 : decode cX12_init 77 = .ok (.bipush 9, 2) := by decide +kernel
theorem dX12_init_79 : decode cX12_init 79 = .ok (.newarray .int, 2) := by decide +kernel
theorem dX12_init_81 : decode cX12_init 81 = .ok (.putfield 39, 3) := by decide +kernel
theorem dX12_init_84 : decode cX12_init 84 = .ok (.aload_n 0, 1) := by decide +kernel
theorem dX12_init_85 : decode cX12_init 85 = .ok (.bipush 9, 2) := by decide +kernel
theorem dX12_init_87 : decode cX12_init 87 = .ok (.newarray .int, 2) := by decide +kernel
theorem dX12_init_89 : decode cX12_init 89 = .ok (.putfield 42, 3) := by decide +kernel
theorem dX12_init_92 : decode cX12_init 92 = .ok (.aload_n 0, 1) := by decide +kernel
theorem dX12_init_93 : decode cX12_init 93 = .ok (.bipush 9, 2) := by decide +kernel
theorem dX12_init_95 : decode cX12_init 95 = .ok (.newarray .int, 2) := by decide +kernel
theorem dX12_init_97 : decode cX12_init 97 = .ok (.putfield 45, 3) := by decide +kernel
theorem dX12_init_100 : decode cX12_init 100 = .ok (.aload_n 0, 1) := by decide +kernel
theorem dX12_init_101 : decode cX12_init 101 = .ok (.bipush 9, 2) := by decide +kernel
theorem dX12_init_103 : decode cX12_init 103 = .ok (.newarray .int, 2) := by decide +kernel
theorem dX12_init_105 : decode cX12_init 105 = .ok (.putfield 48, 3) := by decide +kernel
theorem dX12_init_108 : decode cX12_init 108 = .ok (.aload_n 0, 1) := by decide +kernel
theorem dX12_init_109 : decode cX12_init 109 = .ok (.bipush 9, 2) := by decide +kernel
theorem dX12_init_111 : decode cX12_init 111 = .ok (.newarray .int, 2) := by decide +kernel
theorem dX12_init_113 : decode cX12_init 113 = .ok (.putfield 51, 3) := by decide +kernel
theorem dX12_init_116 : decode cX12_init 116 = .ok (.aload_n 0, 1) := by decide +kernel
theorem dX12_init_117 : decode cX12_init 117 = .ok (.bipush 9, 2) := by decide +kernel
theorem dX12_init_119 : decode cX12_init 119 = .ok (.newarray .int, 2) := by decide +kernel
theorem dX12_init_121 : decode cX12_init 121 = .ok (.putfield 54, 3) := by decide +kernel
theorem dX12_init_124 : decode cX12_init 124 = .ok (.aload_n 0, 1) := by decide +kernel
theorem dX12_init_125 : decode cX12_init 125 = .ok (.bipush 9, 2) := by decide +kernel
theorem dX12_init_127 : decode cX12_init 127 = .ok (.newarray .boolean, 2) := by decide +kernel
theorem dX12_init_129 : decode cX12_init 129 = .ok (.putfield 57, 3) := by decide +kernel
theorem dX12_init_132 : decode cX12_init 132 = .ok (.aload_n 0, 1) := by decide +kernel
theorem dX12_init_133 : decode cX12_init 133 = .ok (.bipush 9, 2) := by decide +kernel
theorem dX12_init_135 : decode cX12_init 135 = .ok (.newarray .boolean, 2) := by decide +kernel
theorem dX12_init_137 : decode cX12_init 137 = .ok (.putfield 60, 3) := by decide +kernel
theorem dX12_init_140 : decode cX12_init 140 = .ok (.aload_n 0, 1) := by decide +kernel
theorem dX12_init_141 : decode cX12_init 141 = .ok (.bipush 9, 2) := by decide +kernel
theorem dX12_init_143 : decode cX12_init 143 = .ok (.newarray .boolean, 2) := by decide +kernel
theorem dX12_init_145 : decode cX12_init 145 = .ok (.putfield 63, 3) := by decide +kernel
theorem dX12_init_148 : decode cX12_init 148 = .ok (.aload_n 0, 1) := by decide +kernel
theorem dX12_init_149 : decode cX12_init 149 = .ok (.bipush 9, 2) := by decide +kernel
theorem dX12_init_151 : decode cX12_init 151 = .ok (.newarray .boolean, 2) := by decide +kernel
theorem dX12_init_153 : decode cX12_init 153 = .ok (.putfield 66, 3) := by decide +kernel
theorem dX12_init_156 : decode cX12_init 156 = .ok (.aload_n 0, 1) := by decide +kernel
theorem dX12_init_157 : decode cX12_init 157 = .ok (.iconst (-1), 1) := by decide +kernel
theorem dX12_init_158 : decode cX12_init 158 = .ok (.putfield 69, 3) := by decide +kernel
theorem dX12_init_161 : decode cX12_init 161 = .ok (.aload_n 0, 1) := by decide +kernel
theorem dX12_init_162 : decode cX12_init 162 = .ok (.bipush 8, 2) := by decide +kernel
theorem dX12_init_164 : decode cX12_init 164 = .ok (.newarray .int, 2) := by decide +kernel
theorem dX12_init_166 : decode cX12_init 166 = .ok (.putfield 72, 3) := by decide +kernel
theorem dX12_init_169 : decode cX12_init 169 = .ok (.aload_n 0, 1) := by decide +kernel
theorem dX12_init_170 : decode cX12_init 170 = .ok (.bipush 32, 2) := by decide +kernel
theorem dX12_init_172 : decode cX12_init 172 = .ok (.newarray .int, 2) := by decide +kernel
theorem dX12_init_174 : decode cX12_init 174 = .ok (.putfield 75, 3) := by decide +kernel
theorem dX12_init_177 : decode cX12_init 177 = .ok (.aload_n 0, 1) := by decide +kernel
theorem dX12_init_178 : decode cX12_init 178 = .ok (.bipush 8, 2) := by decide +kernel
theorem dX12_init_180 : decode cX12_init 180 = .ok (.newarray .int, 2) := by decide +kernel
theorem dX12_init_182 : decode cX12_init 182 = .ok (.putfield 78, 3) := by decide +kernel
theorem dX12_init_185 : decode cX12_init 185 = .ok (.aload_n 0, 1) := by decide +kernel
theorem dX12_init_186 : decode cX12_init 186 = .ok (.bipush 32, 2) := by decide +kernel
theorem dX12_init_188 : decode cX12_init 188 = .ok (.newarray .int, 2) := by decide +kernel
theorem dX12_init_190 : decode cX12_init 190 = .ok (.putfield 81, 3) := by decide +kernel
theorem dX12_init_193 : decode cX12_init 193 = .ok (.aload_n 0, 1) := by decide +kernel
theorem dX12_init_194 : decode cX12_init 194 = .ok (.bipush 8, 2) := by decide +kernel
theorem dX12_init_196 : decode cX12_init 196 = .ok (.newarray .int, 2) := by decide +kernel
theorem dX12_init_198 : decode cX12_init 198 = .ok (.putfield 84, 3) := by decide +kernel
theorem dX12_init_201 : decode cX12_init 201 = .ok (.aload_n 0, 1) := by decide +kernel
theorem dX12_init_202 : decode cX12_init 202 = .ok (.bipush 8, 2) := by decide +kernel
theorem dX12_init_204 : decode cX12_init 204 = .ok (.newarray .int, 2) := by decide +kernel
theorem dX12_init_206 : decode cX12_init 206 = .ok (.putfield 87, 3) := by decide +kernel
theorem dX12_init_209 : decode cX12_init 209 = .ok (.aload_n 0, 1) := by decide +kernel
theorem dX12_init_210 : decode cX12_init 210 = .ok (.iconst (-1), 1) := by decide +kernel
theorem dX12_init_211 : decode cX12_init 211 = .ok (.putfield 90, 3) := by decide +kernel
theorem dX12_init_214 : decode cX12_init 214 = .ok (.aload_n 0, 1) := by decide +kernel
theorem dX12_init_215 : decode cX12_init 215 = .ok (.bipush 40, 2) := by decide +kernel
theorem dX12_init_217 : decode cX12_init 217 = .ok (.newarray .int, 2) := by decide +kernel
theorem dX12_init_219 : decode cX12_init 219 = .ok (.putfield 93, 3) := by decide +kernel
theorem dX12_init_222 : decode cX12_init 222 = .ok (.aload_n 0, 1) := by decide +kernel
theorem dX12_init_223 : decode cX12_init 223 = .ok (.bipush 40, 2) := by decide +kernel
theorem dX12_init_225 : decode cX12_init 225 = .ok (.newarray .int, 2) := by decide +kernel
theorem dX12_init_227 : decode cX12_init 227 = .ok (.putfield 96, 3) := by decide +kernel
theorem dX12_init_230 : decode cX12_init 230 = .ok (.aload_n 0, 1) := by decide +kernel
theorem dX12_init_231 : decode cX12_init 231 = .ok (.sipush 160, 3) := by decide +kernel
theorem dX12_init_234 : decode cX12_init 234 = .ok (.newarray .int, 2) := by decide +kernel
theorem dX12_init_236 : decode cX12_init 236 = .ok (.putfield 99, 3) := by decide +kernel
theorem dX12_init_239 : decode cX12_init 239 = .ok (.aload_n 0, 1) := by decide +kernel
theorem dX12_init_240 : decode cX12_init 240 = .ok (.bipush 40, 2) := by decide +kernel
theorem dX12_init_242 : decode cX12_init 242 = .ok (.newarray .int, 2) := by decide +kernel
theorem dX12_init_244 : decode cX12_init 244 = .ok (.putfield 102, 3) := by decide +kernel
theorem dX12_init_247 : decode cX12_init 247 = .ok (.aload_n 0, 1) := by decide +kernel
theorem dX12_init_248 : decode cX12_init 248 = .ok (.bipush 40, 2) := by decide +kernel
theorem dX12_init_250 : decode cX12_init 250 = .ok (.newarray .int, 2) := by decide +kernel
theorem dX12_init_252 : decode cX12_init 252 = .ok (.putfield 105, 3) := by decide +kernel
theorem dX12_init_255 : decode cX12_init 255 = .ok (.aload_n 0, 1) := by decide +kernel
theorem dX12_init_256 : decode cX12_init 256 = .ok (.bipush 64, 2) := by decide +kernel
theorem dX12_init_258 : decode cX12_init 258 = .ok (.newarray .int, 2) := by decide +kernel
theorem dX12_init_260 : decode cX12_init 260 = .ok (.putfield 108, 3) := by decide +kernel
theorem dX12_init_263 : decode cX12_init 263 = .ok (.aload_n 0, 1) := by decide +kernel
theorem dX12_init_264 : decode cX12_init 264 = .ok (.bipush 40, 2) := by decide +kernel
theorem dX12_init_266 : decode cX12_init 266 = .ok (.newarray .int, 2) := by decide +kernel
theorem dX12_init_268 : decode cX12_init 268 = .ok (.putfield 111, 3) := by decide +kernel
theorem dX12_init_271 : decode cX12_init 271 = .ok (.aload_n 0, 1) := by decide +kernel
theorem dX12_init_272 : decode cX12_init 272 = .ok (.bipush 40, 2) := by decide +kernel
theorem dX12_init_274 : decode cX12_init 274 = .ok (.newarray .int, 2) := by decide +kernel
theorem dX12_init_276 : decode cX12_init 276 = .ok (.putfield 114, 3) := by decide +kernel
theorem dX12_init_279 : decode cX12_init 279 = .ok (.aload_n 0, 1) := by decide +kernel
theorem dX12_init_280 : decode cX12_init 280 = .ok (.bipush 40, 2) := by decide +kernel
theorem dX12_init_282 : decode cX12_init 282 = .ok (.newarray .int, 2) := by decide +kernel
theorem dX12_init_284 : decode cX12_init 284 = .ok (.putfield 117, 3) := by decide +kernel
theorem dX12_init_287 : decode cX12_init 287 = .ok (.aload_n 0, 1) := by decide +kernel
theorem dX12_init_288 : decode cX12_init 288 = .ok (.bipush 40, 2) := by decide +kernel
theorem dX12_init_290 : decode cX12_init 290 = .ok (.newarray .int, 2) := by decide +kernel
theorem dX12_init_292 : decode cX12_init 292 = .ok (.putfield 120, 3) := by decide +kernel
theorem dX12_init_295 : decode cX12_init 295 = .ok (.aload_n 0, 1) := by decide +kernel
theorem dX12_init_296 : decode cX12_init 296 = .ok (.bipush 40, 2) := by decide +kernel
theorem dX12_init_298 : decode cX12_init 298 = .ok (.newarray .int, 2) := by decide +kernel
theorem dX12_init_300 : decode cX12_init 300 = .ok (.putfield 123, 3) := by decide +kernel
theorem dX12_init_303 : decode cX12_init 303 = .ok (.aload_n 0, 1) := by decide +kernel
theorem dX12_init_304 : decode cX12_init 304 = .ok (.bipush 40, 2) := by decide +kernel
theorem dX12_init_306 : decode cX12_init 306 = .ok (.newarray .int, 2) := by decide +kernel
theorem dX12_init_308 : decode cX12_init 308 = .ok (.putfield 126, 3) := by decide +kernel
theorem dX12_init_311 : decode cX12_init 311 = .ok (.aload_n 0, 1) := by decide +kernel
theorem dX12_init_312 : decode cX12_init 312 = .ok (.bipush 40, 2) := by decide +kernel
theorem dX12_init_314 : decode cX12_init 314 = .ok (.newarray .int, 2) := by decide +kernel
theorem dX12_init_316 : decode cX12_init 316 = .ok (.putfield 129, 3) := by decide +kernel
theorem dX12_init_319 : decode cX12_init 319 = .ok (.aload_n 0, 1) := by decide +kernel
theorem dX12_init_320 : decode cX12_init 320 = .ok (.bipush 40, 2) := by decide +kernel
theorem dX12_init_322 : decode cX12_init 322 = .ok (.newarray .int, 2) := by decide +kernel
theorem dX12_init_324 : decode cX12_init 324 = .ok (.putfield 132, 3) := by decide +kernel
theorem dX12_init_327 : decode cX12_init 327 = .ok (.aload_n 0, 1) := by decide +kernel
theorem dX12_init_328 : decode cX12_init 328 = .ok (.bipush 40, 2) := by decide +kernel
theorem dX12_init_330 : decode cX12_init 330 = .ok (.newarray .boolean, 2) := by decide +kernel
theorem dX12_init_332 : decode cX12_init 332 = .ok (.putfield 135, 3) := by decide +kernel
theorem dX12_init_335 : decode cX12_init 335 = .ok (.aload_n 0, 1) := by decide +kernel
theorem dX12_init_336 : decode cX12_init 336 = .ok (.bipush 40, 2) := by decide +kernel
theorem dX12_init_338 : decode cX12_init 338 = .ok (.newarray .boolean, 2) := by decide +kernel
theorem dX12_init_340 : decode cX12_init 340 = .ok (.putfield 138, 3) := by decide +kernel
theorem dX12_init_343 : decode cX12_init 343 = .ok (.aload_n 0, 1) := by decide +kernel
theorem dX12_init_344 : decode cX12_init 344 = .ok (.bipush 40, 2) := by decide +kernel
theorem dX12_init_346 : decode cX12_init 346 = .ok (.newarray .boolean, 2) := by decide +kernel
theorem dX12_init_348 : decode cX12_init 348 = .ok (.putfield 141, 3) := by decide +kernel
theorem dX12_init_351 : decode cX12_init 351 = .ok (.aload_n 0, 1) := by decide +kernel
theorem dX12_init_352 : decode cX12_init 352 = .ok (.iconst (-1), 1) := by decide +kernel
theorem dX12_init_353 : decode cX12_init 353 = .ok (.putfield 144, 3) := by decide +kernel
theorem dX12_init_356 : decode cX12_init 356 = .ok (.aload_n 0, 1) := by decide +kernel
theorem dX12_init_357 : decode cX12_init 357 = .ok (.iconst 4, 1) := by decide +kernel
theorem dX12_init_358 : decode cX12_init 358 = .ok (.newarray .int, 2) := by decide +kernel
theorem dX12_init_360 : decode cX12_init 360 = .ok (.putfield 147, 3) := by decide +kernel
theorem dX12_init_363 : decode cX12_init 363 = .ok (.aload_n 0, 1) := by decide +kernel
theorem dX12_init_364 : decode cX12_init 364 = .ok (.iconst 4, 1) := by decide +kernel
theorem dX12_init_365 : decode cX12_init 365 = .ok (.newarray .int, 2) := by decide +kernel
theorem dX12_init_367 : decode cX12_init 367 = .ok (.putfield 150, 3) := by decide +kernel
theorem dX12_init_370 : decode cX12_init 370 = .ok (.aload_n 0, 1) := by decide +kernel
theorem dX12_init_371 : decode cX12_init 371 = .ok (.bipush 40, 2) := by decide +kernel
theorem dX12_init_373 : decode cX12_init 373 = .ok (.newarray .int, 2) := by decide +kernel
theorem dX12_init_375 : decode cX12_init 375 = .ok (.putfield 153, 3) := by decide +kernel
theorem dX12_init_378 : decode cX12_init 378 = .ok (.aload_n 0, 1) := by decide +kernel
theorem dX12_init_379 : decode cX12_init 379 = .ok (.bipush 40, 2) := by decide +kernel
theorem dX12_init_381 : decode cX12_init 381 = .ok (.newarray .int, 2) := by decide +kernel
theorem dX12_init_383 : decode cX12_init 383 = .ok (.putfield 156, 3) := by decide +kernel
theorem dX12_init_386 : decode cX12_init 386 = .ok (.aload_n 0, 1) := by decide +kernel
theorem dX12_init_387 : decode cX12_init 387 = .ok (.sipush 480, 3) := by decide +kernel
theorem dX12_init_390 : decode cX12_init 390 = .ok (.newarray .int, 2) := by decide +kernel
theorem dX12_init_392 : decode cX12_init 392 = .ok (.putfield 159, 3) := by decide +kernel
theorem dX12_init_395 : decode cX12_init 395 = .ok (.aload_n 0, 1) := by decide +kernel
theorem dX12_init_396 : decode cX12_init 396 = .ok (.bipush 40, 2) := by decide +kernel
theorem dX12_init_398 : decode cX12_init 398 = .ok (.newarray .int, 2) := by decide +kernel
theorem dX12_init_400 : decode cX12_init 400 = .ok (.putfield 162, 3) := by decide +kernel
theorem dX12_init_403 : decode cX12_init 403 = .ok (.aload_n 0, 1) := by decide +kernel
theorem dX12_init_404 : decode cX12_init 404 = .ok (.bipush 40, 2) := by decide +kernel
theorem dX12_init_406 : decode cX12_init 406 = .ok (.newarray .int, 2) := by decide +kernel
theorem dX12_init_408 : decode cX12_init 408 = .ok (.putfield 165, 3) := by decide +kernel
theorem dX12_init_411 : decode cX12_init 411 = .ok (.aload_n 0, 1) := by decide +kernel
theorem dX12_init_412 : decode cX12_init 412 = .ok (.ldc 168, 2) := by decide +kernel
theorem dX12_init_414 : decode cX12_init 414 = .ok (.newarray .int, 2) := by decide +kernel
theorem dX12_init_416 : decode cX12_init 416 = .ok (.putfield 169, 3) := by decide +kernel
theorem dX12_init_419 : decode cX12_init 419 = .ok (.aload_n 0, 1) := by decide +kernel
theorem dX12_init_420 : decode cX12_init 420 = .ok (.ldc 168, 2) := by decide +kernel
theorem dX12_init_422 : decode cX12_init 422 = .ok (.newarray .int, 2) := by decide +kernel
theorem dX12_init_424 : decode cX12_init 424 = .ok (.putfield 172, 3) := by decide +kernel
theorem dX12_init_427 : decode cX12_init 427 = .ok (.iconst 0, 1) := by decide +kernel
theorem dX12_init_428 : decode cX12_init 428 = .ok (.istore_n 1, 1) := by decide +kernel
theorem dX12_init_429 : decode cX12_init 429 = .ok (.iload_n 1, 1) := by decide +kernel
theorem dX12_init_430 : decode cX12_init 430 = .ok (.bipush 9, 2) := by decide +kernel
theorem dX12_init_432 : decode cX12_init 432 = .ok (.if_icmp .ge 16, 3) := by decide +kernel
theorem dX12_init_435 : decode cX12_init 435 = .ok (.aload_n 0, 1) := by decide +kernel
theorem dX12_init_436 : decode cX12_init 436 = .ok (.getfield 54, 3) := by decide +kernel
theorem dX12_init_439 : decode cX12_init 439 = .ok (.iload_n 1, 1) := by decide +kernel
theorem dX12_init_440 : decode cX12_init 440 = .ok (.iload_n 1, 1) := by decide +kernel
theorem dX12_init_441 : decode cX12_init 441 = .ok (.iastore, 1) := by decide +kernel
theorem dX12_init_442 : decode cX12_init 442 = .ok (.iinc 1 1, 3) := by decide +kernel
theorem dX12_init_445 : decode cX12_init 445 = .ok (.goto (-16), 3) := by decide +kernel
theorem dX12_init_448 : decode cX12_init 448 = .ok (.return_, 1) := by decide +kernel
set_option maxHeartbeats 4000000 in
set_option maxRecDepth 100000 in
theorem m_X12_init (l : Launch) {Z : pZ} {h : pH} (P : pMk 138 136 21 Z h) : nMet l yX12_init cX12_init 2 1 50 157093 20 138 Z h [.ref (zB Z + 137)] (pQv Z (fun Z1 h1 => pMk (188) (186) (34) Z1 h1)) := by
  refine nOfW (lv := [(0, .ref (zB Z + 137))]) (by decide) (Nat.le_of_ble_eq_true rfl) rfl ?_
  intro p e s m below meth c ls M hr hlk hnm V hl hs hao
  have hx := M.1.1
  have hb := M.1.2.1
  refine lv_aload_n hx hb dX12_init_0 rfl (lv_at hl 0 rfl) ?_
  refine ko_I (Z := Z) M hl.1 lkO_X12 kO_init ⟨Nat.le_of_ble_eq_true rfl, Nat.le_of_ble_eq_true rfl⟩ dX12_init_1 ?_
  refine lv_aload_n hx hb dX12_init_4 rfl (lv_at hl 0 rfl) ?_
  refine lv_sipush (v := 192) hx hb dX12_init_5 (by decide) ?_
  refine kn_a (Z := Z) Z rfl rfl M V P hs (by omega) (ci := 13) (N := 192) (Or.inl ⟨rfl, rfl⟩) kA_int (by decide +kernel) (by decide) (by decide) (by decide) ⟨Nat.le_of_ble_eq_true rfl, Nat.le_of_ble_eq_true rfl⟩ dX12_init_8 (fun y1 h1 H P V => ?_)
  have M := pM.to (gW Z y1) rfl M
  refine kp_r (Z := (gW Z y1)) (o := 137) (t := 138) Z rfl rfl M V P 12 1 (by decide) rfl pC12 fk12_1 (by decide +kernel) (Or.inr ⟨hnm, rfl, rfl⟩) lkF_X12_7 (fun a => ⟨rfl, rfl⟩) dX12_init_10 (fun y2 h2 H locs P V => ?_)
  have M := pM.to (gW Z y2) rfl M
  refine lv_aload_n hx hb dX12_init_13 rfl (lv_at hl 0 rfl) ?_
  refine lv_bipush (v := 6) hx hb dX12_init_14 (by decide) ?_
  refine kn_a (Z := (gW Z y2)) Z rfl rfl M V P hs (by omega) (ci := 14) (N := 6) (Or.inr (Or.inl ⟨rfl, rfl⟩)) kA_bool (by decide +kernel) (by decide) (by decide) (by decide) ⟨Nat.le_of_ble_eq_true rfl, Nat.le_of_ble_eq_true rfl⟩ dX12_init_16 (fun y3 h3 H P V => ?_)
  have M := pM.to (gW Z y3) rfl M
  refine kp_r (Z := (gW Z y3)) (o := 137) (t := 139) Z rfl rfl M V P 12 10 (by decide) rfl pC12 fk12_10 (by decide +kernel) (Or.inr ⟨hnm, rfl, rfl⟩) lkF_X12_13 (fun a => ⟨rfl, rfl⟩) dX12_init_18 (fun y4 h4 H locs P V => ?_)
  have M := pM.to (gW Z y4) rfl M
  refine lv_aload_n hx hb dX12_init_21 rfl (lv_at hl 0 rfl) ?_
  refine lv_bipush (v := 6) hx hb dX12_init_22 (by decide) ?_
  refine kn_a (Z := (gW Z y4)) Z rfl rfl M V P hs (by omega) (ci := 14) (N := 6) (Or.inr (Or.inl ⟨rfl, rfl⟩)) kA_bool (by decide +kernel) (by decide) (by decide) (by decide) ⟨Nat.le_of_ble_eq_true rfl, Nat.le_of_ble_eq_true rfl⟩ dX12_init_24 (fun y5 h5 H P V => ?_)
  have M := pM.to (gW Z y5) rfl M
  refine kp_r (Z := (gW Z y5)) (o := 137) (t := 140) Z rfl rfl M V P 12 11 (by decide) rfl pC12 fk12_11 (by decide +kernel) (Or.inr ⟨hnm, rfl, rfl⟩) lkF_X12_17 (fun a => ⟨rfl, rfl⟩) dX12_init_26 (fun y6 h6 H locs P V => ?_)
  have M := pM.to (gW Z y6) rfl M
  refine lv_aload_n hx hb dX12_init_29 rfl (lv_at hl 0 rfl) ?_
  refine lv_bipush (v := 6) hx hb dX12_init_30 (by decide) ?_
  refine kn_a (Z := (gW Z y6)) Z rfl rfl M V P hs (by omega) (ci := 14) (N := 6) (Or.inr (Or.inl ⟨rfl, rfl⟩)) kA_bool (by decide +kernel) (by decide) (by decide) (by decide) ⟨Nat.le_of_ble_eq_true rfl, Nat.le_of_ble_eq_true rfl⟩ dX12_init_32 (fun y7 h7 H P V => ?_)
  have M := pM.to (gW Z y7) rfl M
  refine kp_r (Z := (gW Z y7)) (o := 137) (t := 141) Z rfl rfl M V P 12 12 (by decide) rfl pC12 fk12_12 (by decide +kernel) (Or.inr ⟨hnm, rfl, rfl⟩) lkF_X12_20 (fun a => ⟨rfl, rfl⟩) dX12_init_34 (fun y8 h8 H locs P V => ?_)
  have M := pM.to (gW Z y8) rfl M
  refine lv_aload_n hx hb dX12_init_37 rfl (lv_at hl 0 rfl) ?_
  refine lv_bipush (v := 16) hx hb dX12_init_38 (by decide) ?_
  refine kn_a (Z := (gW Z y8)) Z rfl rfl M V P hs (by omega) (ci := 13) (N := 16) (Or.inl ⟨rfl, rfl⟩) kA_int (by decide +kernel) (by decide) (by decide) (by decide) ⟨Nat.le_of_ble_eq_true rfl, Nat.le_of_ble_eq_true rfl⟩ dX12_init_40 (fun y9 h9 H P V => ?_)
  have M := pM.to (gW Z y9) rfl M
  refine kp_r (Z := (gW Z y9)) (o := 137) (t := 142) Z rfl rfl M V P 12 17 (by decide) rfl pC12 fk12_17 (by decide +kernel) (Or.inr ⟨hnm, rfl, rfl⟩) lkF_X12_23 (fun a => ⟨rfl, rfl⟩) dX12_init_42 (fun y10 h10 H locs P V => ?_)
  have M := pM.to (gW Z y10) rfl M
  refine lv_aload_n hx hb dX12_init_45 rfl (lv_at hl 0 rfl) ?_
  refine lv_iconst (v := (-1)) hx hb dX12_init_46 (by decide) ?_
  refine kp_i (Z := (gW Z y10)) (o := 137) Z rfl rfl M V P 12 23 (by decide) rfl pC12 fk12_23 (by decide +kernel) (Or.inl rfl) lkF_X12_26 ⟨rfl, rfl⟩ dX12_init_47 (fun y11 h11 H locs P V => ?_)
  have M := pM.to (gW Z y11) rfl M
  refine lv_aload_n hx hb dX12_init_50 rfl (lv_at hl 0 rfl) ?_
  refine lv_sipush (v := 600) hx hb dX12_init_51 (by decide) ?_
  refine kn_a (Z := (gW Z y11)) Z rfl rfl M V P hs (by omega) (ci := 13) (N := 600) (Or.inl ⟨rfl, rfl⟩) kA_int (by decide +kernel) (by decide) (by decide) (by decide) ⟨Nat.le_of_ble_eq_true rfl, Nat.le_of_ble_eq_true rfl⟩ dX12_init_54 (fun y12 h12 H P V => ?_)
  have M := pM.to (gW Z y12) rfl M
  refine kp_r (Z := (gW Z y12)) (o := 137) (t := 143) Z rfl rfl M V P 12 24 (by decide) rfl pC12 fk12_24 (by decide +kernel) (Or.inr ⟨hnm, rfl, rfl⟩) lkF_X12_30 (fun a => ⟨rfl, rfl⟩) dX12_init_56 (fun y13 h13 H locs P V => ?_)
  have M := pM.to (gW Z y13) rfl M
  refine lv_aload_n hx hb dX12_init_59 rfl (lv_at hl 0 rfl) ?_
  refine lv_sipush (v := 600) hx hb dX12_init_60 (by decide) ?_
  refine kn_a (Z := (gW Z y13)) Z rfl rfl M V P hs (by omega) (ci := 13) (N := 600) (Or.inl ⟨rfl, rfl⟩) kA_int (by decide +kernel) (by decide) (by decide) (by decide) ⟨Nat.le_of_ble_eq_true rfl, Nat.le_of_ble_eq_true rfl⟩ dX12_init_63 (fun y14 h14 H P V => ?_)
  have M := pM.to (gW Z y14) rfl M
  refine kp_r (Z := (gW Z y14)) (o := 137) (t := 144) Z rfl rfl M V P 12 26 (by decide) rfl pC12 fk12_26 (by decide +kernel) (Or.inr ⟨hnm, rfl, rfl⟩) lkF_X12_33 (fun a => ⟨rfl, rfl⟩) dX12_init_65 (fun y15 h15 H locs P V => ?_)
  have M := pM.to (gW Z y15) rfl M
  refine lv_aload_n hx hb dX12_init_68 rfl (lv_at hl 0 rfl) ?_
  refine lv_bipush (v := 9) hx hb dX12_init_69 (by decide) ?_
  refine kn_a (Z := (gW Z y15)) Z rfl rfl M V P hs (by omega) (ci := 13) (N := 9) (Or.inl ⟨rfl, rfl⟩) kA_int (by decide +kernel) (by decide) (by decide) (by decide) ⟨Nat.le_of_ble_eq_true rfl, Nat.le_of_ble_eq_true rfl⟩ dX12_init_71 (fun y16 h16 H P V => ?_)
  have M := pM.to (gW Z y16) rfl M
  refine kp_r (Z := (gW Z y16)) (o := 137) (t := 145) Z rfl rfl M V P 12 29 (by decide) rfl pC12 fk12_29 (by decide +kernel) (Or.inr ⟨hnm, rfl, rfl⟩) lkF_X12_36 (fun a => ⟨rfl, rfl⟩) dX12_init_73 (fun y17 h17 H locs P V => ?_)
  have M := pM.to (gW Z y17) rfl M
  refine lv_aload_n hx hb dX12_init_76 rfl (lv_at hl 0 rfl) ?_
  refine lv_bipush (v := 9) hx hb dX12_init_77 (by decide) ?_
  refine kn_a (Z := (gW Z y17)) Z rfl rfl M V P hs (by omega) (ci := 13) (N := 9) (Or.inl ⟨rfl, rfl⟩) kA_int (by decide +kernel) (by decide) (by decide) (by decide) ⟨Nat.le_of_ble_eq_true rfl, Nat.le_of_ble_eq_true rfl⟩ dX12_init_79 (fun y18 h18 H P V => ?_)
  have M := pM.to (gW Z y18) rfl M
  refine kp_r (Z := (gW Z y18)) (o := 137) (t := 146) Z rfl rfl M V P 12 30 (by decide) rfl pC12 fk12_30 (by decide +kernel) (Or.inr ⟨hnm, rfl, rfl⟩) lkF_X12_39 (fun a => ⟨rfl, rfl⟩) dX12_init_81 (fun y19 h19 H locs P V => ?_)
  have M := pM.to (gW Z y19) rfl M
  refine lv_aload_n hx hb dX12_init_84 rfl (lv_at hl 0 rfl) ?_
  refine lv_bipush (v := 9) hx hb dX12_init_85 (by decide) ?_
  refine kn_a (Z := (gW Z y19)) Z rfl rfl M V P hs (by omega) (ci := 13) (N := 9) (Or.inl ⟨rfl, rfl⟩) kA_int (by decide +kernel) (by decide) (by decide) (by decide) ⟨Nat.le_of_ble_eq_true rfl, Nat.le_of_ble_eq_true rfl⟩ dX12_init_87 (fun y20 h20 H P V => ?_)
  have M := pM.to (gW Z y20) rfl M
  refine kp_r (Z := (gW Z y20)) (o := 137) (t := 147) Z rfl rfl M V P 12 31 (by decide) rfl pC12 fk12_31 (by decide +kernel) (Or.inr ⟨hnm, rfl, rfl⟩) lkF_X12_42 (fun a => ⟨rfl, rfl⟩) dX12_init_89 (fun y21 h21 H locs P V => ?_)
  have M := pM.to (gW Z y21) rfl M
  refine lv_aload_n hx hb dX12_init_92 rfl (lv_at hl 0 rfl) ?_
  refine lv_bipush (v := 9) hx hb dX12_init_93 (by decide) ?_
  refine kn_a (Z := (gW Z y21)) Z rfl rfl M V P hs (by omega) (ci := 13) (N := 9) (Or.inl ⟨rfl, rfl⟩) kA_int (by decide +kernel) (by decide) (by decide) (by decide) ⟨Nat.le_of_ble_eq_true rfl, Nat.le_of_ble_eq_true rfl⟩ dX12_init_95 (fun y22 h22 H P V => ?_)
  have M := pM.to (gW Z y22) rfl M
  refine kp_r (Z := (gW Z y22)) (o := 137) (t := 148) Z rfl rfl M V P 12 32 (by decide) rfl pC12 fk12_32 (by decide +kernel) (Or.inr ⟨hnm, rfl, rfl⟩) lkF_X12_45 (fun a => ⟨rfl, rfl⟩) dX12_init_97 (fun y23 h23 H locs P V => ?_)
  have M := pM.to (gW Z y23) rfl M
  refine lv_aload_n hx hb dX12_init_100 rfl (lv_at hl 0 rfl) ?_
  refine lv_bipush (v := 9) hx hb dX12_init_101 (by decide) ?_
  refine kn_a (Z := (gW Z y23)) Z rfl rfl M V P hs (by omega) (ci := 13) (N := 9) (Or.inl ⟨rfl, rfl⟩) kA_int (by decide +kernel) (by decide) (by decide) (by decide) ⟨Nat.le_of_ble_eq_true rfl, Nat.le_of_ble_eq_true rfl⟩ dX12_init_103 (fun y24 h24 H P V => ?_)
  have M := pM.to (gW Z y24) rfl M
  refine kp_r (Z := (gW Z y24)) (o := 137) (t := 149) Z rfl rfl M V P 12 33 (by decide) rfl pC12 fk12_33 (by decide +kernel) (Or.inr ⟨hnm, rfl, rfl⟩) lkF_X12_48 (fun a => ⟨rfl, rfl⟩) dX12_init_105 (fun y25 h25 H locs P V => ?_)
  have M := pM.to (gW Z y25) rfl M
  refine lv_aload_n hx hb dX12_init_108 rfl (lv_at hl 0 rfl) ?_
  refine lv_bipush (v := 9) hx hb dX12_init_109 (by decide) ?_
  refine kn_a (Z := (gW Z y25)) Z rfl rfl M V P hs (by omega) (ci := 13) (N := 9) (Or.inl ⟨rfl, rfl⟩) kA_int (by decide +kernel) (by decide) (by decide) (by decide) ⟨Nat.le_of_ble_eq_true rfl, Nat.le_of_ble_eq_true rfl⟩ dX12_init_111 (fun y26 h26 H P V => ?_)
  have M := pM.to (gW Z y26) rfl M
  refine kp_r (Z := (gW Z y26)) (o := 137) (t := 150) Z rfl rfl M V P 12 34 (by decide) rfl pC12 fk12_34 (by decide +kernel) (Or.inr ⟨hnm, rfl, rfl⟩) lkF_X12_51 (fun a => ⟨rfl, rfl⟩) dX12_init_113 (fun y27 h27 H locs P V => ?_)
  have M := pM.to (gW Z y27) rfl M
  refine lv_aload_n hx hb dX12_init_116 rfl (lv_at hl 0 rfl) ?_
  refine lv_bipush (v := 9) hx hb dX12_init_117 (by decide) ?_
  refine kn_a (Z := (gW Z y27)) Z rfl rfl M V P hs (by omega) (ci := 13) (N := 9) (Or.inl ⟨rfl, rfl⟩) kA_int (by decide +kernel) (by decide) (by decide) (by decide) ⟨Nat.le_of_ble_eq_true rfl, Nat.le_of_ble_eq_true rfl⟩ dX12_init_119 (fun y28 h28 H P V => ?_)
  have M := pM.to (gW Z y28) rfl M
  refine kp_r (Z := (gW Z y28)) (o := 137) (t := 151) Z rfl rfl M V P 12 35 (by decide) rfl pC12 fk12_35 (by decide +kernel) (Or.inr ⟨hnm, rfl, rfl⟩) lkF_X12_54 (fun a => ⟨rfl, rfl⟩) dX12_init_121 (fun y29 h29 H locs P V => ?_)
  have M := pM.to (gW Z y29) rfl M
  refine lv_aload_n hx hb dX12_init_124 rfl (lv_at hl 0 rfl) ?_
  refine lv_bipush (v := 9) hx hb dX12_init_125 (by decide) ?_
  refine kn_a (Z := (gW Z y29)) Z rfl rfl M V P hs (by omega) (ci := 14) (N := 9) (Or.inr (Or.inl ⟨rfl, rfl⟩)) kA_bool (by decide +kernel) (by decide) (by decide) (by decide) ⟨Nat.le_of_ble_eq_true rfl, Nat.le_of_ble_eq_true rfl⟩ dX12_init_127 (fun y30 h30 H P V => ?_)
  have M := pM.to (gW Z y30) rfl M
  refine kp_r (Z := (gW Z y30)) (o := 137) (t := 152) Z rfl rfl M V P 12 36 (by decide) rfl pC12 fk12_36 (by decide +kernel) (Or.inr ⟨hnm, rfl, rfl⟩) lkF_X12_57 (fun a => ⟨rfl, rfl⟩) dX12_init_129 (fun y31 h31 H locs P V => ?_)
  have M := pM.to (gW Z y31) rfl M
  refine lv_aload_n hx hb dX12_init_132 rfl (lv_at hl 0 rfl) ?_
  refine lv_bipush (v := 9) hx hb dX12_init_133 (by decide) ?_
  refine kn_a (Z := (gW Z y31)) Z rfl rfl M V P hs (by omega) (ci := 14) (N := 9) (Or.inr (Or.inl ⟨rfl, rfl⟩)) kA_bool (by decide +kernel) (by decide) (by decide) (by decide) ⟨Nat.le_of_ble_eq_true rfl, Nat.le_of_ble_eq_true rfl⟩ dX12_init_135 (fun y32 h32 H P V => ?_)
  have M := pM.to (gW Z y32) rfl M
  refine kp_r (Z := (gW Z y32)) (o := 137) (t := 153) Z rfl rfl M V P 12 37 (by decide) rfl pC12 fk12_37 (by decide +kernel) (Or.inr ⟨hnm, rfl, rfl⟩) lkF_X12_60 (fun a => ⟨rfl, rfl⟩) dX12_init_137 (fun y33 h33 H locs P V => ?_)
  have M := pM.to (gW Z y33) rfl M
  refine lv_aload_n hx hb dX12_init_140 rfl (lv_at hl 0 rfl) ?_
  refine lv_bipush (v := 9) hx hb dX12_init_141 (by decide) ?_
  refine kn_a (Z := (gW Z y33)) Z rfl rfl M V P hs (by omega) (ci := 14) (N := 9) (Or.inr (Or.inl ⟨rfl, rfl⟩)) kA_bool (by decide +kernel) (by decide) (by decide) (by decide) ⟨Nat.le_of_ble_eq_true rfl, Nat.le_of_ble_eq_true rfl⟩ dX12_init_143 (fun y34 h34 H P V => ?_)
  have M := pM.to (gW Z y34) rfl M
  refine kp_r (Z := (gW Z y34)) (o := 137) (t := 154) Z rfl rfl M V P 12 38 (by decide) rfl pC12 fk12_38 (by decide +kernel) (Or.inr ⟨hnm, rfl, rfl⟩) lkF_X12_63 (fun a => ⟨rfl, rfl⟩) dX12_init_145 (fun y35 h35 H locs P V => ?_)
  have M := pM.to (gW Z y35) rfl M
  refine lv_aload_n hx hb dX12_init_148 rfl (lv_at hl 0 rfl) ?_
  refine lv_bipush (v := 9) hx hb dX12_init_149 (by decide) ?_
  refine kn_a (Z := (gW Z y35)) Z rfl rfl M V P hs (by omega) (ci := 14) (N := 9) (Or.inr (Or.inl ⟨rfl, rfl⟩)) kA_bool (by decide +kernel) (by decide) (by decide) (by decide) ⟨Nat.le_of_ble_eq_true rfl, Nat.le_of_ble_eq_true rfl⟩ dX12_init_151 (fun y36 h36 H P V => ?_)
  have M := pM.to (gW Z y36) rfl M
  refine kp_r (Z := (gW Z y36)) (o := 137) (t := 155) Z rfl rfl M V P 12 39 (by decide) rfl pC12 fk12_39 (by decide +kernel) (Or.inr ⟨hnm, rfl, rfl⟩) lkF_X12_66 (fun a => ⟨rfl, rfl⟩) dX12_init_153 (fun y37 h37 H locs P V => ?_)
  have M := pM.to (gW Z y37) rfl M
  refine lv_aload_n hx hb dX12_init_156 rfl (lv_at hl 0 rfl) ?_
  refine lv_iconst (v := (-1)) hx hb dX12_init_157 (by decide) ?_
  refine kp_i (Z := (gW Z y37)) (o := 137) Z rfl rfl M V P 12 40 (by decide) rfl pC12 fk12_40 (by decide +kernel) (Or.inl rfl) lkF_X12_69 ⟨rfl, rfl⟩ dX12_init_158 (fun y38 h38 H locs P V => ?_)
  have M := pM.to (gW Z y38) rfl M
  refine lv_aload_n hx hb dX12_init_161 rfl (lv_at hl 0 rfl) ?_
  refine lv_bipush (v := 8) hx hb dX12_init_162 (by decide) ?_
  refine kn_a (Z := (gW Z y38)) Z rfl rfl M V P hs (by omega) (ci := 13) (N := 8) (Or.inl ⟨rfl, rfl⟩) kA_int (by decide +kernel) (by decide) (by decide) (by decide) ⟨Nat.le_of_ble_eq_true rfl, Nat.le_of_ble_eq_true rfl⟩ dX12_init_164 (fun y39 h39 H P V => ?_)
  have M := pM.to (gW Z y39) rfl M
  refine kp_r (Z := (gW Z y39)) (o := 137) (t := 156) Z rfl rfl M V P 12 42 (by decide) rfl pC12 fk12_42 (by decide +kernel) (Or.inr ⟨hnm, rfl, rfl⟩) lkF_X12_72 (fun a => ⟨rfl, rfl⟩) dX12_init_166 (fun y40 h40 H locs P V => ?_)
  have M := pM.to (gW Z y40) rfl M
  refine lv_aload_n hx hb dX12_init_169 rfl (lv_at hl 0 rfl) ?_
  refine lv_bipush (v := 32) hx hb dX12_init_170 (by decide) ?_
  refine kn_a (Z := (gW Z y40)) Z rfl rfl M V P hs (by omega) (ci := 13) (N := 32) (Or.inl ⟨rfl, rfl⟩) kA_int (by decide +kernel) (by decide) (by decide) (by decide) ⟨Nat.le_of_ble_eq_true rfl, Nat.le_of_ble_eq_true rfl⟩ dX12_init_172 (fun y41 h41 H P V => ?_)
  have M := pM.to (gW Z y41) rfl M
  refine kp_r (Z := (gW Z y41)) (o := 137) (t := 157) Z rfl rfl M V P 12 43 (by decide) rfl pC12 fk12_43 (by decide +kernel) (Or.inr ⟨hnm, rfl, rfl⟩) lkF_X12_75 (fun a => ⟨rfl, rfl⟩) dX12_init_174 (fun y42 h42 H locs P V => ?_)
  have M := pM.to (gW Z y42) rfl M
  refine lv_aload_n hx hb dX12_init_177 rfl (lv_at hl 0 rfl) ?_
  refine lv_bipush (v := 8) hx hb dX12_init_178 (by decide) ?_
  refine kn_a (Z := (gW Z y42)) Z rfl rfl M V P hs (by omega) (ci := 13) (N := 8) (Or.inl ⟨rfl, rfl⟩) kA_int (by decide +kernel) (by decide) (by decide) (by decide) ⟨Nat.le_of_ble_eq_true rfl, Nat.le_of_ble_eq_true rfl⟩ dX12_init_180 (fun y43 h43 H P V => ?_)
  have M := pM.to (gW Z y43) rfl M
  refine kp_r (Z := (gW Z y43)) (o := 137) (t := 158) Z rfl rfl M V P 12 44 (by decide) rfl pC12 fk12_44 (by decide +kernel) (Or.inr ⟨hnm, rfl, rfl⟩) lkF_X12_78 (fun a => ⟨rfl, rfl⟩) dX12_init_182 (fun y44 h44 H locs P V => ?_)
  have M := pM.to (gW Z y44) rfl M
  refine lv_aload_n hx hb dX12_init_185 rfl (lv_at hl 0 rfl) ?_
  refine lv_bipush (v := 32) hx hb dX12_init_186 (by decide) ?_
  refine kn_a (Z := (gW Z y44)) Z rfl rfl M V P hs (by omega) (ci := 13) (N := 32) (Or.inl ⟨rfl, rfl⟩) kA_int (by decide +kernel) (by decide) (by decide) (by decide) ⟨Nat.le_of_ble_eq_true rfl, Nat.le_of_ble_eq_true rfl⟩ dX12_init_188 (fun y45 h45 H P V => ?_)
  have M := pM.to (gW Z y45) rfl M
  refine kp_r (Z := (gW Z y45)) (o := 137) (t := 159) Z rfl rfl M V P 12 45 (by decide) rfl pC12 fk12_45 (by decide +kernel) (Or.inr ⟨hnm, rfl, rfl⟩) lkF_X12_81 (fun a => ⟨rfl, rfl⟩) dX12_init_190 (fun y46 h46 H locs P V => ?_)
  have M := pM.to (gW Z y46) rfl M
  refine lv_aload_n hx hb dX12_init_193 rfl (lv_at hl 0 rfl) ?_
  refine lv_bipush (v := 8) hx hb dX12_init_194 (by decide) ?_
  refine kn_a (Z := (gW Z y46)) Z rfl rfl M V P hs (by omega) (ci := 13) (N := 8) (Or.inl ⟨rfl, rfl⟩) kA_int (by decide +kernel) (by decide) (by decide) (by decide) ⟨Nat.le_of_ble_eq_true rfl, Nat.le_of_ble_eq_true rfl⟩ dX12_init_196 (fun y47 h47 H P V => ?_)
  have M := pM.to (gW Z y47) rfl M
  refine kp_r (Z := (gW Z y47)) (o := 137) (t := 160) Z rfl rfl M V P 12 46 (by decide) rfl pC12 fk12_46 (by decide +kernel) (Or.inr ⟨hnm, rfl, rfl⟩) lkF_X12_84 (fun a => ⟨rfl, rfl⟩) dX12_init_198 (fun y48 h48 H locs P V => ?_)
  have M := pM.to (gW Z y48) rfl M
  refine lv_aload_n hx hb dX12_init_201 rfl (lv_at hl 0 rfl) ?_
  refine lv_bipush (v := 8) hx hb dX12_init_202 (by decide) ?_
  refine kn_a (Z := (gW Z y48)) Z rfl rfl M V P hs (by omega) (ci := 13) (N := 8) (Or.inl ⟨rfl, rfl⟩) kA_int (by decide +kernel) (by decide) (by decide) (by decide) ⟨Nat.le_of_ble_eq_true rfl, Nat.le_of_ble_eq_true rfl⟩ dX12_init_204 (fun y49 h49 H P V => ?_)
  have M := pM.to (gW Z y49) rfl M
  refine kp_r (Z := (gW Z y49)) (o := 137) (t := 161) Z rfl rfl M V P 12 47 (by decide) rfl pC12 fk12_47 (by decide +kernel) (Or.inr ⟨hnm, rfl, rfl⟩) lkF_X12_87 (fun a => ⟨rfl, rfl⟩) dX12_init_206 (fun y50 h50 H locs P V => ?_)
  have M := pM.to (gW Z y50) rfl M
  refine lv_aload_n hx hb dX12_init_209 rfl (lv_at hl 0 rfl) ?_
  refine lv_iconst (v := (-1)) hx hb dX12_init_210 (by decide) ?_
  refine kp_i (Z := (gW Z y50)) (o := 137) Z rfl rfl M V P 12 50 (by decide) rfl pC12 fk12_50 (by decide +kernel) (Or.inl rfl) lkF_X12_90 ⟨rfl, rfl⟩ dX12_init_211 (fun y51 h51 H locs P V => ?_)
  have M := pM.to (gW Z y51) rfl M
  refine lv_aload_n hx hb dX12_init_214 rfl (lv_at hl 0 rfl) ?_
  refine lv_bipush (v := 40) hx hb dX12_init_215 (by decide) ?_
  refine kn_a (Z := (gW Z y51)) Z rfl rfl M V P hs (by omega) (ci := 13) (N := 40) (Or.inl ⟨rfl, rfl⟩) kA_int (by decide +kernel) (by decide) (by decide) (by decide) ⟨Nat.le_of_ble_eq_true rfl, Nat.le_of_ble_eq_true rfl⟩ dX12_init_217 (fun y52 h52 H P V => ?_)
  have M := pM.to (gW Z y52) rfl M
  refine kp_r (Z := (gW Z y52)) (o := 137) (t := 162) Z rfl rfl M V P 12 51 (by decide) rfl pC12 fk12_51 (by decide +kernel) (Or.inr ⟨hnm, rfl, rfl⟩) lkF_X12_93 (fun a => ⟨rfl, rfl⟩) dX12_init_219 (fun y53 h53 H locs P V => ?_)
  have M := pM.to (gW Z y53) rfl M
  refine lv_aload_n hx hb dX12_init_222 rfl (lv_at hl 0 rfl) ?_
  refine lv_bipush (v := 40) hx hb dX12_init_223 (by decide) ?_
  refine kn_a (Z := (gW Z y53)) Z rfl rfl M V P hs (by omega) (ci := 13) (N := 40) (Or.inl ⟨rfl, rfl⟩) kA_int (by decide +kernel) (by decide) (by decide) (by decide) ⟨Nat.le_of_ble_eq_true rfl, Nat.le_of_ble_eq_true rfl⟩ dX12_init_225 (fun y54 h54 H P V => ?_)
  have M := pM.to (gW Z y54) rfl M
  refine kp_r (Z := (gW Z y54)) (o := 137) (t := 163) Z rfl rfl M V P 12 52 (by decide) rfl pC12 fk12_52 (by decide +kernel) (Or.inr ⟨hnm, rfl, rfl⟩) lkF_X12_96 (fun a => ⟨rfl, rfl⟩) dX12_init_227 (fun y55 h55 H locs P V => ?_)
  have M := pM.to (gW Z y55) rfl M
  refine lv_aload_n hx hb dX12_init_230 rfl (lv_at hl 0 rfl) ?_
  refine lv_sipush (v := 160) hx hb dX12_init_231 (by decide) ?_
  refine kn_a (Z := (gW Z y55)) Z rfl rfl M V P hs (by omega) (ci := 13) (N := 160) (Or.inl ⟨rfl, rfl⟩) kA_int (by decide +kernel) (by decide) (by decide) (by decide) ⟨Nat.le_of_ble_eq_true rfl, Nat.le_of_ble_eq_true rfl⟩ dX12_init_234 (fun y56 h56 H P V => ?_)
  have M := pM.to (gW Z y56) rfl M
  refine kp_r (Z := (gW Z y56)) (o := 137) (t := 164) Z rfl rfl M V P 12 53 (by decide) rfl pC12 fk12_53 (by decide +kernel) (Or.inr ⟨hnm, rfl, rfl⟩) lkF_X12_99 (fun a => ⟨rfl, rfl⟩) dX12_init_236 (fun y57 h57 H locs P V => ?_)
  have M := pM.to (gW Z y57) rfl M
  refine lv_aload_n hx hb dX12_init_239 rfl (lv_at hl 0 rfl) ?_
  refine lv_bipush (v := 40) hx hb dX12_init_240 (by decide) ?_
  refine kn_a (Z := (gW Z y57)) Z rfl rfl M V P hs (by omega) (ci := 13) (N := 40) (Or.inl ⟨rfl, rfl⟩) kA_int (by decide +kernel) (by decide) (by decide) (by decide) ⟨Nat.le_of_ble_eq_true rfl, Nat.le_of_ble_eq_true rfl⟩ dX12_init_242 (fun y58 h58 H P V => ?_)
  have M := pM.to (gW Z y58) rfl M
  refine kp_r (Z := (gW Z y58)) (o := 137) (t := 165) Z rfl rfl M V P 12 54 (by decide) rfl pC12 fk12_54 (by decide +kernel) (Or.inr ⟨hnm, rfl, rfl⟩) lkF_X12_102 (fun a => ⟨rfl, rfl⟩) dX12_init_244 (fun y59 h59 H locs P V => ?_)
  have M := pM.to (gW Z y59) rfl M
  refine lv_aload_n hx hb dX12_init_247 rfl (lv_at hl 0 rfl) ?_
  refine lv_bipush (v := 40) hx hb dX12_init_248 (by decide) ?_
  refine kn_a (Z := (gW Z y59)) Z rfl rfl M V P hs (by omega) (ci := 13) (N := 40) (Or.inl ⟨rfl, rfl⟩) kA_int (by decide +kernel) (by decide) (by decide) (by decide) ⟨Nat.le_of_ble_eq_true rfl, Nat.le_of_ble_eq_true rfl⟩ dX12_init_250 (fun y60 h60 H P V => ?_)
  have M := pM.to (gW Z y60) rfl M
  refine kp_r (Z := (gW Z y60)) (o := 137) (t := 166) Z rfl rfl M V P 12 55 (by decide) rfl pC12 fk12_55 (by decide +kernel) (Or.inr ⟨hnm, rfl, rfl⟩) lkF_X12_105 (fun a => ⟨rfl, rfl⟩) dX12_init_252 (fun y61 h61 H locs P V => ?_)
  have M := pM.to (gW Z y61) rfl M
  refine lv_aload_n hx hb dX12_init_255 rfl (lv_at hl 0 rfl) ?_
  refine lv_bipush (v := 64) hx hb dX12_init_256 (by decide) ?_
  refine kn_a (Z := (gW Z y61)) Z rfl rfl M V P hs (by omega) (ci := 13) (N := 64) (Or.inl ⟨rfl, rfl⟩) kA_int (by decide +kernel) (by decide) (by decide) (by decide) ⟨Nat.le_of_ble_eq_true rfl, Nat.le_of_ble_eq_true rfl⟩ dX12_init_258 (fun y62 h62 H P V => ?_)
  have M := pM.to (gW Z y62) rfl M
  refine kp_r (Z := (gW Z y62)) (o := 137) (t := 167) Z rfl rfl M V P 12 57 (by decide) rfl pC12 fk12_57 (by decide +kernel) (Or.inr ⟨hnm, rfl, rfl⟩) lkF_X12_108 (fun a => ⟨rfl, rfl⟩) dX12_init_260 (fun y63 h63 H locs P V => ?_)
  have M := pM.to (gW Z y63) rfl M
  refine lv_aload_n hx hb dX12_init_263 rfl (lv_at hl 0 rfl) ?_
  refine lv_bipush (v := 40) hx hb dX12_init_264 (by decide) ?_
  refine kn_a (Z := (gW Z y63)) Z rfl rfl M V P hs (by omega) (ci := 13) (N := 40) (Or.inl ⟨rfl, rfl⟩) kA_int (by decide +kernel) (by decide) (by decide) (by decide) ⟨Nat.le_of_ble_eq_true rfl, Nat.le_of_ble_eq_true rfl⟩ dX12_init_266 (fun y64 h64 H P V => ?_)
  have M := pM.to (gW Z y64) rfl M
  refine kp_r (Z := (gW Z y64)) (o := 137) (t := 168) Z rfl rfl M V P 12 59 (by decide) rfl pC12 fk12_59 (by decide +kernel) (Or.inr ⟨hnm, rfl, rfl⟩) lkF_X12_111 (fun a => ⟨rfl, rfl⟩) dX12_init_268 (fun y65 h65 H locs P V => ?_)
  have M := pM.to (gW Z y65) rfl M
  refine lv_aload_n hx hb dX12_init_271 rfl (lv_at hl 0 rfl) ?_
  refine lv_bipush (v := 40) hx hb dX12_init_272 (by decide) ?_
  refine kn_a (Z := (gW Z y65)) Z rfl rfl M V P hs (by omega) (ci := 13) (N := 40) (Or.inl ⟨rfl, rfl⟩) kA_int (by decide +kernel) (by decide) (by decide) (by decide) ⟨Nat.le_of_ble_eq_true rfl, Nat.le_of_ble_eq_true rfl⟩ dX12_init_274 (fun y66 h66 H P V => ?_)
  have M := pM.to (gW Z y66) rfl M
  refine kp_r (Z := (gW Z y66)) (o := 137) (t := 169) Z rfl rfl M V P 12 60 (by decide) rfl pC12 fk12_60 (by decide +kernel) (Or.inr ⟨hnm, rfl, rfl⟩) lkF_X12_114 (fun a => ⟨rfl, rfl⟩) dX12_init_276 (fun y67 h67 H locs P V => ?_)
  have M := pM.to (gW Z y67) rfl M
  refine lv_aload_n hx hb dX12_init_279 rfl (lv_at hl 0 rfl) ?_
  refine lv_bipush (v := 40) hx hb dX12_init_280 (by decide) ?_
  refine kn_a (Z := (gW Z y67)) Z rfl rfl M V P hs (by omega) (ci := 13) (N := 40) (Or.inl ⟨rfl, rfl⟩) kA_int (by decide +kernel) (by decide) (by decide) (by decide) ⟨Nat.le_of_ble_eq_true rfl, Nat.le_of_ble_eq_true rfl⟩ dX12_init_282 (fun y68 h68 H P V => ?_)
  have M := pM.to (gW Z y68) rfl M
  refine kp_r (Z := (gW Z y68)) (o := 137) (t := 170) Z rfl rfl M V P 12 61 (by decide) rfl pC12 fk12_61 (by decide +kernel) (Or.inr ⟨hnm, rfl, rfl⟩) lkF_X12_117 (fun a => ⟨rfl, rfl⟩) dX12_init_284 (fun y69 h69 H locs P V => ?_)
  have M := pM.to (gW Z y69) rfl M
  refine lv_aload_n hx hb dX12_init_287 rfl (lv_at hl 0 rfl) ?_
  refine lv_bipush (v := 40) hx hb dX12_init_288 (by decide) ?_
  refine kn_a (Z := (gW Z y69)) Z rfl rfl M V P hs (by omega) (ci := 13) (N := 40) (Or.inl ⟨rfl, rfl⟩) kA_int (by decide +kernel) (by decide) (by decide) (by decide) ⟨Nat.le_of_ble_eq_true rfl, Nat.le_of_ble_eq_true rfl⟩ dX12_init_290 (fun y70 h70 H P V => ?_)
  have M := pM.to (gW Z y70) rfl M
  refine kp_r (Z := (gW Z y70)) (o := 137) (t := 171) Z rfl rfl M V P 12 62 (by decide) rfl pC12 fk12_62 (by decide +kernel) (Or.inr ⟨hnm, rfl, rfl⟩) lkF_X12_120 (fun a => ⟨rfl, rfl⟩) dX12_init_292 (fun y71 h71 H locs P V => ?_)
  have M := pM.to (gW Z y71) rfl M
  refine lv_aload_n hx hb dX12_init_295 rfl (lv_at hl 0 rfl) ?_
  refine lv_bipush (v := 40) hx hb dX12_init_296 (by decide) ?_
  refine kn_a (Z := (gW Z y71)) Z rfl rfl M V P hs (by omega) (ci := 13) (N := 40) (Or.inl ⟨rfl, rfl⟩) kA_int (by decide +kernel) (by decide) (by decide) (by decide) ⟨Nat.le_of_ble_eq_true rfl, Nat.le_of_ble_eq_true rfl⟩ dX12_init_298 (fun y72 h72 H P V => ?_)
  have M := pM.to (gW Z y72) rfl M
  refine kp_r (Z := (gW Z y72)) (o := 137) (t := 172) Z rfl rfl M V P 12 63 (by decide) rfl pC12 fk12_63 (by decide +kernel) (Or.inr ⟨hnm, rfl, rfl⟩) lkF_X12_123 (fun a => ⟨rfl, rfl⟩) dX12_init_300 (fun y73 h73 H locs P V => ?_)
  have M := pM.to (gW Z y73) rfl M
  refine lv_aload_n hx hb dX12_init_303 rfl (lv_at hl 0 rfl) ?_
  refine lv_bipush (v := 40) hx hb dX12_init_304 (by decide) ?_
  refine kn_a (Z := (gW Z y73)) Z rfl rfl M V P hs (by omega) (ci := 13) (N := 40) (Or.inl ⟨rfl, rfl⟩) kA_int (by decide +kernel) (by decide) (by decide) (by decide) ⟨Nat.le_of_ble_eq_true rfl, Nat.le_of_ble_eq_true rfl⟩ dX12_init_306 (fun y74 h74 H P V => ?_)
  have M := pM.to (gW Z y74) rfl M
  refine kp_r (Z := (gW Z y74)) (o := 137) (t := 173) Z rfl rfl M V P 12 64 (by decide) rfl pC12 fk12_64 (by decide +kernel) (Or.inr ⟨hnm, rfl, rfl⟩) lkF_X12_126 (fun a => ⟨rfl, rfl⟩) dX12_init_308 (fun y75 h75 H locs P V => ?_)
  have M := pM.to (gW Z y75) rfl M
  refine lv_aload_n hx hb dX12_init_311 rfl (lv_at hl 0 rfl) ?_
  refine lv_bipush (v := 40) hx hb dX12_init_312 (by decide) ?_
  refine kn_a (Z := (gW Z y75)) Z rfl rfl M V P hs (by omega) (ci := 13) (N := 40) (Or.inl ⟨rfl, rfl⟩) kA_int (by decide +kernel) (by decide) (by decide) (by decide) ⟨Nat.le_of_ble_eq_true rfl, Nat.le_of_ble_eq_true rfl⟩ dX12_init_314 (fun y76 h76 H P V => ?_)
  have M := pM.to (gW Z y76) rfl M
  refine kp_r (Z := (gW Z y76)) (o := 137) (t := 174) Z rfl rfl M V P 12 65 (by decide) rfl pC12 fk12_65 (by decide +kernel) (Or.inr ⟨hnm, rfl, rfl⟩) lkF_X12_129 (fun a => ⟨rfl, rfl⟩) dX12_init_316 (fun y77 h77 H locs P V => ?_)
  have M := pM.to (gW Z y77) rfl M
  refine lv_aload_n hx hb dX12_init_319 rfl (lv_at hl 0 rfl) ?_
  refine lv_bipush (v := 40) hx hb dX12_init_320 (by decide) ?_
  refine kn_a (Z := (gW Z y77)) Z rfl rfl M V P hs (by omega) (ci := 13) (N := 40) (Or.inl ⟨rfl, rfl⟩) kA_int (by decide +kernel) (by decide) (by decide) (by decide) ⟨Nat.le_of_ble_eq_true rfl, Nat.le_of_ble_eq_true rfl⟩ dX12_init_322 (fun y78 h78 H P V => ?_)
  have M := pM.to (gW Z y78) rfl M
  refine kp_r (Z := (gW Z y78)) (o := 137) (t := 175) Z rfl rfl M V P 12 66 (by decide) rfl pC12 fk12_66 (by decide +kernel) (Or.inr ⟨hnm, rfl, rfl⟩) lkF_X12_132 (fun a => ⟨rfl, rfl⟩) dX12_init_324 (fun y79 h79 H locs P V => ?_)
  have M := pM.to (gW Z y79) rfl M
  refine lv_aload_n hx hb dX12_init_327 rfl (lv_at hl 0 rfl) ?_
  refine lv_bipush (v := 40) hx hb dX12_init_328 (by decide) ?_
  refine kn_a (Z := (gW Z y79)) Z rfl rfl M V P hs (by omega) (ci := 14) (N := 40) (Or.inr (Or.inl ⟨rfl, rfl⟩)) kA_bool (by decide +kernel) (by decide) (by decide) (by decide) ⟨Nat.le_of_ble_eq_true rfl, Nat.le_of_ble_eq_true rfl⟩ dX12_init_330 (fun y80 h80 H P V => ?_)
  have M := pM.to (gW Z y80) rfl M
  refine kp_r (Z := (gW Z y80)) (o := 137) (t := 176) Z rfl rfl M V P 12 67 (by decide) rfl pC12 fk12_67 (by decide +kernel) (Or.inr ⟨hnm, rfl, rfl⟩) lkF_X12_135 (fun a => ⟨rfl, rfl⟩) dX12_init_332 (fun y81 h81 H locs P V => ?_)
  have M := pM.to (gW Z y81) rfl M
  refine lv_aload_n hx hb dX12_init_335 rfl (lv_at hl 0 rfl) ?_
  refine lv_bipush (v := 40) hx hb dX12_init_336 (by decide) ?_
  refine kn_a (Z := (gW Z y81)) Z rfl rfl M V P hs (by omega) (ci := 14) (N := 40) (Or.inr (Or.inl ⟨rfl, rfl⟩)) kA_bool (by decide +kernel) (by decide) (by decide) (by decide) ⟨Nat.le_of_ble_eq_true rfl, Nat.le_of_ble_eq_true rfl⟩ dX12_init_338 (fun y82 h82 H P V => ?_)
  have M := pM.to (gW Z y82) rfl M
  refine kp_r (Z := (gW Z y82)) (o := 137) (t := 177) Z rfl rfl M V P 12 68 (by decide) rfl pC12 fk12_68 (by decide +kernel) (Or.inr ⟨hnm, rfl, rfl⟩) lkF_X12_138 (fun a => ⟨rfl, rfl⟩) dX12_init_340 (fun y83 h83 H locs P V => ?_)
  have M := pM.to (gW Z y83) rfl M
  refine lv_aload_n hx hb dX12_init_343 rfl (lv_at hl 0 rfl) ?_
  refine lv_bipush (v := 40) hx hb dX12_init_344 (by decide) ?_
  refine kn_a (Z := (gW Z y83)) Z rfl rfl M V P hs (by omega) (ci := 14) (N := 40) (Or.inr (Or.inl ⟨rfl, rfl⟩)) kA_bool (by decide +kernel) (by decide) (by decide) (by decide) ⟨Nat.le_of_ble_eq_true rfl, Nat.le_of_ble_eq_true rfl⟩ dX12_init_346 (fun y84 h84 H P V => ?_)
  have M := pM.to (gW Z y84) rfl M
  refine kp_r (Z := (gW Z y84)) (o := 137) (t := 178) Z rfl rfl M V P 12 69 (by decide) rfl pC12 fk12_69 (by decide +kernel) (Or.inr ⟨hnm, rfl, rfl⟩) lkF_X12_141 (fun a => ⟨rfl, rfl⟩) dX12_init_348 (fun y85 h85 H locs P V => ?_)
  have M := pM.to (gW Z y85) rfl M
  refine lv_aload_n hx hb dX12_init_351 rfl (lv_at hl 0 rfl) ?_
  refine lv_iconst (v := (-1)) hx hb dX12_init_352 (by decide) ?_
  refine kp_i (Z := (gW Z y85)) (o := 137) Z rfl rfl M V P 12 71 (by decide) rfl pC12 fk12_71 (by decide +kernel) (Or.inl rfl) lkF_X12_144 ⟨rfl, rfl⟩ dX12_init_353 (fun y86 h86 H locs P V => ?_)
  have M := pM.to (gW Z y86) rfl M
  refine lv_aload_n hx hb dX12_init_356 rfl (lv_at hl 0 rfl) ?_
  refine lv_iconst (v := 4) hx hb dX12_init_357 (by decide) ?_
  refine kn_a (Z := (gW Z y86)) Z rfl rfl M V P hs (by omega) (ci := 13) (N := 4) (Or.inl ⟨rfl, rfl⟩) kA_int (by decide +kernel) (by decide) (by decide) (by decide) ⟨Nat.le_of_ble_eq_true rfl, Nat.le_of_ble_eq_true rfl⟩ dX12_init_358 (fun y87 h87 H P V => ?_)
  have M := pM.to (gW Z y87) rfl M
  refine kp_r (Z := (gW Z y87)) (o := 137) (t := 179) Z rfl rfl M V P 12 72 (by decide) rfl pC12 fk12_72 (by decide +kernel) (Or.inr ⟨hnm, rfl, rfl⟩) lkF_X12_147 (fun a => ⟨rfl, rfl⟩) dX12_init_360 (fun y88 h88 H locs P V => ?_)
  have M := pM.to (gW Z y88) rfl M
  refine lv_aload_n hx hb dX12_init_363 rfl (lv_at hl 0 rfl) ?_
  refine lv_iconst (v := 4) hx hb dX12_init_364 (by decide) ?_
  refine kn_a (Z := (gW Z y88)) Z rfl rfl M V P hs (by omega) (ci := 13) (N := 4) (Or.inl ⟨rfl, rfl⟩) kA_int (by decide +kernel) (by decide) (by decide) (by decide) ⟨Nat.le_of_ble_eq_true rfl, Nat.le_of_ble_eq_true rfl⟩ dX12_init_365 (fun y89 h89 H P V => ?_)
  have M := pM.to (gW Z y89) rfl M
  refine kp_r (Z := (gW Z y89)) (o := 137) (t := 180) Z rfl rfl M V P 12 73 (by decide) rfl pC12 fk12_73 (by decide +kernel) (Or.inr ⟨hnm, rfl, rfl⟩) lkF_X12_150 (fun a => ⟨rfl, rfl⟩) dX12_init_367 (fun y90 h90 H locs P V => ?_)
  have M := pM.to (gW Z y90) rfl M
  refine lv_aload_n hx hb dX12_init_370 rfl (lv_at hl 0 rfl) ?_
  refine lv_bipush (v := 40) hx hb dX12_init_371 (by decide) ?_
  refine kn_a (Z := (gW Z y90)) Z rfl rfl M V P hs (by omega) (ci := 13) (N := 40) (Or.inl ⟨rfl, rfl⟩) kA_int (by decide +kernel) (by decide) (by decide) (by decide) ⟨Nat.le_of_ble_eq_true rfl, Nat.le_of_ble_eq_true rfl⟩ dX12_init_373 (fun y91 h91 H P V => ?_)
  have M := pM.to (gW Z y91) rfl M
  refine kp_r (Z := (gW Z y91)) (o := 137) (t := 181) Z rfl rfl M V P 12 74 (by decide) rfl pC12 fk12_74 (by decide +kernel) (Or.inr ⟨hnm, rfl, rfl⟩) lkF_X12_153 (fun a => ⟨rfl, rfl⟩) dX12_init_375 (fun y92 h92 H locs P V => ?_)
  have M := pM.to (gW Z y92) rfl M
  refine lv_aload_n hx hb dX12_init_378 rfl (lv_at hl 0 rfl) ?_
  refine lv_bipush (v := 40) hx hb dX12_init_379 (by decide) ?_
  refine kn_a (Z := (gW Z y92)) Z rfl rfl M V P hs (by omega) (ci := 13) (N := 40) (Or.inl ⟨rfl, rfl⟩) kA_int (by decide +kernel) (by decide) (by decide) (by decide) ⟨Nat.le_of_ble_eq_true rfl, Nat.le_of_ble_eq_true rfl⟩ dX12_init_381 (fun y93 h93 H P V => ?_)
  have M := pM.to (gW Z y93) rfl M
  refine kp_r (Z := (gW Z y93)) (o := 137) (t := 182) Z rfl rfl M V P 12 75 (by decide) rfl pC12 fk12_75 (by decide +kernel) (Or.inr ⟨hnm, rfl, rfl⟩) lkF_X12_156 (fun a => ⟨rfl, rfl⟩) dX12_init_383 (fun y94 h94 H locs P V => ?_)
  have M := pM.to (gW Z y94) rfl M
  refine lv_aload_n hx hb dX12_init_386 rfl (lv_at hl 0 rfl) ?_
  refine lv_sipush (v := 480) hx hb dX12_init_387 (by decide) ?_
  refine kn_a (Z := (gW Z y94)) Z rfl rfl M V P hs (by omega) (ci := 13) (N := 480) (Or.inl ⟨rfl, rfl⟩) kA_int (by decide +kernel) (by decide) (by decide) (by decide) ⟨Nat.le_of_ble_eq_true rfl, Nat.le_of_ble_eq_true rfl⟩ dX12_init_390 (fun y95 h95 H P V => ?_)
  have M := pM.to (gW Z y95) rfl M
  refine kp_r (Z := (gW Z y95)) (o := 137) (t := 183) Z rfl rfl M V P 12 76 (by decide) rfl pC12 fk12_76 (by decide +kernel) (Or.inr ⟨hnm, rfl, rfl⟩) lkF_X12_159 (fun a => ⟨rfl, rfl⟩) dX12_init_392 (fun y96 h96 H locs P V => ?_)
  have M := pM.to (gW Z y96) rfl M
  refine lv_aload_n hx hb dX12_init_395 rfl (lv_at hl 0 rfl) ?_
  refine lv_bipush (v := 40) hx hb dX12_init_396 (by decide) ?_
  refine kn_a (Z := (gW Z y96)) Z rfl rfl M V P hs (by omega) (ci := 13) (N := 40) (Or.inl ⟨rfl, rfl⟩) kA_int (by decide +kernel) (by decide) (by decide) (by decide) ⟨Nat.le_of_ble_eq_true rfl, Nat.le_of_ble_eq_true rfl⟩ dX12_init_398 (fun y97 h97 H P V => ?_)
  have M := pM.to (gW Z y97) rfl M
  refine kp_r (Z := (gW Z y97)) (o := 137) (t := 184) Z rfl rfl M V P 12 77 (by decide) rfl pC12 fk12_77 (by decide +kernel) (Or.inr ⟨hnm, rfl, rfl⟩) lkF_X12_162 (fun a => ⟨rfl, rfl⟩) dX12_init_400 (fun y98 h98 H locs P V => ?_)
  have M := pM.to (gW Z y98) rfl M
  refine lv_aload_n hx hb dX12_init_403 rfl (lv_at hl 0 rfl) ?_
  refine lv_bipush (v := 40) hx hb dX12_init_404 (by decide) ?_
  refine kn_a (Z := (gW Z y98)) Z rfl rfl M V P hs (by omega) (ci := 13) (N := 40) (Or.inl ⟨rfl, rfl⟩) kA_int (by decide +kernel) (by decide) (by decide) (by decide) ⟨Nat.le_of_ble_eq_true rfl, Nat.le_of_ble_eq_true rfl⟩ dX12_init_406 (fun y99 h99 H P V => ?_)
  have M := pM.to (gW Z y99) rfl M
  refine kp_r (Z := (gW Z y99)) (o := 137) (t := 185) Z rfl rfl M V P 12 78 (by decide) rfl pC12 fk12_78 (by decide +kernel) (Or.inr ⟨hnm, rfl, rfl⟩) lkF_X12_165 (fun a => ⟨rfl, rfl⟩) dX12_init_408 (fun y100 h100 H locs P V => ?_)
  have M := pM.to (gW Z y100) rfl M
  refine lv_aload_n hx hb dX12_init_411 rfl (lv_at hl 0 rfl) ?_
  refine lv_ldc hx hb M.1.2.2.2.1 (pWords M kc_X12) dX12_init_412 ?_
  refine kn_a (Z := (gW Z y100)) Z rfl rfl M V P hs (by omega) (ci := 13) (N := 77000) (Or.inl ⟨rfl, rfl⟩) kA_int (by decide +kernel) (by decide) (by decide) (by decide) ⟨Nat.le_of_ble_eq_true rfl, Nat.le_of_ble_eq_true rfl⟩ dX12_init_414 (fun y101 h101 H P V => ?_)
  have M := pM.to (gW Z y101) rfl M
  refine kp_r (Z := (gW Z y101)) (o := 137) (t := 186) Z rfl rfl M V P 12 80 (by decide) rfl pC12 fk12_80 (by decide +kernel) (Or.inr ⟨hnm, rfl, rfl⟩) lkF_X12_169 (fun a => ⟨rfl, rfl⟩) dX12_init_416 (fun y102 h102 H locs P V => ?_)
  have M := pM.to (gW Z y102) rfl M
  refine lv_aload_n hx hb dX12_init_419 rfl (lv_at hl 0 rfl) ?_
  refine lv_ldc hx hb M.1.2.2.2.1 (pWords M kc_X12) dX12_init_420 ?_
  refine kn_a (Z := (gW Z y102)) Z rfl rfl M V P hs (by omega) (ci := 13) (N := 77000) (Or.inl ⟨rfl, rfl⟩) kA_int (by decide +kernel) (by decide) (by decide) (by decide) ⟨Nat.le_of_ble_eq_true rfl, Nat.le_of_ble_eq_true rfl⟩ dX12_init_422 (fun y103 h103 H P V => ?_)
  have M := pM.to (gW Z y103) rfl M
  refine kp_r (Z := (gW Z y103)) (o := 137) (t := 187) Z rfl rfl M V P 12 81 (by decide) rfl pC12 fk12_81 (by decide +kernel) (Or.inr ⟨hnm, rfl, rfl⟩) lkF_X12_172 (fun a => ⟨rfl, rfl⟩) dX12_init_424 (fun y104 h104 H locs P V => ?_)
  have M := pM.to (gW Z y104) rfl M
  refine lv_iconst (v := 0) hx hb dX12_init_427 (by decide) ?_
  refine lv_istore_n (lv' := [(1, .int (0 : Int32)), (0, .ref (zB Z + 137))]) hx hb dX12_init_428 rfl hl (by decide) rfl (fun ls hl => ?_)
  refine lv_iload_n hx hb dX12_init_429 rfl (lv_at hl 0 rfl) ?_
  refine lv_bipush (v := 9) hx hb dX12_init_430 (by decide) ?_
  refine lv_icmp_ge (tgt := 448) hx hb dX12_init_432 (by decide) (fun c9 => absurd c9 (by decide)) (fun _ => ?_)
  refine lv_aload_n hx hb dX12_init_435 rfl (lv_at hl 1 rfl) ?_
  refine pg_r (Z := (gW Z y104)) M V 12 35 (P.is (by decide) rfl) pC12 fk12_35 (P.ref (o := 137) (k := 35) (t := 151) (by decide +kernel)) lkF_X12_54 dX12_init_436 ?_
  refine lv_iload_n hx hb dX12_init_439 rfl (lv_at hl 0 rfl) ?_
  refine lv_iload_n hx hb dX12_init_440 rfl (lv_at hl 0 rfl) ?_
  refine ks_i (Z := (gW Z y104)) (o := 151) Z rfl rfl M V P (by decide) rfl (by decide +kernel) (pi_in (by decide)) dX12_init_441 (fun y105 h105 H locs P V => ?_)
  have M := pM.to (gW Z y105) rfl M
  refine lv_iinc (v := (1 : Int32)) (lv' := [(1, .int (1 : Int32)), (0, .ref (zB Z + 137))]) hx hb dX12_init_442 hl (k := 0) rfl (by decide) (by decide) rfl (fun ls hl => ?_)
  refine lv_goto (tgt := 429) hx hb dX12_init_445 (by decide) ?_
  refine lv_iload_n hx hb dX12_init_429 rfl (lv_at hl 0 rfl) ?_
  refine lv_bipush (v := 9) hx hb dX12_init_430 (by decide) ?_
  refine lv_icmp_ge (tgt := 448) hx hb dX12_init_432 (by decide) (fun c9 => absurd c9 (by decide)) (fun _ => ?_)
  refine lv_aload_n hx hb dX12_init_435 rfl (lv_at hl 1 rfl) ?_
  refine pg_r (Z := (gW Z y105)) M V 12 35 (P.is (by decide) rfl) pC12 fk12_35 (P.ref (o := 137) (k := 35) (t := 151) (by decide +kernel)) lkF_X12_54 dX12_init_436 ?_
  refine lv_iload_n hx hb dX12_init_439 rfl (lv_at hl 0 rfl) ?_
  refine lv_iload_n hx hb dX12_init_440 rfl (lv_at hl 0 rfl) ?_
  refine ks_i (Z := (gW Z y105)) (o := 151) Z rfl rfl M V P (by decide) rfl (by decide +kernel) (pi_in (by decide)) dX12_init_441 (fun y106 h106 H locs P V => ?_)
  have M := pM.to (gW Z y106) rfl M
  refine lv_iinc (v := (2 : Int32)) (lv' := [(1, .int (2 : Int32)), (0, .ref (zB Z + 137))]) hx hb dX12_init_442 hl (k := 0) rfl (by decide) (by decide) rfl (fun ls hl => ?_)
  refine lv_goto (tgt := 429) hx hb dX12_init_445 (by decide) ?_
  refine lv_iload_n hx hb dX12_init_429 rfl (lv_at hl 0 rfl) ?_
  refine lv_bipush (v := 9) hx hb dX12_init_430 (by decide) ?_
  refine lv_icmp_ge (tgt := 448) hx hb dX12_init_432 (by decide) (fun c9 => absurd c9 (by decide)) (fun _ => ?_)
  refine lv_aload_n hx hb dX12_init_435 rfl (lv_at hl 1 rfl) ?_
  refine pg_r (Z := (gW Z y106)) M V 12 35 (P.is (by decide) rfl) pC12 fk12_35 (P.ref (o := 137) (k := 35) (t := 151) (by decide +kernel)) lkF_X12_54 dX12_init_436 ?_
  refine lv_iload_n hx hb dX12_init_439 rfl (lv_at hl 0 rfl) ?_
  refine lv_iload_n hx hb dX12_init_440 rfl (lv_at hl 0 rfl) ?_
  refine ks_i (Z := (gW Z y106)) (o := 151) Z rfl rfl M V P (by decide) rfl (by decide +kernel) (pi_in (by decide)) dX12_init_441 (fun y107 h107 H locs P V => ?_)
  have M := pM.to (gW Z y107) rfl M
  refine lv_iinc (v := (3 : Int32)) (lv' := [(1, .int (3 : Int32)), (0, .ref (zB Z + 137))]) hx hb dX12_init_442 hl (k := 0) rfl (by decide) (by decide) rfl (fun ls hl => ?_)
  refine lv_goto (tgt := 429) hx hb dX12_init_445 (by decide) ?_
  refine lv_iload_n hx hb dX12_init_429 rfl (lv_at hl 0 rfl) ?_
  refine lv_bipush (v := 9) hx hb dX12_init_430 (by decide) ?_
  refine lv_icmp_ge (tgt := 448) hx hb dX12_init_432 (by decide) (fun c9 => absurd c9 (by decide)) (fun _ => ?_)
  refine lv_aload_n hx hb dX12_init_435 rfl (lv_at hl 1 rfl) ?_
  refine pg_r (Z := (gW Z y107)) M V 12 35 (P.is (by decide) rfl) pC12 fk12_35 (P.ref (o := 137) (k := 35) (t := 151) (by decide +kernel)) lkF_X12_54 dX12_init_436 ?_
  refine lv_iload_n hx hb dX12_init_439 rfl (lv_at hl 0 rfl) ?_
  refine lv_iload_n hx hb dX12_init_440 rfl (lv_at hl 0 rfl) ?_
  refine ks_i (Z := (gW Z y107)) (o := 151) Z rfl rfl M V P (by decide) rfl (by decide +kernel) (pi_in (by decide)) dX12_init_441 (fun y108 h108 H locs P V => ?_)
  have M := pM.to (gW Z y108) rfl M
  refine lv_iinc (v := (4 : Int32)) (lv' := [(1, .int (4 : Int32)), (0, .ref (zB Z + 137))]) hx hb dX12_init_442 hl (k := 0) rfl (by decide) (by decide) rfl (fun ls hl => ?_)
  refine lv_goto (tgt := 429) hx hb dX12_init_445 (by decide) ?_
  refine lv_iload_n hx hb dX12_init_429 rfl (lv_at hl 0 rfl) ?_
  refine lv_bipush (v := 9) hx hb dX12_init_430 (by decide) ?_
  refine lv_icmp_ge (tgt := 448) hx hb dX12_init_432 (by decide) (fun c9 => absurd c9 (by decide)) (fun _ => ?_)
  refine lv_aload_n hx hb dX12_init_435 rfl (lv_at hl 1 rfl) ?_
  refine pg_r (Z := (gW Z y108)) M V 12 35 (P.is (by decide) rfl) pC12 fk12_35 (P.ref (o := 137) (k := 35) (t := 151) (by decide +kernel)) lkF_X12_54 dX12_init_436 ?_
  refine lv_iload_n hx hb dX12_init_439 rfl (lv_at hl 0 rfl) ?_
  refine lv_iload_n hx hb dX12_init_440 rfl (lv_at hl 0 rfl) ?_
  refine ks_i (Z := (gW Z y108)) (o := 151) Z rfl rfl M V P (by decide) rfl (by decide +kernel) (pi_in (by decide)) dX12_init_441 (fun y109 h109 H locs P V => ?_)
  have M := pM.to (gW Z y109) rfl M
  refine lv_iinc (v := (5 : Int32)) (lv' := [(1, .int (5 : Int32)), (0, .ref (zB Z + 137))]) hx hb dX12_init_442 hl (k := 0) rfl (by decide) (by decide) rfl (fun ls hl => ?_)
  refine lv_goto (tgt := 429) hx hb dX12_init_445 (by decide) ?_
  refine lv_iload_n hx hb dX12_init_429 rfl (lv_at hl 0 rfl) ?_
  refine lv_bipush (v := 9) hx hb dX12_init_430 (by decide) ?_
  refine lv_icmp_ge (tgt := 448) hx hb dX12_init_432 (by decide) (fun c9 => absurd c9 (by decide)) (fun _ => ?_)
  refine lv_aload_n hx hb dX12_init_435 rfl (lv_at hl 1 rfl) ?_
  refine pg_r (Z := (gW Z y109)) M V 12 35 (P.is (by decide) rfl) pC12 fk12_35 (P.ref (o := 137) (k := 35) (t := 151) (by decide +kernel)) lkF_X12_54 dX12_init_436 ?_
  refine lv_iload_n hx hb dX12_init_439 rfl (lv_at hl 0 rfl) ?_
  refine lv_iload_n hx hb dX12_init_440 rfl (lv_at hl 0 rfl) ?_
  refine ks_i (Z := (gW Z y109)) (o := 151) Z rfl rfl M V P (by decide) rfl (by decide +kernel) (pi_in (by decide)) dX12_init_441 (fun y110 h110 H locs P V => ?_)
  have M := pM.to (gW Z y110) rfl M
  refine lv_iinc (v := (6 : Int32)) (lv' := [(1, .int (6 : Int32)), (0, .ref (zB Z + 137))]) hx hb dX12_init_442 hl (k := 0) rfl (by decide) (by decide) rfl (fun ls hl => ?_)
  refine lv_goto (tgt := 429) hx hb dX12_init_445 (by decide) ?_
  refine lv_iload_n hx hb dX12_init_429 rfl (lv_at hl 0 rfl) ?_
  refine lv_bipush (v := 9) hx hb dX12_init_430 (by decide) ?_
  refine lv_icmp_ge (tgt := 448) hx hb dX12_init_432 (by decide) (fun c9 => absurd c9 (by decide)) (fun _ => ?_)
  refine lv_aload_n hx hb dX12_init_435 rfl (lv_at hl 1 rfl) ?_
  refine pg_r (Z := (gW Z y110)) M V 12 35 (P.is (by decide) rfl) pC12 fk12_35 (P.ref (o := 137) (k := 35) (t := 151) (by decide +kernel)) lkF_X12_54 dX12_init_436 ?_
  refine lv_iload_n hx hb dX12_init_439 rfl (lv_at hl 0 rfl) ?_
  refine lv_iload_n hx hb dX12_init_440 rfl (lv_at hl 0 rfl) ?_
  refine ks_i (Z := (gW Z y110)) (o := 151) Z rfl rfl M V P (by decide) rfl (by decide +kernel) (pi_in (by decide)) dX12_init_441 (fun y111 h111 H locs P V => ?_)
  have M := pM.to (gW Z y111) rfl M
  refine lv_iinc (v := (7 : Int32)) (lv' := [(1, .int (7 : Int32)), (0, .ref (zB Z + 137))]) hx hb dX12_init_442 hl (k := 0) rfl (by decide) (by decide) rfl (fun ls hl => ?_)
  refine lv_goto (tgt := 429) hx hb dX12_init_445 (by decide) ?_
  refine lv_iload_n hx hb dX12_init_429 rfl (lv_at hl 0 rfl) ?_
  refine lv_bipush (v := 9) hx hb dX12_init_430 (by decide) ?_
  refine lv_icmp_ge (tgt := 448) hx hb dX12_init_432 (by decide) (fun c9 => absurd c9 (by decide)) (fun _ => ?_)
  refine lv_aload_n hx hb dX12_init_435 rfl (lv_at hl 1 rfl) ?_
  refine pg_r (Z := (gW Z y111)) M V 12 35 (P.is (by decide) rfl) pC12 fk12_35 (P.ref (o := 137) (k := 35) (t := 151) (by decide +kernel)) lkF_X12_54 dX12_init_436 ?_
  refine lv_iload_n hx hb dX12_init_439 rfl (lv_at hl 0 rfl) ?_
  refine lv_iload_n hx hb dX12_init_440 rfl (lv_at hl 0 rfl) ?_
  refine ks_i (Z := (gW Z y111)) (o := 151) Z rfl rfl M V P (by decide) rfl (by decide +kernel) (pi_in (by decide)) dX12_init_441 (fun y112 h112 H locs P V => ?_)
  have M := pM.to (gW Z y112) rfl M
  refine lv_iinc (v := (8 : Int32)) (lv' := [(1, .int (8 : Int32)), (0, .ref (zB Z + 137))]) hx hb dX12_init_442 hl (k := 0) rfl (by decide) (by decide) rfl (fun ls hl => ?_)
  refine lv_goto (tgt := 429) hx hb dX12_init_445 (by decide) ?_
  refine lv_iload_n hx hb dX12_init_429 rfl (lv_at hl 0 rfl) ?_
  refine lv_bipush (v := 9) hx hb dX12_init_430 (by decide) ?_
  refine lv_icmp_ge (tgt := 448) hx hb dX12_init_432 (by decide) (fun c9 => absurd c9 (by decide)) (fun _ => ?_)
  refine lv_aload_n hx hb dX12_init_435 rfl (lv_at hl 1 rfl) ?_
  refine pg_r (Z := (gW Z y112)) M V 12 35 (P.is (by decide) rfl) pC12 fk12_35 (P.ref (o := 137) (k := 35) (t := 151) (by decide +kernel)) lkF_X12_54 dX12_init_436 ?_
  refine lv_iload_n hx hb dX12_init_439 rfl (lv_at hl 0 rfl) ?_
  refine lv_iload_n hx hb dX12_init_440 rfl (lv_at hl 0 rfl) ?_
  refine ks_i (Z := (gW Z y112)) (o := 151) Z rfl rfl M V P (by decide) rfl (by decide +kernel) (pi_in (by decide)) dX12_init_441 (fun y113 h113 H locs P V => ?_)
  have M := pM.to (gW Z y113) rfl M
  refine lv_iinc (v := (9 : Int32)) (lv' := [(1, .int (9 : Int32)), (0, .ref (zB Z + 137))]) hx hb dX12_init_442 hl (k := 0) rfl (by decide) (by decide) rfl (fun ls hl => ?_)
  refine lv_goto (tgt := 429) hx hb dX12_init_445 (by decide) ?_
  refine lv_iload_n hx hb dX12_init_429 rfl (lv_at hl 0 rfl) ?_
  refine lv_bipush (v := 9) hx hb dX12_init_430 (by decide) ?_
  refine lv_icmp_ge (tgt := 448) hx hb dX12_init_432 (by decide) (fun _ => ?_) (fun c9 => absurd (show _ from by decide) c9)
  exact pe_v (Z := Z) (Z' := (gW Z y113)) M V rfl rfl hr hlk P ⟨Nat.le_of_ble_eq_true rfl, Nat.le_of_ble_eq_true rfl⟩ dX12_init_448
