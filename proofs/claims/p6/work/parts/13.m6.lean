theorem dX12_tellWindow_0 : decode cX12_tellWindow 0 = .ok (.sipush 1000, 3) := by decide +kernel
theorem dX12_tellWindow_3 : decode cX12_tellWindow 3 = .ok (.iload_n 1, 1) := by decide +kernel
theorem dX12_tellWindow_4 : decode cX12_tellWindow 4 = .ok (.iadd, 1) := by decide +kernel
theorem dX12_tellWindow_5 : decode cX12_tellWindow 5 = .ok (.istore 4, 2) := by decide +kernel
theorem dX12_tellWindow_7 : decode cX12_tellWindow 7 = .ok (.iload_n 1, 1) := by decide +kernel
theorem dX12_tellWindow_8 : decode cX12_tellWindow 8 = .ok (.bipush 8, 2) := by decide +kernel
theorem dX12_tellWindow_10 : decode cX12_tellWindow 10 = .ok (.if_icmp .ne 7, 3) := by decide +kernel
theorem dX12_tellWindow_13 : decode cX12_tellWindow 13 = .ok (.iconst 0, 1) := by decide +kernel
theorem dX12_tellWindow_14 : decode cX12_tellWindow 14 = .ok (.goto 5, 3) := by decide +kernel
theorem dX12_tellWindow_17 : decode cX12_tellWindow 17 = .ok (.bipush 12, 2) := by decide +kernel
theorem dX12_tellWindow_19 : decode cX12_tellWindow 19 = .ok (.istore 5, 2) := by decide +kernel
theorem dX12_tellWindow_21 : decode cX12_tellWindow 21 = .ok (.aload_n 0, 1) := by decide +kernel
theorem dX12_tellWindow_22 : decode cX12_tellWindow 22 = .ok (.getfield 42, 3) := by decide +kernel
theorem dX12_tellWindow_25 : decode cX12_tellWindow 25 = .ok (.iload_n 1, 1) := by decide +kernel
theorem dX12_tellWindow_26 : decode cX12_tellWindow 26 = .ok (.iload_n 2, 1) := by decide +kernel
theorem dX12_tellWindow_27 : decode cX12_tellWindow 27 = .ok (.iastore, 1) := by decide +kernel
theorem dX12_tellWindow_28 : decode cX12_tellWindow 28 = .ok (.aload_n 0, 1) := by decide +kernel
theorem dX12_tellWindow_29 : decode cX12_tellWindow 29 = .ok (.getfield 45, 3) := by decide +kernel
theorem dX12_tellWindow_32 : decode cX12_tellWindow 32 = .ok (.iload_n 1, 1) := by decide +kernel
theorem dX12_tellWindow_33 : decode cX12_tellWindow 33 = .ok (.iload_n 3, 1) := by decide +kernel
theorem dX12_tellWindow_34 : decode cX12_tellWindow 34 = .ok (.iastore, 1) := by decide +kernel
theorem dX12_tellWindow_35 : decode cX12_tellWindow 35 = .ok (.aload_n 0, 1) := by decide +kernel
theorem dX12_tellWindow_36 : decode cX12_tellWindow 36 = .ok (.getfield 60, 3) := by decide +kernel
theorem dX12_tellWindow_39 : decode cX12_tellWindow 39 = .ok (.iload_n 1, 1) := by decide +kernel
theorem dX12_tellWindow_40 : decode cX12_tellWindow 40 = .ok (.iconst 1, 1) := by decide +kernel
theorem dX12_tellWindow_41 : decode cX12_tellWindow 41 = .ok (.bastore, 1) := by decide +kernel
theorem dX12_tellWindow_42 : decode cX12_tellWindow 42 = .ok (.aload_n 0, 1) := by decide +kernel
theorem dX12_tellWindow_43 : decode cX12_tellWindow 43 = .ok (.getfield 66, 3) := by decide +kernel
theorem dX12_tellWindow_46 : decode cX12_tellWindow 46 = .ok (.iload_n 1, 1) := by decide +kernel
theorem dX12_tellWindow_47 : decode cX12_tellWindow 47 = .ok (.iconst 1, 1) := by decide +kernel
theorem dX12_tellWindow_48 : decode cX12_tellWindow 48 = .ok (.bastore, 1) := by decide +kernel
theorem dX12_tellWindow_49 : decode cX12_tellWindow 49 = .ok (.aload_n 0, 1) := by decide +kernel
theorem dX12_tellWindow_50 : decode cX12_tellWindow 50 = .ok (.iload 4, 2) := by decide +kernel
theorem dX12_tellWindow_52 : decode cX12_tellWindow 52 = .ok (.invokevirtual 324, 3) := by decide +kernel
theorem dX12_tellWindow_55 : decode cX12_tellWindow 55 = .ok (.aload_n 0, 1) := by decide +kernel
theorem dX12_tellWindow_56 : decode cX12_tellWindow 56 = .ok (.getfield 26, 3) := by decide +kernel
theorem dX12_tellWindow_59 : decode cX12_tellWindow 59 = .ok (.iload_n 1, 1) := by decide +kernel
theorem dX12_tellWindow_60 : decode cX12_tellWindow 60 = .ok (.if_icmp .ne 27, 3) := by decide +kernel
theorem dX12_tellWindow_63 : decode cX12_tellWindow 63 = .ok (.aload_n 0, 1) := by decide +kernel
theorem dX12_tellWindow_64 : decode cX12_tellWindow 64 = .ok (.getfield 90, 3) := by decide +kernel
theorem dX12_tellWindow_67 : decode cX12_tellWindow 67 = .ok (.iconst (-1), 1) := by decide +kernel
theorem dX12_tellWindow_68 : decode cX12_tellWindow 68 = .ok (.if_icmp .ne 19, 3) := by decide +kernel
theorem dX12_tellWindow_71 : decode cX12_tellWindow 71 = .ok (.aload_n 0, 1) := by decide +kernel
theorem dX12_tellWindow_72 : decode cX12_tellWindow 72 = .ok (.getfield 48, 3) := by decide +kernel
theorem dX12_tellWindow_75 : decode cX12_tellWindow 75 = .ok (.iload_n 1, 1) := by decide +kernel
theorem dX12_tellWindow_76 : decode cX12_tellWindow 76 = .ok (.dup2, 1) := by decide +kernel
theorem dX12_tellWindow_77 : decode cX12_tellWindow 77 = .ok (.iaload, 1) := by decide +kernel
theorem dX12_tellWindow_78 : decode cX12_tellWindow 78 = .ok (.bipush 10, 2) := by decide +kernel
theorem dX12_tellWindow_80 : decode cX12_tellWindow 80 = .ok (.aload_n 0, 1) := by decide +kernel
theorem dX12_tellWindow_81 : decode cX12_tellWindow 81 = .ok (.getfield 214, 3) := by decide +kernel
theorem dX12_tellWindow_84 : decode cX12_tellWindow 84 = .ok (.imul, 1) := by decide +kernel
theorem dX12_tellWindow_85 : decode cX12_tellWindow 85 = .ok (.iadd, 1) := by decide +kernel
theorem dX12_tellWindow_86 : decode cX12_tellWindow 86 = .ok (.iastore, 1) := by decide +kernel
theorem dX12_tellWindow_87 : decode cX12_tellWindow 87 = .ok (.aload_n 0, 1) := by decide +kernel
theorem dX12_tellWindow_88 : decode cX12_tellWindow 88 = .ok (.getfield 48, 3) := by decide +kernel
theorem dX12_tellWindow_91 : decode cX12_tellWindow 91 = .ok (.iload_n 1, 1) := by decide +kernel
theorem dX12_tellWindow_92 : decode cX12_tellWindow 92 = .ok (.aload_n 0, 1) := by decide +kernel
theorem dX12_tellWindow_93 : decode cX12_tellWindow 93 = .ok (.getfield 48, 3) := by decide +kernel
theorem dX12_tellWindow_96 : decode cX12_tellWindow 96 = .ok (.iload_n 1, 1) := by decide +kernel
theorem dX12_tellWindow_97 : decode cX12_tellWindow 97 = .ok (.iaload, 1) := by decide +kernel
theorem dX12_tellWindow_98 : decode cX12_tellWindow 98 = .ok (.iconst 0, 1) := by decide +kernel
theorem dX12_tellWindow_99 : decode cX12_tellWindow 99 = .ok (.iconst 0, 1) := by decide +kernel
theorem dX12_tellWindow_100 : decode cX12_tellWindow 100 = .ok (.aload_n 0, 1) := by decide +kernel
theorem dX12_tellWindow_101 : decode cX12_tellWindow 101 = .ok (.getfield 51, 3) := by decide +kernel
theorem dX12_tellWindow_104 : decode cX12_tellWindow 104 = .ok (.iload_n 1, 1) := by decide +kernel
theorem dX12_tellWindow_105 : decode cX12_tellWindow 105 = .ok (.iaload, 1) := by decide +kernel
theorem dX12_tellWindow_106 : decode cX12_tellWindow 106 = .ok (.iload_n 3, 1) := by decide +kernel
theorem dX12_tellWindow_107 : decode cX12_tellWindow 107 = .ok (.iload 5, 2) := by decide +kernel
theorem dX12_tellWindow_109 : decode cX12_tellWindow 109 = .ok (.isub, 1) := by decide +kernel
theorem dX12_tellWindow_110 : decode cX12_tellWindow 110 = .ok (.isub, 1) := by decide +kernel
theorem dX12_tellWindow_111 : decode cX12_tellWindow 111 = .ok (.invokestatic 182, 3) := by decide +kernel
theorem dX12_tellWindow_114 : decode cX12_tellWindow 114 = .ok (.invokestatic 327, 3) := by decide +kernel
theorem dX12_tellWindow_117 : decode cX12_tellWindow 117 = .ok (.iastore, 1) := by decide +kernel
theorem dX12_tellWindow_118 : decode cX12_tellWindow 118 = .ok (.iload_n 1, 1) := by decide +kernel
theorem dX12_tellWindow_119 : decode cX12_tellWindow 119 = .ok (.bipush 8, 2) := by decide +kernel
theorem dX12_tellWindow_121 : decode cX12_tellWindow 121 = .ok (.if_icmp .eq 142, 3) := by decide +kernel
theorem dX12_tellWindow_124 : decode cX12_tellWindow 124 = .ok (.aload_n 0, 1) := by decide +kernel
theorem dX12_tellWindow_125 : decode cX12_tellWindow 125 = .ok (.aload_n 0, 1) := by decide +kernel
theorem dX12_tellWindow_126 : decode cX12_tellWindow 126 = .ok (.getfield 192, 3) := by decide +kernel
theorem dX12_tellWindow_129 : decode cX12_tellWindow 129 = .ok (.aload_n 0, 1) := by decide +kernel
theorem dX12_tellWindow_130 : decode cX12_tellWindow 130 = .ok (.getfield 195, 3) := by decide +kernel
theorem dX12_tellWindow_133 : decode cX12_tellWindow 133 = .ok (.aload_n 0, 1) := by decide +kernel
theorem dX12_tellWindow_134 : decode cX12_tellWindow 134 = .ok (.getfield 36, 3) := by decide +kernel
theorem dX12_tellWindow_137 : decode cX12_tellWindow 137 = .ok (.iload_n 1, 1) := by decide +kernel
theorem dX12_tellWindow_138 : decode cX12_tellWindow 138 = .ok (.iaload, 1) := by decide +kernel
theorem dX12_tellWindow_139 : decode cX12_tellWindow 139 = .ok (.aload_n 0, 1) := by decide +kernel
theorem dX12_tellWindow_140 : decode cX12_tellWindow 140 = .ok (.getfield 39, 3) := by decide +kernel
theorem dX12_tellWindow_143 : decode cX12_tellWindow 143 = .ok (.iload_n 1, 1) := by decide +kernel
theorem dX12_tellWindow_144 : decode cX12_tellWindow 144 = .ok (.iaload, 1) := by decide +kernel
theorem dX12_tellWindow_145 : decode cX12_tellWindow 145 = .ok (.aload_n 0, 1) := by decide +kernel
theorem dX12_tellWindow_146 : decode cX12_tellWindow 146 = .ok (.getfield 36, 3) := by decide +kernel
theorem dX12_tellWindow_149 : decode cX12_tellWindow 149 = .ok (.iload_n 1, 1) := by decide +kernel
theorem dX12_tellWindow_150 : decode cX12_tellWindow 150 = .ok (.iaload, 1) := by decide +kernel
theorem dX12_tellWindow_151 : decode cX12_tellWindow 151 = .ok (.iload_n 2, 1) := by decide +kernel
theorem dX12_tellWindow_152 : decode cX12_tellWindow 152 = .ok (.iadd, 1) := by decide +kernel
theorem dX12_tellWindow_153 : decode cX12_tellWindow 153 = .ok (.aload_n 0, 1) := by decide +kernel
theorem dX12_tellWindow_154 : decode cX12_tellWindow 154 = .ok (.getfield 39, 3) := by decide +kernel
theorem dX12_tellWindow_157 : decode cX12_tellWindow 157 = .ok (.iload_n 1, 1) := by decide +kernel
theorem dX12_tellWindow_158 : decode cX12_tellWindow 158 = .ok (.iaload, 1) := by decide +kernel
theorem dX12_tellWindow_159 : decode cX12_tellWindow 159 = .ok (.bipush 12, 2) := by decide +kernel
theorem dX12_tellWindow_161 : decode cX12_tellWindow 161 = .ok (.iadd, 1) := by decide +kernel
theorem dX12_tellWindow_162 : decode cX12_tellWindow 162 = .ok (.invokevirtual 228, 3) := by decide +kernel
theorem dX12_tellWindow_165 : decode cX12_tellWindow 165 = .ok (.istore 6, 2) := by decide +kernel
theorem dX12_tellWindow_167 : decode cX12_tellWindow 167 = .ok (.aload_n 0, 1) := by decide +kernel
theorem dX12_tellWindow_168 : decode cX12_tellWindow 168 = .ok (.getfield 26, 3) := by decide +kernel
theorem dX12_tellWindow_171 : decode cX12_tellWindow 171 = .ok (.iload_n 1, 1) := by decide +kernel
theorem dX12_tellWindow_172 : decode cX12_tellWindow 172 = .ok (.if_icmp .ne 28, 3) := by decide +kernel
theorem dX12_tellWindow_175 : decode cX12_tellWindow 175 = .ok (.aload_n 0, 1) := by decide +kernel
theorem dX12_tellWindow_176 : decode cX12_tellWindow 176 = .ok (.getfield 202, 3) := by decide +kernel
theorem dX12_tellWindow_179 : decode cX12_tellWindow 179 = .ok (.ifCond .eq 21, 3) := by decide +kernel
theorem dX12_tellWindow_182 : decode cX12_tellWindow 182 = .ok (.iload 6, 2) := by decide +kernel
theorem dX12_tellWindow_184 : decode cX12_tellWindow 184 = .ok (.ifCond .eq 16, 3) := by decide +kernel
theorem dX12_tellWindow_187 : decode cX12_tellWindow 187 = .ok (.aload_n 0, 1) := by decide +kernel
theorem dX12_tellWindow_188 : decode cX12_tellWindow 188 = .ok (.getfield 255, 3) := by decide +kernel
theorem dX12_tellWindow_191 : decode cX12_tellWindow 191 = .ok (.ifCond .ne 9, 3) := by decide +kernel
theorem dX12_tellWindow_194 : decode cX12_tellWindow 194 = .ok (.aload_n 0, 1) := by decide +kernel
theorem dX12_tellWindow_195 : decode cX12_tellWindow 195 = .ok (.iload 4, 2) := by decide +kernel
theorem dX12_tellWindow_197 : decode cX12_tellWindow 197 = .ok (.putfield 255, 3) := by decide +kernel
theorem dX12_tellWindow_200 : decode cX12_tellWindow 200 = .ok (.aload_n 0, 1) := by decide +kernel
theorem dX12_tellWindow_201 : decode cX12_tellWindow 201 = .ok (.getfield 255, 3) := by decide +kernel
theorem dX12_tellWindow_204 : decode cX12_tellWindow 204 = .ok (.iload 4, 2) := by decide +kernel
theorem dX12_tellWindow_206 : decode cX12_tellWindow 206 = .ok (.if_icmp .ne 57, 3) := by decide +kernel
theorem dX12_tellWindow_209 : decode cX12_tellWindow 209 = .ok (.aload_n 0, 1) := by decide +kernel
theorem dX12_tellWindow_210 : decode cX12_tellWindow 210 = .ok (.getfield 205, 3) := by decide +kernel
theorem dX12_tellWindow_213 : decode cX12_tellWindow 213 = .ok (.ifCond .eq 50, 3) := by decide +kernel
theorem dX12_tellWindow_216 : decode cX12_tellWindow 216 = .ok (.aload_n 0, 1) := by decide +kernel
theorem dX12_tellWindow_217 : decode cX12_tellWindow 217 = .ok (.iconst 0, 1) := by decide +kernel
theorem dX12_tellWindow_218 : decode cX12_tellWindow 218 = .ok (.putfield 255, 3) := by decide +kernel
theorem dX12_tellWindow_221 : decode cX12_tellWindow 221 = .ok (.aload_n 0, 1) := by decide +kernel
theorem dX12_tellWindow_222 : decode cX12_tellWindow 222 = .ok (.getfield 192, 3) := by decide +kernel
theorem dX12_tellWindow_225 : decode cX12_tellWindow 225 = .ok (.aload_n 0, 1) := by decide +kernel
theorem dX12_tellWindow_226 : decode cX12_tellWindow 226 = .ok (.getfield 208, 3) := by decide +kernel
theorem dX12_tellWindow_229 : decode cX12_tellWindow 229 = .ok (.if_icmp .ne 34, 3) := by decide +kernel
theorem dX12_tellWindow_232 : decode cX12_tellWindow 232 = .ok (.aload_n 0, 1) := by decide +kernel
theorem dX12_tellWindow_233 : decode cX12_tellWindow 233 = .ok (.getfield 195, 3) := by decide +kernel
theorem dX12_tellWindow_236 : decode cX12_tellWindow 236 = .ok (.aload_n 0, 1) := by decide +kernel
theorem dX12_tellWindow_237 : decode cX12_tellWindow 237 = .ok (.getfield 211, 3) := by decide +kernel
theorem dX12_tellWindow_240 : decode cX12_tellWindow 240 = .ok (.if_icmp .ne 23, 3) := by decide +kernel
theorem dX12_tellWindow_243 : decode cX12_tellWindow 243 = .ok (.aload_n 0, 1) := by decide +kernel
theorem dX12_tellWindow_244 : decode cX12_tellWindow 244 = .ok (.getfield 57, 3) := by decide +kernel
theorem dX12_tellWindow_247 : decode cX12_tellWindow 247 = .ok (.iload_n 1, 1) := by decide +kernel
theorem dX12_tellWindow_248 : decode cX12_tellWindow 248 = .ok (.aload_n 0, 1) := by decide +kernel
theorem dX12_tellWindow_249 : decode cX12_tellWindow 249 = .ok (.getfield 57, 3) := by decide +kernel
theorem dX12_tellWindow_252 : decode cX12_tellWindow 252 = .ok (.iload_n 1, 1) := by decide +kernel
theorem dX12_tellWindow_253 : decode cX12_tellWindow 253 = .ok (.baload, 1) := by decide +kernel
theorem dX12_tellWindow_254 : decode cX12_tellWindow 254 = .ok (.ifCond .ne 7, 3) := by decide +kernel
theorem dX12_tellWindow_257 : decode cX12_tellWindow 257 = .ok (.iconst 1, 1) := by decide +kernel
theorem dX12_tellWindow_258 : decode cX12_tellWindow 258 = .ok (.goto 4, 3) := by decide +kernel
theorem dX12_tellWindow_261 : decode cX12_tellWindow 261 = .ok (.iconst 0, 1) := by decide +kernel
theorem dX12_tellWindow_262 : decode cX12_tellWindow 262 = .ok (.bastore, 1) := by decide +kernel
theorem dX12_tellWindow_263 : decode cX12_tellWindow 263 = .ok (.aload_n 0, 1) := by decide +kernel
theorem dX12_tellWindow_264 : decode cX12_tellWindow 264 = .ok (.iload_n 1, 1) := by decide +kernel
theorem dX12_tellWindow_265 : decode cX12_tellWindow 265 = .ok (.putfield 144, 3) := by decide +kernel
theorem dX12_tellWindow_268 : decode cX12_tellWindow 268 = .ok (.aload_n 0, 1) := by decide +kernel
theorem dX12_tellWindow_269 : decode cX12_tellWindow 269 = .ok (.getfield 36, 3) := by decide +kernel
theorem dX12_tellWindow_272 : decode cX12_tellWindow 272 = .ok (.iload_n 1, 1) := by decide +kernel
theorem dX12_tellWindow_273 : decode cX12_tellWindow 273 = .ok (.iaload, 1) := by decide +kernel
theorem dX12_tellWindow_274 : decode cX12_tellWindow 274 = .ok (.istore 6, 2) := by decide +kernel
theorem dX12_tellWindow_276 : decode cX12_tellWindow 276 = .ok (.aload_n 0, 1) := by decide +kernel
theorem dX12_tellWindow_277 : decode cX12_tellWindow 277 = .ok (.getfield 39, 3) := by decide +kernel
theorem dX12_tellWindow_280 : decode cX12_tellWindow 280 = .ok (.iload_n 1, 1) := by decide +kernel
theorem dX12_tellWindow_281 : decode cX12_tellWindow 281 = .ok (.iaload, 1) := by decide +kernel
theorem dX12_tellWindow_282 : decode cX12_tellWindow 282 = .ok (.istore 7, 2) := by decide +kernel
theorem dX12_tellWindow_284 : decode cX12_tellWindow 284 = .ok (.iload 6, 2) := by decide +kernel
theorem dX12_tellWindow_286 : decode cX12_tellWindow 286 = .ok (.iload_n 2, 1) := by decide +kernel
theorem dX12_tellWindow_287 : decode cX12_tellWindow 287 = .ok (.iadd, 1) := by decide +kernel
theorem dX12_tellWindow_288 : decode cX12_tellWindow 288 = .ok (.istore 8, 2) := by decide +kernel
theorem dX12_tellWindow_290 : decode cX12_tellWindow 290 = .ok (.iload 7, 2) := by decide +kernel
theorem dX12_tellWindow_292 : decode cX12_tellWindow 292 = .ok (.aload_n 0, 1) := by decide +kernel
theorem dX12_tellWindow_293 : decode cX12_tellWindow 293 = .ok (.iload_n 1, 1) := by decide +kernel
theorem dX12_tellWindow_294 : decode cX12_tellWindow 294 = .ok (.invokevirtual 224, 3) := by decide +kernel
theorem dX12_tellWindow_297 : decode cX12_tellWindow 297 = .ok (.iadd, 1) := by decide +kernel
theorem dX12_tellWindow_298 : decode cX12_tellWindow 298 = .ok (.istore 9, 2) := by decide +kernel
theorem dX12_tellWindow_300 : decode cX12_tellWindow 300 = .ok (.aload_n 0, 1) := by decide +kernel
theorem dX12_tellWindow_301 : decode cX12_tellWindow 301 = .ok (.iconst 0, 1) := by decide +kernel
theorem dX12_tellWindow_302 : decode cX12_tellWindow 302 = .ok (.aload_n 0, 1) := by decide +kernel
theorem dX12_tellWindow_303 : decode cX12_tellWindow 303 = .ok (.iload 6, 2) := by decide +kernel
theorem dX12_tellWindow_305 : decode cX12_tellWindow 305 = .ok (.iconst 4, 1) := by decide +kernel
theorem dX12_tellWindow_306 : decode cX12_tellWindow 306 = .ok (.iadd, 1) := by decide +kernel
theorem dX12_tellWindow_307 : decode cX12_tellWindow 307 = .ok (.iload 7, 2) := by decide +kernel
theorem dX12_tellWindow_309 : decode cX12_tellWindow 309 = .ok (.iload 5, 2) := by decide +kernel
theorem dX12_tellWindow_311 : decode cX12_tellWindow 311 = .ok (.iadd, 1) := by decide +kernel
theorem dX12_tellWindow_312 : decode cX12_tellWindow 312 = .ok (.iconst 4, 1) := by decide +kernel
theorem dX12_tellWindow_313 : decode cX12_tellWindow 313 = .ok (.iadd, 1) := by decide +kernel
theorem dX12_tellWindow_314 : decode cX12_tellWindow 314 = .ok (.aload_n 0, 1) := by decide +kernel
theorem dX12_tellWindow_315 : decode cX12_tellWindow 315 = .ok (.getfield 48, 3) := by decide +kernel
theorem dX12_tellWindow_318 : decode cX12_tellWindow 318 = .ok (.iload_n 1, 1) := by decide +kernel
theorem dX12_tellWindow_319 : decode cX12_tellWindow 319 = .ok (.iaload, 1) := by decide +kernel
theorem dX12_tellWindow_320 : decode cX12_tellWindow 320 = .ok (.isub, 1) := by decide +kernel
theorem dX12_tellWindow_321 : decode cX12_tellWindow 321 = .ok (.invokevirtual 331, 3) := by decide +kernel
theorem dX12_tellWindow_324 : decode cX12_tellWindow 324 = .ok (.iload_n 1, 1) := by decide +kernel
theorem dX12_tellWindow_325 : decode cX12_tellWindow 325 = .ok (.invokevirtual 334, 3) := by decide +kernel
theorem dX12_tellWindow_328 : decode cX12_tellWindow 328 = .ok (.aload_n 0, 1) := by decide +kernel
theorem dX12_tellWindow_329 : decode cX12_tellWindow 329 = .ok (.iload 4, 2) := by decide +kernel
theorem dX12_tellWindow_331 : decode cX12_tellWindow 331 = .ok (.invokevirtual 337, 3) := by decide +kernel
theorem dX12_tellWindow_334 : decode cX12_tellWindow 334 = .ok (.aload_n 0, 1) := by decide +kernel
theorem dX12_tellWindow_335 : decode cX12_tellWindow 335 = .ok (.getfield 147, 3) := by decide +kernel
theorem dX12_tellWindow_338 : decode cX12_tellWindow 338 = .ok (.iconst 0, 1) := by decide +kernel
theorem dX12_tellWindow_339 : decode cX12_tellWindow 339 = .ok (.iload 6, 2) := by decide +kernel
theorem dX12_tellWindow_341 : decode cX12_tellWindow 341 = .ok (.iconst 0, 1) := by decide +kernel
theorem dX12_tellWindow_342 : decode cX12_tellWindow 342 = .ok (.invokestatic 182, 3) := by decide +kernel
theorem dX12_tellWindow_345 : decode cX12_tellWindow 345 = .ok (.iastore, 1) := by decide +kernel
theorem dX12_tellWindow_346 : decode cX12_tellWindow 346 = .ok (.aload_n 0, 1) := by decide +kernel
theorem dX12_tellWindow_347 : decode cX12_tellWindow 347 = .ok (.getfield 147, 3) := by decide +kernel
theorem dX12_tellWindow_350 : decode cX12_tellWindow 350 = .ok (.iconst 1, 1) := by decide +kernel
theorem dX12_tellWindow_351 : decode cX12_tellWindow 351 = .ok (.iload 7, 2) := by decide +kernel
theorem dX12_tellWindow_353 : decode cX12_tellWindow 353 = .ok (.iconst 0, 1) := by decide +kernel
theorem dX12_tellWindow_354 : decode cX12_tellWindow 354 = .ok (.invokestatic 182, 3) := by decide +kernel
theorem dX12_tellWindow_357 : decode cX12_tellWindow 357 = .ok (.iastore, 1) := by decide +kernel
theorem dX12_tellWindow_358 : decode cX12_tellWindow 358 = .ok (.aload_n 0, 1) := by decide +kernel
theorem dX12_tellWindow_359 : decode cX12_tellWindow 359 = .ok (.getfield 147, 3) := by decide +kernel
theorem dX12_tellWindow_362 : decode cX12_tellWindow 362 = .ok (.iconst 2, 1) := by decide +kernel
theorem dX12_tellWindow_363 : decode cX12_tellWindow 363 = .ok (.iload 8, 2) := by decide +kernel
theorem dX12_tellWindow_365 : decode cX12_tellWindow 365 = .ok (.sipush 1000, 3) := by decide +kernel
theorem dX12_tellWindow_368 : decode cX12_tellWindow 368 = .ok (.invokestatic 178, 3) := by decide +kernel
theorem dX12_tellWindow_371 : decode cX12_tellWindow 371 = .ok (.iastore, 1) := by decide +kernel
theorem dX12_tellWindow_372 : decode cX12_tellWindow 372 = .ok (.aload_n 0, 1) := by decide +kernel
theorem dX12_tellWindow_373 : decode cX12_tellWindow 373 = .ok (.getfield 147, 3) := by decide +kernel
theorem dX12_tellWindow_376 : decode cX12_tellWindow 376 = .ok (.iconst 3, 1) := by decide +kernel
theorem dX12_tellWindow_377 : decode cX12_tellWindow 377 = .ok (.iload 9, 2) := by decide +kernel
theorem dX12_tellWindow_379 : decode cX12_tellWindow 379 = .ok (.sipush 1000, 3) := by decide +kernel
theorem dX12_tellWindow_382 : decode cX12_tellWindow 382 = .ok (.invokestatic 178, 3) := by decide +kernel
theorem dX12_tellWindow_385 : decode cX12_tellWindow 385 = .ok (.iastore, 1) := by decide +kernel
theorem dX12_tellWindow_386 : decode cX12_tellWindow 386 = .ok (.aload_n 0, 1) := by decide +kernel
theorem dX12_tellWindow_387 : decode cX12_tellWindow 387 = .ok (.iload 6, 2) := by decide +kernel
theorem dX12_tellWindow_389 : decode cX12_tellWindow 389 = .ok (.iload 7, 2) := by decide +kernel
theorem dX12_tellWindow_391 : decode cX12_tellWindow 391 = .ok (.iload 8, 2) := by decide +kernel
theorem dX12_tellWindow_393 : decode cX12_tellWindow 393 = .ok (.iload 9, 2) := by decide +kernel
theorem dX12_tellWindow_395 : decode cX12_tellWindow 395 = .ok (.iconst 1, 1) := by decide +kernel
theorem dX12_tellWindow_396 : decode cX12_tellWindow 396 = .ok (.iconst 0, 1) := by decide +kernel
theorem dX12_tellWindow_397 : decode cX12_tellWindow 397 = .ok (.invokevirtual 320, 3) := by decide +kernel
theorem dX12_tellWindow_400 : decode cX12_tellWindow 400 = .ok (.iload 5, 2) := by decide +kernel
theorem dX12_tellWindow_402 : decode cX12_tellWindow 402 = .ok (.ifCond .le 20, 3) := by decide +kernel
theorem dX12_tellWindow_405 : decode cX12_tellWindow 405 = .ok (.aload_n 0, 1) := by decide +kernel
theorem dX12_tellWindow_406 : decode cX12_tellWindow 406 = .ok (.iload 6, 2) := by decide +kernel
theorem dX12_tellWindow_408 : decode cX12_tellWindow 408 = .ok (.iload 7, 2) := by decide +kernel
theorem dX12_tellWindow_410 : decode cX12_tellWindow 410 = .ok (.iload 8, 2) := by decide +kernel
theorem dX12_tellWindow_412 : decode cX12_tellWindow 412 = .ok (.iload 7, 2) := by decide +kernel
theorem dX12_tellWindow_414 : decode cX12_tellWindow 414 = .ok (.bipush 12, 2) := by decide +kernel
theorem dX12_tellWindow_416 : decode cX12_tellWindow 416 = .ok (.iadd, 1) := by decide +kernel
theorem dX12_tellWindow_417 : decode cX12_tellWindow 417 = .ok (.iconst 2, 1) := by decide +kernel
theorem dX12_tellWindow_418 : decode cX12_tellWindow 418 = .ok (.iconst 0, 1) := by decide +kernel
theorem dX12_tellWindow_419 : decode cX12_tellWindow 419 = .ok (.invokevirtual 320, 3) := by decide +kernel
theorem dX12_tellWindow_422 : decode cX12_tellWindow 422 = .ok (.aload_n 0, 1) := by decide +kernel
theorem dX12_tellWindow_423 : decode cX12_tellWindow 423 = .ok (.getfield 147, 3) := by decide +kernel
theorem dX12_tellWindow_426 : decode cX12_tellWindow 426 = .ok (.iconst 1, 1) := by decide +kernel
theorem dX12_tellWindow_427 : decode cX12_tellWindow 427 = .ok (.iload 7, 2) := by decide +kernel
theorem dX12_tellWindow_429 : decode cX12_tellWindow 429 = .ok (.iload 5, 2) := by decide +kernel
theorem dX12_tellWindow_431 : decode cX12_tellWindow 431 = .ok (.iadd, 1) := by decide +kernel
theorem dX12_tellWindow_432 : decode cX12_tellWindow 432 = .ok (.iconst 0, 1) := by decide +kernel
theorem dX12_tellWindow_433 : decode cX12_tellWindow 433 = .ok (.invokestatic 182, 3) := by decide +kernel
theorem dX12_tellWindow_436 : decode cX12_tellWindow 436 = .ok (.iastore, 1) := by decide +kernel
theorem dX12_tellWindow_437 : decode cX12_tellWindow 437 = .ok (.return_, 1) := by decide +kernel
set_option maxHeartbeats 4000000 in
set_option maxRecDepth 100000 in
theorem m_X12_tellWindow (l : Launch) {Z : pZ} (S : pSh Z) {h : pH} (I : Iv Z h) (w : Int32) (width : Int32) (tall : Int32) (hw : 0 ≤ w.toInt ∧ w.toInt ≤ 8) (z1 : (h 137 56).toInt = 0) (z2 : (h 137 70).toInt = 0) (z3 : (h 137 58).toInt = 0) (S9 : mS h) (ht : (h 137 25).toInt ≤ 599) (hq : (h 137 82).toInt ≤ 6998) : pMet l yX12_tellWindow cX12_tellWindow 10 none 3 0 0 78 Z h [.ref (zB Z + 137), .int w, .int width, .int tall] (pQv Z (fun Z1 h1 => Z = Z1 ∧ Iv Z h1 ∧ agr [(147, 1000), (148, 1000), (153, 1000), (155, 1000), (149, 1000), (152, 1000), (179, 1000), (143, 1000), (186, 1000), (162, 1000), (163, 1000), (165, 1000), (166, 1000), (164, 1000), (167, 1000), (168, 1000), (169, 1000), (170, 1000), (174, 1000), (175, 1000), (176, 1000), (177, 1000), (137, 25), (137, 19), (137, 71), (137, 56), (137, 70), (137, 58), (137, 82)] h h1 ∧ (mS h1) ∧ ((h 137 25).toInt + (1) ≤ (h1 137 25).toInt ∧ (h1 137 25).toInt ≤ (h 137 25).toInt + (1)) ∧ ((h 137 82).toInt + (0) ≤ (h1 137 82).toInt ∧ (h1 137 82).toInt ≤ (h 137 82).toInt + (2)))) := by
  refine pOfW (lv := [(0, .ref (zB Z + 137)), (1, .int w), (2, .int width), (3, .int tall)]) (by decide) (Nat.le_of_ble_eq_true rfl) rfl ?_
  intro p e s m below meth c ls M hr hlk hnm V hl
  have hx := M.1.1
  have hb := M.1.2.1
  have A : agr [] h h := agr.rf
  have i_56 : 0 ≤ (h 137 56).toInt ∧ (h 137 56).toInt ≤ 40 := I.get (sm_this S) 56
  have i_70 : 0 ≤ (h 137 70).toInt ∧ (h 137 70).toInt ≤ 40 := I.get (sm_this S) 70
  have i_58 : 0 ≤ (h 137 58).toInt ∧ (h 137 58).toInt ≤ 40 := I.get (sm_this S) 58
  have i_25 : 0 ≤ (h 137 25).toInt ∧ (h 137 25).toInt ≤ 600 := I.get (sm_this S) 25
  have i_82 : 0 ≤ (h 137 82).toInt ∧ (h 137 82).toInt ≤ 7000 := I.get (sm_this S) 82
  have S0 := S9
  have z56 : ((h 137 56).toNatClampNeg : Int) = (h 137 56).toInt := pi_cl i_56.1
  have J_263 : ∀ (x263_4 : Int32) (x263_5 : Int32) (hJ : pH) (H : Heap) (locs : List Loc) (ls : Array Slot), pV Z hJ s.heap H locs → Iv Z hJ → agr [(137, 19), (137, 25), (143, 1000), (147, 1000), (148, 1000), (149, 1000), (152, 1000), (153, 1000), (155, 1000)] h hJ → lv_has ls 10 [(0, .ref (zB Z + 137)), (1, .int w), (2, .int width), (3, .int tall), (4, .int x263_4), (5, .int x263_5)] → (0 ≤ w.toInt ∧ w.toInt ≤ 8) → (1000 ≤ x263_4.toInt ∧ x263_4.toInt ≤ 1008) → (0 ≤ x263_5.toInt ∧ x263_5.toInt ≤ 12) → ((h 137 56).toInt + (0) ≤ (hJ 137 56).toInt ∧ (hJ 137 56).toInt ≤ (h 137 56).toInt + (0)) → ((h 137 70).toInt + (0) ≤ (hJ 137 70).toInt ∧ (hJ 137 70).toInt ≤ (h 137 70).toInt + (0)) → ((h 137 58).toInt + (0) ≤ (hJ 137 58).toInt ∧ (hJ 137 58).toInt ≤ (h 137 58).toInt + (0)) → ((h 137 25).toInt + (1) ≤ (hJ 137 25).toInt ∧ (hJ 137 25).toInt ≤ (h 137 25).toInt + (1)) → ((h 137 82).toInt + (0) ≤ (hJ 137 82).toInt ∧ (hJ 137 82).toInt ≤ (h 137 82).toInt + (0)) → W p l e (pRm 3 0 0 78) s m ([.ref (zB Z + 137), .int w, .int width, .int tall] : List Value).toArray below meth c H locs 0 0 (MQ below (pQv Z (fun Z1 h1 => Z = Z1 ∧ Iv Z h1 ∧ agr [(147, 1000), (148, 1000), (153, 1000), (155, 1000), (149, 1000), (152, 1000), (179, 1000), (143, 1000), (186, 1000), (162, 1000), (163, 1000), (165, 1000), (166, 1000), (164, 1000), (167, 1000), (168, 1000), (169, 1000), (170, 1000), (174, 1000), (175, 1000), (176, 1000), (177, 1000), (137, 25), (137, 19), (137, 71), (137, 56), (137, 70), (137, 58), (137, 82)] h h1 ∧ (mS h1) ∧ ((h 137 25).toInt + (1) ≤ (h1 137 25).toInt ∧ (h1 137 25).toInt ≤ (h 137 25).toInt + (1)) ∧ ((h 137 82).toInt + (0) ≤ (h1 137 82).toInt ∧ (h1 137 82).toInt ≤ (h 137 82).toInt + (2)))) ([.ref (zB Z + 137), .int w, .int width, .int tall] : List Value).toArray s 0 0 (pA (zB Z))) (F0 m 263 ls []) := by
    intro x263_4 x263_5 hJ H locs ls V I A hl g_263_1 g_263_4 g_263_5 gd_263_56 gd_263_70 gd_263_58 gd_263_25 gd_263_82
    refine lv_aload_n hx hb dX12_tellWindow_263 rfl (lv_at hl 0 rfl) ?_
    refine lv_iload_n hx hb dX12_tellWindow_264 rfl (lv_at hl 1 rfl) ?_
    refine pp_i M V 12 71 (sm_this S) pC12 fk12_71 rfl lkF_X12_144 ⟨rfl, rfl⟩ dX12_tellWindow_265 (fun H locs V => ?_)
    have A := A.wk (l3 := [(137, 19), (137, 25), (143, 1000), (147, 1000), (148, 1000), (149, 1000), (152, 1000), (153, 1000), (155, 1000), (137, 71)]) (by decide)
    have A := A.up (o := 137) (k := 71) (v := w) (by decide)
    have I := I.up (k := 71) (v := w) (sm_this S) (show (-1 : Int) ≤ w.toInt ∧ w.toInt ≤ (8 : Int) by omega)
    refine lv_aload_n hx hb dX12_tellWindow_268 rfl (lv_at hl 0 rfl) ?_
    refine pg_r M V 12 29 (sm_this S) pC12 fk12_29 (sm_x S).2.2 lkF_X12_36 dX12_tellWindow_269 ?_
    refine lv_iload_n hx hb dX12_tellWindow_272 rfl (lv_at hl 1 rfl) ?_
    refine pa_i M V (sm_x S).1 (by rw [(sm_x S).2.1]; exact pi_in (by omega)) dX12_tellWindow_273 ?_
    refine lv_topi (fun v1 ev1 => ?_)
    refine lv_istore (lv' := [(6, .int v1), (0, .ref (zB Z + 137)), (1, .int w), (2, .int width), (3, .int tall), (4, .int x263_4), (5, .int x263_5)]) hx hb dX12_tellWindow_274 hl (by decide) rfl (fun ls hl => ?_)
    refine lv_aload_n hx hb dX12_tellWindow_276 rfl (lv_at hl 1 rfl) ?_
    refine pg_r M V 12 30 (sm_this S) pC12 fk12_30 (sm_y S).2.2 lkF_X12_39 dX12_tellWindow_277 ?_
    refine lv_iload_n hx hb dX12_tellWindow_280 rfl (lv_at hl 2 rfl) ?_
    refine pa_i M V (sm_y S).1 (by rw [(sm_y S).2.1]; exact pi_in (by omega)) dX12_tellWindow_281 ?_
    refine lv_topi (fun v2 ev2 => ?_)
    refine lv_istore (lv' := [(7, .int v2), (6, .int v1), (0, .ref (zB Z + 137)), (1, .int w), (2, .int width), (3, .int tall), (4, .int x263_4), (5, .int x263_5)]) hx hb dX12_tellWindow_282 hl (by decide) rfl (fun ls hl => ?_)
    refine lv_iload hx hb dX12_tellWindow_284 (lv_at hl 1 rfl) ?_
    refine lv_iload_n hx hb dX12_tellWindow_286 rfl (lv_at hl 4 rfl) ?_
    refine lv_iadd hx hb dX12_tellWindow_287 ?_
    refine lv_topi (fun v3 ev3 => ?_)
    refine lv_istore (lv' := [(8, .int v3), (7, .int v2), (6, .int v1), (0, .ref (zB Z + 137)), (1, .int w), (2, .int width), (3, .int tall), (4, .int x263_4), (5, .int x263_5)]) hx hb dX12_tellWindow_288 hl (by decide) rfl (fun ls hl => ?_)
    refine lv_iload hx hb dX12_tellWindow_290 (lv_at hl 1 rfl) ?_
    refine lv_aload_n hx hb dX12_tellWindow_292 rfl (lv_at hl 3 rfl) ?_
    refine lv_iload_n hx hb dX12_tellWindow_293 rfl (lv_at hl 4 rfl) ?_
    refine pk_i (pr_V M V (m_X12_height l S I w (by omega)) km_X12_height (sm_this S) pC12 lkM_X12_224 rfl hl.1 rfl (Nat.le_of_ble_eq_true rfl) ⟨Nat.le_of_ble_eq_true rfl, Nat.le_of_ble_eq_true rfl⟩ ⟨Nat.le_of_ble_eq_true rfl, Nat.le_of_ble_eq_true rfl⟩ dX12_tellWindow_294) V (fun r4 Zr4 hr4 H locs pr4 _ _ V => ?_)
    obtain ⟨rfl, rfl⟩ := pr4
    refine lv_iadd hx hb dX12_tellWindow_297 ?_
    refine lv_topi (fun v5 ev5 => ?_)
    refine lv_istore (lv' := [(9, .int v5), (8, .int v3), (7, .int v2), (6, .int v1), (0, .ref (zB Z + 137)), (1, .int w), (2, .int width), (3, .int tall), (4, .int x263_4), (5, .int x263_5)]) hx hb dX12_tellWindow_298 hl (by decide) rfl (fun ls hl => ?_)
    refine lv_aload_n hx hb dX12_tellWindow_300 rfl (lv_at hl 4 rfl) ?_
    refine lv_iconst (v := 0) hx hb dX12_tellWindow_301 (by decide) ?_
    refine lv_aload_n hx hb dX12_tellWindow_302 rfl (lv_at hl 4 rfl) ?_
    refine lv_iload hx hb dX12_tellWindow_303 (lv_at hl 3 rfl) ?_
    refine lv_iconst (v := 4) hx hb dX12_tellWindow_305 (by decide) ?_
    refine lv_iadd hx hb dX12_tellWindow_306 ?_
    refine lv_topi (fun v6 ev6 => ?_)
    refine lv_iload hx hb dX12_tellWindow_307 (lv_at hl 2 rfl) ?_
    refine lv_iload hx hb dX12_tellWindow_309 (lv_at hl 9 rfl) ?_
    refine lv_iadd hx hb dX12_tellWindow_311 ?_
    refine lv_topi (fun v7 ev7 => ?_)
    refine lv_iconst (v := 4) hx hb dX12_tellWindow_312 (by decide) ?_
    refine lv_iadd hx hb dX12_tellWindow_313 ?_
    refine lv_topi (fun v8 ev8 => ?_)
    refine lv_aload_n hx hb dX12_tellWindow_314 rfl (lv_at hl 4 rfl) ?_
    refine pg_r M V 12 33 (sm_this S) pC12 fk12_33 (sm_scroll S).2.2 lkF_X12_48 dX12_tellWindow_315 ?_
    refine lv_iload_n hx hb dX12_tellWindow_318 rfl (lv_at hl 5 rfl) ?_
    refine pa_i M V (sm_scroll S).1 (by rw [(sm_scroll S).2.1]; exact pi_in (by omega)) dX12_tellWindow_319 ?_
    refine lv_topi (fun v9 ev9 => ?_)
    refine lv_isub hx hb dX12_tellWindow_320 ?_
    refine lv_topi (fun v10 ev10 => ?_)
    refine pk_i (pr_V M V (m_X12_area l S I v6 v10 (show (hJ 137 70).toInt ≤ 39 by omega)) km_X12_area (sm_this S) pC12 lkM_X12_331 rfl hl.1 rfl (Nat.le_of_ble_eq_true rfl) ⟨Nat.le_of_ble_eq_true rfl, Nat.le_of_ble_eq_true rfl⟩ ⟨Nat.le_of_ble_eq_true rfl, Nat.le_of_ble_eq_true rfl⟩ dX12_tellWindow_321) V (fun r11 Zr11 hr11 H locs pr11 _ _ V => ?_)
    obtain ⟨rfl, I, pA_r11, fr11_0, fr11_1⟩ := pr11
    have fr11_0 : r11.toInt = (hJ 137 70).toInt ∧ 0 ≤ r11.toInt ∧ r11.toInt ≤ 39 := fr11_0
    have fr11_1 : (hJ 137 70).toInt + (1) ≤ (hr11 137 70).toInt ∧ (hr11 137 70).toInt ≤ (hJ 137 70).toInt + (1) := fr11_1
    have A := A.wk (l3 := [(137, 19), (137, 25), (143, 1000), (147, 1000), (148, 1000), (149, 1000), (152, 1000), (153, 1000), (155, 1000), (137, 71), (137, 70), (168, 1000), (169, 1000), (170, 1000), (174, 1000), (175, 1000), (176, 1000), (177, 1000)]) (by decide)
    have A := A.tr pA_r11 (by decide)
    have w_r11_r162 : hr11 162 = (hJ 162) := pA_r11.row 162 (by decide)
    have w_r11_r163 : hr11 163 = (hJ 163) := pA_r11.row 163 (by decide)
    have w_r11_r165 : hr11 165 = (hJ 165) := pA_r11.row 165 (by decide)
    have w_r11_r166 : hr11 166 = (hJ 166) := pA_r11.row 166 (by decide)
    have w_r11_56 : (hr11 137 56).toInt = (hJ 137 56).toInt := congrArg Int32.toInt (pA_r11.get 137 56 (by decide))
    have w_r11_58 : (hr11 137 58).toInt = (hJ 137 58).toInt := congrArg Int32.toInt (pA_r11.get 137 58 (by decide))
    have w_r11_25 : (hr11 137 25).toInt = (hJ 137 25).toInt := congrArg Int32.toInt (pA_r11.get 137 25 (by decide))
    have w_r11_82 : (hr11 137 82).toInt = (hJ 137 82).toInt := congrArg Int32.toInt (pA_r11.get 137 82 (by decide))
    refine lv_iload_n hx hb dX12_tellWindow_324 rfl (lv_at hl 5 rfl) ?_
    have so_56 : _ = h 137 56 := A.get 137 56 (by decide)
    have so_58 : _ = h 137 58 := A.get 137 58 (by decide)
    have st_162 : _ = h 162 := A.row 162 (by decide)
    have st_163 : _ = h 163 := A.row 163 (by decide)
    have st_165 : _ = h 165 := A.row 165 (by decide)
    have st_166 : _ = h 166 := A.row 166 (by decide)
    have k_0 : (0 : Int32).toInt = 0 := rfl
    refine pk_v (pr_V M V (m_X12_openThing l S I (0 : Int32) r11 w (by omega) (by omega) (by omega) (show (hr11 137 56).toInt ≤ 39 by omega)) km_X12_openThing (sm_this S) pC12 lkM_X12_334 rfl hl.1 rfl (Nat.le_of_ble_eq_true rfl) ⟨Nat.le_of_ble_eq_true rfl, Nat.le_of_ble_eq_true rfl⟩ ⟨Nat.le_of_ble_eq_true rfl, Nat.le_of_ble_eq_true rfl⟩ dX12_tellWindow_325) V (fun Zr12 hr12 H locs pr12 _ _ V => ?_)
    obtain ⟨rfl, I, pA_r12, fr12_0, fr12_1, fr12_2, fr12_3, fr12_4⟩ := pr12
    have fr12_4 : (hr11 137 56).toInt + (1) ≤ (hr12 137 56).toInt ∧ (hr12 137 56).toInt ≤ (hr11 137 56).toInt + (1) := fr12_4
    have A := A.wk (l3 := [(137, 19), (137, 25), (143, 1000), (147, 1000), (148, 1000), (149, 1000), (152, 1000), (153, 1000), (155, 1000), (137, 71), (137, 70), (168, 1000), (169, 1000), (170, 1000), (174, 1000), (175, 1000), (176, 1000), (177, 1000), (137, 56), (162, 1000), (163, 1000), (165, 1000), (166, 1000), (164, 1000)]) (by decide)
    have A := A.tr pA_r12 (by decide)
    have w_r12_70 : (hr12 137 70).toInt = (hr11 137 70).toInt := congrArg Int32.toInt (pA_r12.get 137 70 (by decide))
    have w_r12_58 : (hr12 137 58).toInt = (hr11 137 58).toInt := congrArg Int32.toInt (pA_r12.get 137 58 (by decide))
    have w_r12_25 : (hr12 137 25).toInt = (hr11 137 25).toInt := congrArg Int32.toInt (pA_r12.get 137 25 (by decide))
    have w_r12_82 : (hr12 137 82).toInt = (hr11 137 82).toInt := congrArg Int32.toInt (pA_r12.get 137 82 (by decide))
    refine lv_aload_n hx hb dX12_tellWindow_328 rfl (lv_at hl 4 rfl) ?_
    refine lv_iload hx hb dX12_tellWindow_329 (lv_at hl 8 rfl) ?_
    refine pk_v (pr_V M V (m_X12_push l S I x263_4 (show (hr12 137 58).toInt ≤ 39 by omega)) km_X12_push (sm_this S) pC12 lkM_X12_337 rfl hl.1 rfl (Nat.le_of_ble_eq_true rfl) ⟨Nat.le_of_ble_eq_true rfl, Nat.le_of_ble_eq_true rfl⟩ ⟨Nat.le_of_ble_eq_true rfl, Nat.le_of_ble_eq_true rfl⟩ dX12_tellWindow_331) V (fun Zr13 hr13 H locs pr13 _ _ V => ?_)
    obtain ⟨rfl, I, pA_r13, fr13_0⟩ := pr13
    have fr13_0 : (hr12 137 58).toInt + (1) ≤ (hr13 137 58).toInt ∧ (hr13 137 58).toInt ≤ (hr12 137 58).toInt + (1) := fr13_0
    have A := A.wk (l3 := [(137, 19), (137, 25), (143, 1000), (147, 1000), (148, 1000), (149, 1000), (152, 1000), (153, 1000), (155, 1000), (137, 71), (137, 70), (168, 1000), (169, 1000), (170, 1000), (174, 1000), (175, 1000), (176, 1000), (177, 1000), (137, 56), (162, 1000), (163, 1000), (165, 1000), (166, 1000), (164, 1000), (137, 58), (167, 1000)]) (by decide)
    have A := A.tr pA_r13 (by decide)
    have w_r13_r162 : hr13 162 = (hr12 162) := pA_r13.row 162 (by decide)
    have w_r13_r163 : hr13 163 = (hr12 163) := pA_r13.row 163 (by decide)
    have w_r13_r165 : hr13 165 = (hr12 165) := pA_r13.row 165 (by decide)
    have w_r13_r166 : hr13 166 = (hr12 166) := pA_r13.row 166 (by decide)
    have w_r13_56 : (hr13 137 56).toInt = (hr12 137 56).toInt := congrArg Int32.toInt (pA_r13.get 137 56 (by decide))
    have w_r13_70 : (hr13 137 70).toInt = (hr12 137 70).toInt := congrArg Int32.toInt (pA_r13.get 137 70 (by decide))
    have w_r13_25 : (hr13 137 25).toInt = (hr12 137 25).toInt := congrArg Int32.toInt (pA_r13.get 137 25 (by decide))
    have w_r13_82 : (hr13 137 82).toInt = (hr12 137 82).toInt := congrArg Int32.toInt (pA_r13.get 137 82 (by decide))
    refine lv_aload_n hx hb dX12_tellWindow_334 rfl (lv_at hl 4 rfl) ?_
    refine pg_r M V 12 72 (sm_this S) pC12 fk12_72 (sm_clip S).2.2 lkF_X12_147 dX12_tellWindow_335 ?_
    refine lv_iconst (v := 0) hx hb dX12_tellWindow_338 (by decide) ?_
    refine lv_iload hx hb dX12_tellWindow_339 (lv_at hl 3 rfl) ?_
    refine lv_iconst (v := 0) hx hb dX12_tellWindow_341 (by decide) ?_
    refine pk_i (pr_S M V (m_X12_max l (Z := Z) (h := _) v1 (0 : Int32)) km_X12_max lkM_X12_182 rfl hl.1 rfl (Nat.le_of_ble_eq_true rfl) ⟨Nat.le_of_ble_eq_true rfl, Nat.le_of_ble_eq_true rfl⟩ ⟨Nat.le_of_ble_eq_true rfl, Nat.le_of_ble_eq_true rfl⟩ dX12_tellWindow_342) V (fun r14 Zr14 hr14 H locs pr14 _ _ V => ?_)
    obtain ⟨rfl, rfl, fr14_0, fr14_1, fr14_2⟩ := pr14
    refine ps_i M V (sm_clip S).1 (by rw [(sm_clip S).2.1]; exact pi_in (by omega)) dX12_tellWindow_345 (fun H locs V => ?_)
    have A := A.wk (l3 := [(137, 19), (137, 25), (143, 1000), (147, 1000), (148, 1000), (149, 1000), (152, 1000), (153, 1000), (155, 1000), (137, 71), (137, 70), (168, 1000), (169, 1000), (170, 1000), (174, 1000), (175, 1000), (176, 1000), (177, 1000), (137, 56), (162, 1000), (163, 1000), (165, 1000), (166, 1000), (164, 1000), (137, 58), (167, 1000), (179, 1000)]) (by decide)
    have A := A.upA (o := 179) (k := (0 : Int32).toNatClampNeg) (v := r14) (by decide)
    have I := I.up (k := (0 : Int32).toNatClampNeg) (v := r14) (sm_clip S).1 (pi_full _)
    refine lv_aload_n hx hb dX12_tellWindow_346 rfl (lv_at hl 4 rfl) ?_
    refine pg_r M V 12 72 (sm_this S) pC12 fk12_72 (sm_clip S).2.2 lkF_X12_147 dX12_tellWindow_347 ?_
    refine lv_iconst (v := 1) hx hb dX12_tellWindow_350 (by decide) ?_
    refine lv_iload hx hb dX12_tellWindow_351 (lv_at hl 2 rfl) ?_
    refine lv_iconst (v := 0) hx hb dX12_tellWindow_353 (by decide) ?_
    refine pk_i (pr_S M V (m_X12_max l (Z := Z) (h := _) v2 (0 : Int32)) km_X12_max lkM_X12_182 rfl hl.1 rfl (Nat.le_of_ble_eq_true rfl) ⟨Nat.le_of_ble_eq_true rfl, Nat.le_of_ble_eq_true rfl⟩ ⟨Nat.le_of_ble_eq_true rfl, Nat.le_of_ble_eq_true rfl⟩ dX12_tellWindow_354) V (fun r15 Zr15 hr15 H locs pr15 _ _ V => ?_)
    obtain ⟨rfl, rfl, fr15_0, fr15_1, fr15_2⟩ := pr15
    have k_1 : (1 : Int32).toInt = 1 := rfl
    refine ps_i M V (sm_clip S).1 (by rw [(sm_clip S).2.1]; exact pi_in (by omega)) dX12_tellWindow_357 (fun H locs V => ?_)
    have A := A.upA (o := 179) (k := (1 : Int32).toNatClampNeg) (v := r15) (by decide)
    have I := I.up (k := (1 : Int32).toNatClampNeg) (v := r15) (sm_clip S).1 (pi_full _)
    refine lv_aload_n hx hb dX12_tellWindow_358 rfl (lv_at hl 4 rfl) ?_
    refine pg_r M V 12 72 (sm_this S) pC12 fk12_72 (sm_clip S).2.2 lkF_X12_147 dX12_tellWindow_359 ?_
    refine lv_iconst (v := 2) hx hb dX12_tellWindow_362 (by decide) ?_
    refine lv_iload hx hb dX12_tellWindow_363 (lv_at hl 1 rfl) ?_
    refine lv_sipush (v := 1000) hx hb dX12_tellWindow_365 (by decide) ?_
    refine pk_i (pr_S M V (m_X12_min l (Z := Z) (h := _) v3 (1000 : Int32)) km_X12_min lkM_X12_178 rfl hl.1 rfl (Nat.le_of_ble_eq_true rfl) ⟨Nat.le_of_ble_eq_true rfl, Nat.le_of_ble_eq_true rfl⟩ ⟨Nat.le_of_ble_eq_true rfl, Nat.le_of_ble_eq_true rfl⟩ dX12_tellWindow_368) V (fun r16 Zr16 hr16 H locs pr16 _ _ V => ?_)
    obtain ⟨rfl, rfl, fr16_0, fr16_1, fr16_2⟩ := pr16
    have k_2 : (2 : Int32).toInt = 2 := rfl
    refine ps_i M V (sm_clip S).1 (by rw [(sm_clip S).2.1]; exact pi_in (by omega)) dX12_tellWindow_371 (fun H locs V => ?_)
    have A := A.upA (o := 179) (k := (2 : Int32).toNatClampNeg) (v := r16) (by decide)
    have I := I.up (k := (2 : Int32).toNatClampNeg) (v := r16) (sm_clip S).1 (pi_full _)
    refine lv_aload_n hx hb dX12_tellWindow_372 rfl (lv_at hl 4 rfl) ?_
    refine pg_r M V 12 72 (sm_this S) pC12 fk12_72 (sm_clip S).2.2 lkF_X12_147 dX12_tellWindow_373 ?_
    refine lv_iconst (v := 3) hx hb dX12_tellWindow_376 (by decide) ?_
    refine lv_iload hx hb dX12_tellWindow_377 (lv_at hl 0 rfl) ?_
    refine lv_sipush (v := 1000) hx hb dX12_tellWindow_379 (by decide) ?_
    refine pk_i (pr_S M V (m_X12_min l (Z := Z) (h := _) v5 (1000 : Int32)) km_X12_min lkM_X12_178 rfl hl.1 rfl (Nat.le_of_ble_eq_true rfl) ⟨Nat.le_of_ble_eq_true rfl, Nat.le_of_ble_eq_true rfl⟩ ⟨Nat.le_of_ble_eq_true rfl, Nat.le_of_ble_eq_true rfl⟩ dX12_tellWindow_382) V (fun r17 Zr17 hr17 H locs pr17 _ _ V => ?_)
    obtain ⟨rfl, rfl, fr17_0, fr17_1, fr17_2⟩ := pr17
    have k_3 : (3 : Int32).toInt = 3 := rfl
    refine ps_i M V (sm_clip S).1 (by rw [(sm_clip S).2.1]; exact pi_in (by omega)) dX12_tellWindow_385 (fun H locs V => ?_)
    have A := A.upA (o := 179) (k := (3 : Int32).toNatClampNeg) (v := r17) (by decide)
    have I := I.up (k := (3 : Int32).toNatClampNeg) (v := r17) (sm_clip S).1 (pi_full _)
    refine lv_aload_n hx hb dX12_tellWindow_386 rfl (lv_at hl 4 rfl) ?_
    refine lv_iload hx hb dX12_tellWindow_387 (lv_at hl 3 rfl) ?_
    refine lv_iload hx hb dX12_tellWindow_389 (lv_at hl 2 rfl) ?_
    refine lv_iload hx hb dX12_tellWindow_391 (lv_at hl 1 rfl) ?_
    refine lv_iload hx hb dX12_tellWindow_393 (lv_at hl 0 rfl) ?_
    refine lv_iconst (v := 1) hx hb dX12_tellWindow_395 (by decide) ?_
    refine lv_iconst (v := 0) hx hb dX12_tellWindow_396 (by decide) ?_
    refine pk_v (pr_V M V (m_X12_quadClipped l S I v1 v2 v3 v5 (1 : Int32) (0 : Int32) (show (hr13 137 82).toInt ≤ 6999 by omega)) km_X12_quadClipped (sm_this S) pC12 lkM_X12_320 rfl hl.1 rfl (Nat.le_of_ble_eq_true rfl) ⟨Nat.le_of_ble_eq_true rfl, Nat.le_of_ble_eq_true rfl⟩ ⟨Nat.le_of_ble_eq_true rfl, Nat.le_of_ble_eq_true rfl⟩ dX12_tellWindow_397) V (fun Zr18 hr18 H locs pr18 _ _ V => ?_)
    obtain ⟨rfl, I, pA_r18, fr18_0⟩ := pr18
    have fr18_0 : (hr13 137 82).toInt + (0) ≤ (hr18 137 82).toInt ∧ (hr18 137 82).toInt ≤ (hr13 137 82).toInt + (1) := fr18_0
    have A := A.wk (l3 := [(137, 19), (137, 25), (143, 1000), (147, 1000), (148, 1000), (149, 1000), (152, 1000), (153, 1000), (155, 1000), (137, 71), (137, 70), (168, 1000), (169, 1000), (170, 1000), (174, 1000), (175, 1000), (176, 1000), (177, 1000), (137, 56), (162, 1000), (163, 1000), (165, 1000), (166, 1000), (164, 1000), (137, 58), (167, 1000), (179, 1000), (137, 82), (186, 1000)]) (by decide)
    have A := A.tr pA_r18 (by decide)
    have w_r18_r162 : hr18 162 = (hr13 162) := pA_r18.row 162 (by decide)
    have w_r18_r163 : hr18 163 = (hr13 163) := pA_r18.row 163 (by decide)
    have w_r18_r165 : hr18 165 = (hr13 165) := pA_r18.row 165 (by decide)
    have w_r18_r166 : hr18 166 = (hr13 166) := pA_r18.row 166 (by decide)
    have w_r18_56 : (hr18 137 56).toInt = (hr13 137 56).toInt := congrArg Int32.toInt (pA_r18.get 137 56 (by decide))
    have w_r18_70 : (hr18 137 70).toInt = (hr13 137 70).toInt := congrArg Int32.toInt (pA_r18.get 137 70 (by decide))
    have w_r18_58 : (hr18 137 58).toInt = (hr13 137 58).toInt := congrArg Int32.toInt (pA_r18.get 137 58 (by decide))
    have w_r18_25 : (hr18 137 25).toInt = (hr13 137 25).toInt := congrArg Int32.toInt (pA_r18.get 137 25 (by decide))
    refine lv_iload hx hb dX12_tellWindow_400 (lv_at hl 9 rfl) ?_
    refine lv_if_le (tgt := 422) hx hb dX12_tellWindow_402 (by decide) (fun c_402 => ?_) (fun c_402 => ?_)
    · skip
      have c_402 := pi_le.mp c_402
      refine lv_aload_n hx hb dX12_tellWindow_422 rfl (lv_at hl 4 rfl) ?_
      refine pg_r M V 12 72 (sm_this S) pC12 fk12_72 (sm_clip S).2.2 lkF_X12_147 dX12_tellWindow_423 ?_
      refine lv_iconst (v := 1) hx hb dX12_tellWindow_426 (by decide) ?_
      refine lv_iload hx hb dX12_tellWindow_427 (lv_at hl 2 rfl) ?_
      refine lv_iload hx hb dX12_tellWindow_429 (lv_at hl 9 rfl) ?_
      refine lv_iadd hx hb dX12_tellWindow_431 ?_
      refine lv_topi (fun v19 ev19 => ?_)
      refine lv_iconst (v := 0) hx hb dX12_tellWindow_432 (by decide) ?_
      refine pk_i (pr_S M V (m_X12_max l (Z := Z) (h := _) v19 (0 : Int32)) km_X12_max lkM_X12_182 rfl hl.1 rfl (Nat.le_of_ble_eq_true rfl) ⟨Nat.le_of_ble_eq_true rfl, Nat.le_of_ble_eq_true rfl⟩ ⟨Nat.le_of_ble_eq_true rfl, Nat.le_of_ble_eq_true rfl⟩ dX12_tellWindow_433) V (fun r20 Zr20 hr20 H locs pr20 _ _ V => ?_)
      obtain ⟨rfl, rfl, fr20_0, fr20_1, fr20_2⟩ := pr20
      refine ps_i M V (sm_clip S).1 (by rw [(sm_clip S).2.1]; exact pi_in (by omega)) dX12_tellWindow_436 (fun H locs V => ?_)
      have A := A.upA (o := 179) (k := (1 : Int32).toNatClampNeg) (v := r20) (by decide)
      have I := I.up (k := (1 : Int32).toNatClampNeg) (v := r20) (sm_clip S).1 (pi_full _)
      exact pe_v M V rfl rfl hr hlk ⟨rfl, I, A.wk (by decide), (mS.push (i := (h 137 56).toNatClampNeg) (kind := (0 : Int32)) (ar := r11) (nu := w) S0 z56 (by omega) (show (hr18 137 56).toInt = _ by omega) (show (hr18 137 70).toInt = _ by rw [if_neg (by decide)]; omega) (show (hr18 137 58).toInt = _ by rw [if_neg (by decide)]; omega) (show (hr18 162) = _ by rw [w_r18_r162, w_r13_r162, fr12_0, st_162, so_56]) (show (hr18 163) = _ by rw [w_r18_r163, w_r13_r163, fr12_1, st_163, so_56, so_58]) (show (hr18 165) = _ by rw [w_r18_r165, w_r13_r165, fr12_2, st_165, so_56]) (show (hr18 166) = _ by rw [w_r18_r166, w_r13_r166, fr12_3, st_166, so_56]) (fun _ => rfl) (fun _ => by omega) (fun z9 => absurd z9 (by decide))), (show (h 137 25).toInt + (1) ≤ (hr18 137 25).toInt ∧ (hr18 137 25).toInt ≤ (h 137 25).toInt + (1) by omega), (show (h 137 82).toInt + (0) ≤ (hr18 137 82).toInt ∧ (hr18 137 82).toInt ≤ (h 137 82).toInt + (2) by omega)⟩ ⟨Nat.le_refl _, Nat.le_refl _⟩ dX12_tellWindow_437
    · skip
      have c_402 := pi_le' c_402
      refine lv_aload_n hx hb dX12_tellWindow_405 rfl (lv_at hl 4 rfl) ?_
      refine lv_iload hx hb dX12_tellWindow_406 (lv_at hl 3 rfl) ?_
      refine lv_iload hx hb dX12_tellWindow_408 (lv_at hl 2 rfl) ?_
      refine lv_iload hx hb dX12_tellWindow_410 (lv_at hl 1 rfl) ?_
      refine lv_iload hx hb dX12_tellWindow_412 (lv_at hl 2 rfl) ?_
      refine lv_bipush (v := 12) hx hb dX12_tellWindow_414 (by decide) ?_
      refine lv_iadd hx hb dX12_tellWindow_416 ?_
      refine lv_topi (fun v21 ev21 => ?_)
      refine lv_iconst (v := 2) hx hb dX12_tellWindow_417 (by decide) ?_
      refine lv_iconst (v := 0) hx hb dX12_tellWindow_418 (by decide) ?_
      refine pk_v (pr_V M V (m_X12_quadClipped l S I v1 v2 v3 v21 (2 : Int32) (0 : Int32) (show (hr18 137 82).toInt ≤ 6999 by omega)) km_X12_quadClipped (sm_this S) pC12 lkM_X12_320 rfl hl.1 rfl (Nat.le_of_ble_eq_true rfl) ⟨Nat.le_of_ble_eq_true rfl, Nat.le_of_ble_eq_true rfl⟩ ⟨Nat.le_of_ble_eq_true rfl, Nat.le_of_ble_eq_true rfl⟩ dX12_tellWindow_419) V (fun Zr22 hr22 H locs pr22 _ _ V => ?_)
      obtain ⟨rfl, I, pA_r22, fr22_0⟩ := pr22
      have fr22_0 : (hr18 137 82).toInt + (0) ≤ (hr22 137 82).toInt ∧ (hr22 137 82).toInt ≤ (hr18 137 82).toInt + (1) := fr22_0
      have A := A.tr pA_r22 (by decide)
      have w_r22_r162 : hr22 162 = (hr18 162) := pA_r22.row 162 (by decide)
      have w_r22_r163 : hr22 163 = (hr18 163) := pA_r22.row 163 (by decide)
      have w_r22_r165 : hr22 165 = (hr18 165) := pA_r22.row 165 (by decide)
      have w_r22_r166 : hr22 166 = (hr18 166) := pA_r22.row 166 (by decide)
      have w_r22_56 : (hr22 137 56).toInt = (hr18 137 56).toInt := congrArg Int32.toInt (pA_r22.get 137 56 (by decide))
      have w_r22_70 : (hr22 137 70).toInt = (hr18 137 70).toInt := congrArg Int32.toInt (pA_r22.get 137 70 (by decide))
      have w_r22_58 : (hr22 137 58).toInt = (hr18 137 58).toInt := congrArg Int32.toInt (pA_r22.get 137 58 (by decide))
      have w_r22_25 : (hr22 137 25).toInt = (hr18 137 25).toInt := congrArg Int32.toInt (pA_r22.get 137 25 (by decide))
      refine lv_aload_n hx hb dX12_tellWindow_422 rfl (lv_at hl 4 rfl) ?_
      refine pg_r M V 12 72 (sm_this S) pC12 fk12_72 (sm_clip S).2.2 lkF_X12_147 dX12_tellWindow_423 ?_
      refine lv_iconst (v := 1) hx hb dX12_tellWindow_426 (by decide) ?_
      refine lv_iload hx hb dX12_tellWindow_427 (lv_at hl 2 rfl) ?_
      refine lv_iload hx hb dX12_tellWindow_429 (lv_at hl 9 rfl) ?_
      refine lv_iadd hx hb dX12_tellWindow_431 ?_
      refine lv_topi (fun v23 ev23 => ?_)
      refine lv_iconst (v := 0) hx hb dX12_tellWindow_432 (by decide) ?_
      refine pk_i (pr_S M V (m_X12_max l (Z := Z) (h := _) v23 (0 : Int32)) km_X12_max lkM_X12_182 rfl hl.1 rfl (Nat.le_of_ble_eq_true rfl) ⟨Nat.le_of_ble_eq_true rfl, Nat.le_of_ble_eq_true rfl⟩ ⟨Nat.le_of_ble_eq_true rfl, Nat.le_of_ble_eq_true rfl⟩ dX12_tellWindow_433) V (fun r24 Zr24 hr24 H locs pr24 _ _ V => ?_)
      obtain ⟨rfl, rfl, fr24_0, fr24_1, fr24_2⟩ := pr24
      refine ps_i M V (sm_clip S).1 (by rw [(sm_clip S).2.1]; exact pi_in (by omega)) dX12_tellWindow_436 (fun H locs V => ?_)
      have A := A.upA (o := 179) (k := (1 : Int32).toNatClampNeg) (v := r24) (by decide)
      have I := I.up (k := (1 : Int32).toNatClampNeg) (v := r24) (sm_clip S).1 (pi_full _)
      exact pe_v M V rfl rfl hr hlk ⟨rfl, I, A.wk (by decide), (mS.push (i := (h 137 56).toNatClampNeg) (kind := (0 : Int32)) (ar := r11) (nu := w) S0 z56 (by omega) (show (hr22 137 56).toInt = _ by omega) (show (hr22 137 70).toInt = _ by rw [if_neg (by decide)]; omega) (show (hr22 137 58).toInt = _ by rw [if_neg (by decide)]; omega) (show (hr22 162) = _ by rw [w_r22_r162, w_r18_r162, w_r13_r162, fr12_0, st_162, so_56]) (show (hr22 163) = _ by rw [w_r22_r163, w_r18_r163, w_r13_r163, fr12_1, st_163, so_56, so_58]) (show (hr22 165) = _ by rw [w_r22_r165, w_r18_r165, w_r13_r165, fr12_2, st_165, so_56]) (show (hr22 166) = _ by rw [w_r22_r166, w_r18_r166, w_r13_r166, fr12_3, st_166, so_56]) (fun _ => rfl) (fun _ => by omega) (fun z9 => absurd z9 (by decide))), (show (h 137 25).toInt + (1) ≤ (hr22 137 25).toInt ∧ (hr22 137 25).toInt ≤ (h 137 25).toInt + (1) by omega), (show (h 137 82).toInt + (0) ≤ (hr22 137 82).toInt ∧ (hr22 137 82).toInt ≤ (h 137 82).toInt + (2) by omega)⟩ ⟨Nat.le_refl _, Nat.le_refl _⟩ dX12_tellWindow_437
  have J_262 : ∀ (x262_4 : Int32) (x262_5 : Int32) (x262_6 : Int32) (y262_0 : Int32) (y262_1 : Int32) (hJ : pH) (H : Heap) (locs : List Loc) (ls : Array Slot), pV Z hJ s.heap H locs → Iv Z hJ → agr [(137, 19), (137, 25), (143, 1000), (147, 1000), (148, 1000), (149, 1000), (153, 1000), (155, 1000)] h hJ → lv_has ls 10 [(0, .ref (zB Z + 137)), (1, .int w), (2, .int width), (3, .int tall), (4, .int x262_4), (5, .int x262_5), (6, .int x262_6)] → (0 ≤ w.toInt ∧ w.toInt ≤ 7) → (1000 ≤ x262_4.toInt ∧ x262_4.toInt ≤ 1008) → (0 ≤ x262_5.toInt ∧ x262_5.toInt ≤ 12) → (0 ≤ x262_6.toInt ∧ x262_6.toInt ≤ 1) → (0 ≤ y262_0.toInt ∧ y262_0.toInt ≤ 1) → (0 ≤ y262_1.toInt ∧ y262_1.toInt ≤ 7) → ((h 137 56).toInt + (0) ≤ (hJ 137 56).toInt ∧ (hJ 137 56).toInt ≤ (h 137 56).toInt + (0)) → ((h 137 70).toInt + (0) ≤ (hJ 137 70).toInt ∧ (hJ 137 70).toInt ≤ (h 137 70).toInt + (0)) → ((h 137 58).toInt + (0) ≤ (hJ 137 58).toInt ∧ (hJ 137 58).toInt ≤ (h 137 58).toInt + (0)) → ((h 137 25).toInt + (1) ≤ (hJ 137 25).toInt ∧ (hJ 137 25).toInt ≤ (h 137 25).toInt + (1)) → ((h 137 82).toInt + (0) ≤ (hJ 137 82).toInt ∧ (hJ 137 82).toInt ≤ (h 137 82).toInt + (0)) → W p l e (pRm 3 0 0 78) s m ([.ref (zB Z + 137), .int w, .int width, .int tall] : List Value).toArray below meth c H locs 0 0 (MQ below (pQv Z (fun Z1 h1 => Z = Z1 ∧ Iv Z h1 ∧ agr [(147, 1000), (148, 1000), (153, 1000), (155, 1000), (149, 1000), (152, 1000), (179, 1000), (143, 1000), (186, 1000), (162, 1000), (163, 1000), (165, 1000), (166, 1000), (164, 1000), (167, 1000), (168, 1000), (169, 1000), (170, 1000), (174, 1000), (175, 1000), (176, 1000), (177, 1000), (137, 25), (137, 19), (137, 71), (137, 56), (137, 70), (137, 58), (137, 82)] h h1 ∧ (mS h1) ∧ ((h 137 25).toInt + (1) ≤ (h1 137 25).toInt ∧ (h1 137 25).toInt ≤ (h 137 25).toInt + (1)) ∧ ((h 137 82).toInt + (0) ≤ (h1 137 82).toInt ∧ (h1 137 82).toInt ≤ (h 137 82).toInt + (2)))) ([.ref (zB Z + 137), .int w, .int width, .int tall] : List Value).toArray s 0 0 (pA (zB Z))) (F0 m 262 ls [.int y262_0, .int y262_1, .ref (zB Z + 152)]) := by
    intro x262_4 x262_5 x262_6 y262_0 y262_1 hJ H locs ls V I A hl g_262_1 g_262_4 g_262_5 g_262_6 gs_262_0 gs_262_1 gd_262_56 gd_262_70 gd_262_58 gd_262_25 gd_262_82
    refine ps_z M V (sm_collapsed S).1 (by rw [(sm_collapsed S).2.1]; exact pi_in (by omega)) (pi_z (by omega)) dX12_tellWindow_262 (fun H locs V => ?_)
    have A := A.wk (l3 := [(137, 19), (137, 25), (143, 1000), (147, 1000), (148, 1000), (149, 1000), (153, 1000), (155, 1000), (152, 1000)]) (by decide)
    have A := A.upA (o := 152) (k := y262_1.toNatClampNeg) (v := y262_0) (by decide)
    have I := I.up (k := y262_1.toNatClampNeg) (v := y262_0) (sm_collapsed S).1 (show (0 : Int) ≤ y262_0.toInt ∧ y262_0.toInt ≤ (1 : Int) by omega)
    exact J_263 x262_4 x262_5 _ _ _ _ V I (A.wk (by decide)) (lv_sub hl [0, 1, 2, 3, 4, 5] rfl) (by omega) (by omega) (by omega) (show (h 137 56).toInt + (0) ≤ (hJ 137 56).toInt ∧ (hJ 137 56).toInt ≤ (h 137 56).toInt + (0) by omega) (show (h 137 70).toInt + (0) ≤ (hJ 137 70).toInt ∧ (hJ 137 70).toInt ≤ (h 137 70).toInt + (0) by omega) (show (h 137 58).toInt + (0) ≤ (hJ 137 58).toInt ∧ (hJ 137 58).toInt ≤ (h 137 58).toInt + (0) by omega) (show (h 137 25).toInt + (1) ≤ (hJ 137 25).toInt ∧ (hJ 137 25).toInt ≤ (h 137 25).toInt + (1) by omega) (show (h 137 82).toInt + (0) ≤ (hJ 137 82).toInt ∧ (hJ 137 82).toInt ≤ (h 137 82).toInt + (0) by omega) 
  have J_200 : ∀ (x200_4 : Int32) (x200_5 : Int32) (x200_6 : Int32) (hJ : pH) (H : Heap) (locs : List Loc) (ls : Array Slot), pV Z hJ s.heap H locs → Iv Z hJ → agr [(137, 19), (137, 25), (143, 1000), (147, 1000), (148, 1000), (149, 1000), (153, 1000), (155, 1000)] h hJ → lv_has ls 10 [(0, .ref (zB Z + 137)), (1, .int w), (2, .int width), (3, .int tall), (4, .int x200_4), (5, .int x200_5), (6, .int x200_6)] → (0 ≤ w.toInt ∧ w.toInt ≤ 7) → (1000 ≤ x200_4.toInt ∧ x200_4.toInt ≤ 1008) → (0 ≤ x200_5.toInt ∧ x200_5.toInt ≤ 12) → (0 ≤ x200_6.toInt ∧ x200_6.toInt ≤ 1) → ((h 137 56).toInt + (0) ≤ (hJ 137 56).toInt ∧ (hJ 137 56).toInt ≤ (h 137 56).toInt + (0)) → ((h 137 70).toInt + (0) ≤ (hJ 137 70).toInt ∧ (hJ 137 70).toInt ≤ (h 137 70).toInt + (0)) → ((h 137 58).toInt + (0) ≤ (hJ 137 58).toInt ∧ (hJ 137 58).toInt ≤ (h 137 58).toInt + (0)) → ((h 137 25).toInt + (1) ≤ (hJ 137 25).toInt ∧ (hJ 137 25).toInt ≤ (h 137 25).toInt + (1)) → ((h 137 82).toInt + (0) ≤ (hJ 137 82).toInt ∧ (hJ 137 82).toInt ≤ (h 137 82).toInt + (0)) → W p l e (pRm 3 0 0 78) s m ([.ref (zB Z + 137), .int w, .int width, .int tall] : List Value).toArray below meth c H locs 0 0 (MQ below (pQv Z (fun Z1 h1 => Z = Z1 ∧ Iv Z h1 ∧ agr [(147, 1000), (148, 1000), (153, 1000), (155, 1000), (149, 1000), (152, 1000), (179, 1000), (143, 1000), (186, 1000), (162, 1000), (163, 1000), (165, 1000), (166, 1000), (164, 1000), (167, 1000), (168, 1000), (169, 1000), (170, 1000), (174, 1000), (175, 1000), (176, 1000), (177, 1000), (137, 25), (137, 19), (137, 71), (137, 56), (137, 70), (137, 58), (137, 82)] h h1 ∧ (mS h1) ∧ ((h 137 25).toInt + (1) ≤ (h1 137 25).toInt ∧ (h1 137 25).toInt ≤ (h 137 25).toInt + (1)) ∧ ((h 137 82).toInt + (0) ≤ (h1 137 82).toInt ∧ (h1 137 82).toInt ≤ (h 137 82).toInt + (2)))) ([.ref (zB Z + 137), .int w, .int width, .int tall] : List Value).toArray s 0 0 (pA (zB Z))) (F0 m 200 ls []) := by
    intro x200_4 x200_5 x200_6 hJ H locs ls V I A hl g_200_1 g_200_4 g_200_5 g_200_6 gd_200_56 gd_200_70 gd_200_58 gd_200_25 gd_200_82
    refine lv_aload_n hx hb dX12_tellWindow_200 rfl (lv_at hl 0 rfl) ?_
    refine pg_i M V 12 19 (sm_this S) pC12 fk12_19 lkF_X12_255 dX12_tellWindow_201 ?_
    refine lv_topi (fun v25 ev25 => ?_)
    refine lv_iload hx hb dX12_tellWindow_204 (lv_at hl 4 rfl) ?_
    refine lv_icmp_ne (tgt := 263) hx hb dX12_tellWindow_206 (by decide) (fun c_206 => ?_) (fun c_206 => ?_)
    · skip
      have c_206 := pi_ne c_206
      exact J_263 x200_4 x200_5 _ _ _ _ V I (A.wk (by decide)) (lv_sub hl [0, 1, 2, 3, 4, 5] rfl) (by omega) (by omega) (by omega) (show (h 137 56).toInt + (0) ≤ (hJ 137 56).toInt ∧ (hJ 137 56).toInt ≤ (h 137 56).toInt + (0) by omega) (show (h 137 70).toInt + (0) ≤ (hJ 137 70).toInt ∧ (hJ 137 70).toInt ≤ (h 137 70).toInt + (0) by omega) (show (h 137 58).toInt + (0) ≤ (hJ 137 58).toInt ∧ (hJ 137 58).toInt ≤ (h 137 58).toInt + (0) by omega) (show (h 137 25).toInt + (1) ≤ (hJ 137 25).toInt ∧ (hJ 137 25).toInt ≤ (h 137 25).toInt + (1) by omega) (show (h 137 82).toInt + (0) ≤ (hJ 137 82).toInt ∧ (hJ 137 82).toInt ≤ (h 137 82).toInt + (0) by omega) 
    · skip
      have c_206 := pi_eq.mp c_206
      refine lv_aload_n hx hb dX12_tellWindow_209 rfl (lv_at hl 0 rfl) ?_
      refine pg_i M V 12 14 (sm_this S) pC12 fk12_14 lkF_X12_205 dX12_tellWindow_210 ?_
      refine lv_topi (fun v26 ev26 => ?_)
      have tv26 : 0 ≤ v26.toInt ∧ v26.toInt ≤ 1 := by rw [ev26]; exact I.get (sm_this S) 14
      refine lv_if_eq (tgt := 263) hx hb dX12_tellWindow_213 (by decide) (fun c_213 => ?_) (fun c_213 => ?_)
      · skip
        have k_0 : (0 : Int32).toInt = 0 := rfl
        have c_213 := pi_eq.mp c_213
        exact J_263 x200_4 x200_5 _ _ _ _ V I (A.wk (by decide)) (lv_sub hl [0, 1, 2, 3, 4, 5] rfl) (by omega) (by omega) (by omega) (show (h 137 56).toInt + (0) ≤ (hJ 137 56).toInt ∧ (hJ 137 56).toInt ≤ (h 137 56).toInt + (0) by omega) (show (h 137 70).toInt + (0) ≤ (hJ 137 70).toInt ∧ (hJ 137 70).toInt ≤ (h 137 70).toInt + (0) by omega) (show (h 137 58).toInt + (0) ≤ (hJ 137 58).toInt ∧ (hJ 137 58).toInt ≤ (h 137 58).toInt + (0) by omega) (show (h 137 25).toInt + (1) ≤ (hJ 137 25).toInt ∧ (hJ 137 25).toInt ≤ (h 137 25).toInt + (1) by omega) (show (h 137 82).toInt + (0) ≤ (hJ 137 82).toInt ∧ (hJ 137 82).toInt ≤ (h 137 82).toInt + (0) by omega) 
      · skip
        have k_0 : (0 : Int32).toInt = 0 := rfl
        have c_213 := pi_ne c_213
        refine lv_aload_n hx hb dX12_tellWindow_216 rfl (lv_at hl 0 rfl) ?_
        refine lv_iconst (v := 0) hx hb dX12_tellWindow_217 (by decide) ?_
        refine pp_i M V 12 19 (sm_this S) pC12 fk12_19 rfl lkF_X12_255 ⟨rfl, rfl⟩ dX12_tellWindow_218 (fun H locs V => ?_)
        have A := A.up (o := 137) (k := 19) (v := (0 : Int32)) (by decide)
        have I := I.up (k := 19) (v := (0 : Int32)) (sm_this S) (pi_full _)
        refine lv_aload_n hx hb dX12_tellWindow_221 rfl (lv_at hl 0 rfl) ?_
        refine pg_i M V 12 3 (sm_this S) pC12 fk12_3 lkF_X12_192 dX12_tellWindow_222 ?_
        refine lv_topi (fun v27 ev27 => ?_)
        refine lv_aload_n hx hb dX12_tellWindow_225 rfl (lv_at hl 0 rfl) ?_
        refine pg_i M V 12 7 (sm_this S) pC12 fk12_7 lkF_X12_208 dX12_tellWindow_226 ?_
        refine lv_topi (fun v28 ev28 => ?_)
        refine lv_icmp_ne (tgt := 263) hx hb dX12_tellWindow_229 (by decide) (fun c_229 => ?_) (fun c_229 => ?_)
        · skip
          have c_229 := pi_ne c_229
          exact J_263 x200_4 x200_5 _ _ _ _ V I (A.wk (by decide)) (lv_sub hl [0, 1, 2, 3, 4, 5] rfl) (by omega) (by omega) (by omega) (show (h 137 56).toInt + (0) ≤ (hJ 137 56).toInt ∧ (hJ 137 56).toInt ≤ (h 137 56).toInt + (0) by omega) (show (h 137 70).toInt + (0) ≤ (hJ 137 70).toInt ∧ (hJ 137 70).toInt ≤ (h 137 70).toInt + (0) by omega) (show (h 137 58).toInt + (0) ≤ (hJ 137 58).toInt ∧ (hJ 137 58).toInt ≤ (h 137 58).toInt + (0) by omega) (show (h 137 25).toInt + (1) ≤ (hJ 137 25).toInt ∧ (hJ 137 25).toInt ≤ (h 137 25).toInt + (1) by omega) (show (h 137 82).toInt + (0) ≤ (hJ 137 82).toInt ∧ (hJ 137 82).toInt ≤ (h 137 82).toInt + (0) by omega) 
        · skip
          have c_229 := pi_eq.mp c_229
          refine lv_aload_n hx hb dX12_tellWindow_232 rfl (lv_at hl 0 rfl) ?_
          refine pg_i M V 12 4 (sm_this S) pC12 fk12_4 lkF_X12_195 dX12_tellWindow_233 ?_
          refine lv_topi (fun v29 ev29 => ?_)
          refine lv_aload_n hx hb dX12_tellWindow_236 rfl (lv_at hl 0 rfl) ?_
          refine pg_i M V 12 8 (sm_this S) pC12 fk12_8 lkF_X12_211 dX12_tellWindow_237 ?_
          refine lv_topi (fun v30 ev30 => ?_)
          refine lv_icmp_ne (tgt := 263) hx hb dX12_tellWindow_240 (by decide) (fun c_240 => ?_) (fun c_240 => ?_)
          · skip
            have c_240 := pi_ne c_240
            exact J_263 x200_4 x200_5 _ _ _ _ V I (A.wk (by decide)) (lv_sub hl [0, 1, 2, 3, 4, 5] rfl) (by omega) (by omega) (by omega) (show (h 137 56).toInt + (0) ≤ (hJ 137 56).toInt ∧ (hJ 137 56).toInt ≤ (h 137 56).toInt + (0) by omega) (show (h 137 70).toInt + (0) ≤ (hJ 137 70).toInt ∧ (hJ 137 70).toInt ≤ (h 137 70).toInt + (0) by omega) (show (h 137 58).toInt + (0) ≤ (hJ 137 58).toInt ∧ (hJ 137 58).toInt ≤ (h 137 58).toInt + (0) by omega) (show (h 137 25).toInt + (1) ≤ (hJ 137 25).toInt ∧ (hJ 137 25).toInt ≤ (h 137 25).toInt + (1) by omega) (show (h 137 82).toInt + (0) ≤ (hJ 137 82).toInt ∧ (hJ 137 82).toInt ≤ (h 137 82).toInt + (0) by omega) 
          · skip
            have c_240 := pi_eq.mp c_240
            refine lv_aload_n hx hb dX12_tellWindow_243 rfl (lv_at hl 0 rfl) ?_
            refine pg_r M V 12 36 (sm_this S) pC12 fk12_36 (sm_collapsed S).2.2 lkF_X12_57 dX12_tellWindow_244 ?_
            refine lv_iload_n hx hb dX12_tellWindow_247 rfl (lv_at hl 1 rfl) ?_
            refine lv_aload_n hx hb dX12_tellWindow_248 rfl (lv_at hl 0 rfl) ?_
            refine pg_r M V 12 36 (sm_this S) pC12 fk12_36 (sm_collapsed S).2.2 lkF_X12_57 dX12_tellWindow_249 ?_
            refine lv_iload_n hx hb dX12_tellWindow_252 rfl (lv_at hl 1 rfl) ?_
            refine pa_z M V (sm_collapsed S).1 (by rw [(sm_collapsed S).2.1]; exact pi_in (by omega)) dX12_tellWindow_253 ?_
            refine lv_topi (fun v31 ev31 => ?_)
            have tv31 : 0 ≤ v31.toInt ∧ v31.toInt ≤ 1 := by rw [ev31]; exact I.get (sm_collapsed S).1 _
            refine lv_if_ne (tgt := 261) hx hb dX12_tellWindow_254 (by decide) (fun c_254 => ?_) (fun c_254 => ?_)
            · skip
              have c_254 := pi_ne c_254
              refine lv_iconst (v := 0) hx hb dX12_tellWindow_261 (by decide) ?_
              exact J_262 x200_4 x200_5 x200_6 (0 : Int32) w _ _ _ _ V I (A.wk (by decide)) (lv_sub hl [0, 1, 2, 3, 4, 5, 6] rfl) (by omega) (by omega) (by omega) (by omega) (by omega) (by omega) (show (h 137 56).toInt + (0) ≤ (hJ 137 56).toInt ∧ (hJ 137 56).toInt ≤ (h 137 56).toInt + (0) by omega) (show (h 137 70).toInt + (0) ≤ (hJ 137 70).toInt ∧ (hJ 137 70).toInt ≤ (h 137 70).toInt + (0) by omega) (show (h 137 58).toInt + (0) ≤ (hJ 137 58).toInt ∧ (hJ 137 58).toInt ≤ (h 137 58).toInt + (0) by omega) (show (h 137 25).toInt + (1) ≤ (hJ 137 25).toInt ∧ (hJ 137 25).toInt ≤ (h 137 25).toInt + (1) by omega) (show (h 137 82).toInt + (0) ≤ (hJ 137 82).toInt ∧ (hJ 137 82).toInt ≤ (h 137 82).toInt + (0) by omega) 
            · skip
              have c_254 := pi_eq.mp c_254
              refine lv_iconst (v := 1) hx hb dX12_tellWindow_257 (by decide) ?_
              refine lv_goto (tgt := 262) hx hb dX12_tellWindow_258 (by decide) ?_
              have k_1 : (1 : Int32).toInt = 1 := rfl
              exact J_262 x200_4 x200_5 x200_6 (1 : Int32) w _ _ _ _ V I (A.wk (by decide)) (lv_sub hl [0, 1, 2, 3, 4, 5, 6] rfl) (by omega) (by omega) (by omega) (by omega) (by omega) (by omega) (show (h 137 56).toInt + (0) ≤ (hJ 137 56).toInt ∧ (hJ 137 56).toInt ≤ (h 137 56).toInt + (0) by omega) (show (h 137 70).toInt + (0) ≤ (hJ 137 70).toInt ∧ (hJ 137 70).toInt ≤ (h 137 70).toInt + (0) by omega) (show (h 137 58).toInt + (0) ≤ (hJ 137 58).toInt ∧ (hJ 137 58).toInt ≤ (h 137 58).toInt + (0) by omega) (show (h 137 25).toInt + (1) ≤ (hJ 137 25).toInt ∧ (hJ 137 25).toInt ≤ (h 137 25).toInt + (1) by omega) (show (h 137 82).toInt + (0) ≤ (hJ 137 82).toInt ∧ (hJ 137 82).toInt ≤ (h 137 82).toInt + (0) by omega) 
  have J_87 : ∀ (x87_4 : Int32) (x87_5 : Int32) (hJ : pH) (H : Heap) (locs : List Loc) (ls : Array Slot), pV Z hJ s.heap H locs → Iv Z hJ → agr [(137, 25), (143, 1000), (147, 1000), (148, 1000), (149, 1000), (153, 1000), (155, 1000)] h hJ → lv_has ls 10 [(0, .ref (zB Z + 137)), (1, .int w), (2, .int width), (3, .int tall), (4, .int x87_4), (5, .int x87_5)] → (0 ≤ w.toInt ∧ w.toInt ≤ 8) → (1000 ≤ x87_4.toInt ∧ x87_4.toInt ≤ 1008) → (0 ≤ x87_5.toInt ∧ x87_5.toInt ≤ 12) → ((h 137 56).toInt + (0) ≤ (hJ 137 56).toInt ∧ (hJ 137 56).toInt ≤ (h 137 56).toInt + (0)) → ((h 137 70).toInt + (0) ≤ (hJ 137 70).toInt ∧ (hJ 137 70).toInt ≤ (h 137 70).toInt + (0)) → ((h 137 58).toInt + (0) ≤ (hJ 137 58).toInt ∧ (hJ 137 58).toInt ≤ (h 137 58).toInt + (0)) → ((h 137 25).toInt + (1) ≤ (hJ 137 25).toInt ∧ (hJ 137 25).toInt ≤ (h 137 25).toInt + (1)) → ((h 137 82).toInt + (0) ≤ (hJ 137 82).toInt ∧ (hJ 137 82).toInt ≤ (h 137 82).toInt + (0)) → W p l e (pRm 3 0 0 78) s m ([.ref (zB Z + 137), .int w, .int width, .int tall] : List Value).toArray below meth c H locs 0 0 (MQ below (pQv Z (fun Z1 h1 => Z = Z1 ∧ Iv Z h1 ∧ agr [(147, 1000), (148, 1000), (153, 1000), (155, 1000), (149, 1000), (152, 1000), (179, 1000), (143, 1000), (186, 1000), (162, 1000), (163, 1000), (165, 1000), (166, 1000), (164, 1000), (167, 1000), (168, 1000), (169, 1000), (170, 1000), (174, 1000), (175, 1000), (176, 1000), (177, 1000), (137, 25), (137, 19), (137, 71), (137, 56), (137, 70), (137, 58), (137, 82)] h h1 ∧ (mS h1) ∧ ((h 137 25).toInt + (1) ≤ (h1 137 25).toInt ∧ (h1 137 25).toInt ≤ (h 137 25).toInt + (1)) ∧ ((h 137 82).toInt + (0) ≤ (h1 137 82).toInt ∧ (h1 137 82).toInt ≤ (h 137 82).toInt + (2)))) ([.ref (zB Z + 137), .int w, .int width, .int tall] : List Value).toArray s 0 0 (pA (zB Z))) (F0 m 87 ls []) := by
    intro x87_4 x87_5 hJ H locs ls V I A hl g_87_1 g_87_4 g_87_5 gd_87_56 gd_87_70 gd_87_58 gd_87_25 gd_87_82
    refine lv_aload_n hx hb dX12_tellWindow_87 rfl (lv_at hl 0 rfl) ?_
    refine pg_r M V 12 33 (sm_this S) pC12 fk12_33 (sm_scroll S).2.2 lkF_X12_48 dX12_tellWindow_88 ?_
    refine lv_iload_n hx hb dX12_tellWindow_91 rfl (lv_at hl 1 rfl) ?_
    refine lv_aload_n hx hb dX12_tellWindow_92 rfl (lv_at hl 0 rfl) ?_
    refine pg_r M V 12 33 (sm_this S) pC12 fk12_33 (sm_scroll S).2.2 lkF_X12_48 dX12_tellWindow_93 ?_
    refine lv_iload_n hx hb dX12_tellWindow_96 rfl (lv_at hl 1 rfl) ?_
    refine pa_i M V (sm_scroll S).1 (by rw [(sm_scroll S).2.1]; exact pi_in (by omega)) dX12_tellWindow_97 ?_
    refine lv_topi (fun v32 ev32 => ?_)
    refine lv_iconst (v := 0) hx hb dX12_tellWindow_98 (by decide) ?_
    refine lv_iconst (v := 0) hx hb dX12_tellWindow_99 (by decide) ?_
    refine lv_aload_n hx hb dX12_tellWindow_100 rfl (lv_at hl 0 rfl) ?_
    refine pg_r M V 12 34 (sm_this S) pC12 fk12_34 (sm_lowest S).2.2 lkF_X12_51 dX12_tellWindow_101 ?_
    refine lv_iload_n hx hb dX12_tellWindow_104 rfl (lv_at hl 1 rfl) ?_
    refine pa_i M V (sm_lowest S).1 (by rw [(sm_lowest S).2.1]; exact pi_in (by omega)) dX12_tellWindow_105 ?_
    refine lv_topi (fun v33 ev33 => ?_)
    refine lv_iload_n hx hb dX12_tellWindow_106 rfl (lv_at hl 3 rfl) ?_
    refine lv_iload hx hb dX12_tellWindow_107 (lv_at hl 5 rfl) ?_
    refine lv_isub hx hb dX12_tellWindow_109 ?_
    refine lv_topi (fun v34 ev34 => ?_)
    refine lv_isub hx hb dX12_tellWindow_110 ?_
    refine lv_topi (fun v35 ev35 => ?_)
    refine pk_i (pr_S M V (m_X12_max l (Z := Z) (h := _) (0 : Int32) v35) km_X12_max lkM_X12_182 rfl hl.1 rfl (Nat.le_of_ble_eq_true rfl) ⟨Nat.le_of_ble_eq_true rfl, Nat.le_of_ble_eq_true rfl⟩ ⟨Nat.le_of_ble_eq_true rfl, Nat.le_of_ble_eq_true rfl⟩ dX12_tellWindow_111) V (fun r36 Zr36 hr36 H locs pr36 _ _ V => ?_)
    obtain ⟨rfl, rfl, fr36_0, fr36_1, fr36_2⟩ := pr36
    have k_0 : (0 : Int32).toInt = 0 := rfl
    refine pk_i (pr_S M V (m_X12_between l (Z := Z) (h := _) v32 (0 : Int32) r36) km_X12_between lkM_X12_327 rfl hl.1 rfl (Nat.le_of_ble_eq_true rfl) ⟨Nat.le_of_ble_eq_true rfl, Nat.le_of_ble_eq_true rfl⟩ ⟨Nat.le_of_ble_eq_true rfl, Nat.le_of_ble_eq_true rfl⟩ dX12_tellWindow_114) V (fun r37 Zr37 hr37 H locs pr37 _ _ V => ?_)
    obtain ⟨rfl, rfl, fr37_0, fr37_1⟩ := pr37
    refine ps_i M V (sm_scroll S).1 (by rw [(sm_scroll S).2.1]; exact pi_in (by omega)) dX12_tellWindow_117 (fun H locs V => ?_)
    have A := A.upA (o := 149) (k := w.toNatClampNeg) (v := r37) (by decide)
    have I := I.up (k := w.toNatClampNeg) (v := r37) (sm_scroll S).1 (pi_full _)
    refine lv_iload_n hx hb dX12_tellWindow_118 rfl (lv_at hl 1 rfl) ?_
    refine lv_bipush (v := 8) hx hb dX12_tellWindow_119 (by decide) ?_
    refine lv_icmp_eq (tgt := 263) hx hb dX12_tellWindow_121 (by decide) (fun c_121 => ?_) (fun c_121 => ?_)
    · skip
      have k_8 : (8 : Int32).toInt = 8 := rfl
      have c_121 := pi_eq.mp c_121
      exact J_263 x87_4 x87_5 _ _ _ _ V I (A.wk (by decide)) (lv_sub hl [0, 1, 2, 3, 4, 5] rfl) (by omega) (by omega) (by omega) (show (h 137 56).toInt + (0) ≤ (hJ 137 56).toInt ∧ (hJ 137 56).toInt ≤ (h 137 56).toInt + (0) by omega) (show (h 137 70).toInt + (0) ≤ (hJ 137 70).toInt ∧ (hJ 137 70).toInt ≤ (h 137 70).toInt + (0) by omega) (show (h 137 58).toInt + (0) ≤ (hJ 137 58).toInt ∧ (hJ 137 58).toInt ≤ (h 137 58).toInt + (0) by omega) (show (h 137 25).toInt + (1) ≤ (hJ 137 25).toInt ∧ (hJ 137 25).toInt ≤ (h 137 25).toInt + (1) by omega) (show (h 137 82).toInt + (0) ≤ (hJ 137 82).toInt ∧ (hJ 137 82).toInt ≤ (h 137 82).toInt + (0) by omega) 
    · skip
      have k_8 : (8 : Int32).toInt = 8 := rfl
      have c_121 := pi_ne c_121
      refine lv_aload_n hx hb dX12_tellWindow_124 rfl (lv_at hl 0 rfl) ?_
      refine lv_aload_n hx hb dX12_tellWindow_125 rfl (lv_at hl 0 rfl) ?_
      refine pg_i M V 12 3 (sm_this S) pC12 fk12_3 lkF_X12_192 dX12_tellWindow_126 ?_
      refine lv_topi (fun v38 ev38 => ?_)
      refine lv_aload_n hx hb dX12_tellWindow_129 rfl (lv_at hl 0 rfl) ?_
      refine pg_i M V 12 4 (sm_this S) pC12 fk12_4 lkF_X12_195 dX12_tellWindow_130 ?_
      refine lv_topi (fun v39 ev39 => ?_)
      refine lv_aload_n hx hb dX12_tellWindow_133 rfl (lv_at hl 0 rfl) ?_
      refine pg_r M V 12 29 (sm_this S) pC12 fk12_29 (sm_x S).2.2 lkF_X12_36 dX12_tellWindow_134 ?_
      refine lv_iload_n hx hb dX12_tellWindow_137 rfl (lv_at hl 1 rfl) ?_
      refine pa_i M V (sm_x S).1 (by rw [(sm_x S).2.1]; exact pi_in (by omega)) dX12_tellWindow_138 ?_
      refine lv_topi (fun v40 ev40 => ?_)
      refine lv_aload_n hx hb dX12_tellWindow_139 rfl (lv_at hl 0 rfl) ?_
      refine pg_r M V 12 30 (sm_this S) pC12 fk12_30 (sm_y S).2.2 lkF_X12_39 dX12_tellWindow_140 ?_
      refine lv_iload_n hx hb dX12_tellWindow_143 rfl (lv_at hl 1 rfl) ?_
      refine pa_i M V (sm_y S).1 (by rw [(sm_y S).2.1]; exact pi_in (by omega)) dX12_tellWindow_144 ?_
      refine lv_topi (fun v41 ev41 => ?_)
      refine lv_aload_n hx hb dX12_tellWindow_145 rfl (lv_at hl 0 rfl) ?_
      refine pg_r M V 12 29 (sm_this S) pC12 fk12_29 (sm_x S).2.2 lkF_X12_36 dX12_tellWindow_146 ?_
      refine lv_iload_n hx hb dX12_tellWindow_149 rfl (lv_at hl 1 rfl) ?_
      refine pa_iv M V (v := v40) (sm_x S).1 (by rw [(sm_x S).2.1]; exact pi_in (by omega)) ev40.symm dX12_tellWindow_150 ?_
      refine lv_iload_n hx hb dX12_tellWindow_151 rfl (lv_at hl 2 rfl) ?_
      refine lv_iadd hx hb dX12_tellWindow_152 ?_
      refine lv_topi (fun v42 ev42 => ?_)
      refine lv_aload_n hx hb dX12_tellWindow_153 rfl (lv_at hl 0 rfl) ?_
      refine pg_r M V 12 30 (sm_this S) pC12 fk12_30 (sm_y S).2.2 lkF_X12_39 dX12_tellWindow_154 ?_
      refine lv_iload_n hx hb dX12_tellWindow_157 rfl (lv_at hl 1 rfl) ?_
      refine pa_iv M V (v := v41) (sm_y S).1 (by rw [(sm_y S).2.1]; exact pi_in (by omega)) ev41.symm dX12_tellWindow_158 ?_
      refine lv_bipush (v := 12) hx hb dX12_tellWindow_159 (by decide) ?_
      refine lv_iadd hx hb dX12_tellWindow_161 ?_
      refine lv_topi (fun v43 ev43 => ?_)
      refine pk_i (pr_V M V (m_X12_isIn l S I v38 v39 v40 v41 v42 v43) km_X12_isIn (sm_this S) pC12 lkM_X12_228 rfl hl.1 rfl (Nat.le_of_ble_eq_true rfl) ⟨Nat.le_of_ble_eq_true rfl, Nat.le_of_ble_eq_true rfl⟩ ⟨Nat.le_of_ble_eq_true rfl, Nat.le_of_ble_eq_true rfl⟩ dX12_tellWindow_162) V (fun r44 Zr44 hr44 H locs pr44 _ _ V => ?_)
      obtain ⟨rfl, rfl, fr44_0⟩ := pr44
      refine lv_istore (lv' := [(6, .int r44), (0, .ref (zB Z + 137)), (1, .int w), (2, .int width), (3, .int tall), (4, .int x87_4), (5, .int x87_5)]) hx hb dX12_tellWindow_165 hl (by decide) rfl (fun ls hl => ?_)
      refine lv_aload_n hx hb dX12_tellWindow_167 rfl (lv_at hl 1 rfl) ?_
      refine pg_i M V 12 23 (sm_this S) pC12 fk12_23 lkF_X12_26 dX12_tellWindow_168 ?_
      refine lv_topi (fun v45 ev45 => ?_)
      have tv45 : -1 ≤ v45.toInt ∧ v45.toInt ≤ 8 := by rw [ev45]; exact I.get (sm_this S) 23
      refine lv_iload_n hx hb dX12_tellWindow_171 rfl (lv_at hl 2 rfl) ?_
      refine lv_icmp_ne (tgt := 200) hx hb dX12_tellWindow_172 (by decide) (fun c_172 => ?_) (fun c_172 => ?_)
      · skip
        have c_172 := pi_ne c_172
        exact J_200 x87_4 x87_5 r44 _ _ _ _ V I (A.wk (by decide)) (lv_sub hl [1, 2, 3, 4, 5, 6, 0] rfl) (by omega) (by omega) (by omega) (by omega) (show (h 137 56).toInt + (0) ≤ (hJ 137 56).toInt ∧ (hJ 137 56).toInt ≤ (h 137 56).toInt + (0) by omega) (show (h 137 70).toInt + (0) ≤ (hJ 137 70).toInt ∧ (hJ 137 70).toInt ≤ (h 137 70).toInt + (0) by omega) (show (h 137 58).toInt + (0) ≤ (hJ 137 58).toInt ∧ (hJ 137 58).toInt ≤ (h 137 58).toInt + (0) by omega) (show (h 137 25).toInt + (1) ≤ (hJ 137 25).toInt ∧ (hJ 137 25).toInt ≤ (h 137 25).toInt + (1) by omega) (show (h 137 82).toInt + (0) ≤ (hJ 137 82).toInt ∧ (hJ 137 82).toInt ≤ (h 137 82).toInt + (0) by omega) 
      · skip
        have c_172 := pi_eq.mp c_172
        refine lv_aload_n hx hb dX12_tellWindow_175 rfl (lv_at hl 1 rfl) ?_
        refine pg_i M V 12 13 (sm_this S) pC12 fk12_13 lkF_X12_202 dX12_tellWindow_176 ?_
        refine lv_topi (fun v46 ev46 => ?_)
        have tv46 : 0 ≤ v46.toInt ∧ v46.toInt ≤ 1 := by rw [ev46]; exact I.get (sm_this S) 13
        refine lv_if_eq (tgt := 200) hx hb dX12_tellWindow_179 (by decide) (fun c_179 => ?_) (fun c_179 => ?_)
        · skip
          have c_179 := pi_eq.mp c_179
          exact J_200 x87_4 x87_5 r44 _ _ _ _ V I (A.wk (by decide)) (lv_sub hl [1, 2, 3, 4, 5, 6, 0] rfl) (by omega) (by omega) (by omega) (by omega) (show (h 137 56).toInt + (0) ≤ (hJ 137 56).toInt ∧ (hJ 137 56).toInt ≤ (h 137 56).toInt + (0) by omega) (show (h 137 70).toInt + (0) ≤ (hJ 137 70).toInt ∧ (hJ 137 70).toInt ≤ (h 137 70).toInt + (0) by omega) (show (h 137 58).toInt + (0) ≤ (hJ 137 58).toInt ∧ (hJ 137 58).toInt ≤ (h 137 58).toInt + (0) by omega) (show (h 137 25).toInt + (1) ≤ (hJ 137 25).toInt ∧ (hJ 137 25).toInt ≤ (h 137 25).toInt + (1) by omega) (show (h 137 82).toInt + (0) ≤ (hJ 137 82).toInt ∧ (hJ 137 82).toInt ≤ (h 137 82).toInt + (0) by omega) 
        · skip
          have c_179 := pi_ne c_179
          refine lv_iload hx hb dX12_tellWindow_182 (lv_at hl 0 rfl) ?_
          refine lv_if_eq (tgt := 200) hx hb dX12_tellWindow_184 (by decide) (fun c_184 => ?_) (fun c_184 => ?_)
          · skip
            have c_184 := pi_eq.mp c_184
            exact J_200 x87_4 x87_5 r44 _ _ _ _ V I (A.wk (by decide)) (lv_sub hl [1, 2, 3, 4, 5, 6, 0] rfl) (by omega) (by omega) (by omega) (by omega) (show (h 137 56).toInt + (0) ≤ (hJ 137 56).toInt ∧ (hJ 137 56).toInt ≤ (h 137 56).toInt + (0) by omega) (show (h 137 70).toInt + (0) ≤ (hJ 137 70).toInt ∧ (hJ 137 70).toInt ≤ (h 137 70).toInt + (0) by omega) (show (h 137 58).toInt + (0) ≤ (hJ 137 58).toInt ∧ (hJ 137 58).toInt ≤ (h 137 58).toInt + (0) by omega) (show (h 137 25).toInt + (1) ≤ (hJ 137 25).toInt ∧ (hJ 137 25).toInt ≤ (h 137 25).toInt + (1) by omega) (show (h 137 82).toInt + (0) ≤ (hJ 137 82).toInt ∧ (hJ 137 82).toInt ≤ (h 137 82).toInt + (0) by omega) 
          · skip
            have c_184 := pi_ne c_184
            refine lv_aload_n hx hb dX12_tellWindow_187 rfl (lv_at hl 1 rfl) ?_
            refine pg_i M V 12 19 (sm_this S) pC12 fk12_19 lkF_X12_255 dX12_tellWindow_188 ?_
            refine lv_topi (fun v47 ev47 => ?_)
            refine lv_if_ne (tgt := 200) hx hb dX12_tellWindow_191 (by decide) (fun c_191 => ?_) (fun c_191 => ?_)
            · skip
              have c_191 := pi_ne c_191
              exact J_200 x87_4 x87_5 r44 _ _ _ _ V I (A.wk (by decide)) (lv_sub hl [1, 2, 3, 4, 5, 6, 0] rfl) (by omega) (by omega) (by omega) (by omega) (show (h 137 56).toInt + (0) ≤ (hJ 137 56).toInt ∧ (hJ 137 56).toInt ≤ (h 137 56).toInt + (0) by omega) (show (h 137 70).toInt + (0) ≤ (hJ 137 70).toInt ∧ (hJ 137 70).toInt ≤ (h 137 70).toInt + (0) by omega) (show (h 137 58).toInt + (0) ≤ (hJ 137 58).toInt ∧ (hJ 137 58).toInt ≤ (h 137 58).toInt + (0) by omega) (show (h 137 25).toInt + (1) ≤ (hJ 137 25).toInt ∧ (hJ 137 25).toInt ≤ (h 137 25).toInt + (1) by omega) (show (h 137 82).toInt + (0) ≤ (hJ 137 82).toInt ∧ (hJ 137 82).toInt ≤ (h 137 82).toInt + (0) by omega) 
            · skip
              have c_191 := pi_eq.mp c_191
              refine lv_aload_n hx hb dX12_tellWindow_194 rfl (lv_at hl 1 rfl) ?_
              refine lv_iload hx hb dX12_tellWindow_195 (lv_at hl 5 rfl) ?_
              refine pp_i M V 12 19 (sm_this S) pC12 fk12_19 rfl lkF_X12_255 ⟨rfl, rfl⟩ dX12_tellWindow_197 (fun H locs V => ?_)
              have A := A.wk (l3 := [(137, 25), (143, 1000), (147, 1000), (148, 1000), (149, 1000), (153, 1000), (155, 1000), (137, 19)]) (by decide)
              have A := A.up (o := 137) (k := 19) (v := x87_4) (by decide)
              have I := I.up (k := 19) (v := x87_4) (sm_this S) (pi_full _)
              exact J_200 x87_4 x87_5 r44 _ _ _ _ V I (A.wk (by decide)) (lv_sub hl [1, 2, 3, 4, 5, 6, 0] rfl) (by omega) (by omega) (by omega) (by omega) (show (h 137 56).toInt + (0) ≤ (hJ 137 56).toInt ∧ (hJ 137 56).toInt ≤ (h 137 56).toInt + (0) by omega) (show (h 137 70).toInt + (0) ≤ (hJ 137 70).toInt ∧ (hJ 137 70).toInt ≤ (h 137 70).toInt + (0) by omega) (show (h 137 58).toInt + (0) ≤ (hJ 137 58).toInt ∧ (hJ 137 58).toInt ≤ (h 137 58).toInt + (0) by omega) (show (h 137 25).toInt + (1) ≤ (hJ 137 25).toInt ∧ (hJ 137 25).toInt ≤ (h 137 25).toInt + (1) by omega) (show (h 137 82).toInt + (0) ≤ (hJ 137 82).toInt ∧ (hJ 137 82).toInt ≤ (h 137 82).toInt + (0) by omega) 
  have J_19 : ∀ (x19_4 : Int32) (y19_0 : Int32) (hJ : pH) (H : Heap) (locs : List Loc) (ls : Array Slot), pV Z hJ s.heap H locs → Iv Z hJ → agr [] h hJ → lv_has ls 10 [(0, .ref (zB Z + 137)), (1, .int w), (2, .int width), (3, .int tall), (4, .int x19_4)] → (0 ≤ w.toInt ∧ w.toInt ≤ 8) → (1000 ≤ x19_4.toInt ∧ x19_4.toInt ≤ 1008) → (0 ≤ y19_0.toInt ∧ y19_0.toInt ≤ 12) → ((h 137 56).toInt + (0) ≤ (hJ 137 56).toInt ∧ (hJ 137 56).toInt ≤ (h 137 56).toInt + (0)) → ((h 137 70).toInt + (0) ≤ (hJ 137 70).toInt ∧ (hJ 137 70).toInt ≤ (h 137 70).toInt + (0)) → ((h 137 58).toInt + (0) ≤ (hJ 137 58).toInt ∧ (hJ 137 58).toInt ≤ (h 137 58).toInt + (0)) → ((h 137 25).toInt + (0) ≤ (hJ 137 25).toInt ∧ (hJ 137 25).toInt ≤ (h 137 25).toInt + (0)) → ((h 137 82).toInt + (0) ≤ (hJ 137 82).toInt ∧ (hJ 137 82).toInt ≤ (h 137 82).toInt + (0)) → W p l e (pRm 3 0 0 78) s m ([.ref (zB Z + 137), .int w, .int width, .int tall] : List Value).toArray below meth c H locs 0 0 (MQ below (pQv Z (fun Z1 h1 => Z = Z1 ∧ Iv Z h1 ∧ agr [(147, 1000), (148, 1000), (153, 1000), (155, 1000), (149, 1000), (152, 1000), (179, 1000), (143, 1000), (186, 1000), (162, 1000), (163, 1000), (165, 1000), (166, 1000), (164, 1000), (167, 1000), (168, 1000), (169, 1000), (170, 1000), (174, 1000), (175, 1000), (176, 1000), (177, 1000), (137, 25), (137, 19), (137, 71), (137, 56), (137, 70), (137, 58), (137, 82)] h h1 ∧ (mS h1) ∧ ((h 137 25).toInt + (1) ≤ (h1 137 25).toInt ∧ (h1 137 25).toInt ≤ (h 137 25).toInt + (1)) ∧ ((h 137 82).toInt + (0) ≤ (h1 137 82).toInt ∧ (h1 137 82).toInt ≤ (h 137 82).toInt + (2)))) ([.ref (zB Z + 137), .int w, .int width, .int tall] : List Value).toArray s 0 0 (pA (zB Z))) (F0 m 19 ls [.int y19_0]) := by
    intro x19_4 y19_0 hJ H locs ls V I A hl g_19_1 g_19_4 gs_19_0 gd_19_56 gd_19_70 gd_19_58 gd_19_25 gd_19_82
    refine lv_istore (lv' := [(5, .int y19_0), (0, .ref (zB Z + 137)), (1, .int w), (2, .int width), (3, .int tall), (4, .int x19_4)]) hx hb dX12_tellWindow_19 hl (by decide) rfl (fun ls hl => ?_)
    refine lv_aload_n hx hb dX12_tellWindow_21 rfl (lv_at hl 1 rfl) ?_
    refine pg_r M V 12 31 (sm_this S) pC12 fk12_31 (sm_wide S).2.2 lkF_X12_42 dX12_tellWindow_22 ?_
    refine lv_iload_n hx hb dX12_tellWindow_25 rfl (lv_at hl 2 rfl) ?_
    refine lv_iload_n hx hb dX12_tellWindow_26 rfl (lv_at hl 3 rfl) ?_
    refine ps_i M V (sm_wide S).1 (by rw [(sm_wide S).2.1]; exact pi_in (by omega)) dX12_tellWindow_27 (fun H locs V => ?_)
    have A := A.wk (l3 := [(147, 1000)]) (by decide)
    have A := A.upA (o := 147) (k := w.toNatClampNeg) (v := width) (by decide)
    have I := I.up (k := w.toNatClampNeg) (v := width) (sm_wide S).1 (pi_full _)
    refine lv_aload_n hx hb dX12_tellWindow_28 rfl (lv_at hl 1 rfl) ?_
    refine pg_r M V 12 32 (sm_this S) pC12 fk12_32 (sm_high S).2.2 lkF_X12_45 dX12_tellWindow_29 ?_
    refine lv_iload_n hx hb dX12_tellWindow_32 rfl (lv_at hl 2 rfl) ?_
    refine lv_iload_n hx hb dX12_tellWindow_33 rfl (lv_at hl 4 rfl) ?_
    refine ps_i M V (sm_high S).1 (by rw [(sm_high S).2.1]; exact pi_in (by omega)) dX12_tellWindow_34 (fun H locs V => ?_)
    have A := A.wk (l3 := [(147, 1000), (148, 1000)]) (by decide)
    have A := A.upA (o := 148) (k := w.toNatClampNeg) (v := tall) (by decide)
    have I := I.up (k := w.toNatClampNeg) (v := tall) (sm_high S).1 (pi_full _)
    refine lv_aload_n hx hb dX12_tellWindow_35 rfl (lv_at hl 1 rfl) ?_
    refine pg_r M V 12 37 (sm_this S) pC12 fk12_37 (sm_here S).2.2 lkF_X12_60 dX12_tellWindow_36 ?_
    refine lv_iload_n hx hb dX12_tellWindow_39 rfl (lv_at hl 2 rfl) ?_
    refine lv_iconst (v := 1) hx hb dX12_tellWindow_40 (by decide) ?_
    have k_1 : (1 : Int32).toInt = 1 := rfl
    refine ps_z M V (sm_here S).1 (by rw [(sm_here S).2.1]; exact pi_in (by omega)) (pi_z (by omega)) dX12_tellWindow_41 (fun H locs V => ?_)
    have A := A.wk (l3 := [(147, 1000), (148, 1000), (153, 1000)]) (by decide)
    have A := A.upA (o := 153) (k := w.toNatClampNeg) (v := (1 : Int32)) (by decide)
    have I := I.up (k := w.toNatClampNeg) (v := (1 : Int32)) (sm_here S).1 (show (0 : Int) ≤ (1 : Int32).toInt ∧ (1 : Int32).toInt ≤ (1 : Int) by omega)
    refine lv_aload_n hx hb dX12_tellWindow_42 rfl (lv_at hl 1 rfl) ?_
    refine pg_r M V 12 39 (sm_this S) pC12 fk12_39 (sm_known S).2.2 lkF_X12_66 dX12_tellWindow_43 ?_
    refine lv_iload_n hx hb dX12_tellWindow_46 rfl (lv_at hl 2 rfl) ?_
    refine lv_iconst (v := 1) hx hb dX12_tellWindow_47 (by decide) ?_
    refine ps_z M V (sm_known S).1 (by rw [(sm_known S).2.1]; exact pi_in (by omega)) (pi_z (by omega)) dX12_tellWindow_48 (fun H locs V => ?_)
    have A := A.wk (l3 := [(147, 1000), (148, 1000), (153, 1000), (155, 1000)]) (by decide)
    have A := A.upA (o := 155) (k := w.toNatClampNeg) (v := (1 : Int32)) (by decide)
    have I := I.up (k := w.toNatClampNeg) (v := (1 : Int32)) (sm_known S).1 (show (0 : Int) ≤ (1 : Int32).toInt ∧ (1 : Int32).toInt ≤ (1 : Int) by omega)
    refine lv_aload_n hx hb dX12_tellWindow_49 rfl (lv_at hl 1 rfl) ?_
    refine lv_iload hx hb dX12_tellWindow_50 (lv_at hl 5 rfl) ?_
    refine pk_v (pr_V M V (m_X12_tell l S I x19_4 (show (hJ 137 25).toInt ≤ 599 by omega)) km_X12_tell (sm_this S) pC12 lkM_X12_324 rfl hl.1 rfl (Nat.le_of_ble_eq_true rfl) ⟨Nat.le_of_ble_eq_true rfl, Nat.le_of_ble_eq_true rfl⟩ ⟨Nat.le_of_ble_eq_true rfl, Nat.le_of_ble_eq_true rfl⟩ dX12_tellWindow_52) V (fun Zr48 hr48 H locs pr48 _ _ V => ?_)
    obtain ⟨rfl, I, pA_r48, fr48_0⟩ := pr48
    have fr48_0 : (hJ 137 25).toInt + (1) ≤ (hr48 137 25).toInt ∧ (hr48 137 25).toInt ≤ (hJ 137 25).toInt + (1) := fr48_0
    have A := A.wk (l3 := [(147, 1000), (148, 1000), (153, 1000), (155, 1000), (137, 25), (143, 1000)]) (by decide)
    have A := A.tr pA_r48 (by decide)
    have w_r48_r162 : hr48 162 = (hJ 162) := pA_r48.row 162 (by decide)
    have w_r48_r163 : hr48 163 = (hJ 163) := pA_r48.row 163 (by decide)
    have w_r48_r165 : hr48 165 = (hJ 165) := pA_r48.row 165 (by decide)
    have w_r48_r166 : hr48 166 = (hJ 166) := pA_r48.row 166 (by decide)
    have w_r48_56 : (hr48 137 56).toInt = (hJ 137 56).toInt := congrArg Int32.toInt (pA_r48.get 137 56 (by decide))
    have w_r48_70 : (hr48 137 70).toInt = (hJ 137 70).toInt := congrArg Int32.toInt (pA_r48.get 137 70 (by decide))
    have w_r48_58 : (hr48 137 58).toInt = (hJ 137 58).toInt := congrArg Int32.toInt (pA_r48.get 137 58 (by decide))
    have w_r48_82 : (hr48 137 82).toInt = (hJ 137 82).toInt := congrArg Int32.toInt (pA_r48.get 137 82 (by decide))
    refine lv_aload_n hx hb dX12_tellWindow_55 rfl (lv_at hl 1 rfl) ?_
    refine pg_i M V 12 23 (sm_this S) pC12 fk12_23 lkF_X12_26 dX12_tellWindow_56 ?_
    refine lv_topi (fun v49 ev49 => ?_)
    have tv49 : -1 ≤ v49.toInt ∧ v49.toInt ≤ 8 := by rw [ev49]; exact I.get (sm_this S) 23
    refine lv_iload_n hx hb dX12_tellWindow_59 rfl (lv_at hl 2 rfl) ?_
    refine lv_icmp_ne (tgt := 87) hx hb dX12_tellWindow_60 (by decide) (fun c_60 => ?_) (fun c_60 => ?_)
    · skip
      have c_60 := pi_ne c_60
      exact J_87 x19_4 y19_0 _ _ _ _ V I (A.wk (by decide)) (lv_sub hl [1, 2, 3, 4, 5, 0] rfl) (by omega) (by omega) (by omega) (show (h 137 56).toInt + (0) ≤ (hr48 137 56).toInt ∧ (hr48 137 56).toInt ≤ (h 137 56).toInt + (0) by omega) (show (h 137 70).toInt + (0) ≤ (hr48 137 70).toInt ∧ (hr48 137 70).toInt ≤ (h 137 70).toInt + (0) by omega) (show (h 137 58).toInt + (0) ≤ (hr48 137 58).toInt ∧ (hr48 137 58).toInt ≤ (h 137 58).toInt + (0) by omega) (show (h 137 25).toInt + (1) ≤ (hr48 137 25).toInt ∧ (hr48 137 25).toInt ≤ (h 137 25).toInt + (1) by omega) (show (h 137 82).toInt + (0) ≤ (hr48 137 82).toInt ∧ (hr48 137 82).toInt ≤ (h 137 82).toInt + (0) by omega) 
    · skip
      have c_60 := pi_eq.mp c_60
      refine lv_aload_n hx hb dX12_tellWindow_63 rfl (lv_at hl 1 rfl) ?_
      refine pg_i M V 12 50 (sm_this S) pC12 fk12_50 lkF_X12_90 dX12_tellWindow_64 ?_
      refine lv_topi (fun v50 ev50 => ?_)
      refine lv_iconst (v := (-1)) hx hb dX12_tellWindow_67 (by decide) ?_
      refine lv_icmp_ne (tgt := 87) hx hb dX12_tellWindow_68 (by decide) (fun c_68 => ?_) (fun c_68 => ?_)
      · skip
        have k_m1 : (-1 : Int32).toInt = -1 := rfl
        have c_68 := pi_ne c_68
        exact J_87 x19_4 y19_0 _ _ _ _ V I (A.wk (by decide)) (lv_sub hl [1, 2, 3, 4, 5, 0] rfl) (by omega) (by omega) (by omega) (show (h 137 56).toInt + (0) ≤ (hr48 137 56).toInt ∧ (hr48 137 56).toInt ≤ (h 137 56).toInt + (0) by omega) (show (h 137 70).toInt + (0) ≤ (hr48 137 70).toInt ∧ (hr48 137 70).toInt ≤ (h 137 70).toInt + (0) by omega) (show (h 137 58).toInt + (0) ≤ (hr48 137 58).toInt ∧ (hr48 137 58).toInt ≤ (h 137 58).toInt + (0) by omega) (show (h 137 25).toInt + (1) ≤ (hr48 137 25).toInt ∧ (hr48 137 25).toInt ≤ (h 137 25).toInt + (1) by omega) (show (h 137 82).toInt + (0) ≤ (hr48 137 82).toInt ∧ (hr48 137 82).toInt ≤ (h 137 82).toInt + (0) by omega) 
      · skip
        have k_m1 : (-1 : Int32).toInt = -1 := rfl
        have c_68 := pi_eq.mp c_68
        refine lv_aload_n hx hb dX12_tellWindow_71 rfl (lv_at hl 1 rfl) ?_
        refine pg_r M V 12 33 (sm_this S) pC12 fk12_33 (sm_scroll S).2.2 lkF_X12_48 dX12_tellWindow_72 ?_
        refine lv_iload_n hx hb dX12_tellWindow_75 rfl (lv_at hl 2 rfl) ?_
        refine lv_dup2_11 hx hb dX12_tellWindow_76 rfl rfl ?_
        refine pa_i M V (sm_scroll S).1 (by rw [(sm_scroll S).2.1]; exact pi_in (by omega)) dX12_tellWindow_77 ?_
        refine lv_topi (fun v51 ev51 => ?_)
        refine lv_bipush (v := 10) hx hb dX12_tellWindow_78 (by decide) ?_
        refine lv_aload_n hx hb dX12_tellWindow_80 rfl (lv_at hl 1 rfl) ?_
        refine pg_i M V 12 15 (sm_this S) pC12 fk12_15 lkF_X12_214 dX12_tellWindow_81 ?_
        refine lv_topi (fun v52 ev52 => ?_)
        refine lv_imul hx hb dX12_tellWindow_84 ?_
        refine lv_topi (fun v53 ev53 => ?_)
        refine lv_iadd hx hb dX12_tellWindow_85 ?_
        refine lv_topi (fun v54 ev54 => ?_)
        refine ps_i M V (sm_scroll S).1 (by rw [(sm_scroll S).2.1]; exact pi_in (by omega)) dX12_tellWindow_86 (fun H locs V => ?_)
        have A := A.wk (l3 := [(147, 1000), (148, 1000), (153, 1000), (155, 1000), (137, 25), (143, 1000), (149, 1000)]) (by decide)
        have A := A.upA (o := 149) (k := w.toNatClampNeg) (v := v54) (by decide)
        have I := I.up (k := w.toNatClampNeg) (v := v54) (sm_scroll S).1 (pi_full _)
        exact J_87 x19_4 y19_0 _ _ _ _ V I (A.wk (by decide)) (lv_sub hl [1, 2, 3, 4, 5, 0] rfl) (by omega) (by omega) (by omega) (show (h 137 56).toInt + (0) ≤ (hr48 137 56).toInt ∧ (hr48 137 56).toInt ≤ (h 137 56).toInt + (0) by omega) (show (h 137 70).toInt + (0) ≤ (hr48 137 70).toInt ∧ (hr48 137 70).toInt ≤ (h 137 70).toInt + (0) by omega) (show (h 137 58).toInt + (0) ≤ (hr48 137 58).toInt ∧ (hr48 137 58).toInt ≤ (h 137 58).toInt + (0) by omega) (show (h 137 25).toInt + (1) ≤ (hr48 137 25).toInt ∧ (hr48 137 25).toInt ≤ (h 137 25).toInt + (1) by omega) (show (h 137 82).toInt + (0) ≤ (hr48 137 82).toInt ∧ (hr48 137 82).toInt ≤ (h 137 82).toInt + (0) by omega) 
  refine lv_sipush (v := 1000) hx hb dX12_tellWindow_0 (by decide) ?_
  refine lv_iload_n hx hb dX12_tellWindow_3 rfl (lv_at hl 1 rfl) ?_
  refine lv_iadd hx hb dX12_tellWindow_4 ?_
  refine lv_topi (fun v55 ev55 => ?_)
  refine lv_istore (lv' := [(4, .int v55), (0, .ref (zB Z + 137)), (1, .int w), (2, .int width), (3, .int tall)]) hx hb dX12_tellWindow_5 hl (by decide) rfl (fun ls hl => ?_)
  refine lv_iload_n hx hb dX12_tellWindow_7 rfl (lv_at hl 2 rfl) ?_
  refine lv_bipush (v := 8) hx hb dX12_tellWindow_8 (by decide) ?_
  refine lv_icmp_ne (tgt := 17) hx hb dX12_tellWindow_10 (by decide) (fun c_10 => ?_) (fun c_10 => ?_)
  · skip
    have k_8 : (8 : Int32).toInt = 8 := rfl
    have c_10 := pi_ne c_10
    refine lv_bipush (v := 12) hx hb dX12_tellWindow_17 (by decide) ?_
    have k_1000 : (1000 : Int32).toInt = 1000 := rfl
    have tv55 : v55.toInt = 1000 + w.toInt := by rw [ev55]; have z9 := pi_add (x := (1000 : Int32)) (y := w); rw [k_1000] at z9; exact z9 (by omega)
    have k_12 : (12 : Int32).toInt = 12 := rfl
    exact J_19 v55 (12 : Int32) _ _ _ _ V I (A.wk (by decide)) (lv_sub hl [1, 2, 3, 4, 0] rfl) (by omega) (by omega) (by omega) (show (h 137 56).toInt + (0) ≤ (h 137 56).toInt ∧ (h 137 56).toInt ≤ (h 137 56).toInt + (0) by omega) (show (h 137 70).toInt + (0) ≤ (h 137 70).toInt ∧ (h 137 70).toInt ≤ (h 137 70).toInt + (0) by omega) (show (h 137 58).toInt + (0) ≤ (h 137 58).toInt ∧ (h 137 58).toInt ≤ (h 137 58).toInt + (0) by omega) (show (h 137 25).toInt + (0) ≤ (h 137 25).toInt ∧ (h 137 25).toInt ≤ (h 137 25).toInt + (0) by omega) (show (h 137 82).toInt + (0) ≤ (h 137 82).toInt ∧ (h 137 82).toInt ≤ (h 137 82).toInt + (0) by omega) 
  · skip
    have k_8 : (8 : Int32).toInt = 8 := rfl
    have c_10 := pi_eq.mp c_10
    refine lv_iconst (v := 0) hx hb dX12_tellWindow_13 (by decide) ?_
    refine lv_goto (tgt := 19) hx hb dX12_tellWindow_14 (by decide) ?_
    have k_1000 : (1000 : Int32).toInt = 1000 := rfl
    have tv55 : v55.toInt = 1000 + w.toInt := by rw [ev55]; have z9 := pi_add (x := (1000 : Int32)) (y := w); rw [k_1000] at z9; exact z9 (by omega)
    have k_0 : (0 : Int32).toInt = 0 := rfl
    exact J_19 v55 (0 : Int32) _ _ _ _ V I (A.wk (by decide)) (lv_sub hl [1, 2, 3, 4, 0] rfl) (by omega) (by omega) (by omega) (show (h 137 56).toInt + (0) ≤ (h 137 56).toInt ∧ (h 137 56).toInt ≤ (h 137 56).toInt + (0) by omega) (show (h 137 70).toInt + (0) ≤ (h 137 70).toInt ∧ (h 137 70).toInt ≤ (h 137 70).toInt + (0) by omega) (show (h 137 58).toInt + (0) ≤ (h 137 58).toInt ∧ (h 137 58).toInt ≤ (h 137 58).toInt + (0) by omega) (show (h 137 25).toInt + (0) ≤ (h 137 25).toInt ∧ (h 137 25).toInt ≤ (h 137 25).toInt + (0) by omega) (show (h 137 82).toInt + (0) ≤ (h 137 82).toInt ∧ (h 137 82).toInt ≤ (h 137 82).toInt + (0) by omega) 
