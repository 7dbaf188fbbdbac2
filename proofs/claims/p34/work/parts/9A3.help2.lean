theorem dL_errors_0 : decode cL_errors 0 = .ok (.aload_n 0, 1) := by decide +kernel
theorem dL_errors_1 : decode cL_errors 1 = .ok (.invokestatic 139, 3) := by decide +kernel
theorem dL_errors_4 : decode cL_errors 4 = .ok (.lstore_n 1, 1) := by decide +kernel
theorem dL_errors_5 : decode cL_errors 5 = .ok (.aload_n 0, 1) := by decide +kernel
theorem dL_errors_6 : decode cL_errors 6 = .ok (.iconst 0, 1) := by decide +kernel
theorem dL_errors_7 : decode cL_errors 7 = .ok (.invokestatic 119, 3) := by decide +kernel
theorem dL_errors_10 : decode cL_errors 10 = .ok (.l2i, 1) := by decide +kernel
theorem dL_errors_11 : decode cL_errors 11 = .ok (.istore_n 3, 1) := by decide +kernel
theorem dL_errors_12 : decode cL_errors 12 = .ok (.aload_n 0, 1) := by decide +kernel
theorem dL_errors_13 : decode cL_errors 13 = .ok (.iconst 1, 1) := by decide +kernel
theorem dL_errors_14 : decode cL_errors 14 = .ok (.invokestatic 119, 3) := by decide +kernel
theorem dL_errors_17 : decode cL_errors 17 = .ok (.l2i, 1) := by decide +kernel
theorem dL_errors_18 : decode cL_errors 18 = .ok (.istore 4, 2) := by decide +kernel
theorem dL_errors_20 : decode cL_errors 20 = .ok (.aload_n 0, 1) := by decide +kernel
theorem dL_errors_21 : decode cL_errors 21 = .ok (.iconst (-1), 1) := by decide +kernel
theorem dL_errors_22 : decode cL_errors 22 = .ok (.invokestatic 119, 3) := by decide +kernel
theorem dL_errors_25 : decode cL_errors 25 = .ok (.ldc2_w 17, 3) := by decide +kernel
theorem dL_errors_28 : decode cL_errors 28 = .ok (.lcmp, 1) := by decide +kernel
theorem dL_errors_29 : decode cL_errors 29 = .ok (.ifCond .ne 498, 3) := by decide +kernel
theorem dL_errors_32 : decode cL_errors 32 = .ok (.aload_n 0, 1) := by decide +kernel
theorem dL_errors_33 : decode cL_errors 33 = .ok (.bipush 12, 2) := by decide +kernel
theorem dL_errors_35 : decode cL_errors 35 = .ok (.invokestatic 119, 3) := by decide +kernel
theorem dL_errors_38 : decode cL_errors 38 = .ok (.ldc2_w 17, 3) := by decide +kernel
theorem dL_errors_41 : decode cL_errors 41 = .ok (.lcmp, 1) := by decide +kernel
theorem dL_errors_42 : decode cL_errors 42 = .ok (.ifCond .ne 485, 3) := by decide +kernel
theorem dL_errors_45 : decode cL_errors 45 = .ok (.aload_n 0, 1) := by decide +kernel
theorem dL_errors_46 : decode cL_errors 46 = .ok (.iload_n 3, 1) := by decide +kernel
theorem dL_errors_47 : decode cL_errors 47 = .ok (.bipush 9, 2) := by decide +kernel
theorem dL_errors_49 : decode cL_errors 49 = .ok (.invokestatic 128, 3) := by decide +kernel
theorem dL_errors_52 : decode cL_errors 52 = .ok (.ldc2_w 36, 3) := by decide +kernel
theorem dL_errors_55 : decode cL_errors 55 = .ok (.lcmp, 1) := by decide +kernel
theorem dL_errors_56 : decode cL_errors 56 = .ok (.ifCond .ne 471, 3) := by decide +kernel
theorem dL_errors_59 : decode cL_errors 59 = .ok (.aload_n 0, 1) := by decide +kernel
theorem dL_errors_60 : decode cL_errors 60 = .ok (.iload_n 3, 1) := by decide +kernel
theorem dL_errors_61 : decode cL_errors 61 = .ok (.bipush 9, 2) := by decide +kernel
theorem dL_errors_63 : decode cL_errors 63 = .ok (.invokestatic 131, 3) := by decide +kernel
theorem dL_errors_66 : decode cL_errors 66 = .ok (.ldc2_w 36, 3) := by decide +kernel
theorem dL_errors_69 : decode cL_errors 69 = .ok (.lcmp, 1) := by decide +kernel
theorem dL_errors_70 : decode cL_errors 70 = .ok (.ifCond .ne 457, 3) := by decide +kernel
theorem dL_errors_73 : decode cL_errors 73 = .ok (.aload_n 0, 1) := by decide +kernel
theorem dL_errors_74 : decode cL_errors 74 = .ok (.iload 4, 2) := by decide +kernel
theorem dL_errors_76 : decode cL_errors 76 = .ok (.bipush 9, 2) := by decide +kernel
theorem dL_errors_78 : decode cL_errors 78 = .ok (.invokestatic 133, 3) := by decide +kernel
theorem dL_errors_81 : decode cL_errors 81 = .ok (.ldc2_w 36, 3) := by decide +kernel
theorem dL_errors_84 : decode cL_errors 84 = .ok (.lcmp, 1) := by decide +kernel
theorem dL_errors_85 : decode cL_errors 85 = .ok (.ifCond .ne 442, 3) := by decide +kernel
theorem dL_errors_88 : decode cL_errors 88 = .ok (.aload_n 0, 1) := by decide +kernel
theorem dL_errors_89 : decode cL_errors 89 = .ok (.iconst (-1), 1) := by decide +kernel
theorem dL_errors_90 : decode cL_errors 90 = .ok (.iconst 0, 1) := by decide +kernel
theorem dL_errors_91 : decode cL_errors 91 = .ok (.invokestatic 137, 3) := by decide +kernel
theorem dL_errors_94 : decode cL_errors 94 = .ok (.ldc2_w 17, 3) := by decide +kernel
theorem dL_errors_97 : decode cL_errors 97 = .ok (.lcmp, 1) := by decide +kernel
theorem dL_errors_98 : decode cL_errors 98 = .ok (.ifCond .ne 429, 3) := by decide +kernel
theorem dL_errors_101 : decode cL_errors 101 = .ok (.aload_n 0, 1) := by decide +kernel
theorem dL_errors_102 : decode cL_errors 102 = .ok (.iconst 0, 1) := by decide +kernel
theorem dL_errors_103 : decode cL_errors 103 = .ok (.iconst 3, 1) := by decide +kernel
theorem dL_errors_104 : decode cL_errors 104 = .ok (.invokestatic 137, 3) := by decide +kernel
theorem dL_errors_107 : decode cL_errors 107 = .ok (.ldc2_w 17, 3) := by decide +kernel
theorem dL_errors_110 : decode cL_errors 110 = .ok (.lcmp, 1) := by decide +kernel
theorem dL_errors_111 : decode cL_errors 111 = .ok (.ifCond .ne 416, 3) := by decide +kernel
theorem dL_errors_114 : decode cL_errors 114 = .ok (.aload_n 0, 1) := by decide +kernel
theorem dL_errors_115 : decode cL_errors 115 = .ok (.iconst 0, 1) := by decide +kernel
theorem dL_errors_116 : decode cL_errors 116 = .ok (.iconst (-1), 1) := by decide +kernel
theorem dL_errors_117 : decode cL_errors 117 = .ok (.invokestatic 135, 3) := by decide +kernel
theorem dL_errors_120 : decode cL_errors 120 = .ok (.ldc2_w 17, 3) := by decide +kernel
theorem dL_errors_123 : decode cL_errors 123 = .ok (.lcmp, 1) := by decide +kernel
theorem dL_errors_124 : decode cL_errors 124 = .ok (.ifCond .ne 403, 3) := by decide +kernel
theorem dL_errors_127 : decode cL_errors 127 = .ok (.aload_n 0, 1) := by decide +kernel
theorem dL_errors_128 : decode cL_errors 128 = .ok (.iconst 4, 1) := by decide +kernel
theorem dL_errors_129 : decode cL_errors 129 = .ok (.invokestatic 126, 3) := by decide +kernel
theorem dL_errors_132 : decode cL_errors 132 = .ok (.ldc2_w 17, 3) := by decide +kernel
theorem dL_errors_135 : decode cL_errors 135 = .ok (.lcmp, 1) := by decide +kernel
theorem dL_errors_136 : decode cL_errors 136 = .ok (.ifCond .ne 391, 3) := by decide +kernel
theorem dL_errors_139 : decode cL_errors 139 = .ok (.aload_n 0, 1) := by decide +kernel
theorem dL_errors_140 : decode cL_errors 140 = .ok (.iconst 5, 1) := by decide +kernel
theorem dL_errors_141 : decode cL_errors 141 = .ok (.invokestatic 124, 3) := by decide +kernel
theorem dL_errors_144 : decode cL_errors 144 = .ok (.ldc2_w 17, 3) := by decide +kernel
theorem dL_errors_147 : decode cL_errors 147 = .ok (.lcmp, 1) := by decide +kernel
theorem dL_errors_148 : decode cL_errors 148 = .ok (.ifCond .ne 379, 3) := by decide +kernel
theorem dL_errors_151 : decode cL_errors 151 = .ok (.aload_n 0, 1) := by decide +kernel
theorem dL_errors_152 : decode cL_errors 152 = .ok (.bipush 100, 2) := by decide +kernel
theorem dL_errors_154 : decode cL_errors 154 = .ok (.iconst 0, 1) := by decide +kernel
theorem dL_errors_155 : decode cL_errors 155 = .ok (.iconst 1, 1) := by decide +kernel
theorem dL_errors_156 : decode cL_errors 156 = .ok (.iconst 0, 1) := by decide +kernel
theorem dL_errors_157 : decode cL_errors 157 = .ok (.iconst 0, 1) := by decide +kernel
theorem dL_errors_158 : decode cL_errors 158 = .ok (.invokestatic 143, 3) := by decide +kernel
theorem dL_errors_161 : decode cL_errors 161 = .ok (.ldc2_w 17, 3) := by decide +kernel
theorem dL_errors_164 : decode cL_errors 164 = .ok (.lcmp, 1) := by decide +kernel
theorem dL_errors_165 : decode cL_errors 165 = .ok (.ifCond .ne 362, 3) := by decide +kernel
theorem dL_errors_168 : decode cL_errors 168 = .ok (.aload_n 0, 1) := by decide +kernel
theorem dL_errors_169 : decode cL_errors 169 = .ok (.iconst 0, 1) := by decide +kernel
theorem dL_errors_170 : decode cL_errors 170 = .ok (.bipush 16, 2) := by decide +kernel
theorem dL_errors_172 : decode cL_errors 172 = .ok (.iconst 1, 1) := by decide +kernel
theorem dL_errors_173 : decode cL_errors 173 = .ok (.iconst 0, 1) := by decide +kernel
theorem dL_errors_174 : decode cL_errors 174 = .ok (.iconst 0, 1) := by decide +kernel
theorem dL_errors_175 : decode cL_errors 175 = .ok (.invokestatic 143, 3) := by decide +kernel
theorem dL_errors_178 : decode cL_errors 178 = .ok (.ldc2_w 17, 3) := by decide +kernel
theorem dL_errors_181 : decode cL_errors 181 = .ok (.lcmp, 1) := by decide +kernel
theorem dL_errors_182 : decode cL_errors 182 = .ok (.ifCond .ne 345, 3) := by decide +kernel
theorem dL_errors_185 : decode cL_errors 185 = .ok (.aload_n 0, 1) := by decide +kernel
theorem dL_errors_186 : decode cL_errors 186 = .ok (.iconst 0, 1) := by decide +kernel
theorem dL_errors_187 : decode cL_errors 187 = .ok (.iconst 0, 1) := by decide +kernel
theorem dL_errors_188 : decode cL_errors 188 = .ok (.bipush 6, 2) := by decide +kernel
theorem dL_errors_190 : decode cL_errors 190 = .ok (.iconst 0, 1) := by decide +kernel
theorem dL_errors_191 : decode cL_errors 191 = .ok (.iconst 0, 1) := by decide +kernel
theorem dL_errors_192 : decode cL_errors 192 = .ok (.invokestatic 143, 3) := by decide +kernel
theorem dL_errors_195 : decode cL_errors 195 = .ok (.ldc2_w 17, 3) := by decide +kernel
theorem dL_errors_198 : decode cL_errors 198 = .ok (.lcmp, 1) := by decide +kernel
theorem dL_errors_199 : decode cL_errors 199 = .ok (.ifCond .ne 328, 3) := by decide +kernel
theorem dL_errors_202 : decode cL_errors 202 = .ok (.aload_n 0, 1) := by decide +kernel
theorem dL_errors_203 : decode cL_errors 203 = .ok (.iconst 0, 1) := by decide +kernel
theorem dL_errors_204 : decode cL_errors 204 = .ok (.iconst 0, 1) := by decide +kernel
theorem dL_errors_205 : decode cL_errors 205 = .ok (.iconst 1, 1) := by decide +kernel
theorem dL_errors_206 : decode cL_errors 206 = .ok (.sipush 1000, 3) := by decide +kernel
theorem dL_errors_209 : decode cL_errors 209 = .ok (.iconst 0, 1) := by decide +kernel
theorem dL_errors_210 : decode cL_errors 210 = .ok (.invokestatic 143, 3) := by decide +kernel
theorem dL_errors_213 : decode cL_errors 213 = .ok (.ldc2_w 17, 3) := by decide +kernel
theorem dL_errors_216 : decode cL_errors 216 = .ok (.lcmp, 1) := by decide +kernel
theorem dL_errors_217 : decode cL_errors 217 = .ok (.ifCond .ne 310, 3) := by decide +kernel
theorem dL_errors_220 : decode cL_errors 220 = .ok (.aload_n 0, 1) := by decide +kernel
theorem dL_errors_221 : decode cL_errors 221 = .ok (.iconst 0, 1) := by decide +kernel
theorem dL_errors_222 : decode cL_errors 222 = .ok (.iconst 0, 1) := by decide +kernel
theorem dL_errors_223 : decode cL_errors 223 = .ok (.iconst 1, 1) := by decide +kernel
theorem dL_errors_224 : decode cL_errors 224 = .ok (.iconst 0, 1) := by decide +kernel
theorem dL_errors_225 : decode cL_errors 225 = .ok (.bipush 100, 2) := by decide +kernel
theorem dL_errors_227 : decode cL_errors 227 = .ok (.invokestatic 143, 3) := by decide +kernel
theorem dL_errors_230 : decode cL_errors 230 = .ok (.ldc2_w 17, 3) := by decide +kernel
theorem dL_errors_233 : decode cL_errors 233 = .ok (.lcmp, 1) := by decide +kernel
theorem dL_errors_234 : decode cL_errors 234 = .ok (.ifCond .ne 293, 3) := by decide +kernel
theorem dL_errors_237 : decode cL_errors 237 = .ok (.aload_n 0, 1) := by decide +kernel
theorem dL_errors_238 : decode cL_errors 238 = .ok (.iconst (-1), 1) := by decide +kernel
theorem dL_errors_239 : decode cL_errors 239 = .ok (.iconst 0, 1) := by decide +kernel
theorem dL_errors_240 : decode cL_errors 240 = .ok (.iconst 1, 1) := by decide +kernel
theorem dL_errors_241 : decode cL_errors 241 = .ok (.invokestatic 146, 3) := by decide +kernel
theorem dL_errors_244 : decode cL_errors 244 = .ok (.ldc2_w 17, 3) := by decide +kernel
theorem dL_errors_247 : decode cL_errors 247 = .ok (.lcmp, 1) := by decide +kernel
theorem dL_errors_248 : decode cL_errors 248 = .ok (.ifCond .ne 279, 3) := by decide +kernel
theorem dL_errors_251 : decode cL_errors 251 = .ok (.aload_n 0, 1) := by decide +kernel
theorem dL_errors_252 : decode cL_errors 252 = .ok (.iconst 0, 1) := by decide +kernel
theorem dL_errors_253 : decode cL_errors 253 = .ok (.bipush 21, 2) := by decide +kernel
theorem dL_errors_255 : decode cL_errors 255 = .ok (.iconst 1, 1) := by decide +kernel
theorem dL_errors_256 : decode cL_errors 256 = .ok (.invokestatic 146, 3) := by decide +kernel
theorem dL_errors_259 : decode cL_errors 259 = .ok (.ldc2_w 17, 3) := by decide +kernel
theorem dL_errors_262 : decode cL_errors 262 = .ok (.lcmp, 1) := by decide +kernel
theorem dL_errors_263 : decode cL_errors 263 = .ok (.ifCond .ne 264, 3) := by decide +kernel
theorem dL_errors_266 : decode cL_errors 266 = .ok (.aload_n 0, 1) := by decide +kernel
theorem dL_errors_267 : decode cL_errors 267 = .ok (.iconst 0, 1) := by decide +kernel
theorem dL_errors_268 : decode cL_errors 268 = .ok (.iconst 0, 1) := by decide +kernel
theorem dL_errors_269 : decode cL_errors 269 = .ok (.iconst 0, 1) := by decide +kernel
theorem dL_errors_270 : decode cL_errors 270 = .ok (.invokestatic 146, 3) := by decide +kernel
theorem dL_errors_273 : decode cL_errors 273 = .ok (.ldc2_w 17, 3) := by decide +kernel
theorem dL_errors_276 : decode cL_errors 276 = .ok (.lcmp, 1) := by decide +kernel
theorem dL_errors_277 : decode cL_errors 277 = .ok (.ifCond .ne 250, 3) := by decide +kernel
theorem dL_errors_280 : decode cL_errors 280 = .ok (.aload_n 0, 1) := by decide +kernel
theorem dL_errors_281 : decode cL_errors 281 = .ok (.iconst 4, 1) := by decide +kernel
theorem dL_errors_282 : decode cL_errors 282 = .ok (.iconst 0, 1) := by decide +kernel
theorem dL_errors_283 : decode cL_errors 283 = .ok (.invokestatic 149, 3) := by decide +kernel
theorem dL_errors_286 : decode cL_errors 286 = .ok (.ldc2_w 17, 3) := by decide +kernel
theorem dL_errors_289 : decode cL_errors 289 = .ok (.lcmp, 1) := by decide +kernel
theorem dL_errors_290 : decode cL_errors 290 = .ok (.ifCond .ne 237, 3) := by decide +kernel
theorem dL_errors_293 : decode cL_errors 293 = .ok (.aload_n 0, 1) := by decide +kernel
theorem dL_errors_294 : decode cL_errors 294 = .ok (.iconst 0, 1) := by decide +kernel
theorem dL_errors_295 : decode cL_errors 295 = .ok (.bipush (-21), 2) := by decide +kernel
theorem dL_errors_297 : decode cL_errors 297 = .ok (.invokestatic 149, 3) := by decide +kernel
theorem dL_errors_300 : decode cL_errors 300 = .ok (.ldc2_w 17, 3) := by decide +kernel
theorem dL_errors_303 : decode cL_errors 303 = .ok (.lcmp, 1) := by decide +kernel
theorem dL_errors_304 : decode cL_errors 304 = .ok (.ifCond .ne 223, 3) := by decide +kernel
theorem dL_errors_307 : decode cL_errors 307 = .ok (.aload_n 0, 1) := by decide +kernel
theorem dL_errors_308 : decode cL_errors 308 = .ok (.iload_n 3, 1) := by decide +kernel
theorem dL_errors_309 : decode cL_errors 309 = .ok (.bipush 16, 2) := by decide +kernel
theorem dL_errors_311 : decode cL_errors 311 = .ok (.iconst 1, 1) := by decide +kernel
theorem dL_errors_312 : decode cL_errors 312 = .ok (.invokestatic 151, 3) := by decide +kernel
theorem dL_errors_315 : decode cL_errors 315 = .ok (.ldc2_w 36, 3) := by decide +kernel
theorem dL_errors_318 : decode cL_errors 318 = .ok (.lcmp, 1) := by decide +kernel
theorem dL_errors_319 : decode cL_errors 319 = .ok (.ifCond .ne 208, 3) := by decide +kernel
theorem dL_errors_322 : decode cL_errors 322 = .ok (.aload_n 0, 1) := by decide +kernel
theorem dL_errors_323 : decode cL_errors 323 = .ok (.iload_n 3, 1) := by decide +kernel
theorem dL_errors_324 : decode cL_errors 324 = .ok (.iconst 0, 1) := by decide +kernel
theorem dL_errors_325 : decode cL_errors 325 = .ok (.iconst 0, 1) := by decide +kernel
theorem dL_errors_326 : decode cL_errors 326 = .ok (.invokestatic 153, 3) := by decide +kernel
theorem dL_errors_329 : decode cL_errors 329 = .ok (.ldc2_w 36, 3) := by decide +kernel
theorem dL_errors_332 : decode cL_errors 332 = .ok (.lcmp, 1) := by decide +kernel
theorem dL_errors_333 : decode cL_errors 333 = .ok (.ifCond .ne 194, 3) := by decide +kernel
theorem dL_errors_336 : decode cL_errors 336 = .ok (.aload_n 0, 1) := by decide +kernel
theorem dL_errors_337 : decode cL_errors 337 = .ok (.iload_n 3, 1) := by decide +kernel
theorem dL_errors_338 : decode cL_errors 338 = .ok (.iconst 0, 1) := by decide +kernel
theorem dL_errors_339 : decode cL_errors 339 = .ok (.invokestatic 155, 3) := by decide +kernel
theorem dL_errors_342 : decode cL_errors 342 = .ok (.ldc2_w 36, 3) := by decide +kernel
theorem dL_errors_345 : decode cL_errors 345 = .ok (.lcmp, 1) := by decide +kernel
theorem dL_errors_346 : decode cL_errors 346 = .ok (.ifCond .ne 181, 3) := by decide +kernel
theorem dL_errors_349 : decode cL_errors 349 = .ok (.aload_n 0, 1) := by decide +kernel
theorem dL_errors_350 : decode cL_errors 350 = .ok (.iconst 0, 1) := by decide +kernel
theorem dL_errors_351 : decode cL_errors 351 = .ok (.iconst (-1), 1) := by decide +kernel
theorem dL_errors_352 : decode cL_errors 352 = .ok (.invokestatic 155, 3) := by decide +kernel
theorem dL_errors_355 : decode cL_errors 355 = .ok (.ldc2_w 36, 3) := by decide +kernel
theorem dL_errors_358 : decode cL_errors 358 = .ok (.lcmp, 1) := by decide +kernel
theorem dL_errors_359 : decode cL_errors 359 = .ok (.ifCond .ne 168, 3) := by decide +kernel
theorem dL_errors_362 : decode cL_errors 362 = .ok (.aload_n 0, 1) := by decide +kernel
theorem dL_errors_363 : decode cL_errors 363 = .ok (.iconst 0, 1) := by decide +kernel
theorem dL_errors_364 : decode cL_errors 364 = .ok (.invokestatic 157, 3) := by decide +kernel
theorem dL_errors_367 : decode cL_errors 367 = .ok (.ldc2_w 17, 3) := by decide +kernel
theorem dL_errors_370 : decode cL_errors 370 = .ok (.lcmp, 1) := by decide +kernel
theorem dL_errors_371 : decode cL_errors 371 = .ok (.ifCond .ne 156, 3) := by decide +kernel
theorem dL_errors_374 : decode cL_errors 374 = .ok (.aload_n 0, 1) := by decide +kernel
theorem dL_errors_375 : decode cL_errors 375 = .ok (.bipush 41, 2) := by decide +kernel
theorem dL_errors_377 : decode cL_errors 377 = .ok (.invokestatic 157, 3) := by decide +kernel
theorem dL_errors_380 : decode cL_errors 380 = .ok (.ldc2_w 17, 3) := by decide +kernel
theorem dL_errors_383 : decode cL_errors 383 = .ok (.lcmp, 1) := by decide +kernel
theorem dL_errors_384 : decode cL_errors 384 = .ok (.ifCond .ne 143, 3) := by decide +kernel
theorem dL_errors_387 : decode cL_errors 387 = .ok (.aload_n 0, 1) := by decide +kernel
theorem dL_errors_388 : decode cL_errors 388 = .ok (.iconst 0, 1) := by decide +kernel
theorem dL_errors_389 : decode cL_errors 389 = .ok (.bipush 31, 2) := by decide +kernel
theorem dL_errors_391 : decode cL_errors 391 = .ok (.invokestatic 159, 3) := by decide +kernel
theorem dL_errors_394 : decode cL_errors 394 = .ok (.ldc2_w 17, 3) := by decide +kernel
theorem dL_errors_397 : decode cL_errors 397 = .ok (.lcmp, 1) := by decide +kernel
theorem dL_errors_398 : decode cL_errors 398 = .ok (.ifCond .ne 129, 3) := by decide +kernel
theorem dL_errors_401 : decode cL_errors 401 = .ok (.aload_n 0, 1) := by decide +kernel
theorem dL_errors_402 : decode cL_errors 402 = .ok (.iconst 1, 1) := by decide +kernel
theorem dL_errors_403 : decode cL_errors 403 = .ok (.iconst 0, 1) := by decide +kernel
theorem dL_errors_404 : decode cL_errors 404 = .ok (.invokestatic 159, 3) := by decide +kernel
theorem dL_errors_407 : decode cL_errors 407 = .ok (.ldc2_w 17, 3) := by decide +kernel
theorem dL_errors_410 : decode cL_errors 410 = .ok (.lcmp, 1) := by decide +kernel
theorem dL_errors_411 : decode cL_errors 411 = .ok (.ifCond .ne 116, 3) := by decide +kernel
theorem dL_errors_414 : decode cL_errors 414 = .ok (.aload_n 0, 1) := by decide +kernel
theorem dL_errors_415 : decode cL_errors 415 = .ok (.iconst 4, 1) := by decide +kernel
theorem dL_errors_416 : decode cL_errors 416 = .ok (.bipush 100, 2) := by decide +kernel
theorem dL_errors_418 : decode cL_errors 418 = .ok (.invokestatic 159, 3) := by decide +kernel
theorem dL_errors_421 : decode cL_errors 421 = .ok (.ldc2_w 17, 3) := by decide +kernel
theorem dL_errors_424 : decode cL_errors 424 = .ok (.lcmp, 1) := by decide +kernel
theorem dL_errors_425 : decode cL_errors 425 = .ok (.ifCond .ne 102, 3) := by decide +kernel
theorem dL_errors_428 : decode cL_errors 428 = .ok (.aload_n 0, 1) := by decide +kernel
theorem dL_errors_429 : decode cL_errors 429 = .ok (.iconst 5, 1) := by decide +kernel
theorem dL_errors_430 : decode cL_errors 430 = .ok (.iconst 1, 1) := by decide +kernel
theorem dL_errors_431 : decode cL_errors 431 = .ok (.invokestatic 159, 3) := by decide +kernel
theorem dL_errors_434 : decode cL_errors 434 = .ok (.ldc2_w 17, 3) := by decide +kernel
theorem dL_errors_437 : decode cL_errors 437 = .ok (.lcmp, 1) := by decide +kernel
theorem dL_errors_438 : decode cL_errors 438 = .ok (.ifCond .ne 89, 3) := by decide +kernel
theorem dL_errors_441 : decode cL_errors 441 = .ok (.aload_n 0, 1) := by decide +kernel
theorem dL_errors_442 : decode cL_errors 442 = .ok (.iload_n 3, 1) := by decide +kernel
theorem dL_errors_443 : decode cL_errors 443 = .ok (.bipush 9, 2) := by decide +kernel
theorem dL_errors_445 : decode cL_errors 445 = .ok (.invokestatic 161, 3) := by decide +kernel
theorem dL_errors_448 : decode cL_errors 448 = .ok (.ldc2_w 36, 3) := by decide +kernel
theorem dL_errors_451 : decode cL_errors 451 = .ok (.lcmp, 1) := by decide +kernel
theorem dL_errors_452 : decode cL_errors 452 = .ok (.ifCond .ne 75, 3) := by decide +kernel
theorem dL_errors_455 : decode cL_errors 455 = .ok (.aload_n 0, 1) := by decide +kernel
theorem dL_errors_456 : decode cL_errors 456 = .ok (.bipush 100, 2) := by decide +kernel
theorem dL_errors_458 : decode cL_errors 458 = .ok (.invokestatic 163, 3) := by decide +kernel
theorem dL_errors_461 : decode cL_errors 461 = .ok (.ldc2_w 17, 3) := by decide +kernel
theorem dL_errors_464 : decode cL_errors 464 = .ok (.lcmp, 1) := by decide +kernel
theorem dL_errors_465 : decode cL_errors 465 = .ok (.ifCond .ne 62, 3) := by decide +kernel
theorem dL_errors_468 : decode cL_errors 468 = .ok (.aload_n 0, 1) := by decide +kernel
theorem dL_errors_469 : decode cL_errors 469 = .ok (.iconst 0, 1) := by decide +kernel
theorem dL_errors_470 : decode cL_errors 470 = .ok (.iconst 0, 1) := by decide +kernel
theorem dL_errors_471 : decode cL_errors 471 = .ok (.invokestatic 165, 3) := by decide +kernel
theorem dL_errors_474 : decode cL_errors 474 = .ok (.ldc2_w 17, 3) := by decide +kernel
theorem dL_errors_477 : decode cL_errors 477 = .ok (.lcmp, 1) := by decide +kernel
theorem dL_errors_478 : decode cL_errors 478 = .ok (.ifCond .ne 49, 3) := by decide +kernel
theorem dL_errors_481 : decode cL_errors 481 = .ok (.aload_n 0, 1) := by decide +kernel
theorem dL_errors_482 : decode cL_errors 482 = .ok (.bipush 9, 2) := by decide +kernel
theorem dL_errors_484 : decode cL_errors 484 = .ok (.iconst 4, 1) := by decide +kernel
theorem dL_errors_485 : decode cL_errors 485 = .ok (.invokestatic 165, 3) := by decide +kernel
theorem dL_errors_488 : decode cL_errors 488 = .ok (.ldc2_w 17, 3) := by decide +kernel
theorem dL_errors_491 : decode cL_errors 491 = .ok (.lcmp, 1) := by decide +kernel
theorem dL_errors_492 : decode cL_errors 492 = .ok (.ifCond .ne 35, 3) := by decide +kernel
theorem dL_errors_495 : decode cL_errors 495 = .ok (.aload_n 0, 1) := by decide +kernel
theorem dL_errors_496 : decode cL_errors 496 = .ok (.iload_n 3, 1) := by decide +kernel
theorem dL_errors_497 : decode cL_errors 497 = .ok (.iconst 0, 1) := by decide +kernel
theorem dL_errors_498 : decode cL_errors 498 = .ok (.invokestatic 167, 3) := by decide +kernel
theorem dL_errors_501 : decode cL_errors 501 = .ok (.ldc2_w 36, 3) := by decide +kernel
theorem dL_errors_504 : decode cL_errors 504 = .ok (.lcmp, 1) := by decide +kernel
theorem dL_errors_505 : decode cL_errors 505 = .ok (.ifCond .ne 22, 3) := by decide +kernel
theorem dL_errors_508 : decode cL_errors 508 = .ok (.aload_n 0, 1) := by decide +kernel
theorem dL_errors_509 : decode cL_errors 509 = .ok (.iconst (-1), 1) := by decide +kernel
theorem dL_errors_510 : decode cL_errors 510 = .ok (.iconst 0, 1) := by decide +kernel
theorem dL_errors_511 : decode cL_errors 511 = .ok (.iconst 0, 1) := by decide +kernel
theorem dL_errors_512 : decode cL_errors 512 = .ok (.iconst 0, 1) := by decide +kernel
theorem dL_errors_513 : decode cL_errors 513 = .ok (.invokestatic 169, 3) := by decide +kernel
theorem dL_errors_516 : decode cL_errors 516 = .ok (.ldc2_w 36, 3) := by decide +kernel
theorem dL_errors_519 : decode cL_errors 519 = .ok (.lcmp, 1) := by decide +kernel
theorem dL_errors_520 : decode cL_errors 520 = .ok (.ifCond .ne 7, 3) := by decide +kernel
theorem dL_errors_523 : decode cL_errors 523 = .ok (.iconst 1, 1) := by decide +kernel
theorem dL_errors_524 : decode cL_errors 524 = .ok (.goto 4, 3) := by decide +kernel
theorem dL_errors_527 : decode cL_errors 527 = .ok (.iconst 0, 1) := by decide +kernel
theorem dL_errors_528 : decode cL_errors 528 = .ok (.istore 5, 2) := by decide +kernel
theorem dL_errors_530 : decode cL_errors 530 = .ok (.iload 5, 2) := by decide +kernel
theorem dL_errors_532 : decode cL_errors 532 = .ok (.ifCond .eq 49, 3) := by decide +kernel
theorem dL_errors_535 : decode cL_errors 535 = .ok (.iload_n 3, 1) := by decide +kernel
theorem dL_errors_536 : decode cL_errors 536 = .ok (.iconst 5, 1) := by decide +kernel
theorem dL_errors_537 : decode cL_errors 537 = .ok (.if_icmp .lt 19, 3) := by decide +kernel
theorem dL_errors_540 : decode cL_errors 540 = .ok (.aload_n 0, 1) := by decide +kernel
theorem dL_errors_541 : decode cL_errors 541 = .ok (.iconst 0, 1) := by decide +kernel
theorem dL_errors_542 : decode cL_errors 542 = .ok (.iconst 0, 1) := by decide +kernel
theorem dL_errors_543 : decode cL_errors 543 = .ok (.iconst 1, 1) := by decide +kernel
theorem dL_errors_544 : decode cL_errors 544 = .ok (.iconst 0, 1) := by decide +kernel
theorem dL_errors_545 : decode cL_errors 545 = .ok (.iconst 0, 1) := by decide +kernel
theorem dL_errors_546 : decode cL_errors 546 = .ok (.invokestatic 143, 3) := by decide +kernel
theorem dL_errors_549 : decode cL_errors 549 = .ok (.ldc2_w 21, 3) := by decide +kernel
theorem dL_errors_552 : decode cL_errors 552 = .ok (.lcmp, 1) := by decide +kernel
theorem dL_errors_553 : decode cL_errors 553 = .ok (.ifCond .ne 28, 3) := by decide +kernel
theorem dL_errors_556 : decode cL_errors 556 = .ok (.iload 4, 2) := by decide +kernel
theorem dL_errors_558 : decode cL_errors 558 = .ok (.bipush 6, 2) := by decide +kernel
theorem dL_errors_560 : decode cL_errors 560 = .ok (.if_icmp .lt 17, 3) := by decide +kernel
theorem dL_errors_563 : decode cL_errors 563 = .ok (.aload_n 0, 1) := by decide +kernel
theorem dL_errors_564 : decode cL_errors 564 = .ok (.iconst 0, 1) := by decide +kernel
theorem dL_errors_565 : decode cL_errors 565 = .ok (.iconst 0, 1) := by decide +kernel
theorem dL_errors_566 : decode cL_errors 566 = .ok (.iconst 1, 1) := by decide +kernel
theorem dL_errors_567 : decode cL_errors 567 = .ok (.invokestatic 146, 3) := by decide +kernel
theorem dL_errors_570 : decode cL_errors 570 = .ok (.ldc2_w 21, 3) := by decide +kernel
theorem dL_errors_573 : decode cL_errors 573 = .ok (.lcmp, 1) := by decide +kernel
theorem dL_errors_574 : decode cL_errors 574 = .ok (.ifCond .ne 7, 3) := by decide +kernel
theorem dL_errors_577 : decode cL_errors 577 = .ok (.iconst 1, 1) := by decide +kernel
theorem dL_errors_578 : decode cL_errors 578 = .ok (.goto 4, 3) := by decide +kernel
theorem dL_errors_581 : decode cL_errors 581 = .ok (.iconst 0, 1) := by decide +kernel
theorem dL_errors_582 : decode cL_errors 582 = .ok (.istore 5, 2) := by decide +kernel
theorem dL_errors_584 : decode cL_errors 584 = .ok (.iconst 0, 1) := by decide +kernel
theorem dL_errors_585 : decode cL_errors 585 = .ok (.istore 6, 2) := by decide +kernel
theorem dL_errors_587 : decode cL_errors 587 = .ok (.iload 6, 2) := by decide +kernel
theorem dL_errors_589 : decode cL_errors 589 = .ok (.iload_n 3, 1) := by decide +kernel
theorem dL_errors_590 : decode cL_errors 590 = .ok (.if_icmp .ge 233, 3) := by decide +kernel
theorem dL_errors_593 : decode cL_errors 593 = .ok (.iload 5, 2) := by decide +kernel
theorem dL_errors_595 : decode cL_errors 595 = .ok (.ifCond .eq 228, 3) := by decide +kernel
theorem dL_errors_598 : decode cL_errors 598 = .ok (.aload_n 0, 1) := by decide +kernel
theorem dL_errors_599 : decode cL_errors 599 = .ok (.iload 6, 2) := by decide +kernel
theorem dL_errors_601 : decode cL_errors 601 = .ok (.bipush 8, 2) := by decide +kernel
theorem dL_errors_603 : decode cL_errors 603 = .ok (.invokestatic 128, 3) := by decide +kernel
theorem dL_errors_606 : decode cL_errors 606 = .ok (.ldc2_w 17, 3) := by decide +kernel
theorem dL_errors_609 : decode cL_errors 609 = .ok (.lcmp, 1) := by decide +kernel
theorem dL_errors_610 : decode cL_errors 610 = .ok (.ifCond .ne 204, 3) := by decide +kernel
theorem dL_errors_613 : decode cL_errors 613 = .ok (.aload_n 0, 1) := by decide +kernel
theorem dL_errors_614 : decode cL_errors 614 = .ok (.iload 6, 2) := by decide +kernel
theorem dL_errors_616 : decode cL_errors 616 = .ok (.iconst 5, 1) := by decide +kernel
theorem dL_errors_617 : decode cL_errors 617 = .ok (.invokestatic 131, 3) := by decide +kernel
theorem dL_errors_620 : decode cL_errors 620 = .ok (.ldc2_w 17, 3) := by decide +kernel
theorem dL_errors_623 : decode cL_errors 623 = .ok (.lcmp, 1) := by decide +kernel
theorem dL_errors_624 : decode cL_errors 624 = .ok (.ifCond .ne 190, 3) := by decide +kernel
theorem dL_errors_627 : decode cL_errors 627 = .ok (.aload_n 0, 1) := by decide +kernel
theorem dL_errors_628 : decode cL_errors 628 = .ok (.iload 6, 2) := by decide +kernel
theorem dL_errors_630 : decode cL_errors 630 = .ok (.iconst 0, 1) := by decide +kernel
theorem dL_errors_631 : decode cL_errors 631 = .ok (.iconst 0, 1) := by decide +kernel
theorem dL_errors_632 : decode cL_errors 632 = .ok (.invokestatic 151, 3) := by decide +kernel
theorem dL_errors_635 : decode cL_errors 635 = .ok (.ldc2_w 17, 3) := by decide +kernel
theorem dL_errors_638 : decode cL_errors 638 = .ok (.lcmp, 1) := by decide +kernel
theorem dL_errors_639 : decode cL_errors 639 = .ok (.ifCond .ne 175, 3) := by decide +kernel
theorem dL_errors_642 : decode cL_errors 642 = .ok (.aload_n 0, 1) := by decide +kernel
theorem dL_errors_643 : decode cL_errors 643 = .ok (.iload 6, 2) := by decide +kernel
theorem dL_errors_645 : decode cL_errors 645 = .ok (.sipush 1000, 3) := by decide +kernel
theorem dL_errors_648 : decode cL_errors 648 = .ok (.iconst 0, 1) := by decide +kernel
theorem dL_errors_649 : decode cL_errors 649 = .ok (.invokestatic 153, 3) := by decide +kernel
theorem dL_errors_652 : decode cL_errors 652 = .ok (.ldc2_w 17, 3) := by decide +kernel
theorem dL_errors_655 : decode cL_errors 655 = .ok (.lcmp, 1) := by decide +kernel
theorem dL_errors_656 : decode cL_errors 656 = .ok (.ifCond .ne 158, 3) := by decide +kernel
theorem dL_errors_659 : decode cL_errors 659 = .ok (.aload_n 0, 1) := by decide +kernel
theorem dL_errors_660 : decode cL_errors 660 = .ok (.iload 6, 2) := by decide +kernel
theorem dL_errors_662 : decode cL_errors 662 = .ok (.iconst 0, 1) := by decide +kernel
theorem dL_errors_663 : decode cL_errors 663 = .ok (.iconst 0, 1) := by decide +kernel
theorem dL_errors_664 : decode cL_errors 664 = .ok (.invokestatic 153, 3) := by decide +kernel
theorem dL_errors_667 : decode cL_errors 667 = .ok (.ldc2_w 21, 3) := by decide +kernel
theorem dL_errors_670 : decode cL_errors 670 = .ok (.lcmp, 1) := by decide +kernel
theorem dL_errors_671 : decode cL_errors 671 = .ok (.ifCond .ne 143, 3) := by decide +kernel
theorem dL_errors_674 : decode cL_errors 674 = .ok (.aload_n 0, 1) := by decide +kernel
theorem dL_errors_675 : decode cL_errors 675 = .ok (.iload 6, 2) := by decide +kernel
theorem dL_errors_677 : decode cL_errors 677 = .ok (.iconst 0, 1) := by decide +kernel
theorem dL_errors_678 : decode cL_errors 678 = .ok (.iconst 0, 1) := by decide +kernel
theorem dL_errors_679 : decode cL_errors 679 = .ok (.iconst 5, 1) := by decide +kernel
theorem dL_errors_680 : decode cL_errors 680 = .ok (.invokestatic 169, 3) := by decide +kernel
theorem dL_errors_683 : decode cL_errors 683 = .ok (.ldc2_w 21, 3) := by decide +kernel
theorem dL_errors_686 : decode cL_errors 686 = .ok (.lcmp, 1) := by decide +kernel
theorem dL_errors_687 : decode cL_errors 687 = .ok (.ifCond .ne 127, 3) := by decide +kernel
theorem dL_errors_690 : decode cL_errors 690 = .ok (.aload_n 0, 1) := by decide +kernel
theorem dL_errors_691 : decode cL_errors 691 = .ok (.iload 6, 2) := by decide +kernel
theorem dL_errors_693 : decode cL_errors 693 = .ok (.iconst 0, 1) := by decide +kernel
theorem dL_errors_694 : decode cL_errors 694 = .ok (.iconst 0, 1) := by decide +kernel
theorem dL_errors_695 : decode cL_errors 695 = .ok (.bipush 61, 2) := by decide +kernel
theorem dL_errors_697 : decode cL_errors 697 = .ok (.invokestatic 169, 3) := by decide +kernel
theorem dL_errors_700 : decode cL_errors 700 = .ok (.ldc2_w 17, 3) := by decide +kernel
theorem dL_errors_703 : decode cL_errors 703 = .ok (.lcmp, 1) := by decide +kernel
theorem dL_errors_704 : decode cL_errors 704 = .ok (.ifCond .ne 110, 3) := by decide +kernel
theorem dL_errors_707 : decode cL_errors 707 = .ok (.aload_n 0, 1) := by decide +kernel
theorem dL_errors_708 : decode cL_errors 708 = .ok (.iload 6, 2) := by decide +kernel
theorem dL_errors_710 : decode cL_errors 710 = .ok (.iload 6, 2) := by decide +kernel
theorem dL_errors_712 : decode cL_errors 712 = .ok (.invokestatic 155, 3) := by decide +kernel
theorem dL_errors_715 : decode cL_errors 715 = .ok (.ldc2_w 21, 3) := by decide +kernel
theorem dL_errors_718 : decode cL_errors 718 = .ok (.lcmp, 1) := by decide +kernel
theorem dL_errors_719 : decode cL_errors 719 = .ok (.ifCond .ne 95, 3) := by decide +kernel
theorem dL_errors_722 : decode cL_errors 722 = .ok (.aload_n 0, 1) := by decide +kernel
theorem dL_errors_723 : decode cL_errors 723 = .ok (.iload 6, 2) := by decide +kernel
theorem dL_errors_725 : decode cL_errors 725 = .ok (.iconst 4, 1) := by decide +kernel
theorem dL_errors_726 : decode cL_errors 726 = .ok (.invokestatic 128, 3) := by decide +kernel
theorem dL_errors_729 : decode cL_errors 729 = .ok (.lconst 0, 1) := by decide +kernel
theorem dL_errors_730 : decode cL_errors 730 = .ok (.lcmp, 1) := by decide +kernel
theorem dL_errors_731 : decode cL_errors 731 = .ok (.ifCond .gt 22, 3) := by decide +kernel
theorem dL_errors_734 : decode cL_errors 734 = .ok (.aload_n 0, 1) := by decide +kernel
theorem dL_errors_735 : decode cL_errors 735 = .ok (.iload 6, 2) := by decide +kernel
theorem dL_errors_737 : decode cL_errors 737 = .ok (.iload 6, 2) := by decide +kernel
theorem dL_errors_739 : decode cL_errors 739 = .ok (.iconst 1, 1) := by decide +kernel
theorem dL_errors_740 : decode cL_errors 740 = .ok (.iadd, 1) := by decide +kernel
theorem dL_errors_741 : decode cL_errors 741 = .ok (.iload_n 3, 1) := by decide +kernel
theorem dL_errors_742 : decode cL_errors 742 = .ok (.irem, 1) := by decide +kernel
theorem dL_errors_743 : decode cL_errors 743 = .ok (.invokestatic 155, 3) := by decide +kernel
theorem dL_errors_746 : decode cL_errors 746 = .ok (.ldc2_w 21, 3) := by decide +kernel
theorem dL_errors_749 : decode cL_errors 749 = .ok (.lcmp, 1) := by decide +kernel
theorem dL_errors_750 : decode cL_errors 750 = .ok (.ifCond .ne 64, 3) := by decide +kernel
theorem dL_errors_753 : decode cL_errors 753 = .ok (.aload_n 0, 1) := by decide +kernel
theorem dL_errors_754 : decode cL_errors 754 = .ok (.iload 6, 2) := by decide +kernel
theorem dL_errors_756 : decode cL_errors 756 = .ok (.iconst 4, 1) := by decide +kernel
theorem dL_errors_757 : decode cL_errors 757 = .ok (.invokestatic 161, 3) := by decide +kernel
theorem dL_errors_760 : decode cL_errors 760 = .ok (.ldc2_w 17, 3) := by decide +kernel
theorem dL_errors_763 : decode cL_errors 763 = .ok (.lcmp, 1) := by decide +kernel
theorem dL_errors_764 : decode cL_errors 764 = .ok (.ifCond .ne 50, 3) := by decide +kernel
theorem dL_errors_767 : decode cL_errors 767 = .ok (.aload_n 0, 1) := by decide +kernel
theorem dL_errors_768 : decode cL_errors 768 = .ok (.iload 6, 2) := by decide +kernel
theorem dL_errors_770 : decode cL_errors 770 = .ok (.bipush 61, 2) := by decide +kernel
theorem dL_errors_772 : decode cL_errors 772 = .ok (.invokestatic 167, 3) := by decide +kernel
theorem dL_errors_775 : decode cL_errors 775 = .ok (.ldc2_w 17, 3) := by decide +kernel
theorem dL_errors_778 : decode cL_errors 778 = .ok (.lcmp, 1) := by decide +kernel
theorem dL_errors_779 : decode cL_errors 779 = .ok (.ifCond .ne 35, 3) := by decide +kernel
theorem dL_errors_782 : decode cL_errors 782 = .ok (.aload_n 0, 1) := by decide +kernel
theorem dL_errors_783 : decode cL_errors 783 = .ok (.bipush 10, 2) := by decide +kernel
theorem dL_errors_785 : decode cL_errors 785 = .ok (.invokestatic 119, 3) := by decide +kernel
theorem dL_errors_788 : decode cL_errors 788 = .ok (.ldc2_w 172, 3) := by decide +kernel
theorem dL_errors_791 : decode cL_errors 791 = .ok (.lcmp, 1) := by decide +kernel
theorem dL_errors_792 : decode cL_errors 792 = .ok (.ifCond .lt 18, 3) := by decide +kernel
theorem dL_errors_795 : decode cL_errors 795 = .ok (.aload_n 0, 1) := by decide +kernel
theorem dL_errors_796 : decode cL_errors 796 = .ok (.iload 6, 2) := by decide +kernel
theorem dL_errors_798 : decode cL_errors 798 = .ok (.iconst 1, 1) := by decide +kernel
theorem dL_errors_799 : decode cL_errors 799 = .ok (.iconst 1, 1) := by decide +kernel
theorem dL_errors_800 : decode cL_errors 800 = .ok (.invokestatic 153, 3) := by decide +kernel
theorem dL_errors_803 : decode cL_errors 803 = .ok (.ldc2_w 21, 3) := by decide +kernel
theorem dL_errors_806 : decode cL_errors 806 = .ok (.lcmp, 1) := by decide +kernel
theorem dL_errors_807 : decode cL_errors 807 = .ok (.ifCond .ne 7, 3) := by decide +kernel
theorem dL_errors_810 : decode cL_errors 810 = .ok (.iconst 1, 1) := by decide +kernel
theorem dL_errors_811 : decode cL_errors 811 = .ok (.goto 4, 3) := by decide +kernel
theorem dL_errors_814 : decode cL_errors 814 = .ok (.iconst 0, 1) := by decide +kernel
theorem dL_errors_815 : decode cL_errors 815 = .ok (.istore 5, 2) := by decide +kernel
theorem dL_errors_817 : decode cL_errors 817 = .ok (.iinc 6 1, 3) := by decide +kernel
theorem dL_errors_820 : decode cL_errors 820 = .ok (.goto (-233), 3) := by decide +kernel
theorem dL_errors_823 : decode cL_errors 823 = .ok (.iconst 0, 1) := by decide +kernel
theorem dL_errors_824 : decode cL_errors 824 = .ok (.istore 6, 2) := by decide +kernel
theorem dL_errors_826 : decode cL_errors 826 = .ok (.iload 6, 2) := by decide +kernel
theorem dL_errors_828 : decode cL_errors 828 = .ok (.iload 4, 2) := by decide +kernel
theorem dL_errors_830 : decode cL_errors 830 = .ok (.if_icmp .ge 35, 3) := by decide +kernel
theorem dL_errors_833 : decode cL_errors 833 = .ok (.iload 5, 2) := by decide +kernel
theorem dL_errors_835 : decode cL_errors 835 = .ok (.ifCond .eq 30, 3) := by decide +kernel
theorem dL_errors_838 : decode cL_errors 838 = .ok (.aload_n 0, 1) := by decide +kernel
theorem dL_errors_839 : decode cL_errors 839 = .ok (.iload 6, 2) := by decide +kernel
theorem dL_errors_841 : decode cL_errors 841 = .ok (.iconst 5, 1) := by decide +kernel
theorem dL_errors_842 : decode cL_errors 842 = .ok (.invokestatic 133, 3) := by decide +kernel
theorem dL_errors_845 : decode cL_errors 845 = .ok (.ldc2_w 17, 3) := by decide +kernel
theorem dL_errors_848 : decode cL_errors 848 = .ok (.lcmp, 1) := by decide +kernel
theorem dL_errors_849 : decode cL_errors 849 = .ok (.ifCond .ne 7, 3) := by decide +kernel
theorem dL_errors_852 : decode cL_errors 852 = .ok (.iconst 1, 1) := by decide +kernel
theorem dL_errors_853 : decode cL_errors 853 = .ok (.goto 4, 3) := by decide +kernel
theorem dL_errors_856 : decode cL_errors 856 = .ok (.iconst 0, 1) := by decide +kernel
theorem dL_errors_857 : decode cL_errors 857 = .ok (.istore 5, 2) := by decide +kernel
theorem dL_errors_859 : decode cL_errors 859 = .ok (.iinc 6 1, 3) := by decide +kernel
theorem dL_errors_862 : decode cL_errors 862 = .ok (.goto (-36), 3) := by decide +kernel
theorem dL_errors_865 : decode cL_errors 865 = .ok (.iload 5, 2) := by decide +kernel
theorem dL_errors_867 : decode cL_errors 867 = .ok (.ifCond .eq 93, 3) := by decide +kernel
theorem dL_errors_870 : decode cL_errors 870 = .ok (.aload_n 0, 1) := by decide +kernel
theorem dL_errors_871 : decode cL_errors 871 = .ok (.iconst 0, 1) := by decide +kernel
theorem dL_errors_872 : decode cL_errors 872 = .ok (.lconst 0, 1) := by decide +kernel
theorem dL_errors_873 : decode cL_errors 873 = .ok (.invokestatic 174, 3) := by decide +kernel
theorem dL_errors_876 : decode cL_errors 876 = .ok (.ldc2_w 17, 3) := by decide +kernel
theorem dL_errors_879 : decode cL_errors 879 = .ok (.lcmp, 1) := by decide +kernel
theorem dL_errors_880 : decode cL_errors 880 = .ok (.ifCond .ne 80, 3) := by decide +kernel
theorem dL_errors_883 : decode cL_errors 883 = .ok (.aload_n 0, 1) := by decide +kernel
theorem dL_errors_884 : decode cL_errors 884 = .ok (.iconst 3, 1) := by decide +kernel
theorem dL_errors_885 : decode cL_errors 885 = .ok (.ldc2_w 178, 3) := by decide +kernel
theorem dL_errors_888 : decode cL_errors 888 = .ok (.invokestatic 174, 3) := by decide +kernel
theorem dL_errors_891 : decode cL_errors 891 = .ok (.ldc2_w 17, 3) := by decide +kernel
theorem dL_errors_894 : decode cL_errors 894 = .ok (.lcmp, 1) := by decide +kernel
theorem dL_errors_895 : decode cL_errors 895 = .ok (.ifCond .ne 65, 3) := by decide +kernel
theorem dL_errors_898 : decode cL_errors 898 = .ok (.aload_n 0, 1) := by decide +kernel
theorem dL_errors_899 : decode cL_errors 899 = .ok (.lconst 1, 1) := by decide +kernel
theorem dL_errors_900 : decode cL_errors 900 = .ok (.iconst 0, 1) := by decide +kernel
theorem dL_errors_901 : decode cL_errors 901 = .ok (.invokestatic 180, 3) := by decide +kernel
theorem dL_errors_904 : decode cL_errors 904 = .ok (.ldc2_w 17, 3) := by decide +kernel
theorem dL_errors_907 : decode cL_errors 907 = .ok (.lcmp, 1) := by decide +kernel
theorem dL_errors_908 : decode cL_errors 908 = .ok (.ifCond .ne 52, 3) := by decide +kernel
theorem dL_errors_911 : decode cL_errors 911 = .ok (.aload_n 0, 1) := by decide +kernel
theorem dL_errors_912 : decode cL_errors 912 = .ok (.iconst 2, 1) := by decide +kernel
theorem dL_errors_913 : decode cL_errors 913 = .ok (.invokestatic 183, 3) := by decide +kernel
theorem dL_errors_916 : decode cL_errors 916 = .ok (.ldc2_w 36, 3) := by decide +kernel
theorem dL_errors_919 : decode cL_errors 919 = .ok (.lcmp, 1) := by decide +kernel
theorem dL_errors_920 : decode cL_errors 920 = .ok (.ifCond .ne 40, 3) := by decide +kernel
theorem dL_errors_923 : decode cL_errors 923 = .ok (.aload_n 0, 1) := by decide +kernel
theorem dL_errors_924 : decode cL_errors 924 = .ok (.iconst 2, 1) := by decide +kernel
theorem dL_errors_925 : decode cL_errors 925 = .ok (.invokestatic 185, 3) := by decide +kernel
theorem dL_errors_928 : decode cL_errors 928 = .ok (.ldc2_w 36, 3) := by decide +kernel
theorem dL_errors_931 : decode cL_errors 931 = .ok (.lcmp, 1) := by decide +kernel
theorem dL_errors_932 : decode cL_errors 932 = .ok (.ifCond .ne 28, 3) := by decide +kernel
theorem dL_errors_935 : decode cL_errors 935 = .ok (.aload_n 0, 1) := by decide +kernel
theorem dL_errors_936 : decode cL_errors 936 = .ok (.iconst (-1), 1) := by decide +kernel
theorem dL_errors_937 : decode cL_errors 937 = .ok (.invokestatic 187, 3) := by decide +kernel
theorem dL_errors_940 : decode cL_errors 940 = .ok (.ldc2_w 17, 3) := by decide +kernel
theorem dL_errors_943 : decode cL_errors 943 = .ok (.lcmp, 1) := by decide +kernel
theorem dL_errors_944 : decode cL_errors 944 = .ok (.ifCond .ne 16, 3) := by decide +kernel
theorem dL_errors_947 : decode cL_errors 947 = .ok (.aload_n 0, 1) := by decide +kernel
theorem dL_errors_948 : decode cL_errors 948 = .ok (.invokestatic 139, 3) := by decide +kernel
theorem dL_errors_951 : decode cL_errors 951 = .ok (.lload_n 1, 1) := by decide +kernel
theorem dL_errors_952 : decode cL_errors 952 = .ok (.lcmp, 1) := by decide +kernel
theorem dL_errors_953 : decode cL_errors 953 = .ok (.ifCond .ne 7, 3) := by decide +kernel
theorem dL_errors_956 : decode cL_errors 956 = .ok (.iconst 1, 1) := by decide +kernel
theorem dL_errors_957 : decode cL_errors 957 = .ok (.goto 4, 3) := by decide +kernel
theorem dL_errors_960 : decode cL_errors 960 = .ok (.iconst 0, 1) := by decide +kernel
theorem dL_errors_961 : decode cL_errors 961 = .ok (.ireturn, 1) := by decide +kernel
def bL_errors_0 (mc : Nat) (s_L_now : la_S) (s_L_about : la_S) (s_L_station : la_S) (s_L_stock : la_S) (s_L_finder : la_S) (s_L_back : la_S) (s_L_gap : la_S) (s_L_windOf : la_S) (s_L_setting : la_S) (s_L_addStation : la_S) (s_L_addFinder : la_S) (s_L_wind : la_S) (s_L_change : la_S) (s_L_deliver : la_S) (s_L_move : la_S) (s_L_run : la_S) (s_L_set : la_S) (s_L_landing : la_S) (s_L_finds : la_S) (s_L_coming : la_S) (s_L_lacks : la_S) (s_L_ifDelivered : la_S) (s_L_script : la_S) (s_L_simulate : la_S) (s_L_save : la_S) (s_L_restore : la_S) (s_L_append : la_S) (M : Nat → la_P) (K : Option Value → (Nat → aS) → Prop) : la_P := la_ald 0 (la_cN mc 200 1 s_L_now (la_lst 1 (la_ald 0 (la_ci (nI 0) (la_cN mc 1 2 s_L_about (la_l2i (la_ist 3 (la_ald 0 (la_ci (nI 1) (la_cN mc 1 2 s_L_about (la_l2i (la_ist 4 (la_ald 0 (la_ci (-1) (la_cN mc 1 2 s_L_about (la_cl (-9000000000000000002) (la_lcmp (la_if1 (fun x => ¬ x = 0) (M 527) (la_ald 0 (la_ci (nI 12) (la_cN mc 1 2 s_L_about (la_cl (-9000000000000000002) (la_lcmp (la_if1 (fun x => ¬ x = 0) (M 527) (la_ald 0 (la_ild 3 (la_ci (nI 9) (la_cN mc 1 3 s_L_station (la_cl (-9000000000000000001) (la_lcmp (la_if1 (fun x => ¬ x = 0) (M 527) (la_ald 0 (la_ild 3 (la_ci (nI 9) (la_cN mc 1 3 s_L_stock (la_cl (-9000000000000000001) (la_lcmp (la_if1 (fun x => ¬ x = 0) (M 527) (la_ald 0 (la_ild 4 (la_ci (nI 9) (la_cN mc 1 3 s_L_finder (la_cl (-9000000000000000001) (la_lcmp (la_if1 (fun x => ¬ x = 0) (M 527) (M 88))))))))))))))))))))))))))))))))))))))))))))))
def bL_errors_88 (mc : Nat) (s_L_now : la_S) (s_L_about : la_S) (s_L_station : la_S) (s_L_stock : la_S) (s_L_finder : la_S) (s_L_back : la_S) (s_L_gap : la_S) (s_L_windOf : la_S) (s_L_setting : la_S) (s_L_addStation : la_S) (s_L_addFinder : la_S) (s_L_wind : la_S) (s_L_change : la_S) (s_L_deliver : la_S) (s_L_move : la_S) (s_L_run : la_S) (s_L_set : la_S) (s_L_landing : la_S) (s_L_finds : la_S) (s_L_coming : la_S) (s_L_lacks : la_S) (s_L_ifDelivered : la_S) (s_L_script : la_S) (s_L_simulate : la_S) (s_L_save : la_S) (s_L_restore : la_S) (s_L_append : la_S) (M : Nat → la_P) (K : Option Value → (Nat → aS) → Prop) : la_P := la_ald 0 (la_ci (-1) (la_ci (nI 0) (la_cN mc 1 3 s_L_back (la_cl (-9000000000000000002) (la_lcmp (la_if1 (fun x => ¬ x = 0) (M 527) (la_ald 0 (la_ci (nI 0) (la_ci (nI 3) (la_cN mc 1 3 s_L_back (la_cl (-9000000000000000002) (la_lcmp (la_if1 (fun x => ¬ x = 0) (M 527) (la_ald 0 (la_ci (nI 0) (la_ci (-1) (la_cN mc 1 3 s_L_gap (la_cl (-9000000000000000002) (la_lcmp (la_if1 (fun x => ¬ x = 0) (M 527) (la_ald 0 (la_ci (nI 4) (la_cN mc 1 2 s_L_windOf (la_cl (-9000000000000000002) (la_lcmp (la_if1 (fun x => ¬ x = 0) (M 527) (la_ald 0 (la_ci (nI 5) (la_cN mc 1 2 s_L_setting (la_cl (-9000000000000000002) (la_lcmp (la_if1 (fun x => ¬ x = 0) (M 527) (la_ald 0 (la_ci (nI 100) (la_ci (nI 0) (la_ci (nI 1) (la_ci (nI 0) (la_ci (nI 0) (la_cN mc 1 6 s_L_addStation (la_cl (-9000000000000000002) (la_lcmp (la_if1 (fun x => ¬ x = 0) (M 527) (la_ald 0 (la_ci (nI 0) (la_ci (nI 16) (la_ci (nI 1) (la_ci (nI 0) (la_ci (nI 0) (la_cN mc 1 6 s_L_addStation (la_cl (-9000000000000000002) (la_lcmp (la_if1 (fun x => ¬ x = 0) (M 527) (M 185)))))))))))))))))))))))))))))))))))))))))))))))))))))
def bL_errors_185 (mc : Nat) (s_L_now : la_S) (s_L_about : la_S) (s_L_station : la_S) (s_L_stock : la_S) (s_L_finder : la_S) (s_L_back : la_S) (s_L_gap : la_S) (s_L_windOf : la_S) (s_L_setting : la_S) (s_L_addStation : la_S) (s_L_addFinder : la_S) (s_L_wind : la_S) (s_L_change : la_S) (s_L_deliver : la_S) (s_L_move : la_S) (s_L_run : la_S) (s_L_set : la_S) (s_L_landing : la_S) (s_L_finds : la_S) (s_L_coming : la_S) (s_L_lacks : la_S) (s_L_ifDelivered : la_S) (s_L_script : la_S) (s_L_simulate : la_S) (s_L_save : la_S) (s_L_restore : la_S) (s_L_append : la_S) (M : Nat → la_P) (K : Option Value → (Nat → aS) → Prop) : la_P := la_ald 0 (la_ci (nI 0) (la_ci (nI 0) (la_ci (nI 6) (la_ci (nI 0) (la_ci (nI 0) (la_cN mc 1 6 s_L_addStation (la_cl (-9000000000000000002) (la_lcmp (la_if1 (fun x => ¬ x = 0) (M 527) (la_ald 0 (la_ci (nI 0) (la_ci (nI 0) (la_ci (nI 1) (la_ci (nI 1000) (la_ci (nI 0) (la_cN mc 1 6 s_L_addStation (la_cl (-9000000000000000002) (la_lcmp (la_if1 (fun x => ¬ x = 0) (M 527) (la_ald 0 (la_ci (nI 0) (la_ci (nI 0) (la_ci (nI 1) (la_ci (nI 0) (la_ci (nI 100) (la_cN mc 1 6 s_L_addStation (la_cl (-9000000000000000002) (la_lcmp (la_if1 (fun x => ¬ x = 0) (M 527) (la_ald 0 (la_ci (-1) (la_ci (nI 0) (la_ci (nI 1) (la_cN mc 1 4 s_L_addFinder (la_cl (-9000000000000000002) (la_lcmp (la_if1 (fun x => ¬ x = 0) (M 527) (la_ald 0 (la_ci (nI 0) (la_ci (nI 21) (la_ci (nI 1) (la_cN mc 1 4 s_L_addFinder (la_cl (-9000000000000000002) (la_lcmp (la_if1 (fun x => ¬ x = 0) (M 527) (M 266))))))))))))))))))))))))))))))))))))))))))))))
def bL_errors_266 (mc : Nat) (s_L_now : la_S) (s_L_about : la_S) (s_L_station : la_S) (s_L_stock : la_S) (s_L_finder : la_S) (s_L_back : la_S) (s_L_gap : la_S) (s_L_windOf : la_S) (s_L_setting : la_S) (s_L_addStation : la_S) (s_L_addFinder : la_S) (s_L_wind : la_S) (s_L_change : la_S) (s_L_deliver : la_S) (s_L_move : la_S) (s_L_run : la_S) (s_L_set : la_S) (s_L_landing : la_S) (s_L_finds : la_S) (s_L_coming : la_S) (s_L_lacks : la_S) (s_L_ifDelivered : la_S) (s_L_script : la_S) (s_L_simulate : la_S) (s_L_save : la_S) (s_L_restore : la_S) (s_L_append : la_S) (M : Nat → la_P) (K : Option Value → (Nat → aS) → Prop) : la_P := la_ald 0 (la_ci (nI 0) (la_ci (nI 0) (la_ci (nI 0) (la_cN mc 1 4 s_L_addFinder (la_cl (-9000000000000000002) (la_lcmp (la_if1 (fun x => ¬ x = 0) (M 527) (la_ald 0 (la_ci (nI 4) (la_ci (nI 0) (la_cN mc 1 3 s_L_wind (la_cl (-9000000000000000002) (la_lcmp (la_if1 (fun x => ¬ x = 0) (M 527) (la_ald 0 (la_ci (nI 0) (la_ci (-21) (la_cN mc 1 3 s_L_wind (la_cl (-9000000000000000002) (la_lcmp (la_if1 (fun x => ¬ x = 0) (M 527) (la_ald 0 (la_ild 3 (la_ci (nI 16) (la_ci (nI 1) (la_cN mc 1 4 s_L_change (la_cl (-9000000000000000001) (la_lcmp (la_if1 (fun x => ¬ x = 0) (M 527) (la_ald 0 (la_ild 3 (la_ci (nI 0) (la_ci (nI 0) (la_cN mc 1 4 s_L_deliver (la_cl (-9000000000000000001) (la_lcmp (la_if1 (fun x => ¬ x = 0) (M 527) (la_ald 0 (la_ild 3 (la_ci (nI 0) (la_cN mc 1 3 s_L_move (la_cl (-9000000000000000001) (la_lcmp (la_if1 (fun x => ¬ x = 0) (M 527) (la_ald 0 (la_ci (nI 0) (la_ci (-1) (la_cN mc 1 3 s_L_move (la_cl (-9000000000000000001) (la_lcmp (la_if1 (fun x => ¬ x = 0) (M 527) (M 362))))))))))))))))))))))))))))))))))))))))))))))))))))
def bL_errors_362 (mc : Nat) (s_L_now : la_S) (s_L_about : la_S) (s_L_station : la_S) (s_L_stock : la_S) (s_L_finder : la_S) (s_L_back : la_S) (s_L_gap : la_S) (s_L_windOf : la_S) (s_L_setting : la_S) (s_L_addStation : la_S) (s_L_addFinder : la_S) (s_L_wind : la_S) (s_L_change : la_S) (s_L_deliver : la_S) (s_L_move : la_S) (s_L_run : la_S) (s_L_set : la_S) (s_L_landing : la_S) (s_L_finds : la_S) (s_L_coming : la_S) (s_L_lacks : la_S) (s_L_ifDelivered : la_S) (s_L_script : la_S) (s_L_simulate : la_S) (s_L_save : la_S) (s_L_restore : la_S) (s_L_append : la_S) (M : Nat → la_P) (K : Option Value → (Nat → aS) → Prop) : la_P := la_ald 0 (la_ci (nI 0) (la_cN mc 1 2 s_L_run (la_cl (-9000000000000000002) (la_lcmp (la_if1 (fun x => ¬ x = 0) (M 527) (la_ald 0 (la_ci (nI 41) (la_cN mc 1 2 s_L_run (la_cl (-9000000000000000002) (la_lcmp (la_if1 (fun x => ¬ x = 0) (M 527) (la_ald 0 (la_ci (nI 0) (la_ci (nI 31) (la_cN mc 1 3 s_L_set (la_cl (-9000000000000000002) (la_lcmp (la_if1 (fun x => ¬ x = 0) (M 527) (la_ald 0 (la_ci (nI 1) (la_ci (nI 0) (la_cN mc 1 3 s_L_set (la_cl (-9000000000000000002) (la_lcmp (la_if1 (fun x => ¬ x = 0) (M 527) (la_ald 0 (la_ci (nI 4) (la_ci (nI 100) (la_cN mc 1 3 s_L_set (la_cl (-9000000000000000002) (la_lcmp (la_if1 (fun x => ¬ x = 0) (M 527) (la_ald 0 (la_ci (nI 5) (la_ci (nI 1) (la_cN mc 1 3 s_L_set (la_cl (-9000000000000000002) (la_lcmp (la_if1 (fun x => ¬ x = 0) (M 527) (la_ald 0 (la_ild 3 (la_ci (nI 9) (la_cN mc 1 3 s_L_landing (la_cl (-9000000000000000001) (la_lcmp (la_if1 (fun x => ¬ x = 0) (M 527) (M 455)))))))))))))))))))))))))))))))))))))))))))))))
def bL_errors_455 (mc : Nat) (s_L_now : la_S) (s_L_about : la_S) (s_L_station : la_S) (s_L_stock : la_S) (s_L_finder : la_S) (s_L_back : la_S) (s_L_gap : la_S) (s_L_windOf : la_S) (s_L_setting : la_S) (s_L_addStation : la_S) (s_L_addFinder : la_S) (s_L_wind : la_S) (s_L_change : la_S) (s_L_deliver : la_S) (s_L_move : la_S) (s_L_run : la_S) (s_L_set : la_S) (s_L_landing : la_S) (s_L_finds : la_S) (s_L_coming : la_S) (s_L_lacks : la_S) (s_L_ifDelivered : la_S) (s_L_script : la_S) (s_L_simulate : la_S) (s_L_save : la_S) (s_L_restore : la_S) (s_L_append : la_S) (M : Nat → la_P) (K : Option Value → (Nat → aS) → Prop) : la_P := la_ald 0 (la_ci (nI 100) (la_cN mc 1 2 s_L_finds (la_cl (-9000000000000000002) (la_lcmp (la_if1 (fun x => ¬ x = 0) (M 527) (la_ald 0 (la_ci (nI 0) (la_ci (nI 0) (la_cN mc 1 3 s_L_coming (la_cl (-9000000000000000002) (la_lcmp (la_if1 (fun x => ¬ x = 0) (M 527) (la_ald 0 (la_ci (nI 9) (la_ci (nI 4) (la_cN mc 1 3 s_L_coming (la_cl (-9000000000000000002) (la_lcmp (la_if1 (fun x => ¬ x = 0) (M 527) (la_ald 0 (la_ild 3 (la_ci (nI 0) (la_cN mc 1 3 s_L_lacks (la_cl (-9000000000000000001) (la_lcmp (la_if1 (fun x => ¬ x = 0) (M 527) (la_ald 0 (la_ci (-1) (la_ci (nI 0) (la_ci (nI 0) (la_ci (nI 0) (la_cN mc 1 5 s_L_ifDelivered (la_cl (-9000000000000000001) (la_lcmp (la_if1 (fun x => ¬ x = 0) (M 527) (la_ci (nI 1) (M 528)))))))))))))))))))))))))))))))))))))
def bL_errors_527 (mc : Nat) (s_L_now : la_S) (s_L_about : la_S) (s_L_station : la_S) (s_L_stock : la_S) (s_L_finder : la_S) (s_L_back : la_S) (s_L_gap : la_S) (s_L_windOf : la_S) (s_L_setting : la_S) (s_L_addStation : la_S) (s_L_addFinder : la_S) (s_L_wind : la_S) (s_L_change : la_S) (s_L_deliver : la_S) (s_L_move : la_S) (s_L_run : la_S) (s_L_set : la_S) (s_L_landing : la_S) (s_L_finds : la_S) (s_L_coming : la_S) (s_L_lacks : la_S) (s_L_ifDelivered : la_S) (s_L_script : la_S) (s_L_simulate : la_S) (s_L_save : la_S) (s_L_restore : la_S) (s_L_append : la_S) (M : Nat → la_P) (K : Option Value → (Nat → aS) → Prop) : la_P := la_ci (nI 0) (M 528)
def bL_errors_528 (mc : Nat) (s_L_now : la_S) (s_L_about : la_S) (s_L_station : la_S) (s_L_stock : la_S) (s_L_finder : la_S) (s_L_back : la_S) (s_L_gap : la_S) (s_L_windOf : la_S) (s_L_setting : la_S) (s_L_addStation : la_S) (s_L_addFinder : la_S) (s_L_wind : la_S) (s_L_change : la_S) (s_L_deliver : la_S) (s_L_move : la_S) (s_L_run : la_S) (s_L_set : la_S) (s_L_landing : la_S) (s_L_finds : la_S) (s_L_coming : la_S) (s_L_lacks : la_S) (s_L_ifDelivered : la_S) (s_L_script : la_S) (s_L_simulate : la_S) (s_L_save : la_S) (s_L_restore : la_S) (s_L_append : la_S) (M : Nat → la_P) (K : Option Value → (Nat → aS) → Prop) : la_P := la_ist 5 (la_ild 5 (la_if1 (fun x => x = 0) (M 581) (la_ild 3 (la_ci (nI 5) (la_if2 (fun x y => x < y) (M 556) (la_ald 0 (la_ci (nI 0) (la_ci (nI 0) (la_ci (nI 1) (la_ci (nI 0) (la_ci (nI 0) (la_cN mc 1 6 s_L_addStation (la_cl (-9000000000000000003) (la_lcmp (la_if1 (fun x => ¬ x = 0) (M 581) (M 556))))))))))))))))
def bL_errors_556 (mc : Nat) (s_L_now : la_S) (s_L_about : la_S) (s_L_station : la_S) (s_L_stock : la_S) (s_L_finder : la_S) (s_L_back : la_S) (s_L_gap : la_S) (s_L_windOf : la_S) (s_L_setting : la_S) (s_L_addStation : la_S) (s_L_addFinder : la_S) (s_L_wind : la_S) (s_L_change : la_S) (s_L_deliver : la_S) (s_L_move : la_S) (s_L_run : la_S) (s_L_set : la_S) (s_L_landing : la_S) (s_L_finds : la_S) (s_L_coming : la_S) (s_L_lacks : la_S) (s_L_ifDelivered : la_S) (s_L_script : la_S) (s_L_simulate : la_S) (s_L_save : la_S) (s_L_restore : la_S) (s_L_append : la_S) (M : Nat → la_P) (K : Option Value → (Nat → aS) → Prop) : la_P := la_ild 4 (la_ci (nI 6) (la_if2 (fun x y => x < y) (M 577) (la_ald 0 (la_ci (nI 0) (la_ci (nI 0) (la_ci (nI 1) (la_cN mc 1 4 s_L_addFinder (la_cl (-9000000000000000003) (la_lcmp (la_if1 (fun x => ¬ x = 0) (M 581) (M 577)))))))))))
def bL_errors_577 (mc : Nat) (s_L_now : la_S) (s_L_about : la_S) (s_L_station : la_S) (s_L_stock : la_S) (s_L_finder : la_S) (s_L_back : la_S) (s_L_gap : la_S) (s_L_windOf : la_S) (s_L_setting : la_S) (s_L_addStation : la_S) (s_L_addFinder : la_S) (s_L_wind : la_S) (s_L_change : la_S) (s_L_deliver : la_S) (s_L_move : la_S) (s_L_run : la_S) (s_L_set : la_S) (s_L_landing : la_S) (s_L_finds : la_S) (s_L_coming : la_S) (s_L_lacks : la_S) (s_L_ifDelivered : la_S) (s_L_script : la_S) (s_L_simulate : la_S) (s_L_save : la_S) (s_L_restore : la_S) (s_L_append : la_S) (M : Nat → la_P) (K : Option Value → (Nat → aS) → Prop) : la_P := la_ci (nI 1) (M 582)
def bL_errors_581 (mc : Nat) (s_L_now : la_S) (s_L_about : la_S) (s_L_station : la_S) (s_L_stock : la_S) (s_L_finder : la_S) (s_L_back : la_S) (s_L_gap : la_S) (s_L_windOf : la_S) (s_L_setting : la_S) (s_L_addStation : la_S) (s_L_addFinder : la_S) (s_L_wind : la_S) (s_L_change : la_S) (s_L_deliver : la_S) (s_L_move : la_S) (s_L_run : la_S) (s_L_set : la_S) (s_L_landing : la_S) (s_L_finds : la_S) (s_L_coming : la_S) (s_L_lacks : la_S) (s_L_ifDelivered : la_S) (s_L_script : la_S) (s_L_simulate : la_S) (s_L_save : la_S) (s_L_restore : la_S) (s_L_append : la_S) (M : Nat → la_P) (K : Option Value → (Nat → aS) → Prop) : la_P := la_ci (nI 0) (M 582)
def bL_errors_582 (mc : Nat) (s_L_now : la_S) (s_L_about : la_S) (s_L_station : la_S) (s_L_stock : la_S) (s_L_finder : la_S) (s_L_back : la_S) (s_L_gap : la_S) (s_L_windOf : la_S) (s_L_setting : la_S) (s_L_addStation : la_S) (s_L_addFinder : la_S) (s_L_wind : la_S) (s_L_change : la_S) (s_L_deliver : la_S) (s_L_move : la_S) (s_L_run : la_S) (s_L_set : la_S) (s_L_landing : la_S) (s_L_finds : la_S) (s_L_coming : la_S) (s_L_lacks : la_S) (s_L_ifDelivered : la_S) (s_L_script : la_S) (s_L_simulate : la_S) (s_L_save : la_S) (s_L_restore : la_S) (s_L_append : la_S) (M : Nat → la_P) (K : Option Value → (Nat → aS) → Prop) : la_P := la_ist 5 (la_ci (nI 0) (la_ist 6 (M 587)))
def bL_errors_587 (mc : Nat) (s_L_now : la_S) (s_L_about : la_S) (s_L_station : la_S) (s_L_stock : la_S) (s_L_finder : la_S) (s_L_back : la_S) (s_L_gap : la_S) (s_L_windOf : la_S) (s_L_setting : la_S) (s_L_addStation : la_S) (s_L_addFinder : la_S) (s_L_wind : la_S) (s_L_change : la_S) (s_L_deliver : la_S) (s_L_move : la_S) (s_L_run : la_S) (s_L_set : la_S) (s_L_landing : la_S) (s_L_finds : la_S) (s_L_coming : la_S) (s_L_lacks : la_S) (s_L_ifDelivered : la_S) (s_L_script : la_S) (s_L_simulate : la_S) (s_L_save : la_S) (s_L_restore : la_S) (s_L_append : la_S) (M : Nat → la_P) (K : Option Value → (Nat → aS) → Prop) : la_P := la_ild 6 (la_ild 3 (la_if2 (fun x y => y ≤ x) (M 823) (la_ild 5 (la_if1 (fun x => x = 0) (M 823) (la_ald 0 (la_ild 6 (la_ci (nI 8) (la_cN mc 1 3 s_L_station (la_cl (-9000000000000000002) (la_lcmp (la_if1 (fun x => ¬ x = 0) (M 814) (la_ald 0 (la_ild 6 (la_ci (nI 5) (la_cN mc 1 3 s_L_stock (la_cl (-9000000000000000002) (la_lcmp (la_if1 (fun x => ¬ x = 0) (M 814) (la_ald 0 (la_ild 6 (la_ci (nI 0) (la_ci (nI 0) (la_cN mc 1 4 s_L_change (la_cl (-9000000000000000002) (la_lcmp (la_if1 (fun x => ¬ x = 0) (M 814) (la_ald 0 (la_ild 6 (la_ci (nI 1000) (la_ci (nI 0) (la_cN mc 1 4 s_L_deliver (la_cl (-9000000000000000002) (la_lcmp (la_if1 (fun x => ¬ x = 0) (M 814) (la_ald 0 (la_ild 6 (la_ci (nI 0) (la_ci (nI 0) (la_cN mc 1 4 s_L_deliver (la_cl (-9000000000000000003) (la_lcmp (la_if1 (fun x => ¬ x = 0) (M 814) (la_ald 0 (la_ild 6 (la_ci (nI 0) (la_ci (nI 0) (la_ci (nI 5) (la_cN mc 1 5 s_L_ifDelivered (la_cl (-9000000000000000003) (la_lcmp (la_if1 (fun x => ¬ x = 0) (M 814) (M 690))))))))))))))))))))))))))))))))))))))))))))))))))))
def bL_errors_690 (mc : Nat) (s_L_now : la_S) (s_L_about : la_S) (s_L_station : la_S) (s_L_stock : la_S) (s_L_finder : la_S) (s_L_back : la_S) (s_L_gap : la_S) (s_L_windOf : la_S) (s_L_setting : la_S) (s_L_addStation : la_S) (s_L_addFinder : la_S) (s_L_wind : la_S) (s_L_change : la_S) (s_L_deliver : la_S) (s_L_move : la_S) (s_L_run : la_S) (s_L_set : la_S) (s_L_landing : la_S) (s_L_finds : la_S) (s_L_coming : la_S) (s_L_lacks : la_S) (s_L_ifDelivered : la_S) (s_L_script : la_S) (s_L_simulate : la_S) (s_L_save : la_S) (s_L_restore : la_S) (s_L_append : la_S) (M : Nat → la_P) (K : Option Value → (Nat → aS) → Prop) : la_P := la_ald 0 (la_ild 6 (la_ci (nI 0) (la_ci (nI 0) (la_ci (nI 61) (la_cN mc 1 5 s_L_ifDelivered (la_cl (-9000000000000000002) (la_lcmp (la_if1 (fun x => ¬ x = 0) (M 814) (la_ald 0 (la_ild 6 (la_ild 6 (la_cN mc 1 3 s_L_move (la_cl (-9000000000000000003) (la_lcmp (la_if1 (fun x => ¬ x = 0) (M 814) (la_ald 0 (la_ild 6 (la_ci (nI 4) (la_cN mc 1 3 s_L_station (la_cl (lN 0) (la_lcmp (la_if1 (fun x => 0 < x) (M 753) (la_ald 0 (la_ild 6 (la_ild 6 (la_ci (nI 1) (la_b2 (fun x y => x + y) (la_ild 3 (la_d2 (fun x y => x - x / y * y) (la_cN mc 1 3 s_L_move (la_cl (-9000000000000000003) (la_lcmp (la_if1 (fun x => ¬ x = 0) (M 814) (M 753))))))))))))))))))))))))))))))))))
def bL_errors_753 (mc : Nat) (s_L_now : la_S) (s_L_about : la_S) (s_L_station : la_S) (s_L_stock : la_S) (s_L_finder : la_S) (s_L_back : la_S) (s_L_gap : la_S) (s_L_windOf : la_S) (s_L_setting : la_S) (s_L_addStation : la_S) (s_L_addFinder : la_S) (s_L_wind : la_S) (s_L_change : la_S) (s_L_deliver : la_S) (s_L_move : la_S) (s_L_run : la_S) (s_L_set : la_S) (s_L_landing : la_S) (s_L_finds : la_S) (s_L_coming : la_S) (s_L_lacks : la_S) (s_L_ifDelivered : la_S) (s_L_script : la_S) (s_L_simulate : la_S) (s_L_save : la_S) (s_L_restore : la_S) (s_L_append : la_S) (M : Nat → la_P) (K : Option Value → (Nat → aS) → Prop) : la_P := la_ald 0 (la_ild 6 (la_ci (nI 4) (la_cN mc 1 3 s_L_landing (la_cl (-9000000000000000002) (la_lcmp (la_if1 (fun x => ¬ x = 0) (M 814) (la_ald 0 (la_ild 6 (la_ci (nI 61) (la_cN mc 1 3 s_L_lacks (la_cl (-9000000000000000002) (la_lcmp (la_if1 (fun x => ¬ x = 0) (M 814) (la_ald 0 (la_ci (nI 10) (la_cN mc 1 2 s_L_about (la_cl (8) (la_lcmp (la_if1 (fun x => x < 0) (M 810) (la_ald 0 (la_ild 6 (la_ci (nI 1) (la_ci (nI 1) (la_cN mc 1 4 s_L_deliver (la_cl (-9000000000000000003) (la_lcmp (la_if1 (fun x => ¬ x = 0) (M 814) (M 810))))))))))))))))))))))))))))
def bL_errors_810 (mc : Nat) (s_L_now : la_S) (s_L_about : la_S) (s_L_station : la_S) (s_L_stock : la_S) (s_L_finder : la_S) (s_L_back : la_S) (s_L_gap : la_S) (s_L_windOf : la_S) (s_L_setting : la_S) (s_L_addStation : la_S) (s_L_addFinder : la_S) (s_L_wind : la_S) (s_L_change : la_S) (s_L_deliver : la_S) (s_L_move : la_S) (s_L_run : la_S) (s_L_set : la_S) (s_L_landing : la_S) (s_L_finds : la_S) (s_L_coming : la_S) (s_L_lacks : la_S) (s_L_ifDelivered : la_S) (s_L_script : la_S) (s_L_simulate : la_S) (s_L_save : la_S) (s_L_restore : la_S) (s_L_append : la_S) (M : Nat → la_P) (K : Option Value → (Nat → aS) → Prop) : la_P := la_ci (nI 1) (M 815)
def bL_errors_814 (mc : Nat) (s_L_now : la_S) (s_L_about : la_S) (s_L_station : la_S) (s_L_stock : la_S) (s_L_finder : la_S) (s_L_back : la_S) (s_L_gap : la_S) (s_L_windOf : la_S) (s_L_setting : la_S) (s_L_addStation : la_S) (s_L_addFinder : la_S) (s_L_wind : la_S) (s_L_change : la_S) (s_L_deliver : la_S) (s_L_move : la_S) (s_L_run : la_S) (s_L_set : la_S) (s_L_landing : la_S) (s_L_finds : la_S) (s_L_coming : la_S) (s_L_lacks : la_S) (s_L_ifDelivered : la_S) (s_L_script : la_S) (s_L_simulate : la_S) (s_L_save : la_S) (s_L_restore : la_S) (s_L_append : la_S) (M : Nat → la_P) (K : Option Value → (Nat → aS) → Prop) : la_P := la_ci (nI 0) (M 815)
def bL_errors_815 (mc : Nat) (s_L_now : la_S) (s_L_about : la_S) (s_L_station : la_S) (s_L_stock : la_S) (s_L_finder : la_S) (s_L_back : la_S) (s_L_gap : la_S) (s_L_windOf : la_S) (s_L_setting : la_S) (s_L_addStation : la_S) (s_L_addFinder : la_S) (s_L_wind : la_S) (s_L_change : la_S) (s_L_deliver : la_S) (s_L_move : la_S) (s_L_run : la_S) (s_L_set : la_S) (s_L_landing : la_S) (s_L_finds : la_S) (s_L_coming : la_S) (s_L_lacks : la_S) (s_L_ifDelivered : la_S) (s_L_script : la_S) (s_L_simulate : la_S) (s_L_save : la_S) (s_L_restore : la_S) (s_L_append : la_S) (M : Nat → la_P) (K : Option Value → (Nat → aS) → Prop) : la_P := la_ist 5 (la_inc 6 (nI 1) (M 587))
def bL_errors_823 (mc : Nat) (s_L_now : la_S) (s_L_about : la_S) (s_L_station : la_S) (s_L_stock : la_S) (s_L_finder : la_S) (s_L_back : la_S) (s_L_gap : la_S) (s_L_windOf : la_S) (s_L_setting : la_S) (s_L_addStation : la_S) (s_L_addFinder : la_S) (s_L_wind : la_S) (s_L_change : la_S) (s_L_deliver : la_S) (s_L_move : la_S) (s_L_run : la_S) (s_L_set : la_S) (s_L_landing : la_S) (s_L_finds : la_S) (s_L_coming : la_S) (s_L_lacks : la_S) (s_L_ifDelivered : la_S) (s_L_script : la_S) (s_L_simulate : la_S) (s_L_save : la_S) (s_L_restore : la_S) (s_L_append : la_S) (M : Nat → la_P) (K : Option Value → (Nat → aS) → Prop) : la_P := la_ci (nI 0) (la_ist 6 (M 826))
def bL_errors_826 (mc : Nat) (s_L_now : la_S) (s_L_about : la_S) (s_L_station : la_S) (s_L_stock : la_S) (s_L_finder : la_S) (s_L_back : la_S) (s_L_gap : la_S) (s_L_windOf : la_S) (s_L_setting : la_S) (s_L_addStation : la_S) (s_L_addFinder : la_S) (s_L_wind : la_S) (s_L_change : la_S) (s_L_deliver : la_S) (s_L_move : la_S) (s_L_run : la_S) (s_L_set : la_S) (s_L_landing : la_S) (s_L_finds : la_S) (s_L_coming : la_S) (s_L_lacks : la_S) (s_L_ifDelivered : la_S) (s_L_script : la_S) (s_L_simulate : la_S) (s_L_save : la_S) (s_L_restore : la_S) (s_L_append : la_S) (M : Nat → la_P) (K : Option Value → (Nat → aS) → Prop) : la_P := la_ild 6 (la_ild 4 (la_if2 (fun x y => y ≤ x) (M 865) (la_ild 5 (la_if1 (fun x => x = 0) (M 865) (la_ald 0 (la_ild 6 (la_ci (nI 5) (la_cN mc 1 3 s_L_finder (la_cl (-9000000000000000002) (la_lcmp (la_if1 (fun x => ¬ x = 0) (la_ci (nI 0) (M 857)) (la_ci (nI 1) (M 857)))))))))))))
def bL_errors_857 (mc : Nat) (s_L_now : la_S) (s_L_about : la_S) (s_L_station : la_S) (s_L_stock : la_S) (s_L_finder : la_S) (s_L_back : la_S) (s_L_gap : la_S) (s_L_windOf : la_S) (s_L_setting : la_S) (s_L_addStation : la_S) (s_L_addFinder : la_S) (s_L_wind : la_S) (s_L_change : la_S) (s_L_deliver : la_S) (s_L_move : la_S) (s_L_run : la_S) (s_L_set : la_S) (s_L_landing : la_S) (s_L_finds : la_S) (s_L_coming : la_S) (s_L_lacks : la_S) (s_L_ifDelivered : la_S) (s_L_script : la_S) (s_L_simulate : la_S) (s_L_save : la_S) (s_L_restore : la_S) (s_L_append : la_S) (M : Nat → la_P) (K : Option Value → (Nat → aS) → Prop) : la_P := la_ist 5 (la_inc 6 (nI 1) (M 826))
def bL_errors_865 (mc : Nat) (s_L_now : la_S) (s_L_about : la_S) (s_L_station : la_S) (s_L_stock : la_S) (s_L_finder : la_S) (s_L_back : la_S) (s_L_gap : la_S) (s_L_windOf : la_S) (s_L_setting : la_S) (s_L_addStation : la_S) (s_L_addFinder : la_S) (s_L_wind : la_S) (s_L_change : la_S) (s_L_deliver : la_S) (s_L_move : la_S) (s_L_run : la_S) (s_L_set : la_S) (s_L_landing : la_S) (s_L_finds : la_S) (s_L_coming : la_S) (s_L_lacks : la_S) (s_L_ifDelivered : la_S) (s_L_script : la_S) (s_L_simulate : la_S) (s_L_save : la_S) (s_L_restore : la_S) (s_L_append : la_S) (M : Nat → la_P) (K : Option Value → (Nat → aS) → Prop) : la_P := la_ild 5 (la_if1 (fun x => x = 0) (M 960) (la_ald 0 (la_ci (nI 0) (la_cl (lN 0) (la_cN mc 1 3 s_L_script (la_cl (-9000000000000000002) (la_lcmp (la_if1 (fun x => ¬ x = 0) (M 960) (la_ald 0 (la_ci (nI 3) (la_cl (1000000000000000) (la_cN mc 1 3 s_L_script (la_cl (-9000000000000000002) (la_lcmp (la_if1 (fun x => ¬ x = 0) (M 960) (la_ald 0 (la_cl (lN 1) (la_ci (nI 0) (la_cN mc 1 3 s_L_simulate (la_cl (-9000000000000000002) (la_lcmp (la_if1 (fun x => ¬ x = 0) (M 960) (la_ald 0 (la_ci (nI 2) (la_cN mc 1 2 s_L_save (la_cl (-9000000000000000001) (la_lcmp (la_if1 (fun x => ¬ x = 0) (M 960) (la_ald 0 (la_ci (nI 2) (la_cN mc 1 2 s_L_restore (la_cl (-9000000000000000001) (la_lcmp (la_if1 (fun x => ¬ x = 0) (M 960) (la_ald 0 (la_ci (-1) (la_cN mc 1 2 s_L_append (la_cl (-9000000000000000002) (la_lcmp (la_if1 (fun x => ¬ x = 0) (M 960) (la_ald 0 (la_cN mc 200 1 s_L_now (la_lld 1 (la_lcmp (la_if1 (fun x => ¬ x = 0) (M 960) (M 956))))))))))))))))))))))))))))))))))))))))))))))
def bL_errors_956 (mc : Nat) (s_L_now : la_S) (s_L_about : la_S) (s_L_station : la_S) (s_L_stock : la_S) (s_L_finder : la_S) (s_L_back : la_S) (s_L_gap : la_S) (s_L_windOf : la_S) (s_L_setting : la_S) (s_L_addStation : la_S) (s_L_addFinder : la_S) (s_L_wind : la_S) (s_L_change : la_S) (s_L_deliver : la_S) (s_L_move : la_S) (s_L_run : la_S) (s_L_set : la_S) (s_L_landing : la_S) (s_L_finds : la_S) (s_L_coming : la_S) (s_L_lacks : la_S) (s_L_ifDelivered : la_S) (s_L_script : la_S) (s_L_simulate : la_S) (s_L_save : la_S) (s_L_restore : la_S) (s_L_append : la_S) (M : Nat → la_P) (K : Option Value → (Nat → aS) → Prop) : la_P := la_ci (nI 1) (M 961)
def bL_errors_960 (mc : Nat) (s_L_now : la_S) (s_L_about : la_S) (s_L_station : la_S) (s_L_stock : la_S) (s_L_finder : la_S) (s_L_back : la_S) (s_L_gap : la_S) (s_L_windOf : la_S) (s_L_setting : la_S) (s_L_addStation : la_S) (s_L_addFinder : la_S) (s_L_wind : la_S) (s_L_change : la_S) (s_L_deliver : la_S) (s_L_move : la_S) (s_L_run : la_S) (s_L_set : la_S) (s_L_landing : la_S) (s_L_finds : la_S) (s_L_coming : la_S) (s_L_lacks : la_S) (s_L_ifDelivered : la_S) (s_L_script : la_S) (s_L_simulate : la_S) (s_L_save : la_S) (s_L_restore : la_S) (s_L_append : la_S) (M : Nat → la_P) (K : Option Value → (Nat → aS) → Prop) : la_P := la_ci (nI 0) (M 961)
def bL_errors_961 (mc : Nat) (s_L_now : la_S) (s_L_about : la_S) (s_L_station : la_S) (s_L_stock : la_S) (s_L_finder : la_S) (s_L_back : la_S) (s_L_gap : la_S) (s_L_windOf : la_S) (s_L_setting : la_S) (s_L_addStation : la_S) (s_L_addFinder : la_S) (s_L_wind : la_S) (s_L_change : la_S) (s_L_deliver : la_S) (s_L_move : la_S) (s_L_run : la_S) (s_L_set : la_S) (s_L_landing : la_S) (s_L_finds : la_S) (s_L_coming : la_S) (s_L_lacks : la_S) (s_L_ifDelivered : la_S) (s_L_script : la_S) (s_L_simulate : la_S) (s_L_save : la_S) (s_L_restore : la_S) (s_L_append : la_S) (M : Nat → la_P) (K : Option Value → (Nat → aS) → Prop) : la_P := la_zr mc K
set_option maxRecDepth 40000 in
set_option maxHeartbeats 8000000 in
theorem vc_L_errors {l : Launch} (hl : l.stackTraces = false) {Y : lW} (hw : lWo Y) {A : Nat → aS} {As : List Value} {K : Option Value → (Nat → aS) → Prop} {s_L_now : la_S} (ok_L_now : la_Ok l yL_now (Cond.code yL_now cL_now 6 (some .long)) 9 (30 * 9) 200 s_L_now) {s_L_about : la_S} (ok_L_about : la_Ok l yL_about (Cond.codeWith yL_about cL_about 3 (some .long) [(0, 6, 7, 15)]) 7 (30 * 7) 1 s_L_about) {s_L_station : la_S} (ok_L_station : la_Ok l yL_station (Cond.codeWith yL_station cL_station 4 (some .long) [(0, 7, 8, 34), (0, 7, 13, 15)]) 8 (30 * 8) 1 s_L_station) {s_L_stock : la_S} (ok_L_stock : la_Ok l yL_stock (Cond.codeWith yL_stock cL_stock 4 (some .long) [(0, 7, 8, 34), (0, 7, 13, 15)]) 8 (30 * 8) 1 s_L_stock) {s_L_finder : la_S} (ok_L_finder : la_Ok l yL_finder (Cond.codeWith yL_finder cL_finder 4 (some .long) [(0, 7, 8, 34), (0, 7, 13, 15)]) 7 (30 * 7) 1 s_L_finder) {s_L_back : la_S} (ok_L_back : la_Ok l yL_back (Cond.codeWith yL_back cL_back 4 (some .long) [(0, 7, 8, 15)]) 8 (30 * 8) 1 s_L_back) {s_L_gap : la_S} (ok_L_gap : la_Ok l yL_gap (Cond.codeWith yL_gap cL_gap 4 (some .long) [(0, 7, 8, 15)]) 8 (30 * 8) 1 s_L_gap) {s_L_windOf : la_S} (ok_L_windOf : la_Ok l yL_windOf (Cond.codeWith yL_windOf cL_windOf 3 (some .long) [(0, 6, 7, 15)]) 8 (30 * 8) 1 s_L_windOf) {s_L_setting : la_S} (ok_L_setting : la_Ok l yL_setting (Cond.codeWith yL_setting cL_setting 3 (some .long) [(0, 6, 7, 15)]) 8 (30 * 8) 1 s_L_setting) {s_L_addStation : la_S} (ok_L_addStation : la_Ok l yL_addStation (Cond.codeWith yL_addStation cL_addStation 7 (some .long) [(0, 12, 13, 15), (0, 12, 19, 19)]) 9 (30 * 9) 1 s_L_addStation) {s_L_addFinder : la_S} (ok_L_addFinder : la_Ok l yL_addFinder (Cond.codeWith yL_addFinder cL_addFinder 5 (some .long) [(0, 8, 9, 15), (0, 8, 15, 19)]) 9 (30 * 9) 1 s_L_addFinder) {s_L_wind : la_S} (ok_L_wind : la_Ok l yL_wind (Cond.codeWith yL_wind cL_wind 4 (some .long) [(0, 7, 8, 15)]) 9 (30 * 9) 1 s_L_wind) {s_L_change : la_S} (ok_L_change : la_Ok l yL_change (Cond.codeWith yL_change cL_change 5 (some .long) [(0, 8, 9, 34), (0, 8, 15, 15)]) 9 (30 * 9) 1 s_L_change) {s_L_deliver : la_S} (ok_L_deliver : la_Ok l yL_deliver (Cond.codeWith yL_deliver cL_deliver 5 (some .long) [(0, 8, 9, 34), (0, 8, 15, 15), (0, 8, 21, 19)]) 9 (30 * 9) 1 s_L_deliver) {s_L_move : la_S} (ok_L_move : la_Ok l yL_move (Cond.codeWith yL_move cL_move 4 (some .long) [(0, 7, 8, 34), (0, 7, 13, 19)]) 9 (30 * 9) 1 s_L_move) {s_L_run : la_S} (ok_L_run : la_Ok l yL_run (Cond.codeWith yL_run cL_run 3 (some .long) [(0, 6, 7, 15)]) 9 (30 * 9) 1 s_L_run) {s_L_set : la_S} (ok_L_set : la_Ok l yL_set (Cond.codeWith yL_set cL_set 4 (some .long) [(0, 7, 8, 15)]) 9 (30 * 9) 1 s_L_set) {s_L_landing : la_S} (ok_L_landing : la_Ok l yL_landing (Cond.codeWith yL_landing cL_landing 4 (some .long) [(0, 7, 8, 34), (0, 7, 13, 15)]) 8 (30 * 8) 1 s_L_landing) {s_L_finds : la_S} (ok_L_finds : la_Ok l yL_finds (Cond.codeWith yL_finds cL_finds 3 (some .long) [(0, 6, 7, 15)]) 8 (30 * 8) 1 s_L_finds) {s_L_coming : la_S} (ok_L_coming : la_Ok l yL_coming (Cond.codeWith yL_coming cL_coming 4 (some .long) [(0, 7, 8, 15)]) 8 (30 * 8) 1 s_L_coming) {s_L_lacks : la_S} (ok_L_lacks : la_Ok l yL_lacks (Cond.codeWith yL_lacks cL_lacks 4 (some .long) [(0, 7, 8, 34), (0, 7, 13, 15)]) 8 (30 * 8) 1 s_L_lacks) {s_L_ifDelivered : la_S} (ok_L_ifDelivered : la_Ok l yL_ifDelivered (Cond.codeWith yL_ifDelivered cL_ifDelivered 6 (some .long) [(0, 10, 11, 34), (0, 10, 17, 15), (0, 10, 23, 19)]) 8 (30 * 8) 1 s_L_ifDelivered) {s_L_script : la_S} (ok_L_script : la_Ok l yL_script (Cond.codeWith yL_script cL_script 5 (some .long) [(0, 7, 8, 15)]) 8 (30 * 8) 1 s_L_script) {s_L_simulate : la_S} (ok_L_simulate : la_Ok l yL_simulate (Cond.codeWith yL_simulate cL_simulate 5 (some .long) [(0, 7, 8, 15)]) 8 (30 * 8) 1 s_L_simulate) {s_L_save : la_S} (ok_L_save : la_Ok l yL_save (Cond.codeWith yL_save cL_save 3 (some .long) [(0, 6, 7, 34)]) 8 (30 * 8) 1 s_L_save) {s_L_restore : la_S} (ok_L_restore : la_Ok l yL_restore (Cond.codeWith yL_restore cL_restore 3 (some .long) [(0, 6, 7, 34), (0, 6, 12, 19)]) 8 (30 * 8) 1 s_L_restore) {s_L_append : la_S} (ok_L_append : la_Ok l yL_append (Cond.codeWith yL_append cL_append 3 (some .long) [(0, 6, 7, 15), (0, 6, 12, 19)]) 7 (30 * 7) 1 s_L_append) (hlen : (ab_xl As).length ≤ 7) (h : ∀ M : Nat → la_P, (∀ L st X, bL_errors_0 1000 s_L_now s_L_about s_L_station s_L_stock s_L_finder s_L_back s_L_gap s_L_windOf s_L_setting s_L_addStation s_L_addFinder s_L_wind s_L_change s_L_deliver s_L_move s_L_run s_L_set s_L_landing s_L_finds s_L_coming s_L_lacks s_L_ifDelivered s_L_script s_L_simulate s_L_save s_L_restore s_L_append M K L st X → M 0 L st X) → (∀ L st X, bL_errors_88 1000 s_L_now s_L_about s_L_station s_L_stock s_L_finder s_L_back s_L_gap s_L_windOf s_L_setting s_L_addStation s_L_addFinder s_L_wind s_L_change s_L_deliver s_L_move s_L_run s_L_set s_L_landing s_L_finds s_L_coming s_L_lacks s_L_ifDelivered s_L_script s_L_simulate s_L_save s_L_restore s_L_append M K L st X → M 88 L st X) → (∀ L st X, bL_errors_185 1000 s_L_now s_L_about s_L_station s_L_stock s_L_finder s_L_back s_L_gap s_L_windOf s_L_setting s_L_addStation s_L_addFinder s_L_wind s_L_change s_L_deliver s_L_move s_L_run s_L_set s_L_landing s_L_finds s_L_coming s_L_lacks s_L_ifDelivered s_L_script s_L_simulate s_L_save s_L_restore s_L_append M K L st X → M 185 L st X) → (∀ L st X, bL_errors_266 1000 s_L_now s_L_about s_L_station s_L_stock s_L_finder s_L_back s_L_gap s_L_windOf s_L_setting s_L_addStation s_L_addFinder s_L_wind s_L_change s_L_deliver s_L_move s_L_run s_L_set s_L_landing s_L_finds s_L_coming s_L_lacks s_L_ifDelivered s_L_script s_L_simulate s_L_save s_L_restore s_L_append M K L st X → M 266 L st X) → (∀ L st X, bL_errors_362 1000 s_L_now s_L_about s_L_station s_L_stock s_L_finder s_L_back s_L_gap s_L_windOf s_L_setting s_L_addStation s_L_addFinder s_L_wind s_L_change s_L_deliver s_L_move s_L_run s_L_set s_L_landing s_L_finds s_L_coming s_L_lacks s_L_ifDelivered s_L_script s_L_simulate s_L_save s_L_restore s_L_append M K L st X → M 362 L st X) → (∀ L st X, bL_errors_455 1000 s_L_now s_L_about s_L_station s_L_stock s_L_finder s_L_back s_L_gap s_L_windOf s_L_setting s_L_addStation s_L_addFinder s_L_wind s_L_change s_L_deliver s_L_move s_L_run s_L_set s_L_landing s_L_finds s_L_coming s_L_lacks s_L_ifDelivered s_L_script s_L_simulate s_L_save s_L_restore s_L_append M K L st X → M 455 L st X) → (∀ L st X, bL_errors_527 1000 s_L_now s_L_about s_L_station s_L_stock s_L_finder s_L_back s_L_gap s_L_windOf s_L_setting s_L_addStation s_L_addFinder s_L_wind s_L_change s_L_deliver s_L_move s_L_run s_L_set s_L_landing s_L_finds s_L_coming s_L_lacks s_L_ifDelivered s_L_script s_L_simulate s_L_save s_L_restore s_L_append M K L st X → M 527 L st X) → (∀ L st X, bL_errors_528 1000 s_L_now s_L_about s_L_station s_L_stock s_L_finder s_L_back s_L_gap s_L_windOf s_L_setting s_L_addStation s_L_addFinder s_L_wind s_L_change s_L_deliver s_L_move s_L_run s_L_set s_L_landing s_L_finds s_L_coming s_L_lacks s_L_ifDelivered s_L_script s_L_simulate s_L_save s_L_restore s_L_append M K L st X → M 528 L st X) → (∀ L st X, bL_errors_556 1000 s_L_now s_L_about s_L_station s_L_stock s_L_finder s_L_back s_L_gap s_L_windOf s_L_setting s_L_addStation s_L_addFinder s_L_wind s_L_change s_L_deliver s_L_move s_L_run s_L_set s_L_landing s_L_finds s_L_coming s_L_lacks s_L_ifDelivered s_L_script s_L_simulate s_L_save s_L_restore s_L_append M K L st X → M 556 L st X) → (∀ L st X, bL_errors_577 1000 s_L_now s_L_about s_L_station s_L_stock s_L_finder s_L_back s_L_gap s_L_windOf s_L_setting s_L_addStation s_L_addFinder s_L_wind s_L_change s_L_deliver s_L_move s_L_run s_L_set s_L_landing s_L_finds s_L_coming s_L_lacks s_L_ifDelivered s_L_script s_L_simulate s_L_save s_L_restore s_L_append M K L st X → M 577 L st X) → (∀ L st X, bL_errors_581 1000 s_L_now s_L_about s_L_station s_L_stock s_L_finder s_L_back s_L_gap s_L_windOf s_L_setting s_L_addStation s_L_addFinder s_L_wind s_L_change s_L_deliver s_L_move s_L_run s_L_set s_L_landing s_L_finds s_L_coming s_L_lacks s_L_ifDelivered s_L_script s_L_simulate s_L_save s_L_restore s_L_append M K L st X → M 581 L st X) → (∀ L st X, bL_errors_582 1000 s_L_now s_L_about s_L_station s_L_stock s_L_finder s_L_back s_L_gap s_L_windOf s_L_setting s_L_addStation s_L_addFinder s_L_wind s_L_change s_L_deliver s_L_move s_L_run s_L_set s_L_landing s_L_finds s_L_coming s_L_lacks s_L_ifDelivered s_L_script s_L_simulate s_L_save s_L_restore s_L_append M K L st X → M 582 L st X) → (∀ L st X, bL_errors_587 1000 s_L_now s_L_about s_L_station s_L_stock s_L_finder s_L_back s_L_gap s_L_windOf s_L_setting s_L_addStation s_L_addFinder s_L_wind s_L_change s_L_deliver s_L_move s_L_run s_L_set s_L_landing s_L_finds s_L_coming s_L_lacks s_L_ifDelivered s_L_script s_L_simulate s_L_save s_L_restore s_L_append M K L st X → M 587 L st X) → (∀ L st X, bL_errors_690 1000 s_L_now s_L_about s_L_station s_L_stock s_L_finder s_L_back s_L_gap s_L_windOf s_L_setting s_L_addStation s_L_addFinder s_L_wind s_L_change s_L_deliver s_L_move s_L_run s_L_set s_L_landing s_L_finds s_L_coming s_L_lacks s_L_ifDelivered s_L_script s_L_simulate s_L_save s_L_restore s_L_append M K L st X → M 690 L st X) → (∀ L st X, bL_errors_753 1000 s_L_now s_L_about s_L_station s_L_stock s_L_finder s_L_back s_L_gap s_L_windOf s_L_setting s_L_addStation s_L_addFinder s_L_wind s_L_change s_L_deliver s_L_move s_L_run s_L_set s_L_landing s_L_finds s_L_coming s_L_lacks s_L_ifDelivered s_L_script s_L_simulate s_L_save s_L_restore s_L_append M K L st X → M 753 L st X) → (∀ L st X, bL_errors_810 1000 s_L_now s_L_about s_L_station s_L_stock s_L_finder s_L_back s_L_gap s_L_windOf s_L_setting s_L_addStation s_L_addFinder s_L_wind s_L_change s_L_deliver s_L_move s_L_run s_L_set s_L_landing s_L_finds s_L_coming s_L_lacks s_L_ifDelivered s_L_script s_L_simulate s_L_save s_L_restore s_L_append M K L st X → M 810 L st X) → (∀ L st X, bL_errors_814 1000 s_L_now s_L_about s_L_station s_L_stock s_L_finder s_L_back s_L_gap s_L_windOf s_L_setting s_L_addStation s_L_addFinder s_L_wind s_L_change s_L_deliver s_L_move s_L_run s_L_set s_L_landing s_L_finds s_L_coming s_L_lacks s_L_ifDelivered s_L_script s_L_simulate s_L_save s_L_restore s_L_append M K L st X → M 814 L st X) → (∀ L st X, bL_errors_815 1000 s_L_now s_L_about s_L_station s_L_stock s_L_finder s_L_back s_L_gap s_L_windOf s_L_setting s_L_addStation s_L_addFinder s_L_wind s_L_change s_L_deliver s_L_move s_L_run s_L_set s_L_landing s_L_finds s_L_coming s_L_lacks s_L_ifDelivered s_L_script s_L_simulate s_L_save s_L_restore s_L_append M K L st X → M 815 L st X) → (∀ L st X, bL_errors_823 1000 s_L_now s_L_about s_L_station s_L_stock s_L_finder s_L_back s_L_gap s_L_windOf s_L_setting s_L_addStation s_L_addFinder s_L_wind s_L_change s_L_deliver s_L_move s_L_run s_L_set s_L_landing s_L_finds s_L_coming s_L_lacks s_L_ifDelivered s_L_script s_L_simulate s_L_save s_L_restore s_L_append M K L st X → M 823 L st X) → (∀ L st X, bL_errors_826 1000 s_L_now s_L_about s_L_station s_L_stock s_L_finder s_L_back s_L_gap s_L_windOf s_L_setting s_L_addStation s_L_addFinder s_L_wind s_L_change s_L_deliver s_L_move s_L_run s_L_set s_L_landing s_L_finds s_L_coming s_L_lacks s_L_ifDelivered s_L_script s_L_simulate s_L_save s_L_restore s_L_append M K L st X → M 826 L st X) → (∀ L st X, bL_errors_857 1000 s_L_now s_L_about s_L_station s_L_stock s_L_finder s_L_back s_L_gap s_L_windOf s_L_setting s_L_addStation s_L_addFinder s_L_wind s_L_change s_L_deliver s_L_move s_L_run s_L_set s_L_landing s_L_finds s_L_coming s_L_lacks s_L_ifDelivered s_L_script s_L_simulate s_L_save s_L_restore s_L_append M K L st X → M 857 L st X) → (∀ L st X, bL_errors_865 1000 s_L_now s_L_about s_L_station s_L_stock s_L_finder s_L_back s_L_gap s_L_windOf s_L_setting s_L_addStation s_L_addFinder s_L_wind s_L_change s_L_deliver s_L_move s_L_run s_L_set s_L_landing s_L_finds s_L_coming s_L_lacks s_L_ifDelivered s_L_script s_L_simulate s_L_save s_L_restore s_L_append M K L st X → M 865 L st X) → (∀ L st X, bL_errors_956 1000 s_L_now s_L_about s_L_station s_L_stock s_L_finder s_L_back s_L_gap s_L_windOf s_L_setting s_L_addStation s_L_addFinder s_L_wind s_L_change s_L_deliver s_L_move s_L_run s_L_set s_L_landing s_L_finds s_L_coming s_L_lacks s_L_ifDelivered s_L_script s_L_simulate s_L_save s_L_restore s_L_append M K L st X → M 956 L st X) → (∀ L st X, bL_errors_960 1000 s_L_now s_L_about s_L_station s_L_stock s_L_finder s_L_back s_L_gap s_L_windOf s_L_setting s_L_addStation s_L_addFinder s_L_wind s_L_change s_L_deliver s_L_move s_L_run s_L_set s_L_landing s_L_finds s_L_coming s_L_lacks s_L_ifDelivered s_L_script s_L_simulate s_L_save s_L_restore s_L_append M K L st X → M 960 L st X) → (∀ L st X, bL_errors_961 1000 s_L_now s_L_about s_L_station s_L_stock s_L_finder s_L_back s_L_gap s_L_windOf s_L_setting s_L_addStation s_L_addFinder s_L_wind s_L_change s_L_deliver s_L_move s_L_run s_L_set s_L_landing s_L_finds s_L_coming s_L_lacks s_L_ifDelivered s_L_script s_L_simulate s_L_save s_L_restore s_L_append M K L st X → M 961 L st X) → M 0 (ab_pd 7 (ab_xl As)) [] (A, 0)) : la_Met l yL_errors (Cond.code yL_errors cL_errors 7 (some .boolean)) 10 (30 * 10) 1000 Y A As K := by
  refine la_enter (by decide) hl hw hlen ?_
  intro p e R s m args below meth c C hr
  exact h _ (sl_aload_n C (i := 0) dL_errors_0 rfl (sl_cN C ok_L_now ⟨by decide, by decide, wu_649, wu_0, by decide +kernel⟩ wu_647 wu_648 dL_errors_1 (sl_lstore_n C (i := 1) dL_errors_4 rfl (by decide) (sl_aload_n C (i := 0) dL_errors_5 rfl (sl_iconst C (x := nI 0) dL_errors_6 (by decide +kernel) (sl_cW C ok_L_about ⟨by decide, by decide, wu_654, wu_0, by decide +kernel⟩ wu_652 wu_653 dL_errors_7 (sl_l2i C dL_errors_10 (sl_istore_n C (i := 3) dL_errors_11 rfl (by decide) (sl_aload_n C (i := 0) dL_errors_12 rfl (sl_iconst C (x := nI 1) dL_errors_13 (by decide +kernel) (sl_cW C ok_L_about ⟨by decide, by decide, wu_654, wu_0, by decide +kernel⟩ wu_652 wu_653 dL_errors_14 (sl_l2i C dL_errors_17 (sl_istore C dL_errors_18 (by decide) (sl_aload_n C (i := 0) dL_errors_20 rfl (sl_iconst C (x := -1) dL_errors_21 (by decide +kernel) (sl_cW C ok_L_about ⟨by decide, by decide, wu_654, wu_0, by decide +kernel⟩ wu_652 wu_653 dL_errors_22 (sl_ldc2 C (x := -9000000000000000002) dL_errors_25 wu_684 (sl_lcmp C dL_errors_28 (sl_if_ne C dL_errors_29 (tgt := 527) (by decide) (fun _ _ _ h => h) (sl_aload_n C (i := 0) dL_errors_32 rfl (sl_bipush C (x := nI 12) dL_errors_33 (by decide +kernel) (sl_cW C ok_L_about ⟨by decide, by decide, wu_654, wu_0, by decide +kernel⟩ wu_652 wu_653 dL_errors_35 (sl_ldc2 C (x := -9000000000000000002) dL_errors_38 wu_684 (sl_lcmp C dL_errors_41 (sl_if_ne C dL_errors_42 (tgt := 527) (by decide) (fun _ _ _ h => h) (sl_aload_n C (i := 0) dL_errors_45 rfl (sl_iload_n C (i := 3) dL_errors_46 rfl (sl_bipush C (x := nI 9) dL_errors_47 (by decide +kernel) (sl_cW C ok_L_station ⟨by decide, by decide, wu_705, wu_0, by decide +kernel⟩ wu_703 wu_704 dL_errors_49 (sl_ldc2 C (x := -9000000000000000001) dL_errors_52 wu_635 (sl_lcmp C dL_errors_55 (sl_if_ne C dL_errors_56 (tgt := 527) (by decide) (fun _ _ _ h => h) (sl_aload_n C (i := 0) dL_errors_59 rfl (sl_iload_n C (i := 3) dL_errors_60 rfl (sl_bipush C (x := nI 9) dL_errors_61 (by decide +kernel) (sl_cW C ok_L_stock ⟨by decide, by decide, wu_726, wu_0, by decide +kernel⟩ wu_724 wu_725 dL_errors_63 (sl_ldc2 C (x := -9000000000000000001) dL_errors_66 wu_635 (sl_lcmp C dL_errors_69 (sl_if_ne C dL_errors_70 (tgt := 527) (by decide) (fun _ _ _ h => h) (sl_aload_n C (i := 0) dL_errors_73 rfl (sl_iload C dL_errors_74 (sl_bipush C (x := nI 9) dL_errors_76 (by decide +kernel) (sl_cW C ok_L_finder ⟨by decide, by decide, wu_737, wu_0, by decide +kernel⟩ wu_735 wu_736 dL_errors_78 (sl_ldc2 C (x := -9000000000000000001) dL_errors_81 wu_635 (sl_lcmp C dL_errors_84 (sl_if_ne C dL_errors_85 (tgt := 527) (by decide) (fun _ _ _ h => h) (fun _ _ _ h => h)))))))))))))))))))))))))))))))))))))))))))))))
    (sl_aload_n C (i := 0) dL_errors_88 rfl (sl_iconst C (x := -1) dL_errors_89 (by decide +kernel) (sl_iconst C (x := nI 0) dL_errors_90 (by decide +kernel) (sl_cW C ok_L_back ⟨by decide, by decide, wu_764, wu_0, by decide +kernel⟩ wu_762 wu_763 dL_errors_91 (sl_ldc2 C (x := -9000000000000000002) dL_errors_94 wu_684 (sl_lcmp C dL_errors_97 (sl_if_ne C dL_errors_98 (tgt := 527) (by decide) (fun _ _ _ h => h) (sl_aload_n C (i := 0) dL_errors_101 rfl (sl_iconst C (x := nI 0) dL_errors_102 (by decide +kernel) (sl_iconst C (x := nI 3) dL_errors_103 (by decide +kernel) (sl_cW C ok_L_back ⟨by decide, by decide, wu_764, wu_0, by decide +kernel⟩ wu_762 wu_763 dL_errors_104 (sl_ldc2 C (x := -9000000000000000002) dL_errors_107 wu_684 (sl_lcmp C dL_errors_110 (sl_if_ne C dL_errors_111 (tgt := 527) (by decide) (fun _ _ _ h => h) (sl_aload_n C (i := 0) dL_errors_114 rfl (sl_iconst C (x := nI 0) dL_errors_115 (by decide +kernel) (sl_iconst C (x := -1) dL_errors_116 (by decide +kernel) (sl_cW C ok_L_gap ⟨by decide, by decide, wu_751, wu_0, by decide +kernel⟩ wu_749 wu_750 dL_errors_117 (sl_ldc2 C (x := -9000000000000000002) dL_errors_120 wu_684 (sl_lcmp C dL_errors_123 (sl_if_ne C dL_errors_124 (tgt := 527) (by decide) (fun _ _ _ h => h) (sl_aload_n C (i := 0) dL_errors_127 rfl (sl_iconst C (x := nI 4) dL_errors_128 (by decide +kernel) (sl_cW C ok_L_windOf ⟨by decide, by decide, wu_698, wu_0, by decide +kernel⟩ wu_696 wu_697 dL_errors_129 (sl_ldc2 C (x := -9000000000000000002) dL_errors_132 wu_684 (sl_lcmp C dL_errors_135 (sl_if_ne C dL_errors_136 (tgt := 527) (by decide) (fun _ _ _ h => h) (sl_aload_n C (i := 0) dL_errors_139 rfl (sl_iconst C (x := nI 5) dL_errors_140 (by decide +kernel) (sl_cW C ok_L_setting ⟨by decide, by decide, wu_687, wu_0, by decide +kernel⟩ wu_685 wu_686 dL_errors_141 (sl_ldc2 C (x := -9000000000000000002) dL_errors_144 wu_684 (sl_lcmp C dL_errors_147 (sl_if_ne C dL_errors_148 (tgt := 527) (by decide) (fun _ _ _ h => h) (sl_aload_n C (i := 0) dL_errors_151 rfl (sl_bipush C (x := nI 100) dL_errors_152 (by decide +kernel) (sl_iconst C (x := nI 0) dL_errors_154 (by decide +kernel) (sl_iconst C (x := nI 1) dL_errors_155 (by decide +kernel) (sl_iconst C (x := nI 0) dL_errors_156 (by decide +kernel) (sl_iconst C (x := nI 0) dL_errors_157 (by decide +kernel) (sl_cW C ok_L_addStation ⟨by decide, by decide, wu_776, wu_0, by decide +kernel⟩ wu_774 wu_775 dL_errors_158 (sl_ldc2 C (x := -9000000000000000002) dL_errors_161 wu_684 (sl_lcmp C dL_errors_164 (sl_if_ne C dL_errors_165 (tgt := 527) (by decide) (fun _ _ _ h => h) (sl_aload_n C (i := 0) dL_errors_168 rfl (sl_iconst C (x := nI 0) dL_errors_169 (by decide +kernel) (sl_bipush C (x := nI 16) dL_errors_170 (by decide +kernel) (sl_iconst C (x := nI 1) dL_errors_172 (by decide +kernel) (sl_iconst C (x := nI 0) dL_errors_173 (by decide +kernel) (sl_iconst C (x := nI 0) dL_errors_174 (by decide +kernel) (sl_cW C ok_L_addStation ⟨by decide, by decide, wu_776, wu_0, by decide +kernel⟩ wu_774 wu_775 dL_errors_175 (sl_ldc2 C (x := -9000000000000000002) dL_errors_178 wu_684 (sl_lcmp C dL_errors_181 (sl_if_ne C dL_errors_182 (tgt := 527) (by decide) (fun _ _ _ h => h) (fun _ _ _ h => h))))))))))))))))))))))))))))))))))))))))))))))))))))))
    (sl_aload_n C (i := 0) dL_errors_185 rfl (sl_iconst C (x := nI 0) dL_errors_186 (by decide +kernel) (sl_iconst C (x := nI 0) dL_errors_187 (by decide +kernel) (sl_bipush C (x := nI 6) dL_errors_188 (by decide +kernel) (sl_iconst C (x := nI 0) dL_errors_190 (by decide +kernel) (sl_iconst C (x := nI 0) dL_errors_191 (by decide +kernel) (sl_cW C ok_L_addStation ⟨by decide, by decide, wu_776, wu_0, by decide +kernel⟩ wu_774 wu_775 dL_errors_192 (sl_ldc2 C (x := -9000000000000000002) dL_errors_195 wu_684 (sl_lcmp C dL_errors_198 (sl_if_ne C dL_errors_199 (tgt := 527) (by decide) (fun _ _ _ h => h) (sl_aload_n C (i := 0) dL_errors_202 rfl (sl_iconst C (x := nI 0) dL_errors_203 (by decide +kernel) (sl_iconst C (x := nI 0) dL_errors_204 (by decide +kernel) (sl_iconst C (x := nI 1) dL_errors_205 (by decide +kernel) (sl_sipush C (x := nI 1000) dL_errors_206 (by decide +kernel) (sl_iconst C (x := nI 0) dL_errors_209 (by decide +kernel) (sl_cW C ok_L_addStation ⟨by decide, by decide, wu_776, wu_0, by decide +kernel⟩ wu_774 wu_775 dL_errors_210 (sl_ldc2 C (x := -9000000000000000002) dL_errors_213 wu_684 (sl_lcmp C dL_errors_216 (sl_if_ne C dL_errors_217 (tgt := 527) (by decide) (fun _ _ _ h => h) (sl_aload_n C (i := 0) dL_errors_220 rfl (sl_iconst C (x := nI 0) dL_errors_221 (by decide +kernel) (sl_iconst C (x := nI 0) dL_errors_222 (by decide +kernel) (sl_iconst C (x := nI 1) dL_errors_223 (by decide +kernel) (sl_iconst C (x := nI 0) dL_errors_224 (by decide +kernel) (sl_bipush C (x := nI 100) dL_errors_225 (by decide +kernel) (sl_cW C ok_L_addStation ⟨by decide, by decide, wu_776, wu_0, by decide +kernel⟩ wu_774 wu_775 dL_errors_227 (sl_ldc2 C (x := -9000000000000000002) dL_errors_230 wu_684 (sl_lcmp C dL_errors_233 (sl_if_ne C dL_errors_234 (tgt := 527) (by decide) (fun _ _ _ h => h) (sl_aload_n C (i := 0) dL_errors_237 rfl (sl_iconst C (x := -1) dL_errors_238 (by decide +kernel) (sl_iconst C (x := nI 0) dL_errors_239 (by decide +kernel) (sl_iconst C (x := nI 1) dL_errors_240 (by decide +kernel) (sl_cW C ok_L_addFinder ⟨by decide, by decide, wu_797, wu_0, by decide +kernel⟩ wu_795 wu_796 dL_errors_241 (sl_ldc2 C (x := -9000000000000000002) dL_errors_244 wu_684 (sl_lcmp C dL_errors_247 (sl_if_ne C dL_errors_248 (tgt := 527) (by decide) (fun _ _ _ h => h) (sl_aload_n C (i := 0) dL_errors_251 rfl (sl_iconst C (x := nI 0) dL_errors_252 (by decide +kernel) (sl_bipush C (x := nI 21) dL_errors_253 (by decide +kernel) (sl_iconst C (x := nI 1) dL_errors_255 (by decide +kernel) (sl_cW C ok_L_addFinder ⟨by decide, by decide, wu_797, wu_0, by decide +kernel⟩ wu_795 wu_796 dL_errors_256 (sl_ldc2 C (x := -9000000000000000002) dL_errors_259 wu_684 (sl_lcmp C dL_errors_262 (sl_if_ne C dL_errors_263 (tgt := 527) (by decide) (fun _ _ _ h => h) (fun _ _ _ h => h)))))))))))))))))))))))))))))))))))))))))))))))
    (sl_aload_n C (i := 0) dL_errors_266 rfl (sl_iconst C (x := nI 0) dL_errors_267 (by decide +kernel) (sl_iconst C (x := nI 0) dL_errors_268 (by decide +kernel) (sl_iconst C (x := nI 0) dL_errors_269 (by decide +kernel) (sl_cW C ok_L_addFinder ⟨by decide, by decide, wu_797, wu_0, by decide +kernel⟩ wu_795 wu_796 dL_errors_270 (sl_ldc2 C (x := -9000000000000000002) dL_errors_273 wu_684 (sl_lcmp C dL_errors_276 (sl_if_ne C dL_errors_277 (tgt := 527) (by decide) (fun _ _ _ h => h) (sl_aload_n C (i := 0) dL_errors_280 rfl (sl_iconst C (x := nI 4) dL_errors_281 (by decide +kernel) (sl_iconst C (x := nI 0) dL_errors_282 (by decide +kernel) (sl_cW C ok_L_wind ⟨by decide, by decide, wu_805, wu_0, by decide +kernel⟩ wu_803 wu_804 dL_errors_283 (sl_ldc2 C (x := -9000000000000000002) dL_errors_286 wu_684 (sl_lcmp C dL_errors_289 (sl_if_ne C dL_errors_290 (tgt := 527) (by decide) (fun _ _ _ h => h) (sl_aload_n C (i := 0) dL_errors_293 rfl (sl_iconst C (x := nI 0) dL_errors_294 (by decide +kernel) (sl_bipush C (x := -21) dL_errors_295 (by decide +kernel) (sl_cW C ok_L_wind ⟨by decide, by decide, wu_805, wu_0, by decide +kernel⟩ wu_803 wu_804 dL_errors_297 (sl_ldc2 C (x := -9000000000000000002) dL_errors_300 wu_684 (sl_lcmp C dL_errors_303 (sl_if_ne C dL_errors_304 (tgt := 527) (by decide) (fun _ _ _ h => h) (sl_aload_n C (i := 0) dL_errors_307 rfl (sl_iload_n C (i := 3) dL_errors_308 rfl (sl_bipush C (x := nI 16) dL_errors_309 (by decide +kernel) (sl_iconst C (x := nI 1) dL_errors_311 (by decide +kernel) (sl_cW C ok_L_change ⟨by decide, by decide, wu_813, wu_0, by decide +kernel⟩ wu_811 wu_812 dL_errors_312 (sl_ldc2 C (x := -9000000000000000001) dL_errors_315 wu_635 (sl_lcmp C dL_errors_318 (sl_if_ne C dL_errors_319 (tgt := 527) (by decide) (fun _ _ _ h => h) (sl_aload_n C (i := 0) dL_errors_322 rfl (sl_iload_n C (i := 3) dL_errors_323 rfl (sl_iconst C (x := nI 0) dL_errors_324 (by decide +kernel) (sl_iconst C (x := nI 0) dL_errors_325 (by decide +kernel) (sl_cW C ok_L_deliver ⟨by decide, by decide, wu_829, wu_0, by decide +kernel⟩ wu_827 wu_828 dL_errors_326 (sl_ldc2 C (x := -9000000000000000001) dL_errors_329 wu_635 (sl_lcmp C dL_errors_332 (sl_if_ne C dL_errors_333 (tgt := 527) (by decide) (fun _ _ _ h => h) (sl_aload_n C (i := 0) dL_errors_336 rfl (sl_iload_n C (i := 3) dL_errors_337 rfl (sl_iconst C (x := nI 0) dL_errors_338 (by decide +kernel) (sl_cW C ok_L_move ⟨by decide, by decide, wu_838, wu_0, by decide +kernel⟩ wu_836 wu_837 dL_errors_339 (sl_ldc2 C (x := -9000000000000000001) dL_errors_342 wu_635 (sl_lcmp C dL_errors_345 (sl_if_ne C dL_errors_346 (tgt := 527) (by decide) (fun _ _ _ h => h) (sl_aload_n C (i := 0) dL_errors_349 rfl (sl_iconst C (x := nI 0) dL_errors_350 (by decide +kernel) (sl_iconst C (x := -1) dL_errors_351 (by decide +kernel) (sl_cW C ok_L_move ⟨by decide, by decide, wu_838, wu_0, by decide +kernel⟩ wu_836 wu_837 dL_errors_352 (sl_ldc2 C (x := -9000000000000000001) dL_errors_355 wu_635 (sl_lcmp C dL_errors_358 (sl_if_ne C dL_errors_359 (tgt := 527) (by decide) (fun _ _ _ h => h) (fun _ _ _ h => h)))))))))))))))))))))))))))))))))))))))))))))))))))))
    (sl_aload_n C (i := 0) dL_errors_362 rfl (sl_iconst C (x := nI 0) dL_errors_363 (by decide +kernel) (sl_cW C ok_L_run ⟨by decide, by decide, wu_855, wu_0, by decide +kernel⟩ wu_853 wu_854 dL_errors_364 (sl_ldc2 C (x := -9000000000000000002) dL_errors_367 wu_684 (sl_lcmp C dL_errors_370 (sl_if_ne C dL_errors_371 (tgt := 527) (by decide) (fun _ _ _ h => h) (sl_aload_n C (i := 0) dL_errors_374 rfl (sl_bipush C (x := nI 41) dL_errors_375 (by decide +kernel) (sl_cW C ok_L_run ⟨by decide, by decide, wu_855, wu_0, by decide +kernel⟩ wu_853 wu_854 dL_errors_377 (sl_ldc2 C (x := -9000000000000000002) dL_errors_380 wu_684 (sl_lcmp C dL_errors_383 (sl_if_ne C dL_errors_384 (tgt := 527) (by decide) (fun _ _ _ h => h) (sl_aload_n C (i := 0) dL_errors_387 rfl (sl_iconst C (x := nI 0) dL_errors_388 (by decide +kernel) (sl_bipush C (x := nI 31) dL_errors_389 (by decide +kernel) (sl_cW C ok_L_set ⟨by decide, by decide, wu_862, wu_0, by decide +kernel⟩ wu_860 wu_861 dL_errors_391 (sl_ldc2 C (x := -9000000000000000002) dL_errors_394 wu_684 (sl_lcmp C dL_errors_397 (sl_if_ne C dL_errors_398 (tgt := 527) (by decide) (fun _ _ _ h => h) (sl_aload_n C (i := 0) dL_errors_401 rfl (sl_iconst C (x := nI 1) dL_errors_402 (by decide +kernel) (sl_iconst C (x := nI 0) dL_errors_403 (by decide +kernel) (sl_cW C ok_L_set ⟨by decide, by decide, wu_862, wu_0, by decide +kernel⟩ wu_860 wu_861 dL_errors_404 (sl_ldc2 C (x := -9000000000000000002) dL_errors_407 wu_684 (sl_lcmp C dL_errors_410 (sl_if_ne C dL_errors_411 (tgt := 527) (by decide) (fun _ _ _ h => h) (sl_aload_n C (i := 0) dL_errors_414 rfl (sl_iconst C (x := nI 4) dL_errors_415 (by decide +kernel) (sl_bipush C (x := nI 100) dL_errors_416 (by decide +kernel) (sl_cW C ok_L_set ⟨by decide, by decide, wu_862, wu_0, by decide +kernel⟩ wu_860 wu_861 dL_errors_418 (sl_ldc2 C (x := -9000000000000000002) dL_errors_421 wu_684 (sl_lcmp C dL_errors_424 (sl_if_ne C dL_errors_425 (tgt := 527) (by decide) (fun _ _ _ h => h) (sl_aload_n C (i := 0) dL_errors_428 rfl (sl_iconst C (x := nI 5) dL_errors_429 (by decide +kernel) (sl_iconst C (x := nI 1) dL_errors_430 (by decide +kernel) (sl_cW C ok_L_set ⟨by decide, by decide, wu_862, wu_0, by decide +kernel⟩ wu_860 wu_861 dL_errors_431 (sl_ldc2 C (x := -9000000000000000002) dL_errors_434 wu_684 (sl_lcmp C dL_errors_437 (sl_if_ne C dL_errors_438 (tgt := 527) (by decide) (fun _ _ _ h => h) (sl_aload_n C (i := 0) dL_errors_441 rfl (sl_iload_n C (i := 3) dL_errors_442 rfl (sl_bipush C (x := nI 9) dL_errors_443 (by decide +kernel) (sl_cW C ok_L_landing ⟨by decide, by decide, wu_882, wu_0, by decide +kernel⟩ wu_880 wu_881 dL_errors_445 (sl_ldc2 C (x := -9000000000000000001) dL_errors_448 wu_635 (sl_lcmp C dL_errors_451 (sl_if_ne C dL_errors_452 (tgt := 527) (by decide) (fun _ _ _ h => h) (fun _ _ _ h => h))))))))))))))))))))))))))))))))))))))))))))))))
    (sl_aload_n C (i := 0) dL_errors_455 rfl (sl_bipush C (x := nI 100) dL_errors_456 (by decide +kernel) (sl_cW C ok_L_finds ⟨by decide, by decide, wu_890, wu_0, by decide +kernel⟩ wu_888 wu_889 dL_errors_458 (sl_ldc2 C (x := -9000000000000000002) dL_errors_461 wu_684 (sl_lcmp C dL_errors_464 (sl_if_ne C dL_errors_465 (tgt := 527) (by decide) (fun _ _ _ h => h) (sl_aload_n C (i := 0) dL_errors_468 rfl (sl_iconst C (x := nI 0) dL_errors_469 (by decide +kernel) (sl_iconst C (x := nI 0) dL_errors_470 (by decide +kernel) (sl_cW C ok_L_coming ⟨by decide, by decide, wu_898, wu_0, by decide +kernel⟩ wu_896 wu_897 dL_errors_471 (sl_ldc2 C (x := -9000000000000000002) dL_errors_474 wu_684 (sl_lcmp C dL_errors_477 (sl_if_ne C dL_errors_478 (tgt := 527) (by decide) (fun _ _ _ h => h) (sl_aload_n C (i := 0) dL_errors_481 rfl (sl_bipush C (x := nI 9) dL_errors_482 (by decide +kernel) (sl_iconst C (x := nI 4) dL_errors_484 (by decide +kernel) (sl_cW C ok_L_coming ⟨by decide, by decide, wu_898, wu_0, by decide +kernel⟩ wu_896 wu_897 dL_errors_485 (sl_ldc2 C (x := -9000000000000000002) dL_errors_488 wu_684 (sl_lcmp C dL_errors_491 (sl_if_ne C dL_errors_492 (tgt := 527) (by decide) (fun _ _ _ h => h) (sl_aload_n C (i := 0) dL_errors_495 rfl (sl_iload_n C (i := 3) dL_errors_496 rfl (sl_iconst C (x := nI 0) dL_errors_497 (by decide +kernel) (sl_cW C ok_L_lacks ⟨by decide, by decide, wu_905, wu_0, by decide +kernel⟩ wu_903 wu_904 dL_errors_498 (sl_ldc2 C (x := -9000000000000000001) dL_errors_501 wu_635 (sl_lcmp C dL_errors_504 (sl_if_ne C dL_errors_505 (tgt := 527) (by decide) (fun _ _ _ h => h) (sl_aload_n C (i := 0) dL_errors_508 rfl (sl_iconst C (x := -1) dL_errors_509 (by decide +kernel) (sl_iconst C (x := nI 0) dL_errors_510 (by decide +kernel) (sl_iconst C (x := nI 0) dL_errors_511 (by decide +kernel) (sl_iconst C (x := nI 0) dL_errors_512 (by decide +kernel) (sl_cW C ok_L_ifDelivered ⟨by decide, by decide, wu_917, wu_0, by decide +kernel⟩ wu_915 wu_916 dL_errors_513 (sl_ldc2 C (x := -9000000000000000001) dL_errors_516 wu_635 (sl_lcmp C dL_errors_519 (sl_if_ne C dL_errors_520 (tgt := 527) (by decide) (fun _ _ _ h => h) (sl_iconst C (x := nI 1) dL_errors_523 (by decide +kernel) (sl_goto C dL_errors_524 (tgt := 528) (by decide) (fun _ _ _ h => h)))))))))))))))))))))))))))))))))))))))
    (sl_iconst C (x := nI 0) dL_errors_527 (by decide +kernel) (fun _ _ _ h => h))
    (sl_istore C dL_errors_528 (by decide) (sl_iload C dL_errors_530 (sl_if_eq C dL_errors_532 (tgt := 581) (by decide) (fun _ _ _ h => h) (sl_iload_n C (i := 3) dL_errors_535 rfl (sl_iconst C (x := nI 5) dL_errors_536 (by decide +kernel) (sl_icmp_lt C dL_errors_537 (tgt := 556) (by decide) (fun _ _ _ h => h) (sl_aload_n C (i := 0) dL_errors_540 rfl (sl_iconst C (x := nI 0) dL_errors_541 (by decide +kernel) (sl_iconst C (x := nI 0) dL_errors_542 (by decide +kernel) (sl_iconst C (x := nI 1) dL_errors_543 (by decide +kernel) (sl_iconst C (x := nI 0) dL_errors_544 (by decide +kernel) (sl_iconst C (x := nI 0) dL_errors_545 (by decide +kernel) (sl_cW C ok_L_addStation ⟨by decide, by decide, wu_776, wu_0, by decide +kernel⟩ wu_774 wu_775 dL_errors_546 (sl_ldc2 C (x := -9000000000000000003) dL_errors_549 wu_605 (sl_lcmp C dL_errors_552 (sl_if_ne C dL_errors_553 (tgt := 581) (by decide) (fun _ _ _ h => h) (fun _ _ _ h => h)))))))))))))))))
    (sl_iload C dL_errors_556 (sl_bipush C (x := nI 6) dL_errors_558 (by decide +kernel) (sl_icmp_lt C dL_errors_560 (tgt := 577) (by decide) (fun _ _ _ h => h) (sl_aload_n C (i := 0) dL_errors_563 rfl (sl_iconst C (x := nI 0) dL_errors_564 (by decide +kernel) (sl_iconst C (x := nI 0) dL_errors_565 (by decide +kernel) (sl_iconst C (x := nI 1) dL_errors_566 (by decide +kernel) (sl_cW C ok_L_addFinder ⟨by decide, by decide, wu_797, wu_0, by decide +kernel⟩ wu_795 wu_796 dL_errors_567 (sl_ldc2 C (x := -9000000000000000003) dL_errors_570 wu_605 (sl_lcmp C dL_errors_573 (sl_if_ne C dL_errors_574 (tgt := 581) (by decide) (fun _ _ _ h => h) (fun _ _ _ h => h))))))))))))
    (sl_iconst C (x := nI 1) dL_errors_577 (by decide +kernel) (sl_goto C dL_errors_578 (tgt := 582) (by decide) (fun _ _ _ h => h)))
    (sl_iconst C (x := nI 0) dL_errors_581 (by decide +kernel) (fun _ _ _ h => h))
    (sl_istore C dL_errors_582 (by decide) (sl_iconst C (x := nI 0) dL_errors_584 (by decide +kernel) (sl_istore C dL_errors_585 (by decide) (fun _ _ _ h => h))))
    (sl_iload C dL_errors_587 (sl_iload_n C (i := 3) dL_errors_589 rfl (sl_icmp_ge C dL_errors_590 (tgt := 823) (by decide) (fun _ _ _ h => h) (sl_iload C dL_errors_593 (sl_if_eq C dL_errors_595 (tgt := 823) (by decide) (fun _ _ _ h => h) (sl_aload_n C (i := 0) dL_errors_598 rfl (sl_iload C dL_errors_599 (sl_bipush C (x := nI 8) dL_errors_601 (by decide +kernel) (sl_cW C ok_L_station ⟨by decide, by decide, wu_705, wu_0, by decide +kernel⟩ wu_703 wu_704 dL_errors_603 (sl_ldc2 C (x := -9000000000000000002) dL_errors_606 wu_684 (sl_lcmp C dL_errors_609 (sl_if_ne C dL_errors_610 (tgt := 814) (by decide) (fun _ _ _ h => h) (sl_aload_n C (i := 0) dL_errors_613 rfl (sl_iload C dL_errors_614 (sl_iconst C (x := nI 5) dL_errors_616 (by decide +kernel) (sl_cW C ok_L_stock ⟨by decide, by decide, wu_726, wu_0, by decide +kernel⟩ wu_724 wu_725 dL_errors_617 (sl_ldc2 C (x := -9000000000000000002) dL_errors_620 wu_684 (sl_lcmp C dL_errors_623 (sl_if_ne C dL_errors_624 (tgt := 814) (by decide) (fun _ _ _ h => h) (sl_aload_n C (i := 0) dL_errors_627 rfl (sl_iload C dL_errors_628 (sl_iconst C (x := nI 0) dL_errors_630 (by decide +kernel) (sl_iconst C (x := nI 0) dL_errors_631 (by decide +kernel) (sl_cW C ok_L_change ⟨by decide, by decide, wu_813, wu_0, by decide +kernel⟩ wu_811 wu_812 dL_errors_632 (sl_ldc2 C (x := -9000000000000000002) dL_errors_635 wu_684 (sl_lcmp C dL_errors_638 (sl_if_ne C dL_errors_639 (tgt := 814) (by decide) (fun _ _ _ h => h) (sl_aload_n C (i := 0) dL_errors_642 rfl (sl_iload C dL_errors_643 (sl_sipush C (x := nI 1000) dL_errors_645 (by decide +kernel) (sl_iconst C (x := nI 0) dL_errors_648 (by decide +kernel) (sl_cW C ok_L_deliver ⟨by decide, by decide, wu_829, wu_0, by decide +kernel⟩ wu_827 wu_828 dL_errors_649 (sl_ldc2 C (x := -9000000000000000002) dL_errors_652 wu_684 (sl_lcmp C dL_errors_655 (sl_if_ne C dL_errors_656 (tgt := 814) (by decide) (fun _ _ _ h => h) (sl_aload_n C (i := 0) dL_errors_659 rfl (sl_iload C dL_errors_660 (sl_iconst C (x := nI 0) dL_errors_662 (by decide +kernel) (sl_iconst C (x := nI 0) dL_errors_663 (by decide +kernel) (sl_cW C ok_L_deliver ⟨by decide, by decide, wu_829, wu_0, by decide +kernel⟩ wu_827 wu_828 dL_errors_664 (sl_ldc2 C (x := -9000000000000000003) dL_errors_667 wu_605 (sl_lcmp C dL_errors_670 (sl_if_ne C dL_errors_671 (tgt := 814) (by decide) (fun _ _ _ h => h) (sl_aload_n C (i := 0) dL_errors_674 rfl (sl_iload C dL_errors_675 (sl_iconst C (x := nI 0) dL_errors_677 (by decide +kernel) (sl_iconst C (x := nI 0) dL_errors_678 (by decide +kernel) (sl_iconst C (x := nI 5) dL_errors_679 (by decide +kernel) (sl_cW C ok_L_ifDelivered ⟨by decide, by decide, wu_917, wu_0, by decide +kernel⟩ wu_915 wu_916 dL_errors_680 (sl_ldc2 C (x := -9000000000000000003) dL_errors_683 wu_605 (sl_lcmp C dL_errors_686 (sl_if_ne C dL_errors_687 (tgt := 814) (by decide) (fun _ _ _ h => h) (fun _ _ _ h => h)))))))))))))))))))))))))))))))))))))))))))))))))))))
    (sl_aload_n C (i := 0) dL_errors_690 rfl (sl_iload C dL_errors_691 (sl_iconst C (x := nI 0) dL_errors_693 (by decide +kernel) (sl_iconst C (x := nI 0) dL_errors_694 (by decide +kernel) (sl_bipush C (x := nI 61) dL_errors_695 (by decide +kernel) (sl_cW C ok_L_ifDelivered ⟨by decide, by decide, wu_917, wu_0, by decide +kernel⟩ wu_915 wu_916 dL_errors_697 (sl_ldc2 C (x := -9000000000000000002) dL_errors_700 wu_684 (sl_lcmp C dL_errors_703 (sl_if_ne C dL_errors_704 (tgt := 814) (by decide) (fun _ _ _ h => h) (sl_aload_n C (i := 0) dL_errors_707 rfl (sl_iload C dL_errors_708 (sl_iload C dL_errors_710 (sl_cW C ok_L_move ⟨by decide, by decide, wu_838, wu_0, by decide +kernel⟩ wu_836 wu_837 dL_errors_712 (sl_ldc2 C (x := -9000000000000000003) dL_errors_715 wu_605 (sl_lcmp C dL_errors_718 (sl_if_ne C dL_errors_719 (tgt := 814) (by decide) (fun _ _ _ h => h) (sl_aload_n C (i := 0) dL_errors_722 rfl (sl_iload C dL_errors_723 (sl_iconst C (x := nI 4) dL_errors_725 (by decide +kernel) (sl_cW C ok_L_station ⟨by decide, by decide, wu_705, wu_0, by decide +kernel⟩ wu_703 wu_704 dL_errors_726 (sl_lconst C (x := lN 0) dL_errors_729 (by decide +kernel) (sl_lcmp C dL_errors_730 (sl_if_gt C dL_errors_731 (tgt := 753) (by decide) (fun _ _ _ h => h) (sl_aload_n C (i := 0) dL_errors_734 rfl (sl_iload C dL_errors_735 (sl_iload C dL_errors_737 (sl_iconst C (x := nI 1) dL_errors_739 (by decide +kernel) (sl_iadd C dL_errors_740 (sl_iload_n C (i := 3) dL_errors_741 rfl (sl_irem C dL_errors_742 (sl_cW C ok_L_move ⟨by decide, by decide, wu_838, wu_0, by decide +kernel⟩ wu_836 wu_837 dL_errors_743 (sl_ldc2 C (x := -9000000000000000003) dL_errors_746 wu_605 (sl_lcmp C dL_errors_749 (sl_if_ne C dL_errors_750 (tgt := 814) (by decide) (fun _ _ _ h => h) (fun _ _ _ h => h)))))))))))))))))))))))))))))))))))
    (sl_aload_n C (i := 0) dL_errors_753 rfl (sl_iload C dL_errors_754 (sl_iconst C (x := nI 4) dL_errors_756 (by decide +kernel) (sl_cW C ok_L_landing ⟨by decide, by decide, wu_882, wu_0, by decide +kernel⟩ wu_880 wu_881 dL_errors_757 (sl_ldc2 C (x := -9000000000000000002) dL_errors_760 wu_684 (sl_lcmp C dL_errors_763 (sl_if_ne C dL_errors_764 (tgt := 814) (by decide) (fun _ _ _ h => h) (sl_aload_n C (i := 0) dL_errors_767 rfl (sl_iload C dL_errors_768 (sl_bipush C (x := nI 61) dL_errors_770 (by decide +kernel) (sl_cW C ok_L_lacks ⟨by decide, by decide, wu_905, wu_0, by decide +kernel⟩ wu_903 wu_904 dL_errors_772 (sl_ldc2 C (x := -9000000000000000002) dL_errors_775 wu_684 (sl_lcmp C dL_errors_778 (sl_if_ne C dL_errors_779 (tgt := 814) (by decide) (fun _ _ _ h => h) (sl_aload_n C (i := 0) dL_errors_782 rfl (sl_bipush C (x := nI 10) dL_errors_783 (by decide +kernel) (sl_cW C ok_L_about ⟨by decide, by decide, wu_654, wu_0, by decide +kernel⟩ wu_652 wu_653 dL_errors_785 (sl_ldc2 C (x := 8) dL_errors_788 wu_922 (sl_lcmp C dL_errors_791 (sl_if_lt C dL_errors_792 (tgt := 810) (by decide) (fun _ _ _ h => h) (sl_aload_n C (i := 0) dL_errors_795 rfl (sl_iload C dL_errors_796 (sl_iconst C (x := nI 1) dL_errors_798 (by decide +kernel) (sl_iconst C (x := nI 1) dL_errors_799 (by decide +kernel) (sl_cW C ok_L_deliver ⟨by decide, by decide, wu_829, wu_0, by decide +kernel⟩ wu_827 wu_828 dL_errors_800 (sl_ldc2 C (x := -9000000000000000003) dL_errors_803 wu_605 (sl_lcmp C dL_errors_806 (sl_if_ne C dL_errors_807 (tgt := 814) (by decide) (fun _ _ _ h => h) (fun _ _ _ h => h)))))))))))))))))))))))))))))
    (sl_iconst C (x := nI 1) dL_errors_810 (by decide +kernel) (sl_goto C dL_errors_811 (tgt := 815) (by decide) (fun _ _ _ h => h)))
    (sl_iconst C (x := nI 0) dL_errors_814 (by decide +kernel) (fun _ _ _ h => h))
    (sl_istore C dL_errors_815 (by decide) (sl_iinc C (x := nI 1) dL_errors_817 (by decide +kernel) (by decide) (sl_goto C dL_errors_820 (tgt := 587) (by decide) (fun _ _ _ h => h))))
    (sl_iconst C (x := nI 0) dL_errors_823 (by decide +kernel) (sl_istore C dL_errors_824 (by decide) (fun _ _ _ h => h)))
    (sl_iload C dL_errors_826 (sl_iload C dL_errors_828 (sl_icmp_ge C dL_errors_830 (tgt := 865) (by decide) (fun _ _ _ h => h) (sl_iload C dL_errors_833 (sl_if_eq C dL_errors_835 (tgt := 865) (by decide) (fun _ _ _ h => h) (sl_aload_n C (i := 0) dL_errors_838 rfl (sl_iload C dL_errors_839 (sl_iconst C (x := nI 5) dL_errors_841 (by decide +kernel) (sl_cW C ok_L_finder ⟨by decide, by decide, wu_737, wu_0, by decide +kernel⟩ wu_735 wu_736 dL_errors_842 (sl_ldc2 C (x := -9000000000000000002) dL_errors_845 wu_684 (sl_lcmp C dL_errors_848 (sl_if_ne C dL_errors_849 (tgt := 856) (by decide) (sl_iconst C (x := nI 0) dL_errors_856 (by decide +kernel) (fun _ _ _ h => h)) (sl_iconst C (x := nI 1) dL_errors_852 (by decide +kernel) (sl_goto C dL_errors_853 (tgt := 857) (by decide) (fun _ _ _ h => h)))))))))))))))
    (sl_istore C dL_errors_857 (by decide) (sl_iinc C (x := nI 1) dL_errors_859 (by decide +kernel) (by decide) (sl_goto C dL_errors_862 (tgt := 826) (by decide) (fun _ _ _ h => h))))
    (sl_iload C dL_errors_865 (sl_if_eq C dL_errors_867 (tgt := 960) (by decide) (fun _ _ _ h => h) (sl_aload_n C (i := 0) dL_errors_870 rfl (sl_iconst C (x := nI 0) dL_errors_871 (by decide +kernel) (sl_lconst C (x := lN 0) dL_errors_872 (by decide +kernel) (sl_cW C ok_L_script ⟨by decide, by decide, wu_925, wu_0, by decide +kernel⟩ wu_923 wu_924 dL_errors_873 (sl_ldc2 C (x := -9000000000000000002) dL_errors_876 wu_684 (sl_lcmp C dL_errors_879 (sl_if_ne C dL_errors_880 (tgt := 960) (by decide) (fun _ _ _ h => h) (sl_aload_n C (i := 0) dL_errors_883 rfl (sl_iconst C (x := nI 3) dL_errors_884 (by decide +kernel) (sl_ldc2 C (x := 1000000000000000) dL_errors_885 wu_945 (sl_cW C ok_L_script ⟨by decide, by decide, wu_925, wu_0, by decide +kernel⟩ wu_923 wu_924 dL_errors_888 (sl_ldc2 C (x := -9000000000000000002) dL_errors_891 wu_684 (sl_lcmp C dL_errors_894 (sl_if_ne C dL_errors_895 (tgt := 960) (by decide) (fun _ _ _ h => h) (sl_aload_n C (i := 0) dL_errors_898 rfl (sl_lconst C (x := lN 1) dL_errors_899 (by decide +kernel) (sl_iconst C (x := nI 0) dL_errors_900 (by decide +kernel) (sl_cW C ok_L_simulate ⟨by decide, by decide, wu_948, wu_0, by decide +kernel⟩ wu_946 wu_947 dL_errors_901 (sl_ldc2 C (x := -9000000000000000002) dL_errors_904 wu_684 (sl_lcmp C dL_errors_907 (sl_if_ne C dL_errors_908 (tgt := 960) (by decide) (fun _ _ _ h => h) (sl_aload_n C (i := 0) dL_errors_911 rfl (sl_iconst C (x := nI 2) dL_errors_912 (by decide +kernel) (sl_cW C ok_L_save ⟨by decide, by decide, wu_608, wu_0, by decide +kernel⟩ wu_606 wu_607 dL_errors_913 (sl_ldc2 C (x := -9000000000000000001) dL_errors_916 wu_635 (sl_lcmp C dL_errors_919 (sl_if_ne C dL_errors_920 (tgt := 960) (by decide) (fun _ _ _ h => h) (sl_aload_n C (i := 0) dL_errors_923 rfl (sl_iconst C (x := nI 2) dL_errors_924 (by decide +kernel) (sl_cW C ok_L_restore ⟨by decide, by decide, wu_638, wu_0, by decide +kernel⟩ wu_636 wu_637 dL_errors_925 (sl_ldc2 C (x := -9000000000000000001) dL_errors_928 wu_635 (sl_lcmp C dL_errors_931 (sl_if_ne C dL_errors_932 (tgt := 960) (by decide) (fun _ _ _ h => h) (sl_aload_n C (i := 0) dL_errors_935 rfl (sl_iconst C (x := -1) dL_errors_936 (by decide +kernel) (sl_cW C ok_L_append ⟨by decide, by decide, wu_961, wu_0, by decide +kernel⟩ wu_959 wu_960 dL_errors_937 (sl_ldc2 C (x := -9000000000000000002) dL_errors_940 wu_684 (sl_lcmp C dL_errors_943 (sl_if_ne C dL_errors_944 (tgt := 960) (by decide) (fun _ _ _ h => h) (sl_aload_n C (i := 0) dL_errors_947 rfl (sl_cN C ok_L_now ⟨by decide, by decide, wu_649, wu_0, by decide +kernel⟩ wu_647 wu_648 dL_errors_948 (sl_lload_n C (i := 1) dL_errors_951 rfl (sl_lcmp C dL_errors_952 (sl_if_ne C dL_errors_953 (tgt := 960) (by decide) (fun _ _ _ h => h) (fun _ _ _ h => h)))))))))))))))))))))))))))))))))))))))))))))))
    (sl_iconst C (x := nI 1) dL_errors_956 (by decide +kernel) (sl_goto C dL_errors_957 (tgt := 961) (by decide) (fun _ _ _ h => h)))
    (sl_iconst C (x := nI 0) dL_errors_960 (by decide +kernel) (fun _ _ _ h => h))
    (sl_zr C hr dL_errors_961)
theorem dL_kept_0 : decode cL_kept 0 = .ok (.aload_n 0, 1) := by decide +kernel
theorem dL_kept_1 : decode cL_kept 1 = .ok (.iconst 0, 1) := by decide +kernel
theorem dL_kept_2 : decode cL_kept 2 = .ok (.invokestatic 119, 3) := by decide +kernel
theorem dL_kept_5 : decode cL_kept 5 = .ok (.l2i, 1) := by decide +kernel
theorem dL_kept_6 : decode cL_kept 6 = .ok (.istore_n 1, 1) := by decide +kernel
theorem dL_kept_7 : decode cL_kept 7 = .ok (.aload_n 0, 1) := by decide +kernel
theorem dL_kept_8 : decode cL_kept 8 = .ok (.iconst 1, 1) := by decide +kernel
theorem dL_kept_9 : decode cL_kept 9 = .ok (.invokestatic 119, 3) := by decide +kernel
theorem dL_kept_12 : decode cL_kept 12 = .ok (.l2i, 1) := by decide +kernel
theorem dL_kept_13 : decode cL_kept 13 = .ok (.istore_n 2, 1) := by decide +kernel
theorem dL_kept_14 : decode cL_kept 14 = .ok (.lconst 0, 1) := by decide +kernel
theorem dL_kept_15 : decode cL_kept 15 = .ok (.lstore_n 3, 1) := by decide +kernel
theorem dL_kept_16 : decode cL_kept 16 = .ok (.lconst 0, 1) := by decide +kernel
theorem dL_kept_17 : decode cL_kept 17 = .ok (.lstore 5, 2) := by decide +kernel
theorem dL_kept_19 : decode cL_kept 19 = .ok (.lconst 0, 1) := by decide +kernel
theorem dL_kept_20 : decode cL_kept 20 = .ok (.lstore 7, 2) := by decide +kernel
theorem dL_kept_22 : decode cL_kept 22 = .ok (.lconst 0, 1) := by decide +kernel
theorem dL_kept_23 : decode cL_kept 23 = .ok (.lstore 9, 2) := by decide +kernel
theorem dL_kept_25 : decode cL_kept 25 = .ok (.iload_n 1, 1) := by decide +kernel
theorem dL_kept_26 : decode cL_kept 26 = .ok (.i2l, 1) := by decide +kernel
theorem dL_kept_27 : decode cL_kept 27 = .ok (.lconst 0, 1) := by decide +kernel
theorem dL_kept_28 : decode cL_kept 28 = .ok (.ldc2_w 189, 3) := by decide +kernel
theorem dL_kept_31 : decode cL_kept 31 = .ok (.invokestatic 191, 3) := by decide +kernel
theorem dL_kept_34 : decode cL_kept 34 = .ok (.ifCond .eq 19, 3) := by decide +kernel
theorem dL_kept_37 : decode cL_kept 37 = .ok (.iload_n 2, 1) := by decide +kernel
theorem dL_kept_38 : decode cL_kept 38 = .ok (.i2l, 1) := by decide +kernel
theorem dL_kept_39 : decode cL_kept 39 = .ok (.lconst 0, 1) := by decide +kernel
theorem dL_kept_40 : decode cL_kept 40 = .ok (.ldc2_w 195, 3) := by decide +kernel
theorem dL_kept_43 : decode cL_kept 43 = .ok (.invokestatic 191, 3) := by decide +kernel
theorem dL_kept_46 : decode cL_kept 46 = .ok (.ifCond .eq 7, 3) := by decide +kernel
theorem dL_kept_49 : decode cL_kept 49 = .ok (.iconst 1, 1) := by decide +kernel
theorem dL_kept_50 : decode cL_kept 50 = .ok (.goto 4, 3) := by decide +kernel
theorem dL_kept_53 : decode cL_kept 53 = .ok (.iconst 0, 1) := by decide +kernel
theorem dL_kept_54 : decode cL_kept 54 = .ok (.istore 11, 2) := by decide +kernel
theorem dL_kept_56 : decode cL_kept 56 = .ok (.iconst 0, 1) := by decide +kernel
theorem dL_kept_57 : decode cL_kept 57 = .ok (.istore 12, 2) := by decide +kernel
theorem dL_kept_59 : decode cL_kept 59 = .ok (.iload 12, 2) := by decide +kernel
theorem dL_kept_61 : decode cL_kept 61 = .ok (.iload_n 1, 1) := by decide +kernel
theorem dL_kept_62 : decode cL_kept 62 = .ok (.if_icmp .ge 263, 3) := by decide +kernel
theorem dL_kept_65 : decode cL_kept 65 = .ok (.iload 11, 2) := by decide +kernel
theorem dL_kept_67 : decode cL_kept 67 = .ok (.ifCond .eq 258, 3) := by decide +kernel
theorem dL_kept_70 : decode cL_kept 70 = .ok (.lconst 0, 1) := by decide +kernel
theorem dL_kept_71 : decode cL_kept 71 = .ok (.lstore 13, 2) := by decide +kernel
theorem dL_kept_73 : decode cL_kept 73 = .ok (.iconst 0, 1) := by decide +kernel
theorem dL_kept_74 : decode cL_kept 74 = .ok (.istore 15, 2) := by decide +kernel
theorem dL_kept_76 : decode cL_kept 76 = .ok (.iload 15, 2) := by decide +kernel
theorem dL_kept_78 : decode cL_kept 78 = .ok (.iconst 5, 1) := by decide +kernel
theorem dL_kept_79 : decode cL_kept 79 = .ok (.if_icmp .ge 22, 3) := by decide +kernel
theorem dL_kept_82 : decode cL_kept 82 = .ok (.lload 13, 2) := by decide +kernel
theorem dL_kept_84 : decode cL_kept 84 = .ok (.aload_n 0, 1) := by decide +kernel
theorem dL_kept_85 : decode cL_kept 85 = .ok (.iload 12, 2) := by decide +kernel
theorem dL_kept_87 : decode cL_kept 87 = .ok (.iload 15, 2) := by decide +kernel
theorem dL_kept_89 : decode cL_kept 89 = .ok (.invokestatic 131, 3) := by decide +kernel
theorem dL_kept_92 : decode cL_kept 92 = .ok (.ladd, 1) := by decide +kernel
theorem dL_kept_93 : decode cL_kept 93 = .ok (.lstore 13, 2) := by decide +kernel
theorem dL_kept_95 : decode cL_kept 95 = .ok (.iinc 15 1, 3) := by decide +kernel
theorem dL_kept_98 : decode cL_kept 98 = .ok (.goto (-22), 3) := by decide +kernel
theorem dL_kept_101 : decode cL_kept 101 = .ok (.lload_n 3, 1) := by decide +kernel
theorem dL_kept_102 : decode cL_kept 102 = .ok (.aload_n 0, 1) := by decide +kernel
theorem dL_kept_103 : decode cL_kept 103 = .ok (.iload 12, 2) := by decide +kernel
theorem dL_kept_105 : decode cL_kept 105 = .ok (.iconst 5, 1) := by decide +kernel
theorem dL_kept_106 : decode cL_kept 106 = .ok (.invokestatic 128, 3) := by decide +kernel
theorem dL_kept_109 : decode cL_kept 109 = .ok (.ladd, 1) := by decide +kernel
theorem dL_kept_110 : decode cL_kept 110 = .ok (.lstore_n 3, 1) := by decide +kernel
theorem dL_kept_111 : decode cL_kept 111 = .ok (.lload 5, 2) := by decide +kernel
theorem dL_kept_113 : decode cL_kept 113 = .ok (.aload_n 0, 1) := by decide +kernel
theorem dL_kept_114 : decode cL_kept 114 = .ok (.iload 12, 2) := by decide +kernel
theorem dL_kept_116 : decode cL_kept 116 = .ok (.bipush 6, 2) := by decide +kernel
theorem dL_kept_118 : decode cL_kept 118 = .ok (.invokestatic 128, 3) := by decide +kernel
theorem dL_kept_121 : decode cL_kept 121 = .ok (.ladd, 1) := by decide +kernel
theorem dL_kept_122 : decode cL_kept 122 = .ok (.lstore 5, 2) := by decide +kernel
theorem dL_kept_124 : decode cL_kept 124 = .ok (.lload 7, 2) := by decide +kernel
theorem dL_kept_126 : decode cL_kept 126 = .ok (.lload 13, 2) := by decide +kernel
theorem dL_kept_128 : decode cL_kept 128 = .ok (.ladd, 1) := by decide +kernel
theorem dL_kept_129 : decode cL_kept 129 = .ok (.lstore 7, 2) := by decide +kernel
theorem dL_kept_131 : decode cL_kept 131 = .ok (.lload 13, 2) := by decide +kernel
theorem dL_kept_133 : decode cL_kept 133 = .ok (.aload_n 0, 1) := by decide +kernel
theorem dL_kept_134 : decode cL_kept 134 = .ok (.iload 12, 2) := by decide +kernel
theorem dL_kept_136 : decode cL_kept 136 = .ok (.iconst 4, 1) := by decide +kernel
theorem dL_kept_137 : decode cL_kept 137 = .ok (.invokestatic 128, 3) := by decide +kernel
theorem dL_kept_140 : decode cL_kept 140 = .ok (.lcmp, 1) := by decide +kernel
theorem dL_kept_141 : decode cL_kept 141 = .ok (.ifCond .ne 88, 3) := by decide +kernel
theorem dL_kept_144 : decode cL_kept 144 = .ok (.aload_n 0, 1) := by decide +kernel
theorem dL_kept_145 : decode cL_kept 145 = .ok (.iload 12, 2) := by decide +kernel
theorem dL_kept_147 : decode cL_kept 147 = .ok (.iconst 3, 1) := by decide +kernel
theorem dL_kept_148 : decode cL_kept 148 = .ok (.invokestatic 128, 3) := by decide +kernel
theorem dL_kept_151 : decode cL_kept 151 = .ok (.lconst 0, 1) := by decide +kernel
theorem dL_kept_152 : decode cL_kept 152 = .ok (.lcmp, 1) := by decide +kernel
theorem dL_kept_153 : decode cL_kept 153 = .ok (.ifCond .lt 76, 3) := by decide +kernel
theorem dL_kept_156 : decode cL_kept 156 = .ok (.aload_n 0, 1) := by decide +kernel
theorem dL_kept_157 : decode cL_kept 157 = .ok (.iload 12, 2) := by decide +kernel
theorem dL_kept_159 : decode cL_kept 159 = .ok (.bipush 7, 2) := by decide +kernel
theorem dL_kept_161 : decode cL_kept 161 = .ok (.invokestatic 128, 3) := by decide +kernel
theorem dL_kept_164 : decode cL_kept 164 = .ok (.lconst 0, 1) := by decide +kernel
theorem dL_kept_165 : decode cL_kept 165 = .ok (.ldc2_w 197, 3) := by decide +kernel
theorem dL_kept_168 : decode cL_kept 168 = .ok (.invokestatic 191, 3) := by decide +kernel
theorem dL_kept_171 : decode cL_kept 171 = .ok (.ifCond .eq 58, 3) := by decide +kernel
theorem dL_kept_174 : decode cL_kept 174 = .ok (.aload_n 0, 1) := by decide +kernel
theorem dL_kept_175 : decode cL_kept 175 = .ok (.iload 12, 2) := by decide +kernel
theorem dL_kept_177 : decode cL_kept 177 = .ok (.bipush 7, 2) := by decide +kernel
theorem dL_kept_179 : decode cL_kept 179 = .ok (.invokestatic 128, 3) := by decide +kernel
theorem dL_kept_182 : decode cL_kept 182 = .ok (.lconst 0, 1) := by decide +kernel
theorem dL_kept_183 : decode cL_kept 183 = .ok (.lcmp, 1) := by decide +kernel
theorem dL_kept_184 : decode cL_kept 184 = .ok (.ifCond .ne 7, 3) := by decide +kernel
theorem dL_kept_187 : decode cL_kept 187 = .ok (.iconst 1, 1) := by decide +kernel
theorem dL_kept_188 : decode cL_kept 188 = .ok (.goto 4, 3) := by decide +kernel
theorem dL_kept_191 : decode cL_kept 191 = .ok (.iconst 0, 1) := by decide +kernel
theorem dL_kept_192 : decode cL_kept 192 = .ok (.aload_n 0, 1) := by decide +kernel
theorem dL_kept_193 : decode cL_kept 193 = .ok (.iload 12, 2) := by decide +kernel
theorem dL_kept_195 : decode cL_kept 195 = .ok (.iconst 1, 1) := by decide +kernel
theorem dL_kept_196 : decode cL_kept 196 = .ok (.invokestatic 128, 3) := by decide +kernel
theorem dL_kept_199 : decode cL_kept 199 = .ok (.aload_n 0, 1) := by decide +kernel
theorem dL_kept_200 : decode cL_kept 200 = .ok (.iconst 2, 1) := by decide +kernel
theorem dL_kept_201 : decode cL_kept 201 = .ok (.invokestatic 119, 3) := by decide +kernel
theorem dL_kept_204 : decode cL_kept 204 = .ok (.ldc2_w 199, 3) := by decide +kernel
theorem dL_kept_207 : decode cL_kept 207 = .ok (.lrem, 1) := by decide +kernel
theorem dL_kept_208 : decode cL_kept 208 = .ok (.l2i, 1) := by decide +kernel
theorem dL_kept_209 : decode cL_kept 209 = .ok (.lshr, 1) := by decide +kernel
theorem dL_kept_210 : decode cL_kept 210 = .ok (.lconst 1, 1) := by decide +kernel
theorem dL_kept_211 : decode cL_kept 211 = .ok (.land, 1) := by decide +kernel
theorem dL_kept_212 : decode cL_kept 212 = .ok (.lconst 0, 1) := by decide +kernel
theorem dL_kept_213 : decode cL_kept 213 = .ok (.lcmp, 1) := by decide +kernel
theorem dL_kept_214 : decode cL_kept 214 = .ok (.ifCond .ne 7, 3) := by decide +kernel
theorem dL_kept_217 : decode cL_kept 217 = .ok (.iconst 1, 1) := by decide +kernel
theorem dL_kept_218 : decode cL_kept 218 = .ok (.goto 4, 3) := by decide +kernel
theorem dL_kept_221 : decode cL_kept 221 = .ok (.iconst 0, 1) := by decide +kernel
theorem dL_kept_222 : decode cL_kept 222 = .ok (.if_icmp .ne 7, 3) := by decide +kernel
theorem dL_kept_225 : decode cL_kept 225 = .ok (.iconst 1, 1) := by decide +kernel
theorem dL_kept_226 : decode cL_kept 226 = .ok (.goto 4, 3) := by decide +kernel
theorem dL_kept_229 : decode cL_kept 229 = .ok (.iconst 0, 1) := by decide +kernel
theorem dL_kept_230 : decode cL_kept 230 = .ok (.istore 11, 2) := by decide +kernel
theorem dL_kept_232 : decode cL_kept 232 = .ok (.iconst 0, 1) := by decide +kernel
theorem dL_kept_233 : decode cL_kept 233 = .ok (.istore 15, 2) := by decide +kernel
theorem dL_kept_235 : decode cL_kept 235 = .ok (.iload 15, 2) := by decide +kernel
theorem dL_kept_237 : decode cL_kept 237 = .ok (.iconst 4, 1) := by decide +kernel
theorem dL_kept_238 : decode cL_kept 238 = .ok (.if_icmp .ge 81, 3) := by decide +kernel
theorem dL_kept_241 : decode cL_kept 241 = .ok (.iload 11, 2) := by decide +kernel
theorem dL_kept_243 : decode cL_kept 243 = .ok (.ifCond .eq 76, 3) := by decide +kernel
theorem dL_kept_246 : decode cL_kept 246 = .ok (.aload_n 0, 1) := by decide +kernel
theorem dL_kept_247 : decode cL_kept 247 = .ok (.iload 12, 2) := by decide +kernel
theorem dL_kept_249 : decode cL_kept 249 = .ok (.iconst 0, 1) := by decide +kernel
theorem dL_kept_250 : decode cL_kept 250 = .ok (.invokestatic 128, 3) := by decide +kernel
theorem dL_kept_253 : decode cL_kept 253 = .ok (.aload_n 0, 1) := by decide +kernel
theorem dL_kept_254 : decode cL_kept 254 = .ok (.iload 15, 2) := by decide +kernel
theorem dL_kept_256 : decode cL_kept 256 = .ok (.invokestatic 126, 3) := by decide +kernel
theorem dL_kept_259 : decode cL_kept 259 = .ok (.ldc2_w 201, 3) := by decide +kernel
theorem dL_kept_262 : decode cL_kept 262 = .ok (.lsub, 1) := by decide +kernel
theorem dL_kept_263 : decode cL_kept 263 = .ok (.aload_n 0, 1) := by decide +kernel
theorem dL_kept_264 : decode cL_kept 264 = .ok (.iload 12, 2) := by decide +kernel
theorem dL_kept_266 : decode cL_kept 266 = .ok (.iconst 2, 1) := by decide +kernel
theorem dL_kept_267 : decode cL_kept 267 = .ok (.invokestatic 128, 3) := by decide +kernel
theorem dL_kept_270 : decode cL_kept 270 = .ok (.lmul, 1) := by decide +kernel
theorem dL_kept_271 : decode cL_kept 271 = .ok (.ladd, 1) := by decide +kernel
theorem dL_kept_272 : decode cL_kept 272 = .ok (.lstore 16, 2) := by decide +kernel
theorem dL_kept_274 : decode cL_kept 274 = .ok (.aload_n 0, 1) := by decide +kernel
theorem dL_kept_275 : decode cL_kept 275 = .ok (.iload 12, 2) := by decide +kernel
theorem dL_kept_277 : decode cL_kept 277 = .ok (.iload 15, 2) := by decide +kernel
theorem dL_kept_279 : decode cL_kept 279 = .ok (.invokestatic 161, 3) := by decide +kernel
theorem dL_kept_282 : decode cL_kept 282 = .ok (.lload 16, 2) := by decide +kernel
theorem dL_kept_284 : decode cL_kept 284 = .ok (.lconst 0, 1) := by decide +kernel
theorem dL_kept_285 : decode cL_kept 285 = .ok (.ldc2_w 203, 3) := by decide +kernel
theorem dL_kept_288 : decode cL_kept 288 = .ok (.invokestatic 191, 3) := by decide +kernel
theorem dL_kept_291 : decode cL_kept 291 = .ok (.ifCond .eq 8, 3) := by decide +kernel
theorem dL_kept_294 : decode cL_kept 294 = .ok (.lload 16, 2) := by decide +kernel
theorem dL_kept_296 : decode cL_kept 296 = .ok (.goto 6, 3) := by decide +kernel
theorem dL_kept_299 : decode cL_kept 299 = .ok (.ldc2_w 205, 3) := by decide +kernel
theorem dL_kept_302 : decode cL_kept 302 = .ok (.lcmp, 1) := by decide +kernel
theorem dL_kept_303 : decode cL_kept 303 = .ok (.ifCond .ne 7, 3) := by decide +kernel
theorem dL_kept_306 : decode cL_kept 306 = .ok (.iconst 1, 1) := by decide +kernel
theorem dL_kept_307 : decode cL_kept 307 = .ok (.goto 4, 3) := by decide +kernel
theorem dL_kept_310 : decode cL_kept 310 = .ok (.iconst 0, 1) := by decide +kernel
theorem dL_kept_311 : decode cL_kept 311 = .ok (.istore 11, 2) := by decide +kernel
theorem dL_kept_313 : decode cL_kept 313 = .ok (.iinc 15 1, 3) := by decide +kernel
theorem dL_kept_316 : decode cL_kept 316 = .ok (.goto (-81), 3) := by decide +kernel
theorem dL_kept_319 : decode cL_kept 319 = .ok (.iinc 12 1, 3) := by decide +kernel
theorem dL_kept_322 : decode cL_kept 322 = .ok (.goto (-263), 3) := by decide +kernel
theorem dL_kept_325 : decode cL_kept 325 = .ok (.iconst 0, 1) := by decide +kernel
theorem dL_kept_326 : decode cL_kept 326 = .ok (.istore 12, 2) := by decide +kernel
theorem dL_kept_328 : decode cL_kept 328 = .ok (.iload 12, 2) := by decide +kernel
theorem dL_kept_330 : decode cL_kept 330 = .ok (.iload_n 2, 1) := by decide +kernel
theorem dL_kept_331 : decode cL_kept 331 = .ok (.if_icmp .ge 116, 3) := by decide +kernel
theorem dL_kept_334 : decode cL_kept 334 = .ok (.iload 11, 2) := by decide +kernel
theorem dL_kept_336 : decode cL_kept 336 = .ok (.ifCond .eq 111, 3) := by decide +kernel
theorem dL_kept_339 : decode cL_kept 339 = .ok (.lload 9, 2) := by decide +kernel
theorem dL_kept_341 : decode cL_kept 341 = .ok (.aload_n 0, 1) := by decide +kernel
theorem dL_kept_342 : decode cL_kept 342 = .ok (.iload 12, 2) := by decide +kernel
theorem dL_kept_344 : decode cL_kept 344 = .ok (.iconst 3, 1) := by decide +kernel
theorem dL_kept_345 : decode cL_kept 345 = .ok (.invokestatic 133, 3) := by decide +kernel
theorem dL_kept_348 : decode cL_kept 348 = .ok (.ladd, 1) := by decide +kernel
theorem dL_kept_349 : decode cL_kept 349 = .ok (.lstore 9, 2) := by decide +kernel
theorem dL_kept_351 : decode cL_kept 351 = .ok (.aload_n 0, 1) := by decide +kernel
theorem dL_kept_352 : decode cL_kept 352 = .ok (.iload 12, 2) := by decide +kernel
theorem dL_kept_354 : decode cL_kept 354 = .ok (.iconst 4, 1) := by decide +kernel
theorem dL_kept_355 : decode cL_kept 355 = .ok (.invokestatic 133, 3) := by decide +kernel
theorem dL_kept_358 : decode cL_kept 358 = .ok (.l2i, 1) := by decide +kernel
theorem dL_kept_359 : decode cL_kept 359 = .ok (.istore 13, 2) := by decide +kernel
theorem dL_kept_361 : decode cL_kept 361 = .ok (.aload_n 0, 1) := by decide +kernel
theorem dL_kept_362 : decode cL_kept 362 = .ok (.iload 12, 2) := by decide +kernel
theorem dL_kept_364 : decode cL_kept 364 = .ok (.iconst 0, 1) := by decide +kernel
theorem dL_kept_365 : decode cL_kept 365 = .ok (.invokestatic 133, 3) := by decide +kernel
theorem dL_kept_368 : decode cL_kept 368 = .ok (.l2i, 1) := by decide +kernel
theorem dL_kept_369 : decode cL_kept 369 = .ok (.istore 14, 2) := by decide +kernel
theorem dL_kept_371 : decode cL_kept 371 = .ok (.aload_n 0, 1) := by decide +kernel
theorem dL_kept_372 : decode cL_kept 372 = .ok (.iload 14, 2) := by decide +kernel
theorem dL_kept_374 : decode cL_kept 374 = .ok (.invokestatic 163, 3) := by decide +kernel
theorem dL_kept_377 : decode cL_kept 377 = .ok (.l2i, 1) := by decide +kernel
theorem dL_kept_378 : decode cL_kept 378 = .ok (.istore 15, 2) := by decide +kernel
theorem dL_kept_380 : decode cL_kept 380 = .ok (.iload_n 1, 1) := by decide +kernel
theorem dL_kept_381 : decode cL_kept 381 = .ok (.ifCond .ne 12, 3) := by decide +kernel
theorem dL_kept_384 : decode cL_kept 384 = .ok (.iload 13, 2) := by decide +kernel
theorem dL_kept_386 : decode cL_kept 386 = .ok (.iconst (-1), 1) := by decide +kernel
theorem dL_kept_387 : decode cL_kept 387 = .ok (.if_icmp .ne 51, 3) := by decide +kernel
theorem dL_kept_390 : decode cL_kept 390 = .ok (.goto 17, 3) := by decide +kernel
theorem dL_kept_393 : decode cL_kept 393 = .ok (.iload 13, 2) := by decide +kernel
theorem dL_kept_395 : decode cL_kept 395 = .ok (.i2l, 1) := by decide +kernel
theorem dL_kept_396 : decode cL_kept 396 = .ok (.lconst 0, 1) := by decide +kernel
theorem dL_kept_397 : decode cL_kept 397 = .ok (.iload_n 1, 1) := by decide +kernel
theorem dL_kept_398 : decode cL_kept 398 = .ok (.iconst 1, 1) := by decide +kernel
theorem dL_kept_399 : decode cL_kept 399 = .ok (.isub, 1) := by decide +kernel
theorem dL_kept_400 : decode cL_kept 400 = .ok (.i2l, 1) := by decide +kernel
theorem dL_kept_401 : decode cL_kept 401 = .ok (.invokestatic 191, 3) := by decide +kernel
theorem dL_kept_404 : decode cL_kept 404 = .ok (.ifCond .eq 34, 3) := by decide +kernel
theorem dL_kept_407 : decode cL_kept 407 = .ok (.iload 15, 2) := by decide +kernel
theorem dL_kept_409 : decode cL_kept 409 = .ok (.iconst (-1), 1) := by decide +kernel
theorem dL_kept_410 : decode cL_kept 410 = .ok (.if_icmp .eq 28, 3) := by decide +kernel
theorem dL_kept_413 : decode cL_kept 413 = .ok (.aload_n 0, 1) := by decide +kernel
theorem dL_kept_414 : decode cL_kept 414 = .ok (.iload 15, 2) := by decide +kernel
theorem dL_kept_416 : decode cL_kept 416 = .ok (.iconst 0, 1) := by decide +kernel
theorem dL_kept_417 : decode cL_kept 417 = .ok (.invokestatic 133, 3) := by decide +kernel
theorem dL_kept_420 : decode cL_kept 420 = .ok (.iload 14, 2) := by decide +kernel
theorem dL_kept_422 : decode cL_kept 422 = .ok (.i2l, 1) := by decide +kernel
theorem dL_kept_423 : decode cL_kept 423 = .ok (.lcmp, 1) := by decide +kernel
theorem dL_kept_424 : decode cL_kept 424 = .ok (.ifCond .ne 14, 3) := by decide +kernel
theorem dL_kept_427 : decode cL_kept 427 = .ok (.iload 15, 2) := by decide +kernel
theorem dL_kept_429 : decode cL_kept 429 = .ok (.iload 12, 2) := by decide +kernel
theorem dL_kept_431 : decode cL_kept 431 = .ok (.if_icmp .gt 7, 3) := by decide +kernel
theorem dL_kept_434 : decode cL_kept 434 = .ok (.iconst 1, 1) := by decide +kernel
theorem dL_kept_435 : decode cL_kept 435 = .ok (.goto 4, 3) := by decide +kernel
theorem dL_kept_438 : decode cL_kept 438 = .ok (.iconst 0, 1) := by decide +kernel
theorem dL_kept_439 : decode cL_kept 439 = .ok (.istore 11, 2) := by decide +kernel
theorem dL_kept_441 : decode cL_kept 441 = .ok (.iinc 12 1, 3) := by decide +kernel
theorem dL_kept_444 : decode cL_kept 444 = .ok (.goto (-116), 3) := by decide +kernel
theorem dL_kept_447 : decode cL_kept 447 = .ok (.aload_n 0, 1) := by decide +kernel
theorem dL_kept_448 : decode cL_kept 448 = .ok (.iconst 2, 1) := by decide +kernel
theorem dL_kept_449 : decode cL_kept 449 = .ok (.invokestatic 119, 3) := by decide +kernel
theorem dL_kept_452 : decode cL_kept 452 = .ok (.lstore 12, 2) := by decide +kernel
theorem dL_kept_454 : decode cL_kept 454 = .ok (.iconst 0, 1) := by decide +kernel
theorem dL_kept_455 : decode cL_kept 455 = .ok (.istore 14, 2) := by decide +kernel
theorem dL_kept_457 : decode cL_kept 457 = .ok (.iload 14, 2) := by decide +kernel
theorem dL_kept_459 : decode cL_kept 459 = .ok (.i2l, 1) := by decide +kernel
theorem dL_kept_460 : decode cL_kept 460 = .ok (.aload_n 0, 1) := by decide +kernel
theorem dL_kept_461 : decode cL_kept 461 = .ok (.bipush 9, 2) := by decide +kernel
theorem dL_kept_463 : decode cL_kept 463 = .ok (.invokestatic 119, 3) := by decide +kernel
theorem dL_kept_466 : decode cL_kept 466 = .ok (.lcmp, 1) := by decide +kernel
theorem dL_kept_467 : decode cL_kept 467 = .ok (.ifCond .ge 77, 3) := by decide +kernel
theorem dL_kept_470 : decode cL_kept 470 = .ok (.iload 11, 2) := by decide +kernel
theorem dL_kept_472 : decode cL_kept 472 = .ok (.ifCond .eq 72, 3) := by decide +kernel
theorem dL_kept_475 : decode cL_kept 475 = .ok (.aload_n 0, 1) := by decide +kernel
theorem dL_kept_476 : decode cL_kept 476 = .ok (.iload 14, 2) := by decide +kernel
theorem dL_kept_478 : decode cL_kept 478 = .ok (.iconst 0, 1) := by decide +kernel
theorem dL_kept_479 : decode cL_kept 479 = .ok (.invokestatic 137, 3) := by decide +kernel
theorem dL_kept_482 : decode cL_kept 482 = .ok (.lstore 15, 2) := by decide +kernel
theorem dL_kept_484 : decode cL_kept 484 = .ok (.lload 15, 2) := by decide +kernel
theorem dL_kept_486 : decode cL_kept 486 = .ok (.lload 12, 2) := by decide +kernel
theorem dL_kept_488 : decode cL_kept 488 = .ok (.lcmp, 1) := by decide +kernel
theorem dL_kept_489 : decode cL_kept 489 = .ok (.ifCond .lt 42, 3) := by decide +kernel
theorem dL_kept_492 : decode cL_kept 492 = .ok (.aload_n 0, 1) := by decide +kernel
theorem dL_kept_493 : decode cL_kept 493 = .ok (.iload 14, 2) := by decide +kernel
theorem dL_kept_495 : decode cL_kept 495 = .ok (.iconst 1, 1) := by decide +kernel
theorem dL_kept_496 : decode cL_kept 496 = .ok (.invokestatic 137, 3) := by decide +kernel
theorem dL_kept_499 : decode cL_kept 499 = .ok (.lconst 0, 1) := by decide +kernel
theorem dL_kept_500 : decode cL_kept 500 = .ok (.iload_n 1, 1) := by decide +kernel
theorem dL_kept_501 : decode cL_kept 501 = .ok (.iconst 1, 1) := by decide +kernel
theorem dL_kept_502 : decode cL_kept 502 = .ok (.isub, 1) := by decide +kernel
theorem dL_kept_503 : decode cL_kept 503 = .ok (.i2l, 1) := by decide +kernel
theorem dL_kept_504 : decode cL_kept 504 = .ok (.invokestatic 191, 3) := by decide +kernel
theorem dL_kept_507 : decode cL_kept 507 = .ok (.ifCond .eq 24, 3) := by decide +kernel
theorem dL_kept_510 : decode cL_kept 510 = .ok (.aload_n 0, 1) := by decide +kernel
theorem dL_kept_511 : decode cL_kept 511 = .ok (.iload 14, 2) := by decide +kernel
theorem dL_kept_513 : decode cL_kept 513 = .ok (.iconst 2, 1) := by decide +kernel
theorem dL_kept_514 : decode cL_kept 514 = .ok (.invokestatic 137, 3) := by decide +kernel
theorem dL_kept_517 : decode cL_kept 517 = .ok (.lconst 1, 1) := by decide +kernel
theorem dL_kept_518 : decode cL_kept 518 = .ok (.ldc2_w 199, 3) := by decide +kernel
theorem dL_kept_521 : decode cL_kept 521 = .ok (.invokestatic 191, 3) := by decide +kernel
theorem dL_kept_524 : decode cL_kept 524 = .ok (.ifCond .eq 7, 3) := by decide +kernel
theorem dL_kept_527 : decode cL_kept 527 = .ok (.iconst 1, 1) := by decide +kernel
theorem dL_kept_528 : decode cL_kept 528 = .ok (.goto 4, 3) := by decide +kernel
theorem dL_kept_531 : decode cL_kept 531 = .ok (.iconst 0, 1) := by decide +kernel
theorem dL_kept_532 : decode cL_kept 532 = .ok (.istore 11, 2) := by decide +kernel
theorem dL_kept_534 : decode cL_kept 534 = .ok (.lload 15, 2) := by decide +kernel
theorem dL_kept_536 : decode cL_kept 536 = .ok (.lstore 12, 2) := by decide +kernel
theorem dL_kept_538 : decode cL_kept 538 = .ok (.iinc 14 1, 3) := by decide +kernel
theorem dL_kept_541 : decode cL_kept 541 = .ok (.goto (-84), 3) := by decide +kernel
theorem dL_kept_544 : decode cL_kept 544 = .ok (.iload 11, 2) := by decide +kernel
theorem dL_kept_546 : decode cL_kept 546 = .ok (.ifCond .eq 154, 3) := by decide +kernel
theorem dL_kept_549 : decode cL_kept 549 = .ok (.lload_n 3, 1) := by decide +kernel
theorem dL_kept_550 : decode cL_kept 550 = .ok (.aload_n 0, 1) := by decide +kernel
theorem dL_kept_551 : decode cL_kept 551 = .ok (.iconst 4, 1) := by decide +kernel
theorem dL_kept_552 : decode cL_kept 552 = .ok (.invokestatic 119, 3) := by decide +kernel
theorem dL_kept_555 : decode cL_kept 555 = .ok (.lcmp, 1) := by decide +kernel
theorem dL_kept_556 : decode cL_kept 556 = .ok (.ifCond .ne 144, 3) := by decide +kernel
theorem dL_kept_559 : decode cL_kept 559 = .ok (.lload 5, 2) := by decide +kernel
theorem dL_kept_561 : decode cL_kept 561 = .ok (.aload_n 0, 1) := by decide +kernel
theorem dL_kept_562 : decode cL_kept 562 = .ok (.iconst 5, 1) := by decide +kernel
theorem dL_kept_563 : decode cL_kept 563 = .ok (.invokestatic 119, 3) := by decide +kernel
theorem dL_kept_566 : decode cL_kept 566 = .ok (.lcmp, 1) := by decide +kernel
theorem dL_kept_567 : decode cL_kept 567 = .ok (.ifCond .ne 133, 3) := by decide +kernel
theorem dL_kept_570 : decode cL_kept 570 = .ok (.lload 7, 2) := by decide +kernel
theorem dL_kept_572 : decode cL_kept 572 = .ok (.aload_n 0, 1) := by decide +kernel
theorem dL_kept_573 : decode cL_kept 573 = .ok (.bipush 11, 2) := by decide +kernel
theorem dL_kept_575 : decode cL_kept 575 = .ok (.invokestatic 119, 3) := by decide +kernel
theorem dL_kept_578 : decode cL_kept 578 = .ok (.lcmp, 1) := by decide +kernel
theorem dL_kept_579 : decode cL_kept 579 = .ok (.ifCond .ne 121, 3) := by decide +kernel
theorem dL_kept_582 : decode cL_kept 582 = .ok (.lload 9, 2) := by decide +kernel
theorem dL_kept_584 : decode cL_kept 584 = .ok (.aload_n 0, 1) := by decide +kernel
theorem dL_kept_585 : decode cL_kept 585 = .ok (.bipush 7, 2) := by decide +kernel
theorem dL_kept_587 : decode cL_kept 587 = .ok (.invokestatic 119, 3) := by decide +kernel
theorem dL_kept_590 : decode cL_kept 590 = .ok (.aload_n 0, 1) := by decide +kernel
theorem dL_kept_591 : decode cL_kept 591 = .ok (.bipush 8, 2) := by decide +kernel
theorem dL_kept_593 : decode cL_kept 593 = .ok (.invokestatic 119, 3) := by decide +kernel
theorem dL_kept_596 : decode cL_kept 596 = .ok (.ladd, 1) := by decide +kernel
theorem dL_kept_597 : decode cL_kept 597 = .ok (.aload_n 0, 1) := by decide +kernel
theorem dL_kept_598 : decode cL_kept 598 = .ok (.bipush 9, 2) := by decide +kernel
theorem dL_kept_600 : decode cL_kept 600 = .ok (.invokestatic 119, 3) := by decide +kernel
theorem dL_kept_603 : decode cL_kept 603 = .ok (.ladd, 1) := by decide +kernel
theorem dL_kept_604 : decode cL_kept 604 = .ok (.lcmp, 1) := by decide +kernel
theorem dL_kept_605 : decode cL_kept 605 = .ok (.ifCond .ne 95, 3) := by decide +kernel
theorem dL_kept_608 : decode cL_kept 608 = .ok (.lload_n 3, 1) := by decide +kernel
theorem dL_kept_609 : decode cL_kept 609 = .ok (.lload 9, 2) := by decide +kernel
theorem dL_kept_611 : decode cL_kept 611 = .ok (.aload_n 0, 1) := by decide +kernel
theorem dL_kept_612 : decode cL_kept 612 = .ok (.bipush 6, 2) := by decide +kernel
theorem dL_kept_614 : decode cL_kept 614 = .ok (.invokestatic 119, 3) := by decide +kernel
theorem dL_kept_617 : decode cL_kept 617 = .ok (.ladd, 1) := by decide +kernel
theorem dL_kept_618 : decode cL_kept 618 = .ok (.lcmp, 1) := by decide +kernel
theorem dL_kept_619 : decode cL_kept 619 = .ok (.ifCond .ne 81, 3) := by decide +kernel
theorem dL_kept_622 : decode cL_kept 622 = .ok (.aload_n 0, 1) := by decide +kernel
theorem dL_kept_623 : decode cL_kept 623 = .ok (.aload_n 0, 1) := by decide +kernel
theorem dL_kept_624 : decode cL_kept 624 = .ok (.bipush 9, 2) := by decide +kernel
theorem dL_kept_626 : decode cL_kept 626 = .ok (.invokestatic 119, 3) := by decide +kernel
theorem dL_kept_629 : decode cL_kept 629 = .ok (.l2i, 1) := by decide +kernel
theorem dL_kept_630 : decode cL_kept 630 = .ok (.iconst 0, 1) := by decide +kernel
theorem dL_kept_631 : decode cL_kept 631 = .ok (.invokestatic 137, 3) := by decide +kernel
theorem dL_kept_634 : decode cL_kept 634 = .ok (.ldc2_w 205, 3) := by decide +kernel
theorem dL_kept_637 : decode cL_kept 637 = .ok (.lcmp, 1) := by decide +kernel
theorem dL_kept_638 : decode cL_kept 638 = .ok (.ifCond .ne 62, 3) := by decide +kernel
theorem dL_kept_641 : decode cL_kept 641 = .ok (.aload_n 0, 1) := by decide +kernel
theorem dL_kept_642 : decode cL_kept 642 = .ok (.iconst 0, 1) := by decide +kernel
theorem dL_kept_643 : decode cL_kept 643 = .ok (.iconst 0, 1) := by decide +kernel
theorem dL_kept_644 : decode cL_kept 644 = .ok (.invokestatic 135, 3) := by decide +kernel
theorem dL_kept_647 : decode cL_kept 647 = .ok (.ldc2_w 205, 3) := by decide +kernel
theorem dL_kept_650 : decode cL_kept 650 = .ok (.lcmp, 1) := by decide +kernel
theorem dL_kept_651 : decode cL_kept 651 = .ok (.ifCond .ne 7, 3) := by decide +kernel
theorem dL_kept_654 : decode cL_kept 654 = .ok (.iconst 1, 1) := by decide +kernel
theorem dL_kept_655 : decode cL_kept 655 = .ok (.goto 4, 3) := by decide +kernel
theorem dL_kept_658 : decode cL_kept 658 = .ok (.iconst 0, 1) := by decide +kernel
theorem dL_kept_659 : decode cL_kept 659 = .ok (.lload 5, 2) := by decide +kernel
theorem dL_kept_661 : decode cL_kept 661 = .ok (.lconst 0, 1) := by decide +kernel
theorem dL_kept_662 : decode cL_kept 662 = .ok (.lcmp, 1) := by decide +kernel
theorem dL_kept_663 : decode cL_kept 663 = .ok (.ifCond .ne 7, 3) := by decide +kernel
theorem dL_kept_666 : decode cL_kept 666 = .ok (.iconst 1, 1) := by decide +kernel
theorem dL_kept_667 : decode cL_kept 667 = .ok (.goto 4, 3) := by decide +kernel
theorem dL_kept_670 : decode cL_kept 670 = .ok (.iconst 0, 1) := by decide +kernel
theorem dL_kept_671 : decode cL_kept 671 = .ok (.if_icmp .ne 29, 3) := by decide +kernel
theorem dL_kept_674 : decode cL_kept 674 = .ok (.lload 5, 2) := by decide +kernel
theorem dL_kept_676 : decode cL_kept 676 = .ok (.lconst 1, 1) := by decide +kernel
theorem dL_kept_677 : decode cL_kept 677 = .ok (.lcmp, 1) := by decide +kernel
theorem dL_kept_678 : decode cL_kept 678 = .ok (.ifCond .lt 18, 3) := by decide +kernel
theorem dL_kept_681 : decode cL_kept 681 = .ok (.aload_n 0, 1) := by decide +kernel
theorem dL_kept_682 : decode cL_kept 682 = .ok (.iconst 0, 1) := by decide +kernel
theorem dL_kept_683 : decode cL_kept 683 = .ok (.iconst 0, 1) := by decide +kernel
theorem dL_kept_684 : decode cL_kept 684 = .ok (.invokestatic 135, 3) := by decide +kernel
theorem dL_kept_687 : decode cL_kept 687 = .ok (.aload_n 0, 1) := by decide +kernel
theorem dL_kept_688 : decode cL_kept 688 = .ok (.iconst 2, 1) := by decide +kernel
theorem dL_kept_689 : decode cL_kept 689 = .ok (.invokestatic 119, 3) := by decide +kernel
theorem dL_kept_692 : decode cL_kept 692 = .ok (.lcmp, 1) := by decide +kernel
theorem dL_kept_693 : decode cL_kept 693 = .ok (.ifCond .ge 7, 3) := by decide +kernel
theorem dL_kept_696 : decode cL_kept 696 = .ok (.iconst 1, 1) := by decide +kernel
theorem dL_kept_697 : decode cL_kept 697 = .ok (.goto 4, 3) := by decide +kernel
theorem dL_kept_700 : decode cL_kept 700 = .ok (.iconst 0, 1) := by decide +kernel
theorem dL_kept_701 : decode cL_kept 701 = .ok (.ireturn, 1) := by decide +kernel
def bL_kept_0 (mc : Nat) (s_L_about : la_S) (s_L_in : la_S) (s_L_station : la_S) (s_L_stock : la_S) (s_L_windOf : la_S) (s_L_landing : la_S) (s_L_finder : la_S) (s_L_finds : la_S) (s_L_back : la_S) (s_L_gap : la_S) (M : Nat → la_P) (K : Option Value → (Nat → aS) → Prop) : la_P := la_ald 0 (la_ci (nI 0) (la_cN mc 1 2 s_L_about (la_l2i (la_ist 1 (la_ald 0 (la_ci (nI 1) (la_cN mc 1 2 s_L_about (la_l2i (la_ist 2 (la_cl (lN 0) (la_lst 3 (la_cl (lN 0) (la_lst 5 (la_cl (lN 0) (la_lst 7 (la_cl (lN 0) (la_lst 9 (la_ild 1 (la_i2l (la_cl (lN 0) (la_cl (5) (la_cN mc 0 3 s_L_in (la_if1 (fun x => x = 0) (M 53) (la_ild 2 (la_i2l (la_cl (lN 0) (la_cl (6) (la_cN mc 0 3 s_L_in (la_if1 (fun x => x = 0) (M 53) (la_ci (nI 1) (M 54)))))))))))))))))))))))))))))))
def bL_kept_53 (mc : Nat) (s_L_about : la_S) (s_L_in : la_S) (s_L_station : la_S) (s_L_stock : la_S) (s_L_windOf : la_S) (s_L_landing : la_S) (s_L_finder : la_S) (s_L_finds : la_S) (s_L_back : la_S) (s_L_gap : la_S) (M : Nat → la_P) (K : Option Value → (Nat → aS) → Prop) : la_P := la_ci (nI 0) (M 54)
def bL_kept_54 (mc : Nat) (s_L_about : la_S) (s_L_in : la_S) (s_L_station : la_S) (s_L_stock : la_S) (s_L_windOf : la_S) (s_L_landing : la_S) (s_L_finder : la_S) (s_L_finds : la_S) (s_L_back : la_S) (s_L_gap : la_S) (M : Nat → la_P) (K : Option Value → (Nat → aS) → Prop) : la_P := la_ist 11 (la_ci (nI 0) (la_ist 12 (M 59)))
def bL_kept_59 (mc : Nat) (s_L_about : la_S) (s_L_in : la_S) (s_L_station : la_S) (s_L_stock : la_S) (s_L_windOf : la_S) (s_L_landing : la_S) (s_L_finder : la_S) (s_L_finds : la_S) (s_L_back : la_S) (s_L_gap : la_S) (M : Nat → la_P) (K : Option Value → (Nat → aS) → Prop) : la_P := la_ild 12 (la_ild 1 (la_if2 (fun x y => y ≤ x) (M 325) (la_ild 11 (la_if1 (fun x => x = 0) (M 325) (la_cl (lN 0) (la_lst 13 (la_ci (nI 0) (la_ist 15 (M 76)))))))))
def bL_kept_76 (mc : Nat) (s_L_about : la_S) (s_L_in : la_S) (s_L_station : la_S) (s_L_stock : la_S) (s_L_windOf : la_S) (s_L_landing : la_S) (s_L_finder : la_S) (s_L_finds : la_S) (s_L_back : la_S) (s_L_gap : la_S) (M : Nat → la_P) (K : Option Value → (Nat → aS) → Prop) : la_P := la_ild 15 (la_ci (nI 5) (la_if2 (fun x y => y ≤ x) (la_lld 3 (la_ald 0 (la_ild 12 (la_ci (nI 5) (la_cN mc 1 3 s_L_station (la_l2 (fun x y => x + y) (la_lst 3 (la_lld 5 (la_ald 0 (la_ild 12 (la_ci (nI 6) (la_cN mc 1 3 s_L_station (la_l2 (fun x y => x + y) (la_lst 5 (la_lld 7 (la_lld 13 (la_l2 (fun x y => x + y) (la_lst 7 (la_lld 13 (la_ald 0 (la_ild 12 (la_ci (nI 4) (la_cN mc 1 3 s_L_station (la_lcmp (la_if1 (fun x => ¬ x = 0) (M 229) (la_ald 0 (la_ild 12 (la_ci (nI 3) (la_cN mc 1 3 s_L_station (la_cl (lN 0) (la_lcmp (la_if1 (fun x => x < 0) (M 229) (la_ald 0 (la_ild 12 (la_ci (nI 7) (la_cN mc 1 3 s_L_station (la_cl (lN 0) (la_cl (3) (la_cN mc 0 3 s_L_in (la_if1 (fun x => x = 0) (M 229) (M 174))))))))))))))))))))))))))))))))))))))))) (la_lld 13 (la_ald 0 (la_ild 12 (la_ild 15 (la_cN mc 1 3 s_L_stock (la_l2 (fun x y => x + y) (la_lst 13 (la_inc 15 (nI 1) (M 76)))))))))))
def bL_kept_174 (mc : Nat) (s_L_about : la_S) (s_L_in : la_S) (s_L_station : la_S) (s_L_stock : la_S) (s_L_windOf : la_S) (s_L_landing : la_S) (s_L_finder : la_S) (s_L_finds : la_S) (s_L_back : la_S) (s_L_gap : la_S) (M : Nat → la_P) (K : Option Value → (Nat → aS) → Prop) : la_P := la_ald 0 (la_ild 12 (la_ci (nI 7) (la_cN mc 1 3 s_L_station (la_cl (lN 0) (la_lcmp (la_if1 (fun x => ¬ x = 0) (la_ci (nI 0) (M 192)) (la_ci (nI 1) (M 192))))))))
def bL_kept_192 (mc : Nat) (s_L_about : la_S) (s_L_in : la_S) (s_L_station : la_S) (s_L_stock : la_S) (s_L_windOf : la_S) (s_L_landing : la_S) (s_L_finder : la_S) (s_L_finds : la_S) (s_L_back : la_S) (s_L_gap : la_S) (M : Nat → la_P) (K : Option Value → (Nat → aS) → Prop) : la_P := la_ald 0 (la_ild 12 (la_ci (nI 1) (la_cN mc 1 3 s_L_station (la_ald 0 (la_ci (nI 2) (la_cN mc 1 2 s_L_about (la_cl (4) (la_ld2 (fun x y => x - x / y * y) (la_l2i (la_lsh (fun x y => x >>> (y.toInt64 &&& 63)) (la_cl (lN 1) (la_l2 (fun x y => x &&& y) (la_cl (lN 0) (la_lcmp (la_if1 (fun x => ¬ x = 0) (la_ci (nI 0) (M 222)) (la_ci (nI 1) (M 222)))))))))))))))))
def bL_kept_222 (mc : Nat) (s_L_about : la_S) (s_L_in : la_S) (s_L_station : la_S) (s_L_stock : la_S) (s_L_windOf : la_S) (s_L_landing : la_S) (s_L_finder : la_S) (s_L_finds : la_S) (s_L_back : la_S) (s_L_gap : la_S) (M : Nat → la_P) (K : Option Value → (Nat → aS) → Prop) : la_P := la_if2 (fun x y => ¬ x = y) (M 229) (la_ci (nI 1) (M 230))
def bL_kept_229 (mc : Nat) (s_L_about : la_S) (s_L_in : la_S) (s_L_station : la_S) (s_L_stock : la_S) (s_L_windOf : la_S) (s_L_landing : la_S) (s_L_finder : la_S) (s_L_finds : la_S) (s_L_back : la_S) (s_L_gap : la_S) (M : Nat → la_P) (K : Option Value → (Nat → aS) → Prop) : la_P := la_ci (nI 0) (M 230)
def bL_kept_230 (mc : Nat) (s_L_about : la_S) (s_L_in : la_S) (s_L_station : la_S) (s_L_stock : la_S) (s_L_windOf : la_S) (s_L_landing : la_S) (s_L_finder : la_S) (s_L_finds : la_S) (s_L_back : la_S) (s_L_gap : la_S) (M : Nat → la_P) (K : Option Value → (Nat → aS) → Prop) : la_P := la_ist 11 (la_ci (nI 0) (la_ist 15 (M 235)))
def bL_kept_235 (mc : Nat) (s_L_about : la_S) (s_L_in : la_S) (s_L_station : la_S) (s_L_stock : la_S) (s_L_windOf : la_S) (s_L_landing : la_S) (s_L_finder : la_S) (s_L_finds : la_S) (s_L_back : la_S) (s_L_gap : la_S) (M : Nat → la_P) (K : Option Value → (Nat → aS) → Prop) : la_P := la_ild 15 (la_ci (nI 4) (la_if2 (fun x y => y ≤ x) (M 319) (la_ild 11 (la_if1 (fun x => x = 0) (M 319) (la_ald 0 (la_ild 12 (la_ci (nI 0) (la_cN mc 1 3 s_L_station (la_ald 0 (la_ild 15 (la_cN mc 1 2 s_L_windOf (la_cl (100) (la_l2 (fun x y => x - y) (la_ald 0 (la_ild 12 (la_ci (nI 2) (la_cN mc 1 3 s_L_station (la_l2 (fun x y => x * y) (la_l2 (fun x y => x + y) (la_lst 16 (la_ald 0 (la_ild 12 (la_ild 15 (la_cN mc 1 3 s_L_landing (la_lld 16 (la_cl (lN 0) (la_cl (99) (la_cN mc 0 3 s_L_in (la_if1 (fun x => x = 0) (la_cl (-1) (M 302)) (la_lld 16 (M 302)))))))))))))))))))))))))))))))
def bL_kept_302 (mc : Nat) (s_L_about : la_S) (s_L_in : la_S) (s_L_station : la_S) (s_L_stock : la_S) (s_L_windOf : la_S) (s_L_landing : la_S) (s_L_finder : la_S) (s_L_finds : la_S) (s_L_back : la_S) (s_L_gap : la_S) (M : Nat → la_P) (K : Option Value → (Nat → aS) → Prop) : la_P := la_lcmp (la_if1 (fun x => ¬ x = 0) (la_ci (nI 0) (M 311)) (la_ci (nI 1) (M 311)))
def bL_kept_311 (mc : Nat) (s_L_about : la_S) (s_L_in : la_S) (s_L_station : la_S) (s_L_stock : la_S) (s_L_windOf : la_S) (s_L_landing : la_S) (s_L_finder : la_S) (s_L_finds : la_S) (s_L_back : la_S) (s_L_gap : la_S) (M : Nat → la_P) (K : Option Value → (Nat → aS) → Prop) : la_P := la_ist 11 (la_inc 15 (nI 1) (M 235))
def bL_kept_319 (mc : Nat) (s_L_about : la_S) (s_L_in : la_S) (s_L_station : la_S) (s_L_stock : la_S) (s_L_windOf : la_S) (s_L_landing : la_S) (s_L_finder : la_S) (s_L_finds : la_S) (s_L_back : la_S) (s_L_gap : la_S) (M : Nat → la_P) (K : Option Value → (Nat → aS) → Prop) : la_P := la_inc 12 (nI 1) (M 59)
def bL_kept_325 (mc : Nat) (s_L_about : la_S) (s_L_in : la_S) (s_L_station : la_S) (s_L_stock : la_S) (s_L_windOf : la_S) (s_L_landing : la_S) (s_L_finder : la_S) (s_L_finds : la_S) (s_L_back : la_S) (s_L_gap : la_S) (M : Nat → la_P) (K : Option Value → (Nat → aS) → Prop) : la_P := la_ci (nI 0) (la_ist 12 (M 328))
def bL_kept_328 (mc : Nat) (s_L_about : la_S) (s_L_in : la_S) (s_L_station : la_S) (s_L_stock : la_S) (s_L_windOf : la_S) (s_L_landing : la_S) (s_L_finder : la_S) (s_L_finds : la_S) (s_L_back : la_S) (s_L_gap : la_S) (M : Nat → la_P) (K : Option Value → (Nat → aS) → Prop) : la_P := la_ild 12 (la_ild 2 (la_if2 (fun x y => y ≤ x) (M 447) (la_ild 11 (la_if1 (fun x => x = 0) (M 447) (la_lld 9 (la_ald 0 (la_ild 12 (la_ci (nI 3) (la_cN mc 1 3 s_L_finder (la_l2 (fun x y => x + y) (la_lst 9 (la_ald 0 (la_ild 12 (la_ci (nI 4) (la_cN mc 1 3 s_L_finder (la_l2i (la_ist 13 (la_ald 0 (la_ild 12 (la_ci (nI 0) (la_cN mc 1 3 s_L_finder (la_l2i (la_ist 14 (la_ald 0 (la_ild 14 (la_cN mc 1 2 s_L_finds (la_l2i (la_ist 15 (la_ild 1 (la_if1 (fun x => ¬ x = 0) (la_ild 13 (la_i2l (la_cl (lN 0) (la_ild 1 (la_ci (nI 1) (la_b2 (fun x y => x - y) (la_i2l (la_cN mc 0 3 s_L_in (la_if1 (fun x => x = 0) (M 438) (M 407)))))))))) (la_ild 13 (la_ci (-1) (la_if2 (fun x y => ¬ x = y) (M 438) (M 407))))))))))))))))))))))))))))))))))
def bL_kept_407 (mc : Nat) (s_L_about : la_S) (s_L_in : la_S) (s_L_station : la_S) (s_L_stock : la_S) (s_L_windOf : la_S) (s_L_landing : la_S) (s_L_finder : la_S) (s_L_finds : la_S) (s_L_back : la_S) (s_L_gap : la_S) (M : Nat → la_P) (K : Option Value → (Nat → aS) → Prop) : la_P := la_ild 15 (la_ci (-1) (la_if2 (fun x y => x = y) (M 438) (la_ald 0 (la_ild 15 (la_ci (nI 0) (la_cN mc 1 3 s_L_finder (la_ild 14 (la_i2l (la_lcmp (la_if1 (fun x => ¬ x = 0) (M 438) (la_ild 15 (la_ild 12 (la_if2 (fun x y => y < x) (M 438) (la_ci (nI 1) (M 439)))))))))))))))
def bL_kept_438 (mc : Nat) (s_L_about : la_S) (s_L_in : la_S) (s_L_station : la_S) (s_L_stock : la_S) (s_L_windOf : la_S) (s_L_landing : la_S) (s_L_finder : la_S) (s_L_finds : la_S) (s_L_back : la_S) (s_L_gap : la_S) (M : Nat → la_P) (K : Option Value → (Nat → aS) → Prop) : la_P := la_ci (nI 0) (M 439)
def bL_kept_439 (mc : Nat) (s_L_about : la_S) (s_L_in : la_S) (s_L_station : la_S) (s_L_stock : la_S) (s_L_windOf : la_S) (s_L_landing : la_S) (s_L_finder : la_S) (s_L_finds : la_S) (s_L_back : la_S) (s_L_gap : la_S) (M : Nat → la_P) (K : Option Value → (Nat → aS) → Prop) : la_P := la_ist 11 (la_inc 12 (nI 1) (M 328))
def bL_kept_447 (mc : Nat) (s_L_about : la_S) (s_L_in : la_S) (s_L_station : la_S) (s_L_stock : la_S) (s_L_windOf : la_S) (s_L_landing : la_S) (s_L_finder : la_S) (s_L_finds : la_S) (s_L_back : la_S) (s_L_gap : la_S) (M : Nat → la_P) (K : Option Value → (Nat → aS) → Prop) : la_P := la_ald 0 (la_ci (nI 2) (la_cN mc 1 2 s_L_about (la_lst 12 (la_ci (nI 0) (la_ist 14 (M 457))))))
def bL_kept_457 (mc : Nat) (s_L_about : la_S) (s_L_in : la_S) (s_L_station : la_S) (s_L_stock : la_S) (s_L_windOf : la_S) (s_L_landing : la_S) (s_L_finder : la_S) (s_L_finds : la_S) (s_L_back : la_S) (s_L_gap : la_S) (M : Nat → la_P) (K : Option Value → (Nat → aS) → Prop) : la_P := la_ild 14 (la_i2l (la_ald 0 (la_ci (nI 9) (la_cN mc 1 2 s_L_about (la_lcmp (la_if1 (fun x => 0 ≤ x) (M 544) (la_ild 11 (la_if1 (fun x => x = 0) (M 544) (la_ald 0 (la_ild 14 (la_ci (nI 0) (la_cN mc 1 3 s_L_back (la_lst 15 (la_lld 15 (la_lld 12 (la_lcmp (la_if1 (fun x => x < 0) (M 531) (la_ald 0 (la_ild 14 (la_ci (nI 1) (la_cN mc 1 3 s_L_back (la_cl (lN 0) (la_ild 1 (la_ci (nI 1) (la_b2 (fun x y => x - y) (la_i2l (la_cN mc 0 3 s_L_in (la_if1 (fun x => x = 0) (M 531) (la_ald 0 (la_ild 14 (la_ci (nI 2) (la_cN mc 1 3 s_L_back (la_cl (lN 1) (la_cl (4) (la_cN mc 0 3 s_L_in (la_if1 (fun x => x = 0) (M 531) (la_ci (nI 1) (M 532))))))))))))))))))))))))))))))))))))))
def bL_kept_531 (mc : Nat) (s_L_about : la_S) (s_L_in : la_S) (s_L_station : la_S) (s_L_stock : la_S) (s_L_windOf : la_S) (s_L_landing : la_S) (s_L_finder : la_S) (s_L_finds : la_S) (s_L_back : la_S) (s_L_gap : la_S) (M : Nat → la_P) (K : Option Value → (Nat → aS) → Prop) : la_P := la_ci (nI 0) (M 532)
def bL_kept_532 (mc : Nat) (s_L_about : la_S) (s_L_in : la_S) (s_L_station : la_S) (s_L_stock : la_S) (s_L_windOf : la_S) (s_L_landing : la_S) (s_L_finder : la_S) (s_L_finds : la_S) (s_L_back : la_S) (s_L_gap : la_S) (M : Nat → la_P) (K : Option Value → (Nat → aS) → Prop) : la_P := la_ist 11 (la_lld 15 (la_lst 12 (la_inc 14 (nI 1) (M 457))))
def bL_kept_544 (mc : Nat) (s_L_about : la_S) (s_L_in : la_S) (s_L_station : la_S) (s_L_stock : la_S) (s_L_windOf : la_S) (s_L_landing : la_S) (s_L_finder : la_S) (s_L_finds : la_S) (s_L_back : la_S) (s_L_gap : la_S) (M : Nat → la_P) (K : Option Value → (Nat → aS) → Prop) : la_P := la_ild 11 (la_if1 (fun x => x = 0) (M 700) (la_lld 3 (la_ald 0 (la_ci (nI 4) (la_cN mc 1 2 s_L_about (la_lcmp (la_if1 (fun x => ¬ x = 0) (M 700) (la_lld 5 (la_ald 0 (la_ci (nI 5) (la_cN mc 1 2 s_L_about (la_lcmp (la_if1 (fun x => ¬ x = 0) (M 700) (la_lld 7 (la_ald 0 (la_ci (nI 11) (la_cN mc 1 2 s_L_about (la_lcmp (la_if1 (fun x => ¬ x = 0) (M 700) (la_lld 9 (la_ald 0 (la_ci (nI 7) (la_cN mc 1 2 s_L_about (la_ald 0 (la_ci (nI 8) (la_cN mc 1 2 s_L_about (la_l2 (fun x y => x + y) (la_ald 0 (la_ci (nI 9) (la_cN mc 1 2 s_L_about (la_l2 (fun x y => x + y) (la_lcmp (la_if1 (fun x => ¬ x = 0) (M 700) (la_lld 3 (la_lld 9 (la_ald 0 (la_ci (nI 6) (la_cN mc 1 2 s_L_about (la_l2 (fun x y => x + y) (la_lcmp (la_if1 (fun x => ¬ x = 0) (M 700) (la_ald 0 (la_ald 0 (la_ci (nI 9) (la_cN mc 1 2 s_L_about (la_l2i (la_ci (nI 0) (la_cN mc 1 3 s_L_back (la_cl (-1) (la_lcmp (la_if1 (fun x => ¬ x = 0) (M 700) (M 641))))))))))))))))))))))))))))))))))))))))))))))))))))
def bL_kept_641 (mc : Nat) (s_L_about : la_S) (s_L_in : la_S) (s_L_station : la_S) (s_L_stock : la_S) (s_L_windOf : la_S) (s_L_landing : la_S) (s_L_finder : la_S) (s_L_finds : la_S) (s_L_back : la_S) (s_L_gap : la_S) (M : Nat → la_P) (K : Option Value → (Nat → aS) → Prop) : la_P := la_ald 0 (la_ci (nI 0) (la_ci (nI 0) (la_cN mc 1 3 s_L_gap (la_cl (-1) (la_lcmp (la_if1 (fun x => ¬ x = 0) (la_ci (nI 0) (M 659)) (la_ci (nI 1) (M 659))))))))
def bL_kept_659 (mc : Nat) (s_L_about : la_S) (s_L_in : la_S) (s_L_station : la_S) (s_L_stock : la_S) (s_L_windOf : la_S) (s_L_landing : la_S) (s_L_finder : la_S) (s_L_finds : la_S) (s_L_back : la_S) (s_L_gap : la_S) (M : Nat → la_P) (K : Option Value → (Nat → aS) → Prop) : la_P := la_lld 5 (la_cl (lN 0) (la_lcmp (la_if1 (fun x => ¬ x = 0) (la_ci (nI 0) (M 671)) (la_ci (nI 1) (M 671)))))
def bL_kept_671 (mc : Nat) (s_L_about : la_S) (s_L_in : la_S) (s_L_station : la_S) (s_L_stock : la_S) (s_L_windOf : la_S) (s_L_landing : la_S) (s_L_finder : la_S) (s_L_finds : la_S) (s_L_back : la_S) (s_L_gap : la_S) (M : Nat → la_P) (K : Option Value → (Nat → aS) → Prop) : la_P := la_if2 (fun x y => ¬ x = y) (M 700) (la_lld 5 (la_cl (lN 1) (la_lcmp (la_if1 (fun x => x < 0) (M 696) (la_ald 0 (la_ci (nI 0) (la_ci (nI 0) (la_cN mc 1 3 s_L_gap (la_ald 0 (la_ci (nI 2) (la_cN mc 1 2 s_L_about (la_lcmp (la_if1 (fun x => 0 ≤ x) (M 700) (M 696))))))))))))))
def bL_kept_696 (mc : Nat) (s_L_about : la_S) (s_L_in : la_S) (s_L_station : la_S) (s_L_stock : la_S) (s_L_windOf : la_S) (s_L_landing : la_S) (s_L_finder : la_S) (s_L_finds : la_S) (s_L_back : la_S) (s_L_gap : la_S) (M : Nat → la_P) (K : Option Value → (Nat → aS) → Prop) : la_P := la_ci (nI 1) (M 701)
def bL_kept_700 (mc : Nat) (s_L_about : la_S) (s_L_in : la_S) (s_L_station : la_S) (s_L_stock : la_S) (s_L_windOf : la_S) (s_L_landing : la_S) (s_L_finder : la_S) (s_L_finds : la_S) (s_L_back : la_S) (s_L_gap : la_S) (M : Nat → la_P) (K : Option Value → (Nat → aS) → Prop) : la_P := la_ci (nI 0) (M 701)
def bL_kept_701 (mc : Nat) (s_L_about : la_S) (s_L_in : la_S) (s_L_station : la_S) (s_L_stock : la_S) (s_L_windOf : la_S) (s_L_landing : la_S) (s_L_finder : la_S) (s_L_finds : la_S) (s_L_back : la_S) (s_L_gap : la_S) (M : Nat → la_P) (K : Option Value → (Nat → aS) → Prop) : la_P := la_zr mc K
set_option maxRecDepth 40000 in
set_option maxHeartbeats 8000000 in
theorem vc_L_kept {l : Launch} (hl : l.stackTraces = false) {Y : lW} (hw : lWo Y) {A : Nat → aS} {As : List Value} {K : Option Value → (Nat → aS) → Prop} {s_L_about : la_S} (ok_L_about : la_Ok l yL_about (Cond.codeWith yL_about cL_about 3 (some .long) [(0, 6, 7, 15)]) 7 (30 * 7) 1 s_L_about) {s_L_in : la_S} (ok_L_in : la_Ok l yL_in (Cond.code yL_in cL_in 6 (some .boolean)) 1 (30 * 1) 0 s_L_in) {s_L_station : la_S} (ok_L_station : la_Ok l yL_station (Cond.codeWith yL_station cL_station 4 (some .long) [(0, 7, 8, 34), (0, 7, 13, 15)]) 8 (30 * 8) 1 s_L_station) {s_L_stock : la_S} (ok_L_stock : la_Ok l yL_stock (Cond.codeWith yL_stock cL_stock 4 (some .long) [(0, 7, 8, 34), (0, 7, 13, 15)]) 8 (30 * 8) 1 s_L_stock) {s_L_windOf : la_S} (ok_L_windOf : la_Ok l yL_windOf (Cond.codeWith yL_windOf cL_windOf 3 (some .long) [(0, 6, 7, 15)]) 8 (30 * 8) 1 s_L_windOf) {s_L_landing : la_S} (ok_L_landing : la_Ok l yL_landing (Cond.codeWith yL_landing cL_landing 4 (some .long) [(0, 7, 8, 34), (0, 7, 13, 15)]) 8 (30 * 8) 1 s_L_landing) {s_L_finder : la_S} (ok_L_finder : la_Ok l yL_finder (Cond.codeWith yL_finder cL_finder 4 (some .long) [(0, 7, 8, 34), (0, 7, 13, 15)]) 7 (30 * 7) 1 s_L_finder) {s_L_finds : la_S} (ok_L_finds : la_Ok l yL_finds (Cond.codeWith yL_finds cL_finds 3 (some .long) [(0, 6, 7, 15)]) 8 (30 * 8) 1 s_L_finds) {s_L_back : la_S} (ok_L_back : la_Ok l yL_back (Cond.codeWith yL_back cL_back 4 (some .long) [(0, 7, 8, 15)]) 8 (30 * 8) 1 s_L_back) {s_L_gap : la_S} (ok_L_gap : la_Ok l yL_gap (Cond.codeWith yL_gap cL_gap 4 (some .long) [(0, 7, 8, 15)]) 8 (30 * 8) 1 s_L_gap) (hlen : (ab_xl As).length ≤ 18) (h : ∀ M : Nat → la_P, (∀ L st X, bL_kept_0 2000 s_L_about s_L_in s_L_station s_L_stock s_L_windOf s_L_landing s_L_finder s_L_finds s_L_back s_L_gap M K L st X → M 0 L st X) → (∀ L st X, bL_kept_53 2000 s_L_about s_L_in s_L_station s_L_stock s_L_windOf s_L_landing s_L_finder s_L_finds s_L_back s_L_gap M K L st X → M 53 L st X) → (∀ L st X, bL_kept_54 2000 s_L_about s_L_in s_L_station s_L_stock s_L_windOf s_L_landing s_L_finder s_L_finds s_L_back s_L_gap M K L st X → M 54 L st X) → (∀ L st X, bL_kept_59 2000 s_L_about s_L_in s_L_station s_L_stock s_L_windOf s_L_landing s_L_finder s_L_finds s_L_back s_L_gap M K L st X → M 59 L st X) → (∀ L st X, bL_kept_76 2000 s_L_about s_L_in s_L_station s_L_stock s_L_windOf s_L_landing s_L_finder s_L_finds s_L_back s_L_gap M K L st X → M 76 L st X) → (∀ L st X, bL_kept_174 2000 s_L_about s_L_in s_L_station s_L_stock s_L_windOf s_L_landing s_L_finder s_L_finds s_L_back s_L_gap M K L st X → M 174 L st X) → (∀ L st X, bL_kept_192 2000 s_L_about s_L_in s_L_station s_L_stock s_L_windOf s_L_landing s_L_finder s_L_finds s_L_back s_L_gap M K L st X → M 192 L st X) → (∀ L st X, bL_kept_222 2000 s_L_about s_L_in s_L_station s_L_stock s_L_windOf s_L_landing s_L_finder s_L_finds s_L_back s_L_gap M K L st X → M 222 L st X) → (∀ L st X, bL_kept_229 2000 s_L_about s_L_in s_L_station s_L_stock s_L_windOf s_L_landing s_L_finder s_L_finds s_L_back s_L_gap M K L st X → M 229 L st X) → (∀ L st X, bL_kept_230 2000 s_L_about s_L_in s_L_station s_L_stock s_L_windOf s_L_landing s_L_finder s_L_finds s_L_back s_L_gap M K L st X → M 230 L st X) → (∀ L st X, bL_kept_235 2000 s_L_about s_L_in s_L_station s_L_stock s_L_windOf s_L_landing s_L_finder s_L_finds s_L_back s_L_gap M K L st X → M 235 L st X) → (∀ L st X, bL_kept_302 2000 s_L_about s_L_in s_L_station s_L_stock s_L_windOf s_L_landing s_L_finder s_L_finds s_L_back s_L_gap M K L st X → M 302 L st X) → (∀ L st X, bL_kept_311 2000 s_L_about s_L_in s_L_station s_L_stock s_L_windOf s_L_landing s_L_finder s_L_finds s_L_back s_L_gap M K L st X → M 311 L st X) → (∀ L st X, bL_kept_319 2000 s_L_about s_L_in s_L_station s_L_stock s_L_windOf s_L_landing s_L_finder s_L_finds s_L_back s_L_gap M K L st X → M 319 L st X) → (∀ L st X, bL_kept_325 2000 s_L_about s_L_in s_L_station s_L_stock s_L_windOf s_L_landing s_L_finder s_L_finds s_L_back s_L_gap M K L st X → M 325 L st X) → (∀ L st X, bL_kept_328 2000 s_L_about s_L_in s_L_station s_L_stock s_L_windOf s_L_landing s_L_finder s_L_finds s_L_back s_L_gap M K L st X → M 328 L st X) → (∀ L st X, bL_kept_407 2000 s_L_about s_L_in s_L_station s_L_stock s_L_windOf s_L_landing s_L_finder s_L_finds s_L_back s_L_gap M K L st X → M 407 L st X) → (∀ L st X, bL_kept_438 2000 s_L_about s_L_in s_L_station s_L_stock s_L_windOf s_L_landing s_L_finder s_L_finds s_L_back s_L_gap M K L st X → M 438 L st X) → (∀ L st X, bL_kept_439 2000 s_L_about s_L_in s_L_station s_L_stock s_L_windOf s_L_landing s_L_finder s_L_finds s_L_back s_L_gap M K L st X → M 439 L st X) → (∀ L st X, bL_kept_447 2000 s_L_about s_L_in s_L_station s_L_stock s_L_windOf s_L_landing s_L_finder s_L_finds s_L_back s_L_gap M K L st X → M 447 L st X) → (∀ L st X, bL_kept_457 2000 s_L_about s_L_in s_L_station s_L_stock s_L_windOf s_L_landing s_L_finder s_L_finds s_L_back s_L_gap M K L st X → M 457 L st X) → (∀ L st X, bL_kept_531 2000 s_L_about s_L_in s_L_station s_L_stock s_L_windOf s_L_landing s_L_finder s_L_finds s_L_back s_L_gap M K L st X → M 531 L st X) → (∀ L st X, bL_kept_532 2000 s_L_about s_L_in s_L_station s_L_stock s_L_windOf s_L_landing s_L_finder s_L_finds s_L_back s_L_gap M K L st X → M 532 L st X) → (∀ L st X, bL_kept_544 2000 s_L_about s_L_in s_L_station s_L_stock s_L_windOf s_L_landing s_L_finder s_L_finds s_L_back s_L_gap M K L st X → M 544 L st X) → (∀ L st X, bL_kept_641 2000 s_L_about s_L_in s_L_station s_L_stock s_L_windOf s_L_landing s_L_finder s_L_finds s_L_back s_L_gap M K L st X → M 641 L st X) → (∀ L st X, bL_kept_659 2000 s_L_about s_L_in s_L_station s_L_stock s_L_windOf s_L_landing s_L_finder s_L_finds s_L_back s_L_gap M K L st X → M 659 L st X) → (∀ L st X, bL_kept_671 2000 s_L_about s_L_in s_L_station s_L_stock s_L_windOf s_L_landing s_L_finder s_L_finds s_L_back s_L_gap M K L st X → M 671 L st X) → (∀ L st X, bL_kept_696 2000 s_L_about s_L_in s_L_station s_L_stock s_L_windOf s_L_landing s_L_finder s_L_finds s_L_back s_L_gap M K L st X → M 696 L st X) → (∀ L st X, bL_kept_700 2000 s_L_about s_L_in s_L_station s_L_stock s_L_windOf s_L_landing s_L_finder s_L_finds s_L_back s_L_gap M K L st X → M 700 L st X) → (∀ L st X, bL_kept_701 2000 s_L_about s_L_in s_L_station s_L_stock s_L_windOf s_L_landing s_L_finder s_L_finds s_L_back s_L_gap M K L st X → M 701 L st X) → M 0 (ab_pd 18 (ab_xl As)) [] (A, 0)) : la_Met l yL_kept (Cond.code yL_kept cL_kept 18 (some .boolean)) 9 (30 * 9) 2000 Y A As K := by
  refine la_enter (by decide) hl hw hlen ?_
  intro p e R s m args below meth c C hr
  exact h _ (sl_aload_n C (i := 0) dL_kept_0 rfl (sl_iconst C (x := nI 0) dL_kept_1 (by decide +kernel) (sl_cW C ok_L_about ⟨by decide, by decide, wu_654, wu_0, by decide +kernel⟩ wu_652 wu_653 dL_kept_2 (sl_l2i C dL_kept_5 (sl_istore_n C (i := 1) dL_kept_6 rfl (by decide) (sl_aload_n C (i := 0) dL_kept_7 rfl (sl_iconst C (x := nI 1) dL_kept_8 (by decide +kernel) (sl_cW C ok_L_about ⟨by decide, by decide, wu_654, wu_0, by decide +kernel⟩ wu_652 wu_653 dL_kept_9 (sl_l2i C dL_kept_12 (sl_istore_n C (i := 2) dL_kept_13 rfl (by decide) (sl_lconst C (x := lN 0) dL_kept_14 (by decide +kernel) (sl_lstore_n C (i := 3) dL_kept_15 rfl (by decide) (sl_lconst C (x := lN 0) dL_kept_16 (by decide +kernel) (sl_lstore C dL_kept_17 (by decide) (sl_lconst C (x := lN 0) dL_kept_19 (by decide +kernel) (sl_lstore C dL_kept_20 (by decide) (sl_lconst C (x := lN 0) dL_kept_22 (by decide +kernel) (sl_lstore C dL_kept_23 (by decide) (sl_iload_n C (i := 1) dL_kept_25 rfl (sl_i2l C dL_kept_26 (sl_lconst C (x := lN 0) dL_kept_27 (by decide +kernel) (sl_ldc2 C (x := 5) dL_kept_28 wu_975 (sl_cN C ok_L_in ⟨by decide, by decide, wu_978, wu_0, by decide +kernel⟩ wu_976 wu_977 dL_kept_31 (sl_if_eq C dL_kept_34 (tgt := 53) (by decide) (fun _ _ _ h => h) (sl_iload_n C (i := 2) dL_kept_37 rfl (sl_i2l C dL_kept_38 (sl_lconst C (x := lN 0) dL_kept_39 (by decide +kernel) (sl_ldc2 C (x := 6) dL_kept_40 wu_979 (sl_cN C ok_L_in ⟨by decide, by decide, wu_978, wu_0, by decide +kernel⟩ wu_976 wu_977 dL_kept_43 (sl_if_eq C dL_kept_46 (tgt := 53) (by decide) (fun _ _ _ h => h) (sl_iconst C (x := nI 1) dL_kept_49 (by decide +kernel) (sl_goto C dL_kept_50 (tgt := 54) (by decide) (fun _ _ _ h => h)))))))))))))))))))))))))))))))))
    (sl_iconst C (x := nI 0) dL_kept_53 (by decide +kernel) (fun _ _ _ h => h))
    (sl_istore C dL_kept_54 (by decide) (sl_iconst C (x := nI 0) dL_kept_56 (by decide +kernel) (sl_istore C dL_kept_57 (by decide) (fun _ _ _ h => h))))
    (sl_iload C dL_kept_59 (sl_iload_n C (i := 1) dL_kept_61 rfl (sl_icmp_ge C dL_kept_62 (tgt := 325) (by decide) (fun _ _ _ h => h) (sl_iload C dL_kept_65 (sl_if_eq C dL_kept_67 (tgt := 325) (by decide) (fun _ _ _ h => h) (sl_lconst C (x := lN 0) dL_kept_70 (by decide +kernel) (sl_lstore C dL_kept_71 (by decide) (sl_iconst C (x := nI 0) dL_kept_73 (by decide +kernel) (sl_istore C dL_kept_74 (by decide) (fun _ _ _ h => h))))))))))
    (sl_iload C dL_kept_76 (sl_iconst C (x := nI 5) dL_kept_78 (by decide +kernel) (sl_icmp_ge C dL_kept_79 (tgt := 101) (by decide) (sl_lload_n C (i := 3) dL_kept_101 rfl (sl_aload_n C (i := 0) dL_kept_102 rfl (sl_iload C dL_kept_103 (sl_iconst C (x := nI 5) dL_kept_105 (by decide +kernel) (sl_cW C ok_L_station ⟨by decide, by decide, wu_705, wu_0, by decide +kernel⟩ wu_703 wu_704 dL_kept_106 (sl_ladd C dL_kept_109 (sl_lstore_n C (i := 3) dL_kept_110 rfl (by decide) (sl_lload C dL_kept_111 (sl_aload_n C (i := 0) dL_kept_113 rfl (sl_iload C dL_kept_114 (sl_bipush C (x := nI 6) dL_kept_116 (by decide +kernel) (sl_cW C ok_L_station ⟨by decide, by decide, wu_705, wu_0, by decide +kernel⟩ wu_703 wu_704 dL_kept_118 (sl_ladd C dL_kept_121 (sl_lstore C dL_kept_122 (by decide) (sl_lload C dL_kept_124 (sl_lload C dL_kept_126 (sl_ladd C dL_kept_128 (sl_lstore C dL_kept_129 (by decide) (sl_lload C dL_kept_131 (sl_aload_n C (i := 0) dL_kept_133 rfl (sl_iload C dL_kept_134 (sl_iconst C (x := nI 4) dL_kept_136 (by decide +kernel) (sl_cW C ok_L_station ⟨by decide, by decide, wu_705, wu_0, by decide +kernel⟩ wu_703 wu_704 dL_kept_137 (sl_lcmp C dL_kept_140 (sl_if_ne C dL_kept_141 (tgt := 229) (by decide) (fun _ _ _ h => h) (sl_aload_n C (i := 0) dL_kept_144 rfl (sl_iload C dL_kept_145 (sl_iconst C (x := nI 3) dL_kept_147 (by decide +kernel) (sl_cW C ok_L_station ⟨by decide, by decide, wu_705, wu_0, by decide +kernel⟩ wu_703 wu_704 dL_kept_148 (sl_lconst C (x := lN 0) dL_kept_151 (by decide +kernel) (sl_lcmp C dL_kept_152 (sl_if_lt C dL_kept_153 (tgt := 229) (by decide) (fun _ _ _ h => h) (sl_aload_n C (i := 0) dL_kept_156 rfl (sl_iload C dL_kept_157 (sl_bipush C (x := nI 7) dL_kept_159 (by decide +kernel) (sl_cW C ok_L_station ⟨by decide, by decide, wu_705, wu_0, by decide +kernel⟩ wu_703 wu_704 dL_kept_161 (sl_lconst C (x := lN 0) dL_kept_164 (by decide +kernel) (sl_ldc2 C (x := 3) dL_kept_165 wu_980 (sl_cN C ok_L_in ⟨by decide, by decide, wu_978, wu_0, by decide +kernel⟩ wu_976 wu_977 dL_kept_168 (sl_if_eq C dL_kept_171 (tgt := 229) (by decide) (fun _ _ _ h => h) (fun _ _ _ h => h))))))))))))))))))))))))))))))))))))))))) (sl_lload C dL_kept_82 (sl_aload_n C (i := 0) dL_kept_84 rfl (sl_iload C dL_kept_85 (sl_iload C dL_kept_87 (sl_cW C ok_L_stock ⟨by decide, by decide, wu_726, wu_0, by decide +kernel⟩ wu_724 wu_725 dL_kept_89 (sl_ladd C dL_kept_92 (sl_lstore C dL_kept_93 (by decide) (sl_iinc C (x := nI 1) dL_kept_95 (by decide +kernel) (by decide) (sl_goto C dL_kept_98 (tgt := 76) (by decide) (fun _ _ _ h => h)))))))))))))
    (sl_aload_n C (i := 0) dL_kept_174 rfl (sl_iload C dL_kept_175 (sl_bipush C (x := nI 7) dL_kept_177 (by decide +kernel) (sl_cW C ok_L_station ⟨by decide, by decide, wu_705, wu_0, by decide +kernel⟩ wu_703 wu_704 dL_kept_179 (sl_lconst C (x := lN 0) dL_kept_182 (by decide +kernel) (sl_lcmp C dL_kept_183 (sl_if_ne C dL_kept_184 (tgt := 191) (by decide) (sl_iconst C (x := nI 0) dL_kept_191 (by decide +kernel) (fun _ _ _ h => h)) (sl_iconst C (x := nI 1) dL_kept_187 (by decide +kernel) (sl_goto C dL_kept_188 (tgt := 192) (by decide) (fun _ _ _ h => h))))))))))
    (sl_aload_n C (i := 0) dL_kept_192 rfl (sl_iload C dL_kept_193 (sl_iconst C (x := nI 1) dL_kept_195 (by decide +kernel) (sl_cW C ok_L_station ⟨by decide, by decide, wu_705, wu_0, by decide +kernel⟩ wu_703 wu_704 dL_kept_196 (sl_aload_n C (i := 0) dL_kept_199 rfl (sl_iconst C (x := nI 2) dL_kept_200 (by decide +kernel) (sl_cW C ok_L_about ⟨by decide, by decide, wu_654, wu_0, by decide +kernel⟩ wu_652 wu_653 dL_kept_201 (sl_ldc2 C (x := 4) dL_kept_204 wu_981 (sl_lrem C dL_kept_207 (sl_l2i C dL_kept_208 (sl_lshr C dL_kept_209 (sl_lconst C (x := lN 1) dL_kept_210 (by decide +kernel) (sl_land C dL_kept_211 (sl_lconst C (x := lN 0) dL_kept_212 (by decide +kernel) (sl_lcmp C dL_kept_213 (sl_if_ne C dL_kept_214 (tgt := 221) (by decide) (sl_iconst C (x := nI 0) dL_kept_221 (by decide +kernel) (fun _ _ _ h => h)) (sl_iconst C (x := nI 1) dL_kept_217 (by decide +kernel) (sl_goto C dL_kept_218 (tgt := 222) (by decide) (fun _ _ _ h => h)))))))))))))))))))
    (sl_icmp_ne C dL_kept_222 (tgt := 229) (by decide) (fun _ _ _ h => h) (sl_iconst C (x := nI 1) dL_kept_225 (by decide +kernel) (sl_goto C dL_kept_226 (tgt := 230) (by decide) (fun _ _ _ h => h))))
    (sl_iconst C (x := nI 0) dL_kept_229 (by decide +kernel) (fun _ _ _ h => h))
    (sl_istore C dL_kept_230 (by decide) (sl_iconst C (x := nI 0) dL_kept_232 (by decide +kernel) (sl_istore C dL_kept_233 (by decide) (fun _ _ _ h => h))))
    (sl_iload C dL_kept_235 (sl_iconst C (x := nI 4) dL_kept_237 (by decide +kernel) (sl_icmp_ge C dL_kept_238 (tgt := 319) (by decide) (fun _ _ _ h => h) (sl_iload C dL_kept_241 (sl_if_eq C dL_kept_243 (tgt := 319) (by decide) (fun _ _ _ h => h) (sl_aload_n C (i := 0) dL_kept_246 rfl (sl_iload C dL_kept_247 (sl_iconst C (x := nI 0) dL_kept_249 (by decide +kernel) (sl_cW C ok_L_station ⟨by decide, by decide, wu_705, wu_0, by decide +kernel⟩ wu_703 wu_704 dL_kept_250 (sl_aload_n C (i := 0) dL_kept_253 rfl (sl_iload C dL_kept_254 (sl_cW C ok_L_windOf ⟨by decide, by decide, wu_698, wu_0, by decide +kernel⟩ wu_696 wu_697 dL_kept_256 (sl_ldc2 C (x := 100) dL_kept_259 wu_982 (sl_lsub C dL_kept_262 (sl_aload_n C (i := 0) dL_kept_263 rfl (sl_iload C dL_kept_264 (sl_iconst C (x := nI 2) dL_kept_266 (by decide +kernel) (sl_cW C ok_L_station ⟨by decide, by decide, wu_705, wu_0, by decide +kernel⟩ wu_703 wu_704 dL_kept_267 (sl_lmul C dL_kept_270 (sl_ladd C dL_kept_271 (sl_lstore C dL_kept_272 (by decide) (sl_aload_n C (i := 0) dL_kept_274 rfl (sl_iload C dL_kept_275 (sl_iload C dL_kept_277 (sl_cW C ok_L_landing ⟨by decide, by decide, wu_882, wu_0, by decide +kernel⟩ wu_880 wu_881 dL_kept_279 (sl_lload C dL_kept_282 (sl_lconst C (x := lN 0) dL_kept_284 (by decide +kernel) (sl_ldc2 C (x := 99) dL_kept_285 wu_983 (sl_cN C ok_L_in ⟨by decide, by decide, wu_978, wu_0, by decide +kernel⟩ wu_976 wu_977 dL_kept_288 (sl_if_eq C dL_kept_291 (tgt := 299) (by decide) (sl_ldc2 C (x := -1) dL_kept_299 wu_984 (fun _ _ _ h => h)) (sl_lload C dL_kept_294 (sl_goto C dL_kept_296 (tgt := 302) (by decide) (fun _ _ _ h => h)))))))))))))))))))))))))))))))))
    (sl_lcmp C dL_kept_302 (sl_if_ne C dL_kept_303 (tgt := 310) (by decide) (sl_iconst C (x := nI 0) dL_kept_310 (by decide +kernel) (fun _ _ _ h => h)) (sl_iconst C (x := nI 1) dL_kept_306 (by decide +kernel) (sl_goto C dL_kept_307 (tgt := 311) (by decide) (fun _ _ _ h => h)))))
    (sl_istore C dL_kept_311 (by decide) (sl_iinc C (x := nI 1) dL_kept_313 (by decide +kernel) (by decide) (sl_goto C dL_kept_316 (tgt := 235) (by decide) (fun _ _ _ h => h))))
    (sl_iinc C (x := nI 1) dL_kept_319 (by decide +kernel) (by decide) (sl_goto C dL_kept_322 (tgt := 59) (by decide) (fun _ _ _ h => h)))
    (sl_iconst C (x := nI 0) dL_kept_325 (by decide +kernel) (sl_istore C dL_kept_326 (by decide) (fun _ _ _ h => h)))
    (sl_iload C dL_kept_328 (sl_iload_n C (i := 2) dL_kept_330 rfl (sl_icmp_ge C dL_kept_331 (tgt := 447) (by decide) (fun _ _ _ h => h) (sl_iload C dL_kept_334 (sl_if_eq C dL_kept_336 (tgt := 447) (by decide) (fun _ _ _ h => h) (sl_lload C dL_kept_339 (sl_aload_n C (i := 0) dL_kept_341 rfl (sl_iload C dL_kept_342 (sl_iconst C (x := nI 3) dL_kept_344 (by decide +kernel) (sl_cW C ok_L_finder ⟨by decide, by decide, wu_737, wu_0, by decide +kernel⟩ wu_735 wu_736 dL_kept_345 (sl_ladd C dL_kept_348 (sl_lstore C dL_kept_349 (by decide) (sl_aload_n C (i := 0) dL_kept_351 rfl (sl_iload C dL_kept_352 (sl_iconst C (x := nI 4) dL_kept_354 (by decide +kernel) (sl_cW C ok_L_finder ⟨by decide, by decide, wu_737, wu_0, by decide +kernel⟩ wu_735 wu_736 dL_kept_355 (sl_l2i C dL_kept_358 (sl_istore C dL_kept_359 (by decide) (sl_aload_n C (i := 0) dL_kept_361 rfl (sl_iload C dL_kept_362 (sl_iconst C (x := nI 0) dL_kept_364 (by decide +kernel) (sl_cW C ok_L_finder ⟨by decide, by decide, wu_737, wu_0, by decide +kernel⟩ wu_735 wu_736 dL_kept_365 (sl_l2i C dL_kept_368 (sl_istore C dL_kept_369 (by decide) (sl_aload_n C (i := 0) dL_kept_371 rfl (sl_iload C dL_kept_372 (sl_cW C ok_L_finds ⟨by decide, by decide, wu_890, wu_0, by decide +kernel⟩ wu_888 wu_889 dL_kept_374 (sl_l2i C dL_kept_377 (sl_istore C dL_kept_378 (by decide) (sl_iload_n C (i := 1) dL_kept_380 rfl (sl_if_ne C dL_kept_381 (tgt := 393) (by decide) (sl_iload C dL_kept_393 (sl_i2l C dL_kept_395 (sl_lconst C (x := lN 0) dL_kept_396 (by decide +kernel) (sl_iload_n C (i := 1) dL_kept_397 rfl (sl_iconst C (x := nI 1) dL_kept_398 (by decide +kernel) (sl_isub C dL_kept_399 (sl_i2l C dL_kept_400 (sl_cN C ok_L_in ⟨by decide, by decide, wu_978, wu_0, by decide +kernel⟩ wu_976 wu_977 dL_kept_401 (sl_if_eq C dL_kept_404 (tgt := 438) (by decide) (fun _ _ _ h => h) (fun _ _ _ h => h)))))))))) (sl_iload C dL_kept_384 (sl_iconst C (x := -1) dL_kept_386 (by decide +kernel) (sl_icmp_ne C dL_kept_387 (tgt := 438) (by decide) (fun _ _ _ h => h) (sl_goto C dL_kept_390 (tgt := 407) (by decide) (fun _ _ _ h => h))))))))))))))))))))))))))))))))))))
    (sl_iload C dL_kept_407 (sl_iconst C (x := -1) dL_kept_409 (by decide +kernel) (sl_icmp_eq C dL_kept_410 (tgt := 438) (by decide) (fun _ _ _ h => h) (sl_aload_n C (i := 0) dL_kept_413 rfl (sl_iload C dL_kept_414 (sl_iconst C (x := nI 0) dL_kept_416 (by decide +kernel) (sl_cW C ok_L_finder ⟨by decide, by decide, wu_737, wu_0, by decide +kernel⟩ wu_735 wu_736 dL_kept_417 (sl_iload C dL_kept_420 (sl_i2l C dL_kept_422 (sl_lcmp C dL_kept_423 (sl_if_ne C dL_kept_424 (tgt := 438) (by decide) (fun _ _ _ h => h) (sl_iload C dL_kept_427 (sl_iload C dL_kept_429 (sl_icmp_gt C dL_kept_431 (tgt := 438) (by decide) (fun _ _ _ h => h) (sl_iconst C (x := nI 1) dL_kept_434 (by decide +kernel) (sl_goto C dL_kept_435 (tgt := 439) (by decide) (fun _ _ _ h => h)))))))))))))))))
    (sl_iconst C (x := nI 0) dL_kept_438 (by decide +kernel) (fun _ _ _ h => h))
    (sl_istore C dL_kept_439 (by decide) (sl_iinc C (x := nI 1) dL_kept_441 (by decide +kernel) (by decide) (sl_goto C dL_kept_444 (tgt := 328) (by decide) (fun _ _ _ h => h))))
    (sl_aload_n C (i := 0) dL_kept_447 rfl (sl_iconst C (x := nI 2) dL_kept_448 (by decide +kernel) (sl_cW C ok_L_about ⟨by decide, by decide, wu_654, wu_0, by decide +kernel⟩ wu_652 wu_653 dL_kept_449 (sl_lstore C dL_kept_452 (by decide) (sl_iconst C (x := nI 0) dL_kept_454 (by decide +kernel) (sl_istore C dL_kept_455 (by decide) (fun _ _ _ h => h)))))))
    (sl_iload C dL_kept_457 (sl_i2l C dL_kept_459 (sl_aload_n C (i := 0) dL_kept_460 rfl (sl_bipush C (x := nI 9) dL_kept_461 (by decide +kernel) (sl_cW C ok_L_about ⟨by decide, by decide, wu_654, wu_0, by decide +kernel⟩ wu_652 wu_653 dL_kept_463 (sl_lcmp C dL_kept_466 (sl_if_ge C dL_kept_467 (tgt := 544) (by decide) (fun _ _ _ h => h) (sl_iload C dL_kept_470 (sl_if_eq C dL_kept_472 (tgt := 544) (by decide) (fun _ _ _ h => h) (sl_aload_n C (i := 0) dL_kept_475 rfl (sl_iload C dL_kept_476 (sl_iconst C (x := nI 0) dL_kept_478 (by decide +kernel) (sl_cW C ok_L_back ⟨by decide, by decide, wu_764, wu_0, by decide +kernel⟩ wu_762 wu_763 dL_kept_479 (sl_lstore C dL_kept_482 (by decide) (sl_lload C dL_kept_484 (sl_lload C dL_kept_486 (sl_lcmp C dL_kept_488 (sl_if_lt C dL_kept_489 (tgt := 531) (by decide) (fun _ _ _ h => h) (sl_aload_n C (i := 0) dL_kept_492 rfl (sl_iload C dL_kept_493 (sl_iconst C (x := nI 1) dL_kept_495 (by decide +kernel) (sl_cW C ok_L_back ⟨by decide, by decide, wu_764, wu_0, by decide +kernel⟩ wu_762 wu_763 dL_kept_496 (sl_lconst C (x := lN 0) dL_kept_499 (by decide +kernel) (sl_iload_n C (i := 1) dL_kept_500 rfl (sl_iconst C (x := nI 1) dL_kept_501 (by decide +kernel) (sl_isub C dL_kept_502 (sl_i2l C dL_kept_503 (sl_cN C ok_L_in ⟨by decide, by decide, wu_978, wu_0, by decide +kernel⟩ wu_976 wu_977 dL_kept_504 (sl_if_eq C dL_kept_507 (tgt := 531) (by decide) (fun _ _ _ h => h) (sl_aload_n C (i := 0) dL_kept_510 rfl (sl_iload C dL_kept_511 (sl_iconst C (x := nI 2) dL_kept_513 (by decide +kernel) (sl_cW C ok_L_back ⟨by decide, by decide, wu_764, wu_0, by decide +kernel⟩ wu_762 wu_763 dL_kept_514 (sl_lconst C (x := lN 1) dL_kept_517 (by decide +kernel) (sl_ldc2 C (x := 4) dL_kept_518 wu_981 (sl_cN C ok_L_in ⟨by decide, by decide, wu_978, wu_0, by decide +kernel⟩ wu_976 wu_977 dL_kept_521 (sl_if_eq C dL_kept_524 (tgt := 531) (by decide) (fun _ _ _ h => h) (sl_iconst C (x := nI 1) dL_kept_527 (by decide +kernel) (sl_goto C dL_kept_528 (tgt := 532) (by decide) (fun _ _ _ h => h))))))))))))))))))))))))))))))))))))))))
    (sl_iconst C (x := nI 0) dL_kept_531 (by decide +kernel) (fun _ _ _ h => h))
    (sl_istore C dL_kept_532 (by decide) (sl_lload C dL_kept_534 (sl_lstore C dL_kept_536 (by decide) (sl_iinc C (x := nI 1) dL_kept_538 (by decide +kernel) (by decide) (sl_goto C dL_kept_541 (tgt := 457) (by decide) (fun _ _ _ h => h))))))
    (sl_iload C dL_kept_544 (sl_if_eq C dL_kept_546 (tgt := 700) (by decide) (fun _ _ _ h => h) (sl_lload_n C (i := 3) dL_kept_549 rfl (sl_aload_n C (i := 0) dL_kept_550 rfl (sl_iconst C (x := nI 4) dL_kept_551 (by decide +kernel) (sl_cW C ok_L_about ⟨by decide, by decide, wu_654, wu_0, by decide +kernel⟩ wu_652 wu_653 dL_kept_552 (sl_lcmp C dL_kept_555 (sl_if_ne C dL_kept_556 (tgt := 700) (by decide) (fun _ _ _ h => h) (sl_lload C dL_kept_559 (sl_aload_n C (i := 0) dL_kept_561 rfl (sl_iconst C (x := nI 5) dL_kept_562 (by decide +kernel) (sl_cW C ok_L_about ⟨by decide, by decide, wu_654, wu_0, by decide +kernel⟩ wu_652 wu_653 dL_kept_563 (sl_lcmp C dL_kept_566 (sl_if_ne C dL_kept_567 (tgt := 700) (by decide) (fun _ _ _ h => h) (sl_lload C dL_kept_570 (sl_aload_n C (i := 0) dL_kept_572 rfl (sl_bipush C (x := nI 11) dL_kept_573 (by decide +kernel) (sl_cW C ok_L_about ⟨by decide, by decide, wu_654, wu_0, by decide +kernel⟩ wu_652 wu_653 dL_kept_575 (sl_lcmp C dL_kept_578 (sl_if_ne C dL_kept_579 (tgt := 700) (by decide) (fun _ _ _ h => h) (sl_lload C dL_kept_582 (sl_aload_n C (i := 0) dL_kept_584 rfl (sl_bipush C (x := nI 7) dL_kept_585 (by decide +kernel) (sl_cW C ok_L_about ⟨by decide, by decide, wu_654, wu_0, by decide +kernel⟩ wu_652 wu_653 dL_kept_587 (sl_aload_n C (i := 0) dL_kept_590 rfl (sl_bipush C (x := nI 8) dL_kept_591 (by decide +kernel) (sl_cW C ok_L_about ⟨by decide, by decide, wu_654, wu_0, by decide +kernel⟩ wu_652 wu_653 dL_kept_593 (sl_ladd C dL_kept_596 (sl_aload_n C (i := 0) dL_kept_597 rfl (sl_bipush C (x := nI 9) dL_kept_598 (by decide +kernel) (sl_cW C ok_L_about ⟨by decide, by decide, wu_654, wu_0, by decide +kernel⟩ wu_652 wu_653 dL_kept_600 (sl_ladd C dL_kept_603 (sl_lcmp C dL_kept_604 (sl_if_ne C dL_kept_605 (tgt := 700) (by decide) (fun _ _ _ h => h) (sl_lload_n C (i := 3) dL_kept_608 rfl (sl_lload C dL_kept_609 (sl_aload_n C (i := 0) dL_kept_611 rfl (sl_bipush C (x := nI 6) dL_kept_612 (by decide +kernel) (sl_cW C ok_L_about ⟨by decide, by decide, wu_654, wu_0, by decide +kernel⟩ wu_652 wu_653 dL_kept_614 (sl_ladd C dL_kept_617 (sl_lcmp C dL_kept_618 (sl_if_ne C dL_kept_619 (tgt := 700) (by decide) (fun _ _ _ h => h) (sl_aload_n C (i := 0) dL_kept_622 rfl (sl_aload_n C (i := 0) dL_kept_623 rfl (sl_bipush C (x := nI 9) dL_kept_624 (by decide +kernel) (sl_cW C ok_L_about ⟨by decide, by decide, wu_654, wu_0, by decide +kernel⟩ wu_652 wu_653 dL_kept_626 (sl_l2i C dL_kept_629 (sl_iconst C (x := nI 0) dL_kept_630 (by decide +kernel) (sl_cW C ok_L_back ⟨by decide, by decide, wu_764, wu_0, by decide +kernel⟩ wu_762 wu_763 dL_kept_631 (sl_ldc2 C (x := -1) dL_kept_634 wu_984 (sl_lcmp C dL_kept_637 (sl_if_ne C dL_kept_638 (tgt := 700) (by decide) (fun _ _ _ h => h) (fun _ _ _ h => h)))))))))))))))))))))))))))))))))))))))))))))))))))))
    (sl_aload_n C (i := 0) dL_kept_641 rfl (sl_iconst C (x := nI 0) dL_kept_642 (by decide +kernel) (sl_iconst C (x := nI 0) dL_kept_643 (by decide +kernel) (sl_cW C ok_L_gap ⟨by decide, by decide, wu_751, wu_0, by decide +kernel⟩ wu_749 wu_750 dL_kept_644 (sl_ldc2 C (x := -1) dL_kept_647 wu_984 (sl_lcmp C dL_kept_650 (sl_if_ne C dL_kept_651 (tgt := 658) (by decide) (sl_iconst C (x := nI 0) dL_kept_658 (by decide +kernel) (fun _ _ _ h => h)) (sl_iconst C (x := nI 1) dL_kept_654 (by decide +kernel) (sl_goto C dL_kept_655 (tgt := 659) (by decide) (fun _ _ _ h => h))))))))))
    (sl_lload C dL_kept_659 (sl_lconst C (x := lN 0) dL_kept_661 (by decide +kernel) (sl_lcmp C dL_kept_662 (sl_if_ne C dL_kept_663 (tgt := 670) (by decide) (sl_iconst C (x := nI 0) dL_kept_670 (by decide +kernel) (fun _ _ _ h => h)) (sl_iconst C (x := nI 1) dL_kept_666 (by decide +kernel) (sl_goto C dL_kept_667 (tgt := 671) (by decide) (fun _ _ _ h => h)))))))
    (sl_icmp_ne C dL_kept_671 (tgt := 700) (by decide) (fun _ _ _ h => h) (sl_lload C dL_kept_674 (sl_lconst C (x := lN 1) dL_kept_676 (by decide +kernel) (sl_lcmp C dL_kept_677 (sl_if_lt C dL_kept_678 (tgt := 696) (by decide) (fun _ _ _ h => h) (sl_aload_n C (i := 0) dL_kept_681 rfl (sl_iconst C (x := nI 0) dL_kept_682 (by decide +kernel) (sl_iconst C (x := nI 0) dL_kept_683 (by decide +kernel) (sl_cW C ok_L_gap ⟨by decide, by decide, wu_751, wu_0, by decide +kernel⟩ wu_749 wu_750 dL_kept_684 (sl_aload_n C (i := 0) dL_kept_687 rfl (sl_iconst C (x := nI 2) dL_kept_688 (by decide +kernel) (sl_cW C ok_L_about ⟨by decide, by decide, wu_654, wu_0, by decide +kernel⟩ wu_652 wu_653 dL_kept_689 (sl_lcmp C dL_kept_692 (sl_if_ge C dL_kept_693 (tgt := 700) (by decide) (fun _ _ _ h => h) (fun _ _ _ h => h)))))))))))))))
    (sl_iconst C (x := nI 1) dL_kept_696 (by decide +kernel) (sl_goto C dL_kept_697 (tgt := 701) (by decide) (fun _ _ _ h => h)))
    (sl_iconst C (x := nI 0) dL_kept_700 (by decide +kernel) (fun _ _ _ h => h))
    (sl_zr C hr dL_kept_701)
