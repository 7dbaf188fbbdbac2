theorem dL_follows_0 : decode cL_follows 0 = .ok (.aload_n 0, 1) := by decide +kernel
theorem dL_follows_1 : decode cL_follows 1 = .ok (.invokestatic 139, 3) := by decide +kernel
theorem dL_follows_4 : decode cL_follows 4 = .ok (.lstore_n 2, 1) := by decide +kernel
theorem dL_follows_5 : decode cL_follows 5 = .ok (.aload_n 0, 1) := by decide +kernel
theorem dL_follows_6 : decode cL_follows 6 = .ok (.iconst 2, 1) := by decide +kernel
theorem dL_follows_7 : decode cL_follows 7 = .ok (.invokestatic 119, 3) := by decide +kernel
theorem dL_follows_10 : decode cL_follows 10 = .ok (.lstore 4, 2) := by decide +kernel
theorem dL_follows_12 : decode cL_follows 12 = .ok (.aload_n 0, 1) := by decide +kernel
theorem dL_follows_13 : decode cL_follows 13 = .ok (.iconst 3, 1) := by decide +kernel
theorem dL_follows_14 : decode cL_follows 14 = .ok (.invokestatic 119, 3) := by decide +kernel
theorem dL_follows_17 : decode cL_follows 17 = .ok (.lstore 6, 2) := by decide +kernel
theorem dL_follows_19 : decode cL_follows 19 = .ok (.aload_n 0, 1) := by decide +kernel
theorem dL_follows_20 : decode cL_follows 20 = .ok (.iconst 4, 1) := by decide +kernel
theorem dL_follows_21 : decode cL_follows 21 = .ok (.invokestatic 119, 3) := by decide +kernel
theorem dL_follows_24 : decode cL_follows 24 = .ok (.lstore 8, 2) := by decide +kernel
theorem dL_follows_26 : decode cL_follows 26 = .ok (.aload_n 0, 1) := by decide +kernel
theorem dL_follows_27 : decode cL_follows 27 = .ok (.iconst 5, 1) := by decide +kernel
theorem dL_follows_28 : decode cL_follows 28 = .ok (.invokestatic 119, 3) := by decide +kernel
theorem dL_follows_31 : decode cL_follows 31 = .ok (.lstore 10, 2) := by decide +kernel
theorem dL_follows_33 : decode cL_follows 33 = .ok (.aload_n 0, 1) := by decide +kernel
theorem dL_follows_34 : decode cL_follows 34 = .ok (.iconst 0, 1) := by decide +kernel
theorem dL_follows_35 : decode cL_follows 35 = .ok (.invokestatic 119, 3) := by decide +kernel
theorem dL_follows_38 : decode cL_follows 38 = .ok (.l2i, 1) := by decide +kernel
theorem dL_follows_39 : decode cL_follows 39 = .ok (.istore 12, 2) := by decide +kernel
theorem dL_follows_41 : decode cL_follows 41 = .ok (.iconst 1, 1) := by decide +kernel
theorem dL_follows_42 : decode cL_follows 42 = .ok (.iload_n 1, 1) := by decide +kernel
theorem dL_follows_43 : decode cL_follows 43 = .ok (.bipush 24, 2) := by decide +kernel
theorem dL_follows_45 : decode cL_follows 45 = .ok (.irem, 1) := by decide +kernel
theorem dL_follows_46 : decode cL_follows 46 = .ok (.iadd, 1) := by decide +kernel
theorem dL_follows_47 : decode cL_follows 47 = .ok (.istore 13, 2) := by decide +kernel
theorem dL_follows_49 : decode cL_follows 49 = .ok (.aload_n 0, 1) := by decide +kernel
theorem dL_follows_50 : decode cL_follows 50 = .ok (.iconst 1, 1) := by decide +kernel
theorem dL_follows_51 : decode cL_follows 51 = .ok (.invokestatic 183, 3) := by decide +kernel
theorem dL_follows_54 : decode cL_follows 54 = .ok (.lload 4, 2) := by decide +kernel
theorem dL_follows_56 : decode cL_follows 56 = .ok (.lcmp, 1) := by decide +kernel
theorem dL_follows_57 : decode cL_follows 57 = .ok (.ifCond .ne 34, 3) := by decide +kernel
theorem dL_follows_60 : decode cL_follows 60 = .ok (.aload_n 0, 1) := by decide +kernel
theorem dL_follows_61 : decode cL_follows 61 = .ok (.iload_n 1, 1) := by decide +kernel
theorem dL_follows_62 : decode cL_follows 62 = .ok (.i2l, 1) := by decide +kernel
theorem dL_follows_63 : decode cL_follows 63 = .ok (.iconst 5, 1) := by decide +kernel
theorem dL_follows_64 : decode cL_follows 64 = .ok (.invokestatic 180, 3) := by decide +kernel
theorem dL_follows_67 : decode cL_follows 67 = .ok (.aload_n 0, 1) := by decide +kernel
theorem dL_follows_68 : decode cL_follows 68 = .ok (.iload_n 1, 1) := by decide +kernel
theorem dL_follows_69 : decode cL_follows 69 = .ok (.i2l, 1) := by decide +kernel
theorem dL_follows_70 : decode cL_follows 70 = .ok (.iconst 5, 1) := by decide +kernel
theorem dL_follows_71 : decode cL_follows 71 = .ok (.invokestatic 180, 3) := by decide +kernel
theorem dL_follows_74 : decode cL_follows 74 = .ok (.lcmp, 1) := by decide +kernel
theorem dL_follows_75 : decode cL_follows 75 = .ok (.ifCond .ne 16, 3) := by decide +kernel
theorem dL_follows_78 : decode cL_follows 78 = .ok (.aload_n 0, 1) := by decide +kernel
theorem dL_follows_79 : decode cL_follows 79 = .ok (.invokestatic 139, 3) := by decide +kernel
theorem dL_follows_82 : decode cL_follows 82 = .ok (.lload_n 2, 1) := by decide +kernel
theorem dL_follows_83 : decode cL_follows 83 = .ok (.lcmp, 1) := by decide +kernel
theorem dL_follows_84 : decode cL_follows 84 = .ok (.ifCond .ne 7, 3) := by decide +kernel
theorem dL_follows_87 : decode cL_follows 87 = .ok (.iconst 1, 1) := by decide +kernel
theorem dL_follows_88 : decode cL_follows 88 = .ok (.goto 4, 3) := by decide +kernel
theorem dL_follows_91 : decode cL_follows 91 = .ok (.iconst 0, 1) := by decide +kernel
theorem dL_follows_92 : decode cL_follows 92 = .ok (.istore 14, 2) := by decide +kernel
theorem dL_follows_94 : decode cL_follows 94 = .ok (.aload_n 0, 1) := by decide +kernel
theorem dL_follows_95 : decode cL_follows 95 = .ok (.iload 13, 2) := by decide +kernel
theorem dL_follows_97 : decode cL_follows 97 = .ok (.iconst 0, 1) := by decide +kernel
theorem dL_follows_98 : decode cL_follows 98 = .ok (.invokestatic 165, 3) := by decide +kernel
theorem dL_follows_101 : decode cL_follows 101 = .ok (.lstore 15, 2) := by decide +kernel
theorem dL_follows_103 : decode cL_follows 103 = .ok (.aload_n 0, 1) := by decide +kernel
theorem dL_follows_104 : decode cL_follows 104 = .ok (.iload 13, 2) := by decide +kernel
theorem dL_follows_106 : decode cL_follows 106 = .ok (.iconst 1, 1) := by decide +kernel
theorem dL_follows_107 : decode cL_follows 107 = .ok (.invokestatic 165, 3) := by decide +kernel
theorem dL_follows_110 : decode cL_follows 110 = .ok (.lstore 17, 2) := by decide +kernel
theorem dL_follows_112 : decode cL_follows 112 = .ok (.aload_n 0, 1) := by decide +kernel
theorem dL_follows_113 : decode cL_follows 113 = .ok (.iload 13, 2) := by decide +kernel
theorem dL_follows_115 : decode cL_follows 115 = .ok (.iconst 2, 1) := by decide +kernel
theorem dL_follows_116 : decode cL_follows 116 = .ok (.invokestatic 165, 3) := by decide +kernel
theorem dL_follows_119 : decode cL_follows 119 = .ok (.lstore 19, 2) := by decide +kernel
theorem dL_follows_121 : decode cL_follows 121 = .ok (.aload_n 0, 1) := by decide +kernel
theorem dL_follows_122 : decode cL_follows 122 = .ok (.iload 13, 2) := by decide +kernel
theorem dL_follows_124 : decode cL_follows 124 = .ok (.iconst 3, 1) := by decide +kernel
theorem dL_follows_125 : decode cL_follows 125 = .ok (.invokestatic 165, 3) := by decide +kernel
theorem dL_follows_128 : decode cL_follows 128 = .ok (.lstore 21, 2) := by decide +kernel
theorem dL_follows_130 : decode cL_follows 130 = .ok (.iload 14, 2) := by decide +kernel
theorem dL_follows_132 : decode cL_follows 132 = .ok (.ifCond .eq 106, 3) := by decide +kernel
theorem dL_follows_135 : decode cL_follows 135 = .ok (.aload_n 0, 1) := by decide +kernel
theorem dL_follows_136 : decode cL_follows 136 = .ok (.iload 13, 2) := by decide +kernel
theorem dL_follows_138 : decode cL_follows 138 = .ok (.invokestatic 157, 3) := by decide +kernel
theorem dL_follows_141 : decode cL_follows 141 = .ok (.lload 15, 2) := by decide +kernel
theorem dL_follows_143 : decode cL_follows 143 = .ok (.lcmp, 1) := by decide +kernel
theorem dL_follows_144 : decode cL_follows 144 = .ok (.ifCond .ne 94, 3) := by decide +kernel
theorem dL_follows_147 : decode cL_follows 147 = .ok (.aload_n 0, 1) := by decide +kernel
theorem dL_follows_148 : decode cL_follows 148 = .ok (.iconst 2, 1) := by decide +kernel
theorem dL_follows_149 : decode cL_follows 149 = .ok (.invokestatic 119, 3) := by decide +kernel
theorem dL_follows_152 : decode cL_follows 152 = .ok (.lload 4, 2) := by decide +kernel
theorem dL_follows_154 : decode cL_follows 154 = .ok (.iload 13, 2) := by decide +kernel
theorem dL_follows_156 : decode cL_follows 156 = .ok (.i2l, 1) := by decide +kernel
theorem dL_follows_157 : decode cL_follows 157 = .ok (.ladd, 1) := by decide +kernel
theorem dL_follows_158 : decode cL_follows 158 = .ok (.lcmp, 1) := by decide +kernel
theorem dL_follows_159 : decode cL_follows 159 = .ok (.ifCond .ne 79, 3) := by decide +kernel
theorem dL_follows_162 : decode cL_follows 162 = .ok (.aload_n 0, 1) := by decide +kernel
theorem dL_follows_163 : decode cL_follows 163 = .ok (.iconst 4, 1) := by decide +kernel
theorem dL_follows_164 : decode cL_follows 164 = .ok (.invokestatic 119, 3) := by decide +kernel
theorem dL_follows_167 : decode cL_follows 167 = .ok (.lload 8, 2) := by decide +kernel
theorem dL_follows_169 : decode cL_follows 169 = .ok (.lload 15, 2) := by decide +kernel
theorem dL_follows_171 : decode cL_follows 171 = .ok (.ladd, 1) := by decide +kernel
theorem dL_follows_172 : decode cL_follows 172 = .ok (.lcmp, 1) := by decide +kernel
theorem dL_follows_173 : decode cL_follows 173 = .ok (.ifCond .ne 65, 3) := by decide +kernel
theorem dL_follows_176 : decode cL_follows 176 = .ok (.aload_n 0, 1) := by decide +kernel
theorem dL_follows_177 : decode cL_follows 177 = .ok (.iconst 5, 1) := by decide +kernel
theorem dL_follows_178 : decode cL_follows 178 = .ok (.invokestatic 119, 3) := by decide +kernel
theorem dL_follows_181 : decode cL_follows 181 = .ok (.lload 10, 2) := by decide +kernel
theorem dL_follows_183 : decode cL_follows 183 = .ok (.lload 17, 2) := by decide +kernel
theorem dL_follows_185 : decode cL_follows 185 = .ok (.ladd, 1) := by decide +kernel
theorem dL_follows_186 : decode cL_follows 186 = .ok (.lcmp, 1) := by decide +kernel
theorem dL_follows_187 : decode cL_follows 187 = .ok (.ifCond .ne 51, 3) := by decide +kernel
theorem dL_follows_190 : decode cL_follows 190 = .ok (.aload_n 0, 1) := by decide +kernel
theorem dL_follows_191 : decode cL_follows 191 = .ok (.iconst 3, 1) := by decide +kernel
theorem dL_follows_192 : decode cL_follows 192 = .ok (.invokestatic 119, 3) := by decide +kernel
theorem dL_follows_195 : decode cL_follows 195 = .ok (.lload 6, 2) := by decide +kernel
theorem dL_follows_197 : decode cL_follows 197 = .ok (.lload 19, 2) := by decide +kernel
theorem dL_follows_199 : decode cL_follows 199 = .ok (.ladd, 1) := by decide +kernel
theorem dL_follows_200 : decode cL_follows 200 = .ok (.lcmp, 1) := by decide +kernel
theorem dL_follows_201 : decode cL_follows 201 = .ok (.ifCond .ne 37, 3) := by decide +kernel
theorem dL_follows_204 : decode cL_follows 204 = .ok (.aload_n 0, 1) := by decide +kernel
theorem dL_follows_205 : decode cL_follows 205 = .ok (.bipush 11, 2) := by decide +kernel
theorem dL_follows_207 : decode cL_follows 207 = .ok (.invokestatic 119, 3) := by decide +kernel
theorem dL_follows_210 : decode cL_follows 210 = .ok (.lload 21, 2) := by decide +kernel
theorem dL_follows_212 : decode cL_follows 212 = .ok (.lcmp, 1) := by decide +kernel
theorem dL_follows_213 : decode cL_follows 213 = .ok (.ifCond .ne 25, 3) := by decide +kernel
theorem dL_follows_216 : decode cL_follows 216 = .ok (.aload_n 0, 1) := by decide +kernel
theorem dL_follows_217 : decode cL_follows 217 = .ok (.invokestatic 207, 3) := by decide +kernel
theorem dL_follows_220 : decode cL_follows 220 = .ok (.lconst 0, 1) := by decide +kernel
theorem dL_follows_221 : decode cL_follows 221 = .ok (.lcmp, 1) := by decide +kernel
theorem dL_follows_222 : decode cL_follows 222 = .ok (.ifCond .lt 16, 3) := by decide +kernel
theorem dL_follows_225 : decode cL_follows 225 = .ok (.aload_n 0, 1) := by decide +kernel
theorem dL_follows_226 : decode cL_follows 226 = .ok (.invokestatic 139, 3) := by decide +kernel
theorem dL_follows_229 : decode cL_follows 229 = .ok (.lload_n 2, 1) := by decide +kernel
theorem dL_follows_230 : decode cL_follows 230 = .ok (.lcmp, 1) := by decide +kernel
theorem dL_follows_231 : decode cL_follows 231 = .ok (.ifCond .ne 7, 3) := by decide +kernel
theorem dL_follows_234 : decode cL_follows 234 = .ok (.iconst 1, 1) := by decide +kernel
theorem dL_follows_235 : decode cL_follows 235 = .ok (.goto 4, 3) := by decide +kernel
theorem dL_follows_238 : decode cL_follows 238 = .ok (.iconst 0, 1) := by decide +kernel
theorem dL_follows_239 : decode cL_follows 239 = .ok (.istore 14, 2) := by decide +kernel
theorem dL_follows_241 : decode cL_follows 241 = .ok (.aload_n 0, 1) := by decide +kernel
theorem dL_follows_242 : decode cL_follows 242 = .ok (.invokevirtual 209, 3) := by decide +kernel
theorem dL_follows_245 : decode cL_follows 245 = .ok (.istore 23, 2) := by decide +kernel
theorem dL_follows_247 : decode cL_follows 247 = .ok (.iload 23, 2) := by decide +kernel
theorem dL_follows_249 : decode cL_follows 249 = .ok (.iconst (-1), 1) := by decide +kernel
theorem dL_follows_250 : decode cL_follows 250 = .ok (.if_icmp .ne 30, 3) := by decide +kernel
theorem dL_follows_253 : decode cL_follows 253 = .ok (.iload 14, 2) := by decide +kernel
theorem dL_follows_255 : decode cL_follows 255 = .ok (.ifCond .eq 19, 3) := by decide +kernel
theorem dL_follows_258 : decode cL_follows 258 = .ok (.aload_n 0, 1) := by decide +kernel
theorem dL_follows_259 : decode cL_follows 259 = .ok (.bipush 60, 2) := by decide +kernel
theorem dL_follows_261 : decode cL_follows 261 = .ok (.iconst 1, 1) := by decide +kernel
theorem dL_follows_262 : decode cL_follows 262 = .ok (.invokestatic 165, 3) := by decide +kernel
theorem dL_follows_265 : decode cL_follows 265 = .ok (.lconst 0, 1) := by decide +kernel
theorem dL_follows_266 : decode cL_follows 266 = .ok (.lcmp, 1) := by decide +kernel
theorem dL_follows_267 : decode cL_follows 267 = .ok (.ifCond .ne 7, 3) := by decide +kernel
theorem dL_follows_270 : decode cL_follows 270 = .ok (.iconst 1, 1) := by decide +kernel
theorem dL_follows_271 : decode cL_follows 271 = .ok (.goto 4, 3) := by decide +kernel
theorem dL_follows_274 : decode cL_follows 274 = .ok (.iconst 0, 1) := by decide +kernel
theorem dL_follows_275 : decode cL_follows 275 = .ok (.istore 14, 2) := by decide +kernel
theorem dL_follows_277 : decode cL_follows 277 = .ok (.goto 68, 3) := by decide +kernel
theorem dL_follows_280 : decode cL_follows 280 = .ok (.iload 23, 2) := by decide +kernel
theorem dL_follows_282 : decode cL_follows 282 = .ok (.i2l, 1) := by decide +kernel
theorem dL_follows_283 : decode cL_follows 283 = .ok (.lload 4, 2) := by decide +kernel
theorem dL_follows_285 : decode cL_follows 285 = .ok (.lsub, 1) := by decide +kernel
theorem dL_follows_286 : decode cL_follows 286 = .ok (.l2i, 1) := by decide +kernel
theorem dL_follows_287 : decode cL_follows 287 = .ok (.istore 24, 2) := by decide +kernel
theorem dL_follows_289 : decode cL_follows 289 = .ok (.iload 14, 2) := by decide +kernel
theorem dL_follows_291 : decode cL_follows 291 = .ok (.ifCond .eq 51, 3) := by decide +kernel
theorem dL_follows_294 : decode cL_follows 294 = .ok (.iload 24, 2) := by decide +kernel
theorem dL_follows_296 : decode cL_follows 296 = .ok (.i2l, 1) := by decide +kernel
theorem dL_follows_297 : decode cL_follows 297 = .ok (.lconst 0, 1) := by decide +kernel
theorem dL_follows_298 : decode cL_follows 298 = .ok (.ldc2_w 212, 3) := by decide +kernel
theorem dL_follows_301 : decode cL_follows 301 = .ok (.invokestatic 191, 3) := by decide +kernel
theorem dL_follows_304 : decode cL_follows 304 = .ok (.ifCond .eq 38, 3) := by decide +kernel
theorem dL_follows_307 : decode cL_follows 307 = .ok (.aload_n 0, 1) := by decide +kernel
theorem dL_follows_308 : decode cL_follows 308 = .ok (.iload 24, 2) := by decide +kernel
theorem dL_follows_310 : decode cL_follows 310 = .ok (.iconst 1, 1) := by decide +kernel
theorem dL_follows_311 : decode cL_follows 311 = .ok (.iadd, 1) := by decide +kernel
theorem dL_follows_312 : decode cL_follows 312 = .ok (.iconst 1, 1) := by decide +kernel
theorem dL_follows_313 : decode cL_follows 313 = .ok (.invokestatic 165, 3) := by decide +kernel
theorem dL_follows_316 : decode cL_follows 316 = .ok (.lconst 0, 1) := by decide +kernel
theorem dL_follows_317 : decode cL_follows 317 = .ok (.lcmp, 1) := by decide +kernel
theorem dL_follows_318 : decode cL_follows 318 = .ok (.ifCond .le 24, 3) := by decide +kernel
theorem dL_follows_321 : decode cL_follows 321 = .ok (.iload 24, 2) := by decide +kernel
theorem dL_follows_323 : decode cL_follows 323 = .ok (.ifCond .eq 15, 3) := by decide +kernel
theorem dL_follows_326 : decode cL_follows 326 = .ok (.aload_n 0, 1) := by decide +kernel
theorem dL_follows_327 : decode cL_follows 327 = .ok (.iload 24, 2) := by decide +kernel
theorem dL_follows_329 : decode cL_follows 329 = .ok (.iconst 1, 1) := by decide +kernel
theorem dL_follows_330 : decode cL_follows 330 = .ok (.invokestatic 165, 3) := by decide +kernel
theorem dL_follows_333 : decode cL_follows 333 = .ok (.lconst 0, 1) := by decide +kernel
theorem dL_follows_334 : decode cL_follows 334 = .ok (.lcmp, 1) := by decide +kernel
theorem dL_follows_335 : decode cL_follows 335 = .ok (.ifCond .ne 7, 3) := by decide +kernel
theorem dL_follows_338 : decode cL_follows 338 = .ok (.iconst 1, 1) := by decide +kernel
theorem dL_follows_339 : decode cL_follows 339 = .ok (.goto 4, 3) := by decide +kernel
theorem dL_follows_342 : decode cL_follows 342 = .ok (.iconst 0, 1) := by decide +kernel
theorem dL_follows_343 : decode cL_follows 343 = .ok (.istore 14, 2) := by decide +kernel
theorem dL_follows_345 : decode cL_follows 345 = .ok (.lconst 0, 1) := by decide +kernel
theorem dL_follows_346 : decode cL_follows 346 = .ok (.lstore 24, 2) := by decide +kernel
theorem dL_follows_348 : decode cL_follows 348 = .ok (.lconst 0, 1) := by decide +kernel
theorem dL_follows_349 : decode cL_follows 349 = .ok (.lstore 26, 2) := by decide +kernel
theorem dL_follows_351 : decode cL_follows 351 = .ok (.iconst 0, 1) := by decide +kernel
theorem dL_follows_352 : decode cL_follows 352 = .ok (.istore 28, 2) := by decide +kernel
theorem dL_follows_354 : decode cL_follows 354 = .ok (.iload 28, 2) := by decide +kernel
theorem dL_follows_356 : decode cL_follows 356 = .ok (.iload 12, 2) := by decide +kernel
theorem dL_follows_358 : decode cL_follows 358 = .ok (.if_icmp .ge 55, 3) := by decide +kernel
theorem dL_follows_361 : decode cL_follows 361 = .ok (.lload 24, 2) := by decide +kernel
theorem dL_follows_363 : decode cL_follows 363 = .ok (.aload_n 0, 1) := by decide +kernel
theorem dL_follows_364 : decode cL_follows 364 = .ok (.iload 28, 2) := by decide +kernel
theorem dL_follows_366 : decode cL_follows 366 = .ok (.bipush 7, 2) := by decide +kernel
theorem dL_follows_368 : decode cL_follows 368 = .ok (.invokestatic 128, 3) := by decide +kernel
theorem dL_follows_371 : decode cL_follows 371 = .ok (.lconst 1, 1) := by decide +kernel
theorem dL_follows_372 : decode cL_follows 372 = .ok (.lcmp, 1) := by decide +kernel
theorem dL_follows_373 : decode cL_follows 373 = .ok (.ifCond .ne 7, 3) := by decide +kernel
theorem dL_follows_376 : decode cL_follows 376 = .ok (.lconst 1, 1) := by decide +kernel
theorem dL_follows_377 : decode cL_follows 377 = .ok (.goto 4, 3) := by decide +kernel
theorem dL_follows_380 : decode cL_follows 380 = .ok (.lconst 0, 1) := by decide +kernel
theorem dL_follows_381 : decode cL_follows 381 = .ok (.ladd, 1) := by decide +kernel
theorem dL_follows_382 : decode cL_follows 382 = .ok (.lstore 24, 2) := by decide +kernel
theorem dL_follows_384 : decode cL_follows 384 = .ok (.lload 26, 2) := by decide +kernel
theorem dL_follows_386 : decode cL_follows 386 = .ok (.aload_n 0, 1) := by decide +kernel
theorem dL_follows_387 : decode cL_follows 387 = .ok (.iload 28, 2) := by decide +kernel
theorem dL_follows_389 : decode cL_follows 389 = .ok (.bipush 7, 2) := by decide +kernel
theorem dL_follows_391 : decode cL_follows 391 = .ok (.invokestatic 128, 3) := by decide +kernel
theorem dL_follows_394 : decode cL_follows 394 = .ok (.lconst 1, 1) := by decide +kernel
theorem dL_follows_395 : decode cL_follows 395 = .ok (.lcmp, 1) := by decide +kernel
theorem dL_follows_396 : decode cL_follows 396 = .ok (.ifCond .le 7, 3) := by decide +kernel
theorem dL_follows_399 : decode cL_follows 399 = .ok (.lconst 1, 1) := by decide +kernel
theorem dL_follows_400 : decode cL_follows 400 = .ok (.goto 4, 3) := by decide +kernel
theorem dL_follows_403 : decode cL_follows 403 = .ok (.lconst 0, 1) := by decide +kernel
theorem dL_follows_404 : decode cL_follows 404 = .ok (.ladd, 1) := by decide +kernel
theorem dL_follows_405 : decode cL_follows 405 = .ok (.lstore 26, 2) := by decide +kernel
theorem dL_follows_407 : decode cL_follows 407 = .ok (.iinc 28 1, 3) := by decide +kernel
theorem dL_follows_410 : decode cL_follows 410 = .ok (.goto (-56), 3) := by decide +kernel
theorem dL_follows_413 : decode cL_follows 413 = .ok (.iload 14, 2) := by decide +kernel
theorem dL_follows_415 : decode cL_follows 415 = .ok (.ifCond .eq 31, 3) := by decide +kernel
theorem dL_follows_418 : decode cL_follows 418 = .ok (.aload_n 0, 1) := by decide +kernel
theorem dL_follows_419 : decode cL_follows 419 = .ok (.iconst 1, 1) := by decide +kernel
theorem dL_follows_420 : decode cL_follows 420 = .ok (.iconst 0, 1) := by decide +kernel
theorem dL_follows_421 : decode cL_follows 421 = .ok (.invokestatic 165, 3) := by decide +kernel
theorem dL_follows_424 : decode cL_follows 424 = .ok (.lload 24, 2) := by decide +kernel
theorem dL_follows_426 : decode cL_follows 426 = .ok (.lcmp, 1) := by decide +kernel
theorem dL_follows_427 : decode cL_follows 427 = .ok (.ifCond .ne 19, 3) := by decide +kernel
theorem dL_follows_430 : decode cL_follows 430 = .ok (.aload_n 0, 1) := by decide +kernel
theorem dL_follows_431 : decode cL_follows 431 = .ok (.iconst 1, 1) := by decide +kernel
theorem dL_follows_432 : decode cL_follows 432 = .ok (.iconst 1, 1) := by decide +kernel
theorem dL_follows_433 : decode cL_follows 433 = .ok (.invokestatic 165, 3) := by decide +kernel
theorem dL_follows_436 : decode cL_follows 436 = .ok (.lload 26, 2) := by decide +kernel
theorem dL_follows_438 : decode cL_follows 438 = .ok (.lcmp, 1) := by decide +kernel
theorem dL_follows_439 : decode cL_follows 439 = .ok (.ifCond .ne 7, 3) := by decide +kernel
theorem dL_follows_442 : decode cL_follows 442 = .ok (.iconst 1, 1) := by decide +kernel
theorem dL_follows_443 : decode cL_follows 443 = .ok (.goto 4, 3) := by decide +kernel
theorem dL_follows_446 : decode cL_follows 446 = .ok (.iconst 0, 1) := by decide +kernel
theorem dL_follows_447 : decode cL_follows 447 = .ok (.istore 14, 2) := by decide +kernel
theorem dL_follows_449 : decode cL_follows 449 = .ok (.iconst 0, 1) := by decide +kernel
theorem dL_follows_450 : decode cL_follows 450 = .ok (.istore 28, 2) := by decide +kernel
theorem dL_follows_452 : decode cL_follows 452 = .ok (.iload 28, 2) := by decide +kernel
theorem dL_follows_454 : decode cL_follows 454 = .ok (.iload 12, 2) := by decide +kernel
theorem dL_follows_456 : decode cL_follows 456 = .ok (.if_icmp .ge 460, 3) := by decide +kernel
theorem dL_follows_459 : decode cL_follows 459 = .ok (.iload 14, 2) := by decide +kernel
theorem dL_follows_461 : decode cL_follows 461 = .ok (.ifCond .eq 455, 3) := by decide +kernel
theorem dL_follows_464 : decode cL_follows 464 = .ok (.aload_n 0, 1) := by decide +kernel
theorem dL_follows_465 : decode cL_follows 465 = .ok (.iload 28, 2) := by decide +kernel
theorem dL_follows_467 : decode cL_follows 467 = .ok (.iload 13, 2) := by decide +kernel
theorem dL_follows_469 : decode cL_follows 469 = .ok (.invokestatic 167, 3) := by decide +kernel
theorem dL_follows_472 : decode cL_follows 472 = .ok (.lstore 29, 2) := by decide +kernel
theorem dL_follows_474 : decode cL_follows 474 = .ok (.iconst 5, 1) := by decide +kernel
theorem dL_follows_475 : decode cL_follows 475 = .ok (.iload_n 1, 1) := by decide +kernel
theorem dL_follows_476 : decode cL_follows 476 = .ok (.sipush 1000, 3) := by decide +kernel
theorem dL_follows_479 : decode cL_follows 479 = .ok (.irem, 1) := by decide +kernel
theorem dL_follows_480 : decode cL_follows 480 = .ok (.iload 28, 2) := by decide +kernel
theorem dL_follows_482 : decode cL_follows 482 = .ok (.iadd, 1) := by decide +kernel
theorem dL_follows_483 : decode cL_follows 483 = .ok (.bipush 40, 2) := by decide +kernel
theorem dL_follows_485 : decode cL_follows 485 = .ok (.irem, 1) := by decide +kernel
theorem dL_follows_486 : decode cL_follows 486 = .ok (.iadd, 1) := by decide +kernel
theorem dL_follows_487 : decode cL_follows 487 = .ok (.istore 31, 2) := by decide +kernel
theorem dL_follows_489 : decode cL_follows 489 = .ok (.aload_n 0, 1) := by decide +kernel
theorem dL_follows_490 : decode cL_follows 490 = .ok (.iload 28, 2) := by decide +kernel
theorem dL_follows_492 : decode cL_follows 492 = .ok (.iload 31, 2) := by decide +kernel
theorem dL_follows_494 : decode cL_follows 494 = .ok (.iconst 0, 1) := by decide +kernel
theorem dL_follows_495 : decode cL_follows 495 = .ok (.iload 13, 2) := by decide +kernel
theorem dL_follows_497 : decode cL_follows 497 = .ok (.invokestatic 169, 3) := by decide +kernel
theorem dL_follows_500 : decode cL_follows 500 = .ok (.lstore 32, 2) := by decide +kernel
theorem dL_follows_502 : decode cL_follows 502 = .ok (.lload 32, 2) := by decide +kernel
theorem dL_follows_504 : decode cL_follows 504 = .ok (.ldc2_w 21, 3) := by decide +kernel
theorem dL_follows_507 : decode cL_follows 507 = .ok (.lcmp, 1) := by decide +kernel
theorem dL_follows_508 : decode cL_follows 508 = .ok (.ifCond .ne 42, 3) := by decide +kernel
theorem dL_follows_511 : decode cL_follows 511 = .ok (.aload_n 0, 1) := by decide +kernel
theorem dL_follows_512 : decode cL_follows 512 = .ok (.bipush 10, 2) := by decide +kernel
theorem dL_follows_514 : decode cL_follows 514 = .ok (.invokestatic 119, 3) := by decide +kernel
theorem dL_follows_517 : decode cL_follows 517 = .ok (.ldc2_w 172, 3) := by decide +kernel
theorem dL_follows_520 : decode cL_follows 520 = .ok (.lcmp, 1) := by decide +kernel
theorem dL_follows_521 : decode cL_follows 521 = .ok (.ifCond .ne 23, 3) := by decide +kernel
theorem dL_follows_524 : decode cL_follows 524 = .ok (.aload_n 0, 1) := by decide +kernel
theorem dL_follows_525 : decode cL_follows 525 = .ok (.iload 28, 2) := by decide +kernel
theorem dL_follows_527 : decode cL_follows 527 = .ok (.iload 31, 2) := by decide +kernel
theorem dL_follows_529 : decode cL_follows 529 = .ok (.iconst 1, 1) := by decide +kernel
theorem dL_follows_530 : decode cL_follows 530 = .ok (.invokestatic 153, 3) := by decide +kernel
theorem dL_follows_533 : decode cL_follows 533 = .ok (.ldc2_w 21, 3) := by decide +kernel
theorem dL_follows_536 : decode cL_follows 536 = .ok (.lcmp, 1) := by decide +kernel
theorem dL_follows_537 : decode cL_follows 537 = .ok (.ifCond .ne 7, 3) := by decide +kernel
theorem dL_follows_540 : decode cL_follows 540 = .ok (.iconst 1, 1) := by decide +kernel
theorem dL_follows_541 : decode cL_follows 541 = .ok (.goto 4, 3) := by decide +kernel
theorem dL_follows_544 : decode cL_follows 544 = .ok (.iconst 0, 1) := by decide +kernel
theorem dL_follows_545 : decode cL_follows 545 = .ok (.istore 14, 2) := by decide +kernel
theorem dL_follows_547 : decode cL_follows 547 = .ok (.goto 88, 3) := by decide +kernel
theorem dL_follows_550 : decode cL_follows 550 = .ok (.aload_n 0, 1) := by decide +kernel
theorem dL_follows_551 : decode cL_follows 551 = .ok (.iload 28, 2) := by decide +kernel
theorem dL_follows_553 : decode cL_follows 553 = .ok (.iload 31, 2) := by decide +kernel
theorem dL_follows_555 : decode cL_follows 555 = .ok (.iconst 0, 1) := by decide +kernel
theorem dL_follows_556 : decode cL_follows 556 = .ok (.invokestatic 153, 3) := by decide +kernel
theorem dL_follows_559 : decode cL_follows 559 = .ok (.iload 31, 2) := by decide +kernel
theorem dL_follows_561 : decode cL_follows 561 = .ok (.i2l, 1) := by decide +kernel
theorem dL_follows_562 : decode cL_follows 562 = .ok (.aload_n 0, 1) := by decide +kernel
theorem dL_follows_563 : decode cL_follows 563 = .ok (.iconst 2, 1) := by decide +kernel
theorem dL_follows_564 : decode cL_follows 564 = .ok (.invokestatic 124, 3) := by decide +kernel
theorem dL_follows_567 : decode cL_follows 567 = .ok (.lmul, 1) := by decide +kernel
theorem dL_follows_568 : decode cL_follows 568 = .ok (.lcmp, 1) := by decide +kernel
theorem dL_follows_569 : decode cL_follows 569 = .ok (.ifCond .ne 63, 3) := by decide +kernel
theorem dL_follows_572 : decode cL_follows 572 = .ok (.aload_n 0, 1) := by decide +kernel
theorem dL_follows_573 : decode cL_follows 573 = .ok (.bipush 10, 2) := by decide +kernel
theorem dL_follows_575 : decode cL_follows 575 = .ok (.invokestatic 119, 3) := by decide +kernel
theorem dL_follows_578 : decode cL_follows 578 = .ok (.lconst 1, 1) := by decide +kernel
theorem dL_follows_579 : decode cL_follows 579 = .ok (.lcmp, 1) := by decide +kernel
theorem dL_follows_580 : decode cL_follows 580 = .ok (.ifCond .lt 52, 3) := by decide +kernel
theorem dL_follows_583 : decode cL_follows 583 = .ok (.aload_n 0, 1) := by decide +kernel
theorem dL_follows_584 : decode cL_follows 584 = .ok (.iload 13, 2) := by decide +kernel
theorem dL_follows_586 : decode cL_follows 586 = .ok (.iconst 1, 1) := by decide +kernel
theorem dL_follows_587 : decode cL_follows 587 = .ok (.invokestatic 165, 3) := by decide +kernel
theorem dL_follows_590 : decode cL_follows 590 = .ok (.lload 32, 2) := by decide +kernel
theorem dL_follows_592 : decode cL_follows 592 = .ok (.lcmp, 1) := by decide +kernel
theorem dL_follows_593 : decode cL_follows 593 = .ok (.ifCond .ne 39, 3) := by decide +kernel
theorem dL_follows_596 : decode cL_follows 596 = .ok (.aload_n 0, 1) := by decide +kernel
theorem dL_follows_597 : decode cL_follows 597 = .ok (.iload 28, 2) := by decide +kernel
theorem dL_follows_599 : decode cL_follows 599 = .ok (.iload 13, 2) := by decide +kernel
theorem dL_follows_601 : decode cL_follows 601 = .ok (.invokestatic 167, 3) := by decide +kernel
theorem dL_follows_604 : decode cL_follows 604 = .ok (.lload 29, 2) := by decide +kernel
theorem dL_follows_606 : decode cL_follows 606 = .ok (.lcmp, 1) := by decide +kernel
theorem dL_follows_607 : decode cL_follows 607 = .ok (.ifCond .gt 25, 3) := by decide +kernel
theorem dL_follows_610 : decode cL_follows 610 = .ok (.aload_n 0, 1) := by decide +kernel
theorem dL_follows_611 : decode cL_follows 611 = .ok (.invokestatic 207, 3) := by decide +kernel
theorem dL_follows_614 : decode cL_follows 614 = .ok (.lconst 0, 1) := by decide +kernel
theorem dL_follows_615 : decode cL_follows 615 = .ok (.lcmp, 1) := by decide +kernel
theorem dL_follows_616 : decode cL_follows 616 = .ok (.ifCond .lt 16, 3) := by decide +kernel
theorem dL_follows_619 : decode cL_follows 619 = .ok (.aload_n 0, 1) := by decide +kernel
theorem dL_follows_620 : decode cL_follows 620 = .ok (.invokestatic 139, 3) := by decide +kernel
theorem dL_follows_623 : decode cL_follows 623 = .ok (.lload_n 2, 1) := by decide +kernel
theorem dL_follows_624 : decode cL_follows 624 = .ok (.lcmp, 1) := by decide +kernel
theorem dL_follows_625 : decode cL_follows 625 = .ok (.ifCond .ne 7, 3) := by decide +kernel
theorem dL_follows_628 : decode cL_follows 628 = .ok (.iconst 1, 1) := by decide +kernel
theorem dL_follows_629 : decode cL_follows 629 = .ok (.goto 4, 3) := by decide +kernel
theorem dL_follows_632 : decode cL_follows 632 = .ok (.iconst 0, 1) := by decide +kernel
theorem dL_follows_633 : decode cL_follows 633 = .ok (.istore 14, 2) := by decide +kernel
theorem dL_follows_635 : decode cL_follows 635 = .ok (.aload_n 0, 1) := by decide +kernel
theorem dL_follows_636 : decode cL_follows 636 = .ok (.iload 28, 2) := by decide +kernel
theorem dL_follows_638 : decode cL_follows 638 = .ok (.iconst 1, 1) := by decide +kernel
theorem dL_follows_639 : decode cL_follows 639 = .ok (.invokestatic 128, 3) := by decide +kernel
theorem dL_follows_642 : decode cL_follows 642 = .ok (.lstore 34, 2) := by decide +kernel
theorem dL_follows_644 : decode cL_follows 644 = .ok (.iload 14, 2) := by decide +kernel
theorem dL_follows_646 : decode cL_follows 646 = .ok (.ifCond .eq 81, 3) := by decide +kernel
theorem dL_follows_649 : decode cL_follows 649 = .ok (.lload 29, 2) := by decide +kernel
theorem dL_follows_651 : decode cL_follows 651 = .ok (.lconst 0, 1) := by decide +kernel
theorem dL_follows_652 : decode cL_follows 652 = .ok (.ldc2_w 189, 3) := by decide +kernel
theorem dL_follows_655 : decode cL_follows 655 = .ok (.iload 13, 2) := by decide +kernel
theorem dL_follows_657 : decode cL_follows 657 = .ok (.i2l, 1) := by decide +kernel
theorem dL_follows_658 : decode cL_follows 658 = .ok (.lmul, 1) := by decide +kernel
theorem dL_follows_659 : decode cL_follows 659 = .ok (.invokestatic 191, 3) := by decide +kernel
theorem dL_follows_662 : decode cL_follows 662 = .ok (.ifCond .eq 65, 3) := by decide +kernel
theorem dL_follows_665 : decode cL_follows 665 = .ok (.aload_n 0, 1) := by decide +kernel
theorem dL_follows_666 : decode cL_follows 666 = .ok (.iload 28, 2) := by decide +kernel
theorem dL_follows_668 : decode cL_follows 668 = .ok (.iconst 0, 1) := by decide +kernel
theorem dL_follows_669 : decode cL_follows 669 = .ok (.iconst 1, 1) := by decide +kernel
theorem dL_follows_670 : decode cL_follows 670 = .ok (.invokestatic 151, 3) := by decide +kernel
theorem dL_follows_673 : decode cL_follows 673 = .ok (.lload 34, 2) := by decide +kernel
theorem dL_follows_675 : decode cL_follows 675 = .ok (.lcmp, 1) := by decide +kernel
theorem dL_follows_676 : decode cL_follows 676 = .ok (.ifCond .ne 51, 3) := by decide +kernel
theorem dL_follows_679 : decode cL_follows 679 = .ok (.aload_n 0, 1) := by decide +kernel
theorem dL_follows_680 : decode cL_follows 680 = .ok (.iload 28, 2) := by decide +kernel
theorem dL_follows_682 : decode cL_follows 682 = .ok (.iload 13, 2) := by decide +kernel
theorem dL_follows_684 : decode cL_follows 684 = .ok (.invokestatic 167, 3) := by decide +kernel
theorem dL_follows_687 : decode cL_follows 687 = .ok (.lconst 0, 1) := by decide +kernel
theorem dL_follows_688 : decode cL_follows 688 = .ok (.lcmp, 1) := by decide +kernel
theorem dL_follows_689 : decode cL_follows 689 = .ok (.ifCond .ne 38, 3) := by decide +kernel
theorem dL_follows_692 : decode cL_follows 692 = .ok (.aload_n 0, 1) := by decide +kernel
theorem dL_follows_693 : decode cL_follows 693 = .ok (.iload 28, 2) := by decide +kernel
theorem dL_follows_695 : decode cL_follows 695 = .ok (.bipush 7, 2) := by decide +kernel
theorem dL_follows_697 : decode cL_follows 697 = .ok (.invokestatic 128, 3) := by decide +kernel
theorem dL_follows_700 : decode cL_follows 700 = .ok (.lconst 0, 1) := by decide +kernel
theorem dL_follows_701 : decode cL_follows 701 = .ok (.lcmp, 1) := by decide +kernel
theorem dL_follows_702 : decode cL_follows 702 = .ok (.ifCond .ne 25, 3) := by decide +kernel
theorem dL_follows_705 : decode cL_follows 705 = .ok (.aload_n 0, 1) := by decide +kernel
theorem dL_follows_706 : decode cL_follows 706 = .ok (.invokestatic 207, 3) := by decide +kernel
theorem dL_follows_709 : decode cL_follows 709 = .ok (.lconst 0, 1) := by decide +kernel
theorem dL_follows_710 : decode cL_follows 710 = .ok (.lcmp, 1) := by decide +kernel
theorem dL_follows_711 : decode cL_follows 711 = .ok (.ifCond .lt 16, 3) := by decide +kernel
theorem dL_follows_714 : decode cL_follows 714 = .ok (.aload_n 0, 1) := by decide +kernel
theorem dL_follows_715 : decode cL_follows 715 = .ok (.invokestatic 139, 3) := by decide +kernel
theorem dL_follows_718 : decode cL_follows 718 = .ok (.lload_n 2, 1) := by decide +kernel
theorem dL_follows_719 : decode cL_follows 719 = .ok (.lcmp, 1) := by decide +kernel
theorem dL_follows_720 : decode cL_follows 720 = .ok (.ifCond .ne 7, 3) := by decide +kernel
theorem dL_follows_723 : decode cL_follows 723 = .ok (.iconst 1, 1) := by decide +kernel
theorem dL_follows_724 : decode cL_follows 724 = .ok (.goto 4, 3) := by decide +kernel
theorem dL_follows_727 : decode cL_follows 727 = .ok (.iconst 0, 1) := by decide +kernel
theorem dL_follows_728 : decode cL_follows 728 = .ok (.istore 14, 2) := by decide +kernel
theorem dL_follows_730 : decode cL_follows 730 = .ok (.iload 28, 2) := by decide +kernel
theorem dL_follows_732 : decode cL_follows 732 = .ok (.iconst 1, 1) := by decide +kernel
theorem dL_follows_733 : decode cL_follows 733 = .ok (.iadd, 1) := by decide +kernel
theorem dL_follows_734 : decode cL_follows 734 = .ok (.iload 12, 2) := by decide +kernel
theorem dL_follows_736 : decode cL_follows 736 = .ok (.irem, 1) := by decide +kernel
theorem dL_follows_737 : decode cL_follows 737 = .ok (.istore 36, 2) := by decide +kernel
theorem dL_follows_739 : decode cL_follows 739 = .ok (.iload 14, 2) := by decide +kernel
theorem dL_follows_741 : decode cL_follows 741 = .ok (.ifCond .eq 169, 3) := by decide +kernel
theorem dL_follows_744 : decode cL_follows 744 = .ok (.iload 36, 2) := by decide +kernel
theorem dL_follows_746 : decode cL_follows 746 = .ok (.iload 28, 2) := by decide +kernel
theorem dL_follows_748 : decode cL_follows 748 = .ok (.if_icmp .eq 162, 3) := by decide +kernel
theorem dL_follows_751 : decode cL_follows 751 = .ok (.aload_n 0, 1) := by decide +kernel
theorem dL_follows_752 : decode cL_follows 752 = .ok (.iload 28, 2) := by decide +kernel
theorem dL_follows_754 : decode cL_follows 754 = .ok (.iconst 4, 1) := by decide +kernel
theorem dL_follows_755 : decode cL_follows 755 = .ok (.invokestatic 128, 3) := by decide +kernel
theorem dL_follows_758 : decode cL_follows 758 = .ok (.lconst 0, 1) := by decide +kernel
theorem dL_follows_759 : decode cL_follows 759 = .ok (.lcmp, 1) := by decide +kernel
theorem dL_follows_760 : decode cL_follows 760 = .ok (.ifCond .le 150, 3) := by decide +kernel
theorem dL_follows_763 : decode cL_follows 763 = .ok (.aload_n 0, 1) := by decide +kernel
theorem dL_follows_764 : decode cL_follows 764 = .ok (.iload 36, 2) := by decide +kernel
theorem dL_follows_766 : decode cL_follows 766 = .ok (.iconst 4, 1) := by decide +kernel
theorem dL_follows_767 : decode cL_follows 767 = .ok (.invokestatic 128, 3) := by decide +kernel
theorem dL_follows_770 : decode cL_follows 770 = .ok (.lstore 37, 2) := by decide +kernel
theorem dL_follows_772 : decode cL_follows 772 = .ok (.aload_n 0, 1) := by decide +kernel
theorem dL_follows_773 : decode cL_follows 773 = .ok (.iload 28, 2) := by decide +kernel
theorem dL_follows_775 : decode cL_follows 775 = .ok (.iload 36, 2) := by decide +kernel
theorem dL_follows_777 : decode cL_follows 777 = .ok (.invokestatic 155, 3) := by decide +kernel
theorem dL_follows_780 : decode cL_follows 780 = .ok (.l2i, 1) := by decide +kernel
theorem dL_follows_781 : decode cL_follows 781 = .ok (.istore 39, 2) := by decide +kernel
theorem dL_follows_783 : decode cL_follows 783 = .ok (.iload 39, 2) := by decide +kernel
theorem dL_follows_785 : decode cL_follows 785 = .ok (.i2l, 1) := by decide +kernel
theorem dL_follows_786 : decode cL_follows 786 = .ok (.lconst 0, 1) := by decide +kernel
theorem dL_follows_787 : decode cL_follows 787 = .ok (.ldc2_w 199, 3) := by decide +kernel
theorem dL_follows_790 : decode cL_follows 790 = .ok (.invokestatic 191, 3) := by decide +kernel
theorem dL_follows_793 : decode cL_follows 793 = .ok (.ifCond .eq 71, 3) := by decide +kernel
theorem dL_follows_796 : decode cL_follows 796 = .ok (.aload_n 0, 1) := by decide +kernel
theorem dL_follows_797 : decode cL_follows 797 = .ok (.iload 36, 2) := by decide +kernel
theorem dL_follows_799 : decode cL_follows 799 = .ok (.iconst 4, 1) := by decide +kernel
theorem dL_follows_800 : decode cL_follows 800 = .ok (.invokestatic 128, 3) := by decide +kernel
theorem dL_follows_803 : decode cL_follows 803 = .ok (.lload 37, 2) := by decide +kernel
theorem dL_follows_805 : decode cL_follows 805 = .ok (.lconst 1, 1) := by decide +kernel
theorem dL_follows_806 : decode cL_follows 806 = .ok (.ladd, 1) := by decide +kernel
theorem dL_follows_807 : decode cL_follows 807 = .ok (.lcmp, 1) := by decide +kernel
theorem dL_follows_808 : decode cL_follows 808 = .ok (.ifCond .ne 56, 3) := by decide +kernel
theorem dL_follows_811 : decode cL_follows 811 = .ok (.aload_n 0, 1) := by decide +kernel
theorem dL_follows_812 : decode cL_follows 812 = .ok (.bipush 11, 2) := by decide +kernel
theorem dL_follows_814 : decode cL_follows 814 = .ok (.invokestatic 119, 3) := by decide +kernel
theorem dL_follows_817 : decode cL_follows 817 = .ok (.aload_n 0, 1) := by decide +kernel
theorem dL_follows_818 : decode cL_follows 818 = .ok (.bipush 9, 2) := by decide +kernel
theorem dL_follows_820 : decode cL_follows 820 = .ok (.invokestatic 119, 3) := by decide +kernel
theorem dL_follows_823 : decode cL_follows 823 = .ok (.ladd, 1) := by decide +kernel
theorem dL_follows_824 : decode cL_follows 824 = .ok (.lconst 1, 1) := by decide +kernel
theorem dL_follows_825 : decode cL_follows 825 = .ok (.lcmp, 1) := by decide +kernel
theorem dL_follows_826 : decode cL_follows 826 = .ok (.ifCond .lt 38, 3) := by decide +kernel
theorem dL_follows_829 : decode cL_follows 829 = .ok (.aload_n 0, 1) := by decide +kernel
theorem dL_follows_830 : decode cL_follows 830 = .ok (.invokestatic 207, 3) := by decide +kernel
theorem dL_follows_833 : decode cL_follows 833 = .ok (.lconst 0, 1) := by decide +kernel
theorem dL_follows_834 : decode cL_follows 834 = .ok (.lcmp, 1) := by decide +kernel
theorem dL_follows_835 : decode cL_follows 835 = .ok (.ifCond .lt 29, 3) := by decide +kernel
theorem dL_follows_838 : decode cL_follows 838 = .ok (.aload_n 0, 1) := by decide +kernel
theorem dL_follows_839 : decode cL_follows 839 = .ok (.iload 28, 2) := by decide +kernel
theorem dL_follows_841 : decode cL_follows 841 = .ok (.iload 39, 2) := by decide +kernel
theorem dL_follows_843 : decode cL_follows 843 = .ok (.invokestatic 131, 3) := by decide +kernel
theorem dL_follows_846 : decode cL_follows 846 = .ok (.lconst 0, 1) := by decide +kernel
theorem dL_follows_847 : decode cL_follows 847 = .ok (.lcmp, 1) := by decide +kernel
theorem dL_follows_848 : decode cL_follows 848 = .ok (.ifCond .le 16, 3) := by decide +kernel
theorem dL_follows_851 : decode cL_follows 851 = .ok (.aload_n 0, 1) := by decide +kernel
theorem dL_follows_852 : decode cL_follows 852 = .ok (.invokestatic 139, 3) := by decide +kernel
theorem dL_follows_855 : decode cL_follows 855 = .ok (.lload_n 2, 1) := by decide +kernel
theorem dL_follows_856 : decode cL_follows 856 = .ok (.lcmp, 1) := by decide +kernel
theorem dL_follows_857 : decode cL_follows 857 = .ok (.ifCond .ne 7, 3) := by decide +kernel
theorem dL_follows_860 : decode cL_follows 860 = .ok (.iconst 1, 1) := by decide +kernel
theorem dL_follows_861 : decode cL_follows 861 = .ok (.goto 4, 3) := by decide +kernel
theorem dL_follows_864 : decode cL_follows 864 = .ok (.iconst 0, 1) := by decide +kernel
theorem dL_follows_865 : decode cL_follows 865 = .ok (.istore 14, 2) := by decide +kernel
theorem dL_follows_867 : decode cL_follows 867 = .ok (.iload 39, 2) := by decide +kernel
theorem dL_follows_869 : decode cL_follows 869 = .ok (.iconst 1, 1) := by decide +kernel
theorem dL_follows_870 : decode cL_follows 870 = .ok (.iadd, 1) := by decide +kernel
theorem dL_follows_871 : decode cL_follows 871 = .ok (.istore 40, 2) := by decide +kernel
theorem dL_follows_873 : decode cL_follows 873 = .ok (.iload 40, 2) := by decide +kernel
theorem dL_follows_875 : decode cL_follows 875 = .ok (.iconst 5, 1) := by decide +kernel
theorem dL_follows_876 : decode cL_follows 876 = .ok (.if_icmp .ge 34, 3) := by decide +kernel
theorem dL_follows_879 : decode cL_follows 879 = .ok (.iload 14, 2) := by decide +kernel
theorem dL_follows_881 : decode cL_follows 881 = .ok (.ifCond .eq 29, 3) := by decide +kernel
theorem dL_follows_884 : decode cL_follows 884 = .ok (.aload_n 0, 1) := by decide +kernel
theorem dL_follows_885 : decode cL_follows 885 = .ok (.iload 28, 2) := by decide +kernel
theorem dL_follows_887 : decode cL_follows 887 = .ok (.iload 40, 2) := by decide +kernel
theorem dL_follows_889 : decode cL_follows 889 = .ok (.invokestatic 131, 3) := by decide +kernel
theorem dL_follows_892 : decode cL_follows 892 = .ok (.lconst 0, 1) := by decide +kernel
theorem dL_follows_893 : decode cL_follows 893 = .ok (.lcmp, 1) := by decide +kernel
theorem dL_follows_894 : decode cL_follows 894 = .ok (.ifCond .ne 7, 3) := by decide +kernel
theorem dL_follows_897 : decode cL_follows 897 = .ok (.iconst 1, 1) := by decide +kernel
theorem dL_follows_898 : decode cL_follows 898 = .ok (.goto 4, 3) := by decide +kernel
theorem dL_follows_901 : decode cL_follows 901 = .ok (.iconst 0, 1) := by decide +kernel
theorem dL_follows_902 : decode cL_follows 902 = .ok (.istore 14, 2) := by decide +kernel
theorem dL_follows_904 : decode cL_follows 904 = .ok (.iinc 40 1, 3) := by decide +kernel
theorem dL_follows_907 : decode cL_follows 907 = .ok (.goto (-34), 3) := by decide +kernel
theorem dL_follows_910 : decode cL_follows 910 = .ok (.iinc 28 1, 3) := by decide +kernel
theorem dL_follows_913 : decode cL_follows 913 = .ok (.goto (-461), 3) := by decide +kernel
theorem dL_follows_916 : decode cL_follows 916 = .ok (.iload 14, 2) := by decide +kernel
theorem dL_follows_918 : decode cL_follows 918 = .ok (.ifCond .eq 38, 3) := by decide +kernel
theorem dL_follows_921 : decode cL_follows 921 = .ok (.aload_n 0, 1) := by decide +kernel
theorem dL_follows_922 : decode cL_follows 922 = .ok (.iconst 1, 1) := by decide +kernel
theorem dL_follows_923 : decode cL_follows 923 = .ok (.invokestatic 185, 3) := by decide +kernel
theorem dL_follows_926 : decode cL_follows 926 = .ok (.lload 4, 2) := by decide +kernel
theorem dL_follows_928 : decode cL_follows 928 = .ok (.lcmp, 1) := by decide +kernel
theorem dL_follows_929 : decode cL_follows 929 = .ok (.ifCond .ne 27, 3) := by decide +kernel
theorem dL_follows_932 : decode cL_follows 932 = .ok (.aload_n 0, 1) := by decide +kernel
theorem dL_follows_933 : decode cL_follows 933 = .ok (.invokestatic 139, 3) := by decide +kernel
theorem dL_follows_936 : decode cL_follows 936 = .ok (.lload_n 2, 1) := by decide +kernel
theorem dL_follows_937 : decode cL_follows 937 = .ok (.lcmp, 1) := by decide +kernel
theorem dL_follows_938 : decode cL_follows 938 = .ok (.ifCond .ne 18, 3) := by decide +kernel
theorem dL_follows_941 : decode cL_follows 941 = .ok (.aload_n 0, 1) := by decide +kernel
theorem dL_follows_942 : decode cL_follows 942 = .ok (.invokestatic 207, 3) := by decide +kernel
theorem dL_follows_945 : decode cL_follows 945 = .ok (.ldc2_w 21, 3) := by decide +kernel
theorem dL_follows_948 : decode cL_follows 948 = .ok (.lcmp, 1) := by decide +kernel
theorem dL_follows_949 : decode cL_follows 949 = .ok (.ifCond .ne 7, 3) := by decide +kernel
theorem dL_follows_952 : decode cL_follows 952 = .ok (.iconst 1, 1) := by decide +kernel
theorem dL_follows_953 : decode cL_follows 953 = .ok (.goto 4, 3) := by decide +kernel
theorem dL_follows_956 : decode cL_follows 956 = .ok (.iconst 0, 1) := by decide +kernel
theorem dL_follows_957 : decode cL_follows 957 = .ok (.ireturn, 1) := by decide +kernel
def bL_follows_0 (mc : Nat) (s_L_now : la_S) (s_L_about : la_S) (s_L_save : la_S) (s_L_simulate : la_S) (s_L_coming : la_S) (s_L_run : la_S) (s_L_undo : la_S) (s_L_in : la_S) (s_L_station : la_S) (s_L_lacks : la_S) (s_L_ifDelivered : la_S) (s_L_deliver : la_S) (s_L_setting : la_S) (s_L_change : la_S) (s_L_move : la_S) (s_L_stock : la_S) (s_L_restore : la_S) (M : Nat → la_P) (K : Option Value → (Nat → aS) → Prop) : la_P := la_ald 0 (la_cN mc 200 1 s_L_now (la_lst 2 (la_ald 0 (la_ci (nI 2) (la_cN mc 1 2 s_L_about (la_lst 4 (la_ald 0 (la_ci (nI 3) (la_cN mc 1 2 s_L_about (la_lst 6 (la_ald 0 (la_ci (nI 4) (la_cN mc 1 2 s_L_about (la_lst 8 (la_ald 0 (la_ci (nI 5) (la_cN mc 1 2 s_L_about (la_lst 10 (la_ald 0 (la_ci (nI 0) (la_cN mc 1 2 s_L_about (la_l2i (la_ist 12 (la_ci (nI 1) (la_ild 1 (la_ci (nI 24) (la_d2 (fun x y => x - x / y * y) (la_b2 (fun x y => x + y) (la_ist 13 (la_ald 0 (la_ci (nI 1) (la_cN mc 1 2 s_L_save (la_lld 4 (la_lcmp (la_if1 (fun x => ¬ x = 0) (M 91) (la_ald 0 (la_ild 1 (la_i2l (la_ci (nI 5) (la_cN mc 1 3 s_L_simulate (la_ald 0 (la_ild 1 (la_i2l (la_ci (nI 5) (la_cN mc 1 3 s_L_simulate (la_lcmp (la_if1 (fun x => ¬ x = 0) (M 91) (M 78))))))))))))))))))))))))))))))))))))))))))))))))
def bL_follows_78 (mc : Nat) (s_L_now : la_S) (s_L_about : la_S) (s_L_save : la_S) (s_L_simulate : la_S) (s_L_coming : la_S) (s_L_run : la_S) (s_L_undo : la_S) (s_L_in : la_S) (s_L_station : la_S) (s_L_lacks : la_S) (s_L_ifDelivered : la_S) (s_L_deliver : la_S) (s_L_setting : la_S) (s_L_change : la_S) (s_L_move : la_S) (s_L_stock : la_S) (s_L_restore : la_S) (M : Nat → la_P) (K : Option Value → (Nat → aS) → Prop) : la_P := la_ald 0 (la_cN mc 200 1 s_L_now (la_lld 2 (la_lcmp (la_if1 (fun x => ¬ x = 0) (M 91) (la_ci (nI 1) (M 92))))))
def bL_follows_91 (mc : Nat) (s_L_now : la_S) (s_L_about : la_S) (s_L_save : la_S) (s_L_simulate : la_S) (s_L_coming : la_S) (s_L_run : la_S) (s_L_undo : la_S) (s_L_in : la_S) (s_L_station : la_S) (s_L_lacks : la_S) (s_L_ifDelivered : la_S) (s_L_deliver : la_S) (s_L_setting : la_S) (s_L_change : la_S) (s_L_move : la_S) (s_L_stock : la_S) (s_L_restore : la_S) (M : Nat → la_P) (K : Option Value → (Nat → aS) → Prop) : la_P := la_ci (nI 0) (M 92)
def bL_follows_92 (mc : Nat) (s_L_now : la_S) (s_L_about : la_S) (s_L_save : la_S) (s_L_simulate : la_S) (s_L_coming : la_S) (s_L_run : la_S) (s_L_undo : la_S) (s_L_in : la_S) (s_L_station : la_S) (s_L_lacks : la_S) (s_L_ifDelivered : la_S) (s_L_deliver : la_S) (s_L_setting : la_S) (s_L_change : la_S) (s_L_move : la_S) (s_L_stock : la_S) (s_L_restore : la_S) (M : Nat → la_P) (K : Option Value → (Nat → aS) → Prop) : la_P := la_ist 14 (la_ald 0 (la_ild 13 (la_ci (nI 0) (la_cN mc 1 3 s_L_coming (la_lst 15 (la_ald 0 (la_ild 13 (la_ci (nI 1) (la_cN mc 1 3 s_L_coming (la_lst 17 (la_ald 0 (la_ild 13 (la_ci (nI 2) (la_cN mc 1 3 s_L_coming (la_lst 19 (la_ald 0 (la_ild 13 (la_ci (nI 3) (la_cN mc 1 3 s_L_coming (la_lst 21 (la_ild 14 (la_if1 (fun x => x = 0) (M 238) (la_ald 0 (la_ild 13 (la_cN mc 1 2 s_L_run (la_lld 15 (la_lcmp (la_if1 (fun x => ¬ x = 0) (M 238) (la_ald 0 (la_ci (nI 2) (la_cN mc 1 2 s_L_about (la_lld 4 (la_ild 13 (la_i2l (la_l2 (fun x y => x + y) (la_lcmp (la_if1 (fun x => ¬ x = 0) (M 238) (la_ald 0 (la_ci (nI 4) (la_cN mc 1 2 s_L_about (la_lld 8 (la_lld 15 (la_l2 (fun x y => x + y) (la_lcmp (la_if1 (fun x => ¬ x = 0) (M 238) (M 176))))))))))))))))))))))))))))))))))))))))))))))
def bL_follows_176 (mc : Nat) (s_L_now : la_S) (s_L_about : la_S) (s_L_save : la_S) (s_L_simulate : la_S) (s_L_coming : la_S) (s_L_run : la_S) (s_L_undo : la_S) (s_L_in : la_S) (s_L_station : la_S) (s_L_lacks : la_S) (s_L_ifDelivered : la_S) (s_L_deliver : la_S) (s_L_setting : la_S) (s_L_change : la_S) (s_L_move : la_S) (s_L_stock : la_S) (s_L_restore : la_S) (M : Nat → la_P) (K : Option Value → (Nat → aS) → Prop) : la_P := la_ald 0 (la_ci (nI 5) (la_cN mc 1 2 s_L_about (la_lld 10 (la_lld 17 (la_l2 (fun x y => x + y) (la_lcmp (la_if1 (fun x => ¬ x = 0) (M 238) (la_ald 0 (la_ci (nI 3) (la_cN mc 1 2 s_L_about (la_lld 6 (la_lld 19 (la_l2 (fun x y => x + y) (la_lcmp (la_if1 (fun x => ¬ x = 0) (M 238) (la_ald 0 (la_ci (nI 11) (la_cN mc 1 2 s_L_about (la_lld 21 (la_lcmp (la_if1 (fun x => ¬ x = 0) (M 238) (la_ald 0 (la_cN mc 1 1 s_L_undo (la_cl (lN 0) (la_lcmp (la_if1 (fun x => x < 0) (M 238) (la_ald 0 (la_cN mc 200 1 s_L_now (la_lld 2 (la_lcmp (la_if1 (fun x => ¬ x = 0) (M 238) (la_ci (nI 1) (M 239)))))))))))))))))))))))))))))))))
def bL_follows_238 (mc : Nat) (s_L_now : la_S) (s_L_about : la_S) (s_L_save : la_S) (s_L_simulate : la_S) (s_L_coming : la_S) (s_L_run : la_S) (s_L_undo : la_S) (s_L_in : la_S) (s_L_station : la_S) (s_L_lacks : la_S) (s_L_ifDelivered : la_S) (s_L_deliver : la_S) (s_L_setting : la_S) (s_L_change : la_S) (s_L_move : la_S) (s_L_stock : la_S) (s_L_restore : la_S) (M : Nat → la_P) (K : Option Value → (Nat → aS) → Prop) : la_P := la_ci (nI 0) (M 239)
def bL_follows_239 (mc : Nat) (s_L_now : la_S) (s_L_about : la_S) (s_L_save : la_S) (s_L_simulate : la_S) (s_L_coming : la_S) (s_L_run : la_S) (s_L_undo : la_S) (s_L_in : la_S) (s_L_station : la_S) (s_L_lacks : la_S) (s_L_ifDelivered : la_S) (s_L_deliver : la_S) (s_L_setting : la_S) (s_L_change : la_S) (s_L_move : la_S) (s_L_stock : la_S) (s_L_restore : la_S) (M : Nat → la_P) (K : Option Value → (Nat → aS) → Prop) : la_P := la_ist 14 (la_ald 0 (la_cV mc c_firstGap (la_ist 23 (la_ild 23 (la_ci (-1) (la_if2 (fun x y => ¬ x = y) (la_ild 23 (la_i2l (la_lld 4 (la_l2 (fun x y => x - y) (la_l2i (la_ist 24 (la_ild 14 (la_if1 (fun x => x = 0) (M 342) (la_ild 24 (la_i2l (la_cl (lN 0) (la_cl (59) (la_cN mc 0 3 s_L_in (la_if1 (fun x => x = 0) (M 342) (la_ald 0 (la_ild 24 (la_ci (nI 1) (la_b2 (fun x y => x + y) (la_ci (nI 1) (la_cN mc 1 3 s_L_coming (la_cl (lN 0) (la_lcmp (la_if1 (fun x => x ≤ 0) (M 342) (la_ild 24 (la_if1 (fun x => x = 0) (M 338) (la_ald 0 (la_ild 24 (la_ci (nI 1) (la_cN mc 1 3 s_L_coming (la_cl (lN 0) (la_lcmp (la_if1 (fun x => ¬ x = 0) (M 342) (M 338))))))))))))))))))))))))))))))))) (la_ild 14 (la_if1 (fun x => x = 0) (M 274) (la_ald 0 (la_ci (nI 60) (la_ci (nI 1) (la_cN mc 1 3 s_L_coming (la_cl (lN 0) (la_lcmp (la_if1 (fun x => ¬ x = 0) (M 274) (la_ci (nI 1) (M 275)))))))))))))))))
def bL_follows_274 (mc : Nat) (s_L_now : la_S) (s_L_about : la_S) (s_L_save : la_S) (s_L_simulate : la_S) (s_L_coming : la_S) (s_L_run : la_S) (s_L_undo : la_S) (s_L_in : la_S) (s_L_station : la_S) (s_L_lacks : la_S) (s_L_ifDelivered : la_S) (s_L_deliver : la_S) (s_L_setting : la_S) (s_L_change : la_S) (s_L_move : la_S) (s_L_stock : la_S) (s_L_restore : la_S) (M : Nat → la_P) (K : Option Value → (Nat → aS) → Prop) : la_P := la_ci (nI 0) (M 275)
def bL_follows_275 (mc : Nat) (s_L_now : la_S) (s_L_about : la_S) (s_L_save : la_S) (s_L_simulate : la_S) (s_L_coming : la_S) (s_L_run : la_S) (s_L_undo : la_S) (s_L_in : la_S) (s_L_station : la_S) (s_L_lacks : la_S) (s_L_ifDelivered : la_S) (s_L_deliver : la_S) (s_L_setting : la_S) (s_L_change : la_S) (s_L_move : la_S) (s_L_stock : la_S) (s_L_restore : la_S) (M : Nat → la_P) (K : Option Value → (Nat → aS) → Prop) : la_P := la_ist 14 (M 345)
def bL_follows_338 (mc : Nat) (s_L_now : la_S) (s_L_about : la_S) (s_L_save : la_S) (s_L_simulate : la_S) (s_L_coming : la_S) (s_L_run : la_S) (s_L_undo : la_S) (s_L_in : la_S) (s_L_station : la_S) (s_L_lacks : la_S) (s_L_ifDelivered : la_S) (s_L_deliver : la_S) (s_L_setting : la_S) (s_L_change : la_S) (s_L_move : la_S) (s_L_stock : la_S) (s_L_restore : la_S) (M : Nat → la_P) (K : Option Value → (Nat → aS) → Prop) : la_P := la_ci (nI 1) (M 343)
def bL_follows_342 (mc : Nat) (s_L_now : la_S) (s_L_about : la_S) (s_L_save : la_S) (s_L_simulate : la_S) (s_L_coming : la_S) (s_L_run : la_S) (s_L_undo : la_S) (s_L_in : la_S) (s_L_station : la_S) (s_L_lacks : la_S) (s_L_ifDelivered : la_S) (s_L_deliver : la_S) (s_L_setting : la_S) (s_L_change : la_S) (s_L_move : la_S) (s_L_stock : la_S) (s_L_restore : la_S) (M : Nat → la_P) (K : Option Value → (Nat → aS) → Prop) : la_P := la_ci (nI 0) (M 343)
def bL_follows_343 (mc : Nat) (s_L_now : la_S) (s_L_about : la_S) (s_L_save : la_S) (s_L_simulate : la_S) (s_L_coming : la_S) (s_L_run : la_S) (s_L_undo : la_S) (s_L_in : la_S) (s_L_station : la_S) (s_L_lacks : la_S) (s_L_ifDelivered : la_S) (s_L_deliver : la_S) (s_L_setting : la_S) (s_L_change : la_S) (s_L_move : la_S) (s_L_stock : la_S) (s_L_restore : la_S) (M : Nat → la_P) (K : Option Value → (Nat → aS) → Prop) : la_P := la_ist 14 (M 345)
def bL_follows_345 (mc : Nat) (s_L_now : la_S) (s_L_about : la_S) (s_L_save : la_S) (s_L_simulate : la_S) (s_L_coming : la_S) (s_L_run : la_S) (s_L_undo : la_S) (s_L_in : la_S) (s_L_station : la_S) (s_L_lacks : la_S) (s_L_ifDelivered : la_S) (s_L_deliver : la_S) (s_L_setting : la_S) (s_L_change : la_S) (s_L_move : la_S) (s_L_stock : la_S) (s_L_restore : la_S) (M : Nat → la_P) (K : Option Value → (Nat → aS) → Prop) : la_P := la_cl (lN 0) (la_lst 24 (la_cl (lN 0) (la_lst 26 (la_ci (nI 0) (la_ist 28 (M 354))))))
def bL_follows_354 (mc : Nat) (s_L_now : la_S) (s_L_about : la_S) (s_L_save : la_S) (s_L_simulate : la_S) (s_L_coming : la_S) (s_L_run : la_S) (s_L_undo : la_S) (s_L_in : la_S) (s_L_station : la_S) (s_L_lacks : la_S) (s_L_ifDelivered : la_S) (s_L_deliver : la_S) (s_L_setting : la_S) (s_L_change : la_S) (s_L_move : la_S) (s_L_stock : la_S) (s_L_restore : la_S) (M : Nat → la_P) (K : Option Value → (Nat → aS) → Prop) : la_P := la_ild 28 (la_ild 12 (la_if2 (fun x y => y ≤ x) (la_ild 14 (la_if1 (fun x => x = 0) (M 446) (la_ald 0 (la_ci (nI 1) (la_ci (nI 0) (la_cN mc 1 3 s_L_coming (la_lld 24 (la_lcmp (la_if1 (fun x => ¬ x = 0) (M 446) (la_ald 0 (la_ci (nI 1) (la_ci (nI 1) (la_cN mc 1 3 s_L_coming (la_lld 26 (la_lcmp (la_if1 (fun x => ¬ x = 0) (M 446) (la_ci (nI 1) (M 447)))))))))))))))))) (la_lld 24 (la_ald 0 (la_ild 28 (la_ci (nI 7) (la_cN mc 1 3 s_L_station (la_cl (lN 1) (la_lcmp (la_if1 (fun x => ¬ x = 0) (la_cl (lN 0) (M 381)) (la_cl (lN 1) (M 381))))))))))))
def bL_follows_381 (mc : Nat) (s_L_now : la_S) (s_L_about : la_S) (s_L_save : la_S) (s_L_simulate : la_S) (s_L_coming : la_S) (s_L_run : la_S) (s_L_undo : la_S) (s_L_in : la_S) (s_L_station : la_S) (s_L_lacks : la_S) (s_L_ifDelivered : la_S) (s_L_deliver : la_S) (s_L_setting : la_S) (s_L_change : la_S) (s_L_move : la_S) (s_L_stock : la_S) (s_L_restore : la_S) (M : Nat → la_P) (K : Option Value → (Nat → aS) → Prop) : la_P := la_l2 (fun x y => x + y) (la_lst 24 (la_lld 26 (la_ald 0 (la_ild 28 (la_ci (nI 7) (la_cN mc 1 3 s_L_station (la_cl (lN 1) (la_lcmp (la_if1 (fun x => x ≤ 0) (la_cl (lN 0) (M 404)) (la_cl (lN 1) (M 404)))))))))))
def bL_follows_404 (mc : Nat) (s_L_now : la_S) (s_L_about : la_S) (s_L_save : la_S) (s_L_simulate : la_S) (s_L_coming : la_S) (s_L_run : la_S) (s_L_undo : la_S) (s_L_in : la_S) (s_L_station : la_S) (s_L_lacks : la_S) (s_L_ifDelivered : la_S) (s_L_deliver : la_S) (s_L_setting : la_S) (s_L_change : la_S) (s_L_move : la_S) (s_L_stock : la_S) (s_L_restore : la_S) (M : Nat → la_P) (K : Option Value → (Nat → aS) → Prop) : la_P := la_l2 (fun x y => x + y) (la_lst 26 (la_inc 28 (nI 1) (M 354)))
def bL_follows_446 (mc : Nat) (s_L_now : la_S) (s_L_about : la_S) (s_L_save : la_S) (s_L_simulate : la_S) (s_L_coming : la_S) (s_L_run : la_S) (s_L_undo : la_S) (s_L_in : la_S) (s_L_station : la_S) (s_L_lacks : la_S) (s_L_ifDelivered : la_S) (s_L_deliver : la_S) (s_L_setting : la_S) (s_L_change : la_S) (s_L_move : la_S) (s_L_stock : la_S) (s_L_restore : la_S) (M : Nat → la_P) (K : Option Value → (Nat → aS) → Prop) : la_P := la_ci (nI 0) (M 447)
def bL_follows_447 (mc : Nat) (s_L_now : la_S) (s_L_about : la_S) (s_L_save : la_S) (s_L_simulate : la_S) (s_L_coming : la_S) (s_L_run : la_S) (s_L_undo : la_S) (s_L_in : la_S) (s_L_station : la_S) (s_L_lacks : la_S) (s_L_ifDelivered : la_S) (s_L_deliver : la_S) (s_L_setting : la_S) (s_L_change : la_S) (s_L_move : la_S) (s_L_stock : la_S) (s_L_restore : la_S) (M : Nat → la_P) (K : Option Value → (Nat → aS) → Prop) : la_P := la_ist 14 (la_ci (nI 0) (la_ist 28 (M 452)))
def bL_follows_452 (mc : Nat) (s_L_now : la_S) (s_L_about : la_S) (s_L_save : la_S) (s_L_simulate : la_S) (s_L_coming : la_S) (s_L_run : la_S) (s_L_undo : la_S) (s_L_in : la_S) (s_L_station : la_S) (s_L_lacks : la_S) (s_L_ifDelivered : la_S) (s_L_deliver : la_S) (s_L_setting : la_S) (s_L_change : la_S) (s_L_move : la_S) (s_L_stock : la_S) (s_L_restore : la_S) (M : Nat → la_P) (K : Option Value → (Nat → aS) → Prop) : la_P := la_ild 28 (la_ild 12 (la_if2 (fun x y => y ≤ x) (M 916) (la_ild 14 (la_if1 (fun x => x = 0) (M 916) (la_ald 0 (la_ild 28 (la_ild 13 (la_cN mc 1 3 s_L_lacks (la_lst 29 (la_ci (nI 5) (la_ild 1 (la_ci (nI 1000) (la_d2 (fun x y => x - x / y * y) (la_ild 28 (la_b2 (fun x y => x + y) (la_ci (nI 40) (la_d2 (fun x y => x - x / y * y) (la_b2 (fun x y => x + y) (la_ist 31 (la_ald 0 (la_ild 28 (la_ild 31 (la_ci (nI 0) (la_ild 13 (la_cN mc 1 5 s_L_ifDelivered (la_lst 32 (la_lld 32 (la_cl (-9000000000000000003) (la_lcmp (la_if1 (fun x => ¬ x = 0) (la_ald 0 (la_ild 28 (la_ild 31 (la_ci (nI 0) (la_cN mc 1 4 s_L_deliver (la_ild 31 (la_i2l (la_ald 0 (la_ci (nI 2) (la_cN mc 1 2 s_L_setting (la_l2 (fun x y => x * y) (la_lcmp (la_if1 (fun x => ¬ x = 0) (M 632) (la_ald 0 (la_ci (nI 10) (la_cN mc 1 2 s_L_about (la_cl (lN 1) (la_lcmp (la_if1 (fun x => x < 0) (M 632) (la_ald 0 (la_ild 13 (la_ci (nI 1) (la_cN mc 1 3 s_L_coming (la_lld 32 (la_lcmp (la_if1 (fun x => ¬ x = 0) (M 632) (la_ald 0 (la_ild 28 (la_ild 13 (la_cN mc 1 3 s_L_lacks (la_lld 29 (la_lcmp (la_if1 (fun x => 0 < x) (M 632) (la_ald 0 (la_cN mc 1 1 s_L_undo (la_cl (lN 0) (la_lcmp (la_if1 (fun x => x < 0) (M 632) (la_ald 0 (la_cN mc 200 1 s_L_now (la_lld 2 (la_lcmp (la_if1 (fun x => ¬ x = 0) (M 632) (la_ci (nI 1) (M 633))))))))))))))))))))))))))))))))))))))))))))) (la_ald 0 (la_ci (nI 10) (la_cN mc 1 2 s_L_about (la_cl (8) (la_lcmp (la_if1 (fun x => ¬ x = 0) (M 544) (la_ald 0 (la_ild 28 (la_ild 31 (la_ci (nI 1) (la_cN mc 1 4 s_L_deliver (la_cl (-9000000000000000003) (la_lcmp (la_if1 (fun x => ¬ x = 0) (M 544) (la_ci (nI 1) (M 545))))))))))))))))))))))))))))))))))))))))))))))
def bL_follows_544 (mc : Nat) (s_L_now : la_S) (s_L_about : la_S) (s_L_save : la_S) (s_L_simulate : la_S) (s_L_coming : la_S) (s_L_run : la_S) (s_L_undo : la_S) (s_L_in : la_S) (s_L_station : la_S) (s_L_lacks : la_S) (s_L_ifDelivered : la_S) (s_L_deliver : la_S) (s_L_setting : la_S) (s_L_change : la_S) (s_L_move : la_S) (s_L_stock : la_S) (s_L_restore : la_S) (M : Nat → la_P) (K : Option Value → (Nat → aS) → Prop) : la_P := la_ci (nI 0) (M 545)
def bL_follows_545 (mc : Nat) (s_L_now : la_S) (s_L_about : la_S) (s_L_save : la_S) (s_L_simulate : la_S) (s_L_coming : la_S) (s_L_run : la_S) (s_L_undo : la_S) (s_L_in : la_S) (s_L_station : la_S) (s_L_lacks : la_S) (s_L_ifDelivered : la_S) (s_L_deliver : la_S) (s_L_setting : la_S) (s_L_change : la_S) (s_L_move : la_S) (s_L_stock : la_S) (s_L_restore : la_S) (M : Nat → la_P) (K : Option Value → (Nat → aS) → Prop) : la_P := la_ist 14 (M 635)
def bL_follows_632 (mc : Nat) (s_L_now : la_S) (s_L_about : la_S) (s_L_save : la_S) (s_L_simulate : la_S) (s_L_coming : la_S) (s_L_run : la_S) (s_L_undo : la_S) (s_L_in : la_S) (s_L_station : la_S) (s_L_lacks : la_S) (s_L_ifDelivered : la_S) (s_L_deliver : la_S) (s_L_setting : la_S) (s_L_change : la_S) (s_L_move : la_S) (s_L_stock : la_S) (s_L_restore : la_S) (M : Nat → la_P) (K : Option Value → (Nat → aS) → Prop) : la_P := la_ci (nI 0) (M 633)
def bL_follows_633 (mc : Nat) (s_L_now : la_S) (s_L_about : la_S) (s_L_save : la_S) (s_L_simulate : la_S) (s_L_coming : la_S) (s_L_run : la_S) (s_L_undo : la_S) (s_L_in : la_S) (s_L_station : la_S) (s_L_lacks : la_S) (s_L_ifDelivered : la_S) (s_L_deliver : la_S) (s_L_setting : la_S) (s_L_change : la_S) (s_L_move : la_S) (s_L_stock : la_S) (s_L_restore : la_S) (M : Nat → la_P) (K : Option Value → (Nat → aS) → Prop) : la_P := la_ist 14 (M 635)
def bL_follows_635 (mc : Nat) (s_L_now : la_S) (s_L_about : la_S) (s_L_save : la_S) (s_L_simulate : la_S) (s_L_coming : la_S) (s_L_run : la_S) (s_L_undo : la_S) (s_L_in : la_S) (s_L_station : la_S) (s_L_lacks : la_S) (s_L_ifDelivered : la_S) (s_L_deliver : la_S) (s_L_setting : la_S) (s_L_change : la_S) (s_L_move : la_S) (s_L_stock : la_S) (s_L_restore : la_S) (M : Nat → la_P) (K : Option Value → (Nat → aS) → Prop) : la_P := la_ald 0 (la_ild 28 (la_ci (nI 1) (la_cN mc 1 3 s_L_station (la_lst 34 (la_ild 14 (la_if1 (fun x => x = 0) (M 727) (la_lld 29 (la_cl (lN 0) (la_cl (5) (la_ild 13 (la_i2l (la_l2 (fun x y => x * y) (la_cN mc 0 3 s_L_in (la_if1 (fun x => x = 0) (M 727) (la_ald 0 (la_ild 28 (la_ci (nI 0) (la_ci (nI 1) (la_cN mc 1 4 s_L_change (la_lld 34 (la_lcmp (la_if1 (fun x => ¬ x = 0) (M 727) (la_ald 0 (la_ild 28 (la_ild 13 (la_cN mc 1 3 s_L_lacks (la_cl (lN 0) (la_lcmp (la_if1 (fun x => ¬ x = 0) (M 727) (la_ald 0 (la_ild 28 (la_ci (nI 7) (la_cN mc 1 3 s_L_station (la_cl (lN 0) (la_lcmp (la_if1 (fun x => ¬ x = 0) (M 727) (la_ald 0 (la_cN mc 1 1 s_L_undo (la_cl (lN 0) (la_lcmp (la_if1 (fun x => x < 0) (M 727) (la_ald 0 (la_cN mc 200 1 s_L_now (la_lld 2 (la_lcmp (la_if1 (fun x => ¬ x = 0) (M 727) (M 723)))))))))))))))))))))))))))))))))))))))))))))))
def bL_follows_723 (mc : Nat) (s_L_now : la_S) (s_L_about : la_S) (s_L_save : la_S) (s_L_simulate : la_S) (s_L_coming : la_S) (s_L_run : la_S) (s_L_undo : la_S) (s_L_in : la_S) (s_L_station : la_S) (s_L_lacks : la_S) (s_L_ifDelivered : la_S) (s_L_deliver : la_S) (s_L_setting : la_S) (s_L_change : la_S) (s_L_move : la_S) (s_L_stock : la_S) (s_L_restore : la_S) (M : Nat → la_P) (K : Option Value → (Nat → aS) → Prop) : la_P := la_ci (nI 1) (M 728)
def bL_follows_727 (mc : Nat) (s_L_now : la_S) (s_L_about : la_S) (s_L_save : la_S) (s_L_simulate : la_S) (s_L_coming : la_S) (s_L_run : la_S) (s_L_undo : la_S) (s_L_in : la_S) (s_L_station : la_S) (s_L_lacks : la_S) (s_L_ifDelivered : la_S) (s_L_deliver : la_S) (s_L_setting : la_S) (s_L_change : la_S) (s_L_move : la_S) (s_L_stock : la_S) (s_L_restore : la_S) (M : Nat → la_P) (K : Option Value → (Nat → aS) → Prop) : la_P := la_ci (nI 0) (M 728)
def bL_follows_728 (mc : Nat) (s_L_now : la_S) (s_L_about : la_S) (s_L_save : la_S) (s_L_simulate : la_S) (s_L_coming : la_S) (s_L_run : la_S) (s_L_undo : la_S) (s_L_in : la_S) (s_L_station : la_S) (s_L_lacks : la_S) (s_L_ifDelivered : la_S) (s_L_deliver : la_S) (s_L_setting : la_S) (s_L_change : la_S) (s_L_move : la_S) (s_L_stock : la_S) (s_L_restore : la_S) (M : Nat → la_P) (K : Option Value → (Nat → aS) → Prop) : la_P := la_ist 14 (la_ild 28 (la_ci (nI 1) (la_b2 (fun x y => x + y) (la_ild 12 (la_d2 (fun x y => x - x / y * y) (la_ist 36 (la_ild 14 (la_if1 (fun x => x = 0) (M 910) (la_ild 36 (la_ild 28 (la_if2 (fun x y => x = y) (M 910) (la_ald 0 (la_ild 28 (la_ci (nI 4) (la_cN mc 1 3 s_L_station (la_cl (lN 0) (la_lcmp (la_if1 (fun x => x ≤ 0) (M 910) (la_ald 0 (la_ild 36 (la_ci (nI 4) (la_cN mc 1 3 s_L_station (la_lst 37 (la_ald 0 (la_ild 28 (la_ild 36 (la_cN mc 1 3 s_L_move (la_l2i (la_ist 39 (la_ild 39 (la_i2l (la_cl (lN 0) (la_cl (4) (la_cN mc 0 3 s_L_in (la_if1 (fun x => x = 0) (M 864) (la_ald 0 (la_ild 36 (la_ci (nI 4) (la_cN mc 1 3 s_L_station (la_lld 37 (la_cl (lN 1) (la_l2 (fun x y => x + y) (la_lcmp (la_if1 (fun x => ¬ x = 0) (M 864) (la_ald 0 (la_ci (nI 11) (la_cN mc 1 2 s_L_about (la_ald 0 (la_ci (nI 9) (la_cN mc 1 2 s_L_about (la_l2 (fun x y => x + y) (la_cl (lN 1) (la_lcmp (la_if1 (fun x => x < 0) (M 864) (M 829)))))))))))))))))))))))))))))))))))))))))))))))))))))))
def bL_follows_829 (mc : Nat) (s_L_now : la_S) (s_L_about : la_S) (s_L_save : la_S) (s_L_simulate : la_S) (s_L_coming : la_S) (s_L_run : la_S) (s_L_undo : la_S) (s_L_in : la_S) (s_L_station : la_S) (s_L_lacks : la_S) (s_L_ifDelivered : la_S) (s_L_deliver : la_S) (s_L_setting : la_S) (s_L_change : la_S) (s_L_move : la_S) (s_L_stock : la_S) (s_L_restore : la_S) (M : Nat → la_P) (K : Option Value → (Nat → aS) → Prop) : la_P := la_ald 0 (la_cN mc 1 1 s_L_undo (la_cl (lN 0) (la_lcmp (la_if1 (fun x => x < 0) (M 864) (la_ald 0 (la_ild 28 (la_ild 39 (la_cN mc 1 3 s_L_stock (la_cl (lN 0) (la_lcmp (la_if1 (fun x => x ≤ 0) (M 864) (la_ald 0 (la_cN mc 200 1 s_L_now (la_lld 2 (la_lcmp (la_if1 (fun x => ¬ x = 0) (M 864) (la_ci (nI 1) (M 865))))))))))))))))))
def bL_follows_864 (mc : Nat) (s_L_now : la_S) (s_L_about : la_S) (s_L_save : la_S) (s_L_simulate : la_S) (s_L_coming : la_S) (s_L_run : la_S) (s_L_undo : la_S) (s_L_in : la_S) (s_L_station : la_S) (s_L_lacks : la_S) (s_L_ifDelivered : la_S) (s_L_deliver : la_S) (s_L_setting : la_S) (s_L_change : la_S) (s_L_move : la_S) (s_L_stock : la_S) (s_L_restore : la_S) (M : Nat → la_P) (K : Option Value → (Nat → aS) → Prop) : la_P := la_ci (nI 0) (M 865)
def bL_follows_865 (mc : Nat) (s_L_now : la_S) (s_L_about : la_S) (s_L_save : la_S) (s_L_simulate : la_S) (s_L_coming : la_S) (s_L_run : la_S) (s_L_undo : la_S) (s_L_in : la_S) (s_L_station : la_S) (s_L_lacks : la_S) (s_L_ifDelivered : la_S) (s_L_deliver : la_S) (s_L_setting : la_S) (s_L_change : la_S) (s_L_move : la_S) (s_L_stock : la_S) (s_L_restore : la_S) (M : Nat → la_P) (K : Option Value → (Nat → aS) → Prop) : la_P := la_ist 14 (la_ild 39 (la_ci (nI 1) (la_b2 (fun x y => x + y) (la_ist 40 (M 873)))))
def bL_follows_873 (mc : Nat) (s_L_now : la_S) (s_L_about : la_S) (s_L_save : la_S) (s_L_simulate : la_S) (s_L_coming : la_S) (s_L_run : la_S) (s_L_undo : la_S) (s_L_in : la_S) (s_L_station : la_S) (s_L_lacks : la_S) (s_L_ifDelivered : la_S) (s_L_deliver : la_S) (s_L_setting : la_S) (s_L_change : la_S) (s_L_move : la_S) (s_L_stock : la_S) (s_L_restore : la_S) (M : Nat → la_P) (K : Option Value → (Nat → aS) → Prop) : la_P := la_ild 40 (la_ci (nI 5) (la_if2 (fun x y => y ≤ x) (M 910) (la_ild 14 (la_if1 (fun x => x = 0) (M 910) (la_ald 0 (la_ild 28 (la_ild 40 (la_cN mc 1 3 s_L_stock (la_cl (lN 0) (la_lcmp (la_if1 (fun x => ¬ x = 0) (la_ci (nI 0) (M 902)) (la_ci (nI 1) (M 902)))))))))))))
def bL_follows_902 (mc : Nat) (s_L_now : la_S) (s_L_about : la_S) (s_L_save : la_S) (s_L_simulate : la_S) (s_L_coming : la_S) (s_L_run : la_S) (s_L_undo : la_S) (s_L_in : la_S) (s_L_station : la_S) (s_L_lacks : la_S) (s_L_ifDelivered : la_S) (s_L_deliver : la_S) (s_L_setting : la_S) (s_L_change : la_S) (s_L_move : la_S) (s_L_stock : la_S) (s_L_restore : la_S) (M : Nat → la_P) (K : Option Value → (Nat → aS) → Prop) : la_P := la_ist 14 (la_inc 40 (nI 1) (M 873))
def bL_follows_910 (mc : Nat) (s_L_now : la_S) (s_L_about : la_S) (s_L_save : la_S) (s_L_simulate : la_S) (s_L_coming : la_S) (s_L_run : la_S) (s_L_undo : la_S) (s_L_in : la_S) (s_L_station : la_S) (s_L_lacks : la_S) (s_L_ifDelivered : la_S) (s_L_deliver : la_S) (s_L_setting : la_S) (s_L_change : la_S) (s_L_move : la_S) (s_L_stock : la_S) (s_L_restore : la_S) (M : Nat → la_P) (K : Option Value → (Nat → aS) → Prop) : la_P := la_inc 28 (nI 1) (M 452)
def bL_follows_916 (mc : Nat) (s_L_now : la_S) (s_L_about : la_S) (s_L_save : la_S) (s_L_simulate : la_S) (s_L_coming : la_S) (s_L_run : la_S) (s_L_undo : la_S) (s_L_in : la_S) (s_L_station : la_S) (s_L_lacks : la_S) (s_L_ifDelivered : la_S) (s_L_deliver : la_S) (s_L_setting : la_S) (s_L_change : la_S) (s_L_move : la_S) (s_L_stock : la_S) (s_L_restore : la_S) (M : Nat → la_P) (K : Option Value → (Nat → aS) → Prop) : la_P := la_ild 14 (la_if1 (fun x => x = 0) (M 956) (la_ald 0 (la_ci (nI 1) (la_cN mc 1 2 s_L_restore (la_lld 4 (la_lcmp (la_if1 (fun x => ¬ x = 0) (M 956) (la_ald 0 (la_cN mc 200 1 s_L_now (la_lld 2 (la_lcmp (la_if1 (fun x => ¬ x = 0) (M 956) (la_ald 0 (la_cN mc 1 1 s_L_undo (la_cl (-9000000000000000003) (la_lcmp (la_if1 (fun x => ¬ x = 0) (M 956) (la_ci (nI 1) (M 957)))))))))))))))))))
def bL_follows_956 (mc : Nat) (s_L_now : la_S) (s_L_about : la_S) (s_L_save : la_S) (s_L_simulate : la_S) (s_L_coming : la_S) (s_L_run : la_S) (s_L_undo : la_S) (s_L_in : la_S) (s_L_station : la_S) (s_L_lacks : la_S) (s_L_ifDelivered : la_S) (s_L_deliver : la_S) (s_L_setting : la_S) (s_L_change : la_S) (s_L_move : la_S) (s_L_stock : la_S) (s_L_restore : la_S) (M : Nat → la_P) (K : Option Value → (Nat → aS) → Prop) : la_P := la_ci (nI 0) (M 957)
def bL_follows_957 (mc : Nat) (s_L_now : la_S) (s_L_about : la_S) (s_L_save : la_S) (s_L_simulate : la_S) (s_L_coming : la_S) (s_L_run : la_S) (s_L_undo : la_S) (s_L_in : la_S) (s_L_station : la_S) (s_L_lacks : la_S) (s_L_ifDelivered : la_S) (s_L_deliver : la_S) (s_L_setting : la_S) (s_L_change : la_S) (s_L_move : la_S) (s_L_stock : la_S) (s_L_restore : la_S) (M : Nat → la_P) (K : Option Value → (Nat → aS) → Prop) : la_P := la_zr mc K
set_option maxRecDepth 40000 in
set_option maxHeartbeats 8000000 in
theorem vc_L_follows {l : Launch} (hl : l.stackTraces = false) {Y : lW} (hw : lWo Y) {A : Nat → aS} {As : List Value} {K : Option Value → (Nat → aS) → Prop} {s_L_now : la_S} (ok_L_now : la_Ok l yL_now (Cond.code yL_now cL_now 6 (some .long)) 9 (30 * 9) 200 s_L_now) {s_L_about : la_S} (ok_L_about : la_Ok l yL_about (Cond.codeWith yL_about cL_about 3 (some .long) [(0, 6, 7, 15)]) 7 (30 * 7) 1 s_L_about) {s_L_save : la_S} (ok_L_save : la_Ok l yL_save (Cond.codeWith yL_save cL_save 3 (some .long) [(0, 6, 7, 34)]) 8 (30 * 8) 1 s_L_save) {s_L_simulate : la_S} (ok_L_simulate : la_Ok l yL_simulate (Cond.codeWith yL_simulate cL_simulate 5 (some .long) [(0, 7, 8, 15)]) 8 (30 * 8) 1 s_L_simulate) {s_L_coming : la_S} (ok_L_coming : la_Ok l yL_coming (Cond.codeWith yL_coming cL_coming 4 (some .long) [(0, 7, 8, 15)]) 8 (30 * 8) 1 s_L_coming) {s_L_run : la_S} (ok_L_run : la_Ok l yL_run (Cond.codeWith yL_run cL_run 3 (some .long) [(0, 6, 7, 15)]) 9 (30 * 9) 1 s_L_run) {s_L_undo : la_S} (ok_L_undo : la_Ok l yL_undo (Cond.codeWith yL_undo cL_undo 2 (some .long) [(0, 5, 6, 19)]) 7 (30 * 7) 1 s_L_undo) {s_L_in : la_S} (ok_L_in : la_Ok l yL_in (Cond.code yL_in cL_in 6 (some .boolean)) 1 (30 * 1) 0 s_L_in) {s_L_station : la_S} (ok_L_station : la_Ok l yL_station (Cond.codeWith yL_station cL_station 4 (some .long) [(0, 7, 8, 34), (0, 7, 13, 15)]) 8 (30 * 8) 1 s_L_station) {s_L_lacks : la_S} (ok_L_lacks : la_Ok l yL_lacks (Cond.codeWith yL_lacks cL_lacks 4 (some .long) [(0, 7, 8, 34), (0, 7, 13, 15)]) 8 (30 * 8) 1 s_L_lacks) {s_L_ifDelivered : la_S} (ok_L_ifDelivered : la_Ok l yL_ifDelivered (Cond.codeWith yL_ifDelivered cL_ifDelivered 6 (some .long) [(0, 10, 11, 34), (0, 10, 17, 15), (0, 10, 23, 19)]) 8 (30 * 8) 1 s_L_ifDelivered) {s_L_deliver : la_S} (ok_L_deliver : la_Ok l yL_deliver (Cond.codeWith yL_deliver cL_deliver 5 (some .long) [(0, 8, 9, 34), (0, 8, 15, 15), (0, 8, 21, 19)]) 9 (30 * 9) 1 s_L_deliver) {s_L_setting : la_S} (ok_L_setting : la_Ok l yL_setting (Cond.codeWith yL_setting cL_setting 3 (some .long) [(0, 6, 7, 15)]) 8 (30 * 8) 1 s_L_setting) {s_L_change : la_S} (ok_L_change : la_Ok l yL_change (Cond.codeWith yL_change cL_change 5 (some .long) [(0, 8, 9, 34), (0, 8, 15, 15)]) 9 (30 * 9) 1 s_L_change) {s_L_move : la_S} (ok_L_move : la_Ok l yL_move (Cond.codeWith yL_move cL_move 4 (some .long) [(0, 7, 8, 34), (0, 7, 13, 19)]) 9 (30 * 9) 1 s_L_move) {s_L_stock : la_S} (ok_L_stock : la_Ok l yL_stock (Cond.codeWith yL_stock cL_stock 4 (some .long) [(0, 7, 8, 34), (0, 7, 13, 15)]) 8 (30 * 8) 1 s_L_stock) {s_L_restore : la_S} (ok_L_restore : la_Ok l yL_restore (Cond.codeWith yL_restore cL_restore 3 (some .long) [(0, 6, 7, 34), (0, 6, 12, 19)]) 8 (30 * 8) 1 s_L_restore) (hlen : (ab_xl As).length ≤ 41) (h : ∀ M : Nat → la_P, (∀ L st X, bL_follows_0 8000 s_L_now s_L_about s_L_save s_L_simulate s_L_coming s_L_run s_L_undo s_L_in s_L_station s_L_lacks s_L_ifDelivered s_L_deliver s_L_setting s_L_change s_L_move s_L_stock s_L_restore M K L st X → M 0 L st X) → (∀ L st X, bL_follows_78 8000 s_L_now s_L_about s_L_save s_L_simulate s_L_coming s_L_run s_L_undo s_L_in s_L_station s_L_lacks s_L_ifDelivered s_L_deliver s_L_setting s_L_change s_L_move s_L_stock s_L_restore M K L st X → M 78 L st X) → (∀ L st X, bL_follows_91 8000 s_L_now s_L_about s_L_save s_L_simulate s_L_coming s_L_run s_L_undo s_L_in s_L_station s_L_lacks s_L_ifDelivered s_L_deliver s_L_setting s_L_change s_L_move s_L_stock s_L_restore M K L st X → M 91 L st X) → (∀ L st X, bL_follows_92 8000 s_L_now s_L_about s_L_save s_L_simulate s_L_coming s_L_run s_L_undo s_L_in s_L_station s_L_lacks s_L_ifDelivered s_L_deliver s_L_setting s_L_change s_L_move s_L_stock s_L_restore M K L st X → M 92 L st X) → (∀ L st X, bL_follows_176 8000 s_L_now s_L_about s_L_save s_L_simulate s_L_coming s_L_run s_L_undo s_L_in s_L_station s_L_lacks s_L_ifDelivered s_L_deliver s_L_setting s_L_change s_L_move s_L_stock s_L_restore M K L st X → M 176 L st X) → (∀ L st X, bL_follows_238 8000 s_L_now s_L_about s_L_save s_L_simulate s_L_coming s_L_run s_L_undo s_L_in s_L_station s_L_lacks s_L_ifDelivered s_L_deliver s_L_setting s_L_change s_L_move s_L_stock s_L_restore M K L st X → M 238 L st X) → (∀ L st X, bL_follows_239 8000 s_L_now s_L_about s_L_save s_L_simulate s_L_coming s_L_run s_L_undo s_L_in s_L_station s_L_lacks s_L_ifDelivered s_L_deliver s_L_setting s_L_change s_L_move s_L_stock s_L_restore M K L st X → M 239 L st X) → (∀ L st X, bL_follows_274 8000 s_L_now s_L_about s_L_save s_L_simulate s_L_coming s_L_run s_L_undo s_L_in s_L_station s_L_lacks s_L_ifDelivered s_L_deliver s_L_setting s_L_change s_L_move s_L_stock s_L_restore M K L st X → M 274 L st X) → (∀ L st X, bL_follows_275 8000 s_L_now s_L_about s_L_save s_L_simulate s_L_coming s_L_run s_L_undo s_L_in s_L_station s_L_lacks s_L_ifDelivered s_L_deliver s_L_setting s_L_change s_L_move s_L_stock s_L_restore M K L st X → M 275 L st X) → (∀ L st X, bL_follows_338 8000 s_L_now s_L_about s_L_save s_L_simulate s_L_coming s_L_run s_L_undo s_L_in s_L_station s_L_lacks s_L_ifDelivered s_L_deliver s_L_setting s_L_change s_L_move s_L_stock s_L_restore M K L st X → M 338 L st X) → (∀ L st X, bL_follows_342 8000 s_L_now s_L_about s_L_save s_L_simulate s_L_coming s_L_run s_L_undo s_L_in s_L_station s_L_lacks s_L_ifDelivered s_L_deliver s_L_setting s_L_change s_L_move s_L_stock s_L_restore M K L st X → M 342 L st X) → (∀ L st X, bL_follows_343 8000 s_L_now s_L_about s_L_save s_L_simulate s_L_coming s_L_run s_L_undo s_L_in s_L_station s_L_lacks s_L_ifDelivered s_L_deliver s_L_setting s_L_change s_L_move s_L_stock s_L_restore M K L st X → M 343 L st X) → (∀ L st X, bL_follows_345 8000 s_L_now s_L_about s_L_save s_L_simulate s_L_coming s_L_run s_L_undo s_L_in s_L_station s_L_lacks s_L_ifDelivered s_L_deliver s_L_setting s_L_change s_L_move s_L_stock s_L_restore M K L st X → M 345 L st X) → (∀ L st X, bL_follows_354 8000 s_L_now s_L_about s_L_save s_L_simulate s_L_coming s_L_run s_L_undo s_L_in s_L_station s_L_lacks s_L_ifDelivered s_L_deliver s_L_setting s_L_change s_L_move s_L_stock s_L_restore M K L st X → M 354 L st X) → (∀ L st X, bL_follows_381 8000 s_L_now s_L_about s_L_save s_L_simulate s_L_coming s_L_run s_L_undo s_L_in s_L_station s_L_lacks s_L_ifDelivered s_L_deliver s_L_setting s_L_change s_L_move s_L_stock s_L_restore M K L st X → M 381 L st X) → (∀ L st X, bL_follows_404 8000 s_L_now s_L_about s_L_save s_L_simulate s_L_coming s_L_run s_L_undo s_L_in s_L_station s_L_lacks s_L_ifDelivered s_L_deliver s_L_setting s_L_change s_L_move s_L_stock s_L_restore M K L st X → M 404 L st X) → (∀ L st X, bL_follows_446 8000 s_L_now s_L_about s_L_save s_L_simulate s_L_coming s_L_run s_L_undo s_L_in s_L_station s_L_lacks s_L_ifDelivered s_L_deliver s_L_setting s_L_change s_L_move s_L_stock s_L_restore M K L st X → M 446 L st X) → (∀ L st X, bL_follows_447 8000 s_L_now s_L_about s_L_save s_L_simulate s_L_coming s_L_run s_L_undo s_L_in s_L_station s_L_lacks s_L_ifDelivered s_L_deliver s_L_setting s_L_change s_L_move s_L_stock s_L_restore M K L st X → M 447 L st X) → (∀ L st X, bL_follows_452 8000 s_L_now s_L_about s_L_save s_L_simulate s_L_coming s_L_run s_L_undo s_L_in s_L_station s_L_lacks s_L_ifDelivered s_L_deliver s_L_setting s_L_change s_L_move s_L_stock s_L_restore M K L st X → M 452 L st X) → (∀ L st X, bL_follows_544 8000 s_L_now s_L_about s_L_save s_L_simulate s_L_coming s_L_run s_L_undo s_L_in s_L_station s_L_lacks s_L_ifDelivered s_L_deliver s_L_setting s_L_change s_L_move s_L_stock s_L_restore M K L st X → M 544 L st X) → (∀ L st X, bL_follows_545 8000 s_L_now s_L_about s_L_save s_L_simulate s_L_coming s_L_run s_L_undo s_L_in s_L_station s_L_lacks s_L_ifDelivered s_L_deliver s_L_setting s_L_change s_L_move s_L_stock s_L_restore M K L st X → M 545 L st X) → (∀ L st X, bL_follows_632 8000 s_L_now s_L_about s_L_save s_L_simulate s_L_coming s_L_run s_L_undo s_L_in s_L_station s_L_lacks s_L_ifDelivered s_L_deliver s_L_setting s_L_change s_L_move s_L_stock s_L_restore M K L st X → M 632 L st X) → (∀ L st X, bL_follows_633 8000 s_L_now s_L_about s_L_save s_L_simulate s_L_coming s_L_run s_L_undo s_L_in s_L_station s_L_lacks s_L_ifDelivered s_L_deliver s_L_setting s_L_change s_L_move s_L_stock s_L_restore M K L st X → M 633 L st X) → (∀ L st X, bL_follows_635 8000 s_L_now s_L_about s_L_save s_L_simulate s_L_coming s_L_run s_L_undo s_L_in s_L_station s_L_lacks s_L_ifDelivered s_L_deliver s_L_setting s_L_change s_L_move s_L_stock s_L_restore M K L st X → M 635 L st X) → (∀ L st X, bL_follows_723 8000 s_L_now s_L_about s_L_save s_L_simulate s_L_coming s_L_run s_L_undo s_L_in s_L_station s_L_lacks s_L_ifDelivered s_L_deliver s_L_setting s_L_change s_L_move s_L_stock s_L_restore M K L st X → M 723 L st X) → (∀ L st X, bL_follows_727 8000 s_L_now s_L_about s_L_save s_L_simulate s_L_coming s_L_run s_L_undo s_L_in s_L_station s_L_lacks s_L_ifDelivered s_L_deliver s_L_setting s_L_change s_L_move s_L_stock s_L_restore M K L st X → M 727 L st X) → (∀ L st X, bL_follows_728 8000 s_L_now s_L_about s_L_save s_L_simulate s_L_coming s_L_run s_L_undo s_L_in s_L_station s_L_lacks s_L_ifDelivered s_L_deliver s_L_setting s_L_change s_L_move s_L_stock s_L_restore M K L st X → M 728 L st X) → (∀ L st X, bL_follows_829 8000 s_L_now s_L_about s_L_save s_L_simulate s_L_coming s_L_run s_L_undo s_L_in s_L_station s_L_lacks s_L_ifDelivered s_L_deliver s_L_setting s_L_change s_L_move s_L_stock s_L_restore M K L st X → M 829 L st X) → (∀ L st X, bL_follows_864 8000 s_L_now s_L_about s_L_save s_L_simulate s_L_coming s_L_run s_L_undo s_L_in s_L_station s_L_lacks s_L_ifDelivered s_L_deliver s_L_setting s_L_change s_L_move s_L_stock s_L_restore M K L st X → M 864 L st X) → (∀ L st X, bL_follows_865 8000 s_L_now s_L_about s_L_save s_L_simulate s_L_coming s_L_run s_L_undo s_L_in s_L_station s_L_lacks s_L_ifDelivered s_L_deliver s_L_setting s_L_change s_L_move s_L_stock s_L_restore M K L st X → M 865 L st X) → (∀ L st X, bL_follows_873 8000 s_L_now s_L_about s_L_save s_L_simulate s_L_coming s_L_run s_L_undo s_L_in s_L_station s_L_lacks s_L_ifDelivered s_L_deliver s_L_setting s_L_change s_L_move s_L_stock s_L_restore M K L st X → M 873 L st X) → (∀ L st X, bL_follows_902 8000 s_L_now s_L_about s_L_save s_L_simulate s_L_coming s_L_run s_L_undo s_L_in s_L_station s_L_lacks s_L_ifDelivered s_L_deliver s_L_setting s_L_change s_L_move s_L_stock s_L_restore M K L st X → M 902 L st X) → (∀ L st X, bL_follows_910 8000 s_L_now s_L_about s_L_save s_L_simulate s_L_coming s_L_run s_L_undo s_L_in s_L_station s_L_lacks s_L_ifDelivered s_L_deliver s_L_setting s_L_change s_L_move s_L_stock s_L_restore M K L st X → M 910 L st X) → (∀ L st X, bL_follows_916 8000 s_L_now s_L_about s_L_save s_L_simulate s_L_coming s_L_run s_L_undo s_L_in s_L_station s_L_lacks s_L_ifDelivered s_L_deliver s_L_setting s_L_change s_L_move s_L_stock s_L_restore M K L st X → M 916 L st X) → (∀ L st X, bL_follows_956 8000 s_L_now s_L_about s_L_save s_L_simulate s_L_coming s_L_run s_L_undo s_L_in s_L_station s_L_lacks s_L_ifDelivered s_L_deliver s_L_setting s_L_change s_L_move s_L_stock s_L_restore M K L st X → M 956 L st X) → (∀ L st X, bL_follows_957 8000 s_L_now s_L_about s_L_save s_L_simulate s_L_coming s_L_run s_L_undo s_L_in s_L_station s_L_lacks s_L_ifDelivered s_L_deliver s_L_setting s_L_change s_L_move s_L_stock s_L_restore M K L st X → M 957 L st X) → M 0 (ab_pd 41 (ab_xl As)) [] (A, 0)) : la_Met l yL_follows (Cond.code yL_follows cL_follows 41 (some .boolean)) 10 (30 * 10) 8000 Y A As K := by
  refine la_enter (by decide) hl hw hlen ?_
  intro p e R s m args below meth c C hr
  exact h _ (sl_aload_n C (i := 0) dL_follows_0 rfl (sl_cN C ok_L_now ⟨by decide, by decide, wu_649, wu_0, by decide +kernel⟩ wu_647 wu_648 dL_follows_1 (sl_lstore_n C (i := 2) dL_follows_4 rfl (by decide) (sl_aload_n C (i := 0) dL_follows_5 rfl (sl_iconst C (x := nI 2) dL_follows_6 (by decide +kernel) (sl_cW C ok_L_about ⟨by decide, by decide, wu_654, wu_0, by decide +kernel⟩ wu_652 wu_653 dL_follows_7 (sl_lstore C dL_follows_10 (by decide) (sl_aload_n C (i := 0) dL_follows_12 rfl (sl_iconst C (x := nI 3) dL_follows_13 (by decide +kernel) (sl_cW C ok_L_about ⟨by decide, by decide, wu_654, wu_0, by decide +kernel⟩ wu_652 wu_653 dL_follows_14 (sl_lstore C dL_follows_17 (by decide) (sl_aload_n C (i := 0) dL_follows_19 rfl (sl_iconst C (x := nI 4) dL_follows_20 (by decide +kernel) (sl_cW C ok_L_about ⟨by decide, by decide, wu_654, wu_0, by decide +kernel⟩ wu_652 wu_653 dL_follows_21 (sl_lstore C dL_follows_24 (by decide) (sl_aload_n C (i := 0) dL_follows_26 rfl (sl_iconst C (x := nI 5) dL_follows_27 (by decide +kernel) (sl_cW C ok_L_about ⟨by decide, by decide, wu_654, wu_0, by decide +kernel⟩ wu_652 wu_653 dL_follows_28 (sl_lstore C dL_follows_31 (by decide) (sl_aload_n C (i := 0) dL_follows_33 rfl (sl_iconst C (x := nI 0) dL_follows_34 (by decide +kernel) (sl_cW C ok_L_about ⟨by decide, by decide, wu_654, wu_0, by decide +kernel⟩ wu_652 wu_653 dL_follows_35 (sl_l2i C dL_follows_38 (sl_istore C dL_follows_39 (by decide) (sl_iconst C (x := nI 1) dL_follows_41 (by decide +kernel) (sl_iload_n C (i := 1) dL_follows_42 rfl (sl_bipush C (x := nI 24) dL_follows_43 (by decide +kernel) (sl_irem C dL_follows_45 (sl_iadd C dL_follows_46 (sl_istore C dL_follows_47 (by decide) (sl_aload_n C (i := 0) dL_follows_49 rfl (sl_iconst C (x := nI 1) dL_follows_50 (by decide +kernel) (sl_cW C ok_L_save ⟨by decide, by decide, wu_608, wu_0, by decide +kernel⟩ wu_606 wu_607 dL_follows_51 (sl_lload C dL_follows_54 (sl_lcmp C dL_follows_56 (sl_if_ne C dL_follows_57 (tgt := 91) (by decide) (fun _ _ _ h => h) (sl_aload_n C (i := 0) dL_follows_60 rfl (sl_iload_n C (i := 1) dL_follows_61 rfl (sl_i2l C dL_follows_62 (sl_iconst C (x := nI 5) dL_follows_63 (by decide +kernel) (sl_cW C ok_L_simulate ⟨by decide, by decide, wu_948, wu_0, by decide +kernel⟩ wu_946 wu_947 dL_follows_64 (sl_aload_n C (i := 0) dL_follows_67 rfl (sl_iload_n C (i := 1) dL_follows_68 rfl (sl_i2l C dL_follows_69 (sl_iconst C (x := nI 5) dL_follows_70 (by decide +kernel) (sl_cW C ok_L_simulate ⟨by decide, by decide, wu_948, wu_0, by decide +kernel⟩ wu_946 wu_947 dL_follows_71 (sl_lcmp C dL_follows_74 (sl_if_ne C dL_follows_75 (tgt := 91) (by decide) (fun _ _ _ h => h) (fun _ _ _ h => h)))))))))))))))))))))))))))))))))))))))))))))))))
    (sl_aload_n C (i := 0) dL_follows_78 rfl (sl_cN C ok_L_now ⟨by decide, by decide, wu_649, wu_0, by decide +kernel⟩ wu_647 wu_648 dL_follows_79 (sl_lload_n C (i := 2) dL_follows_82 rfl (sl_lcmp C dL_follows_83 (sl_if_ne C dL_follows_84 (tgt := 91) (by decide) (fun _ _ _ h => h) (sl_iconst C (x := nI 1) dL_follows_87 (by decide +kernel) (sl_goto C dL_follows_88 (tgt := 92) (by decide) (fun _ _ _ h => h))))))))
    (sl_iconst C (x := nI 0) dL_follows_91 (by decide +kernel) (fun _ _ _ h => h))
    (sl_istore C dL_follows_92 (by decide) (sl_aload_n C (i := 0) dL_follows_94 rfl (sl_iload C dL_follows_95 (sl_iconst C (x := nI 0) dL_follows_97 (by decide +kernel) (sl_cW C ok_L_coming ⟨by decide, by decide, wu_898, wu_0, by decide +kernel⟩ wu_896 wu_897 dL_follows_98 (sl_lstore C dL_follows_101 (by decide) (sl_aload_n C (i := 0) dL_follows_103 rfl (sl_iload C dL_follows_104 (sl_iconst C (x := nI 1) dL_follows_106 (by decide +kernel) (sl_cW C ok_L_coming ⟨by decide, by decide, wu_898, wu_0, by decide +kernel⟩ wu_896 wu_897 dL_follows_107 (sl_lstore C dL_follows_110 (by decide) (sl_aload_n C (i := 0) dL_follows_112 rfl (sl_iload C dL_follows_113 (sl_iconst C (x := nI 2) dL_follows_115 (by decide +kernel) (sl_cW C ok_L_coming ⟨by decide, by decide, wu_898, wu_0, by decide +kernel⟩ wu_896 wu_897 dL_follows_116 (sl_lstore C dL_follows_119 (by decide) (sl_aload_n C (i := 0) dL_follows_121 rfl (sl_iload C dL_follows_122 (sl_iconst C (x := nI 3) dL_follows_124 (by decide +kernel) (sl_cW C ok_L_coming ⟨by decide, by decide, wu_898, wu_0, by decide +kernel⟩ wu_896 wu_897 dL_follows_125 (sl_lstore C dL_follows_128 (by decide) (sl_iload C dL_follows_130 (sl_if_eq C dL_follows_132 (tgt := 238) (by decide) (fun _ _ _ h => h) (sl_aload_n C (i := 0) dL_follows_135 rfl (sl_iload C dL_follows_136 (sl_cW C ok_L_run ⟨by decide, by decide, wu_855, wu_0, by decide +kernel⟩ wu_853 wu_854 dL_follows_138 (sl_lload C dL_follows_141 (sl_lcmp C dL_follows_143 (sl_if_ne C dL_follows_144 (tgt := 238) (by decide) (fun _ _ _ h => h) (sl_aload_n C (i := 0) dL_follows_147 rfl (sl_iconst C (x := nI 2) dL_follows_148 (by decide +kernel) (sl_cW C ok_L_about ⟨by decide, by decide, wu_654, wu_0, by decide +kernel⟩ wu_652 wu_653 dL_follows_149 (sl_lload C dL_follows_152 (sl_iload C dL_follows_154 (sl_i2l C dL_follows_156 (sl_ladd C dL_follows_157 (sl_lcmp C dL_follows_158 (sl_if_ne C dL_follows_159 (tgt := 238) (by decide) (fun _ _ _ h => h) (sl_aload_n C (i := 0) dL_follows_162 rfl (sl_iconst C (x := nI 4) dL_follows_163 (by decide +kernel) (sl_cW C ok_L_about ⟨by decide, by decide, wu_654, wu_0, by decide +kernel⟩ wu_652 wu_653 dL_follows_164 (sl_lload C dL_follows_167 (sl_lload C dL_follows_169 (sl_ladd C dL_follows_171 (sl_lcmp C dL_follows_172 (sl_if_ne C dL_follows_173 (tgt := 238) (by decide) (fun _ _ _ h => h) (fun _ _ _ h => h)))))))))))))))))))))))))))))))))))))))))))))))
    (sl_aload_n C (i := 0) dL_follows_176 rfl (sl_iconst C (x := nI 5) dL_follows_177 (by decide +kernel) (sl_cW C ok_L_about ⟨by decide, by decide, wu_654, wu_0, by decide +kernel⟩ wu_652 wu_653 dL_follows_178 (sl_lload C dL_follows_181 (sl_lload C dL_follows_183 (sl_ladd C dL_follows_185 (sl_lcmp C dL_follows_186 (sl_if_ne C dL_follows_187 (tgt := 238) (by decide) (fun _ _ _ h => h) (sl_aload_n C (i := 0) dL_follows_190 rfl (sl_iconst C (x := nI 3) dL_follows_191 (by decide +kernel) (sl_cW C ok_L_about ⟨by decide, by decide, wu_654, wu_0, by decide +kernel⟩ wu_652 wu_653 dL_follows_192 (sl_lload C dL_follows_195 (sl_lload C dL_follows_197 (sl_ladd C dL_follows_199 (sl_lcmp C dL_follows_200 (sl_if_ne C dL_follows_201 (tgt := 238) (by decide) (fun _ _ _ h => h) (sl_aload_n C (i := 0) dL_follows_204 rfl (sl_bipush C (x := nI 11) dL_follows_205 (by decide +kernel) (sl_cW C ok_L_about ⟨by decide, by decide, wu_654, wu_0, by decide +kernel⟩ wu_652 wu_653 dL_follows_207 (sl_lload C dL_follows_210 (sl_lcmp C dL_follows_212 (sl_if_ne C dL_follows_213 (tgt := 238) (by decide) (fun _ _ _ h => h) (sl_aload_n C (i := 0) dL_follows_216 rfl (sl_cW C ok_L_undo ⟨by decide, by decide, wu_990, wu_0, by decide +kernel⟩ wu_988 wu_989 dL_follows_217 (sl_lconst C (x := lN 0) dL_follows_220 (by decide +kernel) (sl_lcmp C dL_follows_221 (sl_if_lt C dL_follows_222 (tgt := 238) (by decide) (fun _ _ _ h => h) (sl_aload_n C (i := 0) dL_follows_225 rfl (sl_cN C ok_L_now ⟨by decide, by decide, wu_649, wu_0, by decide +kernel⟩ wu_647 wu_648 dL_follows_226 (sl_lload_n C (i := 2) dL_follows_229 rfl (sl_lcmp C dL_follows_230 (sl_if_ne C dL_follows_231 (tgt := 238) (by decide) (fun _ _ _ h => h) (sl_iconst C (x := nI 1) dL_follows_234 (by decide +kernel) (sl_goto C dL_follows_235 (tgt := 239) (by decide) (fun _ _ _ h => h)))))))))))))))))))))))))))))))))))
    (sl_iconst C (x := nI 0) dL_follows_238 (by decide +kernel) (fun _ _ _ h => h))
    (sl_istore C dL_follows_239 (by decide) (sl_aload_n C (i := 0) dL_follows_241 rfl (sl_cV C (d' := 6) rfl ⟨by decide, by decide, wu_1003, wu_1, by decide +kernel⟩ wu_1000 wu_1001 wu_1002 dL_follows_242 (cV_firstGap hl) (sl_istore C dL_follows_245 (by decide) (sl_iload C dL_follows_247 (sl_iconst C (x := -1) dL_follows_249 (by decide +kernel) (sl_icmp_ne C dL_follows_250 (tgt := 280) (by decide) (sl_iload C dL_follows_280 (sl_i2l C dL_follows_282 (sl_lload C dL_follows_283 (sl_lsub C dL_follows_285 (sl_l2i C dL_follows_286 (sl_istore C dL_follows_287 (by decide) (sl_iload C dL_follows_289 (sl_if_eq C dL_follows_291 (tgt := 342) (by decide) (fun _ _ _ h => h) (sl_iload C dL_follows_294 (sl_i2l C dL_follows_296 (sl_lconst C (x := lN 0) dL_follows_297 (by decide +kernel) (sl_ldc2 C (x := 59) dL_follows_298 wu_1004 (sl_cN C ok_L_in ⟨by decide, by decide, wu_978, wu_0, by decide +kernel⟩ wu_976 wu_977 dL_follows_301 (sl_if_eq C dL_follows_304 (tgt := 342) (by decide) (fun _ _ _ h => h) (sl_aload_n C (i := 0) dL_follows_307 rfl (sl_iload C dL_follows_308 (sl_iconst C (x := nI 1) dL_follows_310 (by decide +kernel) (sl_iadd C dL_follows_311 (sl_iconst C (x := nI 1) dL_follows_312 (by decide +kernel) (sl_cW C ok_L_coming ⟨by decide, by decide, wu_898, wu_0, by decide +kernel⟩ wu_896 wu_897 dL_follows_313 (sl_lconst C (x := lN 0) dL_follows_316 (by decide +kernel) (sl_lcmp C dL_follows_317 (sl_if_le C dL_follows_318 (tgt := 342) (by decide) (fun _ _ _ h => h) (sl_iload C dL_follows_321 (sl_if_eq C dL_follows_323 (tgt := 338) (by decide) (fun _ _ _ h => h) (sl_aload_n C (i := 0) dL_follows_326 rfl (sl_iload C dL_follows_327 (sl_iconst C (x := nI 1) dL_follows_329 (by decide +kernel) (sl_cW C ok_L_coming ⟨by decide, by decide, wu_898, wu_0, by decide +kernel⟩ wu_896 wu_897 dL_follows_330 (sl_lconst C (x := lN 0) dL_follows_333 (by decide +kernel) (sl_lcmp C dL_follows_334 (sl_if_ne C dL_follows_335 (tgt := 342) (by decide) (fun _ _ _ h => h) (fun _ _ _ h => h))))))))))))))))))))))))))))))))) (sl_iload C dL_follows_253 (sl_if_eq C dL_follows_255 (tgt := 274) (by decide) (fun _ _ _ h => h) (sl_aload_n C (i := 0) dL_follows_258 rfl (sl_bipush C (x := nI 60) dL_follows_259 (by decide +kernel) (sl_iconst C (x := nI 1) dL_follows_261 (by decide +kernel) (sl_cW C ok_L_coming ⟨by decide, by decide, wu_898, wu_0, by decide +kernel⟩ wu_896 wu_897 dL_follows_262 (sl_lconst C (x := lN 0) dL_follows_265 (by decide +kernel) (sl_lcmp C dL_follows_266 (sl_if_ne C dL_follows_267 (tgt := 274) (by decide) (fun _ _ _ h => h) (sl_iconst C (x := nI 1) dL_follows_270 (by decide +kernel) (sl_goto C dL_follows_271 (tgt := 275) (by decide) (fun _ _ _ h => h)))))))))))))))))))
    (sl_iconst C (x := nI 0) dL_follows_274 (by decide +kernel) (fun _ _ _ h => h))
    (sl_istore C dL_follows_275 (by decide) (sl_goto C dL_follows_277 (tgt := 345) (by decide) (fun _ _ _ h => h)))
    (sl_iconst C (x := nI 1) dL_follows_338 (by decide +kernel) (sl_goto C dL_follows_339 (tgt := 343) (by decide) (fun _ _ _ h => h)))
    (sl_iconst C (x := nI 0) dL_follows_342 (by decide +kernel) (fun _ _ _ h => h))
    (sl_istore C dL_follows_343 (by decide) (fun _ _ _ h => h))
    (sl_lconst C (x := lN 0) dL_follows_345 (by decide +kernel) (sl_lstore C dL_follows_346 (by decide) (sl_lconst C (x := lN 0) dL_follows_348 (by decide +kernel) (sl_lstore C dL_follows_349 (by decide) (sl_iconst C (x := nI 0) dL_follows_351 (by decide +kernel) (sl_istore C dL_follows_352 (by decide) (fun _ _ _ h => h)))))))
    (sl_iload C dL_follows_354 (sl_iload C dL_follows_356 (sl_icmp_ge C dL_follows_358 (tgt := 413) (by decide) (sl_iload C dL_follows_413 (sl_if_eq C dL_follows_415 (tgt := 446) (by decide) (fun _ _ _ h => h) (sl_aload_n C (i := 0) dL_follows_418 rfl (sl_iconst C (x := nI 1) dL_follows_419 (by decide +kernel) (sl_iconst C (x := nI 0) dL_follows_420 (by decide +kernel) (sl_cW C ok_L_coming ⟨by decide, by decide, wu_898, wu_0, by decide +kernel⟩ wu_896 wu_897 dL_follows_421 (sl_lload C dL_follows_424 (sl_lcmp C dL_follows_426 (sl_if_ne C dL_follows_427 (tgt := 446) (by decide) (fun _ _ _ h => h) (sl_aload_n C (i := 0) dL_follows_430 rfl (sl_iconst C (x := nI 1) dL_follows_431 (by decide +kernel) (sl_iconst C (x := nI 1) dL_follows_432 (by decide +kernel) (sl_cW C ok_L_coming ⟨by decide, by decide, wu_898, wu_0, by decide +kernel⟩ wu_896 wu_897 dL_follows_433 (sl_lload C dL_follows_436 (sl_lcmp C dL_follows_438 (sl_if_ne C dL_follows_439 (tgt := 446) (by decide) (fun _ _ _ h => h) (sl_iconst C (x := nI 1) dL_follows_442 (by decide +kernel) (sl_goto C dL_follows_443 (tgt := 447) (by decide) (fun _ _ _ h => h))))))))))))))))))) (sl_lload C dL_follows_361 (sl_aload_n C (i := 0) dL_follows_363 rfl (sl_iload C dL_follows_364 (sl_bipush C (x := nI 7) dL_follows_366 (by decide +kernel) (sl_cW C ok_L_station ⟨by decide, by decide, wu_705, wu_0, by decide +kernel⟩ wu_703 wu_704 dL_follows_368 (sl_lconst C (x := lN 1) dL_follows_371 (by decide +kernel) (sl_lcmp C dL_follows_372 (sl_if_ne C dL_follows_373 (tgt := 380) (by decide) (sl_lconst C (x := lN 0) dL_follows_380 (by decide +kernel) (fun _ _ _ h => h)) (sl_lconst C (x := lN 1) dL_follows_376 (by decide +kernel) (sl_goto C dL_follows_377 (tgt := 381) (by decide) (fun _ _ _ h => h))))))))))))))
    (sl_ladd C dL_follows_381 (sl_lstore C dL_follows_382 (by decide) (sl_lload C dL_follows_384 (sl_aload_n C (i := 0) dL_follows_386 rfl (sl_iload C dL_follows_387 (sl_bipush C (x := nI 7) dL_follows_389 (by decide +kernel) (sl_cW C ok_L_station ⟨by decide, by decide, wu_705, wu_0, by decide +kernel⟩ wu_703 wu_704 dL_follows_391 (sl_lconst C (x := lN 1) dL_follows_394 (by decide +kernel) (sl_lcmp C dL_follows_395 (sl_if_le C dL_follows_396 (tgt := 403) (by decide) (sl_lconst C (x := lN 0) dL_follows_403 (by decide +kernel) (fun _ _ _ h => h)) (sl_lconst C (x := lN 1) dL_follows_399 (by decide +kernel) (sl_goto C dL_follows_400 (tgt := 404) (by decide) (fun _ _ _ h => h)))))))))))))
    (sl_ladd C dL_follows_404 (sl_lstore C dL_follows_405 (by decide) (sl_iinc C (x := nI 1) dL_follows_407 (by decide +kernel) (by decide) (sl_goto C dL_follows_410 (tgt := 354) (by decide) (fun _ _ _ h => h)))))
    (sl_iconst C (x := nI 0) dL_follows_446 (by decide +kernel) (fun _ _ _ h => h))
    (sl_istore C dL_follows_447 (by decide) (sl_iconst C (x := nI 0) dL_follows_449 (by decide +kernel) (sl_istore C dL_follows_450 (by decide) (fun _ _ _ h => h))))
    (sl_iload C dL_follows_452 (sl_iload C dL_follows_454 (sl_icmp_ge C dL_follows_456 (tgt := 916) (by decide) (fun _ _ _ h => h) (sl_iload C dL_follows_459 (sl_if_eq C dL_follows_461 (tgt := 916) (by decide) (fun _ _ _ h => h) (sl_aload_n C (i := 0) dL_follows_464 rfl (sl_iload C dL_follows_465 (sl_iload C dL_follows_467 (sl_cW C ok_L_lacks ⟨by decide, by decide, wu_905, wu_0, by decide +kernel⟩ wu_903 wu_904 dL_follows_469 (sl_lstore C dL_follows_472 (by decide) (sl_iconst C (x := nI 5) dL_follows_474 (by decide +kernel) (sl_iload_n C (i := 1) dL_follows_475 rfl (sl_sipush C (x := nI 1000) dL_follows_476 (by decide +kernel) (sl_irem C dL_follows_479 (sl_iload C dL_follows_480 (sl_iadd C dL_follows_482 (sl_bipush C (x := nI 40) dL_follows_483 (by decide +kernel) (sl_irem C dL_follows_485 (sl_iadd C dL_follows_486 (sl_istore C dL_follows_487 (by decide) (sl_aload_n C (i := 0) dL_follows_489 rfl (sl_iload C dL_follows_490 (sl_iload C dL_follows_492 (sl_iconst C (x := nI 0) dL_follows_494 (by decide +kernel) (sl_iload C dL_follows_495 (sl_cW C ok_L_ifDelivered ⟨by decide, by decide, wu_917, wu_0, by decide +kernel⟩ wu_915 wu_916 dL_follows_497 (sl_lstore C dL_follows_500 (by decide) (sl_lload C dL_follows_502 (sl_ldc2 C (x := -9000000000000000003) dL_follows_504 wu_605 (sl_lcmp C dL_follows_507 (sl_if_ne C dL_follows_508 (tgt := 550) (by decide) (sl_aload_n C (i := 0) dL_follows_550 rfl (sl_iload C dL_follows_551 (sl_iload C dL_follows_553 (sl_iconst C (x := nI 0) dL_follows_555 (by decide +kernel) (sl_cW C ok_L_deliver ⟨by decide, by decide, wu_829, wu_0, by decide +kernel⟩ wu_827 wu_828 dL_follows_556 (sl_iload C dL_follows_559 (sl_i2l C dL_follows_561 (sl_aload_n C (i := 0) dL_follows_562 rfl (sl_iconst C (x := nI 2) dL_follows_563 (by decide +kernel) (sl_cW C ok_L_setting ⟨by decide, by decide, wu_687, wu_0, by decide +kernel⟩ wu_685 wu_686 dL_follows_564 (sl_lmul C dL_follows_567 (sl_lcmp C dL_follows_568 (sl_if_ne C dL_follows_569 (tgt := 632) (by decide) (fun _ _ _ h => h) (sl_aload_n C (i := 0) dL_follows_572 rfl (sl_bipush C (x := nI 10) dL_follows_573 (by decide +kernel) (sl_cW C ok_L_about ⟨by decide, by decide, wu_654, wu_0, by decide +kernel⟩ wu_652 wu_653 dL_follows_575 (sl_lconst C (x := lN 1) dL_follows_578 (by decide +kernel) (sl_lcmp C dL_follows_579 (sl_if_lt C dL_follows_580 (tgt := 632) (by decide) (fun _ _ _ h => h) (sl_aload_n C (i := 0) dL_follows_583 rfl (sl_iload C dL_follows_584 (sl_iconst C (x := nI 1) dL_follows_586 (by decide +kernel) (sl_cW C ok_L_coming ⟨by decide, by decide, wu_898, wu_0, by decide +kernel⟩ wu_896 wu_897 dL_follows_587 (sl_lload C dL_follows_590 (sl_lcmp C dL_follows_592 (sl_if_ne C dL_follows_593 (tgt := 632) (by decide) (fun _ _ _ h => h) (sl_aload_n C (i := 0) dL_follows_596 rfl (sl_iload C dL_follows_597 (sl_iload C dL_follows_599 (sl_cW C ok_L_lacks ⟨by decide, by decide, wu_905, wu_0, by decide +kernel⟩ wu_903 wu_904 dL_follows_601 (sl_lload C dL_follows_604 (sl_lcmp C dL_follows_606 (sl_if_gt C dL_follows_607 (tgt := 632) (by decide) (fun _ _ _ h => h) (sl_aload_n C (i := 0) dL_follows_610 rfl (sl_cW C ok_L_undo ⟨by decide, by decide, wu_990, wu_0, by decide +kernel⟩ wu_988 wu_989 dL_follows_611 (sl_lconst C (x := lN 0) dL_follows_614 (by decide +kernel) (sl_lcmp C dL_follows_615 (sl_if_lt C dL_follows_616 (tgt := 632) (by decide) (fun _ _ _ h => h) (sl_aload_n C (i := 0) dL_follows_619 rfl (sl_cN C ok_L_now ⟨by decide, by decide, wu_649, wu_0, by decide +kernel⟩ wu_647 wu_648 dL_follows_620 (sl_lload_n C (i := 2) dL_follows_623 rfl (sl_lcmp C dL_follows_624 (sl_if_ne C dL_follows_625 (tgt := 632) (by decide) (fun _ _ _ h => h) (sl_iconst C (x := nI 1) dL_follows_628 (by decide +kernel) (sl_goto C dL_follows_629 (tgt := 633) (by decide) (fun _ _ _ h => h)))))))))))))))))))))))))))))))))))))))))))))) (sl_aload_n C (i := 0) dL_follows_511 rfl (sl_bipush C (x := nI 10) dL_follows_512 (by decide +kernel) (sl_cW C ok_L_about ⟨by decide, by decide, wu_654, wu_0, by decide +kernel⟩ wu_652 wu_653 dL_follows_514 (sl_ldc2 C (x := 8) dL_follows_517 wu_922 (sl_lcmp C dL_follows_520 (sl_if_ne C dL_follows_521 (tgt := 544) (by decide) (fun _ _ _ h => h) (sl_aload_n C (i := 0) dL_follows_524 rfl (sl_iload C dL_follows_525 (sl_iload C dL_follows_527 (sl_iconst C (x := nI 1) dL_follows_529 (by decide +kernel) (sl_cW C ok_L_deliver ⟨by decide, by decide, wu_829, wu_0, by decide +kernel⟩ wu_827 wu_828 dL_follows_530 (sl_ldc2 C (x := -9000000000000000003) dL_follows_533 wu_605 (sl_lcmp C dL_follows_536 (sl_if_ne C dL_follows_537 (tgt := 544) (by decide) (fun _ _ _ h => h) (sl_iconst C (x := nI 1) dL_follows_540 (by decide +kernel) (sl_goto C dL_follows_541 (tgt := 545) (by decide) (fun _ _ _ h => h))))))))))))))))))))))))))))))))))))))))))))))))
    (sl_iconst C (x := nI 0) dL_follows_544 (by decide +kernel) (fun _ _ _ h => h))
    (sl_istore C dL_follows_545 (by decide) (sl_goto C dL_follows_547 (tgt := 635) (by decide) (fun _ _ _ h => h)))
    (sl_iconst C (x := nI 0) dL_follows_632 (by decide +kernel) (fun _ _ _ h => h))
    (sl_istore C dL_follows_633 (by decide) (fun _ _ _ h => h))
    (sl_aload_n C (i := 0) dL_follows_635 rfl (sl_iload C dL_follows_636 (sl_iconst C (x := nI 1) dL_follows_638 (by decide +kernel) (sl_cW C ok_L_station ⟨by decide, by decide, wu_705, wu_0, by decide +kernel⟩ wu_703 wu_704 dL_follows_639 (sl_lstore C dL_follows_642 (by decide) (sl_iload C dL_follows_644 (sl_if_eq C dL_follows_646 (tgt := 727) (by decide) (fun _ _ _ h => h) (sl_lload C dL_follows_649 (sl_lconst C (x := lN 0) dL_follows_651 (by decide +kernel) (sl_ldc2 C (x := 5) dL_follows_652 wu_975 (sl_iload C dL_follows_655 (sl_i2l C dL_follows_657 (sl_lmul C dL_follows_658 (sl_cN C ok_L_in ⟨by decide, by decide, wu_978, wu_0, by decide +kernel⟩ wu_976 wu_977 dL_follows_659 (sl_if_eq C dL_follows_662 (tgt := 727) (by decide) (fun _ _ _ h => h) (sl_aload_n C (i := 0) dL_follows_665 rfl (sl_iload C dL_follows_666 (sl_iconst C (x := nI 0) dL_follows_668 (by decide +kernel) (sl_iconst C (x := nI 1) dL_follows_669 (by decide +kernel) (sl_cW C ok_L_change ⟨by decide, by decide, wu_813, wu_0, by decide +kernel⟩ wu_811 wu_812 dL_follows_670 (sl_lload C dL_follows_673 (sl_lcmp C dL_follows_675 (sl_if_ne C dL_follows_676 (tgt := 727) (by decide) (fun _ _ _ h => h) (sl_aload_n C (i := 0) dL_follows_679 rfl (sl_iload C dL_follows_680 (sl_iload C dL_follows_682 (sl_cW C ok_L_lacks ⟨by decide, by decide, wu_905, wu_0, by decide +kernel⟩ wu_903 wu_904 dL_follows_684 (sl_lconst C (x := lN 0) dL_follows_687 (by decide +kernel) (sl_lcmp C dL_follows_688 (sl_if_ne C dL_follows_689 (tgt := 727) (by decide) (fun _ _ _ h => h) (sl_aload_n C (i := 0) dL_follows_692 rfl (sl_iload C dL_follows_693 (sl_bipush C (x := nI 7) dL_follows_695 (by decide +kernel) (sl_cW C ok_L_station ⟨by decide, by decide, wu_705, wu_0, by decide +kernel⟩ wu_703 wu_704 dL_follows_697 (sl_lconst C (x := lN 0) dL_follows_700 (by decide +kernel) (sl_lcmp C dL_follows_701 (sl_if_ne C dL_follows_702 (tgt := 727) (by decide) (fun _ _ _ h => h) (sl_aload_n C (i := 0) dL_follows_705 rfl (sl_cW C ok_L_undo ⟨by decide, by decide, wu_990, wu_0, by decide +kernel⟩ wu_988 wu_989 dL_follows_706 (sl_lconst C (x := lN 0) dL_follows_709 (by decide +kernel) (sl_lcmp C dL_follows_710 (sl_if_lt C dL_follows_711 (tgt := 727) (by decide) (fun _ _ _ h => h) (sl_aload_n C (i := 0) dL_follows_714 rfl (sl_cN C ok_L_now ⟨by decide, by decide, wu_649, wu_0, by decide +kernel⟩ wu_647 wu_648 dL_follows_715 (sl_lload_n C (i := 2) dL_follows_718 rfl (sl_lcmp C dL_follows_719 (sl_if_ne C dL_follows_720 (tgt := 727) (by decide) (fun _ _ _ h => h) (fun _ _ _ h => h))))))))))))))))))))))))))))))))))))))))))))))))
    (sl_iconst C (x := nI 1) dL_follows_723 (by decide +kernel) (sl_goto C dL_follows_724 (tgt := 728) (by decide) (fun _ _ _ h => h)))
    (sl_iconst C (x := nI 0) dL_follows_727 (by decide +kernel) (fun _ _ _ h => h))
    (sl_istore C dL_follows_728 (by decide) (sl_iload C dL_follows_730 (sl_iconst C (x := nI 1) dL_follows_732 (by decide +kernel) (sl_iadd C dL_follows_733 (sl_iload C dL_follows_734 (sl_irem C dL_follows_736 (sl_istore C dL_follows_737 (by decide) (sl_iload C dL_follows_739 (sl_if_eq C dL_follows_741 (tgt := 910) (by decide) (fun _ _ _ h => h) (sl_iload C dL_follows_744 (sl_iload C dL_follows_746 (sl_icmp_eq C dL_follows_748 (tgt := 910) (by decide) (fun _ _ _ h => h) (sl_aload_n C (i := 0) dL_follows_751 rfl (sl_iload C dL_follows_752 (sl_iconst C (x := nI 4) dL_follows_754 (by decide +kernel) (sl_cW C ok_L_station ⟨by decide, by decide, wu_705, wu_0, by decide +kernel⟩ wu_703 wu_704 dL_follows_755 (sl_lconst C (x := lN 0) dL_follows_758 (by decide +kernel) (sl_lcmp C dL_follows_759 (sl_if_le C dL_follows_760 (tgt := 910) (by decide) (fun _ _ _ h => h) (sl_aload_n C (i := 0) dL_follows_763 rfl (sl_iload C dL_follows_764 (sl_iconst C (x := nI 4) dL_follows_766 (by decide +kernel) (sl_cW C ok_L_station ⟨by decide, by decide, wu_705, wu_0, by decide +kernel⟩ wu_703 wu_704 dL_follows_767 (sl_lstore C dL_follows_770 (by decide) (sl_aload_n C (i := 0) dL_follows_772 rfl (sl_iload C dL_follows_773 (sl_iload C dL_follows_775 (sl_cW C ok_L_move ⟨by decide, by decide, wu_838, wu_0, by decide +kernel⟩ wu_836 wu_837 dL_follows_777 (sl_l2i C dL_follows_780 (sl_istore C dL_follows_781 (by decide) (sl_iload C dL_follows_783 (sl_i2l C dL_follows_785 (sl_lconst C (x := lN 0) dL_follows_786 (by decide +kernel) (sl_ldc2 C (x := 4) dL_follows_787 wu_981 (sl_cN C ok_L_in ⟨by decide, by decide, wu_978, wu_0, by decide +kernel⟩ wu_976 wu_977 dL_follows_790 (sl_if_eq C dL_follows_793 (tgt := 864) (by decide) (fun _ _ _ h => h) (sl_aload_n C (i := 0) dL_follows_796 rfl (sl_iload C dL_follows_797 (sl_iconst C (x := nI 4) dL_follows_799 (by decide +kernel) (sl_cW C ok_L_station ⟨by decide, by decide, wu_705, wu_0, by decide +kernel⟩ wu_703 wu_704 dL_follows_800 (sl_lload C dL_follows_803 (sl_lconst C (x := lN 1) dL_follows_805 (by decide +kernel) (sl_ladd C dL_follows_806 (sl_lcmp C dL_follows_807 (sl_if_ne C dL_follows_808 (tgt := 864) (by decide) (fun _ _ _ h => h) (sl_aload_n C (i := 0) dL_follows_811 rfl (sl_bipush C (x := nI 11) dL_follows_812 (by decide +kernel) (sl_cW C ok_L_about ⟨by decide, by decide, wu_654, wu_0, by decide +kernel⟩ wu_652 wu_653 dL_follows_814 (sl_aload_n C (i := 0) dL_follows_817 rfl (sl_bipush C (x := nI 9) dL_follows_818 (by decide +kernel) (sl_cW C ok_L_about ⟨by decide, by decide, wu_654, wu_0, by decide +kernel⟩ wu_652 wu_653 dL_follows_820 (sl_ladd C dL_follows_823 (sl_lconst C (x := lN 1) dL_follows_824 (by decide +kernel) (sl_lcmp C dL_follows_825 (sl_if_lt C dL_follows_826 (tgt := 864) (by decide) (fun _ _ _ h => h) (fun _ _ _ h => h))))))))))))))))))))))))))))))))))))))))))))))))))))))))
    (sl_aload_n C (i := 0) dL_follows_829 rfl (sl_cW C ok_L_undo ⟨by decide, by decide, wu_990, wu_0, by decide +kernel⟩ wu_988 wu_989 dL_follows_830 (sl_lconst C (x := lN 0) dL_follows_833 (by decide +kernel) (sl_lcmp C dL_follows_834 (sl_if_lt C dL_follows_835 (tgt := 864) (by decide) (fun _ _ _ h => h) (sl_aload_n C (i := 0) dL_follows_838 rfl (sl_iload C dL_follows_839 (sl_iload C dL_follows_841 (sl_cW C ok_L_stock ⟨by decide, by decide, wu_726, wu_0, by decide +kernel⟩ wu_724 wu_725 dL_follows_843 (sl_lconst C (x := lN 0) dL_follows_846 (by decide +kernel) (sl_lcmp C dL_follows_847 (sl_if_le C dL_follows_848 (tgt := 864) (by decide) (fun _ _ _ h => h) (sl_aload_n C (i := 0) dL_follows_851 rfl (sl_cN C ok_L_now ⟨by decide, by decide, wu_649, wu_0, by decide +kernel⟩ wu_647 wu_648 dL_follows_852 (sl_lload_n C (i := 2) dL_follows_855 rfl (sl_lcmp C dL_follows_856 (sl_if_ne C dL_follows_857 (tgt := 864) (by decide) (fun _ _ _ h => h) (sl_iconst C (x := nI 1) dL_follows_860 (by decide +kernel) (sl_goto C dL_follows_861 (tgt := 865) (by decide) (fun _ _ _ h => h))))))))))))))))))))
    (sl_iconst C (x := nI 0) dL_follows_864 (by decide +kernel) (fun _ _ _ h => h))
    (sl_istore C dL_follows_865 (by decide) (sl_iload C dL_follows_867 (sl_iconst C (x := nI 1) dL_follows_869 (by decide +kernel) (sl_iadd C dL_follows_870 (sl_istore C dL_follows_871 (by decide) (fun _ _ _ h => h))))))
    (sl_iload C dL_follows_873 (sl_iconst C (x := nI 5) dL_follows_875 (by decide +kernel) (sl_icmp_ge C dL_follows_876 (tgt := 910) (by decide) (fun _ _ _ h => h) (sl_iload C dL_follows_879 (sl_if_eq C dL_follows_881 (tgt := 910) (by decide) (fun _ _ _ h => h) (sl_aload_n C (i := 0) dL_follows_884 rfl (sl_iload C dL_follows_885 (sl_iload C dL_follows_887 (sl_cW C ok_L_stock ⟨by decide, by decide, wu_726, wu_0, by decide +kernel⟩ wu_724 wu_725 dL_follows_889 (sl_lconst C (x := lN 0) dL_follows_892 (by decide +kernel) (sl_lcmp C dL_follows_893 (sl_if_ne C dL_follows_894 (tgt := 901) (by decide) (sl_iconst C (x := nI 0) dL_follows_901 (by decide +kernel) (fun _ _ _ h => h)) (sl_iconst C (x := nI 1) dL_follows_897 (by decide +kernel) (sl_goto C dL_follows_898 (tgt := 902) (by decide) (fun _ _ _ h => h)))))))))))))))
    (sl_istore C dL_follows_902 (by decide) (sl_iinc C (x := nI 1) dL_follows_904 (by decide +kernel) (by decide) (sl_goto C dL_follows_907 (tgt := 873) (by decide) (fun _ _ _ h => h))))
    (sl_iinc C (x := nI 1) dL_follows_910 (by decide +kernel) (by decide) (sl_goto C dL_follows_913 (tgt := 452) (by decide) (fun _ _ _ h => h)))
    (sl_iload C dL_follows_916 (sl_if_eq C dL_follows_918 (tgt := 956) (by decide) (fun _ _ _ h => h) (sl_aload_n C (i := 0) dL_follows_921 rfl (sl_iconst C (x := nI 1) dL_follows_922 (by decide +kernel) (sl_cW C ok_L_restore ⟨by decide, by decide, wu_638, wu_0, by decide +kernel⟩ wu_636 wu_637 dL_follows_923 (sl_lload C dL_follows_926 (sl_lcmp C dL_follows_928 (sl_if_ne C dL_follows_929 (tgt := 956) (by decide) (fun _ _ _ h => h) (sl_aload_n C (i := 0) dL_follows_932 rfl (sl_cN C ok_L_now ⟨by decide, by decide, wu_649, wu_0, by decide +kernel⟩ wu_647 wu_648 dL_follows_933 (sl_lload_n C (i := 2) dL_follows_936 rfl (sl_lcmp C dL_follows_937 (sl_if_ne C dL_follows_938 (tgt := 956) (by decide) (fun _ _ _ h => h) (sl_aload_n C (i := 0) dL_follows_941 rfl (sl_cW C ok_L_undo ⟨by decide, by decide, wu_990, wu_0, by decide +kernel⟩ wu_988 wu_989 dL_follows_942 (sl_ldc2 C (x := -9000000000000000003) dL_follows_945 wu_605 (sl_lcmp C dL_follows_948 (sl_if_ne C dL_follows_949 (tgt := 956) (by decide) (fun _ _ _ h => h) (sl_iconst C (x := nI 1) dL_follows_952 (by decide +kernel) (sl_goto C dL_follows_953 (tgt := 957) (by decide) (fun _ _ _ h => h)))))))))))))))))))))
    (sl_iconst C (x := nI 0) dL_follows_956 (by decide +kernel) (fun _ _ _ h => h))
    (sl_zr C hr dL_follows_957)
