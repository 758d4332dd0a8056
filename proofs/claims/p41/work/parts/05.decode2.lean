theorem dL_law_94 : decode cL_law 94 = .ok (.newarray .int, 2) := by decide +kernel
theorem dL_law_96 : decode cL_law 96 = .ok (.astore 4, 2) := by decide +kernel
theorem dL_law_98 : decode cL_law 98 = .ok (.iload_n 3, 1) := by decide +kernel
theorem dL_law_99 : decode cL_law 99 = .ok (.newarray .int, 2) := by decide +kernel
theorem dL_law_101 : decode cL_law 101 = .ok (.astore 5, 2) := by decide +kernel
theorem dL_law_103 : decode cL_law 103 = .ok (.iload_n 3, 1) := by decide +kernel
theorem dL_law_104 : decode cL_law 104 = .ok (.newarray .int, 2) := by decide +kernel
theorem dL_law_106 : decode cL_law 106 = .ok (.astore 6, 2) := by decide +kernel
theorem dL_law_108 : decode cL_law 108 = .ok (.iload_n 3, 1) := by decide +kernel
theorem dL_law_109 : decode cL_law 109 = .ok (.newarray .int, 2) := by decide +kernel
theorem dL_law_111 : decode cL_law 111 = .ok (.astore 7, 2) := by decide +kernel
theorem dL_law_113 : decode cL_law 113 = .ok (.iconst 0, 1) := by decide +kernel
theorem dL_law_114 : decode cL_law 114 = .ok (.istore 8, 2) := by decide +kernel
theorem dL_law_116 : decode cL_law 116 = .ok (.iload 8, 2) := by decide +kernel
theorem dL_law_118 : decode cL_law 118 = .ok (.iload_n 3, 1) := by decide +kernel
theorem dL_law_119 : decode cL_law 119 = .ok (.if_icmp .ge 117, 3) := by decide +kernel
theorem dL_law_122 : decode cL_law 122 = .ok (.aload 4, 2) := by decide +kernel
theorem dL_law_124 : decode cL_law 124 = .ok (.iload 8, 2) := by decide +kernel
theorem dL_law_126 : decode cL_law 126 = .ok (.aload_n 0, 1) := by decide +kernel
theorem dL_law_127 : decode cL_law 127 = .ok (.iconst 1, 1) := by decide +kernel
theorem dL_law_128 : decode cL_law 128 = .ok (.iload 8, 2) := by decide +kernel
theorem dL_law_130 : decode cL_law 130 = .ok (.iadd, 1) := by decide +kernel
theorem dL_law_131 : decode cL_law 131 = .ok (.iconst 5, 1) := by decide +kernel
theorem dL_law_132 : decode cL_law 132 = .ok (.invokestatic 95, 3) := by decide +kernel
theorem dL_law_135 : decode cL_law 135 = .ok (.iastore, 1) := by decide +kernel
theorem dL_law_136 : decode cL_law 136 = .ok (.aload 5, 2) := by decide +kernel
theorem dL_law_138 : decode cL_law 138 = .ok (.iload 8, 2) := by decide +kernel
theorem dL_law_140 : decode cL_law 140 = .ok (.iconst 1, 1) := by decide +kernel
theorem dL_law_141 : decode cL_law 141 = .ok (.aload_n 0, 1) := by decide +kernel
theorem dL_law_142 : decode cL_law 142 = .ok (.bipush 10, 2) := by decide +kernel
theorem dL_law_144 : decode cL_law 144 = .ok (.iload 8, 2) := by decide +kernel
theorem dL_law_146 : decode cL_law 146 = .ok (.iadd, 1) := by decide +kernel
theorem dL_law_147 : decode cL_law 147 = .ok (.bipush 40, 2) := by decide +kernel
theorem dL_law_149 : decode cL_law 149 = .ok (.invokestatic 95, 3) := by decide +kernel
theorem dL_law_152 : decode cL_law 152 = .ok (.iadd, 1) := by decide +kernel
theorem dL_law_153 : decode cL_law 153 = .ok (.iastore, 1) := by decide +kernel
theorem dL_law_154 : decode cL_law 154 = .ok (.aload 6, 2) := by decide +kernel
theorem dL_law_156 : decode cL_law 156 = .ok (.iload 8, 2) := by decide +kernel
theorem dL_law_158 : decode cL_law 158 = .ok (.aload_n 0, 1) := by decide +kernel
theorem dL_law_159 : decode cL_law 159 = .ok (.bipush 20, 2) := by decide +kernel
theorem dL_law_161 : decode cL_law 161 = .ok (.iload 8, 2) := by decide +kernel
theorem dL_law_163 : decode cL_law 163 = .ok (.iadd, 1) := by decide +kernel
theorem dL_law_164 : decode cL_law 164 = .ok (.bipush 120, 2) := by decide +kernel
theorem dL_law_166 : decode cL_law 166 = .ok (.invokestatic 95, 3) := by decide +kernel
theorem dL_law_169 : decode cL_law 169 = .ok (.iastore, 1) := by decide +kernel
theorem dL_law_170 : decode cL_law 170 = .ok (.aload 7, 2) := by decide +kernel
theorem dL_law_172 : decode cL_law 172 = .ok (.iload 8, 2) := by decide +kernel
theorem dL_law_174 : decode cL_law 174 = .ok (.aload 6, 2) := by decide +kernel
theorem dL_law_176 : decode cL_law 176 = .ok (.iload 8, 2) := by decide +kernel
theorem dL_law_178 : decode cL_law 178 = .ok (.iaload, 1) := by decide +kernel
theorem dL_law_179 : decode cL_law 179 = .ok (.aload_n 0, 1) := by decide +kernel
theorem dL_law_180 : decode cL_law 180 = .ok (.bipush 30, 2) := by decide +kernel
theorem dL_law_182 : decode cL_law 182 = .ok (.iload 8, 2) := by decide +kernel
theorem dL_law_184 : decode cL_law 184 = .ok (.iadd, 1) := by decide +kernel
theorem dL_law_185 : decode cL_law 185 = .ok (.sipush 381, 3) := by decide +kernel
theorem dL_law_188 : decode cL_law 188 = .ok (.invokestatic 95, 3) := by decide +kernel
theorem dL_law_191 : decode cL_law 191 = .ok (.iadd, 1) := by decide +kernel
theorem dL_law_192 : decode cL_law 192 = .ok (.iastore, 1) := by decide +kernel
theorem dL_law_193 : decode cL_law 193 = .ok (.iload_n 2, 1) := by decide +kernel
theorem dL_law_194 : decode cL_law 194 = .ok (.aload_n 1, 1) := by decide +kernel
theorem dL_law_195 : decode cL_law 195 = .ok (.aload 4, 2) := by decide +kernel
theorem dL_law_197 : decode cL_law 197 = .ok (.iload 8, 2) := by decide +kernel
theorem dL_law_199 : decode cL_law 199 = .ok (.iaload, 1) := by decide +kernel
theorem dL_law_200 : decode cL_law 200 = .ok (.aload 5, 2) := by decide +kernel
theorem dL_law_202 : decode cL_law 202 = .ok (.iload 8, 2) := by decide +kernel
theorem dL_law_204 : decode cL_law 204 = .ok (.iaload, 1) := by decide +kernel
theorem dL_law_205 : decode cL_law 205 = .ok (.aload 6, 2) := by decide +kernel
theorem dL_law_207 : decode cL_law 207 = .ok (.iload 8, 2) := by decide +kernel
theorem dL_law_209 : decode cL_law 209 = .ok (.iaload, 1) := by decide +kernel
theorem dL_law_210 : decode cL_law 210 = .ok (.aload 7, 2) := by decide +kernel
theorem dL_law_212 : decode cL_law 212 = .ok (.iload 8, 2) := by decide +kernel
theorem dL_law_214 : decode cL_law 214 = .ok (.iaload, 1) := by decide +kernel
theorem dL_law_215 : decode cL_law 215 = .ok (.invokestatic 90, 3) := by decide +kernel
theorem dL_law_218 : decode cL_law 218 = .ok (.iload 8, 2) := by decide +kernel
theorem dL_law_220 : decode cL_law 220 = .ok (.if_icmp .ne 7, 3) := by decide +kernel
theorem dL_law_223 : decode cL_law 223 = .ok (.iconst 1, 1) := by decide +kernel
theorem dL_law_224 : decode cL_law 224 = .ok (.goto 4, 3) := by decide +kernel
theorem dL_law_227 : decode cL_law 227 = .ok (.iconst 0, 1) := by decide +kernel
theorem dL_law_228 : decode cL_law 228 = .ok (.iand, 1) := by decide +kernel
theorem dL_law_229 : decode cL_law 229 = .ok (.istore_n 2, 1) := by decide +kernel
theorem dL_law_230 : decode cL_law 230 = .ok (.iinc 8 1, 3) := by decide +kernel
theorem dL_law_233 : decode cL_law 233 = .ok (.goto (-117), 3) := by decide +kernel
theorem dL_law_236 : decode cL_law 236 = .ok (.iconst 3, 1) := by decide +kernel
theorem dL_law_237 : decode cL_law 237 = .ok (.iconst 5, 1) := by decide +kernel
theorem dL_law_238 : decode cL_law 238 = .ok (.multianewarray 99 2, 4) := by decide +kernel
theorem dL_law_242 : decode cL_law 242 = .ok (.astore 8, 2) := by decide +kernel
theorem dL_law_244 : decode cL_law 244 = .ok (.iconst 3, 1) := by decide +kernel
theorem dL_law_245 : decode cL_law 245 = .ok (.iconst 5, 1) := by decide +kernel
theorem dL_law_246 : decode cL_law 246 = .ok (.multianewarray 99 2, 4) := by decide +kernel
theorem dL_law_250 : decode cL_law 250 = .ok (.astore 9, 2) := by decide +kernel
theorem dL_law_252 : decode cL_law 252 = .ok (.iconst 3, 1) := by decide +kernel
theorem dL_law_253 : decode cL_law 253 = .ok (.iconst 5, 1) := by decide +kernel
theorem dL_law_254 : decode cL_law 254 = .ok (.multianewarray 99 2, 4) := by decide +kernel
theorem dL_law_258 : decode cL_law 258 = .ok (.astore 10, 2) := by decide +kernel
theorem dL_law_260 : decode cL_law 260 = .ok (.iconst 3, 1) := by decide +kernel
theorem dL_law_261 : decode cL_law 261 = .ok (.newarray .int, 2) := by decide +kernel
theorem dL_law_263 : decode cL_law 263 = .ok (.astore 11, 2) := by decide +kernel
theorem dL_law_265 : decode cL_law 265 = .ok (.iconst 3, 1) := by decide +kernel
theorem dL_law_266 : decode cL_law 266 = .ok (.newarray .int, 2) := by decide +kernel
theorem dL_law_268 : decode cL_law 268 = .ok (.astore 12, 2) := by decide +kernel
theorem dL_law_270 : decode cL_law 270 = .ok (.iconst 3, 1) := by decide +kernel
theorem dL_law_271 : decode cL_law 271 = .ok (.newarray .int, 2) := by decide +kernel
theorem dL_law_273 : decode cL_law 273 = .ok (.astore 13, 2) := by decide +kernel
theorem dL_law_275 : decode cL_law 275 = .ok (.iconst 0, 1) := by decide +kernel
theorem dL_law_276 : decode cL_law 276 = .ok (.istore 14, 2) := by decide +kernel
theorem dL_law_278 : decode cL_law 278 = .ok (.iconst 0, 1) := by decide +kernel
theorem dL_law_279 : decode cL_law 279 = .ok (.istore 15, 2) := by decide +kernel
theorem dL_law_281 : decode cL_law 281 = .ok (.iload 15, 2) := by decide +kernel
theorem dL_law_283 : decode cL_law 283 = .ok (.iconst 3, 1) := by decide +kernel
theorem dL_law_284 : decode cL_law 284 = .ok (.if_icmp .ge 134, 3) := by decide +kernel
theorem dL_law_287 : decode cL_law 287 = .ok (.iload_n 2, 1) := by decide +kernel
theorem dL_law_288 : decode cL_law 288 = .ok (.aload_n 1, 1) := by decide +kernel
theorem dL_law_289 : decode cL_law 289 = .ok (.iload 15, 2) := by decide +kernel
theorem dL_law_291 : decode cL_law 291 = .ok (.invokestatic 85, 3) := by decide +kernel
theorem dL_law_294 : decode cL_law 294 = .ok (.iload 15, 2) := by decide +kernel
theorem dL_law_296 : decode cL_law 296 = .ok (.if_icmp .ne 66, 3) := by decide +kernel
theorem dL_law_299 : decode cL_law 299 = .ok (.aload_n 1, 1) := by decide +kernel
theorem dL_law_300 : decode cL_law 300 = .ok (.iconst 3, 1) := by decide +kernel
theorem dL_law_301 : decode cL_law 301 = .ok (.iload 15, 2) := by decide +kernel
theorem dL_law_303 : decode cL_law 303 = .ok (.iconst 2, 1) := by decide +kernel
theorem dL_law_304 : decode cL_law 304 = .ok (.irem, 1) := by decide +kernel
theorem dL_law_305 : decode cL_law 305 = .ok (.iadd, 1) := by decide +kernel
theorem dL_law_306 : decode cL_law 306 = .ok (.invokestatic 88, 3) := by decide +kernel
theorem dL_law_309 : decode cL_law 309 = .ok (.iload 15, 2) := by decide +kernel
theorem dL_law_311 : decode cL_law 311 = .ok (.if_icmp .ne 51, 3) := by decide +kernel
theorem dL_law_314 : decode cL_law 314 = .ok (.aload_n 1, 1) := by decide +kernel
theorem dL_law_315 : decode cL_law 315 = .ok (.iload 15, 2) := by decide +kernel
theorem dL_law_317 : decode cL_law 317 = .ok (.iconst 0, 1) := by decide +kernel
theorem dL_law_318 : decode cL_law 318 = .ok (.invokestatic 101, 3) := by decide +kernel
theorem dL_law_321 : decode cL_law 321 = .ok (.ldc 36, 2) := by decide +kernel
theorem dL_law_323 : decode cL_law 323 = .ok (.if_icmp .ne 39, 3) := by decide +kernel
theorem dL_law_326 : decode cL_law 326 = .ok (.aload_n 1, 1) := by decide +kernel
theorem dL_law_327 : decode cL_law 327 = .ok (.iload 15, 2) := by decide +kernel
theorem dL_law_329 : decode cL_law 329 = .ok (.invokestatic 104, 3) := by decide +kernel
theorem dL_law_332 : decode cL_law 332 = .ok (.bipush 45, 2) := by decide +kernel
theorem dL_law_334 : decode cL_law 334 = .ok (.if_icmp .ne 28, 3) := by decide +kernel
theorem dL_law_337 : decode cL_law 337 = .ok (.aload_n 1, 1) := by decide +kernel
theorem dL_law_338 : decode cL_law 338 = .ok (.iload 15, 2) := by decide +kernel
theorem dL_law_340 : decode cL_law 340 = .ok (.invokestatic 106, 3) := by decide +kernel
theorem dL_law_343 : decode cL_law 343 = .ok (.iconst (-1), 1) := by decide +kernel
theorem dL_law_344 : decode cL_law 344 = .ok (.if_icmp .ne 18, 3) := by decide +kernel
theorem dL_law_347 : decode cL_law 347 = .ok (.aload_n 1, 1) := by decide +kernel
theorem dL_law_348 : decode cL_law 348 = .ok (.iload 15, 2) := by decide +kernel
theorem dL_law_350 : decode cL_law 350 = .ok (.invokestatic 108, 3) := by decide +kernel
theorem dL_law_353 : decode cL_law 353 = .ok (.ldc 20, 2) := by decide +kernel
theorem dL_law_355 : decode cL_law 355 = .ok (.if_icmp .ne 7, 3) := by decide +kernel
theorem dL_law_358 : decode cL_law 358 = .ok (.iconst 1, 1) := by decide +kernel
theorem dL_law_359 : decode cL_law 359 = .ok (.goto 4, 3) := by decide +kernel
theorem dL_law_362 : decode cL_law 362 = .ok (.iconst 0, 1) := by decide +kernel
theorem dL_law_363 : decode cL_law 363 = .ok (.iand, 1) := by decide +kernel
theorem dL_law_364 : decode cL_law 364 = .ok (.istore_n 2, 1) := by decide +kernel
theorem dL_law_365 : decode cL_law 365 = .ok (.aload 11, 2) := by decide +kernel
theorem dL_law_367 : decode cL_law 367 = .ok (.iload 15, 2) := by decide +kernel
theorem dL_law_369 : decode cL_law 369 = .ok (.iconst (-1), 1) := by decide +kernel
theorem dL_law_370 : decode cL_law 370 = .ok (.iastore, 1) := by decide +kernel
theorem dL_law_371 : decode cL_law 371 = .ok (.aload 12, 2) := by decide +kernel
theorem dL_law_373 : decode cL_law 373 = .ok (.iload 15, 2) := by decide +kernel
theorem dL_law_375 : decode cL_law 375 = .ok (.bipush 45, 2) := by decide +kernel
theorem dL_law_377 : decode cL_law 377 = .ok (.iastore, 1) := by decide +kernel
theorem dL_law_378 : decode cL_law 378 = .ok (.iconst 0, 1) := by decide +kernel
theorem dL_law_379 : decode cL_law 379 = .ok (.istore 16, 2) := by decide +kernel
theorem dL_law_381 : decode cL_law 381 = .ok (.iload 16, 2) := by decide +kernel
theorem dL_law_383 : decode cL_law 383 = .ok (.iconst 5, 1) := by decide +kernel
theorem dL_law_384 : decode cL_law 384 = .ok (.if_icmp .ge 28, 3) := by decide +kernel
theorem dL_law_387 : decode cL_law 387 = .ok (.aload 8, 2) := by decide +kernel
theorem dL_law_389 : decode cL_law 389 = .ok (.iload 15, 2) := by decide +kernel
theorem dL_law_391 : decode cL_law 391 = .ok (.aaload, 1) := by decide +kernel
theorem dL_law_392 : decode cL_law 392 = .ok (.iload 16, 2) := by decide +kernel
theorem dL_law_394 : decode cL_law 394 = .ok (.bipush 100, 2) := by decide +kernel
theorem dL_law_396 : decode cL_law 396 = .ok (.iastore, 1) := by decide +kernel
theorem dL_law_397 : decode cL_law 397 = .ok (.aload 9, 2) := by decide +kernel
theorem dL_law_399 : decode cL_law 399 = .ok (.iload 15, 2) := by decide +kernel
theorem dL_law_401 : decode cL_law 401 = .ok (.aaload, 1) := by decide +kernel
theorem dL_law_402 : decode cL_law 402 = .ok (.iload 16, 2) := by decide +kernel
theorem dL_law_404 : decode cL_law 404 = .ok (.iconst (-1), 1) := by decide +kernel
theorem dL_law_405 : decode cL_law 405 = .ok (.iastore, 1) := by decide +kernel
theorem dL_law_406 : decode cL_law 406 = .ok (.iinc 16 1, 3) := by decide +kernel
theorem dL_law_409 : decode cL_law 409 = .ok (.goto (-28), 3) := by decide +kernel
theorem dL_law_412 : decode cL_law 412 = .ok (.iinc 15 1, 3) := by decide +kernel
theorem dL_law_415 : decode cL_law 415 = .ok (.goto (-134), 3) := by decide +kernel
theorem dL_law_418 : decode cL_law 418 = .ok (.iload_n 2, 1) := by decide +kernel
theorem dL_law_419 : decode cL_law 419 = .ok (.aload_n 1, 1) := by decide +kernel
theorem dL_law_420 : decode cL_law 420 = .ok (.iconst 0, 1) := by decide +kernel
theorem dL_law_421 : decode cL_law 421 = .ok (.invokestatic 88, 3) := by decide +kernel
theorem dL_law_424 : decode cL_law 424 = .ok (.iconst 3, 1) := by decide +kernel
theorem dL_law_425 : decode cL_law 425 = .ok (.if_icmp .ne 76, 3) := by decide +kernel
theorem dL_law_428 : decode cL_law 428 = .ok (.aload_n 1, 1) := by decide +kernel
theorem dL_law_429 : decode cL_law 429 = .ok (.iconst 0, 1) := by decide +kernel
theorem dL_law_430 : decode cL_law 430 = .ok (.iconst 0, 1) := by decide +kernel
theorem dL_law_431 : decode cL_law 431 = .ok (.iconst 2, 1) := by decide +kernel
theorem dL_law_432 : decode cL_law 432 = .ok (.invokestatic 110, 3) := by decide +kernel
theorem dL_law_435 : decode cL_law 435 = .ok (.ldc 20, 2) := by decide +kernel
theorem dL_law_437 : decode cL_law 437 = .ok (.if_icmp .ne 64, 3) := by decide +kernel
theorem dL_law_440 : decode cL_law 440 = .ok (.aload_n 1, 1) := by decide +kernel
theorem dL_law_441 : decode cL_law 441 = .ok (.iconst 0, 1) := by decide +kernel
theorem dL_law_442 : decode cL_law 442 = .ok (.iconst 0, 1) := by decide +kernel
theorem dL_law_443 : decode cL_law 443 = .ok (.iconst 0, 1) := by decide +kernel
theorem dL_law_444 : decode cL_law 444 = .ok (.invokestatic 110, 3) := by decide +kernel
theorem dL_law_447 : decode cL_law 447 = .ok (.ldc 20, 2) := by decide +kernel
theorem dL_law_449 : decode cL_law 449 = .ok (.if_icmp .ne 52, 3) := by decide +kernel
theorem dL_law_452 : decode cL_law 452 = .ok (.aload_n 1, 1) := by decide +kernel
theorem dL_law_453 : decode cL_law 453 = .ok (.iconst 0, 1) := by decide +kernel
theorem dL_law_454 : decode cL_law 454 = .ok (.iconst 0, 1) := by decide +kernel
theorem dL_law_455 : decode cL_law 455 = .ok (.iconst 3, 1) := by decide +kernel
theorem dL_law_456 : decode cL_law 456 = .ok (.invokestatic 110, 3) := by decide +kernel
theorem dL_law_459 : decode cL_law 459 = .ok (.ldc 20, 2) := by decide +kernel
theorem dL_law_461 : decode cL_law 461 = .ok (.if_icmp .ne 40, 3) := by decide +kernel
theorem dL_law_464 : decode cL_law 464 = .ok (.aload_n 1, 1) := by decide +kernel
theorem dL_law_465 : decode cL_law 465 = .ok (.iconst 0, 1) := by decide +kernel
theorem dL_law_466 : decode cL_law 466 = .ok (.iconst 0, 1) := by decide +kernel
theorem dL_law_467 : decode cL_law 467 = .ok (.iconst 4, 1) := by decide +kernel
theorem dL_law_468 : decode cL_law 468 = .ok (.invokestatic 110, 3) := by decide +kernel
theorem dL_law_471 : decode cL_law 471 = .ok (.ldc 17, 2) := by decide +kernel
theorem dL_law_473 : decode cL_law 473 = .ok (.if_icmp .ne 28, 3) := by decide +kernel
theorem dL_law_476 : decode cL_law 476 = .ok (.aload_n 1, 1) := by decide +kernel
theorem dL_law_477 : decode cL_law 477 = .ok (.iconst 0, 1) := by decide +kernel
theorem dL_law_478 : decode cL_law 478 = .ok (.iconst 0, 1) := by decide +kernel
theorem dL_law_479 : decode cL_law 479 = .ok (.invokestatic 113, 3) := by decide +kernel
theorem dL_law_482 : decode cL_law 482 = .ok (.ldc 20, 2) := by decide +kernel
theorem dL_law_484 : decode cL_law 484 = .ok (.if_icmp .ne 17, 3) := by decide +kernel
theorem dL_law_487 : decode cL_law 487 = .ok (.aload_n 1, 1) := by decide +kernel
theorem dL_law_488 : decode cL_law 488 = .ok (.iconst 0, 1) := by decide +kernel
theorem dL_law_489 : decode cL_law 489 = .ok (.invokestatic 115, 3) := by decide +kernel
theorem dL_law_492 : decode cL_law 492 = .ok (.ldc 20, 2) := by decide +kernel
theorem dL_law_494 : decode cL_law 494 = .ok (.if_icmp .ne 7, 3) := by decide +kernel
theorem dL_law_497 : decode cL_law 497 = .ok (.iconst 1, 1) := by decide +kernel
theorem dL_law_498 : decode cL_law 498 = .ok (.goto 4, 3) := by decide +kernel
theorem dL_law_501 : decode cL_law 501 = .ok (.iconst 0, 1) := by decide +kernel
theorem dL_law_502 : decode cL_law 502 = .ok (.iand, 1) := by decide +kernel
theorem dL_law_503 : decode cL_law 503 = .ok (.istore_n 2, 1) := by decide +kernel
theorem dL_law_504 : decode cL_law 504 = .ok (.sipush 1000, 3) := by decide +kernel
theorem dL_law_507 : decode cL_law 507 = .ok (.istore 15, 2) := by decide +kernel
theorem dL_law_509 : decode cL_law 509 = .ok (.iconst 0, 1) := by decide +kernel
theorem dL_law_510 : decode cL_law 510 = .ok (.istore 16, 2) := by decide +kernel
theorem dL_law_512 : decode cL_law 512 = .ok (.iload 16, 2) := by decide +kernel
theorem dL_law_514 : decode cL_law 514 = .ok (.bipush 24, 2) := by decide +kernel
theorem dL_law_516 : decode cL_law 516 = .ok (.if_icmp .ge 996, 3) := by decide +kernel
theorem dL_law_519 : decode cL_law 519 = .ok (.aload_n 0, 1) := by decide +kernel
theorem dL_law_520 : decode cL_law 520 = .ok (.bipush 40, 2) := by decide +kernel
theorem dL_law_522 : decode cL_law 522 = .ok (.iload 16, 2) := by decide +kernel
theorem dL_law_524 : decode cL_law 524 = .ok (.iadd, 1) := by decide +kernel
theorem dL_law_525 : decode cL_law 525 = .ok (.iconst 3, 1) := by decide +kernel
theorem dL_law_526 : decode cL_law 526 = .ok (.invokestatic 95, 3) := by decide +kernel
theorem dL_law_529 : decode cL_law 529 = .ok (.istore 17, 2) := by decide +kernel
theorem dL_law_531 : decode cL_law 531 = .ok (.aload_n 0, 1) := by decide +kernel
theorem dL_law_532 : decode cL_law 532 = .ok (.bipush 70, 2) := by decide +kernel
theorem dL_law_534 : decode cL_law 534 = .ok (.iload 16, 2) := by decide +kernel
theorem dL_law_536 : decode cL_law 536 = .ok (.iadd, 1) := by decide +kernel
theorem dL_law_537 : decode cL_law 537 = .ok (.bipush 7, 2) := by decide +kernel
theorem dL_law_539 : decode cL_law 539 = .ok (.invokestatic 95, 3) := by decide +kernel
theorem dL_law_542 : decode cL_law 542 = .ok (.istore 18, 2) := by decide +kernel
theorem dL_law_544 : decode cL_law 544 = .ok (.aload_n 0, 1) := by decide +kernel
theorem dL_law_545 : decode cL_law 545 = .ok (.bipush 100, 2) := by decide +kernel
theorem dL_law_547 : decode cL_law 547 = .ok (.iload 16, 2) := by decide +kernel
theorem dL_law_549 : decode cL_law 549 = .ok (.iadd, 1) := by decide +kernel
theorem dL_law_550 : decode cL_law 550 = .ok (.iconst 5, 1) := by decide +kernel
theorem dL_law_551 : decode cL_law 551 = .ok (.invokestatic 95, 3) := by decide +kernel
theorem dL_law_554 : decode cL_law 554 = .ok (.istore 19, 2) := by decide +kernel
theorem dL_law_556 : decode cL_law 556 = .ok (.aload_n 0, 1) := by decide +kernel
theorem dL_law_557 : decode cL_law 557 = .ok (.sipush 130, 3) := by decide +kernel
theorem dL_law_560 : decode cL_law 560 = .ok (.iload 16, 2) := by decide +kernel
theorem dL_law_562 : decode cL_law 562 = .ok (.iadd, 1) := by decide +kernel
theorem dL_law_563 : decode cL_law 563 = .ok (.bipush 101, 2) := by decide +kernel
theorem dL_law_565 : decode cL_law 565 = .ok (.invokestatic 95, 3) := by decide +kernel
theorem dL_law_568 : decode cL_law 568 = .ok (.istore 20, 2) := by decide +kernel
theorem dL_law_570 : decode cL_law 570 = .ok (.iload 18, 2) := by decide +kernel
theorem dL_law_572 : decode cL_law 572 = .ok (.iconst 2, 1) := by decide +kernel
theorem dL_law_573 : decode cL_law 573 = .ok (.if_icmp .ge 45, 3) := by decide +kernel
theorem dL_law_576 : decode cL_law 576 = .ok (.iload_n 2, 1) := by decide +kernel
theorem dL_law_577 : decode cL_law 577 = .ok (.aload_n 1, 1) := by decide +kernel
theorem dL_law_578 : decode cL_law 578 = .ok (.iload 17, 2) := by decide +kernel
theorem dL_law_580 : decode cL_law 580 = .ok (.iload 19, 2) := by decide +kernel
theorem dL_law_582 : decode cL_law 582 = .ok (.iload 20, 2) := by decide +kernel
theorem dL_law_584 : decode cL_law 584 = .ok (.invokestatic 117, 3) := by decide +kernel
theorem dL_law_587 : decode cL_law 587 = .ok (.aload 8, 2) := by decide +kernel
theorem dL_law_589 : decode cL_law 589 = .ok (.iload 17, 2) := by decide +kernel
theorem dL_law_591 : decode cL_law 591 = .ok (.aaload, 1) := by decide +kernel
theorem dL_law_592 : decode cL_law 592 = .ok (.iload 19, 2) := by decide +kernel
theorem dL_law_594 : decode cL_law 594 = .ok (.iaload, 1) := by decide +kernel
theorem dL_law_595 : decode cL_law 595 = .ok (.if_icmp .ne 7, 3) := by decide +kernel
theorem dL_law_598 : decode cL_law 598 = .ok (.iconst 1, 1) := by decide +kernel
theorem dL_law_599 : decode cL_law 599 = .ok (.goto 4, 3) := by decide +kernel
theorem dL_law_602 : decode cL_law 602 = .ok (.iconst 0, 1) := by decide +kernel
theorem dL_law_603 : decode cL_law 603 = .ok (.iand, 1) := by decide +kernel
theorem dL_law_604 : decode cL_law 604 = .ok (.istore_n 2, 1) := by decide +kernel
theorem dL_law_605 : decode cL_law 605 = .ok (.aload 8, 2) := by decide +kernel
theorem dL_law_607 : decode cL_law 607 = .ok (.iload 17, 2) := by decide +kernel
theorem dL_law_609 : decode cL_law 609 = .ok (.aaload, 1) := by decide +kernel
theorem dL_law_610 : decode cL_law 610 = .ok (.iload 19, 2) := by decide +kernel
theorem dL_law_612 : decode cL_law 612 = .ok (.iload 20, 2) := by decide +kernel
theorem dL_law_614 : decode cL_law 614 = .ok (.iastore, 1) := by decide +kernel
theorem dL_law_615 : decode cL_law 615 = .ok (.goto 671, 3) := by decide +kernel
theorem dL_law_618 : decode cL_law 618 = .ok (.iload 18, 2) := by decide +kernel
theorem dL_law_620 : decode cL_law 620 = .ok (.iconst 2, 1) := by decide +kernel
theorem dL_law_621 : decode cL_law 621 = .ok (.if_icmp .ne 86, 3) := by decide +kernel
theorem dL_law_624 : decode cL_law 624 = .ok (.aload 9, 2) := by decide +kernel
theorem dL_law_626 : decode cL_law 626 = .ok (.iload 17, 2) := by decide +kernel
theorem dL_law_628 : decode cL_law 628 = .ok (.aaload, 1) := by decide +kernel
theorem dL_law_629 : decode cL_law 629 = .ok (.iload 19, 2) := by decide +kernel
theorem dL_law_631 : decode cL_law 631 = .ok (.iaload, 1) := by decide +kernel
theorem dL_law_632 : decode cL_law 632 = .ok (.ifCond .ge 14, 3) := by decide +kernel
theorem dL_law_635 : decode cL_law 635 = .ok (.aload 8, 2) := by decide +kernel
theorem dL_law_637 : decode cL_law 637 = .ok (.iload 17, 2) := by decide +kernel
theorem dL_law_639 : decode cL_law 639 = .ok (.aaload, 1) := by decide +kernel
theorem dL_law_640 : decode cL_law 640 = .ok (.iload 19, 2) := by decide +kernel
theorem dL_law_642 : decode cL_law 642 = .ok (.iaload, 1) := by decide +kernel
theorem dL_law_643 : decode cL_law 643 = .ok (.goto 11, 3) := by decide +kernel
theorem dL_law_646 : decode cL_law 646 = .ok (.aload 9, 2) := by decide +kernel
theorem dL_law_648 : decode cL_law 648 = .ok (.iload 17, 2) := by decide +kernel
theorem dL_law_650 : decode cL_law 650 = .ok (.aaload, 1) := by decide +kernel
theorem dL_law_651 : decode cL_law 651 = .ok (.iload 19, 2) := by decide +kernel
theorem dL_law_653 : decode cL_law 653 = .ok (.iaload, 1) := by decide +kernel
theorem dL_law_654 : decode cL_law 654 = .ok (.istore 21, 2) := by decide +kernel
theorem dL_law_656 : decode cL_law 656 = .ok (.iload 20, 2) := by decide +kernel
theorem dL_law_658 : decode cL_law 658 = .ok (.bipush 80, 2) := by decide +kernel
theorem dL_law_660 : decode cL_law 660 = .ok (.if_icmp .le 7, 3) := by decide +kernel
theorem dL_law_663 : decode cL_law 663 = .ok (.iconst (-1), 1) := by decide +kernel
theorem dL_law_664 : decode cL_law 664 = .ok (.goto 5, 3) := by decide +kernel
theorem dL_law_667 : decode cL_law 667 = .ok (.iload 20, 2) := by decide +kernel
theorem dL_law_669 : decode cL_law 669 = .ok (.istore 22, 2) := by decide +kernel
theorem dL_law_671 : decode cL_law 671 = .ok (.iload_n 2, 1) := by decide +kernel
theorem dL_law_672 : decode cL_law 672 = .ok (.aload_n 1, 1) := by decide +kernel
theorem dL_law_673 : decode cL_law 673 = .ok (.iload 17, 2) := by decide +kernel
theorem dL_law_675 : decode cL_law 675 = .ok (.iload 19, 2) := by decide +kernel
theorem dL_law_677 : decode cL_law 677 = .ok (.iload 22, 2) := by decide +kernel
theorem dL_law_679 : decode cL_law 679 = .ok (.invokestatic 119, 3) := by decide +kernel
theorem dL_law_682 : decode cL_law 682 = .ok (.iload 21, 2) := by decide +kernel
theorem dL_law_684 : decode cL_law 684 = .ok (.if_icmp .ne 7, 3) := by decide +kernel
theorem dL_law_687 : decode cL_law 687 = .ok (.iconst 1, 1) := by decide +kernel
theorem dL_law_688 : decode cL_law 688 = .ok (.goto 4, 3) := by decide +kernel
theorem dL_law_691 : decode cL_law 691 = .ok (.iconst 0, 1) := by decide +kernel
theorem dL_law_692 : decode cL_law 692 = .ok (.iand, 1) := by decide +kernel
theorem dL_law_693 : decode cL_law 693 = .ok (.istore_n 2, 1) := by decide +kernel
theorem dL_law_694 : decode cL_law 694 = .ok (.aload 9, 2) := by decide +kernel
theorem dL_law_696 : decode cL_law 696 = .ok (.iload 17, 2) := by decide +kernel
theorem dL_law_698 : decode cL_law 698 = .ok (.aaload, 1) := by decide +kernel
theorem dL_law_699 : decode cL_law 699 = .ok (.iload 19, 2) := by decide +kernel
theorem dL_law_701 : decode cL_law 701 = .ok (.iload 22, 2) := by decide +kernel
theorem dL_law_703 : decode cL_law 703 = .ok (.iastore, 1) := by decide +kernel
theorem dL_law_704 : decode cL_law 704 = .ok (.goto 582, 3) := by decide +kernel
theorem dL_law_707 : decode cL_law 707 = .ok (.iload 18, 2) := by decide +kernel
theorem dL_law_709 : decode cL_law 709 = .ok (.bipush 6, 2) := by decide +kernel
theorem dL_law_711 : decode cL_law 711 = .ok (.if_icmp .ne 97, 3) := by decide +kernel
theorem dL_law_714 : decode cL_law 714 = .ok (.iinc 14 1, 3) := by decide +kernel
theorem dL_law_717 : decode cL_law 717 = .ok (.iload_n 2, 1) := by decide +kernel
theorem dL_law_718 : decode cL_law 718 = .ok (.aload_n 1, 1) := by decide +kernel
theorem dL_law_719 : decode cL_law 719 = .ok (.invokestatic 121, 3) := by decide +kernel
theorem dL_law_722 : decode cL_law 722 = .ok (.iload 14, 2) := by decide +kernel
theorem dL_law_724 : decode cL_law 724 = .ok (.if_icmp .ne 16, 3) := by decide +kernel
theorem dL_law_727 : decode cL_law 727 = .ok (.aload_n 1, 1) := by decide +kernel
theorem dL_law_728 : decode cL_law 728 = .ok (.invokevirtual 124, 3) := by decide +kernel
theorem dL_law_731 : decode cL_law 731 = .ok (.iload 14, 2) := by decide +kernel
theorem dL_law_733 : decode cL_law 733 = .ok (.if_icmp .ne 7, 3) := by decide +kernel
theorem dL_law_736 : decode cL_law 736 = .ok (.iconst 1, 1) := by decide +kernel
theorem dL_law_737 : decode cL_law 737 = .ok (.goto 4, 3) := by decide +kernel
theorem dL_law_740 : decode cL_law 740 = .ok (.iconst 0, 1) := by decide +kernel
theorem dL_law_741 : decode cL_law 741 = .ok (.iand, 1) := by decide +kernel
theorem dL_law_742 : decode cL_law 742 = .ok (.istore_n 2, 1) := by decide +kernel
theorem dL_law_743 : decode cL_law 743 = .ok (.iconst 0, 1) := by decide +kernel
theorem dL_law_744 : decode cL_law 744 = .ok (.istore 21, 2) := by decide +kernel
theorem dL_law_746 : decode cL_law 746 = .ok (.iload 21, 2) := by decide +kernel
theorem dL_law_748 : decode cL_law 748 = .ok (.iconst 3, 1) := by decide +kernel
theorem dL_law_749 : decode cL_law 749 = .ok (.if_icmp .ge 56, 3) := by decide +kernel
theorem dL_law_752 : decode cL_law 752 = .ok (.aload 12, 2) := by decide +kernel
theorem dL_law_754 : decode cL_law 754 = .ok (.iload 21, 2) := by decide +kernel
theorem dL_law_756 : decode cL_law 756 = .ok (.iaload, 1) := by decide +kernel
theorem dL_law_757 : decode cL_law 757 = .ok (.bipush 120, 2) := by decide +kernel
theorem dL_law_759 : decode cL_law 759 = .ok (.if_icmp .ne 17, 3) := by decide +kernel
theorem dL_law_762 : decode cL_law 762 = .ok (.aload 13, 2) := by decide +kernel
theorem dL_law_764 : decode cL_law 764 = .ok (.iload 21, 2) := by decide +kernel
theorem dL_law_766 : decode cL_law 766 = .ok (.iaload, 1) := by decide +kernel
theorem dL_law_767 : decode cL_law 767 = .ok (.iload 14, 2) := by decide +kernel
theorem dL_law_769 : decode cL_law 769 = .ok (.if_icmp .ne 7, 3) := by decide +kernel
theorem dL_law_772 : decode cL_law 772 = .ok (.iconst 1, 1) := by decide +kernel
theorem dL_law_773 : decode cL_law 773 = .ok (.goto 4, 3) := by decide +kernel
theorem dL_law_776 : decode cL_law 776 = .ok (.iconst 0, 1) := by decide +kernel
theorem dL_law_777 : decode cL_law 777 = .ok (.istore 22, 2) := by decide +kernel
theorem dL_law_779 : decode cL_law 779 = .ok (.aload 12, 2) := by decide +kernel
theorem dL_law_781 : decode cL_law 781 = .ok (.iload 21, 2) := by decide +kernel
theorem dL_law_783 : decode cL_law 783 = .ok (.iload 22, 2) := by decide +kernel
theorem dL_law_785 : decode cL_law 785 = .ok (.ifCond .eq 8, 3) := by decide +kernel
theorem dL_law_788 : decode cL_law 788 = .ok (.bipush 45, 2) := by decide +kernel
theorem dL_law_790 : decode cL_law 790 = .ok (.goto 8, 3) := by decide +kernel
theorem dL_law_793 : decode cL_law 793 = .ok (.aload 12, 2) := by decide +kernel
theorem dL_law_795 : decode cL_law 795 = .ok (.iload 21, 2) := by decide +kernel
theorem dL_law_797 : decode cL_law 797 = .ok (.iaload, 1) := by decide +kernel
theorem dL_law_798 : decode cL_law 798 = .ok (.iastore, 1) := by decide +kernel
theorem dL_law_799 : decode cL_law 799 = .ok (.iinc 21 1, 3) := by decide +kernel
theorem dL_law_802 : decode cL_law 802 = .ok (.goto (-56), 3) := by decide +kernel
theorem dL_law_805 : decode cL_law 805 = .ok (.goto 481, 3) := by decide +kernel
theorem dL_law_808 : decode cL_law 808 = .ok (.iload 18, 2) := by decide +kernel
theorem dL_law_810 : decode cL_law 810 = .ok (.iconst 5, 1) := by decide +kernel
theorem dL_law_811 : decode cL_law 811 = .ok (.if_icmp .ge 7, 3) := by decide +kernel
theorem dL_law_814 : decode cL_law 814 = .ok (.iconst 1, 1) := by decide +kernel
theorem dL_law_815 : decode cL_law 815 = .ok (.goto 4, 3) := by decide +kernel
theorem dL_law_818 : decode cL_law 818 = .ok (.iconst 0, 1) := by decide +kernel
theorem dL_law_819 : decode cL_law 819 = .ok (.istore 21, 2) := by decide +kernel
theorem dL_law_821 : decode cL_law 821 = .ok (.iload 21, 2) := by decide +kernel
theorem dL_law_823 : decode cL_law 823 = .ok (.ifCond .eq 21, 3) := by decide +kernel
theorem dL_law_826 : decode cL_law 826 = .ok (.aload 12, 2) := by decide +kernel
theorem dL_law_828 : decode cL_law 828 = .ok (.iload 17, 2) := by decide +kernel
theorem dL_law_830 : decode cL_law 830 = .ok (.iaload, 1) := by decide +kernel
theorem dL_law_831 : decode cL_law 831 = .ok (.bipush 120, 2) := by decide +kernel
theorem dL_law_833 : decode cL_law 833 = .ok (.if_icmp .eq 7, 3) := by decide +kernel
theorem dL_law_836 : decode cL_law 836 = .ok (.iconst 1, 1) := by decide +kernel
theorem dL_law_837 : decode cL_law 837 = .ok (.goto 39, 3) := by decide +kernel
theorem dL_law_840 : decode cL_law 840 = .ok (.iconst 0, 1) := by decide +kernel
theorem dL_law_841 : decode cL_law 841 = .ok (.goto 35, 3) := by decide +kernel
theorem dL_law_844 : decode cL_law 844 = .ok (.aload 12, 2) := by decide +kernel
theorem dL_law_846 : decode cL_law 846 = .ok (.iload 17, 2) := by decide +kernel
theorem dL_law_848 : decode cL_law 848 = .ok (.iaload, 1) := by decide +kernel
theorem dL_law_849 : decode cL_law 849 = .ok (.bipush 110, 2) := by decide +kernel
theorem dL_law_851 : decode cL_law 851 = .ok (.if_icmp .eq 13, 3) := by decide +kernel
theorem dL_law_854 : decode cL_law 854 = .ok (.aload 12, 2) := by decide +kernel
theorem dL_law_856 : decode cL_law 856 = .ok (.iload 17, 2) := by decide +kernel
theorem dL_law_858 : decode cL_law 858 = .ok (.iaload, 1) := by decide +kernel
theorem dL_law_859 : decode cL_law 859 = .ok (.bipush 99, 2) := by decide +kernel
theorem dL_law_861 : decode cL_law 861 = .ok (.if_icmp .ne 14, 3) := by decide +kernel
theorem dL_law_864 : decode cL_law 864 = .ok (.iload 15, 2) := by decide +kernel
theorem dL_law_866 : decode cL_law 866 = .ok (.bipush 100, 2) := by decide +kernel
theorem dL_law_868 : decode cL_law 868 = .ok (.if_icmp .lt 7, 3) := by decide +kernel
theorem dL_law_871 : decode cL_law 871 = .ok (.iconst 1, 1) := by decide +kernel
theorem dL_law_872 : decode cL_law 872 = .ok (.goto 4, 3) := by decide +kernel
theorem dL_law_875 : decode cL_law 875 = .ok (.iconst 0, 1) := by decide +kernel
theorem dL_law_876 : decode cL_law 876 = .ok (.istore 22, 2) := by decide +kernel
theorem dL_law_878 : decode cL_law 878 = .ok (.aload 11, 2) := by decide +kernel
theorem dL_law_880 : decode cL_law 880 = .ok (.iload 17, 2) := by decide +kernel
theorem dL_law_882 : decode cL_law 882 = .ok (.iaload, 1) := by decide +kernel
theorem dL_law_883 : decode cL_law 883 = .ok (.istore 23, 2) := by decide +kernel
theorem dL_law_885 : decode cL_law 885 = .ok (.iconst 0, 1) := by decide +kernel
theorem dL_law_886 : decode cL_law 886 = .ok (.istore 24, 2) := by decide +kernel
theorem dL_law_888 : decode cL_law 888 = .ok (.iload 22, 2) := by decide +kernel
theorem dL_law_890 : decode cL_law 890 = .ok (.ifCond .eq 262, 3) := by decide +kernel
theorem dL_law_893 : decode cL_law 893 = .ok (.iconst 0, 1) := by decide +kernel
theorem dL_law_894 : decode cL_law 894 = .ok (.istore 25, 2) := by decide +kernel
theorem dL_law_896 : decode cL_law 896 = .ok (.iload 25, 2) := by decide +kernel
theorem dL_law_898 : decode cL_law 898 = .ok (.iconst 5, 1) := by decide +kernel
theorem dL_law_899 : decode cL_law 899 = .ok (.if_icmp .ge 87, 3) := by decide +kernel
theorem dL_law_902 : decode cL_law 902 = .ok (.iload 21, 2) := by decide +kernel
theorem dL_law_904 : decode cL_law 904 = .ok (.ifCond .eq 25, 3) := by decide +kernel
theorem dL_law_907 : decode cL_law 907 = .ok (.aload 9, 2) := by decide +kernel
theorem dL_law_909 : decode cL_law 909 = .ok (.iload 17, 2) := by decide +kernel
theorem dL_law_911 : decode cL_law 911 = .ok (.aaload, 1) := by decide +kernel
theorem dL_law_912 : decode cL_law 912 = .ok (.iload 25, 2) := by decide +kernel
theorem dL_law_914 : decode cL_law 914 = .ok (.iaload, 1) := by decide +kernel
theorem dL_law_915 : decode cL_law 915 = .ok (.ifCond .lt 14, 3) := by decide +kernel
theorem dL_law_918 : decode cL_law 918 = .ok (.aload 9, 2) := by decide +kernel
theorem dL_law_920 : decode cL_law 920 = .ok (.iload 17, 2) := by decide +kernel
theorem dL_law_922 : decode cL_law 922 = .ok (.aaload, 1) := by decide +kernel
theorem dL_law_923 : decode cL_law 923 = .ok (.iload 25, 2) := by decide +kernel
theorem dL_law_925 : decode cL_law 925 = .ok (.iaload, 1) := by decide +kernel
theorem dL_law_926 : decode cL_law 926 = .ok (.goto 11, 3) := by decide +kernel
theorem dL_law_929 : decode cL_law 929 = .ok (.aload 8, 2) := by decide +kernel
theorem dL_law_931 : decode cL_law 931 = .ok (.iload 17, 2) := by decide +kernel
theorem dL_law_933 : decode cL_law 933 = .ok (.aaload, 1) := by decide +kernel
theorem dL_law_934 : decode cL_law 934 = .ok (.iload 25, 2) := by decide +kernel
theorem dL_law_936 : decode cL_law 936 = .ok (.iaload, 1) := by decide +kernel
theorem dL_law_937 : decode cL_law 937 = .ok (.istore 26, 2) := by decide +kernel
theorem dL_law_939 : decode cL_law 939 = .ok (.iload 24, 2) := by decide +kernel
theorem dL_law_941 : decode cL_law 941 = .ok (.iload 21, 2) := by decide +kernel
theorem dL_law_943 : decode cL_law 943 = .ok (.ifCond .ne 23, 3) := by decide +kernel
theorem dL_law_946 : decode cL_law 946 = .ok (.iload 26, 2) := by decide +kernel
theorem dL_law_948 : decode cL_law 948 = .ok (.aload 10, 2) := by decide +kernel
theorem dL_law_950 : decode cL_law 950 = .ok (.iload 17, 2) := by decide +kernel
theorem dL_law_952 : decode cL_law 952 = .ok (.aaload, 1) := by decide +kernel
theorem dL_law_953 : decode cL_law 953 = .ok (.iload 25, 2) := by decide +kernel
theorem dL_law_955 : decode cL_law 955 = .ok (.iaload, 1) := by decide +kernel
theorem dL_law_956 : decode cL_law 956 = .ok (.bipush 20, 2) := by decide +kernel
theorem dL_law_958 : decode cL_law 958 = .ok (.iadd, 1) := by decide +kernel
theorem dL_law_959 : decode cL_law 959 = .ok (.if_icmp .le 7, 3) := by decide +kernel
theorem dL_law_962 : decode cL_law 962 = .ok (.iconst 1, 1) := by decide +kernel
theorem dL_law_963 : decode cL_law 963 = .ok (.goto 4, 3) := by decide +kernel
theorem dL_law_966 : decode cL_law 966 = .ok (.iconst 0, 1) := by decide +kernel
theorem dL_law_967 : decode cL_law 967 = .ok (.ior, 1) := by decide +kernel
theorem dL_law_968 : decode cL_law 968 = .ok (.istore 24, 2) := by decide +kernel
theorem dL_law_970 : decode cL_law 970 = .ok (.aload 10, 2) := by decide +kernel
theorem dL_law_972 : decode cL_law 972 = .ok (.iload 17, 2) := by decide +kernel
theorem dL_law_974 : decode cL_law 974 = .ok (.aaload, 1) := by decide +kernel
theorem dL_law_975 : decode cL_law 975 = .ok (.iload 25, 2) := by decide +kernel
theorem dL_law_977 : decode cL_law 977 = .ok (.iload 26, 2) := by decide +kernel
theorem dL_law_979 : decode cL_law 979 = .ok (.iastore, 1) := by decide +kernel
theorem dL_law_980 : decode cL_law 980 = .ok (.iinc 25 1, 3) := by decide +kernel
theorem dL_law_983 : decode cL_law 983 = .ok (.goto (-87), 3) := by decide +kernel
theorem dL_law_986 : decode cL_law 986 = .ok (.iconst (-1), 1) := by decide +kernel
theorem dL_law_987 : decode cL_law 987 = .ok (.istore 25, 2) := by decide +kernel
theorem dL_law_989 : decode cL_law 989 = .ok (.iload_n 3, 1) := by decide +kernel
theorem dL_law_990 : decode cL_law 990 = .ok (.iconst 1, 1) := by decide +kernel
theorem dL_law_991 : decode cL_law 991 = .ok (.isub, 1) := by decide +kernel
theorem dL_law_992 : decode cL_law 992 = .ok (.istore 26, 2) := by decide +kernel
theorem dL_law_994 : decode cL_law 994 = .ok (.iload 26, 2) := by decide +kernel
theorem dL_law_996 : decode cL_law 996 = .ok (.ifCond .lt 94, 3) := by decide +kernel
theorem dL_law_999 : decode cL_law 999 = .ok (.iconst 0, 1) := by decide +kernel
theorem dL_law_1000 : decode cL_law 1000 = .ok (.istore 27, 2) := by decide +kernel
theorem dL_law_1002 : decode cL_law 1002 = .ok (.iconst 0, 1) := by decide +kernel
theorem dL_law_1003 : decode cL_law 1003 = .ok (.istore 28, 2) := by decide +kernel
theorem dL_law_1005 : decode cL_law 1005 = .ok (.iload 28, 2) := by decide +kernel
theorem dL_law_1007 : decode cL_law 1007 = .ok (.iconst 5, 1) := by decide +kernel
theorem dL_law_1008 : decode cL_law 1008 = .ok (.if_icmp .ge 25, 3) := by decide +kernel
theorem dL_law_1011 : decode cL_law 1011 = .ok (.iload 27, 2) := by decide +kernel
theorem dL_law_1013 : decode cL_law 1013 = .ok (.bipush 100, 2) := by decide +kernel
theorem dL_law_1015 : decode cL_law 1015 = .ok (.aload 10, 2) := by decide +kernel
theorem dL_law_1017 : decode cL_law 1017 = .ok (.iload 17, 2) := by decide +kernel
theorem dL_law_1019 : decode cL_law 1019 = .ok (.aaload, 1) := by decide +kernel
theorem dL_law_1020 : decode cL_law 1020 = .ok (.iload 28, 2) := by decide +kernel
theorem dL_law_1022 : decode cL_law 1022 = .ok (.iaload, 1) := by decide +kernel
theorem dL_law_1023 : decode cL_law 1023 = .ok (.isub, 1) := by decide +kernel
theorem dL_law_1024 : decode cL_law 1024 = .ok (.iadd, 1) := by decide +kernel
theorem dL_law_1025 : decode cL_law 1025 = .ok (.istore 27, 2) := by decide +kernel
theorem dL_law_1027 : decode cL_law 1027 = .ok (.iinc 28 1, 3) := by decide +kernel
theorem dL_law_1030 : decode cL_law 1030 = .ok (.goto (-25), 3) := by decide +kernel
theorem dL_law_1033 : decode cL_law 1033 = .ok (.bipush 100, 2) := by decide +kernel
theorem dL_law_1035 : decode cL_law 1035 = .ok (.aload 10, 2) := by decide +kernel
theorem dL_law_1037 : decode cL_law 1037 = .ok (.iload 17, 2) := by decide +kernel
theorem dL_law_1039 : decode cL_law 1039 = .ok (.aaload, 1) := by decide +kernel
theorem dL_law_1040 : decode cL_law 1040 = .ok (.aload 4, 2) := by decide +kernel
theorem dL_law_1042 : decode cL_law 1042 = .ok (.iload 26, 2) := by decide +kernel
theorem dL_law_1044 : decode cL_law 1044 = .ok (.iaload, 1) := by decide +kernel
theorem dL_law_1045 : decode cL_law 1045 = .ok (.iaload, 1) := by decide +kernel
theorem dL_law_1046 : decode cL_law 1046 = .ok (.isub, 1) := by decide +kernel
theorem dL_law_1047 : decode cL_law 1047 = .ok (.aload 5, 2) := by decide +kernel
theorem dL_law_1049 : decode cL_law 1049 = .ok (.iload 26, 2) := by decide +kernel
theorem dL_law_1051 : decode cL_law 1051 = .ok (.iaload, 1) := by decide +kernel
theorem dL_law_1052 : decode cL_law 1052 = .ok (.if_icmp .lt 28, 3) := by decide +kernel
theorem dL_law_1055 : decode cL_law 1055 = .ok (.iload 27, 2) := by decide +kernel
theorem dL_law_1057 : decode cL_law 1057 = .ok (.aload 6, 2) := by decide +kernel
theorem dL_law_1059 : decode cL_law 1059 = .ok (.iload 26, 2) := by decide +kernel
theorem dL_law_1061 : decode cL_law 1061 = .ok (.iaload, 1) := by decide +kernel
theorem dL_law_1062 : decode cL_law 1062 = .ok (.if_icmp .lt 18, 3) := by decide +kernel
theorem dL_law_1065 : decode cL_law 1065 = .ok (.iload 27, 2) := by decide +kernel
theorem dL_law_1067 : decode cL_law 1067 = .ok (.aload 7, 2) := by decide +kernel
theorem dL_law_1069 : decode cL_law 1069 = .ok (.iload 26, 2) := by decide +kernel
theorem dL_law_1071 : decode cL_law 1071 = .ok (.iaload, 1) := by decide +kernel
theorem dL_law_1072 : decode cL_law 1072 = .ok (.if_icmp .gt 8, 3) := by decide +kernel
theorem dL_law_1075 : decode cL_law 1075 = .ok (.iload 26, 2) := by decide +kernel
theorem dL_law_1077 : decode cL_law 1077 = .ok (.goto 5, 3) := by decide +kernel
theorem dL_law_1080 : decode cL_law 1080 = .ok (.iload 25, 2) := by decide +kernel
theorem dL_law_1082 : decode cL_law 1082 = .ok (.istore 25, 2) := by decide +kernel
theorem dL_law_1084 : decode cL_law 1084 = .ok (.iinc 26 (-1), 3) := by decide +kernel
theorem dL_law_1087 : decode cL_law 1087 = .ok (.goto (-93), 3) := by decide +kernel
theorem dL_law_1090 : decode cL_law 1090 = .ok (.aload 11, 2) := by decide +kernel
theorem dL_law_1092 : decode cL_law 1092 = .ok (.iload 17, 2) := by decide +kernel
theorem dL_law_1094 : decode cL_law 1094 = .ok (.iload 24, 2) := by decide +kernel
theorem dL_law_1096 : decode cL_law 1096 = .ok (.ifCond .eq 7, 3) := by decide +kernel
theorem dL_law_1099 : decode cL_law 1099 = .ok (.iconst (-1), 1) := by decide +kernel
theorem dL_law_1100 : decode cL_law 1100 = .ok (.goto 5, 3) := by decide +kernel
theorem dL_law_1103 : decode cL_law 1103 = .ok (.iload 25, 2) := by decide +kernel
theorem dL_law_1105 : decode cL_law 1105 = .ok (.iastore, 1) := by decide +kernel
theorem dL_law_1106 : decode cL_law 1106 = .ok (.aload 12, 2) := by decide +kernel
theorem dL_law_1108 : decode cL_law 1108 = .ok (.iload 17, 2) := by decide +kernel
theorem dL_law_1110 : decode cL_law 1110 = .ok (.iload 24, 2) := by decide +kernel
theorem dL_law_1112 : decode cL_law 1112 = .ok (.ifCond .eq 8, 3) := by decide +kernel
theorem dL_law_1115 : decode cL_law 1115 = .ok (.bipush 120, 2) := by decide +kernel
theorem dL_law_1117 : decode cL_law 1117 = .ok (.goto 25, 3) := by decide +kernel
theorem dL_law_1120 : decode cL_law 1120 = .ok (.iload 25, 2) := by decide +kernel
theorem dL_law_1122 : decode cL_law 1122 = .ok (.ifCond .ge 8, 3) := by decide +kernel
theorem dL_law_1125 : decode cL_law 1125 = .ok (.bipush 101, 2) := by decide +kernel
theorem dL_law_1127 : decode cL_law 1127 = .ok (.goto 15, 3) := by decide +kernel
theorem dL_law_1130 : decode cL_law 1130 = .ok (.iload 21, 2) := by decide +kernel
theorem dL_law_1132 : decode cL_law 1132 = .ok (.ifCond .eq 8, 3) := by decide +kernel
theorem dL_law_1135 : decode cL_law 1135 = .ok (.bipush 110, 2) := by decide +kernel
theorem dL_law_1137 : decode cL_law 1137 = .ok (.goto 5, 3) := by decide +kernel
theorem dL_law_1140 : decode cL_law 1140 = .ok (.bipush 99, 2) := by decide +kernel
theorem dL_law_1142 : decode cL_law 1142 = .ok (.iastore, 1) := by decide +kernel
theorem dL_law_1143 : decode cL_law 1143 = .ok (.aload 13, 2) := by decide +kernel
theorem dL_law_1145 : decode cL_law 1145 = .ok (.iload 17, 2) := by decide +kernel
theorem dL_law_1147 : decode cL_law 1147 = .ok (.iload 14, 2) := by decide +kernel
theorem dL_law_1149 : decode cL_law 1149 = .ok (.iconst 2, 1) := by decide +kernel
theorem dL_law_1150 : decode cL_law 1150 = .ok (.iadd, 1) := by decide +kernel
theorem dL_law_1151 : decode cL_law 1151 = .ok (.iastore, 1) := by decide +kernel
theorem dL_law_1152 : decode cL_law 1152 = .ok (.iload 21, 2) := by decide +kernel
theorem dL_law_1154 : decode cL_law 1154 = .ok (.ifCond .eq 14, 3) := by decide +kernel
theorem dL_law_1157 : decode cL_law 1157 = .ok (.aload_n 1, 1) := by decide +kernel
theorem dL_law_1158 : decode cL_law 1158 = .ok (.iload 17, 2) := by decide +kernel
theorem dL_law_1160 : decode cL_law 1160 = .ok (.iconst 0, 1) := by decide +kernel
theorem dL_law_1161 : decode cL_law 1161 = .ok (.iconst 1, 1) := by decide +kernel
theorem dL_law_1162 : decode cL_law 1162 = .ok (.invokestatic 110, 3) := by decide +kernel
theorem dL_law_1165 : decode cL_law 1165 = .ok (.goto 10, 3) := by decide +kernel
theorem dL_law_1168 : decode cL_law 1168 = .ok (.aload_n 1, 1) := by decide +kernel
theorem dL_law_1169 : decode cL_law 1169 = .ok (.iconst 5, 1) := by decide +kernel
theorem dL_law_1170 : decode cL_law 1170 = .ok (.iload 17, 2) := by decide +kernel
theorem dL_law_1172 : decode cL_law 1172 = .ok (.invokestatic 113, 3) := by decide +kernel
theorem dL_law_1175 : decode cL_law 1175 = .ok (.istore 25, 2) := by decide +kernel
theorem dL_law_1177 : decode cL_law 1177 = .ok (.aload 11, 2) := by decide +kernel
theorem dL_law_1179 : decode cL_law 1179 = .ok (.iload 17, 2) := by decide +kernel
theorem dL_law_1181 : decode cL_law 1181 = .ok (.iaload, 1) := by decide +kernel
theorem dL_law_1182 : decode cL_law 1182 = .ok (.iload 23, 2) := by decide +kernel
theorem dL_law_1184 : decode cL_law 1184 = .ok (.if_icmp .eq 7, 3) := by decide +kernel
theorem dL_law_1187 : decode cL_law 1187 = .ok (.iconst 1, 1) := by decide +kernel
theorem dL_law_1188 : decode cL_law 1188 = .ok (.goto 4, 3) := by decide +kernel
theorem dL_law_1191 : decode cL_law 1191 = .ok (.iconst 0, 1) := by decide +kernel
theorem dL_law_1192 : decode cL_law 1192 = .ok (.istore 26, 2) := by decide +kernel
theorem dL_law_1194 : decode cL_law 1194 = .ok (.iload 15, 2) := by decide +kernel
theorem dL_law_1196 : decode cL_law 1196 = .ok (.iload 21, 2) := by decide +kernel
theorem dL_law_1198 : decode cL_law 1198 = .ok (.ifCond .ne 18, 3) := by decide +kernel
theorem dL_law_1201 : decode cL_law 1201 = .ok (.iload 22, 2) := by decide +kernel
theorem dL_law_1203 : decode cL_law 1203 = .ok (.ifCond .eq 13, 3) := by decide +kernel
theorem dL_law_1206 : decode cL_law 1206 = .ok (.iload 26, 2) := by decide +kernel
theorem dL_law_1208 : decode cL_law 1208 = .ok (.ifCond .ne 8, 3) := by decide +kernel
theorem dL_law_1211 : decode cL_law 1211 = .ok (.bipush 100, 2) := by decide +kernel
theorem dL_law_1213 : decode cL_law 1213 = .ok (.goto 4, 3) := by decide +kernel
theorem dL_law_1216 : decode cL_law 1216 = .ok (.iconst 0, 1) := by decide +kernel
theorem dL_law_1217 : decode cL_law 1217 = .ok (.isub, 1) := by decide +kernel
theorem dL_law_1218 : decode cL_law 1218 = .ok (.istore 15, 2) := by decide +kernel
theorem dL_law_1220 : decode cL_law 1220 = .ok (.iload_n 2, 1) := by decide +kernel
theorem dL_law_1221 : decode cL_law 1221 = .ok (.iload 25, 2) := by decide +kernel
theorem dL_law_1223 : decode cL_law 1223 = .ok (.iload 22, 2) := by decide +kernel
theorem dL_law_1225 : decode cL_law 1225 = .ok (.ifCond .ne 18, 3) := by decide +kernel
theorem dL_law_1228 : decode cL_law 1228 = .ok (.iload 21, 2) := by decide +kernel
theorem dL_law_1230 : decode cL_law 1230 = .ok (.ifCond .eq 8, 3) := by decide +kernel
theorem dL_law_1233 : decode cL_law 1233 = .ok (.ldc 36, 2) := by decide +kernel
theorem dL_law_1235 : decode cL_law 1235 = .ok (.goto 31, 3) := by decide +kernel
theorem dL_law_1238 : decode cL_law 1238 = .ok (.ldc 20, 2) := by decide +kernel
theorem dL_law_1240 : decode cL_law 1240 = .ok (.goto 26, 3) := by decide +kernel
theorem dL_law_1243 : decode cL_law 1243 = .ok (.iload 21, 2) := by decide +kernel
theorem dL_law_1245 : decode cL_law 1245 = .ok (.ifCond .eq 11, 3) := by decide +kernel
theorem dL_law_1248 : decode cL_law 1248 = .ok (.aload 12, 2) := by decide +kernel
theorem dL_law_1250 : decode cL_law 1250 = .ok (.iload 17, 2) := by decide +kernel
theorem dL_law_1252 : decode cL_law 1252 = .ok (.iaload, 1) := by decide +kernel
theorem dL_law_1253 : decode cL_law 1253 = .ok (.goto 13, 3) := by decide +kernel
theorem dL_law_1256 : decode cL_law 1256 = .ok (.iload 26, 2) := by decide +kernel
theorem dL_law_1258 : decode cL_law 1258 = .ok (.ifCond .eq 7, 3) := by decide +kernel
theorem dL_law_1261 : decode cL_law 1261 = .ok (.iconst 1, 1) := by decide +kernel
theorem dL_law_1262 : decode cL_law 1262 = .ok (.goto 4, 3) := by decide +kernel
theorem dL_law_1265 : decode cL_law 1265 = .ok (.iconst 0, 1) := by decide +kernel
theorem dL_law_1266 : decode cL_law 1266 = .ok (.if_icmp .ne 17, 3) := by decide +kernel
theorem dL_law_1269 : decode cL_law 1269 = .ok (.aload_n 1, 1) := by decide +kernel
theorem dL_law_1270 : decode cL_law 1270 = .ok (.iconst 5, 1) := by decide +kernel
theorem dL_law_1271 : decode cL_law 1271 = .ok (.invokestatic 127, 3) := by decide +kernel
theorem dL_law_1274 : decode cL_law 1274 = .ok (.iload 15, 2) := by decide +kernel
theorem dL_law_1276 : decode cL_law 1276 = .ok (.if_icmp .ne 7, 3) := by decide +kernel
theorem dL_law_1279 : decode cL_law 1279 = .ok (.iconst 1, 1) := by decide +kernel
theorem dL_law_1280 : decode cL_law 1280 = .ok (.goto 4, 3) := by decide +kernel
theorem dL_law_1283 : decode cL_law 1283 = .ok (.iconst 0, 1) := by decide +kernel
theorem dL_law_1284 : decode cL_law 1284 = .ok (.iand, 1) := by decide +kernel
theorem dL_law_1285 : decode cL_law 1285 = .ok (.istore_n 2, 1) := by decide +kernel
theorem dL_law_1286 : decode cL_law 1286 = .ok (.iconst 0, 1) := by decide +kernel
theorem dL_law_1287 : decode cL_law 1287 = .ok (.istore 21, 2) := by decide +kernel
theorem dL_law_1289 : decode cL_law 1289 = .ok (.iload 21, 2) := by decide +kernel
theorem dL_law_1291 : decode cL_law 1291 = .ok (.iconst 3, 1) := by decide +kernel
theorem dL_law_1292 : decode cL_law 1292 = .ok (.if_icmp .ge 74, 3) := by decide +kernel
theorem dL_law_1295 : decode cL_law 1295 = .ok (.iload_n 2, 1) := by decide +kernel
theorem dL_law_1296 : decode cL_law 1296 = .ok (.aload_n 1, 1) := by decide +kernel
theorem dL_law_1297 : decode cL_law 1297 = .ok (.iload 21, 2) := by decide +kernel
theorem dL_law_1299 : decode cL_law 1299 = .ok (.invokestatic 104, 3) := by decide +kernel
theorem dL_law_1302 : decode cL_law 1302 = .ok (.aload 12, 2) := by decide +kernel
theorem dL_law_1304 : decode cL_law 1304 = .ok (.iload 21, 2) := by decide +kernel
theorem dL_law_1306 : decode cL_law 1306 = .ok (.iaload, 1) := by decide +kernel
theorem dL_law_1307 : decode cL_law 1307 = .ok (.if_icmp .ne 50, 3) := by decide +kernel
theorem dL_law_1310 : decode cL_law 1310 = .ok (.aload_n 1, 1) := by decide +kernel
theorem dL_law_1311 : decode cL_law 1311 = .ok (.iload 21, 2) := by decide +kernel
theorem dL_law_1313 : decode cL_law 1313 = .ok (.invokestatic 106, 3) := by decide +kernel
theorem dL_law_1316 : decode cL_law 1316 = .ok (.aload 11, 2) := by decide +kernel
theorem dL_law_1318 : decode cL_law 1318 = .ok (.iload 21, 2) := by decide +kernel
theorem dL_law_1320 : decode cL_law 1320 = .ok (.iaload, 1) := by decide +kernel
theorem dL_law_1321 : decode cL_law 1321 = .ok (.if_icmp .ne 36, 3) := by decide +kernel
theorem dL_law_1324 : decode cL_law 1324 = .ok (.aload_n 1, 1) := by decide +kernel
theorem dL_law_1325 : decode cL_law 1325 = .ok (.iload 21, 2) := by decide +kernel
theorem dL_law_1327 : decode cL_law 1327 = .ok (.invokestatic 108, 3) := by decide +kernel
theorem dL_law_1330 : decode cL_law 1330 = .ok (.aload 12, 2) := by decide +kernel
theorem dL_law_1332 : decode cL_law 1332 = .ok (.iload 21, 2) := by decide +kernel
theorem dL_law_1334 : decode cL_law 1334 = .ok (.iaload, 1) := by decide +kernel
theorem dL_law_1335 : decode cL_law 1335 = .ok (.bipush 120, 2) := by decide +kernel
theorem dL_law_1337 : decode cL_law 1337 = .ok (.if_icmp .ne 11, 3) := by decide +kernel
theorem dL_law_1340 : decode cL_law 1340 = .ok (.aload 13, 2) := by decide +kernel
theorem dL_law_1342 : decode cL_law 1342 = .ok (.iload 21, 2) := by decide +kernel
theorem dL_law_1344 : decode cL_law 1344 = .ok (.iaload, 1) := by decide +kernel
theorem dL_law_1345 : decode cL_law 1345 = .ok (.goto 5, 3) := by decide +kernel
theorem dL_law_1348 : decode cL_law 1348 = .ok (.ldc 20, 2) := by decide +kernel
theorem dL_law_1350 : decode cL_law 1350 = .ok (.if_icmp .ne 7, 3) := by decide +kernel
theorem dL_law_1353 : decode cL_law 1353 = .ok (.iconst 1, 1) := by decide +kernel
theorem dL_law_1354 : decode cL_law 1354 = .ok (.goto 4, 3) := by decide +kernel
theorem dL_law_1357 : decode cL_law 1357 = .ok (.iconst 0, 1) := by decide +kernel
theorem dL_law_1358 : decode cL_law 1358 = .ok (.iand, 1) := by decide +kernel
theorem dL_law_1359 : decode cL_law 1359 = .ok (.istore_n 2, 1) := by decide +kernel
theorem dL_law_1360 : decode cL_law 1360 = .ok (.iinc 21 1, 3) := by decide +kernel
theorem dL_law_1363 : decode cL_law 1363 = .ok (.goto (-74), 3) := by decide +kernel
theorem dL_law_1366 : decode cL_law 1366 = .ok (.iconst (-1), 1) := by decide +kernel
theorem dL_law_1367 : decode cL_law 1367 = .ok (.istore 21, 2) := by decide +kernel
theorem dL_law_1369 : decode cL_law 1369 = .ok (.iconst 0, 1) := by decide +kernel
theorem dL_law_1370 : decode cL_law 1370 = .ok (.istore 22, 2) := by decide +kernel
theorem dL_law_1372 : decode cL_law 1372 = .ok (.iconst 0, 1) := by decide +kernel
theorem dL_law_1373 : decode cL_law 1373 = .ok (.istore 23, 2) := by decide +kernel
theorem dL_law_1375 : decode cL_law 1375 = .ok (.iload 23, 2) := by decide +kernel
theorem dL_law_1377 : decode cL_law 1377 = .ok (.iconst 5, 1) := by decide +kernel
theorem dL_law_1378 : decode cL_law 1378 = .ok (.if_icmp .ge 25, 3) := by decide +kernel
theorem dL_law_1381 : decode cL_law 1381 = .ok (.iload 22, 2) := by decide +kernel
theorem dL_law_1383 : decode cL_law 1383 = .ok (.bipush 100, 2) := by decide +kernel
theorem dL_law_1385 : decode cL_law 1385 = .ok (.aload 8, 2) := by decide +kernel
theorem dL_law_1387 : decode cL_law 1387 = .ok (.iload 17, 2) := by decide +kernel
theorem dL_law_1389 : decode cL_law 1389 = .ok (.aaload, 1) := by decide +kernel
theorem dL_law_1390 : decode cL_law 1390 = .ok (.iload 23, 2) := by decide +kernel
theorem dL_law_1392 : decode cL_law 1392 = .ok (.iaload, 1) := by decide +kernel
theorem dL_law_1393 : decode cL_law 1393 = .ok (.isub, 1) := by decide +kernel
theorem dL_law_1394 : decode cL_law 1394 = .ok (.iadd, 1) := by decide +kernel
theorem dL_law_1395 : decode cL_law 1395 = .ok (.istore 22, 2) := by decide +kernel
theorem dL_law_1397 : decode cL_law 1397 = .ok (.iinc 23 1, 3) := by decide +kernel
theorem dL_law_1400 : decode cL_law 1400 = .ok (.goto (-25), 3) := by decide +kernel
theorem dL_law_1403 : decode cL_law 1403 = .ok (.iload_n 3, 1) := by decide +kernel
theorem dL_law_1404 : decode cL_law 1404 = .ok (.iconst 1, 1) := by decide +kernel
theorem dL_law_1405 : decode cL_law 1405 = .ok (.isub, 1) := by decide +kernel
theorem dL_law_1406 : decode cL_law 1406 = .ok (.istore 23, 2) := by decide +kernel
theorem dL_law_1408 : decode cL_law 1408 = .ok (.iload 23, 2) := by decide +kernel
theorem dL_law_1410 : decode cL_law 1410 = .ok (.ifCond .lt 60, 3) := by decide +kernel
theorem dL_law_1413 : decode cL_law 1413 = .ok (.bipush 100, 2) := by decide +kernel
theorem dL_law_1415 : decode cL_law 1415 = .ok (.aload 8, 2) := by decide +kernel
theorem dL_law_1417 : decode cL_law 1417 = .ok (.iload 17, 2) := by decide +kernel
theorem dL_law_1419 : decode cL_law 1419 = .ok (.aaload, 1) := by decide +kernel
theorem dL_law_1420 : decode cL_law 1420 = .ok (.aload 4, 2) := by decide +kernel
theorem dL_law_1422 : decode cL_law 1422 = .ok (.iload 23, 2) := by decide +kernel
theorem dL_law_1424 : decode cL_law 1424 = .ok (.iaload, 1) := by decide +kernel
theorem dL_law_1425 : decode cL_law 1425 = .ok (.iaload, 1) := by decide +kernel
theorem dL_law_1426 : decode cL_law 1426 = .ok (.isub, 1) := by decide +kernel
theorem dL_law_1427 : decode cL_law 1427 = .ok (.aload 5, 2) := by decide +kernel
theorem dL_law_1429 : decode cL_law 1429 = .ok (.iload 23, 2) := by decide +kernel
theorem dL_law_1431 : decode cL_law 1431 = .ok (.iaload, 1) := by decide +kernel
theorem dL_law_1432 : decode cL_law 1432 = .ok (.if_icmp .lt 28, 3) := by decide +kernel
theorem dL_law_1435 : decode cL_law 1435 = .ok (.iload 22, 2) := by decide +kernel
theorem dL_law_1437 : decode cL_law 1437 = .ok (.aload 6, 2) := by decide +kernel
theorem dL_law_1439 : decode cL_law 1439 = .ok (.iload 23, 2) := by decide +kernel
theorem dL_law_1441 : decode cL_law 1441 = .ok (.iaload, 1) := by decide +kernel
theorem dL_law_1442 : decode cL_law 1442 = .ok (.if_icmp .lt 18, 3) := by decide +kernel
theorem dL_law_1445 : decode cL_law 1445 = .ok (.iload 22, 2) := by decide +kernel
theorem dL_law_1447 : decode cL_law 1447 = .ok (.aload 7, 2) := by decide +kernel
theorem dL_law_1449 : decode cL_law 1449 = .ok (.iload 23, 2) := by decide +kernel
theorem dL_law_1451 : decode cL_law 1451 = .ok (.iaload, 1) := by decide +kernel
theorem dL_law_1452 : decode cL_law 1452 = .ok (.if_icmp .gt 8, 3) := by decide +kernel
theorem dL_law_1455 : decode cL_law 1455 = .ok (.iload 23, 2) := by decide +kernel
theorem dL_law_1457 : decode cL_law 1457 = .ok (.goto 5, 3) := by decide +kernel
theorem dL_law_1460 : decode cL_law 1460 = .ok (.iload 21, 2) := by decide +kernel
theorem dL_law_1462 : decode cL_law 1462 = .ok (.istore 21, 2) := by decide +kernel
theorem dL_law_1464 : decode cL_law 1464 = .ok (.iinc 23 (-1), 3) := by decide +kernel
theorem dL_law_1467 : decode cL_law 1467 = .ok (.goto (-59), 3) := by decide +kernel
theorem dL_law_1470 : decode cL_law 1470 = .ok (.iload_n 2, 1) := by decide +kernel
theorem dL_law_1471 : decode cL_law 1471 = .ok (.aload_n 1, 1) := by decide +kernel
theorem dL_law_1472 : decode cL_law 1472 = .ok (.iload 17, 2) := by decide +kernel
theorem dL_law_1474 : decode cL_law 1474 = .ok (.invokestatic 93, 3) := by decide +kernel
theorem dL_law_1477 : decode cL_law 1477 = .ok (.iload 21, 2) := by decide +kernel
theorem dL_law_1479 : decode cL_law 1479 = .ok (.if_icmp .ne 24, 3) := by decide +kernel
theorem dL_law_1482 : decode cL_law 1482 = .ok (.aload_n 1, 1) := by decide +kernel
theorem dL_law_1483 : decode cL_law 1483 = .ok (.iload 17, 2) := by decide +kernel
theorem dL_law_1485 : decode cL_law 1485 = .ok (.invokevirtual 129, 3) := by decide +kernel
theorem dL_law_1488 : decode cL_law 1488 = .ok (.iload 22, 2) := by decide +kernel
theorem dL_law_1490 : decode cL_law 1490 = .ok (.i2d, 1) := by decide +kernel
theorem dL_law_1491 : decode cL_law 1491 = .ok (.ldc2_w 133, 3) := by decide +kernel
theorem dL_law_1494 : decode cL_law 1494 = .ok (.ddiv, 1) := by decide +kernel
theorem dL_law_1495 : decode cL_law 1495 = .ok (.dcmp .l, 1) := by decide +kernel
theorem dL_law_1496 : decode cL_law 1496 = .ok (.ifCond .ne 7, 3) := by decide +kernel
theorem dL_law_1499 : decode cL_law 1499 = .ok (.iconst 1, 1) := by decide +kernel
theorem dL_law_1500 : decode cL_law 1500 = .ok (.goto 4, 3) := by decide +kernel
theorem dL_law_1503 : decode cL_law 1503 = .ok (.iconst 0, 1) := by decide +kernel
theorem dL_law_1504 : decode cL_law 1504 = .ok (.iand, 1) := by decide +kernel
theorem dL_law_1505 : decode cL_law 1505 = .ok (.istore_n 2, 1) := by decide +kernel
theorem dL_law_1506 : decode cL_law 1506 = .ok (.iinc 16 1, 3) := by decide +kernel
theorem dL_law_1509 : decode cL_law 1509 = .ok (.goto (-997), 3) := by decide +kernel
theorem dL_law_1512 : decode cL_law 1512 = .ok (.iload_n 2, 1) := by decide +kernel
theorem dL_law_1513 : decode cL_law 1513 = .ok (.ifCond .eq 36, 3) := by decide +kernel
theorem dL_law_1516 : decode cL_law 1516 = .ok (.aload_n 1, 1) := by decide +kernel
theorem dL_law_1517 : decode cL_law 1517 = .ok (.iconst 0, 1) := by decide +kernel
theorem dL_law_1518 : decode cL_law 1518 = .ok (.invokestatic 127, 3) := by decide +kernel
theorem dL_law_1521 : decode cL_law 1521 = .ok (.sipush 1000, 3) := by decide +kernel
theorem dL_law_1524 : decode cL_law 1524 = .ok (.if_icmp .ne 25, 3) := by decide +kernel
theorem dL_law_1527 : decode cL_law 1527 = .ok (.aload_n 1, 1) := by decide +kernel
theorem dL_law_1528 : decode cL_law 1528 = .ok (.bipush 6, 2) := by decide +kernel
theorem dL_law_1530 : decode cL_law 1530 = .ok (.invokestatic 127, 3) := by decide +kernel
theorem dL_law_1533 : decode cL_law 1533 = .ok (.ldc 17, 2) := by decide +kernel
theorem dL_law_1535 : decode cL_law 1535 = .ok (.if_icmp .ne 14, 3) := by decide +kernel
theorem dL_law_1538 : decode cL_law 1538 = .ok (.aload_n 1, 1) := by decide +kernel
theorem dL_law_1539 : decode cL_law 1539 = .ok (.invokevirtual 135, 3) := by decide +kernel
theorem dL_law_1542 : decode cL_law 1542 = .ok (.ifCond .eq 7, 3) := by decide +kernel
theorem dL_law_1545 : decode cL_law 1545 = .ok (.iconst 1, 1) := by decide +kernel
theorem dL_law_1546 : decode cL_law 1546 = .ok (.goto 4, 3) := by decide +kernel
theorem dL_law_1549 : decode cL_law 1549 = .ok (.iconst 0, 1) := by decide +kernel
theorem dL_law_1550 : decode cL_law 1550 = .ok (.ireturn, 1) := by decide +kernel
