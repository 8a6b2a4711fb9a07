theorem dL_most_130 : decode cL_most 130 = .ok (.bipush 19, 2) := by decide +kernel
theorem dL_most_132 : decode cL_most 132 = .ok (.if_icmp .ge 95, 3) := by decide +kernel
theorem dL_most_135 : decode cL_most 135 = .ok (.iconst 0, 1) := by decide +kernel
theorem dL_most_136 : decode cL_most 136 = .ok (.istore_n 2, 1) := by decide +kernel
theorem dL_most_137 : decode cL_most 137 = .ok (.iload_n 2, 1) := by decide +kernel
theorem dL_most_138 : decode cL_most 138 = .ok (.bipush 17, 2) := by decide +kernel
theorem dL_most_140 : decode cL_most 140 = .ok (.if_icmp .ge 61, 3) := by decide +kernel
theorem dL_most_143 : decode cL_most 143 = .ok (.iload_n 1, 1) := by decide +kernel
theorem dL_most_144 : decode cL_most 144 = .ok (.bipush 18, 2) := by decide +kernel
theorem dL_most_146 : decode cL_most 146 = .ok (.if_icmp .ne 12, 3) := by decide +kernel
theorem dL_most_149 : decode cL_most 149 = .ok (.iload_n 2, 1) := by decide +kernel
theorem dL_most_150 : decode cL_most 150 = .ok (.bipush 12, 2) := by decide +kernel
theorem dL_most_152 : decode cL_most 152 = .ok (.if_icmp .ne 6, 3) := by decide +kernel
theorem dL_most_155 : decode cL_most 155 = .ok (.goto 46, 3) := by decide +kernel
theorem dL_most_158 : decode cL_most 158 = .ok (.aload_n 0, 1) := by decide +kernel
theorem dL_most_159 : decode cL_most 159 = .ok (.iconst 3, 1) := by decide +kernel
theorem dL_most_160 : decode cL_most 160 = .ok (.iconst 0, 1) := by decide +kernel
theorem dL_most_161 : decode cL_most 161 = .ok (.bipush 13, 2) := by decide +kernel
theorem dL_most_163 : decode cL_most 163 = .ok (.bipush 9, 2) := by decide +kernel
theorem dL_most_165 : decode cL_most 165 = .ok (.iload_n 2, 1) := by decide +kernel
theorem dL_most_166 : decode cL_most 166 = .ok (.bipush 12, 2) := by decide +kernel
theorem dL_most_168 : decode cL_most 168 = .ok (.irem, 1) := by decide +kernel
theorem dL_most_169 : decode cL_most 169 = .ok (.ldc 109, 2) := by decide +kernel
theorem dL_most_171 : decode cL_most 171 = .ok (.iload_n 1, 1) := by decide +kernel
theorem dL_most_172 : decode cL_most 172 = .ok (.isub, 1) := by decide +kernel
theorem dL_most_173 : decode cL_most 173 = .ok (.invokestatic 81, 3) := by decide +kernel
theorem dL_most_176 : decode cL_most 176 = .ok (.iload_n 2, 1) := by decide +kernel
theorem dL_most_177 : decode cL_most 177 = .ok (.bipush 16, 2) := by decide +kernel
theorem dL_most_179 : decode cL_most 179 = .ok (.if_icmp .ge 9, 3) := by decide +kernel
theorem dL_most_182 : decode cL_most 182 = .ok (.iload_n 2, 1) := by decide +kernel
theorem dL_most_183 : decode cL_most 183 = .ok (.iconst 1, 1) := by decide +kernel
theorem dL_most_184 : decode cL_most 184 = .ok (.iadd, 1) := by decide +kernel
theorem dL_most_185 : decode cL_most 185 = .ok (.goto 5, 3) := by decide +kernel
theorem dL_most_188 : decode cL_most 188 = .ok (.bipush (-73), 2) := by decide +kernel
theorem dL_most_190 : decode cL_most 190 = .ok (.if_icmp .eq 5, 3) := by decide +kernel
theorem dL_most_193 : decode cL_most 193 = .ok (.iconst 0, 1) := by decide +kernel
theorem dL_most_194 : decode cL_most 194 = .ok (.ireturn, 1) := by decide +kernel
theorem dL_most_195 : decode cL_most 195 = .ok (.iinc 2 1, 3) := by decide +kernel
theorem dL_most_198 : decode cL_most 198 = .ok (.goto (-61), 3) := by decide +kernel
theorem dL_most_201 : decode cL_most 201 = .ok (.aload_n 0, 1) := by decide +kernel
theorem dL_most_202 : decode cL_most 202 = .ok (.iconst 2, 1) := by decide +kernel
theorem dL_most_203 : decode cL_most 203 = .ok (.invokevirtual 24, 3) := by decide +kernel
theorem dL_most_206 : decode cL_most 206 = .ok (.iload_n 1, 1) := by decide +kernel
theorem dL_most_207 : decode cL_most 207 = .ok (.ifCond .ne 8, 3) := by decide +kernel
theorem dL_most_210 : decode cL_most 210 = .ok (.bipush 12, 2) := by decide +kernel
theorem dL_most_212 : decode cL_most 212 = .ok (.goto 4, 3) := by decide +kernel
theorem dL_most_215 : decode cL_most 215 = .ok (.iconst 0, 1) := by decide +kernel
theorem dL_most_216 : decode cL_most 216 = .ok (.if_icmp .eq 5, 3) := by decide +kernel
theorem dL_most_219 : decode cL_most 219 = .ok (.iconst 0, 1) := by decide +kernel
theorem dL_most_220 : decode cL_most 220 = .ok (.ireturn, 1) := by decide +kernel
theorem dL_most_221 : decode cL_most 221 = .ok (.iinc 1 1, 3) := by decide +kernel
theorem dL_most_224 : decode cL_most 224 = .ok (.goto (-95), 3) := by decide +kernel
theorem dL_most_227 : decode cL_most 227 = .ok (.aload_n 0, 1) := by decide +kernel
theorem dL_most_228 : decode cL_most 228 = .ok (.iconst 0, 1) := by decide +kernel
theorem dL_most_229 : decode cL_most 229 = .ok (.bipush 13, 2) := by decide +kernel
theorem dL_most_231 : decode cL_most 231 = .ok (.bipush 9, 2) := by decide +kernel
theorem dL_most_233 : decode cL_most 233 = .ok (.iconst 0, 1) := by decide +kernel
theorem dL_most_234 : decode cL_most 234 = .ok (.iconst 5, 1) := by decide +kernel
theorem dL_most_235 : decode cL_most 235 = .ok (.invokevirtual 20, 3) := by decide +kernel
theorem dL_most_238 : decode cL_most 238 = .ok (.iconst 1, 1) := by decide +kernel
theorem dL_most_239 : decode cL_most 239 = .ok (.if_icmp .ne 93, 3) := by decide +kernel
theorem dL_most_242 : decode cL_most 242 = .ok (.aload_n 0, 1) := by decide +kernel
theorem dL_most_243 : decode cL_most 243 = .ok (.iconst 4, 1) := by decide +kernel
theorem dL_most_244 : decode cL_most 244 = .ok (.iconst 2, 1) := by decide +kernel
theorem dL_most_245 : decode cL_most 245 = .ok (.iconst 0, 1) := by decide +kernel
theorem dL_most_246 : decode cL_most 246 = .ok (.iconst 0, 1) := by decide +kernel
theorem dL_most_247 : decode cL_most 247 = .ok (.iconst 0, 1) := by decide +kernel
theorem dL_most_248 : decode cL_most 248 = .ok (.iconst 0, 1) := by decide +kernel
theorem dL_most_249 : decode cL_most 249 = .ok (.invokestatic 81, 3) := by decide +kernel
theorem dL_most_252 : decode cL_most 252 = .ok (.bipush (-73), 2) := by decide +kernel
theorem dL_most_254 : decode cL_most 254 = .ok (.if_icmp .ne 78, 3) := by decide +kernel
theorem dL_most_257 : decode cL_most 257 = .ok (.aload_n 0, 1) := by decide +kernel
theorem dL_most_258 : decode cL_most 258 = .ok (.invokevirtual 91, 3) := by decide +kernel
theorem dL_most_261 : decode cL_most 261 = .ok (.iconst 1, 1) := by decide +kernel
theorem dL_most_262 : decode cL_most 262 = .ok (.if_icmp .ne 70, 3) := by decide +kernel
theorem dL_most_265 : decode cL_most 265 = .ok (.aload_n 0, 1) := by decide +kernel
theorem dL_most_266 : decode cL_most 266 = .ok (.iconst 0, 1) := by decide +kernel
theorem dL_most_267 : decode cL_most 267 = .ok (.iconst 0, 1) := by decide +kernel
theorem dL_most_268 : decode cL_most 268 = .ok (.iconst 3, 1) := by decide +kernel
theorem dL_most_269 : decode cL_most 269 = .ok (.iconst 0, 1) := by decide +kernel
theorem dL_most_270 : decode cL_most 270 = .ok (.invokevirtual 41, 3) := by decide +kernel
theorem dL_most_273 : decode cL_most 273 = .ok (.ldc 109, 2) := by decide +kernel
theorem dL_most_275 : decode cL_most 275 = .ok (.if_icmp .ne 57, 3) := by decide +kernel
theorem dL_most_278 : decode cL_most 278 = .ok (.aload_n 0, 1) := by decide +kernel
theorem dL_most_279 : decode cL_most 279 = .ok (.iconst 0, 1) := by decide +kernel
theorem dL_most_280 : decode cL_most 280 = .ok (.bipush 9, 2) := by decide +kernel
theorem dL_most_282 : decode cL_most 282 = .ok (.iconst 3, 1) := by decide +kernel
theorem dL_most_283 : decode cL_most 283 = .ok (.iconst 0, 1) := by decide +kernel
theorem dL_most_284 : decode cL_most 284 = .ok (.invokevirtual 41, 3) := by decide +kernel
theorem dL_most_287 : decode cL_most 287 = .ok (.ldc 109, 2) := by decide +kernel
theorem dL_most_289 : decode cL_most 289 = .ok (.if_icmp .ne 43, 3) := by decide +kernel
theorem dL_most_292 : decode cL_most 292 = .ok (.aload_n 0, 1) := by decide +kernel
theorem dL_most_293 : decode cL_most 293 = .ok (.iconst 5, 1) := by decide +kernel
theorem dL_most_294 : decode cL_most 294 = .ok (.iconst 4, 1) := by decide +kernel
theorem dL_most_295 : decode cL_most 295 = .ok (.bipush 11, 2) := by decide +kernel
theorem dL_most_297 : decode cL_most 297 = .ok (.iconst 0, 1) := by decide +kernel
theorem dL_most_298 : decode cL_most 298 = .ok (.invokevirtual 41, 3) := by decide +kernel
theorem dL_most_301 : decode cL_most 301 = .ok (.ldc 109, 2) := by decide +kernel
theorem dL_most_303 : decode cL_most 303 = .ok (.if_icmp .ne 29, 3) := by decide +kernel
theorem dL_most_306 : decode cL_most 306 = .ok (.aload_n 0, 1) := by decide +kernel
theorem dL_most_307 : decode cL_most 307 = .ok (.bipush 6, 2) := by decide +kernel
theorem dL_most_309 : decode cL_most 309 = .ok (.iconst 5, 1) := by decide +kernel
theorem dL_most_310 : decode cL_most 310 = .ok (.iconst 3, 1) := by decide +kernel
theorem dL_most_311 : decode cL_most 311 = .ok (.iconst 1, 1) := by decide +kernel
theorem dL_most_312 : decode cL_most 312 = .ok (.invokevirtual 30, 3) := by decide +kernel
theorem dL_most_315 : decode cL_most 315 = .ok (.sipush 140, 3) := by decide +kernel
theorem dL_most_318 : decode cL_most 318 = .ok (.if_icmp .ne 14, 3) := by decide +kernel
theorem dL_most_321 : decode cL_most 321 = .ok (.aload_n 0, 1) := by decide +kernel
theorem dL_most_322 : decode cL_most 322 = .ok (.iconst 3, 1) := by decide +kernel
theorem dL_most_323 : decode cL_most 323 = .ok (.invokevirtual 58, 3) := by decide +kernel
theorem dL_most_326 : decode cL_most 326 = .ok (.sipush 140, 3) := by decide +kernel
theorem dL_most_329 : decode cL_most 329 = .ok (.if_icmp .eq 5, 3) := by decide +kernel
theorem dL_most_332 : decode cL_most 332 = .ok (.iconst 0, 1) := by decide +kernel
theorem dL_most_333 : decode cL_most 333 = .ok (.ireturn, 1) := by decide +kernel
theorem dL_most_334 : decode cL_most 334 = .ok (.iconst 1, 1) := by decide +kernel
theorem dL_most_335 : decode cL_most 335 = .ok (.istore_n 1, 1) := by decide +kernel
theorem dL_most_336 : decode cL_most 336 = .ok (.iload_n 1, 1) := by decide +kernel
theorem dL_most_337 : decode cL_most 337 = .ok (.bipush 11, 2) := by decide +kernel
theorem dL_most_339 : decode cL_most 339 = .ok (.if_icmp .ge 24, 3) := by decide +kernel
theorem dL_most_342 : decode cL_most 342 = .ok (.aload_n 0, 1) := by decide +kernel
theorem dL_most_343 : decode cL_most 343 = .ok (.bipush 100, 2) := by decide +kernel
theorem dL_most_345 : decode cL_most 345 = .ok (.invokevirtual 34, 3) := by decide +kernel
theorem dL_most_348 : decode cL_most 348 = .ok (.bipush 100, 2) := by decide +kernel
theorem dL_most_350 : decode cL_most 350 = .ok (.iload_n 1, 1) := by decide +kernel
theorem dL_most_351 : decode cL_most 351 = .ok (.imul, 1) := by decide +kernel
theorem dL_most_352 : decode cL_most 352 = .ok (.if_icmp .eq 5, 3) := by decide +kernel
theorem dL_most_355 : decode cL_most 355 = .ok (.iconst 0, 1) := by decide +kernel
theorem dL_most_356 : decode cL_most 356 = .ok (.ireturn, 1) := by decide +kernel
theorem dL_most_357 : decode cL_most 357 = .ok (.iinc 1 1, 3) := by decide +kernel
theorem dL_most_360 : decode cL_most 360 = .ok (.goto (-24), 3) := by decide +kernel
theorem dL_most_363 : decode cL_most 363 = .ok (.aload_n 0, 1) := by decide +kernel
theorem dL_most_364 : decode cL_most 364 = .ok (.bipush 7, 2) := by decide +kernel
theorem dL_most_366 : decode cL_most 366 = .ok (.iconst 1, 1) := by decide +kernel
theorem dL_most_367 : decode cL_most 367 = .ok (.iconst 0, 1) := by decide +kernel
theorem dL_most_368 : decode cL_most 368 = .ok (.iconst 0, 1) := by decide +kernel
theorem dL_most_369 : decode cL_most 369 = .ok (.iconst 0, 1) := by decide +kernel
theorem dL_most_370 : decode cL_most 370 = .ok (.iconst 0, 1) := by decide +kernel
theorem dL_most_371 : decode cL_most 371 = .ok (.invokestatic 81, 3) := by decide +kernel
theorem dL_most_374 : decode cL_most 374 = .ok (.bipush (-73), 2) := by decide +kernel
theorem dL_most_376 : decode cL_most 376 = .ok (.if_icmp .ne 111, 3) := by decide +kernel
theorem dL_most_379 : decode cL_most 379 = .ok (.aload_n 0, 1) := by decide +kernel
theorem dL_most_380 : decode cL_most 380 = .ok (.iconst 3, 1) := by decide +kernel
theorem dL_most_381 : decode cL_most 381 = .ok (.iconst 2, 1) := by decide +kernel
theorem dL_most_382 : decode cL_most 382 = .ok (.iconst 0, 1) := by decide +kernel
theorem dL_most_383 : decode cL_most 383 = .ok (.iconst 0, 1) := by decide +kernel
theorem dL_most_384 : decode cL_most 384 = .ok (.invokevirtual 41, 3) := by decide +kernel
theorem dL_most_387 : decode cL_most 387 = .ok (.ldc 109, 2) := by decide +kernel
theorem dL_most_389 : decode cL_most 389 = .ok (.if_icmp .ne 98, 3) := by decide +kernel
theorem dL_most_392 : decode cL_most 392 = .ok (.aload_n 0, 1) := by decide +kernel
theorem dL_most_393 : decode cL_most 393 = .ok (.iconst 3, 1) := by decide +kernel
theorem dL_most_394 : decode cL_most 394 = .ok (.iconst 2, 1) := by decide +kernel
theorem dL_most_395 : decode cL_most 395 = .ok (.iconst 0, 1) := by decide +kernel
theorem dL_most_396 : decode cL_most 396 = .ok (.sipush 1000, 3) := by decide +kernel
theorem dL_most_399 : decode cL_most 399 = .ok (.invokevirtual 41, 3) := by decide +kernel
theorem dL_most_402 : decode cL_most 402 = .ok (.ldc 109, 2) := by decide +kernel
theorem dL_most_404 : decode cL_most 404 = .ok (.if_icmp .ne 83, 3) := by decide +kernel
theorem dL_most_407 : decode cL_most 407 = .ok (.aload_n 0, 1) := by decide +kernel
theorem dL_most_408 : decode cL_most 408 = .ok (.iconst (-1), 1) := by decide +kernel
theorem dL_most_409 : decode cL_most 409 = .ok (.iconst (-1), 1) := by decide +kernel
theorem dL_most_410 : decode cL_most 410 = .ok (.iconst 0, 1) := by decide +kernel
theorem dL_most_411 : decode cL_most 411 = .ok (.bipush 11, 2) := by decide +kernel
theorem dL_most_413 : decode cL_most 413 = .ok (.iconst 0, 1) := by decide +kernel
theorem dL_most_414 : decode cL_most 414 = .ok (.bipush 11, 2) := by decide +kernel
theorem dL_most_416 : decode cL_most 416 = .ok (.invokestatic 76, 3) := by decide +kernel
theorem dL_most_419 : decode cL_most 419 = .ok (.sipush 11269, 3) := by decide +kernel
theorem dL_most_422 : decode cL_most 422 = .ok (.if_icmp .ne 65, 3) := by decide +kernel
theorem dL_most_425 : decode cL_most 425 = .ok (.aload_n 0, 1) := by decide +kernel
theorem dL_most_426 : decode cL_most 426 = .ok (.iconst (-1), 1) := by decide +kernel
theorem dL_most_427 : decode cL_most 427 = .ok (.iconst (-1), 1) := by decide +kernel
theorem dL_most_428 : decode cL_most 428 = .ok (.iconst 0, 1) := by decide +kernel
theorem dL_most_429 : decode cL_most 429 = .ok (.bipush 11, 2) := by decide +kernel
theorem dL_most_431 : decode cL_most 431 = .ok (.iconst 0, 1) := by decide +kernel
theorem dL_most_432 : decode cL_most 432 = .ok (.bipush 12, 2) := by decide +kernel
theorem dL_most_434 : decode cL_most 434 = .ok (.invokestatic 76, 3) := by decide +kernel
theorem dL_most_437 : decode cL_most 437 = .ok (.iconst (-1), 1) := by decide +kernel
theorem dL_most_438 : decode cL_most 438 = .ok (.if_icmp .ne 49, 3) := by decide +kernel
theorem dL_most_441 : decode cL_most 441 = .ok (.aload_n 0, 1) := by decide +kernel
theorem dL_most_442 : decode cL_most 442 = .ok (.iconst (-1), 1) := by decide +kernel
theorem dL_most_443 : decode cL_most 443 = .ok (.iconst (-1), 1) := by decide +kernel
theorem dL_most_444 : decode cL_most 444 = .ok (.iconst 0, 1) := by decide +kernel
theorem dL_most_445 : decode cL_most 445 = .ok (.bipush 11, 2) := by decide +kernel
theorem dL_most_447 : decode cL_most 447 = .ok (.iconst 1, 1) := by decide +kernel
theorem dL_most_448 : decode cL_most 448 = .ok (.iconst 0, 1) := by decide +kernel
theorem dL_most_449 : decode cL_most 449 = .ok (.invokestatic 76, 3) := by decide +kernel
theorem dL_most_452 : decode cL_most 452 = .ok (.iconst (-1), 1) := by decide +kernel
theorem dL_most_453 : decode cL_most 453 = .ok (.if_icmp .ne 34, 3) := by decide +kernel
theorem dL_most_456 : decode cL_most 456 = .ok (.aload_n 0, 1) := by decide +kernel
theorem dL_most_457 : decode cL_most 457 = .ok (.bipush 13, 2) := by decide +kernel
theorem dL_most_459 : decode cL_most 459 = .ok (.bipush 9, 2) := by decide +kernel
theorem dL_most_461 : decode cL_most 461 = .ok (.iconst 4, 1) := by decide +kernel
theorem dL_most_462 : decode cL_most 462 = .ok (.invokevirtual 48, 3) := by decide +kernel
theorem dL_most_465 : decode cL_most 465 = .ok (.iconst 1, 1) := by decide +kernel
theorem dL_most_466 : decode cL_most 466 = .ok (.if_icmp .ne 21, 3) := by decide +kernel
theorem dL_most_469 : decode cL_most 469 = .ok (.aload_n 0, 1) := by decide +kernel
theorem dL_most_470 : decode cL_most 470 = .ok (.bipush 14, 2) := by decide +kernel
theorem dL_most_472 : decode cL_most 472 = .ok (.bipush 10, 2) := by decide +kernel
theorem dL_most_474 : decode cL_most 474 = .ok (.sipush 1000, 3) := by decide +kernel
theorem dL_most_477 : decode cL_most 477 = .ok (.invokestatic 87, 3) := by decide +kernel
theorem dL_most_480 : decode cL_most 480 = .ok (.ifCond .eq 7, 3) := by decide +kernel
theorem dL_most_483 : decode cL_most 483 = .ok (.iconst 1, 1) := by decide +kernel
theorem dL_most_484 : decode cL_most 484 = .ok (.goto 4, 3) := by decide +kernel
theorem dL_most_487 : decode cL_most 487 = .ok (.iconst 0, 1) := by decide +kernel
theorem dL_most_488 : decode cL_most 488 = .ok (.ireturn, 1) := by decide +kernel
set_option maxRecDepth 20000 in
theorem ggL_law_L_house : GoodIn wsL_law wsL_house := goodIn_ca (goodIn_ca (goodIn_ca (goodIn_r _ [8, 0, 1, 2, 4, 9, 10, 11, 12, 13, 14, 15, 16, 17, 18, 19, 20, 21, 22, 23, 24, 25, 26, 27, 28, 29, 30, 31, 32, 33, 34, 35, 36, 37, 38, 39, 40, 41, 42, 43, 44, 45, 46, 47, 48, 49, 50, 51, 52, 53, 54, 55, 56, 57, 58, 59, 60, 61, 62, 63, 64, 65, 66, 67, 68, 69, 70, 71, 72, 73, 74, 75, 76, 77, 78, 79, 80, 7, 81, 82, 83, 84, 85, 86, 87, 88, 89, 90, 91, 92, 93, 94, 95, 96, 97, 98, 99, 100, 101, 102, 103, 104, 105, 106, 107, 108, 109, 110, 111, 112, 113, 114, 115, 116, 117, 118, 119, 120, 121, 122, 123, 124, 125, 126, 127, 128, 129, 130, 131, 132, 133, 134, 135, 136, 137, 138, 139, 140, 141, 142, 143, 144, 145, 146, 147, 148, 149, 150, 151, 152, 153, 154, 155, 156, 157, 158, 159, 160, 161, 162, 163, 164, 165, 166, 167, 168, 169, 170, 171, 172, 173, 174, 175, 176, 177, 178, 179, 180, 181, 182, 183, 184, 185, 186, 187, 188, 189, 190, 191, 192, 193, 194, 195, 196, 197, 198, 199, 200, 201, 202, 203, 204, 205, 206, 207, 208, 209, 210, 211, 212, 213, 214, 215, 216, 217, 218, 219, 220, 221, 222, 223, 224, 225, 226, 227, 228, 229, 230, 231, 232, 233, 234, 235, 236, 237, 238, 239, 240, 241, 242, 243, 244, 245, 246, 247, 248, 249, 250, 251, 252, 253, 254, 255, 256, 257, 258, 259, 260, 261, 262, 263, 264, 265, 266, 267, 268, 269, 270, 271, 272, 273, 274, 275, 276, 277, 278, 279, 280, 281, 282, 283, 284, 285, 286, 287, 288, 289, 290, 291, 292, 293, 294, 295, 296, 297, 298, 299, 300, 301, 302, 303, 304, 305, 306, 307, 308, 309, 310, 311, 312, 313, 314, 315, 316, 317, 318, 319, 320, 321, 322, 323, 324, 325, 326, 327, 328, 329, 330, 331, 332, 333, 334, 335, 336, 337, 338, 339, 340, 341, 342, 343, 344, 345, 346, 347, 348, 3, 349, 350, 351, 352, 353, 354, 355, 356, 357, 358, 359, 360, 361, 362, 363, 364, 365, 366, 367, 368, 369, 370, 371, 372, 373, 374, 375, 376, 377, 378, 379, 380, 381, 382, 383, 384, 385] rfl (by decide +kernel)) (goodIn_sub (fun _ h => List.mem_append_left _ (List.mem_append_left _ (List.mem_append_right _ h))) (by decide +kernel))) (goodIn_sub (fun _ h => List.mem_append_left _ (List.mem_append_right _ h)) (by decide +kernel))) (goodIn_sub (fun _ h => List.mem_append_right _ h) (by decide +kernel))
set_option maxRecDepth 20000 in
theorem gL_law_L_house : GoodIn wsL_law (va_wsS RL 110 yL_house wsL_house) := goodIn_app (goodIn_of _ (by decide +kernel)) ggL_law_L_house
set_option maxRecDepth 20000 in
theorem ggL_law_X5_init : GoodIn wsL_law wsX5_init := goodIn_r _ [12, 13, 14, 15, 16, 17, 18, 19, 20, 21, 22, 23, 24, 25, 26, 27, 28, 29, 30, 31, 32, 33, 34, 35, 36, 37, 38, 39, 40, 41, 42, 43, 44, 45, 46, 47, 48, 49, 50, 51, 52, 53, 54, 55, 56, 57, 58, 59, 60, 61, 62, 63, 64, 65, 66, 67, 68, 69, 70, 71, 72, 73, 74, 75, 76, 77, 78, 367, 368, 369, 356, 357, 358, 359, 360, 361, 362, 363, 364, 365, 366, 370, 371, 372, 373, 374, 375, 376, 377, 378, 379, 380, 381, 382, 383, 384, 385] (by decide +kernel) (by decide +kernel)
set_option maxRecDepth 20000 in
theorem gL_law_X5_init : GoodIn wsL_law (wsX5_init) := ggL_law_X5_init
set_option maxRecDepth 20000 in
theorem ggL_law_L_act : GoodIn wsL_law wsL_act := goodIn_ca (goodIn_ca (goodIn_ca (goodIn_r _ [196, 162, 163, 197, 198, 199, 200, 2, 201, 19, 170, 171, 172, 89, 90, 173, 174, 175, 18, 176, 119, 202, 203, 204, 205, 206, 207, 208, 209, 210, 45, 211, 212, 213, 214, 215, 216, 217, 218, 20, 219, 220, 221, 222, 24, 223, 224, 225, 226, 227, 228, 229, 230, 231, 232, 23, 233, 50, 234, 235, 236, 237, 168, 169, 238, 239, 28, 240, 241, 242, 243, 91, 92, 93, 181, 182, 183, 184, 109, 110, 244, 245, 246, 27, 247, 248, 249, 250, 251, 252, 54, 55, 56, 57, 253, 254, 255, 256, 257, 258, 259, 260, 261, 40, 32, 98, 262, 263, 264, 265, 266, 267, 268, 269, 270, 271, 272, 190, 191, 192, 193, 273, 274, 275, 276, 277, 278, 279, 280, 31, 281, 282, 66, 67, 68, 64, 63, 62, 65, 283, 284, 285, 286, 287, 288, 289, 290, 291, 292, 293, 294, 38, 36, 94, 95, 96, 97, 99, 100, 101, 35, 102, 77, 103, 104, 105, 106, 107, 108, 71, 72, 73, 111, 112, 113, 114, 115, 116, 117, 118, 120, 121, 122, 123, 124, 125, 126, 127, 128, 129, 130, 78, 131, 132, 133, 134, 135, 136, 137, 138, 139, 140, 141, 142, 143, 144, 145, 146, 147, 148, 149, 150, 151, 152, 153, 154, 155, 156, 157, 158, 295, 296, 297, 298, 299, 300, 301, 302, 303, 304, 305, 306, 307, 308, 309, 310, 69, 311, 312, 313, 314, 315, 316, 317, 318, 319, 320, 321, 322, 323, 324, 325, 326, 327, 328, 329, 330, 331, 332, 333, 334, 335, 336, 337, 85, 86, 87, 88, 338, 339, 340, 341, 356, 357, 358, 359, 360, 361, 362, 363, 364, 365, 366, 367, 368, 369, 370, 371, 372, 373, 374, 375, 376, 377, 378, 379, 380, 381, 382, 383, 384, 385] rfl (by decide +kernel)) (goodIn_sub (fun _ h => List.mem_append_left _ (List.mem_append_left _ (List.mem_append_right _ h))) (by decide +kernel))) (goodIn_sub (fun _ h => List.mem_append_right _ h) (by decide +kernel))) (goodIn_sub (fun _ h => List.mem_append_left _ (List.mem_append_right _ h)) (by decide +kernel))
set_option maxRecDepth 20000 in
theorem gL_law_L_act : GoodIn wsL_law (va_wsS RL 81 yL_act wsL_act) := goodIn_app (goodIn_of _ (by decide +kernel)) ggL_law_L_act
set_option maxRecDepth 20000 in
theorem ggL_law_X5_agree : GoodIn wsL_law wsX5_agree := goodIn_ca (goodIn_r _ [222, 24, 223, 224, 2, 225, 89, 90, 226, 227, 228, 229, 19, 173, 174, 175, 18, 176, 119, 230, 231, 232, 23, 233, 50, 356, 357, 358, 359, 360, 361, 362, 363, 364, 365, 366, 367, 368, 369, 370] (by decide +kernel) (by decide +kernel)) (goodIn_sub (fun _ h => List.mem_append_left _ (List.mem_append_left _ (List.mem_append_right _ h))) (by decide +kernel))
set_option maxRecDepth 20000 in
theorem gL_law_X5_agree : GoodIn wsL_law (wsV RL 16 RX5 yX5_agree wsX5_agree) := goodIn_app (goodIn_of _ (by decide +kernel)) ggL_law_X5_agree
set_option maxRecDepth 20000 in
theorem ggL_law_X5_wipe : GoodIn wsL_law wsX5_wipe := goodIn_r _ [345, 28, 283, 284, 285, 27, 286, 248, 356, 357, 358, 359, 360, 361, 362, 363, 364, 365, 366, 371, 372, 373, 374, 375] (by decide +kernel) (by decide +kernel)
set_option maxRecDepth 20000 in
theorem gL_law_X5_wipe : GoodIn wsL_law (wsV RL 91 RX5 yX5_wipe wsX5_wipe) := goodIn_app (goodIn_of _ (by decide +kernel)) ggL_law_X5_wipe
set_option maxRecDepth 20000 in
theorem ggL_law_X5_put : GoodIn wsL_law wsX5_put := goodIn_ca (goodIn_ca (goodIn_ca (goodIn_r _ [237, 168, 169, 205, 206, 238, 239, 28, 240, 241, 242, 2, 243, 89, 90, 19, 20, 173, 174, 175, 18, 176, 119, 91, 92, 93, 181, 182, 183, 184, 109, 110, 244, 245, 246, 27, 247, 248, 249, 250, 251, 252, 54, 55, 56, 57, 356, 357, 358, 359, 360, 361, 362, 363, 364, 365, 366, 367, 368, 369, 371, 372, 373, 374, 375] (by decide +kernel) (by decide +kernel)) (goodIn_sub (fun _ h => List.mem_append_left _ (List.mem_append_right _ h)) (by decide +kernel))) (goodIn_sub (fun _ h => List.mem_append_right _ h) (by decide +kernel))) (goodIn_sub (fun _ h => List.mem_append_left _ (List.mem_append_left _ (List.mem_append_right _ h))) (by decide +kernel))
set_option maxRecDepth 20000 in
theorem gL_law_X5_put : GoodIn wsL_law (wsV RL 20 RX5 yX5_put wsX5_put) := goodIn_app (goodIn_of _ (by decide +kernel)) ggL_law_X5_put
set_option maxRecDepth 20000 in
theorem ggL_law_X5_refusal : GoodIn wsL_law wsX5_refusal := goodIn_ca (goodIn_r _ [290, 89, 90, 262, 40, 356, 357, 358, 359, 360, 361, 362, 363, 364, 365, 366] (by decide +kernel) (by decide +kernel)) (goodIn_sub (fun _ h => List.mem_append_left _ (List.mem_append_left _ (List.mem_append_right _ h))) (by decide +kernel))
set_option maxRecDepth 20000 in
theorem gL_law_X5_refusal : GoodIn wsL_law (wsV RL 27 RX5 yX5_refusal wsX5_refusal) := goodIn_app (goodIn_of _ (by decide +kernel)) ggL_law_X5_refusal
set_option maxRecDepth 20000 in
theorem ggL_law_X5_mayTell : GoodIn wsL_law wsX5_mayTell := goodIn_ca (goodIn_r _ [341, 24, 19, 223, 224, 2, 225, 89, 90, 226, 227, 228, 229, 173, 174, 175, 18, 176, 119, 268, 269, 270, 23, 271, 50, 272, 190, 191, 192, 45, 193, 356, 357, 358, 359, 360, 361, 362, 363, 364, 365, 366, 367, 368, 369, 370] (by decide +kernel) (by decide +kernel)) (goodIn_sub (fun _ h => List.mem_append_left _ (List.mem_append_left _ (List.mem_append_right _ h))) (by decide +kernel))
set_option maxRecDepth 20000 in
theorem gL_law_X5_mayTell : GoodIn wsL_law (wsV RL 61 RX5 yX5_mayTell wsX5_mayTell) := goodIn_app (goodIn_of _ (by decide +kernel)) ggL_law_X5_mayTell
set_option maxRecDepth 20000 in
theorem ggL_law_X5_secret : GoodIn wsL_law wsX5_secret := goodIn_ca (goodIn_r _ [294, 38, 36, 240, 241, 242, 2, 243, 89, 90, 19, 20, 173, 174, 175, 18, 176, 119, 91, 92, 93, 181, 182, 183, 184, 109, 110, 94, 95, 96, 97, 32, 98, 99, 100, 101, 35, 102, 77, 103, 104, 105, 106, 107, 108, 71, 72, 73, 111, 112, 113, 114, 115, 116, 117, 118, 45, 120, 121, 122, 123, 124, 125, 126, 127, 128, 129, 130, 78, 131, 132, 133, 134, 135, 136, 137, 138, 139, 140, 141, 142, 143, 144, 145, 146, 147, 148, 149, 150, 151, 152, 153, 154, 155, 156, 157, 158, 356, 357, 358, 359, 360, 361, 362, 363, 364, 365, 366, 367, 368, 369, 384, 385, 376, 377, 378, 379, 380, 381, 382, 383] (by decide +kernel) (by decide +kernel)) (goodIn_sub (fun _ h => List.mem_append_left _ (List.mem_append_left _ (List.mem_append_right _ h))) (by decide +kernel))
set_option maxRecDepth 20000 in
theorem gL_law_X5_secret : GoodIn wsL_law (wsV RL 30 RX5 yX5_secret wsX5_secret) := goodIn_app (goodIn_of _ (by decide +kernel)) ggL_law_X5_secret
set_option maxRecDepth 20000 in
theorem ggL_law_X5_hidden : GoodIn wsL_law wsX5_hidden := goodIn_ca (goodIn_r _ [88, 89, 90, 36, 91, 92, 2, 93, 94, 95, 96, 97, 32, 98, 19, 20, 38, 99, 100, 101, 35, 102, 77, 103, 104, 105, 106, 107, 108, 71, 72, 73, 109, 110, 111, 112, 113, 114, 115, 116, 117, 18, 118, 119, 45, 120, 121, 122, 123, 124, 125, 126, 127, 128, 129, 130, 78, 131, 132, 133, 134, 135, 136, 137, 138, 139, 140, 141, 142, 143, 144, 145, 146, 147, 148, 149, 150, 151, 152, 153, 154, 155, 156, 157, 158, 356, 357, 358, 359, 360, 361, 362, 363, 364, 365, 366, 367, 368, 369, 384, 385, 376, 377, 378, 379, 380, 381, 382, 383] (by decide +kernel) (by decide +kernel)) (goodIn_sub (fun _ h => List.mem_append_left _ (List.mem_append_left _ (List.mem_append_right _ h))) (by decide +kernel))
set_option maxRecDepth 20000 in
theorem gL_law_X5_hidden : GoodIn wsL_law (wsV RL 58 RX5 yX5_hidden wsX5_hidden) := goodIn_app (goodIn_of _ (by decide +kernel)) ggL_law_X5_hidden
set_option maxRecDepth 20000 in
theorem ggL_law_X5_pass : GoodIn wsL_law wsX5_pass := goodIn_ca (goodIn_ca (goodIn_r _ [298, 168, 169, 205, 206, 98, 356, 357, 358, 359, 360, 361, 362, 363, 364, 365, 366] (by decide +kernel) (by decide +kernel)) (goodIn_sub (fun _ h => List.mem_append_left _ (List.mem_append_right _ h)) (by decide +kernel))) (goodIn_sub (fun _ h => List.mem_append_right _ h) (by decide +kernel))
set_option maxRecDepth 20000 in
theorem gL_law_X5_pass : GoodIn wsL_law (wsV RL 34 RX5 yX5_pass wsX5_pass) := goodIn_app (goodIn_of _ (by decide +kernel)) ggL_law_X5_pass
set_option maxRecDepth 20000 in
theorem ggL_law_X5_shown : GoodIn wsL_law wsX5_shown := goodIn_ca (goodIn_r _ [335, 36, 336, 240, 241, 242, 2, 243, 89, 90, 19, 20, 173, 174, 175, 18, 176, 119, 91, 92, 93, 181, 182, 183, 184, 109, 110, 94, 95, 96, 97, 32, 98, 38, 99, 100, 101, 35, 102, 77, 103, 104, 105, 106, 107, 108, 71, 72, 73, 111, 112, 113, 114, 115, 116, 117, 118, 45, 120, 121, 122, 123, 124, 125, 126, 127, 128, 129, 130, 78, 131, 132, 133, 134, 135, 136, 137, 138, 139, 140, 141, 142, 143, 144, 145, 146, 147, 148, 149, 150, 151, 152, 153, 154, 337, 315, 356, 357, 358, 359, 360, 361, 362, 363, 364, 365, 366, 367, 368, 369, 384, 385, 376, 377, 378, 379, 380, 381, 382, 383] (by decide +kernel) (by decide +kernel)) (goodIn_sub (fun _ h => List.mem_append_left _ (List.mem_append_left _ (List.mem_append_right _ h))) (by decide +kernel))
set_option maxRecDepth 20000 in
theorem gL_law_X5_shown : GoodIn wsL_law (wsV RL 55 RX5 yX5_shown wsX5_shown) := goodIn_app (goodIn_of _ (by decide +kernel)) ggL_law_X5_shown
set_option maxRecDepth 20000 in
theorem ggL_law_X5_value : GoodIn wsL_law wsX5_value := goodIn_ca (goodIn_ca (goodIn_r _ [314, 36, 32, 19, 20, 240, 241, 242, 2, 243, 89, 90, 173, 174, 175, 18, 176, 119, 91, 92, 93, 181, 182, 183, 184, 109, 110, 303, 304, 305, 306, 168, 169, 98, 99, 100, 101, 35, 102, 77, 103, 104, 105, 106, 107, 108, 71, 72, 73, 111, 112, 113, 114, 115, 116, 117, 118, 45, 120, 121, 122, 123, 124, 125, 126, 315, 356, 357, 358, 359, 360, 361, 362, 363, 364, 365, 366, 367, 368, 369, 384, 385, 376, 377, 378, 379, 380, 381, 382, 383] (by decide +kernel) (by decide +kernel)) (goodIn_sub (fun _ h => List.mem_append_left _ (List.mem_append_left _ (List.mem_append_right _ h))) (by decide +kernel))) (goodIn_sub (fun _ h => List.mem_append_left _ (List.mem_append_right _ h)) (by decide +kernel))
set_option maxRecDepth 20000 in
theorem gL_law_X5_value : GoodIn wsL_law (wsV RL 41 RX5 yX5_value wsX5_value) := goodIn_app (goodIn_of _ (by decide +kernel)) ggL_law_X5_value
set_option maxRecDepth 20000 in
theorem ggL_law_L_find : GoodIn wsL_law wsL_find := goodIn_ca (goodIn_ca (goodIn_r _ [161, 162, 163, 164, 165, 166, 2, 167, 89, 90, 168, 169, 19, 20, 170, 171, 172, 173, 174, 175, 18, 176, 119, 91, 92, 93, 177, 178, 179, 180, 32, 181, 182, 183, 184, 109, 110, 185, 186, 187, 31, 188, 62, 69, 65, 189, 190, 191, 192, 45, 193, 356, 357, 358, 359, 360, 361, 362, 363, 364, 365, 366, 367, 368, 369, 376, 377, 378, 379, 380, 381, 382, 383] (by decide +kernel) (by decide +kernel)) (goodIn_sub (fun _ h => List.mem_append_left _ (List.mem_append_left _ (List.mem_append_right _ h))) (by decide +kernel))) (goodIn_sub (fun _ h => List.mem_append_left _ (List.mem_append_right _ h)) (by decide +kernel))
set_option maxRecDepth 20000 in
theorem gL_law_L_find : GoodIn wsL_law (va_wsS RL 76 yL_find wsL_find) := goodIn_app (goodIn_of _ (by decide +kernel)) ggL_law_L_find
set_option maxRecDepth 20000 in
theorem ggL_law_X5_figure : GoodIn wsL_law wsX5_figure := goodIn_ca (goodIn_ca (goodIn_r _ [302, 32, 240, 241, 242, 2, 243, 89, 90, 19, 20, 173, 174, 175, 18, 176, 119, 91, 92, 93, 181, 182, 183, 184, 109, 110, 303, 304, 305, 306, 168, 169, 98, 307, 308, 309, 31, 310, 282, 66, 67, 68, 69, 356, 357, 358, 359, 360, 361, 362, 363, 364, 365, 366, 367, 368, 369, 376, 377, 378, 379, 380, 381, 382, 383] (by decide +kernel) (by decide +kernel)) (goodIn_sub (fun _ h => List.mem_append_left _ (List.mem_append_left _ (List.mem_append_right _ h))) (by decide +kernel))) (goodIn_sub (fun _ h => List.mem_append_left _ (List.mem_append_right _ h)) (by decide +kernel))
set_option maxRecDepth 20000 in
theorem gL_law_X5_figure : GoodIn wsL_law (wsV RL 37 RX5 yX5_figure wsX5_figure) := goodIn_app (goodIn_of _ (by decide +kernel)) ggL_law_X5_figure
set_option maxRecDepth 20000 in
theorem ggL_law_L_refuses : GoodIn wsL_law wsL_refuses := goodIn_ca (goodIn_ca (goodIn_ca (goodIn_r _ [81, 82, 83, 84, 85, 86, 87, 2, 88, 89, 90, 36, 91, 92, 93, 94, 95, 96, 97, 32, 98, 19, 20, 38, 99, 100, 101, 35, 102, 77, 103, 104, 105, 106, 107, 108, 71, 72, 73, 109, 110, 111, 112, 113, 114, 115, 116, 117, 18, 118, 119, 45, 120, 121, 122, 123, 124, 125, 126, 127, 128, 129, 130, 78, 131, 132, 133, 134, 135, 136, 137, 138, 139, 140, 141, 142, 143, 144, 145, 146, 147, 148, 149, 150, 151, 152, 153, 154, 155, 156, 157, 158, 159, 160, 7, 161, 162, 163, 164, 165, 166, 167, 168, 169, 170, 171, 172, 173, 174, 175, 176, 177, 178, 179, 180, 181, 182, 183, 184, 185, 186, 187, 31, 188, 62, 69, 65, 189, 190, 191, 192, 193, 194, 195, 196, 197, 198, 199, 200, 201, 202, 203, 204, 205, 206, 207, 208, 209, 210, 211, 212, 213, 214, 215, 216, 217, 218, 219, 220, 221, 222, 24, 223, 224, 225, 226, 227, 228, 229, 230, 231, 232, 23, 233, 50, 234, 235, 236, 237, 238, 239, 28, 240, 241, 242, 243, 244, 245, 246, 27, 247, 248, 249, 250, 251, 252, 54, 55, 56, 57, 253, 254, 255, 256, 257, 258, 259, 260, 261, 40, 262, 263, 264, 265, 266, 267, 268, 269, 270, 271, 272, 273, 274, 275, 276, 277, 278, 279, 280, 281, 282, 66, 67, 68, 64, 63, 283, 284, 285, 286, 287, 288, 289, 290, 291, 292, 293, 294, 295, 296, 297, 298, 299, 300, 301, 302, 303, 304, 305, 306, 307, 308, 309, 310, 311, 312, 313, 314, 315, 316, 317, 318, 319, 320, 321, 322, 323, 324, 325, 326, 327, 328, 329, 330, 331, 332, 333, 334, 335, 336, 337, 338, 339, 340, 341, 356, 357, 358, 359, 360, 361, 362, 363, 364, 365, 366, 367, 368, 369, 384, 385, 376, 377, 378, 379, 380, 381, 382, 383, 370, 371, 372, 373, 374, 375] rfl (by decide +kernel)) (goodIn_sub (fun _ h => List.mem_append_left _ (List.mem_append_left _ (List.mem_append_right _ h))) (by decide +kernel))) (goodIn_sub (fun _ h => List.mem_append_left _ (List.mem_append_right _ h)) (by decide +kernel))) (goodIn_sub (fun _ h => List.mem_append_right _ h) (by decide +kernel))
set_option maxRecDepth 20000 in
theorem gL_law_L_refuses : GoodIn wsL_law (va_wsS RL 87 yL_refuses wsL_refuses) := goodIn_app (goodIn_of _ (by decide +kernel)) ggL_law_L_refuses
theorem dL_law_0 : decode cL_law 0 = .ok (.invokestatic 110, 3) := by decide +kernel
theorem dL_law_3 : decode cL_law 3 = .ok (.ifCond .ne 5, 3) := by decide +kernel
theorem dL_law_6 : decode cL_law 6 = .ok (.iconst 0, 1) := by decide +kernel
theorem dL_law_7 : decode cL_law 7 = .ok (.ireturn, 1) := by decide +kernel
theorem dL_law_8 : decode cL_law 8 = .ok (.new 8, 3) := by decide +kernel
theorem dL_law_11 : decode cL_law 11 = .ok (.dup, 1) := by decide +kernel
theorem dL_law_12 : decode cL_law 12 = .ok (.invokespecial 86, 3) := by decide +kernel
theorem dL_law_15 : decode cL_law 15 = .ok (.astore_n 1, 1) := by decide +kernel
theorem dL_law_16 : decode cL_law 16 = .ok (.iconst 0, 1) := by decide +kernel
theorem dL_law_17 : decode cL_law 17 = .ok (.istore_n 2, 1) := by decide +kernel
theorem dL_law_18 : decode cL_law 18 = .ok (.iconst 0, 1) := by decide +kernel
theorem dL_law_19 : decode cL_law 19 = .ok (.istore_n 3, 1) := by decide +kernel
theorem dL_law_20 : decode cL_law 20 = .ok (.iconst 0, 1) := by decide +kernel
theorem dL_law_21 : decode cL_law 21 = .ok (.istore 4, 2) := by decide +kernel
theorem dL_law_23 : decode cL_law 23 = .ok (.iconst 0, 1) := by decide +kernel
theorem dL_law_24 : decode cL_law 24 = .ok (.istore 5, 2) := by decide +kernel
theorem dL_law_26 : decode cL_law 26 = .ok (.iload 5, 2) := by decide +kernel
theorem dL_law_28 : decode cL_law 28 = .ok (.bipush 60, 2) := by decide +kernel
theorem dL_law_30 : decode cL_law 30 = .ok (.if_icmp .ge 826, 3) := by decide +kernel
theorem dL_law_33 : decode cL_law 33 = .ok (.aload_n 0, 1) := by decide +kernel
theorem dL_law_34 : decode cL_law 34 = .ok (.arraylength, 1) := by decide +kernel
theorem dL_law_35 : decode cL_law 35 = .ok (.ifCond .ne 11, 3) := by decide +kernel
theorem dL_law_38 : decode cL_law 38 = .ok (.bipush 101, 2) := by decide +kernel
theorem dL_law_40 : decode cL_law 40 = .ok (.iload 5, 2) := by decide +kernel
theorem dL_law_42 : decode cL_law 42 = .ok (.imul, 1) := by decide +kernel
theorem dL_law_43 : decode cL_law 43 = .ok (.goto 13, 3) := by decide +kernel
theorem dL_law_46 : decode cL_law 46 = .ok (.aload_n 0, 1) := by decide +kernel
theorem dL_law_47 : decode cL_law 47 = .ok (.iload 5, 2) := by decide +kernel
theorem dL_law_49 : decode cL_law 49 = .ok (.aload_n 0, 1) := by decide +kernel
theorem dL_law_50 : decode cL_law 50 = .ok (.arraylength, 1) := by decide +kernel
theorem dL_law_51 : decode cL_law 51 = .ok (.irem, 1) := by decide +kernel
theorem dL_law_52 : decode cL_law 52 = .ok (.iaload, 1) := by decide +kernel
theorem dL_law_53 : decode cL_law 53 = .ok (.bipush 8, 2) := by decide +kernel
theorem dL_law_55 : decode cL_law 55 = .ok (.iushr, 1) := by decide +kernel
theorem dL_law_56 : decode cL_law 56 = .ok (.istore 6, 2) := by decide +kernel
theorem dL_law_58 : decode cL_law 58 = .ok (.iload 6, 2) := by decide +kernel
theorem dL_law_60 : decode cL_law 60 = .ok (.bipush 12, 2) := by decide +kernel
theorem dL_law_62 : decode cL_law 62 = .ok (.irem, 1) := by decide +kernel
theorem dL_law_63 : decode cL_law 63 = .ok (.istore 7, 2) := by decide +kernel
theorem dL_law_65 : decode cL_law 65 = .ok (.iload 6, 2) := by decide +kernel
theorem dL_law_67 : decode cL_law 67 = .ok (.bipush 12, 2) := by decide +kernel
theorem dL_law_69 : decode cL_law 69 = .ok (.idiv, 1) := by decide +kernel
theorem dL_law_70 : decode cL_law 70 = .ok (.istore 8, 2) := by decide +kernel
theorem dL_law_72 : decode cL_law 72 = .ok (.iload 8, 2) := by decide +kernel
theorem dL_law_74 : decode cL_law 74 = .ok (.bipush 14, 2) := by decide +kernel
theorem dL_law_76 : decode cL_law 76 = .ok (.idiv, 1) := by decide +kernel
theorem dL_law_77 : decode cL_law 77 = .ok (.istore 9, 2) := by decide +kernel
theorem dL_law_79 : decode cL_law 79 = .ok (.iload 7, 2) := by decide +kernel
theorem dL_law_81 : decode cL_law 81 = .ok (.ifCond .eq 7, 3) := by decide +kernel
theorem dL_law_84 : decode cL_law 84 = .ok (.iload_n 2, 1) := by decide +kernel
theorem dL_law_85 : decode cL_law 85 = .ok (.ifCond .ne 66, 3) := by decide +kernel
theorem dL_law_88 : decode cL_law 88 = .ok (.iload 8, 2) := by decide +kernel
theorem dL_law_90 : decode cL_law 90 = .ok (.iload_n 2, 1) := by decide +kernel
theorem dL_law_91 : decode cL_law 91 = .ok (.iconst 1, 1) := by decide +kernel
theorem dL_law_92 : decode cL_law 92 = .ok (.iadd, 1) := by decide +kernel
theorem dL_law_93 : decode cL_law 93 = .ok (.irem, 1) := by decide +kernel
theorem dL_law_94 : decode cL_law 94 = .ok (.iconst 1, 1) := by decide +kernel
theorem dL_law_95 : decode cL_law 95 = .ok (.isub, 1) := by decide +kernel
theorem dL_law_96 : decode cL_law 96 = .ok (.istore 10, 2) := by decide +kernel
theorem dL_law_98 : decode cL_law 98 = .ok (.aload_n 1, 1) := by decide +kernel
theorem dL_law_99 : decode cL_law 99 = .ok (.iconst 0, 1) := by decide +kernel
theorem dL_law_100 : decode cL_law 100 = .ok (.iload 10, 2) := by decide +kernel
theorem dL_law_102 : decode cL_law 102 = .ok (.iconst 0, 1) := by decide +kernel
theorem dL_law_103 : decode cL_law 103 = .ok (.iconst 0, 1) := by decide +kernel
theorem dL_law_104 : decode cL_law 104 = .ok (.iconst 0, 1) := by decide +kernel
theorem dL_law_105 : decode cL_law 105 = .ok (.iconst 0, 1) := by decide +kernel
theorem dL_law_106 : decode cL_law 106 = .ok (.invokestatic 81, 3) := by decide +kernel
theorem dL_law_109 : decode cL_law 109 = .ok (.iload_n 2, 1) := by decide +kernel
theorem dL_law_110 : decode cL_law 110 = .ok (.bipush 14, 2) := by decide +kernel
theorem dL_law_112 : decode cL_law 112 = .ok (.if_icmp .ge 7, 3) := by decide +kernel
theorem dL_law_115 : decode cL_law 115 = .ok (.iload_n 2, 1) := by decide +kernel
theorem dL_law_116 : decode cL_law 116 = .ok (.goto 5, 3) := by decide +kernel
theorem dL_law_119 : decode cL_law 119 = .ok (.bipush (-73), 2) := by decide +kernel
theorem dL_law_121 : decode cL_law 121 = .ok (.if_icmp .eq 5, 3) := by decide +kernel
theorem dL_law_124 : decode cL_law 124 = .ok (.iconst 0, 1) := by decide +kernel
theorem dL_law_125 : decode cL_law 125 = .ok (.ireturn, 1) := by decide +kernel
theorem dL_law_126 : decode cL_law 126 = .ok (.iload_n 2, 1) := by decide +kernel
theorem dL_law_127 : decode cL_law 127 = .ok (.iload_n 2, 1) := by decide +kernel
theorem dL_law_128 : decode cL_law 128 = .ok (.bipush 14, 2) := by decide +kernel
theorem dL_law_130 : decode cL_law 130 = .ok (.if_icmp .ge 7, 3) := by decide +kernel
theorem dL_law_133 : decode cL_law 133 = .ok (.iconst 1, 1) := by decide +kernel
theorem dL_law_134 : decode cL_law 134 = .ok (.goto 4, 3) := by decide +kernel
theorem dL_law_137 : decode cL_law 137 = .ok (.iconst 0, 1) := by decide +kernel
theorem dL_law_138 : decode cL_law 138 = .ok (.iadd, 1) := by decide +kernel
theorem dL_law_139 : decode cL_law 139 = .ok (.istore_n 2, 1) := by decide +kernel
theorem dL_law_140 : decode cL_law 140 = .ok (.aload_n 1, 1) := by decide +kernel
theorem dL_law_141 : decode cL_law 141 = .ok (.iconst 0, 1) := by decide +kernel
theorem dL_law_142 : decode cL_law 142 = .ok (.iconst 0, 1) := by decide +kernel
theorem dL_law_143 : decode cL_law 143 = .ok (.iconst 1, 1) := by decide +kernel
theorem dL_law_144 : decode cL_law 144 = .ok (.invokevirtual 16, 3) := by decide +kernel
theorem dL_law_147 : decode cL_law 147 = .ok (.pop, 1) := by decide +kernel
theorem dL_law_148 : decode cL_law 148 = .ok (.goto 463, 3) := by decide +kernel
theorem dL_law_151 : decode cL_law 151 = .ok (.iload 7, 2) := by decide +kernel
theorem dL_law_153 : decode cL_law 153 = .ok (.iconst 1, 1) := by decide +kernel
theorem dL_law_154 : decode cL_law 154 = .ok (.if_icmp .eq 7, 3) := by decide +kernel
theorem dL_law_157 : decode cL_law 157 = .ok (.iload_n 3, 1) := by decide +kernel
theorem dL_law_158 : decode cL_law 158 = .ok (.ifCond .ne 58, 3) := by decide +kernel
theorem dL_law_161 : decode cL_law 161 = .ok (.iload 8, 2) := by decide +kernel
theorem dL_law_163 : decode cL_law 163 = .ok (.iload_n 3, 1) := by decide +kernel
theorem dL_law_164 : decode cL_law 164 = .ok (.iconst 1, 1) := by decide +kernel
theorem dL_law_165 : decode cL_law 165 = .ok (.iadd, 1) := by decide +kernel
theorem dL_law_166 : decode cL_law 166 = .ok (.irem, 1) := by decide +kernel
theorem dL_law_167 : decode cL_law 167 = .ok (.iconst 1, 1) := by decide +kernel
theorem dL_law_168 : decode cL_law 168 = .ok (.isub, 1) := by decide +kernel
theorem dL_law_169 : decode cL_law 169 = .ok (.istore 10, 2) := by decide +kernel
theorem dL_law_171 : decode cL_law 171 = .ok (.aload_n 1, 1) := by decide +kernel
theorem dL_law_172 : decode cL_law 172 = .ok (.iconst 1, 1) := by decide +kernel
theorem dL_law_173 : decode cL_law 173 = .ok (.iload 10, 2) := by decide +kernel
theorem dL_law_175 : decode cL_law 175 = .ok (.iconst 0, 1) := by decide +kernel
theorem dL_law_176 : decode cL_law 176 = .ok (.iconst 0, 1) := by decide +kernel
theorem dL_law_177 : decode cL_law 177 = .ok (.iconst 0, 1) := by decide +kernel
theorem dL_law_178 : decode cL_law 178 = .ok (.iconst 0, 1) := by decide +kernel
theorem dL_law_179 : decode cL_law 179 = .ok (.invokestatic 81, 3) := by decide +kernel
theorem dL_law_182 : decode cL_law 182 = .ok (.iload_n 3, 1) := by decide +kernel
theorem dL_law_183 : decode cL_law 183 = .ok (.bipush 10, 2) := by decide +kernel
theorem dL_law_185 : decode cL_law 185 = .ok (.if_icmp .ge 7, 3) := by decide +kernel
theorem dL_law_188 : decode cL_law 188 = .ok (.iload_n 3, 1) := by decide +kernel
theorem dL_law_189 : decode cL_law 189 = .ok (.goto 5, 3) := by decide +kernel
theorem dL_law_192 : decode cL_law 192 = .ok (.bipush (-73), 2) := by decide +kernel
theorem dL_law_194 : decode cL_law 194 = .ok (.if_icmp .eq 5, 3) := by decide +kernel
theorem dL_law_197 : decode cL_law 197 = .ok (.iconst 0, 1) := by decide +kernel
theorem dL_law_198 : decode cL_law 198 = .ok (.ireturn, 1) := by decide +kernel
theorem dL_law_199 : decode cL_law 199 = .ok (.iload_n 3, 1) := by decide +kernel
theorem dL_law_200 : decode cL_law 200 = .ok (.iload_n 3, 1) := by decide +kernel
theorem dL_law_201 : decode cL_law 201 = .ok (.bipush 10, 2) := by decide +kernel
theorem dL_law_203 : decode cL_law 203 = .ok (.if_icmp .ge 7, 3) := by decide +kernel
theorem dL_law_206 : decode cL_law 206 = .ok (.iconst 1, 1) := by decide +kernel
theorem dL_law_207 : decode cL_law 207 = .ok (.goto 4, 3) := by decide +kernel
theorem dL_law_210 : decode cL_law 210 = .ok (.iconst 0, 1) := by decide +kernel
theorem dL_law_211 : decode cL_law 211 = .ok (.iadd, 1) := by decide +kernel
theorem dL_law_212 : decode cL_law 212 = .ok (.istore_n 3, 1) := by decide +kernel
theorem dL_law_213 : decode cL_law 213 = .ok (.goto 398, 3) := by decide +kernel
theorem dL_law_216 : decode cL_law 216 = .ok (.iload 7, 2) := by decide +kernel
theorem dL_law_218 : decode cL_law 218 = .ok (.bipush 8, 2) := by decide +kernel
theorem dL_law_220 : decode cL_law 220 = .ok (.if_icmp .ge 198, 3) := by decide +kernel
theorem dL_law_223 : decode cL_law 223 = .ok (.aload_n 1, 1) := by decide +kernel
theorem dL_law_224 : decode cL_law 224 = .ok (.invokevirtual 91, 3) := by decide +kernel
theorem dL_law_227 : decode cL_law 227 = .ok (.pop, 1) := by decide +kernel
theorem dL_law_228 : decode cL_law 228 = .ok (.iconst 1, 1) := by decide +kernel
theorem dL_law_229 : decode cL_law 229 = .ok (.iload 8, 2) := by decide +kernel
theorem dL_law_231 : decode cL_law 231 = .ok (.bipush 8, 2) := by decide +kernel
theorem dL_law_233 : decode cL_law 233 = .ok (.irem, 1) := by decide +kernel
theorem dL_law_234 : decode cL_law 234 = .ok (.iadd, 1) := by decide +kernel
theorem dL_law_235 : decode cL_law 235 = .ok (.istore 10, 2) := by decide +kernel
theorem dL_law_237 : decode cL_law 237 = .ok (.iconst 0, 1) := by decide +kernel
theorem dL_law_238 : decode cL_law 238 = .ok (.istore 11, 2) := by decide +kernel
theorem dL_law_240 : decode cL_law 240 = .ok (.iload 11, 2) := by decide +kernel
theorem dL_law_242 : decode cL_law 242 = .ok (.iload 10, 2) := by decide +kernel
theorem dL_law_244 : decode cL_law 244 = .ok (.if_icmp .ge 87, 3) := by decide +kernel
theorem dL_law_247 : decode cL_law 247 = .ok (.aload_n 1, 1) := by decide +kernel
theorem dL_law_248 : decode cL_law 248 = .ok (.iload 8, 2) := by decide +kernel
theorem dL_law_250 : decode cL_law 250 = .ok (.iload 11, 2) := by decide +kernel
theorem dL_law_252 : decode cL_law 252 = .ok (.iushr, 1) := by decide +kernel
theorem dL_law_253 : decode cL_law 253 = .ok (.bipush 8, 2) := by decide +kernel
theorem dL_law_255 : decode cL_law 255 = .ok (.irem, 1) := by decide +kernel
theorem dL_law_256 : decode cL_law 256 = .ok (.bipush 6, 2) := by decide +kernel
theorem dL_law_258 : decode cL_law 258 = .ok (.if_icmp .ge 7, 3) := by decide +kernel
theorem dL_law_261 : decode cL_law 261 = .ok (.iconst 0, 1) := by decide +kernel
theorem dL_law_262 : decode cL_law 262 = .ok (.goto 10, 3) := by decide +kernel
theorem dL_law_265 : decode cL_law 265 = .ok (.iload 8, 2) := by decide +kernel
theorem dL_law_267 : decode cL_law 267 = .ok (.iload 11, 2) := by decide +kernel
theorem dL_law_269 : decode cL_law 269 = .ok (.iushr, 1) := by decide +kernel
theorem dL_law_270 : decode cL_law 270 = .ok (.iconst 3, 1) := by decide +kernel
theorem dL_law_271 : decode cL_law 271 = .ok (.irem, 1) := by decide +kernel
theorem dL_law_272 : decode cL_law 272 = .ok (.iload 9, 2) := by decide +kernel
theorem dL_law_274 : decode cL_law 274 = .ok (.iconst 3, 1) := by decide +kernel
theorem dL_law_275 : decode cL_law 275 = .ok (.iload 11, 2) := by decide +kernel
theorem dL_law_277 : decode cL_law 277 = .ok (.imul, 1) := by decide +kernel
theorem dL_law_278 : decode cL_law 278 = .ok (.iadd, 1) := by decide +kernel
theorem dL_law_279 : decode cL_law 279 = .ok (.iload_n 2, 1) := by decide +kernel
theorem dL_law_280 : decode cL_law 280 = .ok (.irem, 1) := by decide +kernel
theorem dL_law_281 : decode cL_law 281 = .ok (.iload 8, 2) := by decide +kernel
theorem dL_law_283 : decode cL_law 283 = .ok (.iconst 5, 1) := by decide +kernel
theorem dL_law_284 : decode cL_law 284 = .ok (.iload 11, 2) := by decide +kernel
theorem dL_law_286 : decode cL_law 286 = .ok (.imul, 1) := by decide +kernel
theorem dL_law_287 : decode cL_law 287 = .ok (.iadd, 1) := by decide +kernel
theorem dL_law_288 : decode cL_law 288 = .ok (.iload_n 3, 1) := by decide +kernel
theorem dL_law_289 : decode cL_law 289 = .ok (.irem, 1) := by decide +kernel
theorem dL_law_290 : decode cL_law 290 = .ok (.iconst 5, 1) := by decide +kernel
theorem dL_law_291 : decode cL_law 291 = .ok (.iload 8, 2) := by decide +kernel
theorem dL_law_293 : decode cL_law 293 = .ok (.iload 11, 2) := by decide +kernel
theorem dL_law_295 : decode cL_law 295 = .ok (.iushr, 1) := by decide +kernel
theorem dL_law_296 : decode cL_law 296 = .ok (.iconst 2, 1) := by decide +kernel
theorem dL_law_297 : decode cL_law 297 = .ok (.irem, 1) := by decide +kernel
theorem dL_law_298 : decode cL_law 298 = .ok (.iadd, 1) := by decide +kernel
theorem dL_law_299 : decode cL_law 299 = .ok (.iload 9, 2) := by decide +kernel
theorem dL_law_301 : decode cL_law 301 = .ok (.bipush 37, 2) := by decide +kernel
theorem dL_law_303 : decode cL_law 303 = .ok (.iload 11, 2) := by decide +kernel
theorem dL_law_305 : decode cL_law 305 = .ok (.imul, 1) := by decide +kernel
theorem dL_law_306 : decode cL_law 306 = .ok (.iadd, 1) := by decide +kernel
theorem dL_law_307 : decode cL_law 307 = .ok (.bipush 41, 2) := by decide +kernel
theorem dL_law_309 : decode cL_law 309 = .ok (.irem, 1) := by decide +kernel
theorem dL_law_310 : decode cL_law 310 = .ok (.bipush 20, 2) := by decide +kernel
theorem dL_law_312 : decode cL_law 312 = .ok (.isub, 1) := by decide +kernel
theorem dL_law_313 : decode cL_law 313 = .ok (.invokevirtual 20, 3) := by decide +kernel
theorem dL_law_316 : decode cL_law 316 = .ok (.iload 11, 2) := by decide +kernel
theorem dL_law_318 : decode cL_law 318 = .ok (.iconst 1, 1) := by decide +kernel
theorem dL_law_319 : decode cL_law 319 = .ok (.iadd, 1) := by decide +kernel
theorem dL_law_320 : decode cL_law 320 = .ok (.if_icmp .eq 5, 3) := by decide +kernel
theorem dL_law_323 : decode cL_law 323 = .ok (.iconst 0, 1) := by decide +kernel
theorem dL_law_324 : decode cL_law 324 = .ok (.ireturn, 1) := by decide +kernel
theorem dL_law_325 : decode cL_law 325 = .ok (.iinc 11 1, 3) := by decide +kernel
theorem dL_law_328 : decode cL_law 328 = .ok (.goto (-88), 3) := by decide +kernel
theorem dL_law_331 : decode cL_law 331 = .ok (.iconst 0, 1) := by decide +kernel
theorem dL_law_332 : decode cL_law 332 = .ok (.istore 11, 2) := by decide +kernel
theorem dL_law_334 : decode cL_law 334 = .ok (.aload_n 1, 1) := by decide +kernel
theorem dL_law_335 : decode cL_law 335 = .ok (.iconst 4, 1) := by decide +kernel
theorem dL_law_336 : decode cL_law 336 = .ok (.iload 9, 2) := by decide +kernel
theorem dL_law_338 : decode cL_law 338 = .ok (.iconst 3, 1) := by decide +kernel
theorem dL_law_339 : decode cL_law 339 = .ok (.irem, 1) := by decide +kernel
theorem dL_law_340 : decode cL_law 340 = .ok (.iconst 0, 1) := by decide +kernel
theorem dL_law_341 : decode cL_law 341 = .ok (.iconst 0, 1) := by decide +kernel
theorem dL_law_342 : decode cL_law 342 = .ok (.iconst 0, 1) := by decide +kernel
theorem dL_law_343 : decode cL_law 343 = .ok (.iconst 0, 1) := by decide +kernel
theorem dL_law_344 : decode cL_law 344 = .ok (.invokestatic 81, 3) := by decide +kernel
theorem dL_law_347 : decode cL_law 347 = .ok (.istore 12, 2) := by decide +kernel
theorem dL_law_349 : decode cL_law 349 = .ok (.iconst 0, 1) := by decide +kernel
theorem dL_law_350 : decode cL_law 350 = .ok (.istore 13, 2) := by decide +kernel
theorem dL_law_352 : decode cL_law 352 = .ok (.iload 13, 2) := by decide +kernel
theorem dL_law_354 : decode cL_law 354 = .ok (.iload 10, 2) := by decide +kernel
theorem dL_law_356 : decode cL_law 356 = .ok (.if_icmp .ge 33, 3) := by decide +kernel
theorem dL_law_359 : decode cL_law 359 = .ok (.iload 12, 2) := by decide +kernel
theorem dL_law_361 : decode cL_law 361 = .ok (.ifCond .lt 28, 3) := by decide +kernel
theorem dL_law_364 : decode cL_law 364 = .ok (.iload 11, 2) := by decide +kernel
theorem dL_law_366 : decode cL_law 366 = .ok (.aload_n 1, 1) := by decide +kernel
theorem dL_law_367 : decode cL_law 367 = .ok (.iload 13, 2) := by decide +kernel
theorem dL_law_369 : decode cL_law 369 = .ok (.invokevirtual 27, 3) := by decide +kernel
theorem dL_law_372 : decode cL_law 372 = .ok (.ifCond .ne 7, 3) := by decide +kernel
theorem dL_law_375 : decode cL_law 375 = .ok (.iconst 1, 1) := by decide +kernel
theorem dL_law_376 : decode cL_law 376 = .ok (.goto 4, 3) := by decide +kernel
theorem dL_law_379 : decode cL_law 379 = .ok (.iconst 0, 1) := by decide +kernel
theorem dL_law_380 : decode cL_law 380 = .ok (.iadd, 1) := by decide +kernel
theorem dL_law_381 : decode cL_law 381 = .ok (.istore 11, 2) := by decide +kernel
theorem dL_law_383 : decode cL_law 383 = .ok (.iinc 13 1, 3) := by decide +kernel
theorem dL_law_386 : decode cL_law 386 = .ok (.goto (-34), 3) := by decide +kernel
theorem dL_law_389 : decode cL_law 389 = .ok (.iload 12, 2) := by decide +kernel
theorem dL_law_391 : decode cL_law 391 = .ok (.ifCond .lt 10, 3) := by decide +kernel
theorem dL_law_394 : decode cL_law 394 = .ok (.iload 12, 2) := by decide +kernel
theorem dL_law_396 : decode cL_law 396 = .ok (.iload 11, 2) := by decide +kernel
theorem dL_law_398 : decode cL_law 398 = .ok (.if_icmp .ne 15, 3) := by decide +kernel
theorem dL_law_401 : decode cL_law 401 = .ok (.iload 12, 2) := by decide +kernel
theorem dL_law_403 : decode cL_law 403 = .ok (.ifCond .ge 12, 3) := by decide +kernel
theorem dL_law_406 : decode cL_law 406 = .ok (.iload 12, 2) := by decide +kernel
theorem dL_law_408 : decode cL_law 408 = .ok (.bipush (-73), 2) := by decide +kernel
theorem dL_law_410 : decode cL_law 410 = .ok (.if_icmp .eq 5, 3) := by decide +kernel
theorem dL_law_413 : decode cL_law 413 = .ok (.iconst 0, 1) := by decide +kernel
theorem dL_law_414 : decode cL_law 414 = .ok (.ireturn, 1) := by decide +kernel
theorem dL_law_415 : decode cL_law 415 = .ok (.goto 196, 3) := by decide +kernel
theorem dL_law_418 : decode cL_law 418 = .ok (.iload 7, 2) := by decide +kernel
theorem dL_law_420 : decode cL_law 420 = .ok (.bipush 8, 2) := by decide +kernel
theorem dL_law_422 : decode cL_law 422 = .ok (.if_icmp .ne 102, 3) := by decide +kernel
theorem dL_law_425 : decode cL_law 425 = .ok (.aload_n 1, 1) := by decide +kernel
theorem dL_law_426 : decode cL_law 426 = .ok (.iload 8, 2) := by decide +kernel
theorem dL_law_428 : decode cL_law 428 = .ok (.iconst 4, 1) := by decide +kernel
theorem dL_law_429 : decode cL_law 429 = .ok (.irem, 1) := by decide +kernel
theorem dL_law_430 : decode cL_law 430 = .ok (.iload 9, 2) := by decide +kernel
theorem dL_law_432 : decode cL_law 432 = .ok (.iload_n 2, 1) := by decide +kernel
theorem dL_law_433 : decode cL_law 433 = .ok (.irem, 1) := by decide +kernel
theorem dL_law_434 : decode cL_law 434 = .ok (.invokevirtual 61, 3) := by decide +kernel
theorem dL_law_437 : decode cL_law 437 = .ok (.istore 10, 2) := by decide +kernel
theorem dL_law_439 : decode cL_law 439 = .ok (.aload_n 1, 1) := by decide +kernel
theorem dL_law_440 : decode cL_law 440 = .ok (.iload 8, 2) := by decide +kernel
theorem dL_law_442 : decode cL_law 442 = .ok (.iconst 4, 1) := by decide +kernel
theorem dL_law_443 : decode cL_law 443 = .ok (.irem, 1) := by decide +kernel
theorem dL_law_444 : decode cL_law 444 = .ok (.iload 9, 2) := by decide +kernel
theorem dL_law_446 : decode cL_law 446 = .ok (.iload_n 2, 1) := by decide +kernel
theorem dL_law_447 : decode cL_law 447 = .ok (.irem, 1) := by decide +kernel
theorem dL_law_448 : decode cL_law 448 = .ok (.iload 8, 2) := by decide +kernel
theorem dL_law_450 : decode cL_law 450 = .ok (.iconst 3, 1) := by decide +kernel
theorem dL_law_451 : decode cL_law 451 = .ok (.irem, 1) := by decide +kernel
theorem dL_law_452 : decode cL_law 452 = .ok (.ifCond .le 7, 3) := by decide +kernel
theorem dL_law_455 : decode cL_law 455 = .ok (.iconst 1, 1) := by decide +kernel
theorem dL_law_456 : decode cL_law 456 = .ok (.goto 4, 3) := by decide +kernel
theorem dL_law_459 : decode cL_law 459 = .ok (.iconst 0, 1) := by decide +kernel
theorem dL_law_460 : decode cL_law 460 = .ok (.invokevirtual 16, 3) := by decide +kernel
theorem dL_law_463 : decode cL_law 463 = .ok (.istore 11, 2) := by decide +kernel
theorem dL_law_465 : decode cL_law 465 = .ok (.iload 8, 2) := by decide +kernel
theorem dL_law_467 : decode cL_law 467 = .ok (.iconst 3, 1) := by decide +kernel
theorem dL_law_468 : decode cL_law 468 = .ok (.irem, 1) := by decide +kernel
theorem dL_law_469 : decode cL_law 469 = .ok (.ifCond .le 18, 3) := by decide +kernel
theorem dL_law_472 : decode cL_law 472 = .ok (.aload_n 1, 1) := by decide +kernel
theorem dL_law_473 : decode cL_law 473 = .ok (.iload 8, 2) := by decide +kernel
theorem dL_law_475 : decode cL_law 475 = .ok (.iconst 4, 1) := by decide +kernel
theorem dL_law_476 : decode cL_law 476 = .ok (.irem, 1) := by decide +kernel
theorem dL_law_477 : decode cL_law 477 = .ok (.iload 9, 2) := by decide +kernel
theorem dL_law_479 : decode cL_law 479 = .ok (.iload_n 2, 1) := by decide +kernel
theorem dL_law_480 : decode cL_law 480 = .ok (.irem, 1) := by decide +kernel
theorem dL_law_481 : decode cL_law 481 = .ok (.invokevirtual 61, 3) := by decide +kernel
theorem dL_law_484 : decode cL_law 484 = .ok (.ifCond .eq 35, 3) := by decide +kernel
theorem dL_law_487 : decode cL_law 487 = .ok (.iload 11, 2) := by decide +kernel
theorem dL_law_489 : decode cL_law 489 = .ok (.ifCond .eq 32, 3) := by decide +kernel
theorem dL_law_492 : decode cL_law 492 = .ok (.iload 10, 2) := by decide +kernel
theorem dL_law_494 : decode cL_law 494 = .ok (.ifCond .eq 27, 3) := by decide +kernel
theorem dL_law_497 : decode cL_law 497 = .ok (.iload 8, 2) := by decide +kernel
theorem dL_law_499 : decode cL_law 499 = .ok (.iconst 3, 1) := by decide +kernel
theorem dL_law_500 : decode cL_law 500 = .ok (.irem, 1) := by decide +kernel
theorem dL_law_501 : decode cL_law 501 = .ok (.ifCond .le 20, 3) := by decide +kernel
theorem dL_law_504 : decode cL_law 504 = .ok (.aload_n 1, 1) := by decide +kernel
theorem dL_law_505 : decode cL_law 505 = .ok (.iload 8, 2) := by decide +kernel
theorem dL_law_507 : decode cL_law 507 = .ok (.iconst 4, 1) := by decide +kernel
theorem dL_law_508 : decode cL_law 508 = .ok (.irem, 1) := by decide +kernel
theorem dL_law_509 : decode cL_law 509 = .ok (.iload 9, 2) := by decide +kernel
theorem dL_law_511 : decode cL_law 511 = .ok (.iload_n 2, 1) := by decide +kernel
theorem dL_law_512 : decode cL_law 512 = .ok (.irem, 1) := by decide +kernel
theorem dL_law_513 : decode cL_law 513 = .ok (.invokevirtual 61, 3) := by decide +kernel
theorem dL_law_516 : decode cL_law 516 = .ok (.ifCond .ne 5, 3) := by decide +kernel
theorem dL_law_519 : decode cL_law 519 = .ok (.iconst 0, 1) := by decide +kernel
theorem dL_law_520 : decode cL_law 520 = .ok (.ireturn, 1) := by decide +kernel
theorem dL_law_521 : decode cL_law 521 = .ok (.goto 90, 3) := by decide +kernel
theorem dL_law_524 : decode cL_law 524 = .ok (.iload 7, 2) := by decide +kernel
theorem dL_law_526 : decode cL_law 526 = .ok (.bipush 11, 2) := by decide +kernel
theorem dL_law_528 : decode cL_law 528 = .ok (.if_icmp .ge 45, 3) := by decide +kernel
theorem dL_law_531 : decode cL_law 531 = .ok (.aload_n 1, 1) := by decide +kernel
theorem dL_law_532 : decode cL_law 532 = .ok (.iload 8, 2) := by decide +kernel
theorem dL_law_534 : decode cL_law 534 = .ok (.iload_n 2, 1) := by decide +kernel
theorem dL_law_535 : decode cL_law 535 = .ok (.irem, 1) := by decide +kernel
theorem dL_law_536 : decode cL_law 536 = .ok (.iload 9, 2) := by decide +kernel
theorem dL_law_538 : decode cL_law 538 = .ok (.iload_n 3, 1) := by decide +kernel
theorem dL_law_539 : decode cL_law 539 = .ok (.irem, 1) := by decide +kernel
theorem dL_law_540 : decode cL_law 540 = .ok (.iconst 5, 1) := by decide +kernel
theorem dL_law_541 : decode cL_law 541 = .ok (.iload 8, 2) := by decide +kernel
theorem dL_law_543 : decode cL_law 543 = .ok (.iconst 5, 1) := by decide +kernel
theorem dL_law_544 : decode cL_law 544 = .ok (.irem, 1) := by decide +kernel
theorem dL_law_545 : decode cL_law 545 = .ok (.ifCond .le 7, 3) := by decide +kernel
theorem dL_law_548 : decode cL_law 548 = .ok (.iconst 1, 1) := by decide +kernel
theorem dL_law_549 : decode cL_law 549 = .ok (.goto 4, 3) := by decide +kernel
theorem dL_law_552 : decode cL_law 552 = .ok (.iconst 0, 1) := by decide +kernel
theorem dL_law_553 : decode cL_law 553 = .ok (.invokevirtual 30, 3) := by decide +kernel
theorem dL_law_556 : decode cL_law 556 = .ok (.istore 10, 2) := by decide +kernel
theorem dL_law_558 : decode cL_law 558 = .ok (.iload 10, 2) := by decide +kernel
theorem dL_law_560 : decode cL_law 560 = .ok (.aload_n 1, 1) := by decide +kernel
theorem dL_law_561 : decode cL_law 561 = .ok (.iconst 5, 1) := by decide +kernel
theorem dL_law_562 : decode cL_law 562 = .ok (.invokevirtual 58, 3) := by decide +kernel
theorem dL_law_565 : decode cL_law 565 = .ok (.if_icmp .eq 5, 3) := by decide +kernel
theorem dL_law_568 : decode cL_law 568 = .ok (.iconst 0, 1) := by decide +kernel
theorem dL_law_569 : decode cL_law 569 = .ok (.ireturn, 1) := by decide +kernel
theorem dL_law_570 : decode cL_law 570 = .ok (.goto 41, 3) := by decide +kernel
theorem dL_law_573 : decode cL_law 573 = .ok (.iload 4, 2) := by decide +kernel
theorem dL_law_575 : decode cL_law 575 = .ok (.sipush 900, 3) := by decide +kernel
theorem dL_law_578 : decode cL_law 578 = .ok (.if_icmp .ge 33, 3) := by decide +kernel
theorem dL_law_581 : decode cL_law 581 = .ok (.iload 4, 2) := by decide +kernel
theorem dL_law_583 : decode cL_law 583 = .ok (.iconst 1, 1) := by decide +kernel
theorem dL_law_584 : decode cL_law 584 = .ok (.iload 8, 2) := by decide +kernel
theorem dL_law_586 : decode cL_law 586 = .ok (.bipush 9, 2) := by decide +kernel
theorem dL_law_588 : decode cL_law 588 = .ok (.irem, 1) := by decide +kernel
theorem dL_law_589 : decode cL_law 589 = .ok (.iadd, 1) := by decide +kernel
theorem dL_law_590 : decode cL_law 590 = .ok (.iadd, 1) := by decide +kernel
theorem dL_law_591 : decode cL_law 591 = .ok (.istore 4, 2) := by decide +kernel
theorem dL_law_593 : decode cL_law 593 = .ok (.aload_n 1, 1) := by decide +kernel
theorem dL_law_594 : decode cL_law 594 = .ok (.iconst 1, 1) := by decide +kernel
theorem dL_law_595 : decode cL_law 595 = .ok (.iload 8, 2) := by decide +kernel
theorem dL_law_597 : decode cL_law 597 = .ok (.bipush 9, 2) := by decide +kernel
theorem dL_law_599 : decode cL_law 599 = .ok (.irem, 1) := by decide +kernel
theorem dL_law_600 : decode cL_law 600 = .ok (.iadd, 1) := by decide +kernel
theorem dL_law_601 : decode cL_law 601 = .ok (.invokevirtual 34, 3) := by decide +kernel
theorem dL_law_604 : decode cL_law 604 = .ok (.iload 4, 2) := by decide +kernel
theorem dL_law_606 : decode cL_law 606 = .ok (.if_icmp .eq 5, 3) := by decide +kernel
theorem dL_law_609 : decode cL_law 609 = .ok (.iconst 0, 1) := by decide +kernel
theorem dL_law_610 : decode cL_law 610 = .ok (.ireturn, 1) := by decide +kernel
theorem dL_law_611 : decode cL_law 611 = .ok (.iload_n 2, 1) := by decide +kernel
theorem dL_law_612 : decode cL_law 612 = .ok (.ifCond .eq 238, 3) := by decide +kernel
theorem dL_law_615 : decode cL_law 615 = .ok (.iload_n 3, 1) := by decide +kernel
theorem dL_law_616 : decode cL_law 616 = .ok (.ifCond .ne 6, 3) := by decide +kernel
theorem dL_law_619 : decode cL_law 619 = .ok (.goto 231, 3) := by decide +kernel
theorem dL_law_622 : decode cL_law 622 = .ok (.iload 5, 2) := by decide +kernel
theorem dL_law_624 : decode cL_law 624 = .ok (.bipush 10, 2) := by decide +kernel
theorem dL_law_626 : decode cL_law 626 = .ok (.irem, 1) := by decide +kernel
theorem dL_law_627 : decode cL_law 627 = .ok (.bipush 9, 2) := by decide +kernel
theorem dL_law_629 : decode cL_law 629 = .ok (.if_icmp .ne 7, 3) := by decide +kernel
theorem dL_law_632 : decode cL_law 632 = .ok (.iconst 1, 1) := by decide +kernel
theorem dL_law_633 : decode cL_law 633 = .ok (.goto 4, 3) := by decide +kernel
theorem dL_law_636 : decode cL_law 636 = .ok (.iconst 0, 1) := by decide +kernel
theorem dL_law_637 : decode cL_law 637 = .ok (.istore 10, 2) := by decide +kernel
theorem dL_law_639 : decode cL_law 639 = .ok (.iconst 0, 1) := by decide +kernel
theorem dL_law_640 : decode cL_law 640 = .ok (.istore 11, 2) := by decide +kernel
theorem dL_law_642 : decode cL_law 642 = .ok (.iconst 0, 1) := by decide +kernel
theorem dL_law_643 : decode cL_law 643 = .ok (.istore 12, 2) := by decide +kernel
theorem dL_law_645 : decode cL_law 645 = .ok (.iload 12, 2) := by decide +kernel
theorem dL_law_647 : decode cL_law 647 = .ok (.iload_n 2, 1) := by decide +kernel
theorem dL_law_648 : decode cL_law 648 = .ok (.if_icmp .ge 114, 3) := by decide +kernel
theorem dL_law_651 : decode cL_law 651 = .ok (.iconst 0, 1) := by decide +kernel
theorem dL_law_652 : decode cL_law 652 = .ok (.istore 13, 2) := by decide +kernel
theorem dL_law_654 : decode cL_law 654 = .ok (.iload 13, 2) := by decide +kernel
theorem dL_law_656 : decode cL_law 656 = .ok (.iload_n 3, 1) := by decide +kernel
theorem dL_law_657 : decode cL_law 657 = .ok (.if_icmp .ge 99, 3) := by decide +kernel
theorem dL_law_660 : decode cL_law 660 = .ok (.iload 10, 2) := by decide +kernel
theorem dL_law_662 : decode cL_law 662 = .ok (.ifCond .ne 24, 3) := by decide +kernel
theorem dL_law_665 : decode cL_law 665 = .ok (.iload 12, 2) := by decide +kernel
theorem dL_law_667 : decode cL_law 667 = .ok (.iload 5, 2) := by decide +kernel
theorem dL_law_669 : decode cL_law 669 = .ok (.iload_n 2, 1) := by decide +kernel
theorem dL_law_670 : decode cL_law 670 = .ok (.irem, 1) := by decide +kernel
theorem dL_law_671 : decode cL_law 671 = .ok (.if_icmp .ne 79, 3) := by decide +kernel
theorem dL_law_674 : decode cL_law 674 = .ok (.iload 13, 2) := by decide +kernel
theorem dL_law_676 : decode cL_law 676 = .ok (.iload 8, 2) := by decide +kernel
theorem dL_law_678 : decode cL_law 678 = .ok (.iload_n 3, 1) := by decide +kernel
theorem dL_law_679 : decode cL_law 679 = .ok (.irem, 1) := by decide +kernel
theorem dL_law_680 : decode cL_law 680 = .ok (.if_icmp .eq 6, 3) := by decide +kernel
theorem dL_law_683 : decode cL_law 683 = .ok (.goto 67, 3) := by decide +kernel
theorem dL_law_686 : decode cL_law 686 = .ok (.aload_n 1, 1) := by decide +kernel
theorem dL_law_687 : decode cL_law 687 = .ok (.iload 12, 2) := by decide +kernel
theorem dL_law_689 : decode cL_law 689 = .ok (.iload 13, 2) := by decide +kernel
theorem dL_law_691 : decode cL_law 691 = .ok (.iconst 5, 1) := by decide +kernel
theorem dL_law_692 : decode cL_law 692 = .ok (.invokevirtual 55, 3) := by decide +kernel
theorem dL_law_695 : decode cL_law 695 = .ok (.istore 14, 2) := by decide +kernel
theorem dL_law_697 : decode cL_law 697 = .ok (.aload_n 1, 1) := by decide +kernel
theorem dL_law_698 : decode cL_law 698 = .ok (.iload 12, 2) := by decide +kernel
theorem dL_law_700 : decode cL_law 700 = .ok (.iload 13, 2) := by decide +kernel
theorem dL_law_702 : decode cL_law 702 = .ok (.iconst 5, 1) := by decide +kernel
theorem dL_law_703 : decode cL_law 703 = .ok (.iload 4, 2) := by decide +kernel
theorem dL_law_705 : decode cL_law 705 = .ok (.invokevirtual 41, 3) := by decide +kernel
theorem dL_law_708 : decode cL_law 708 = .ok (.istore 15, 2) := by decide +kernel
theorem dL_law_710 : decode cL_law 710 = .ok (.iload 11, 2) := by decide +kernel
theorem dL_law_712 : decode cL_law 712 = .ok (.iload 14, 2) := by decide +kernel
theorem dL_law_714 : decode cL_law 714 = .ok (.ldc 108, 2) := by decide +kernel
theorem dL_law_716 : decode cL_law 716 = .ok (.if_icmp .ne 7, 3) := by decide +kernel
theorem dL_law_719 : decode cL_law 719 = .ok (.iconst 1, 1) := by decide +kernel
theorem dL_law_720 : decode cL_law 720 = .ok (.goto 4, 3) := by decide +kernel
theorem dL_law_723 : decode cL_law 723 = .ok (.iconst 0, 1) := by decide +kernel
theorem dL_law_724 : decode cL_law 724 = .ok (.iadd, 1) := by decide +kernel
theorem dL_law_725 : decode cL_law 725 = .ok (.istore 11, 2) := by decide +kernel
theorem dL_law_727 : decode cL_law 727 = .ok (.iload 14, 2) := by decide +kernel
theorem dL_law_729 : decode cL_law 729 = .ok (.iload 15, 2) := by decide +kernel
theorem dL_law_731 : decode cL_law 731 = .ok (.if_icmp .eq 19, 3) := by decide +kernel
theorem dL_law_734 : decode cL_law 734 = .ok (.iload 14, 2) := by decide +kernel
theorem dL_law_736 : decode cL_law 736 = .ok (.ldc 108, 2) := by decide +kernel
theorem dL_law_738 : decode cL_law 738 = .ok (.if_icmp .ne 10, 3) := by decide +kernel
theorem dL_law_741 : decode cL_law 741 = .ok (.iload 15, 2) := by decide +kernel
theorem dL_law_743 : decode cL_law 743 = .ok (.ldc 95, 2) := by decide +kernel
theorem dL_law_745 : decode cL_law 745 = .ok (.if_icmp .ne 5, 3) := by decide +kernel
theorem dL_law_748 : decode cL_law 748 = .ok (.iconst 0, 1) := by decide +kernel
theorem dL_law_749 : decode cL_law 749 = .ok (.ireturn, 1) := by decide +kernel
theorem dL_law_750 : decode cL_law 750 = .ok (.iinc 13 1, 3) := by decide +kernel
theorem dL_law_753 : decode cL_law 753 = .ok (.goto (-99), 3) := by decide +kernel
theorem dL_law_756 : decode cL_law 756 = .ok (.iinc 12 1, 3) := by decide +kernel
theorem dL_law_759 : decode cL_law 759 = .ok (.goto (-114), 3) := by decide +kernel
theorem dL_law_762 : decode cL_law 762 = .ok (.aload_n 1, 1) := by decide +kernel
theorem dL_law_763 : decode cL_law 763 = .ok (.iconst (-1), 1) := by decide +kernel
theorem dL_law_764 : decode cL_law 764 = .ok (.iconst (-1), 1) := by decide +kernel
theorem dL_law_765 : decode cL_law 765 = .ok (.iconst 5, 1) := by decide +kernel
theorem dL_law_766 : decode cL_law 766 = .ok (.bipush 6, 2) := by decide +kernel
theorem dL_law_768 : decode cL_law 768 = .ok (.iconst 0, 1) := by decide +kernel
theorem dL_law_769 : decode cL_law 769 = .ok (.iload 5, 2) := by decide +kernel
theorem dL_law_771 : decode cL_law 771 = .ok (.bipush 7, 2) := by decide +kernel
theorem dL_law_773 : decode cL_law 773 = .ok (.irem, 1) := by decide +kernel
theorem dL_law_774 : decode cL_law 774 = .ok (.invokestatic 76, 3) := by decide +kernel
theorem dL_law_777 : decode cL_law 777 = .ok (.istore 12, 2) := by decide +kernel
theorem dL_law_779 : decode cL_law 779 = .ok (.iload 10, 2) := by decide +kernel
theorem dL_law_781 : decode cL_law 781 = .ok (.ifCond .eq 13, 3) := by decide +kernel
theorem dL_law_784 : decode cL_law 784 = .ok (.iload 11, 2) := by decide +kernel
theorem dL_law_786 : decode cL_law 786 = .ok (.aload_n 1, 1) := by decide +kernel
theorem dL_law_787 : decode cL_law 787 = .ok (.iconst 5, 1) := by decide +kernel
theorem dL_law_788 : decode cL_law 788 = .ok (.invokevirtual 58, 3) := by decide +kernel
theorem dL_law_791 : decode cL_law 791 = .ok (.if_icmp .ne 57, 3) := by decide +kernel
theorem dL_law_794 : decode cL_law 794 = .ok (.iload 12, 2) := by decide +kernel
theorem dL_law_796 : decode cL_law 796 = .ok (.ifCond .lt 33, 3) := by decide +kernel
theorem dL_law_799 : decode cL_law 799 = .ok (.aload_n 1, 1) := by decide +kernel
theorem dL_law_800 : decode cL_law 800 = .ok (.iload 12, 2) := by decide +kernel
theorem dL_law_802 : decode cL_law 802 = .ok (.bipush 20, 2) := by decide +kernel
theorem dL_law_804 : decode cL_law 804 = .ok (.idiv, 1) := by decide +kernel
theorem dL_law_805 : decode cL_law 805 = .ok (.bipush 50, 2) := by decide +kernel
theorem dL_law_807 : decode cL_law 807 = .ok (.irem, 1) := by decide +kernel
theorem dL_law_808 : decode cL_law 808 = .ok (.iload 12, 2) := by decide +kernel
theorem dL_law_810 : decode cL_law 810 = .ok (.bipush 20, 2) := by decide +kernel
theorem dL_law_812 : decode cL_law 812 = .ok (.irem, 1) := by decide +kernel
theorem dL_law_813 : decode cL_law 813 = .ok (.iload 12, 2) := by decide +kernel
theorem dL_law_815 : decode cL_law 815 = .ok (.sipush 1000, 3) := by decide +kernel
theorem dL_law_818 : decode cL_law 818 = .ok (.idiv, 1) := by decide +kernel
theorem dL_law_819 : decode cL_law 819 = .ok (.iload 4, 2) := by decide +kernel
theorem dL_law_821 : decode cL_law 821 = .ok (.invokevirtual 37, 3) := by decide +kernel
theorem dL_law_824 : decode cL_law 824 = .ok (.ldc 95, 2) := by decide +kernel
theorem dL_law_826 : decode cL_law 826 = .ok (.if_icmp .eq 22, 3) := by decide +kernel
theorem dL_law_829 : decode cL_law 829 = .ok (.iload 5, 2) := by decide +kernel
theorem dL_law_831 : decode cL_law 831 = .ok (.bipush 15, 2) := by decide +kernel
theorem dL_law_833 : decode cL_law 833 = .ok (.irem, 1) := by decide +kernel
theorem dL_law_834 : decode cL_law 834 = .ok (.ifCond .ne 16, 3) := by decide +kernel
theorem dL_law_837 : decode cL_law 837 = .ok (.aload_n 1, 1) := by decide +kernel
theorem dL_law_838 : decode cL_law 838 = .ok (.iload_n 2, 1) := by decide +kernel
theorem dL_law_839 : decode cL_law 839 = .ok (.iload_n 3, 1) := by decide +kernel
theorem dL_law_840 : decode cL_law 840 = .ok (.iload 4, 2) := by decide +kernel
theorem dL_law_842 : decode cL_law 842 = .ok (.invokestatic 87, 3) := by decide +kernel
theorem dL_law_845 : decode cL_law 845 = .ok (.ifCond .ne 5, 3) := by decide +kernel
theorem dL_law_848 : decode cL_law 848 = .ok (.iconst 0, 1) := by decide +kernel
theorem dL_law_849 : decode cL_law 849 = .ok (.ireturn, 1) := by decide +kernel
theorem dL_law_850 : decode cL_law 850 = .ok (.iinc 5 1, 3) := by decide +kernel
theorem dL_law_853 : decode cL_law 853 = .ok (.goto (-827), 3) := by decide +kernel
theorem dL_law_856 : decode cL_law 856 = .ok (.iconst 1, 1) := by decide +kernel
theorem dL_law_857 : decode cL_law 857 = .ok (.ireturn, 1) := by decide +kernel
abbrev vwCl : List vw_C := [(RX0, TX0, 1), (RX1, TX1, 8), (RX2, TX2, 5), (RX3, TX3, 2), (RX4, TX4, 3), (RX5, TX5, 11)]
