theorem dL_refuses_2 : decode cL_refuses 2 = .ok (.istore 4, 2) := by decide +kernel
theorem dL_refuses_4 : decode cL_refuses 4 = .ok (.aload_n 0, 1) := by decide +kernel
theorem dL_refuses_5 : decode cL_refuses 5 = .ok (.iconst 5, 1) := by decide +kernel
theorem dL_refuses_6 : decode cL_refuses 6 = .ok (.invokevirtual 58, 3) := by decide +kernel
theorem dL_refuses_9 : decode cL_refuses 9 = .ok (.istore 5, 2) := by decide +kernel
theorem dL_refuses_11 : decode cL_refuses 11 = .ok (.aload_n 0, 1) := by decide +kernel
theorem dL_refuses_12 : decode cL_refuses 12 = .ok (.iconst (-1), 1) := by decide +kernel
theorem dL_refuses_13 : decode cL_refuses 13 = .ok (.iconst (-1), 1) := by decide +kernel
theorem dL_refuses_14 : decode cL_refuses 14 = .ok (.iconst 0, 1) := by decide +kernel
theorem dL_refuses_15 : decode cL_refuses 15 = .ok (.bipush 11, 2) := by decide +kernel
theorem dL_refuses_17 : decode cL_refuses 17 = .ok (.iconst 0, 1) := by decide +kernel
theorem dL_refuses_18 : decode cL_refuses 18 = .ok (.iconst 0, 1) := by decide +kernel
theorem dL_refuses_19 : decode cL_refuses 19 = .ok (.invokestatic 76, 3) := by decide +kernel
theorem dL_refuses_22 : decode cL_refuses 22 = .ok (.istore 6, 2) := by decide +kernel
theorem dL_refuses_24 : decode cL_refuses 24 = .ok (.iconst 0, 1) := by decide +kernel
theorem dL_refuses_25 : decode cL_refuses 25 = .ok (.istore 7, 2) := by decide +kernel
theorem dL_refuses_27 : decode cL_refuses 27 = .ok (.iload 7, 2) := by decide +kernel
theorem dL_refuses_29 : decode cL_refuses 29 = .ok (.iconst 4, 1) := by decide +kernel
theorem dL_refuses_30 : decode cL_refuses 30 = .ok (.if_icmp .ge 792, 3) := by decide +kernel
theorem dL_refuses_33 : decode cL_refuses 33 = .ok (.iload 7, 2) := by decide +kernel
theorem dL_refuses_35 : decode cL_refuses 35 = .ok (.ifCond .ne 7, 3) := by decide +kernel
theorem dL_refuses_38 : decode cL_refuses 38 = .ok (.iconst (-1), 1) := by decide +kernel
theorem dL_refuses_39 : decode cL_refuses 39 = .ok (.goto 19, 3) := by decide +kernel
theorem dL_refuses_42 : decode cL_refuses 42 = .ok (.iload 7, 2) := by decide +kernel
theorem dL_refuses_44 : decode cL_refuses 44 = .ok (.iconst 2, 1) := by decide +kernel
theorem dL_refuses_45 : decode cL_refuses 45 = .ok (.if_icmp .ne 8, 3) := by decide +kernel
theorem dL_refuses_48 : decode cL_refuses 48 = .ok (.iload 4, 2) := by decide +kernel
theorem dL_refuses_50 : decode cL_refuses 50 = .ok (.goto 8, 3) := by decide +kernel
theorem dL_refuses_53 : decode cL_refuses 53 = .ok (.iload 4, 2) := by decide +kernel
theorem dL_refuses_55 : decode cL_refuses 55 = .ok (.ineg, 1) := by decide +kernel
theorem dL_refuses_56 : decode cL_refuses 56 = .ok (.iconst 1, 1) := by decide +kernel
theorem dL_refuses_57 : decode cL_refuses 57 = .ok (.isub, 1) := by decide +kernel
theorem dL_refuses_58 : decode cL_refuses 58 = .ok (.istore 8, 2) := by decide +kernel
theorem dL_refuses_60 : decode cL_refuses 60 = .ok (.iload 7, 2) := by decide +kernel
theorem dL_refuses_62 : decode cL_refuses 62 = .ok (.iconst 1, 1) := by decide +kernel
theorem dL_refuses_63 : decode cL_refuses 63 = .ok (.if_icmp .ne 7, 3) := by decide +kernel
theorem dL_refuses_66 : decode cL_refuses 66 = .ok (.iload_n 1, 1) := by decide +kernel
theorem dL_refuses_67 : decode cL_refuses 67 = .ok (.goto 5, 3) := by decide +kernel
theorem dL_refuses_70 : decode cL_refuses 70 = .ok (.iload 8, 2) := by decide +kernel
theorem dL_refuses_72 : decode cL_refuses 72 = .ok (.istore 9, 2) := by decide +kernel
theorem dL_refuses_74 : decode cL_refuses 74 = .ok (.iload 7, 2) := by decide +kernel
theorem dL_refuses_76 : decode cL_refuses 76 = .ok (.iconst 1, 1) := by decide +kernel
theorem dL_refuses_77 : decode cL_refuses 77 = .ok (.if_icmp .ne 7, 3) := by decide +kernel
theorem dL_refuses_80 : decode cL_refuses 80 = .ok (.iload_n 2, 1) := by decide +kernel
theorem dL_refuses_81 : decode cL_refuses 81 = .ok (.goto 5, 3) := by decide +kernel
theorem dL_refuses_84 : decode cL_refuses 84 = .ok (.iload 8, 2) := by decide +kernel
theorem dL_refuses_86 : decode cL_refuses 86 = .ok (.istore 10, 2) := by decide +kernel
theorem dL_refuses_88 : decode cL_refuses 88 = .ok (.iload 7, 2) := by decide +kernel
theorem dL_refuses_90 : decode cL_refuses 90 = .ok (.iconst 1, 1) := by decide +kernel
theorem dL_refuses_91 : decode cL_refuses 91 = .ok (.if_icmp .ne 8, 3) := by decide +kernel
theorem dL_refuses_94 : decode cL_refuses 94 = .ok (.bipush 12, 2) := by decide +kernel
theorem dL_refuses_96 : decode cL_refuses 96 = .ok (.goto 5, 3) := by decide +kernel
theorem dL_refuses_99 : decode cL_refuses 99 = .ok (.iload 8, 2) := by decide +kernel
theorem dL_refuses_101 : decode cL_refuses 101 = .ok (.istore 11, 2) := by decide +kernel
theorem dL_refuses_103 : decode cL_refuses 103 = .ok (.iload 7, 2) := by decide +kernel
theorem dL_refuses_105 : decode cL_refuses 105 = .ok (.iconst 1, 1) := by decide +kernel
theorem dL_refuses_106 : decode cL_refuses 106 = .ok (.if_icmp .ne 7, 3) := by decide +kernel
theorem dL_refuses_109 : decode cL_refuses 109 = .ok (.iconst 4, 1) := by decide +kernel
theorem dL_refuses_110 : decode cL_refuses 110 = .ok (.goto 5, 3) := by decide +kernel
theorem dL_refuses_113 : decode cL_refuses 113 = .ok (.iload 8, 2) := by decide +kernel
theorem dL_refuses_115 : decode cL_refuses 115 = .ok (.istore 12, 2) := by decide +kernel
theorem dL_refuses_117 : decode cL_refuses 117 = .ok (.iload 7, 2) := by decide +kernel
theorem dL_refuses_119 : decode cL_refuses 119 = .ok (.iconst 1, 1) := by decide +kernel
theorem dL_refuses_120 : decode cL_refuses 120 = .ok (.if_icmp .ne 7, 3) := by decide +kernel
theorem dL_refuses_123 : decode cL_refuses 123 = .ok (.iconst 3, 1) := by decide +kernel
theorem dL_refuses_124 : decode cL_refuses 124 = .ok (.goto 5, 3) := by decide +kernel
theorem dL_refuses_127 : decode cL_refuses 127 = .ok (.iload 8, 2) := by decide +kernel
theorem dL_refuses_129 : decode cL_refuses 129 = .ok (.istore 13, 2) := by decide +kernel
theorem dL_refuses_131 : decode cL_refuses 131 = .ok (.iload 7, 2) := by decide +kernel
theorem dL_refuses_133 : decode cL_refuses 133 = .ok (.iconst 2, 1) := by decide +kernel
theorem dL_refuses_134 : decode cL_refuses 134 = .ok (.if_icmp .ne 7, 3) := by decide +kernel
theorem dL_refuses_137 : decode cL_refuses 137 = .ok (.iconst (-1), 1) := by decide +kernel
theorem dL_refuses_138 : decode cL_refuses 138 = .ok (.goto 19, 3) := by decide +kernel
theorem dL_refuses_141 : decode cL_refuses 141 = .ok (.iload 7, 2) := by decide +kernel
theorem dL_refuses_143 : decode cL_refuses 143 = .ok (.iconst 1, 1) := by decide +kernel
theorem dL_refuses_144 : decode cL_refuses 144 = .ok (.if_icmp .ne 8, 3) := by decide +kernel
theorem dL_refuses_147 : decode cL_refuses 147 = .ok (.bipush (-2), 2) := by decide +kernel
theorem dL_refuses_149 : decode cL_refuses 149 = .ok (.goto 8, 3) := by decide +kernel
theorem dL_refuses_152 : decode cL_refuses 152 = .ok (.iload 4, 2) := by decide +kernel
theorem dL_refuses_154 : decode cL_refuses 154 = .ok (.ineg, 1) := by decide +kernel
theorem dL_refuses_155 : decode cL_refuses 155 = .ok (.iconst 1, 1) := by decide +kernel
theorem dL_refuses_156 : decode cL_refuses 156 = .ok (.isub, 1) := by decide +kernel
theorem dL_refuses_157 : decode cL_refuses 157 = .ok (.istore 14, 2) := by decide +kernel
theorem dL_refuses_159 : decode cL_refuses 159 = .ok (.aload_n 0, 1) := by decide +kernel
theorem dL_refuses_160 : decode cL_refuses 160 = .ok (.iconst 0, 1) := by decide +kernel
theorem dL_refuses_161 : decode cL_refuses 161 = .ok (.iload 7, 2) := by decide +kernel
theorem dL_refuses_163 : decode cL_refuses 163 = .ok (.ifCond .ne 8, 3) := by decide +kernel
theorem dL_refuses_166 : decode cL_refuses 166 = .ok (.bipush (-2), 2) := by decide +kernel
theorem dL_refuses_168 : decode cL_refuses 168 = .ok (.goto 5, 3) := by decide +kernel
theorem dL_refuses_171 : decode cL_refuses 171 = .ok (.iload 9, 2) := by decide +kernel
theorem dL_refuses_173 : decode cL_refuses 173 = .ok (.iconst 0, 1) := by decide +kernel
theorem dL_refuses_174 : decode cL_refuses 174 = .ok (.iconst 0, 1) := by decide +kernel
theorem dL_refuses_175 : decode cL_refuses 175 = .ok (.iconst 0, 1) := by decide +kernel
theorem dL_refuses_176 : decode cL_refuses 176 = .ok (.iconst 0, 1) := by decide +kernel
theorem dL_refuses_177 : decode cL_refuses 177 = .ok (.invokestatic 81, 3) := by decide +kernel
theorem dL_refuses_180 : decode cL_refuses 180 = .ok (.bipush (-71), 2) := by decide +kernel
theorem dL_refuses_182 : decode cL_refuses 182 = .ok (.if_icmp .ne 247, 3) := by decide +kernel
theorem dL_refuses_185 : decode cL_refuses 185 = .ok (.aload_n 0, 1) := by decide +kernel
theorem dL_refuses_186 : decode cL_refuses 186 = .ok (.iconst 1, 1) := by decide +kernel
theorem dL_refuses_187 : decode cL_refuses 187 = .ok (.iload 7, 2) := by decide +kernel
theorem dL_refuses_189 : decode cL_refuses 189 = .ok (.ifCond .ne 8, 3) := by decide +kernel
theorem dL_refuses_192 : decode cL_refuses 192 = .ok (.bipush (-2), 2) := by decide +kernel
theorem dL_refuses_194 : decode cL_refuses 194 = .ok (.goto 5, 3) := by decide +kernel
theorem dL_refuses_197 : decode cL_refuses 197 = .ok (.iload 10, 2) := by decide +kernel
theorem dL_refuses_199 : decode cL_refuses 199 = .ok (.iconst 0, 1) := by decide +kernel
theorem dL_refuses_200 : decode cL_refuses 200 = .ok (.iconst 0, 1) := by decide +kernel
theorem dL_refuses_201 : decode cL_refuses 201 = .ok (.iconst 0, 1) := by decide +kernel
theorem dL_refuses_202 : decode cL_refuses 202 = .ok (.iconst 0, 1) := by decide +kernel
theorem dL_refuses_203 : decode cL_refuses 203 = .ok (.invokestatic 81, 3) := by decide +kernel
theorem dL_refuses_206 : decode cL_refuses 206 = .ok (.bipush (-71), 2) := by decide +kernel
theorem dL_refuses_208 : decode cL_refuses 208 = .ok (.if_icmp .ne 221, 3) := by decide +kernel
theorem dL_refuses_211 : decode cL_refuses 211 = .ok (.aload_n 0, 1) := by decide +kernel
theorem dL_refuses_212 : decode cL_refuses 212 = .ok (.iconst 2, 1) := by decide +kernel
theorem dL_refuses_213 : decode cL_refuses 213 = .ok (.iload 12, 2) := by decide +kernel
theorem dL_refuses_215 : decode cL_refuses 215 = .ok (.iconst 0, 1) := by decide +kernel
theorem dL_refuses_216 : decode cL_refuses 216 = .ok (.iconst 0, 1) := by decide +kernel
theorem dL_refuses_217 : decode cL_refuses 217 = .ok (.iconst 0, 1) := by decide +kernel
theorem dL_refuses_218 : decode cL_refuses 218 = .ok (.iconst 0, 1) := by decide +kernel
theorem dL_refuses_219 : decode cL_refuses 219 = .ok (.invokestatic 81, 3) := by decide +kernel
theorem dL_refuses_222 : decode cL_refuses 222 = .ok (.bipush (-71), 2) := by decide +kernel
theorem dL_refuses_224 : decode cL_refuses 224 = .ok (.if_icmp .ne 205, 3) := by decide +kernel
theorem dL_refuses_227 : decode cL_refuses 227 = .ok (.aload_n 0, 1) := by decide +kernel
theorem dL_refuses_228 : decode cL_refuses 228 = .ok (.iconst 2, 1) := by decide +kernel
theorem dL_refuses_229 : decode cL_refuses 229 = .ok (.iconst 0, 1) := by decide +kernel
theorem dL_refuses_230 : decode cL_refuses 230 = .ok (.iload 9, 2) := by decide +kernel
theorem dL_refuses_232 : decode cL_refuses 232 = .ok (.iconst 0, 1) := by decide +kernel
theorem dL_refuses_233 : decode cL_refuses 233 = .ok (.iconst 0, 1) := by decide +kernel
theorem dL_refuses_234 : decode cL_refuses 234 = .ok (.iconst 0, 1) := by decide +kernel
theorem dL_refuses_235 : decode cL_refuses 235 = .ok (.invokestatic 81, 3) := by decide +kernel
theorem dL_refuses_238 : decode cL_refuses 238 = .ok (.bipush (-71), 2) := by decide +kernel
theorem dL_refuses_240 : decode cL_refuses 240 = .ok (.if_icmp .ne 189, 3) := by decide +kernel
theorem dL_refuses_243 : decode cL_refuses 243 = .ok (.aload_n 0, 1) := by decide +kernel
theorem dL_refuses_244 : decode cL_refuses 244 = .ok (.iconst 3, 1) := by decide +kernel
theorem dL_refuses_245 : decode cL_refuses 245 = .ok (.bipush 9, 2) := by decide +kernel
theorem dL_refuses_247 : decode cL_refuses 247 = .ok (.iload 9, 2) := by decide +kernel
theorem dL_refuses_249 : decode cL_refuses 249 = .ok (.iconst 0, 1) := by decide +kernel
theorem dL_refuses_250 : decode cL_refuses 250 = .ok (.iconst 0, 1) := by decide +kernel
theorem dL_refuses_251 : decode cL_refuses 251 = .ok (.iconst 0, 1) := by decide +kernel
theorem dL_refuses_252 : decode cL_refuses 252 = .ok (.invokestatic 81, 3) := by decide +kernel
theorem dL_refuses_255 : decode cL_refuses 255 = .ok (.bipush (-71), 2) := by decide +kernel
theorem dL_refuses_257 : decode cL_refuses 257 = .ok (.if_icmp .ne 172, 3) := by decide +kernel
theorem dL_refuses_260 : decode cL_refuses 260 = .ok (.aload_n 0, 1) := by decide +kernel
theorem dL_refuses_261 : decode cL_refuses 261 = .ok (.iconst 3, 1) := by decide +kernel
theorem dL_refuses_262 : decode cL_refuses 262 = .ok (.bipush 9, 2) := by decide +kernel
theorem dL_refuses_264 : decode cL_refuses 264 = .ok (.iconst 0, 1) := by decide +kernel
theorem dL_refuses_265 : decode cL_refuses 265 = .ok (.iload 10, 2) := by decide +kernel
theorem dL_refuses_267 : decode cL_refuses 267 = .ok (.iconst 0, 1) := by decide +kernel
theorem dL_refuses_268 : decode cL_refuses 268 = .ok (.iconst 0, 1) := by decide +kernel
theorem dL_refuses_269 : decode cL_refuses 269 = .ok (.invokestatic 81, 3) := by decide +kernel
theorem dL_refuses_272 : decode cL_refuses 272 = .ok (.bipush (-71), 2) := by decide +kernel
theorem dL_refuses_274 : decode cL_refuses 274 = .ok (.if_icmp .ne 155, 3) := by decide +kernel
theorem dL_refuses_277 : decode cL_refuses 277 = .ok (.aload_n 0, 1) := by decide +kernel
theorem dL_refuses_278 : decode cL_refuses 278 = .ok (.iconst 3, 1) := by decide +kernel
theorem dL_refuses_279 : decode cL_refuses 279 = .ok (.bipush 9, 2) := by decide +kernel
theorem dL_refuses_281 : decode cL_refuses 281 = .ok (.iconst 0, 1) := by decide +kernel
theorem dL_refuses_282 : decode cL_refuses 282 = .ok (.iconst 0, 1) := by decide +kernel
theorem dL_refuses_283 : decode cL_refuses 283 = .ok (.iload 11, 2) := by decide +kernel
theorem dL_refuses_285 : decode cL_refuses 285 = .ok (.iconst 0, 1) := by decide +kernel
theorem dL_refuses_286 : decode cL_refuses 286 = .ok (.invokestatic 81, 3) := by decide +kernel
theorem dL_refuses_289 : decode cL_refuses 289 = .ok (.bipush (-71), 2) := by decide +kernel
theorem dL_refuses_291 : decode cL_refuses 291 = .ok (.if_icmp .ne 138, 3) := by decide +kernel
theorem dL_refuses_294 : decode cL_refuses 294 = .ok (.aload_n 0, 1) := by decide +kernel
theorem dL_refuses_295 : decode cL_refuses 295 = .ok (.iconst 4, 1) := by decide +kernel
theorem dL_refuses_296 : decode cL_refuses 296 = .ok (.iload 12, 2) := by decide +kernel
theorem dL_refuses_298 : decode cL_refuses 298 = .ok (.iconst 0, 1) := by decide +kernel
theorem dL_refuses_299 : decode cL_refuses 299 = .ok (.iconst 0, 1) := by decide +kernel
theorem dL_refuses_300 : decode cL_refuses 300 = .ok (.iconst 0, 1) := by decide +kernel
theorem dL_refuses_301 : decode cL_refuses 301 = .ok (.iconst 0, 1) := by decide +kernel
theorem dL_refuses_302 : decode cL_refuses 302 = .ok (.invokestatic 81, 3) := by decide +kernel
theorem dL_refuses_305 : decode cL_refuses 305 = .ok (.bipush (-71), 2) := by decide +kernel
theorem dL_refuses_307 : decode cL_refuses 307 = .ok (.if_icmp .ne 122, 3) := by decide +kernel
theorem dL_refuses_310 : decode cL_refuses 310 = .ok (.aload_n 0, 1) := by decide +kernel
theorem dL_refuses_311 : decode cL_refuses 311 = .ok (.iconst 5, 1) := by decide +kernel
theorem dL_refuses_312 : decode cL_refuses 312 = .ok (.iload 7, 2) := by decide +kernel
theorem dL_refuses_314 : decode cL_refuses 314 = .ok (.iconst 1, 1) := by decide +kernel
theorem dL_refuses_315 : decode cL_refuses 315 = .ok (.if_icmp .ne 8, 3) := by decide +kernel
theorem dL_refuses_318 : decode cL_refuses 318 = .ok (.bipush 16, 2) := by decide +kernel
theorem dL_refuses_320 : decode cL_refuses 320 = .ok (.goto 5, 3) := by decide +kernel
theorem dL_refuses_323 : decode cL_refuses 323 = .ok (.iload 8, 2) := by decide +kernel
theorem dL_refuses_325 : decode cL_refuses 325 = .ok (.iconst 0, 1) := by decide +kernel
theorem dL_refuses_326 : decode cL_refuses 326 = .ok (.iconst 0, 1) := by decide +kernel
theorem dL_refuses_327 : decode cL_refuses 327 = .ok (.iconst 0, 1) := by decide +kernel
theorem dL_refuses_328 : decode cL_refuses 328 = .ok (.iconst 0, 1) := by decide +kernel
theorem dL_refuses_329 : decode cL_refuses 329 = .ok (.invokestatic 81, 3) := by decide +kernel
theorem dL_refuses_332 : decode cL_refuses 332 = .ok (.bipush (-71), 2) := by decide +kernel
theorem dL_refuses_334 : decode cL_refuses 334 = .ok (.if_icmp .ne 95, 3) := by decide +kernel
theorem dL_refuses_337 : decode cL_refuses 337 = .ok (.aload_n 0, 1) := by decide +kernel
theorem dL_refuses_338 : decode cL_refuses 338 = .ok (.bipush 7, 2) := by decide +kernel
theorem dL_refuses_340 : decode cL_refuses 340 = .ok (.iload 7, 2) := by decide +kernel
theorem dL_refuses_342 : decode cL_refuses 342 = .ok (.ifCond .ne 7, 3) := by decide +kernel
theorem dL_refuses_345 : decode cL_refuses 345 = .ok (.iconst 0, 1) := by decide +kernel
theorem dL_refuses_346 : decode cL_refuses 346 = .ok (.goto 16, 3) := by decide +kernel
theorem dL_refuses_349 : decode cL_refuses 349 = .ok (.iload 7, 2) := by decide +kernel
theorem dL_refuses_351 : decode cL_refuses 351 = .ok (.iconst 1, 1) := by decide +kernel
theorem dL_refuses_352 : decode cL_refuses 352 = .ok (.if_icmp .ne 8, 3) := by decide +kernel
theorem dL_refuses_355 : decode cL_refuses 355 = .ok (.bipush 101, 2) := by decide +kernel
theorem dL_refuses_357 : decode cL_refuses 357 = .ok (.goto 5, 3) := by decide +kernel
theorem dL_refuses_360 : decode cL_refuses 360 = .ok (.iload 8, 2) := by decide +kernel
theorem dL_refuses_362 : decode cL_refuses 362 = .ok (.iconst 0, 1) := by decide +kernel
theorem dL_refuses_363 : decode cL_refuses 363 = .ok (.iconst 0, 1) := by decide +kernel
theorem dL_refuses_364 : decode cL_refuses 364 = .ok (.iconst 0, 1) := by decide +kernel
theorem dL_refuses_365 : decode cL_refuses 365 = .ok (.iconst 0, 1) := by decide +kernel
theorem dL_refuses_366 : decode cL_refuses 366 = .ok (.invokestatic 81, 3) := by decide +kernel
theorem dL_refuses_369 : decode cL_refuses 369 = .ok (.bipush (-72), 2) := by decide +kernel
theorem dL_refuses_371 : decode cL_refuses 371 = .ok (.if_icmp .ne 58, 3) := by decide +kernel
theorem dL_refuses_374 : decode cL_refuses 374 = .ok (.aload_n 0, 1) := by decide +kernel
theorem dL_refuses_375 : decode cL_refuses 375 = .ok (.bipush 14, 2) := by decide +kernel
theorem dL_refuses_377 : decode cL_refuses 377 = .ok (.iload 11, 2) := by decide +kernel
theorem dL_refuses_379 : decode cL_refuses 379 = .ok (.iconst 0, 1) := by decide +kernel
theorem dL_refuses_380 : decode cL_refuses 380 = .ok (.iconst 0, 1) := by decide +kernel
theorem dL_refuses_381 : decode cL_refuses 381 = .ok (.iconst 0, 1) := by decide +kernel
theorem dL_refuses_382 : decode cL_refuses 382 = .ok (.iconst 0, 1) := by decide +kernel
theorem dL_refuses_383 : decode cL_refuses 383 = .ok (.invokestatic 81, 3) := by decide +kernel
theorem dL_refuses_386 : decode cL_refuses 386 = .ok (.bipush (-71), 2) := by decide +kernel
theorem dL_refuses_388 : decode cL_refuses 388 = .ok (.if_icmp .ne 41, 3) := by decide +kernel
theorem dL_refuses_391 : decode cL_refuses 391 = .ok (.aload_n 0, 1) := by decide +kernel
theorem dL_refuses_392 : decode cL_refuses 392 = .ok (.bipush 15, 2) := by decide +kernel
theorem dL_refuses_394 : decode cL_refuses 394 = .ok (.iload 12, 2) := by decide +kernel
theorem dL_refuses_396 : decode cL_refuses 396 = .ok (.iconst 0, 1) := by decide +kernel
theorem dL_refuses_397 : decode cL_refuses 397 = .ok (.iconst 0, 1) := by decide +kernel
theorem dL_refuses_398 : decode cL_refuses 398 = .ok (.iconst 0, 1) := by decide +kernel
theorem dL_refuses_399 : decode cL_refuses 399 = .ok (.iconst 0, 1) := by decide +kernel
theorem dL_refuses_400 : decode cL_refuses 400 = .ok (.invokestatic 81, 3) := by decide +kernel
theorem dL_refuses_403 : decode cL_refuses 403 = .ok (.bipush (-71), 2) := by decide +kernel
theorem dL_refuses_405 : decode cL_refuses 405 = .ok (.if_icmp .ne 24, 3) := by decide +kernel
theorem dL_refuses_408 : decode cL_refuses 408 = .ok (.aload_n 0, 1) := by decide +kernel
theorem dL_refuses_409 : decode cL_refuses 409 = .ok (.bipush 15, 2) := by decide +kernel
theorem dL_refuses_411 : decode cL_refuses 411 = .ok (.iconst 0, 1) := by decide +kernel
theorem dL_refuses_412 : decode cL_refuses 412 = .ok (.iload 9, 2) := by decide +kernel
theorem dL_refuses_414 : decode cL_refuses 414 = .ok (.iconst 0, 1) := by decide +kernel
theorem dL_refuses_415 : decode cL_refuses 415 = .ok (.iconst 0, 1) := by decide +kernel
theorem dL_refuses_416 : decode cL_refuses 416 = .ok (.iconst 0, 1) := by decide +kernel
theorem dL_refuses_417 : decode cL_refuses 417 = .ok (.invokestatic 81, 3) := by decide +kernel
theorem dL_refuses_420 : decode cL_refuses 420 = .ok (.bipush (-71), 2) := by decide +kernel
theorem dL_refuses_422 : decode cL_refuses 422 = .ok (.if_icmp .ne 7, 3) := by decide +kernel
theorem dL_refuses_425 : decode cL_refuses 425 = .ok (.iconst 1, 1) := by decide +kernel
theorem dL_refuses_426 : decode cL_refuses 426 = .ok (.goto 4, 3) := by decide +kernel
theorem dL_refuses_429 : decode cL_refuses 429 = .ok (.iconst 0, 1) := by decide +kernel
theorem dL_refuses_430 : decode cL_refuses 430 = .ok (.istore 15, 2) := by decide +kernel
theorem dL_refuses_432 : decode cL_refuses 432 = .ok (.bipush 6, 2) := by decide +kernel
theorem dL_refuses_434 : decode cL_refuses 434 = .ok (.istore 16, 2) := by decide +kernel
theorem dL_refuses_436 : decode cL_refuses 436 = .ok (.iload 16, 2) := by decide +kernel
theorem dL_refuses_438 : decode cL_refuses 438 = .ok (.bipush 14, 2) := by decide +kernel
theorem dL_refuses_440 : decode cL_refuses 440 = .ok (.if_icmp .ge 79, 3) := by decide +kernel
theorem dL_refuses_443 : decode cL_refuses 443 = .ok (.iload 15, 2) := by decide +kernel
theorem dL_refuses_445 : decode cL_refuses 445 = .ok (.ifCond .eq 74, 3) := by decide +kernel
theorem dL_refuses_448 : decode cL_refuses 448 = .ok (.iload 16, 2) := by decide +kernel
theorem dL_refuses_450 : decode cL_refuses 450 = .ok (.bipush 7, 2) := by decide +kernel
theorem dL_refuses_452 : decode cL_refuses 452 = .ok (.if_icmp .eq 54, 3) := by decide +kernel
theorem dL_refuses_455 : decode cL_refuses 455 = .ok (.aload_n 0, 1) := by decide +kernel
theorem dL_refuses_456 : decode cL_refuses 456 = .ok (.iload 16, 2) := by decide +kernel
theorem dL_refuses_458 : decode cL_refuses 458 = .ok (.iload 9, 2) := by decide +kernel
theorem dL_refuses_460 : decode cL_refuses 460 = .ok (.iconst 0, 1) := by decide +kernel
theorem dL_refuses_461 : decode cL_refuses 461 = .ok (.iconst 0, 1) := by decide +kernel
theorem dL_refuses_462 : decode cL_refuses 462 = .ok (.iconst (-1), 1) := by decide +kernel
theorem dL_refuses_463 : decode cL_refuses 463 = .ok (.iconst 0, 1) := by decide +kernel
theorem dL_refuses_464 : decode cL_refuses 464 = .ok (.invokestatic 81, 3) := by decide +kernel
theorem dL_refuses_467 : decode cL_refuses 467 = .ok (.bipush (-71), 2) := by decide +kernel
theorem dL_refuses_469 : decode cL_refuses 469 = .ok (.if_icmp .ne 41, 3) := by decide +kernel
theorem dL_refuses_472 : decode cL_refuses 472 = .ok (.aload_n 0, 1) := by decide +kernel
theorem dL_refuses_473 : decode cL_refuses 473 = .ok (.iload 16, 2) := by decide +kernel
theorem dL_refuses_475 : decode cL_refuses 475 = .ok (.iconst 0, 1) := by decide +kernel
theorem dL_refuses_476 : decode cL_refuses 476 = .ok (.iload 10, 2) := by decide +kernel
theorem dL_refuses_478 : decode cL_refuses 478 = .ok (.iconst 0, 1) := by decide +kernel
theorem dL_refuses_479 : decode cL_refuses 479 = .ok (.iconst (-1), 1) := by decide +kernel
theorem dL_refuses_480 : decode cL_refuses 480 = .ok (.iconst 0, 1) := by decide +kernel
theorem dL_refuses_481 : decode cL_refuses 481 = .ok (.invokestatic 81, 3) := by decide +kernel
theorem dL_refuses_484 : decode cL_refuses 484 = .ok (.bipush (-71), 2) := by decide +kernel
theorem dL_refuses_486 : decode cL_refuses 486 = .ok (.if_icmp .ne 24, 3) := by decide +kernel
theorem dL_refuses_489 : decode cL_refuses 489 = .ok (.aload_n 0, 1) := by decide +kernel
theorem dL_refuses_490 : decode cL_refuses 490 = .ok (.iload 16, 2) := by decide +kernel
theorem dL_refuses_492 : decode cL_refuses 492 = .ok (.iconst 0, 1) := by decide +kernel
theorem dL_refuses_493 : decode cL_refuses 493 = .ok (.iconst 0, 1) := by decide +kernel
theorem dL_refuses_494 : decode cL_refuses 494 = .ok (.iload 11, 2) := by decide +kernel
theorem dL_refuses_496 : decode cL_refuses 496 = .ok (.iconst (-1), 1) := by decide +kernel
theorem dL_refuses_497 : decode cL_refuses 497 = .ok (.iconst 0, 1) := by decide +kernel
theorem dL_refuses_498 : decode cL_refuses 498 = .ok (.invokestatic 81, 3) := by decide +kernel
theorem dL_refuses_501 : decode cL_refuses 501 = .ok (.bipush (-71), 2) := by decide +kernel
theorem dL_refuses_503 : decode cL_refuses 503 = .ok (.if_icmp .ne 7, 3) := by decide +kernel
theorem dL_refuses_506 : decode cL_refuses 506 = .ok (.iconst 1, 1) := by decide +kernel
theorem dL_refuses_507 : decode cL_refuses 507 = .ok (.goto 4, 3) := by decide +kernel
theorem dL_refuses_510 : decode cL_refuses 510 = .ok (.iconst 0, 1) := by decide +kernel
theorem dL_refuses_511 : decode cL_refuses 511 = .ok (.istore 15, 2) := by decide +kernel
theorem dL_refuses_513 : decode cL_refuses 513 = .ok (.iinc 16 1, 3) := by decide +kernel
theorem dL_refuses_516 : decode cL_refuses 516 = .ok (.goto (-80), 3) := by decide +kernel
theorem dL_refuses_519 : decode cL_refuses 519 = .ok (.iload 15, 2) := by decide +kernel
theorem dL_refuses_521 : decode cL_refuses 521 = .ok (.ifCond .eq 154, 3) := by decide +kernel
theorem dL_refuses_524 : decode cL_refuses 524 = .ok (.aload_n 0, 1) := by decide +kernel
theorem dL_refuses_525 : decode cL_refuses 525 = .ok (.iload 7, 2) := by decide +kernel
theorem dL_refuses_527 : decode cL_refuses 527 = .ok (.ifCond .ne 8, 3) := by decide +kernel
theorem dL_refuses_530 : decode cL_refuses 530 = .ok (.bipush (-2), 2) := by decide +kernel
theorem dL_refuses_532 : decode cL_refuses 532 = .ok (.goto 5, 3) := by decide +kernel
theorem dL_refuses_535 : decode cL_refuses 535 = .ok (.iload 9, 2) := by decide +kernel
theorem dL_refuses_537 : decode cL_refuses 537 = .ok (.iconst (-1), 1) := by decide +kernel
theorem dL_refuses_538 : decode cL_refuses 538 = .ok (.bipush 9, 2) := by decide +kernel
theorem dL_refuses_540 : decode cL_refuses 540 = .ok (.iconst 0, 1) := by decide +kernel
theorem dL_refuses_541 : decode cL_refuses 541 = .ok (.iconst 0, 1) := by decide +kernel
theorem dL_refuses_542 : decode cL_refuses 542 = .ok (.iconst 0, 1) := by decide +kernel
theorem dL_refuses_543 : decode cL_refuses 543 = .ok (.invokestatic 76, 3) := by decide +kernel
theorem dL_refuses_546 : decode cL_refuses 546 = .ok (.bipush (-71), 2) := by decide +kernel
theorem dL_refuses_548 : decode cL_refuses 548 = .ok (.if_icmp .ne 127, 3) := by decide +kernel
theorem dL_refuses_551 : decode cL_refuses 551 = .ok (.aload_n 0, 1) := by decide +kernel
theorem dL_refuses_552 : decode cL_refuses 552 = .ok (.iconst (-1), 1) := by decide +kernel
theorem dL_refuses_553 : decode cL_refuses 553 = .ok (.iload 7, 2) := by decide +kernel
theorem dL_refuses_555 : decode cL_refuses 555 = .ok (.ifCond .ne 8, 3) := by decide +kernel
theorem dL_refuses_558 : decode cL_refuses 558 = .ok (.bipush (-2), 2) := by decide +kernel
theorem dL_refuses_560 : decode cL_refuses 560 = .ok (.goto 5, 3) := by decide +kernel
theorem dL_refuses_563 : decode cL_refuses 563 = .ok (.iload 10, 2) := by decide +kernel
theorem dL_refuses_565 : decode cL_refuses 565 = .ok (.bipush 9, 2) := by decide +kernel
theorem dL_refuses_567 : decode cL_refuses 567 = .ok (.iconst 0, 1) := by decide +kernel
theorem dL_refuses_568 : decode cL_refuses 568 = .ok (.iconst 0, 1) := by decide +kernel
theorem dL_refuses_569 : decode cL_refuses 569 = .ok (.iconst 0, 1) := by decide +kernel
theorem dL_refuses_570 : decode cL_refuses 570 = .ok (.invokestatic 76, 3) := by decide +kernel
theorem dL_refuses_573 : decode cL_refuses 573 = .ok (.bipush (-71), 2) := by decide +kernel
theorem dL_refuses_575 : decode cL_refuses 575 = .ok (.if_icmp .ne 100, 3) := by decide +kernel
theorem dL_refuses_578 : decode cL_refuses 578 = .ok (.aload_n 0, 1) := by decide +kernel
theorem dL_refuses_579 : decode cL_refuses 579 = .ok (.iconst (-1), 1) := by decide +kernel
theorem dL_refuses_580 : decode cL_refuses 580 = .ok (.iconst (-1), 1) := by decide +kernel
theorem dL_refuses_581 : decode cL_refuses 581 = .ok (.bipush 9, 2) := by decide +kernel
theorem dL_refuses_583 : decode cL_refuses 583 = .ok (.iconst 0, 1) := by decide +kernel
theorem dL_refuses_584 : decode cL_refuses 584 = .ok (.iconst 0, 1) := by decide +kernel
theorem dL_refuses_585 : decode cL_refuses 585 = .ok (.iload 14, 2) := by decide +kernel
theorem dL_refuses_587 : decode cL_refuses 587 = .ok (.invokestatic 76, 3) := by decide +kernel
theorem dL_refuses_590 : decode cL_refuses 590 = .ok (.bipush (-71), 2) := by decide +kernel
theorem dL_refuses_592 : decode cL_refuses 592 = .ok (.if_icmp .ne 83, 3) := by decide +kernel
theorem dL_refuses_595 : decode cL_refuses 595 = .ok (.aload_n 0, 1) := by decide +kernel
theorem dL_refuses_596 : decode cL_refuses 596 = .ok (.iconst (-1), 1) := by decide +kernel
theorem dL_refuses_597 : decode cL_refuses 597 = .ok (.iconst (-1), 1) := by decide +kernel
theorem dL_refuses_598 : decode cL_refuses 598 = .ok (.iload 11, 2) := by decide +kernel
theorem dL_refuses_600 : decode cL_refuses 600 = .ok (.bipush 11, 2) := by decide +kernel
theorem dL_refuses_602 : decode cL_refuses 602 = .ok (.iconst 0, 1) := by decide +kernel
theorem dL_refuses_603 : decode cL_refuses 603 = .ok (.iconst 0, 1) := by decide +kernel
theorem dL_refuses_604 : decode cL_refuses 604 = .ok (.invokestatic 76, 3) := by decide +kernel
theorem dL_refuses_607 : decode cL_refuses 607 = .ok (.bipush (-72), 2) := by decide +kernel
theorem dL_refuses_609 : decode cL_refuses 609 = .ok (.if_icmp .ne 66, 3) := by decide +kernel
theorem dL_refuses_612 : decode cL_refuses 612 = .ok (.aload_n 0, 1) := by decide +kernel
theorem dL_refuses_613 : decode cL_refuses 613 = .ok (.iconst (-1), 1) := by decide +kernel
theorem dL_refuses_614 : decode cL_refuses 614 = .ok (.iconst (-1), 1) := by decide +kernel
theorem dL_refuses_615 : decode cL_refuses 615 = .ok (.iconst 0, 1) := by decide +kernel
theorem dL_refuses_616 : decode cL_refuses 616 = .ok (.iload 11, 2) := by decide +kernel
theorem dL_refuses_618 : decode cL_refuses 618 = .ok (.iconst 0, 1) := by decide +kernel
theorem dL_refuses_619 : decode cL_refuses 619 = .ok (.iconst 0, 1) := by decide +kernel
theorem dL_refuses_620 : decode cL_refuses 620 = .ok (.invokestatic 76, 3) := by decide +kernel
theorem dL_refuses_623 : decode cL_refuses 623 = .ok (.bipush (-72), 2) := by decide +kernel
theorem dL_refuses_625 : decode cL_refuses 625 = .ok (.if_icmp .ne 50, 3) := by decide +kernel
theorem dL_refuses_628 : decode cL_refuses 628 = .ok (.aload_n 0, 1) := by decide +kernel
theorem dL_refuses_629 : decode cL_refuses 629 = .ok (.iconst (-1), 1) := by decide +kernel
theorem dL_refuses_630 : decode cL_refuses 630 = .ok (.iconst (-1), 1) := by decide +kernel
theorem dL_refuses_631 : decode cL_refuses 631 = .ok (.iconst 5, 1) := by decide +kernel
theorem dL_refuses_632 : decode cL_refuses 632 = .ok (.iconst 4, 1) := by decide +kernel
theorem dL_refuses_633 : decode cL_refuses 633 = .ok (.iconst 0, 1) := by decide +kernel
theorem dL_refuses_634 : decode cL_refuses 634 = .ok (.iconst 0, 1) := by decide +kernel
theorem dL_refuses_635 : decode cL_refuses 635 = .ok (.invokestatic 76, 3) := by decide +kernel
theorem dL_refuses_638 : decode cL_refuses 638 = .ok (.bipush (-72), 2) := by decide +kernel
theorem dL_refuses_640 : decode cL_refuses 640 = .ok (.if_icmp .ne 35, 3) := by decide +kernel
theorem dL_refuses_643 : decode cL_refuses 643 = .ok (.aload_n 0, 1) := by decide +kernel
theorem dL_refuses_644 : decode cL_refuses 644 = .ok (.iconst (-1), 1) := by decide +kernel
theorem dL_refuses_645 : decode cL_refuses 645 = .ok (.iconst (-1), 1) := by decide +kernel
theorem dL_refuses_646 : decode cL_refuses 646 = .ok (.iconst 0, 1) := by decide +kernel
theorem dL_refuses_647 : decode cL_refuses 647 = .ok (.iconst 0, 1) := by decide +kernel
theorem dL_refuses_648 : decode cL_refuses 648 = .ok (.iload 7, 2) := by decide +kernel
theorem dL_refuses_650 : decode cL_refuses 650 = .ok (.iconst 1, 1) := by decide +kernel
theorem dL_refuses_651 : decode cL_refuses 651 = .ok (.if_icmp .ne 9, 3) := by decide +kernel
theorem dL_refuses_654 : decode cL_refuses 654 = .ok (.sipush 1001, 3) := by decide +kernel
theorem dL_refuses_657 : decode cL_refuses 657 = .ok (.goto 5, 3) := by decide +kernel
theorem dL_refuses_660 : decode cL_refuses 660 = .ok (.iload 8, 2) := by decide +kernel
theorem dL_refuses_662 : decode cL_refuses 662 = .ok (.iconst 0, 1) := by decide +kernel
theorem dL_refuses_663 : decode cL_refuses 663 = .ok (.invokestatic 76, 3) := by decide +kernel
theorem dL_refuses_666 : decode cL_refuses 666 = .ok (.bipush (-72), 2) := by decide +kernel
theorem dL_refuses_668 : decode cL_refuses 668 = .ok (.if_icmp .ne 7, 3) := by decide +kernel
theorem dL_refuses_671 : decode cL_refuses 671 = .ok (.iconst 1, 1) := by decide +kernel
theorem dL_refuses_672 : decode cL_refuses 672 = .ok (.goto 4, 3) := by decide +kernel
theorem dL_refuses_675 : decode cL_refuses 675 = .ok (.iconst 0, 1) := by decide +kernel
theorem dL_refuses_676 : decode cL_refuses 676 = .ok (.istore 15, 2) := by decide +kernel
theorem dL_refuses_678 : decode cL_refuses 678 = .ok (.iload 15, 2) := by decide +kernel
theorem dL_refuses_680 : decode cL_refuses 680 = .ok (.ifCond .eq 126, 3) := by decide +kernel
theorem dL_refuses_683 : decode cL_refuses 683 = .ok (.iload_n 1, 1) := by decide +kernel
theorem dL_refuses_684 : decode cL_refuses 684 = .ok (.ifCond .eq 118, 3) := by decide +kernel
theorem dL_refuses_687 : decode cL_refuses 687 = .ok (.iload_n 2, 1) := by decide +kernel
theorem dL_refuses_688 : decode cL_refuses 688 = .ok (.ifCond .eq 114, 3) := by decide +kernel
theorem dL_refuses_691 : decode cL_refuses 691 = .ok (.aload_n 0, 1) := by decide +kernel
theorem dL_refuses_692 : decode cL_refuses 692 = .ok (.iconst 3, 1) := by decide +kernel
theorem dL_refuses_693 : decode cL_refuses 693 = .ok (.iload 13, 2) := by decide +kernel
theorem dL_refuses_695 : decode cL_refuses 695 = .ok (.iconst 0, 1) := by decide +kernel
theorem dL_refuses_696 : decode cL_refuses 696 = .ok (.iconst 0, 1) := by decide +kernel
theorem dL_refuses_697 : decode cL_refuses 697 = .ok (.iconst 0, 1) := by decide +kernel
theorem dL_refuses_698 : decode cL_refuses 698 = .ok (.iconst 0, 1) := by decide +kernel
theorem dL_refuses_699 : decode cL_refuses 699 = .ok (.invokestatic 81, 3) := by decide +kernel
theorem dL_refuses_702 : decode cL_refuses 702 = .ok (.bipush (-72), 2) := by decide +kernel
theorem dL_refuses_704 : decode cL_refuses 704 = .ok (.if_icmp .ne 102, 3) := by decide +kernel
theorem dL_refuses_707 : decode cL_refuses 707 = .ok (.aload_n 0, 1) := by decide +kernel
theorem dL_refuses_708 : decode cL_refuses 708 = .ok (.iconst 3, 1) := by decide +kernel
theorem dL_refuses_709 : decode cL_refuses 709 = .ok (.iconst 2, 1) := by decide +kernel
theorem dL_refuses_710 : decode cL_refuses 710 = .ok (.iconst 0, 1) := by decide +kernel
theorem dL_refuses_711 : decode cL_refuses 711 = .ok (.iconst 0, 1) := by decide +kernel
theorem dL_refuses_712 : decode cL_refuses 712 = .ok (.iconst 0, 1) := by decide +kernel
theorem dL_refuses_713 : decode cL_refuses 713 = .ok (.iload 7, 2) := by decide +kernel
theorem dL_refuses_715 : decode cL_refuses 715 = .ok (.ifCond .ne 8, 3) := by decide +kernel
theorem dL_refuses_718 : decode cL_refuses 718 = .ok (.ldc 84, 2) := by decide +kernel
theorem dL_refuses_720 : decode cL_refuses 720 = .ok (.goto 16, 3) := by decide +kernel
theorem dL_refuses_723 : decode cL_refuses 723 = .ok (.iload 7, 2) := by decide +kernel
theorem dL_refuses_725 : decode cL_refuses 725 = .ok (.iconst 1, 1) := by decide +kernel
theorem dL_refuses_726 : decode cL_refuses 726 = .ok (.if_icmp .ne 8, 3) := by decide +kernel
theorem dL_refuses_729 : decode cL_refuses 729 = .ok (.ldc 85, 2) := by decide +kernel
theorem dL_refuses_731 : decode cL_refuses 731 = .ok (.goto 5, 3) := by decide +kernel
theorem dL_refuses_734 : decode cL_refuses 734 = .ok (.iload 8, 2) := by decide +kernel
theorem dL_refuses_736 : decode cL_refuses 736 = .ok (.invokestatic 81, 3) := by decide +kernel
theorem dL_refuses_739 : decode cL_refuses 739 = .ok (.bipush (-72), 2) := by decide +kernel
theorem dL_refuses_741 : decode cL_refuses 741 = .ok (.if_icmp .ne 65, 3) := by decide +kernel
theorem dL_refuses_744 : decode cL_refuses 744 = .ok (.aload_n 0, 1) := by decide +kernel
theorem dL_refuses_745 : decode cL_refuses 745 = .ok (.bipush 8, 2) := by decide +kernel
theorem dL_refuses_747 : decode cL_refuses 747 = .ok (.iconst 0, 1) := by decide +kernel
theorem dL_refuses_748 : decode cL_refuses 748 = .ok (.iconst 0, 1) := by decide +kernel
theorem dL_refuses_749 : decode cL_refuses 749 = .ok (.iconst 0, 1) := by decide +kernel
theorem dL_refuses_750 : decode cL_refuses 750 = .ok (.iload 7, 2) := by decide +kernel
theorem dL_refuses_752 : decode cL_refuses 752 = .ok (.iconst 1, 1) := by decide +kernel
theorem dL_refuses_753 : decode cL_refuses 753 = .ok (.if_icmp .ne 9, 3) := by decide +kernel
theorem dL_refuses_756 : decode cL_refuses 756 = .ok (.iload_n 3, 1) := by decide +kernel
theorem dL_refuses_757 : decode cL_refuses 757 = .ok (.iconst 1, 1) := by decide +kernel
theorem dL_refuses_758 : decode cL_refuses 758 = .ok (.iadd, 1) := by decide +kernel
theorem dL_refuses_759 : decode cL_refuses 759 = .ok (.goto 5, 3) := by decide +kernel
theorem dL_refuses_762 : decode cL_refuses 762 = .ok (.iload 8, 2) := by decide +kernel
theorem dL_refuses_764 : decode cL_refuses 764 = .ok (.iconst 0, 1) := by decide +kernel
theorem dL_refuses_765 : decode cL_refuses 765 = .ok (.invokestatic 81, 3) := by decide +kernel
theorem dL_refuses_768 : decode cL_refuses 768 = .ok (.bipush (-72), 2) := by decide +kernel
theorem dL_refuses_770 : decode cL_refuses 770 = .ok (.if_icmp .ne 36, 3) := by decide +kernel
theorem dL_refuses_773 : decode cL_refuses 773 = .ok (.aload_n 0, 1) := by decide +kernel
theorem dL_refuses_774 : decode cL_refuses 774 = .ok (.bipush 9, 2) := by decide +kernel
theorem dL_refuses_776 : decode cL_refuses 776 = .ok (.iconst 0, 1) := by decide +kernel
theorem dL_refuses_777 : decode cL_refuses 777 = .ok (.iconst 0, 1) := by decide +kernel
theorem dL_refuses_778 : decode cL_refuses 778 = .ok (.iconst 0, 1) := by decide +kernel
theorem dL_refuses_779 : decode cL_refuses 779 = .ok (.iload 7, 2) := by decide +kernel
theorem dL_refuses_781 : decode cL_refuses 781 = .ok (.iconst 1, 1) := by decide +kernel
theorem dL_refuses_782 : decode cL_refuses 782 = .ok (.if_icmp .ne 9, 3) := by decide +kernel
theorem dL_refuses_785 : decode cL_refuses 785 = .ok (.iload_n 3, 1) := by decide +kernel
theorem dL_refuses_786 : decode cL_refuses 786 = .ok (.iconst 1, 1) := by decide +kernel
theorem dL_refuses_787 : decode cL_refuses 787 = .ok (.iadd, 1) := by decide +kernel
theorem dL_refuses_788 : decode cL_refuses 788 = .ok (.goto 5, 3) := by decide +kernel
theorem dL_refuses_791 : decode cL_refuses 791 = .ok (.iload 8, 2) := by decide +kernel
theorem dL_refuses_793 : decode cL_refuses 793 = .ok (.iconst 0, 1) := by decide +kernel
theorem dL_refuses_794 : decode cL_refuses 794 = .ok (.invokestatic 81, 3) := by decide +kernel
theorem dL_refuses_797 : decode cL_refuses 797 = .ok (.bipush (-72), 2) := by decide +kernel
theorem dL_refuses_799 : decode cL_refuses 799 = .ok (.if_icmp .ne 7, 3) := by decide +kernel
theorem dL_refuses_802 : decode cL_refuses 802 = .ok (.iconst 1, 1) := by decide +kernel
theorem dL_refuses_803 : decode cL_refuses 803 = .ok (.goto 4, 3) := by decide +kernel
theorem dL_refuses_806 : decode cL_refuses 806 = .ok (.iconst 0, 1) := by decide +kernel
theorem dL_refuses_807 : decode cL_refuses 807 = .ok (.istore 15, 2) := by decide +kernel
theorem dL_refuses_809 : decode cL_refuses 809 = .ok (.iload 15, 2) := by decide +kernel
theorem dL_refuses_811 : decode cL_refuses 811 = .ok (.ifCond .ne 5, 3) := by decide +kernel
theorem dL_refuses_814 : decode cL_refuses 814 = .ok (.iconst 0, 1) := by decide +kernel
theorem dL_refuses_815 : decode cL_refuses 815 = .ok (.ireturn, 1) := by decide +kernel
theorem dL_refuses_816 : decode cL_refuses 816 = .ok (.iinc 7 1, 3) := by decide +kernel
theorem dL_refuses_819 : decode cL_refuses 819 = .ok (.goto (-792), 3) := by decide +kernel
theorem dL_refuses_822 : decode cL_refuses 822 = .ok (.aload_n 0, 1) := by decide +kernel
theorem dL_refuses_823 : decode cL_refuses 823 = .ok (.iconst 5, 1) := by decide +kernel
theorem dL_refuses_824 : decode cL_refuses 824 = .ok (.invokevirtual 58, 3) := by decide +kernel
theorem dL_refuses_827 : decode cL_refuses 827 = .ok (.iload 5, 2) := by decide +kernel
theorem dL_refuses_829 : decode cL_refuses 829 = .ok (.if_icmp .ne 23, 3) := by decide +kernel
theorem dL_refuses_832 : decode cL_refuses 832 = .ok (.aload_n 0, 1) := by decide +kernel
theorem dL_refuses_833 : decode cL_refuses 833 = .ok (.iconst (-1), 1) := by decide +kernel
theorem dL_refuses_834 : decode cL_refuses 834 = .ok (.iconst (-1), 1) := by decide +kernel
theorem dL_refuses_835 : decode cL_refuses 835 = .ok (.iconst 0, 1) := by decide +kernel
theorem dL_refuses_836 : decode cL_refuses 836 = .ok (.bipush 11, 2) := by decide +kernel
theorem dL_refuses_838 : decode cL_refuses 838 = .ok (.iconst 0, 1) := by decide +kernel
theorem dL_refuses_839 : decode cL_refuses 839 = .ok (.iconst 0, 1) := by decide +kernel
theorem dL_refuses_840 : decode cL_refuses 840 = .ok (.invokestatic 76, 3) := by decide +kernel
theorem dL_refuses_843 : decode cL_refuses 843 = .ok (.iload 6, 2) := by decide +kernel
theorem dL_refuses_845 : decode cL_refuses 845 = .ok (.if_icmp .ne 7, 3) := by decide +kernel
theorem dL_refuses_848 : decode cL_refuses 848 = .ok (.iconst 1, 1) := by decide +kernel
theorem dL_refuses_849 : decode cL_refuses 849 = .ok (.goto 4, 3) := by decide +kernel
theorem dL_refuses_852 : decode cL_refuses 852 = .ok (.iconst 0, 1) := by decide +kernel
theorem dL_refuses_853 : decode cL_refuses 853 = .ok (.ireturn, 1) := by decide +kernel
set_option maxRecDepth 20000 in
theorem ggL_house_X5_init : GoodIn wsL_house wsX5_init := goodIn_r _ [8, 9, 10, 11, 12, 13, 14, 15, 16, 17, 18, 19, 20, 21, 22, 23, 24, 25, 26, 27, 28, 29, 30, 31, 32, 33, 34, 35, 36, 37, 38, 39, 40, 41, 42, 43, 44, 45, 46, 47, 48, 49, 50, 51, 52, 53, 54, 55, 56, 57, 58, 59, 60, 61, 62, 63, 64, 65, 66, 67, 68, 69, 70, 71, 72, 73, 74, 365, 366, 367, 354, 355, 356, 357, 358, 359, 360, 361, 362, 363, 364, 368, 369, 370, 371, 372, 373, 374, 375, 376, 377, 378, 379, 380, 381, 382, 383] (by decide +kernel) (by decide +kernel)
set_option maxRecDepth 20000 in
theorem gL_house_X5_init : GoodIn wsL_house (wsX5_init) := ggL_house_X5_init
set_option maxRecDepth 20000 in
theorem ggL_house_L_refuses : GoodIn wsL_house wsL_refuses := goodIn_ca (goodIn_ca (goodIn_ca (goodIn_r _ [78, 79, 80, 81, 82, 83, 84, 3, 85, 86, 87, 32, 88, 89, 90, 91, 92, 93, 94, 28, 95, 15, 16, 34, 96, 97, 98, 31, 99, 73, 100, 101, 102, 103, 104, 105, 67, 68, 69, 106, 107, 108, 109, 110, 111, 112, 113, 114, 14, 115, 116, 41, 117, 118, 119, 120, 121, 122, 123, 124, 125, 126, 127, 74, 128, 129, 130, 131, 132, 133, 134, 135, 136, 137, 138, 139, 140, 141, 142, 143, 144, 145, 146, 147, 148, 149, 150, 151, 152, 153, 154, 155, 156, 157, 77, 158, 159, 160, 161, 162, 163, 164, 165, 166, 167, 168, 169, 170, 171, 172, 173, 174, 175, 176, 177, 178, 179, 180, 181, 182, 183, 184, 27, 185, 58, 65, 61, 186, 187, 188, 189, 190, 191, 192, 193, 194, 195, 196, 197, 198, 199, 200, 201, 202, 203, 204, 205, 206, 207, 208, 209, 210, 211, 212, 213, 214, 215, 216, 217, 218, 219, 20, 220, 221, 222, 223, 224, 225, 226, 227, 228, 229, 19, 230, 46, 231, 232, 233, 234, 235, 236, 24, 237, 238, 239, 240, 241, 242, 243, 23, 244, 245, 246, 247, 248, 249, 50, 51, 52, 53, 250, 251, 252, 253, 254, 255, 256, 257, 258, 36, 259, 260, 261, 262, 263, 264, 265, 266, 267, 268, 269, 270, 271, 272, 273, 274, 275, 276, 277, 278, 279, 62, 63, 64, 60, 59, 280, 281, 282, 283, 284, 285, 286, 287, 288, 289, 290, 291, 292, 293, 294, 295, 296, 297, 298, 299, 300, 301, 302, 303, 304, 305, 306, 307, 308, 309, 310, 311, 312, 313, 314, 315, 316, 317, 318, 319, 320, 321, 322, 323, 324, 325, 326, 327, 328, 329, 330, 331, 332, 333, 334, 335, 336, 337, 338, 354, 355, 356, 357, 358, 359, 360, 361, 362, 363, 364, 365, 366, 367, 382, 383, 374, 375, 376, 377, 378, 379, 380, 381, 368, 369, 370, 371, 372, 373] rfl (by decide +kernel)) (goodIn_sub (fun _ h => List.mem_cons_of_mem _ (List.mem_append_left _ (List.mem_append_left _ (List.mem_append_right _ h)))) (by decide +kernel))) (goodIn_sub (fun _ h => List.mem_cons_of_mem _ (List.mem_append_left _ (List.mem_append_right _ h))) (by decide +kernel))) (goodIn_sub (fun _ h => List.mem_cons_of_mem _ (List.mem_append_right _ h)) (by decide +kernel))
set_option maxRecDepth 20000 in
theorem gL_house_L_refuses : GoodIn wsL_house (va_wsS RL 87 yL_refuses wsL_refuses) := goodIn_app (goodIn_of _ (by decide +kernel)) ggL_house_L_refuses
set_option maxRecDepth 20000 in
theorem ggL_house_X5_area : GoodIn wsL_house wsX5_area := goodIn_ca (goodIn_ca (goodIn_r _ [198, 15, 167, 168, 3, 169, 86, 87, 170, 171, 172, 14, 173, 116, 199, 200, 201, 202, 203, 204, 205, 206, 207, 41, 208, 209, 210, 211, 354, 355, 356, 357, 358, 359, 360, 361, 362, 363, 364, 365, 366, 367] (by decide +kernel) (by decide +kernel)) (goodIn_sub (fun _ h => List.mem_cons_of_mem _ (List.mem_append_left _ (List.mem_append_left _ (List.mem_append_right _ h)))) (by decide +kernel))) (goodIn_sub (fun _ h => List.mem_cons_of_mem _ (List.mem_append_right _ h)) (by decide +kernel))
set_option maxRecDepth 20000 in
theorem gL_house_X5_area : GoodIn wsL_house (wsV RL 7 RX5 yX5_area wsX5_area) := goodIn_app (goodIn_of _ (by decide +kernel)) ggL_house_X5_area
set_option maxRecDepth 20000 in
theorem ggL_house_X5_item : GoodIn wsL_house wsX5_item := goodIn_ca (goodIn_ca (goodIn_r _ [215, 16, 167, 168, 3, 169, 86, 87, 170, 171, 172, 14, 173, 116, 199, 200, 201, 202, 203, 204, 205, 206, 207, 41, 208, 209, 210, 211, 354, 355, 356, 357, 358, 359, 360, 361, 362, 363, 364, 365, 366, 367] (by decide +kernel) (by decide +kernel)) (goodIn_sub (fun _ h => List.mem_cons_of_mem _ (List.mem_append_left _ (List.mem_append_left _ (List.mem_append_right _ h)))) (by decide +kernel))) (goodIn_sub (fun _ h => List.mem_cons_of_mem _ (List.mem_append_right _ h)) (by decide +kernel))
set_option maxRecDepth 20000 in
theorem gL_house_X5_item : GoodIn wsL_house (wsV RL 13 RX5 yX5_item wsX5_item) := goodIn_app (goodIn_of _ (by decide +kernel)) ggL_house_X5_item
set_option maxRecDepth 20000 in
theorem ggL_house_X5_agree : GoodIn wsL_house wsX5_agree := goodIn_ca (goodIn_r _ [219, 20, 220, 221, 3, 222, 86, 87, 223, 224, 225, 226, 15, 170, 171, 172, 14, 173, 116, 227, 228, 229, 19, 230, 46, 354, 355, 356, 357, 358, 359, 360, 361, 362, 363, 364, 365, 366, 367, 368] (by decide +kernel) (by decide +kernel)) (goodIn_sub (fun _ h => List.mem_cons_of_mem _ (List.mem_append_left _ (List.mem_append_left _ (List.mem_append_right _ h)))) (by decide +kernel))
set_option maxRecDepth 20000 in
theorem gL_house_X5_agree : GoodIn wsL_house (wsV RL 16 RX5 yX5_agree wsX5_agree) := goodIn_app (goodIn_of _ (by decide +kernel)) ggL_house_X5_agree
set_option maxRecDepth 20000 in
theorem ggL_house_X5_mayTell : GoodIn wsL_house wsX5_mayTell := goodIn_ca (goodIn_r _ [338, 20, 15, 220, 221, 3, 222, 86, 87, 223, 224, 225, 226, 170, 171, 172, 14, 173, 116, 265, 266, 267, 19, 268, 46, 269, 187, 188, 189, 41, 190, 354, 355, 356, 357, 358, 359, 360, 361, 362, 363, 364, 365, 366, 367, 368] (by decide +kernel) (by decide +kernel)) (goodIn_sub (fun _ h => List.mem_cons_of_mem _ (List.mem_append_left _ (List.mem_append_left _ (List.mem_append_right _ h)))) (by decide +kernel))
set_option maxRecDepth 20000 in
theorem gL_house_X5_mayTell : GoodIn wsL_house (wsV RL 61 RX5 yX5_mayTell wsX5_mayTell) := goodIn_app (goodIn_of _ (by decide +kernel)) ggL_house_X5_mayTell
set_option maxRecDepth 20000 in
theorem ggL_house_L_act : GoodIn wsL_house wsL_act := goodIn_ca (goodIn_ca (goodIn_ca (goodIn_r _ [193, 159, 160, 194, 195, 196, 197, 3, 198, 15, 167, 168, 169, 86, 87, 170, 171, 172, 14, 173, 116, 199, 200, 201, 202, 203, 204, 205, 206, 207, 41, 208, 209, 210, 211, 212, 213, 214, 215, 16, 216, 217, 218, 219, 20, 220, 221, 222, 223, 224, 225, 226, 227, 228, 229, 19, 230, 46, 231, 232, 233, 234, 165, 166, 235, 236, 24, 237, 238, 239, 240, 88, 89, 90, 178, 179, 180, 181, 106, 107, 241, 242, 243, 23, 244, 245, 246, 247, 248, 249, 50, 51, 52, 53, 250, 251, 252, 253, 254, 255, 256, 257, 258, 36, 28, 95, 259, 260, 261, 262, 263, 264, 265, 266, 267, 268, 269, 187, 188, 189, 190, 270, 271, 272, 273, 274, 275, 276, 277, 27, 278, 279, 62, 63, 64, 60, 59, 58, 61, 280, 281, 282, 283, 284, 285, 286, 287, 288, 289, 290, 291, 34, 32, 91, 92, 93, 94, 96, 97, 98, 31, 99, 73, 100, 101, 102, 103, 104, 105, 67, 68, 69, 108, 109, 110, 111, 112, 113, 114, 115, 117, 118, 119, 120, 121, 122, 123, 124, 125, 126, 127, 74, 128, 129, 130, 131, 132, 133, 134, 135, 136, 137, 138, 139, 140, 141, 142, 143, 144, 145, 146, 147, 148, 149, 150, 151, 152, 153, 154, 155, 292, 293, 294, 295, 296, 297, 298, 299, 300, 301, 302, 303, 304, 305, 306, 307, 65, 308, 309, 310, 311, 312, 313, 314, 315, 316, 317, 318, 319, 320, 321, 322, 323, 324, 325, 326, 327, 328, 329, 330, 331, 332, 333, 334, 82, 83, 84, 85, 335, 336, 337, 338, 354, 355, 356, 357, 358, 359, 360, 361, 362, 363, 364, 365, 366, 367, 368, 369, 370, 371, 372, 373, 374, 375, 376, 377, 378, 379, 380, 381, 382, 383] rfl (by decide +kernel)) (goodIn_sub (fun _ h => List.mem_cons_of_mem _ (List.mem_append_left _ (List.mem_append_left _ (List.mem_append_right _ h)))) (by decide +kernel))) (goodIn_sub (fun _ h => List.mem_cons_of_mem _ (List.mem_append_right _ h)) (by decide +kernel))) (goodIn_sub (fun _ h => List.mem_cons_of_mem _ (List.mem_append_left _ (List.mem_append_right _ h))) (by decide +kernel))
set_option maxRecDepth 20000 in
theorem gL_house_L_act : GoodIn wsL_house (va_wsS RL 81 yL_act wsL_act) := goodIn_app (goodIn_of _ (by decide +kernel)) ggL_house_L_act
set_option maxRecDepth 20000 in
theorem ggL_house_X5_wipe : GoodIn wsL_house wsX5_wipe := goodIn_r _ [342, 24, 280, 281, 282, 23, 283, 245, 354, 355, 356, 357, 358, 359, 360, 361, 362, 363, 364, 369, 370, 371, 372, 373] (by decide +kernel) (by decide +kernel)
set_option maxRecDepth 20000 in
theorem gL_house_X5_wipe : GoodIn wsL_house (wsV RL 91 RX5 yX5_wipe wsX5_wipe) := goodIn_app (goodIn_of _ (by decide +kernel)) ggL_house_X5_wipe
set_option maxRecDepth 20000 in
theorem ggL_house_X5_put : GoodIn wsL_house wsX5_put := goodIn_ca (goodIn_ca (goodIn_ca (goodIn_r _ [234, 165, 166, 202, 203, 235, 236, 24, 237, 238, 239, 3, 240, 86, 87, 15, 16, 170, 171, 172, 14, 173, 116, 88, 89, 90, 178, 179, 180, 181, 106, 107, 241, 242, 243, 23, 244, 245, 246, 247, 248, 249, 50, 51, 52, 53, 354, 355, 356, 357, 358, 359, 360, 361, 362, 363, 364, 365, 366, 367, 369, 370, 371, 372, 373] (by decide +kernel) (by decide +kernel)) (goodIn_sub (fun _ h => List.mem_cons_of_mem _ (List.mem_append_left _ (List.mem_append_right _ h))) (by decide +kernel))) (goodIn_sub (fun _ h => List.mem_cons_of_mem _ (List.mem_append_right _ h)) (by decide +kernel))) (goodIn_sub (fun _ h => List.mem_cons_of_mem _ (List.mem_append_left _ (List.mem_append_left _ (List.mem_append_right _ h)))) (by decide +kernel))
set_option maxRecDepth 20000 in
theorem gL_house_X5_put : GoodIn wsL_house (wsV RL 20 RX5 yX5_put wsX5_put) := goodIn_app (goodIn_of _ (by decide +kernel)) ggL_house_X5_put
set_option maxRecDepth 20000 in
theorem ggL_house_X5_send : GoodIn wsL_house wsX5_send := goodIn_ca (goodIn_ca (goodIn_r _ [253, 202, 203, 24, 254, 220, 221, 3, 222, 86, 87, 255, 256, 257, 258, 36, 28, 95, 259, 260, 261, 262, 263, 20, 15, 264, 265, 266, 267, 19, 268, 46, 269, 187, 188, 14, 189, 116, 41, 190, 171, 172, 173, 270, 271, 272, 23, 273, 50, 274, 53, 275, 276, 277, 27, 278, 279, 62, 63, 64, 60, 59, 58, 61, 280, 281, 282, 283, 245, 354, 355, 356, 357, 358, 359, 360, 361, 362, 363, 364, 369, 370, 371, 372, 373, 374, 375, 376, 377, 378, 379, 380, 381, 365, 366, 367, 368] (by decide +kernel) (by decide +kernel)) (goodIn_sub (fun _ h => List.mem_cons_of_mem _ (List.mem_append_right _ h)) (by decide +kernel))) (goodIn_sub (fun _ h => List.mem_cons_of_mem _ (List.mem_append_left _ (List.mem_append_left _ (List.mem_append_right _ h)))) (by decide +kernel))
set_option maxRecDepth 20000 in
theorem gL_house_X5_send : GoodIn wsL_house (wsV RL 24 RX5 yX5_send wsX5_send) := goodIn_app (goodIn_of _ (by decide +kernel)) ggL_house_X5_send
set_option maxRecDepth 20000 in
theorem ggL_house_X5_refusal : GoodIn wsL_house wsX5_refusal := goodIn_ca (goodIn_r _ [287, 86, 87, 259, 36, 354, 355, 356, 357, 358, 359, 360, 361, 362, 363, 364] (by decide +kernel) (by decide +kernel)) (goodIn_sub (fun _ h => List.mem_cons_of_mem _ (List.mem_append_left _ (List.mem_append_left _ (List.mem_append_right _ h)))) (by decide +kernel))
set_option maxRecDepth 20000 in
theorem gL_house_X5_refusal : GoodIn wsL_house (wsV RL 27 RX5 yX5_refusal wsX5_refusal) := goodIn_app (goodIn_of _ (by decide +kernel)) ggL_house_X5_refusal
set_option maxRecDepth 20000 in
theorem ggL_house_X5_figure : GoodIn wsL_house wsX5_figure := goodIn_ca (goodIn_ca (goodIn_r _ [299, 28, 237, 238, 239, 3, 240, 86, 87, 15, 16, 170, 171, 172, 14, 173, 116, 88, 89, 90, 178, 179, 180, 181, 106, 107, 300, 301, 302, 303, 165, 166, 95, 304, 305, 306, 27, 307, 279, 62, 63, 64, 65, 354, 355, 356, 357, 358, 359, 360, 361, 362, 363, 364, 365, 366, 367, 374, 375, 376, 377, 378, 379, 380, 381] (by decide +kernel) (by decide +kernel)) (goodIn_sub (fun _ h => List.mem_cons_of_mem _ (List.mem_append_left _ (List.mem_append_left _ (List.mem_append_right _ h)))) (by decide +kernel))) (goodIn_sub (fun _ h => List.mem_cons_of_mem _ (List.mem_append_left _ (List.mem_append_right _ h))) (by decide +kernel))
set_option maxRecDepth 20000 in
theorem gL_house_X5_figure : GoodIn wsL_house (wsV RL 37 RX5 yX5_figure wsX5_figure) := goodIn_app (goodIn_of _ (by decide +kernel)) ggL_house_X5_figure
set_option maxRecDepth 20000 in
theorem ggL_house_X5_value : GoodIn wsL_house wsX5_value := goodIn_ca (goodIn_ca (goodIn_r _ [311, 32, 28, 15, 16, 237, 238, 239, 3, 240, 86, 87, 170, 171, 172, 14, 173, 116, 88, 89, 90, 178, 179, 180, 181, 106, 107, 300, 301, 302, 303, 165, 166, 95, 96, 97, 98, 31, 99, 73, 100, 101, 102, 103, 104, 105, 67, 68, 69, 108, 109, 110, 111, 112, 113, 114, 115, 41, 117, 118, 119, 120, 121, 122, 123, 312, 354, 355, 356, 357, 358, 359, 360, 361, 362, 363, 364, 365, 366, 367, 382, 383, 374, 375, 376, 377, 378, 379, 380, 381] (by decide +kernel) (by decide +kernel)) (goodIn_sub (fun _ h => List.mem_cons_of_mem _ (List.mem_append_left _ (List.mem_append_left _ (List.mem_append_right _ h)))) (by decide +kernel))) (goodIn_sub (fun _ h => List.mem_cons_of_mem _ (List.mem_append_left _ (List.mem_append_right _ h))) (by decide +kernel))
set_option maxRecDepth 20000 in
theorem gL_house_X5_value : GoodIn wsL_house (wsV RL 41 RX5 yX5_value wsX5_value) := goodIn_app (goodIn_of _ (by decide +kernel)) ggL_house_X5_value
set_option maxRecDepth 20000 in
theorem ggL_house_X5_first : GoodIn wsL_house wsX5_first := goodIn_ca (goodIn_r _ [316, 28, 237, 238, 239, 3, 240, 86, 87, 15, 16, 170, 171, 172, 14, 173, 116, 88, 89, 90, 178, 179, 180, 181, 106, 107, 354, 355, 356, 357, 358, 359, 360, 361, 362, 363, 364, 374, 375, 376, 377, 378, 379, 380, 381, 365, 366, 367] (by decide +kernel) (by decide +kernel)) (goodIn_sub (fun _ h => List.mem_cons_of_mem _ (List.mem_append_left _ (List.mem_append_left _ (List.mem_append_right _ h)))) (by decide +kernel))
set_option maxRecDepth 20000 in
theorem gL_house_X5_first : GoodIn wsL_house (wsV RL 44 RX5 yX5_first wsX5_first) := goodIn_app (goodIn_of _ (by decide +kernel)) ggL_house_X5_first
set_option maxRecDepth 20000 in
theorem ggL_house_X5_revisions : GoodIn wsL_house wsX5_revisions := goodIn_ca (goodIn_r _ [320, 28, 237, 238, 239, 3, 240, 86, 87, 15, 16, 170, 171, 172, 14, 173, 116, 88, 89, 90, 178, 179, 180, 181, 106, 107, 354, 355, 356, 357, 358, 359, 360, 361, 362, 363, 364, 374, 375, 376, 377, 378, 379, 380, 381, 365, 366, 367] (by decide +kernel) (by decide +kernel)) (goodIn_sub (fun _ h => List.mem_cons_of_mem _ (List.mem_append_left _ (List.mem_append_left _ (List.mem_append_right _ h)))) (by decide +kernel))
set_option maxRecDepth 20000 in
theorem gL_house_X5_revisions : GoodIn wsL_house (wsV RL 48 RX5 yX5_revisions wsX5_revisions) := goodIn_app (goodIn_of _ (by decide +kernel)) ggL_house_X5_revisions
set_option maxRecDepth 20000 in
theorem ggL_house_X5_hasFault : GoodIn wsL_house wsX5_hasFault := goodIn_ca (goodIn_r _ [324, 28, 264, 32, 95, 15, 16, 237, 238, 239, 3, 240, 86, 87, 170, 171, 172, 14, 173, 116, 88, 89, 90, 178, 179, 180, 181, 106, 107, 96, 97, 98, 31, 99, 73, 100, 101, 102, 103, 104, 105, 67, 68, 69, 108, 109, 110, 111, 112, 113, 114, 115, 41, 117, 118, 119, 120, 121, 122, 123, 325, 326, 327, 328, 354, 355, 356, 357, 358, 359, 360, 361, 362, 363, 364, 374, 375, 376, 377, 378, 379, 380, 381, 365, 366, 367, 382, 383] (by decide +kernel) (by decide +kernel)) (goodIn_sub (fun _ h => List.mem_cons_of_mem _ (List.mem_append_left _ (List.mem_append_left _ (List.mem_append_right _ h)))) (by decide +kernel))
set_option maxRecDepth 20000 in
theorem gL_house_X5_hasFault : GoodIn wsL_house (wsV RL 51 RX5 yX5_hasFault wsX5_hasFault) := goodIn_app (goodIn_of _ (by decide +kernel)) ggL_house_X5_hasFault
set_option maxRecDepth 20000 in
theorem ggL_house_X5_shown : GoodIn wsL_house wsX5_shown := goodIn_ca (goodIn_r _ [332, 32, 333, 237, 238, 239, 3, 240, 86, 87, 15, 16, 170, 171, 172, 14, 173, 116, 88, 89, 90, 178, 179, 180, 181, 106, 107, 91, 92, 93, 94, 28, 95, 34, 96, 97, 98, 31, 99, 73, 100, 101, 102, 103, 104, 105, 67, 68, 69, 108, 109, 110, 111, 112, 113, 114, 115, 41, 117, 118, 119, 120, 121, 122, 123, 124, 125, 126, 127, 74, 128, 129, 130, 131, 132, 133, 134, 135, 136, 137, 138, 139, 140, 141, 142, 143, 144, 145, 146, 147, 148, 149, 150, 151, 334, 312, 354, 355, 356, 357, 358, 359, 360, 361, 362, 363, 364, 365, 366, 367, 382, 383, 374, 375, 376, 377, 378, 379, 380, 381] (by decide +kernel) (by decide +kernel)) (goodIn_sub (fun _ h => List.mem_cons_of_mem _ (List.mem_append_left _ (List.mem_append_left _ (List.mem_append_right _ h)))) (by decide +kernel))
set_option maxRecDepth 20000 in
theorem gL_house_X5_shown : GoodIn wsL_house (wsV RL 55 RX5 yX5_shown wsX5_shown) := goodIn_app (goodIn_of _ (by decide +kernel)) ggL_house_X5_shown
set_option maxRecDepth 20000 in
theorem ggL_house_X5_pass : GoodIn wsL_house wsX5_pass := goodIn_ca (goodIn_ca (goodIn_r _ [295, 165, 166, 202, 203, 95, 354, 355, 356, 357, 358, 359, 360, 361, 362, 363, 364] (by decide +kernel) (by decide +kernel)) (goodIn_sub (fun _ h => List.mem_cons_of_mem _ (List.mem_append_left _ (List.mem_append_right _ h))) (by decide +kernel))) (goodIn_sub (fun _ h => List.mem_cons_of_mem _ (List.mem_append_right _ h)) (by decide +kernel))
set_option maxRecDepth 20000 in
theorem gL_house_X5_pass : GoodIn wsL_house (wsV RL 34 RX5 yX5_pass wsX5_pass) := goodIn_app (goodIn_of _ (by decide +kernel)) ggL_house_X5_pass
set_option maxRecDepth 20000 in
theorem ggL_house_L_secrets : GoodIn wsL_house wsL_secrets := goodIn_ca (goodIn_ca (goodIn_ca (goodIn_r _ [345, 346, 4, 288, 289, 290, 3, 291, 34, 32, 237, 238, 239, 240, 86, 87, 15, 16, 170, 171, 172, 14, 173, 116, 88, 89, 90, 178, 179, 180, 181, 106, 107, 91, 92, 93, 94, 28, 95, 96, 97, 98, 31, 99, 73, 100, 101, 102, 103, 104, 105, 67, 68, 69, 108, 109, 110, 111, 112, 113, 114, 115, 41, 117, 118, 119, 120, 121, 122, 123, 124, 125, 126, 127, 74, 128, 129, 130, 131, 132, 133, 134, 135, 136, 137, 138, 139, 140, 141, 142, 143, 144, 145, 146, 147, 148, 149, 150, 151, 152, 153, 154, 155, 329, 330, 331, 332, 333, 334, 312, 82, 83, 84, 85, 308, 309, 310, 311, 300, 301, 302, 303, 165, 166, 156, 157, 77, 158, 159, 160, 161, 162, 163, 164, 167, 168, 169, 174, 175, 176, 177, 182, 183, 184, 27, 185, 58, 65, 61, 186, 187, 188, 189, 190, 231, 232, 233, 234, 202, 203, 235, 236, 24, 241, 242, 243, 23, 244, 245, 246, 247, 248, 249, 50, 51, 52, 53, 250, 251, 252, 253, 254, 220, 221, 222, 255, 256, 257, 258, 36, 259, 260, 261, 262, 263, 20, 264, 265, 266, 267, 19, 268, 46, 269, 270, 271, 272, 273, 274, 275, 276, 277, 278, 279, 62, 63, 64, 60, 59, 280, 281, 282, 283, 216, 217, 218, 219, 223, 224, 225, 226, 227, 228, 229, 230, 335, 336, 337, 338, 284, 285, 286, 287, 75, 76, 78, 79, 80, 81, 191, 192, 193, 194, 195, 196, 197, 198, 199, 200, 201, 204, 205, 206, 207, 208, 209, 210, 211, 212, 213, 214, 215, 292, 293, 294, 295, 296, 297, 298, 299, 304, 305, 306, 307, 313, 314, 315, 316, 317, 318, 319, 320, 321, 322, 323, 324, 325, 326, 327, 328, 354, 355, 356, 357, 358, 359, 360, 361, 362, 363, 364, 365, 366, 367, 382, 383, 374, 375, 376, 377, 378, 379, 380, 381, 369, 370, 371, 372, 373, 368] rfl (by decide +kernel)) (goodIn_sub (fun _ h => List.mem_cons_of_mem _ (List.mem_append_left _ (List.mem_append_left _ (List.mem_append_right _ h)))) (by decide +kernel))) (goodIn_sub (fun _ h => List.mem_cons_of_mem _ (List.mem_append_left _ (List.mem_append_right _ h))) (by decide +kernel))) (goodIn_sub (fun _ h => List.mem_cons_of_mem _ (List.mem_append_right _ h)) (by decide +kernel))
set_option maxRecDepth 20000 in
theorem gL_house_L_secrets : GoodIn wsL_house (va_wsS RL 97 yL_secrets wsL_secrets) := goodIn_app (goodIn_of _ (by decide +kernel)) ggL_house_L_secrets
set_option maxRecDepth 20000 in
theorem ggL_house_L_signs : GoodIn wsL_house wsL_signs := goodIn_ca (goodIn_ca (goodIn_ca (goodIn_r _ [349, 1, 2, 3, 346, 6, 7, 8, 9, 10, 11, 12, 13, 14, 15, 16, 17, 18, 19, 20, 21, 22, 23, 24, 25, 26, 27, 28, 29, 30, 31, 32, 33, 34, 35, 36, 37, 38, 39, 40, 41, 42, 43, 44, 45, 46, 47, 48, 49, 50, 51, 52, 53, 54, 55, 56, 57, 58, 59, 60, 61, 62, 63, 64, 65, 66, 67, 68, 69, 70, 71, 72, 73, 74, 195, 196, 197, 198, 167, 168, 169, 86, 87, 170, 171, 172, 173, 116, 199, 200, 201, 202, 203, 204, 205, 206, 207, 208, 209, 210, 211, 212, 213, 214, 215, 216, 217, 218, 219, 220, 221, 222, 223, 224, 225, 226, 227, 228, 229, 230, 231, 232, 233, 234, 165, 166, 235, 236, 237, 238, 239, 240, 88, 89, 90, 178, 179, 180, 181, 106, 107, 241, 242, 243, 244, 245, 246, 247, 248, 249, 250, 251, 252, 253, 254, 255, 256, 257, 258, 95, 259, 260, 261, 262, 263, 264, 265, 266, 267, 268, 269, 187, 188, 189, 190, 270, 271, 272, 273, 274, 275, 276, 277, 278, 279, 280, 281, 282, 283, 308, 309, 310, 311, 300, 301, 302, 303, 96, 97, 98, 99, 100, 101, 102, 103, 104, 105, 108, 109, 110, 111, 112, 113, 114, 115, 117, 118, 119, 120, 121, 122, 123, 312, 288, 289, 290, 291, 91, 92, 93, 94, 124, 125, 126, 127, 128, 129, 130, 131, 132, 133, 134, 135, 136, 137, 138, 139, 140, 141, 142, 143, 144, 145, 146, 147, 148, 149, 150, 151, 152, 153, 154, 155, 329, 330, 331, 332, 333, 334, 82, 83, 84, 85, 321, 322, 323, 324, 325, 326, 327, 328, 75, 76, 77, 78, 79, 80, 81, 156, 157, 158, 159, 160, 161, 162, 163, 164, 174, 175, 176, 177, 182, 183, 184, 185, 186, 191, 192, 193, 194, 284, 285, 286, 287, 292, 293, 294, 295, 296, 297, 298, 299, 304, 305, 306, 307, 313, 314, 315, 316, 317, 318, 319, 320, 335, 336, 337, 338, 354, 355, 356, 357, 358, 359, 360, 361, 362, 363, 364, 365, 366, 367, 368, 369, 370, 371, 372, 373, 374, 375, 376, 377, 378, 379, 380, 381, 382, 383] rfl (by decide +kernel)) (goodIn_sub (fun _ h => List.mem_cons_of_mem _ (List.mem_append_left _ (List.mem_append_left _ (List.mem_append_right _ h)))) (by decide +kernel))) (goodIn_sub (fun _ h => List.mem_cons_of_mem _ (List.mem_append_right _ h)) (by decide +kernel))) (goodIn_sub (fun _ h => List.mem_cons_of_mem _ (List.mem_append_left _ (List.mem_append_right _ h))) (by decide +kernel))
set_option maxRecDepth 20000 in
theorem gL_house_L_signs : GoodIn wsL_house (va_wsS RL 101 yL_signs wsL_signs) := goodIn_app (goodIn_of _ (by decide +kernel)) ggL_house_L_signs
set_option maxRecDepth 20000 in
theorem ggL_house_L_most : GoodIn wsL_house wsL_most := goodIn_ca (goodIn_ca (goodIn_ca (goodIn_r _ [352, 1, 2, 3, 353, 6, 7, 8, 9, 10, 11, 12, 13, 14, 15, 16, 17, 18, 19, 20, 21, 22, 23, 24, 25, 26, 27, 28, 29, 30, 31, 32, 33, 34, 35, 36, 37, 38, 39, 40, 41, 42, 43, 44, 45, 46, 47, 48, 49, 50, 51, 52, 53, 54, 55, 56, 57, 58, 59, 60, 61, 62, 63, 64, 65, 66, 67, 68, 69, 70, 71, 72, 73, 74, 191, 192, 77, 193, 159, 160, 194, 195, 196, 197, 198, 167, 168, 169, 86, 87, 170, 171, 172, 173, 116, 199, 200, 201, 202, 203, 204, 205, 206, 207, 208, 209, 210, 211, 212, 213, 214, 215, 216, 217, 218, 219, 220, 221, 222, 223, 224, 225, 226, 227, 228, 229, 230, 231, 232, 233, 234, 165, 166, 235, 236, 237, 238, 239, 240, 88, 89, 90, 178, 179, 180, 181, 106, 107, 241, 242, 243, 244, 245, 246, 247, 248, 249, 250, 251, 252, 253, 254, 255, 256, 257, 258, 95, 259, 260, 261, 262, 263, 264, 265, 266, 267, 268, 269, 187, 188, 189, 190, 270, 271, 272, 273, 274, 275, 276, 277, 278, 279, 280, 281, 282, 283, 284, 285, 286, 287, 288, 289, 290, 291, 91, 92, 93, 94, 96, 97, 98, 99, 100, 101, 102, 103, 104, 105, 108, 109, 110, 111, 112, 113, 114, 115, 117, 118, 119, 120, 121, 122, 123, 124, 125, 126, 127, 128, 129, 130, 131, 132, 133, 134, 135, 136, 137, 138, 139, 140, 141, 142, 143, 144, 145, 146, 147, 148, 149, 150, 151, 152, 153, 154, 155, 292, 293, 294, 295, 296, 297, 298, 299, 300, 301, 302, 303, 304, 305, 306, 307, 308, 309, 310, 311, 312, 313, 314, 315, 316, 317, 318, 319, 320, 321, 322, 323, 324, 325, 326, 327, 328, 329, 330, 331, 332, 333, 334, 82, 83, 84, 85, 335, 336, 337, 338, 339, 340, 341, 342, 156, 157, 158, 161, 162, 163, 164, 174, 175, 176, 177, 182, 183, 184, 185, 186, 75, 76, 78, 79, 80, 81, 354, 355, 356, 357, 358, 359, 360, 361, 362, 363, 364, 365, 366, 367, 368, 369, 370, 371, 372, 373, 374, 375, 376, 377, 378, 379, 380, 381, 382, 383] rfl (by decide +kernel)) (goodIn_sub (fun _ h => List.mem_cons_of_mem _ (List.mem_append_left _ (List.mem_append_left _ (List.mem_append_right _ h)))) (by decide +kernel))) (goodIn_sub (fun _ h => List.mem_cons_of_mem _ (List.mem_append_right _ h)) (by decide +kernel))) (goodIn_sub (fun _ h => List.mem_cons_of_mem _ (List.mem_append_left _ (List.mem_append_right _ h))) (by decide +kernel))
set_option maxRecDepth 20000 in
theorem gL_house_L_most : GoodIn wsL_house (va_wsS RL 105 yL_most wsL_most) := goodIn_app (goodIn_of _ (by decide +kernel)) ggL_house_L_most
theorem dL_house_0 : decode cL_house 0 = .ok (.new 8, 3) := by decide +kernel
theorem dL_house_3 : decode cL_house 3 = .ok (.dup, 1) := by decide +kernel
theorem dL_house_4 : decode cL_house 4 = .ok (.invokespecial 86, 3) := by decide +kernel
theorem dL_house_7 : decode cL_house 7 = .ok (.astore_n 0, 1) := by decide +kernel
theorem dL_house_8 : decode cL_house 8 = .ok (.aload_n 0, 1) := by decide +kernel
theorem dL_house_9 : decode cL_house 9 = .ok (.iconst 0, 1) := by decide +kernel
theorem dL_house_10 : decode cL_house 10 = .ok (.iconst 0, 1) := by decide +kernel
theorem dL_house_11 : decode cL_house 11 = .ok (.iconst 0, 1) := by decide +kernel
theorem dL_house_12 : decode cL_house 12 = .ok (.invokestatic 87, 3) := by decide +kernel
theorem dL_house_15 : decode cL_house 15 = .ok (.ifCond .eq 186, 3) := by decide +kernel
theorem dL_house_18 : decode cL_house 18 = .ok (.aload_n 0, 1) := by decide +kernel
theorem dL_house_19 : decode cL_house 19 = .ok (.iconst (-1), 1) := by decide +kernel
theorem dL_house_20 : decode cL_house 20 = .ok (.invokevirtual 7, 3) := by decide +kernel
theorem dL_house_23 : decode cL_house 23 = .ok (.ifCond .ne 178, 3) := by decide +kernel
theorem dL_house_26 : decode cL_house 26 = .ok (.aload_n 0, 1) := by decide +kernel
theorem dL_house_27 : decode cL_house 27 = .ok (.iconst 0, 1) := by decide +kernel
theorem dL_house_28 : decode cL_house 28 = .ok (.invokevirtual 7, 3) := by decide +kernel
theorem dL_house_31 : decode cL_house 31 = .ok (.iconst 1, 1) := by decide +kernel
theorem dL_house_32 : decode cL_house 32 = .ok (.if_icmp .ne 169, 3) := by decide +kernel
theorem dL_house_35 : decode cL_house 35 = .ok (.aload_n 0, 1) := by decide +kernel
theorem dL_house_36 : decode cL_house 36 = .ok (.iconst 0, 1) := by decide +kernel
theorem dL_house_37 : decode cL_house 37 = .ok (.invokevirtual 7, 3) := by decide +kernel
theorem dL_house_40 : decode cL_house 40 = .ok (.iconst 2, 1) := by decide +kernel
theorem dL_house_41 : decode cL_house 41 = .ok (.if_icmp .ne 160, 3) := by decide +kernel
theorem dL_house_44 : decode cL_house 44 = .ok (.aload_n 0, 1) := by decide +kernel
theorem dL_house_45 : decode cL_house 45 = .ok (.iconst 2, 1) := by decide +kernel
theorem dL_house_46 : decode cL_house 46 = .ok (.invokevirtual 7, 3) := by decide +kernel
theorem dL_house_49 : decode cL_house 49 = .ok (.iconst 3, 1) := by decide +kernel
theorem dL_house_50 : decode cL_house 50 = .ok (.if_icmp .ne 151, 3) := by decide +kernel
theorem dL_house_53 : decode cL_house 53 = .ok (.aload_n 0, 1) := by decide +kernel
theorem dL_house_54 : decode cL_house 54 = .ok (.iconst (-1), 1) := by decide +kernel
theorem dL_house_55 : decode cL_house 55 = .ok (.invokevirtual 13, 3) := by decide +kernel
theorem dL_house_58 : decode cL_house 58 = .ok (.ifCond .ne 143, 3) := by decide +kernel
theorem dL_house_61 : decode cL_house 61 = .ok (.aload_n 0, 1) := by decide +kernel
theorem dL_house_62 : decode cL_house 62 = .ok (.iconst 0, 1) := by decide +kernel
theorem dL_house_63 : decode cL_house 63 = .ok (.invokevirtual 13, 3) := by decide +kernel
theorem dL_house_66 : decode cL_house 66 = .ok (.iconst 1, 1) := by decide +kernel
theorem dL_house_67 : decode cL_house 67 = .ok (.if_icmp .ne 134, 3) := by decide +kernel
theorem dL_house_70 : decode cL_house 70 = .ok (.aload_n 0, 1) := by decide +kernel
theorem dL_house_71 : decode cL_house 71 = .ok (.iconst 0, 1) := by decide +kernel
theorem dL_house_72 : decode cL_house 72 = .ok (.invokevirtual 13, 3) := by decide +kernel
theorem dL_house_75 : decode cL_house 75 = .ok (.iconst 2, 1) := by decide +kernel
theorem dL_house_76 : decode cL_house 76 = .ok (.if_icmp .ne 125, 3) := by decide +kernel
theorem dL_house_79 : decode cL_house 79 = .ok (.aload_n 0, 1) := by decide +kernel
theorem dL_house_80 : decode cL_house 80 = .ok (.iconst 0, 1) := by decide +kernel
theorem dL_house_81 : decode cL_house 81 = .ok (.iconst 0, 1) := by decide +kernel
theorem dL_house_82 : decode cL_house 82 = .ok (.iconst 1, 1) := by decide +kernel
theorem dL_house_83 : decode cL_house 83 = .ok (.invokevirtual 16, 3) := by decide +kernel
theorem dL_house_86 : decode cL_house 86 = .ok (.ifCond .eq 115, 3) := by decide +kernel
theorem dL_house_89 : decode cL_house 89 = .ok (.aload_n 0, 1) := by decide +kernel
theorem dL_house_90 : decode cL_house 90 = .ok (.iconst 0, 1) := by decide +kernel
theorem dL_house_91 : decode cL_house 91 = .ok (.iconst 0, 1) := by decide +kernel
theorem dL_house_92 : decode cL_house 92 = .ok (.iconst 1, 1) := by decide +kernel
theorem dL_house_93 : decode cL_house 93 = .ok (.invokevirtual 16, 3) := by decide +kernel
theorem dL_house_96 : decode cL_house 96 = .ok (.ifCond .ne 105, 3) := by decide +kernel
theorem dL_house_99 : decode cL_house 99 = .ok (.aload_n 0, 1) := by decide +kernel
theorem dL_house_100 : decode cL_house 100 = .ok (.iconst 2, 1) := by decide +kernel
theorem dL_house_101 : decode cL_house 101 = .ok (.iconst 1, 1) := by decide +kernel
theorem dL_house_102 : decode cL_house 102 = .ok (.iconst 0, 1) := by decide +kernel
theorem dL_house_103 : decode cL_house 103 = .ok (.invokevirtual 16, 3) := by decide +kernel
theorem dL_house_106 : decode cL_house 106 = .ok (.ifCond .ne 95, 3) := by decide +kernel
theorem dL_house_109 : decode cL_house 109 = .ok (.aload_n 0, 1) := by decide +kernel
theorem dL_house_110 : decode cL_house 110 = .ok (.iconst 0, 1) := by decide +kernel
theorem dL_house_111 : decode cL_house 111 = .ok (.iconst 3, 1) := by decide +kernel
theorem dL_house_112 : decode cL_house 112 = .ok (.invokevirtual 61, 3) := by decide +kernel
theorem dL_house_115 : decode cL_house 115 = .ok (.ifCond .eq 86, 3) := by decide +kernel
theorem dL_house_118 : decode cL_house 118 = .ok (.aload_n 0, 1) := by decide +kernel
theorem dL_house_119 : decode cL_house 119 = .ok (.iconst 1, 1) := by decide +kernel
theorem dL_house_120 : decode cL_house 120 = .ok (.iconst 3, 1) := by decide +kernel
theorem dL_house_121 : decode cL_house 121 = .ok (.invokevirtual 61, 3) := by decide +kernel
theorem dL_house_124 : decode cL_house 124 = .ok (.ifCond .ne 77, 3) := by decide +kernel
theorem dL_house_127 : decode cL_house 127 = .ok (.aload_n 0, 1) := by decide +kernel
theorem dL_house_128 : decode cL_house 128 = .ok (.iconst 1, 1) := by decide +kernel
theorem dL_house_129 : decode cL_house 129 = .ok (.iconst 2, 1) := by decide +kernel
theorem dL_house_130 : decode cL_house 130 = .ok (.iconst 1, 1) := by decide +kernel
theorem dL_house_131 : decode cL_house 131 = .ok (.invokevirtual 16, 3) := by decide +kernel
theorem dL_house_134 : decode cL_house 134 = .ok (.ifCond .eq 67, 3) := by decide +kernel
theorem dL_house_137 : decode cL_house 137 = .ok (.aload_n 0, 1) := by decide +kernel
theorem dL_house_138 : decode cL_house 138 = .ok (.iconst 1, 1) := by decide +kernel
theorem dL_house_139 : decode cL_house 139 = .ok (.iconst 3, 1) := by decide +kernel
theorem dL_house_140 : decode cL_house 140 = .ok (.invokevirtual 61, 3) := by decide +kernel
theorem dL_house_143 : decode cL_house 143 = .ok (.ifCond .eq 58, 3) := by decide +kernel
theorem dL_house_146 : decode cL_house 146 = .ok (.aload_n 0, 1) := by decide +kernel
theorem dL_house_147 : decode cL_house 147 = .ok (.iconst 1, 1) := by decide +kernel
theorem dL_house_148 : decode cL_house 148 = .ok (.iconst 1, 1) := by decide +kernel
theorem dL_house_149 : decode cL_house 149 = .ok (.invokevirtual 61, 3) := by decide +kernel
theorem dL_house_152 : decode cL_house 152 = .ok (.ifCond .ne 49, 3) := by decide +kernel
theorem dL_house_155 : decode cL_house 155 = .ok (.aload_n 0, 1) := by decide +kernel
theorem dL_house_156 : decode cL_house 156 = .ok (.iconst 1, 1) := by decide +kernel
theorem dL_house_157 : decode cL_house 157 = .ok (.iconst 0, 1) := by decide +kernel
theorem dL_house_158 : decode cL_house 158 = .ok (.invokevirtual 61, 3) := by decide +kernel
theorem dL_house_161 : decode cL_house 161 = .ok (.ifCond .ne 40, 3) := by decide +kernel
theorem dL_house_164 : decode cL_house 164 = .ok (.aload_n 0, 1) := by decide +kernel
theorem dL_house_165 : decode cL_house 165 = .ok (.iconst 4, 1) := by decide +kernel
theorem dL_house_166 : decode cL_house 166 = .ok (.iconst 0, 1) := by decide +kernel
theorem dL_house_167 : decode cL_house 167 = .ok (.iconst 0, 1) := by decide +kernel
theorem dL_house_168 : decode cL_house 168 = .ok (.iconst 0, 1) := by decide +kernel
theorem dL_house_169 : decode cL_house 169 = .ok (.iconst 0, 1) := by decide +kernel
theorem dL_house_170 : decode cL_house 170 = .ok (.iconst 0, 1) := by decide +kernel
theorem dL_house_171 : decode cL_house 171 = .ok (.invokestatic 81, 3) := by decide +kernel
theorem dL_house_174 : decode cL_house 174 = .ok (.bipush (-73), 2) := by decide +kernel
theorem dL_house_176 : decode cL_house 176 = .ok (.if_icmp .ne 25, 3) := by decide +kernel
theorem dL_house_179 : decode cL_house 179 = .ok (.aload_n 0, 1) := by decide +kernel
theorem dL_house_180 : decode cL_house 180 = .ok (.iconst 5, 1) := by decide +kernel
theorem dL_house_181 : decode cL_house 181 = .ok (.iconst 0, 1) := by decide +kernel
theorem dL_house_182 : decode cL_house 182 = .ok (.iconst 0, 1) := by decide +kernel
theorem dL_house_183 : decode cL_house 183 = .ok (.iconst 0, 1) := by decide +kernel
theorem dL_house_184 : decode cL_house 184 = .ok (.iconst 0, 1) := by decide +kernel
theorem dL_house_185 : decode cL_house 185 = .ok (.iconst 0, 1) := by decide +kernel
theorem dL_house_186 : decode cL_house 186 = .ok (.invokestatic 81, 3) := by decide +kernel
theorem dL_house_189 : decode cL_house 189 = .ok (.bipush (-71), 2) := by decide +kernel
theorem dL_house_191 : decode cL_house 191 = .ok (.if_icmp .ne 10, 3) := by decide +kernel
theorem dL_house_194 : decode cL_house 194 = .ok (.aload_n 0, 1) := by decide +kernel
theorem dL_house_195 : decode cL_house 195 = .ok (.invokevirtual 91, 3) := by decide +kernel
theorem dL_house_198 : decode cL_house 198 = .ok (.ifCond .eq 5, 3) := by decide +kernel
theorem dL_house_201 : decode cL_house 201 = .ok (.iconst 0, 1) := by decide +kernel
theorem dL_house_202 : decode cL_house 202 = .ok (.ireturn, 1) := by decide +kernel
theorem dL_house_203 : decode cL_house 203 = .ok (.aload_n 0, 1) := by decide +kernel
theorem dL_house_204 : decode cL_house 204 = .ok (.iconst 0, 1) := by decide +kernel
theorem dL_house_205 : decode cL_house 205 = .ok (.iconst 1, 1) := by decide +kernel
theorem dL_house_206 : decode cL_house 206 = .ok (.iconst 1, 1) := by decide +kernel
theorem dL_house_207 : decode cL_house 207 = .ok (.iconst 5, 1) := by decide +kernel
theorem dL_house_208 : decode cL_house 208 = .ok (.bipush 10, 2) := by decide +kernel
theorem dL_house_210 : decode cL_house 210 = .ok (.invokevirtual 20, 3) := by decide +kernel
theorem dL_house_213 : decode cL_house 213 = .ok (.iconst 1, 1) := by decide +kernel
theorem dL_house_214 : decode cL_house 214 = .ok (.if_icmp .ne 384, 3) := by decide +kernel
theorem dL_house_217 : decode cL_house 217 = .ok (.aload_n 0, 1) := by decide +kernel
theorem dL_house_218 : decode cL_house 218 = .ok (.iconst 0, 1) := by decide +kernel
theorem dL_house_219 : decode cL_house 219 = .ok (.iconst 1, 1) := by decide +kernel
theorem dL_house_220 : decode cL_house 220 = .ok (.iconst 2, 1) := by decide +kernel
theorem dL_house_221 : decode cL_house 221 = .ok (.iconst 5, 1) := by decide +kernel
theorem dL_house_222 : decode cL_house 222 = .ok (.iconst 4, 1) := by decide +kernel
theorem dL_house_223 : decode cL_house 223 = .ok (.invokevirtual 20, 3) := by decide +kernel
theorem dL_house_226 : decode cL_house 226 = .ok (.iconst 2, 1) := by decide +kernel
theorem dL_house_227 : decode cL_house 227 = .ok (.if_icmp .ne 371, 3) := by decide +kernel
theorem dL_house_230 : decode cL_house 230 = .ok (.aload_n 0, 1) := by decide +kernel
theorem dL_house_231 : decode cL_house 231 = .ok (.iconst 0, 1) := by decide +kernel
theorem dL_house_232 : decode cL_house 232 = .ok (.iconst 2, 1) := by decide +kernel
theorem dL_house_233 : decode cL_house 233 = .ok (.iconst 1, 1) := by decide +kernel
theorem dL_house_234 : decode cL_house 234 = .ok (.iconst 5, 1) := by decide +kernel
theorem dL_house_235 : decode cL_house 235 = .ok (.bipush 7, 2) := by decide +kernel
theorem dL_house_237 : decode cL_house 237 = .ok (.invokevirtual 20, 3) := by decide +kernel
theorem dL_house_240 : decode cL_house 240 = .ok (.iconst 3, 1) := by decide +kernel
theorem dL_house_241 : decode cL_house 241 = .ok (.if_icmp .ne 357, 3) := by decide +kernel
theorem dL_house_244 : decode cL_house 244 = .ok (.aload_n 0, 1) := by decide +kernel
theorem dL_house_245 : decode cL_house 245 = .ok (.iconst 0, 1) := by decide +kernel
theorem dL_house_246 : decode cL_house 246 = .ok (.iconst 3, 1) := by decide +kernel
theorem dL_house_247 : decode cL_house 247 = .ok (.iconst 2, 1) := by decide +kernel
theorem dL_house_248 : decode cL_house 248 = .ok (.iconst 5, 1) := by decide +kernel
theorem dL_house_249 : decode cL_house 249 = .ok (.bipush (-3), 2) := by decide +kernel
theorem dL_house_251 : decode cL_house 251 = .ok (.invokevirtual 20, 3) := by decide +kernel
theorem dL_house_254 : decode cL_house 254 = .ok (.iconst 4, 1) := by decide +kernel
theorem dL_house_255 : decode cL_house 255 = .ok (.if_icmp .ne 343, 3) := by decide +kernel
theorem dL_house_258 : decode cL_house 258 = .ok (.aload_n 0, 1) := by decide +kernel
theorem dL_house_259 : decode cL_house 259 = .ok (.iconst 0, 1) := by decide +kernel
theorem dL_house_260 : decode cL_house 260 = .ok (.iconst 1, 1) := by decide +kernel
theorem dL_house_261 : decode cL_house 261 = .ok (.iconst 1, 1) := by decide +kernel
theorem dL_house_262 : decode cL_house 262 = .ok (.iconst 5, 1) := by decide +kernel
theorem dL_house_263 : decode cL_house 263 = .ok (.bipush 11, 2) := by decide +kernel
theorem dL_house_265 : decode cL_house 265 = .ok (.invokevirtual 20, 3) := by decide +kernel
theorem dL_house_268 : decode cL_house 268 = .ok (.iconst 5, 1) := by decide +kernel
theorem dL_house_269 : decode cL_house 269 = .ok (.if_icmp .ne 329, 3) := by decide +kernel
theorem dL_house_272 : decode cL_house 272 = .ok (.aload_n 0, 1) := by decide +kernel
theorem dL_house_273 : decode cL_house 273 = .ok (.iconst 1, 1) := by decide +kernel
theorem dL_house_274 : decode cL_house 274 = .ok (.iconst 1, 1) := by decide +kernel
theorem dL_house_275 : decode cL_house 275 = .ok (.iconst 1, 1) := by decide +kernel
theorem dL_house_276 : decode cL_house 276 = .ok (.iconst 5, 1) := by decide +kernel
theorem dL_house_277 : decode cL_house 277 = .ok (.bipush 10, 2) := by decide +kernel
theorem dL_house_279 : decode cL_house 279 = .ok (.invokevirtual 20, 3) := by decide +kernel
theorem dL_house_282 : decode cL_house 282 = .ok (.bipush 6, 2) := by decide +kernel
theorem dL_house_284 : decode cL_house 284 = .ok (.if_icmp .ne 314, 3) := by decide +kernel
theorem dL_house_287 : decode cL_house 287 = .ok (.aload_n 0, 1) := by decide +kernel
theorem dL_house_288 : decode cL_house 288 = .ok (.iconst 2, 1) := by decide +kernel
theorem dL_house_289 : decode cL_house 289 = .ok (.iconst 2, 1) := by decide +kernel
theorem dL_house_290 : decode cL_house 290 = .ok (.iconst 2, 1) := by decide +kernel
theorem dL_house_291 : decode cL_house 291 = .ok (.iconst 5, 1) := by decide +kernel
theorem dL_house_292 : decode cL_house 292 = .ok (.iconst 0, 1) := by decide +kernel
theorem dL_house_293 : decode cL_house 293 = .ok (.invokevirtual 20, 3) := by decide +kernel
theorem dL_house_296 : decode cL_house 296 = .ok (.bipush 7, 2) := by decide +kernel
theorem dL_house_298 : decode cL_house 298 = .ok (.if_icmp .ne 300, 3) := by decide +kernel
theorem dL_house_301 : decode cL_house 301 = .ok (.aload_n 0, 1) := by decide +kernel
theorem dL_house_302 : decode cL_house 302 = .ok (.iconst 0, 1) := by decide +kernel
theorem dL_house_303 : decode cL_house 303 = .ok (.invokevirtual 24, 3) := by decide +kernel
theorem dL_house_306 : decode cL_house 306 = .ok (.iconst 4, 1) := by decide +kernel
theorem dL_house_307 : decode cL_house 307 = .ok (.if_icmp .ne 291, 3) := by decide +kernel
theorem dL_house_310 : decode cL_house 310 = .ok (.aload_n 0, 1) := by decide +kernel
theorem dL_house_311 : decode cL_house 311 = .ok (.iconst 0, 1) := by decide +kernel
theorem dL_house_312 : decode cL_house 312 = .ok (.invokevirtual 27, 3) := by decide +kernel
theorem dL_house_315 : decode cL_house 315 = .ok (.ifCond .ne 283, 3) := by decide +kernel
theorem dL_house_318 : decode cL_house 318 = .ok (.aload_n 0, 1) := by decide +kernel
theorem dL_house_319 : decode cL_house 319 = .ok (.iconst 3, 1) := by decide +kernel
theorem dL_house_320 : decode cL_house 320 = .ok (.invokevirtual 27, 3) := by decide +kernel
theorem dL_house_323 : decode cL_house 323 = .ok (.ifCond .ne 275, 3) := by decide +kernel
theorem dL_house_326 : decode cL_house 326 = .ok (.aload_n 0, 1) := by decide +kernel
theorem dL_house_327 : decode cL_house 327 = .ok (.iconst 4, 1) := by decide +kernel
theorem dL_house_328 : decode cL_house 328 = .ok (.invokevirtual 27, 3) := by decide +kernel
theorem dL_house_331 : decode cL_house 331 = .ok (.iconst 2, 1) := by decide +kernel
theorem dL_house_332 : decode cL_house 332 = .ok (.if_icmp .ne 266, 3) := by decide +kernel
theorem dL_house_335 : decode cL_house 335 = .ok (.aload_n 0, 1) := by decide +kernel
theorem dL_house_336 : decode cL_house 336 = .ok (.iconst 5, 1) := by decide +kernel
theorem dL_house_337 : decode cL_house 337 = .ok (.invokevirtual 27, 3) := by decide +kernel
theorem dL_house_340 : decode cL_house 340 = .ok (.iconst 4, 1) := by decide +kernel
theorem dL_house_341 : decode cL_house 341 = .ok (.if_icmp .ne 257, 3) := by decide +kernel
theorem dL_house_344 : decode cL_house 344 = .ok (.aload_n 0, 1) := by decide +kernel
theorem dL_house_345 : decode cL_house 345 = .ok (.bipush 6, 2) := by decide +kernel
theorem dL_house_347 : decode cL_house 347 = .ok (.invokevirtual 27, 3) := by decide +kernel
theorem dL_house_350 : decode cL_house 350 = .ok (.iconst 3, 1) := by decide +kernel
theorem dL_house_351 : decode cL_house 351 = .ok (.if_icmp .ne 247, 3) := by decide +kernel
theorem dL_house_354 : decode cL_house 354 = .ok (.aload_n 0, 1) := by decide +kernel
theorem dL_house_355 : decode cL_house 355 = .ok (.iconst 5, 1) := by decide +kernel
theorem dL_house_356 : decode cL_house 356 = .ok (.bipush 7, 2) := by decide +kernel
theorem dL_house_358 : decode cL_house 358 = .ok (.iconst 0, 1) := by decide +kernel
theorem dL_house_359 : decode cL_house 359 = .ok (.iconst 0, 1) := by decide +kernel
theorem dL_house_360 : decode cL_house 360 = .ok (.iconst 0, 1) := by decide +kernel
theorem dL_house_361 : decode cL_house 361 = .ok (.iconst 0, 1) := by decide +kernel
theorem dL_house_362 : decode cL_house 362 = .ok (.invokestatic 81, 3) := by decide +kernel
theorem dL_house_365 : decode cL_house 365 = .ok (.bipush (-71), 2) := by decide +kernel
theorem dL_house_367 : decode cL_house 367 = .ok (.if_icmp .ne 231, 3) := by decide +kernel
theorem dL_house_370 : decode cL_house 370 = .ok (.aload_n 0, 1) := by decide +kernel
theorem dL_house_371 : decode cL_house 371 = .ok (.invokevirtual 91, 3) := by decide +kernel
theorem dL_house_374 : decode cL_house 374 = .ok (.ifCond .ne 224, 3) := by decide +kernel
theorem dL_house_377 : decode cL_house 377 = .ok (.aload_n 0, 1) := by decide +kernel
theorem dL_house_378 : decode cL_house 378 = .ok (.iconst 1, 1) := by decide +kernel
theorem dL_house_379 : decode cL_house 379 = .ok (.iconst 1, 1) := by decide +kernel
theorem dL_house_380 : decode cL_house 380 = .ok (.iconst 5, 1) := by decide +kernel
theorem dL_house_381 : decode cL_house 381 = .ok (.iconst 0, 1) := by decide +kernel
theorem dL_house_382 : decode cL_house 382 = .ok (.invokevirtual 37, 3) := by decide +kernel
theorem dL_house_385 : decode cL_house 385 = .ok (.bipush 10, 2) := by decide +kernel
theorem dL_house_387 : decode cL_house 387 = .ok (.if_icmp .ne 211, 3) := by decide +kernel
theorem dL_house_390 : decode cL_house 390 = .ok (.aload_n 0, 1) := by decide +kernel
theorem dL_house_391 : decode cL_house 391 = .ok (.iconst 1, 1) := by decide +kernel
theorem dL_house_392 : decode cL_house 392 = .ok (.iconst 1, 1) := by decide +kernel
theorem dL_house_393 : decode cL_house 393 = .ok (.iconst 4, 1) := by decide +kernel
theorem dL_house_394 : decode cL_house 394 = .ok (.iconst 0, 1) := by decide +kernel
theorem dL_house_395 : decode cL_house 395 = .ok (.invokevirtual 37, 3) := by decide +kernel
theorem dL_house_398 : decode cL_house 398 = .ok (.ldc 95, 2) := by decide +kernel
theorem dL_house_400 : decode cL_house 400 = .ok (.if_icmp .ne 198, 3) := by decide +kernel
theorem dL_house_403 : decode cL_house 403 = .ok (.aload_n 0, 1) := by decide +kernel
theorem dL_house_404 : decode cL_house 404 = .ok (.iconst 0, 1) := by decide +kernel
theorem dL_house_405 : decode cL_house 405 = .ok (.iconst 1, 1) := by decide +kernel
theorem dL_house_406 : decode cL_house 406 = .ok (.iconst 5, 1) := by decide +kernel
theorem dL_house_407 : decode cL_house 407 = .ok (.iconst 0, 1) := by decide +kernel
theorem dL_house_408 : decode cL_house 408 = .ok (.invokevirtual 41, 3) := by decide +kernel
theorem dL_house_411 : decode cL_house 411 = .ok (.bipush 17, 2) := by decide +kernel
theorem dL_house_413 : decode cL_house 413 = .ok (.if_icmp .ne 185, 3) := by decide +kernel
theorem dL_house_416 : decode cL_house 416 = .ok (.aload_n 0, 1) := by decide +kernel
theorem dL_house_417 : decode cL_house 417 = .ok (.iconst 0, 1) := by decide +kernel
theorem dL_house_418 : decode cL_house 418 = .ok (.iconst 1, 1) := by decide +kernel
theorem dL_house_419 : decode cL_house 419 = .ok (.iconst 5, 1) := by decide +kernel
theorem dL_house_420 : decode cL_house 420 = .ok (.iconst 0, 1) := by decide +kernel
theorem dL_house_421 : decode cL_house 421 = .ok (.invokevirtual 37, 3) := by decide +kernel
theorem dL_house_424 : decode cL_house 424 = .ok (.ldc 95, 2) := by decide +kernel
theorem dL_house_426 : decode cL_house 426 = .ok (.if_icmp .ne 172, 3) := by decide +kernel
theorem dL_house_429 : decode cL_house 429 = .ok (.aload_n 0, 1) := by decide +kernel
theorem dL_house_430 : decode cL_house 430 = .ok (.iconst 2, 1) := by decide +kernel
theorem dL_house_431 : decode cL_house 431 = .ok (.iconst 2, 1) := by decide +kernel
theorem dL_house_432 : decode cL_house 432 = .ok (.iconst 5, 1) := by decide +kernel
theorem dL_house_433 : decode cL_house 433 = .ok (.iconst 0, 1) := by decide +kernel
theorem dL_house_434 : decode cL_house 434 = .ok (.invokevirtual 41, 3) := by decide +kernel
theorem dL_house_437 : decode cL_house 437 = .ok (.bipush (-3), 2) := by decide +kernel
theorem dL_house_439 : decode cL_house 439 = .ok (.if_icmp .ne 159, 3) := by decide +kernel
theorem dL_house_442 : decode cL_house 442 = .ok (.aload_n 0, 1) := by decide +kernel
theorem dL_house_443 : decode cL_house 443 = .ok (.iconst 0, 1) := by decide +kernel
theorem dL_house_444 : decode cL_house 444 = .ok (.iconst 2, 1) := by decide +kernel
theorem dL_house_445 : decode cL_house 445 = .ok (.iconst 5, 1) := by decide +kernel
theorem dL_house_446 : decode cL_house 446 = .ok (.iconst 0, 1) := by decide +kernel
theorem dL_house_447 : decode cL_house 447 = .ok (.invokevirtual 41, 3) := by decide +kernel
theorem dL_house_450 : decode cL_house 450 = .ok (.iconst 1, 1) := by decide +kernel
theorem dL_house_451 : decode cL_house 451 = .ok (.if_icmp .ne 147, 3) := by decide +kernel
theorem dL_house_454 : decode cL_house 454 = .ok (.aload_n 0, 1) := by decide +kernel
theorem dL_house_455 : decode cL_house 455 = .ok (.iconst 1, 1) := by decide +kernel
theorem dL_house_456 : decode cL_house 456 = .ok (.iconst 0, 1) := by decide +kernel
theorem dL_house_457 : decode cL_house 457 = .ok (.iconst 5, 1) := by decide +kernel
theorem dL_house_458 : decode cL_house 458 = .ok (.iconst 0, 1) := by decide +kernel
theorem dL_house_459 : decode cL_house 459 = .ok (.invokevirtual 41, 3) := by decide +kernel
theorem dL_house_462 : decode cL_house 462 = .ok (.bipush 14, 2) := by decide +kernel
theorem dL_house_464 : decode cL_house 464 = .ok (.if_icmp .ne 134, 3) := by decide +kernel
theorem dL_house_467 : decode cL_house 467 = .ok (.aload_n 0, 1) := by decide +kernel
theorem dL_house_468 : decode cL_house 468 = .ok (.iconst 2, 1) := by decide +kernel
theorem dL_house_469 : decode cL_house 469 = .ok (.iconst 0, 1) := by decide +kernel
theorem dL_house_470 : decode cL_house 470 = .ok (.iconst 5, 1) := by decide +kernel
theorem dL_house_471 : decode cL_house 471 = .ok (.iconst 0, 1) := by decide +kernel
theorem dL_house_472 : decode cL_house 472 = .ok (.invokevirtual 41, 3) := by decide +kernel
theorem dL_house_475 : decode cL_house 475 = .ok (.iconst 4, 1) := by decide +kernel
theorem dL_house_476 : decode cL_house 476 = .ok (.if_icmp .ne 122, 3) := by decide +kernel
theorem dL_house_479 : decode cL_house 479 = .ok (.aload_n 0, 1) := by decide +kernel
theorem dL_house_480 : decode cL_house 480 = .ok (.iconst 0, 1) := by decide +kernel
theorem dL_house_481 : decode cL_house 481 = .ok (.iconst 0, 1) := by decide +kernel
theorem dL_house_482 : decode cL_house 482 = .ok (.iconst 5, 1) := by decide +kernel
theorem dL_house_483 : decode cL_house 483 = .ok (.iconst 0, 1) := by decide +kernel
theorem dL_house_484 : decode cL_house 484 = .ok (.invokevirtual 41, 3) := by decide +kernel
theorem dL_house_487 : decode cL_house 487 = .ok (.bipush 18, 2) := by decide +kernel
theorem dL_house_489 : decode cL_house 489 = .ok (.if_icmp .ne 109, 3) := by decide +kernel
theorem dL_house_492 : decode cL_house 492 = .ok (.aload_n 0, 1) := by decide +kernel
theorem dL_house_493 : decode cL_house 493 = .ok (.iconst 3, 1) := by decide +kernel
theorem dL_house_494 : decode cL_house 494 = .ok (.iconst 1, 1) := by decide +kernel
theorem dL_house_495 : decode cL_house 495 = .ok (.iconst 5, 1) := by decide +kernel
theorem dL_house_496 : decode cL_house 496 = .ok (.iconst 0, 1) := by decide +kernel
theorem dL_house_497 : decode cL_house 497 = .ok (.invokevirtual 41, 3) := by decide +kernel
theorem dL_house_500 : decode cL_house 500 = .ok (.ldc 95, 2) := by decide +kernel
theorem dL_house_502 : decode cL_house 502 = .ok (.if_icmp .ne 96, 3) := by decide +kernel
theorem dL_house_505 : decode cL_house 505 = .ok (.aload_n 0, 1) := by decide +kernel
theorem dL_house_506 : decode cL_house 506 = .ok (.iconst 3, 1) := by decide +kernel
theorem dL_house_507 : decode cL_house 507 = .ok (.iconst 0, 1) := by decide +kernel
theorem dL_house_508 : decode cL_house 508 = .ok (.iconst 5, 1) := by decide +kernel
theorem dL_house_509 : decode cL_house 509 = .ok (.iconst 0, 1) := by decide +kernel
theorem dL_house_510 : decode cL_house 510 = .ok (.invokevirtual 41, 3) := by decide +kernel
theorem dL_house_513 : decode cL_house 513 = .ok (.ldc 95, 2) := by decide +kernel
theorem dL_house_515 : decode cL_house 515 = .ok (.if_icmp .ne 83, 3) := by decide +kernel
theorem dL_house_518 : decode cL_house 518 = .ok (.aload_n 0, 1) := by decide +kernel
theorem dL_house_519 : decode cL_house 519 = .ok (.iconst 0, 1) := by decide +kernel
theorem dL_house_520 : decode cL_house 520 = .ok (.iconst 0, 1) := by decide +kernel
theorem dL_house_521 : decode cL_house 521 = .ok (.iconst 4, 1) := by decide +kernel
theorem dL_house_522 : decode cL_house 522 = .ok (.iconst 0, 1) := by decide +kernel
theorem dL_house_523 : decode cL_house 523 = .ok (.invokevirtual 41, 3) := by decide +kernel
theorem dL_house_526 : decode cL_house 526 = .ok (.ldc 95, 2) := by decide +kernel
theorem dL_house_528 : decode cL_house 528 = .ok (.if_icmp .ne 70, 3) := by decide +kernel
theorem dL_house_531 : decode cL_house 531 = .ok (.aload_n 0, 1) := by decide +kernel
theorem dL_house_532 : decode cL_house 532 = .ok (.iconst 1, 1) := by decide +kernel
theorem dL_house_533 : decode cL_house 533 = .ok (.iconst 1, 1) := by decide +kernel
theorem dL_house_534 : decode cL_house 534 = .ok (.iconst 5, 1) := by decide +kernel
theorem dL_house_535 : decode cL_house 535 = .ok (.invokevirtual 44, 3) := by decide +kernel
theorem dL_house_538 : decode cL_house 538 = .ok (.bipush 10, 2) := by decide +kernel
theorem dL_house_540 : decode cL_house 540 = .ok (.if_icmp .ne 58, 3) := by decide +kernel
theorem dL_house_543 : decode cL_house 543 = .ok (.aload_n 0, 1) := by decide +kernel
theorem dL_house_544 : decode cL_house 544 = .ok (.iconst 1, 1) := by decide +kernel
theorem dL_house_545 : decode cL_house 545 = .ok (.iconst 1, 1) := by decide +kernel
theorem dL_house_546 : decode cL_house 546 = .ok (.iconst 5, 1) := by decide +kernel
theorem dL_house_547 : decode cL_house 547 = .ok (.invokevirtual 48, 3) := by decide +kernel
theorem dL_house_550 : decode cL_house 550 = .ok (.iconst 1, 1) := by decide +kernel
theorem dL_house_551 : decode cL_house 551 = .ok (.if_icmp .ne 47, 3) := by decide +kernel
theorem dL_house_554 : decode cL_house 554 = .ok (.aload_n 0, 1) := by decide +kernel
theorem dL_house_555 : decode cL_house 555 = .ok (.iconst 2, 1) := by decide +kernel
theorem dL_house_556 : decode cL_house 556 = .ok (.iconst 2, 1) := by decide +kernel
theorem dL_house_557 : decode cL_house 557 = .ok (.iconst 5, 1) := by decide +kernel
theorem dL_house_558 : decode cL_house 558 = .ok (.invokevirtual 48, 3) := by decide +kernel
theorem dL_house_561 : decode cL_house 561 = .ok (.ifCond .ne 37, 3) := by decide +kernel
theorem dL_house_564 : decode cL_house 564 = .ok (.aload_n 0, 1) := by decide +kernel
theorem dL_house_565 : decode cL_house 565 = .ok (.iconst 2, 1) := by decide +kernel
theorem dL_house_566 : decode cL_house 566 = .ok (.iconst 2, 1) := by decide +kernel
theorem dL_house_567 : decode cL_house 567 = .ok (.iconst 5, 1) := by decide +kernel
theorem dL_house_568 : decode cL_house 568 = .ok (.invokevirtual 44, 3) := by decide +kernel
theorem dL_house_571 : decode cL_house 571 = .ok (.ldc 95, 2) := by decide +kernel
theorem dL_house_573 : decode cL_house 573 = .ok (.if_icmp .ne 25, 3) := by decide +kernel
theorem dL_house_576 : decode cL_house 576 = .ok (.aload_n 0, 1) := by decide +kernel
theorem dL_house_577 : decode cL_house 577 = .ok (.iconst 1, 1) := by decide +kernel
theorem dL_house_578 : decode cL_house 578 = .ok (.iconst 1, 1) := by decide +kernel
theorem dL_house_579 : decode cL_house 579 = .ok (.iconst 5, 1) := by decide +kernel
theorem dL_house_580 : decode cL_house 580 = .ok (.invokevirtual 51, 3) := by decide +kernel
theorem dL_house_583 : decode cL_house 583 = .ok (.ifCond .ne 15, 3) := by decide +kernel
theorem dL_house_586 : decode cL_house 586 = .ok (.aload_n 0, 1) := by decide +kernel
theorem dL_house_587 : decode cL_house 587 = .ok (.iconst 0, 1) := by decide +kernel
theorem dL_house_588 : decode cL_house 588 = .ok (.iconst 0, 1) := by decide +kernel
theorem dL_house_589 : decode cL_house 589 = .ok (.iconst 5, 1) := by decide +kernel
theorem dL_house_590 : decode cL_house 590 = .ok (.invokevirtual 55, 3) := by decide +kernel
theorem dL_house_593 : decode cL_house 593 = .ok (.bipush 18, 2) := by decide +kernel
theorem dL_house_595 : decode cL_house 595 = .ok (.if_icmp .eq 5, 3) := by decide +kernel
theorem dL_house_598 : decode cL_house 598 = .ok (.iconst 0, 1) := by decide +kernel
theorem dL_house_599 : decode cL_house 599 = .ok (.ireturn, 1) := by decide +kernel
theorem dL_house_600 : decode cL_house 600 = .ok (.aload_n 0, 1) := by decide +kernel
theorem dL_house_601 : decode cL_house 601 = .ok (.iconst 2, 1) := by decide +kernel
theorem dL_house_602 : decode cL_house 602 = .ok (.invokevirtual 34, 3) := by decide +kernel
theorem dL_house_605 : decode cL_house 605 = .ok (.iconst 2, 1) := by decide +kernel
theorem dL_house_606 : decode cL_house 606 = .ok (.if_icmp .ne 381, 3) := by decide +kernel
theorem dL_house_609 : decode cL_house 609 = .ok (.aload_n 0, 1) := by decide +kernel
theorem dL_house_610 : decode cL_house 610 = .ok (.iconst 1, 1) := by decide +kernel
theorem dL_house_611 : decode cL_house 611 = .ok (.iconst 1, 1) := by decide +kernel
theorem dL_house_612 : decode cL_house 612 = .ok (.iconst 1, 1) := by decide +kernel
theorem dL_house_613 : decode cL_house 613 = .ok (.iconst 5, 1) := by decide +kernel
theorem dL_house_614 : decode cL_house 614 = .ok (.bipush 12, 2) := by decide +kernel
theorem dL_house_616 : decode cL_house 616 = .ok (.invokevirtual 20, 3) := by decide +kernel
theorem dL_house_619 : decode cL_house 619 = .ok (.iconst 1, 1) := by decide +kernel
theorem dL_house_620 : decode cL_house 620 = .ok (.if_icmp .ne 367, 3) := by decide +kernel
theorem dL_house_623 : decode cL_house 623 = .ok (.aload_n 0, 1) := by decide +kernel
theorem dL_house_624 : decode cL_house 624 = .ok (.iconst 0, 1) := by decide +kernel
theorem dL_house_625 : decode cL_house 625 = .ok (.iconst 0, 1) := by decide +kernel
theorem dL_house_626 : decode cL_house 626 = .ok (.iconst 1, 1) := by decide +kernel
theorem dL_house_627 : decode cL_house 627 = .ok (.iconst 5, 1) := by decide +kernel
theorem dL_house_628 : decode cL_house 628 = .ok (.bipush 19, 2) := by decide +kernel
theorem dL_house_630 : decode cL_house 630 = .ok (.invokevirtual 20, 3) := by decide +kernel
theorem dL_house_633 : decode cL_house 633 = .ok (.iconst 2, 1) := by decide +kernel
theorem dL_house_634 : decode cL_house 634 = .ok (.if_icmp .ne 353, 3) := by decide +kernel
theorem dL_house_637 : decode cL_house 637 = .ok (.aload_n 0, 1) := by decide +kernel
theorem dL_house_638 : decode cL_house 638 = .ok (.iconst 2, 1) := by decide +kernel
theorem dL_house_639 : decode cL_house 639 = .ok (.iconst 1, 1) := by decide +kernel
theorem dL_house_640 : decode cL_house 640 = .ok (.iconst 2, 1) := by decide +kernel
theorem dL_house_641 : decode cL_house 641 = .ok (.iconst 5, 1) := by decide +kernel
theorem dL_house_642 : decode cL_house 642 = .ok (.ldc 96, 2) := by decide +kernel
theorem dL_house_644 : decode cL_house 644 = .ok (.invokevirtual 20, 3) := by decide +kernel
theorem dL_house_647 : decode cL_house 647 = .ok (.iconst 3, 1) := by decide +kernel
theorem dL_house_648 : decode cL_house 648 = .ok (.if_icmp .ne 339, 3) := by decide +kernel
theorem dL_house_651 : decode cL_house 651 = .ok (.aload_n 0, 1) := by decide +kernel
theorem dL_house_652 : decode cL_house 652 = .ok (.iconst 0, 1) := by decide +kernel
theorem dL_house_653 : decode cL_house 653 = .ok (.iconst 0, 1) := by decide +kernel
theorem dL_house_654 : decode cL_house 654 = .ok (.iconst 0, 1) := by decide +kernel
theorem dL_house_655 : decode cL_house 655 = .ok (.iconst 5, 1) := by decide +kernel
theorem dL_house_656 : decode cL_house 656 = .ok (.bipush 20, 2) := by decide +kernel
theorem dL_house_658 : decode cL_house 658 = .ok (.invokevirtual 20, 3) := by decide +kernel
theorem dL_house_661 : decode cL_house 661 = .ok (.iconst 4, 1) := by decide +kernel
theorem dL_house_662 : decode cL_house 662 = .ok (.if_icmp .ne 325, 3) := by decide +kernel
theorem dL_house_665 : decode cL_house 665 = .ok (.aload_n 0, 1) := by decide +kernel
theorem dL_house_666 : decode cL_house 666 = .ok (.iconst 0, 1) := by decide +kernel
theorem dL_house_667 : decode cL_house 667 = .ok (.invokevirtual 24, 3) := by decide +kernel
theorem dL_house_670 : decode cL_house 670 = .ok (.iconst 4, 1) := by decide +kernel
theorem dL_house_671 : decode cL_house 671 = .ok (.if_icmp .ne 316, 3) := by decide +kernel
theorem dL_house_674 : decode cL_house 674 = .ok (.aload_n 0, 1) := by decide +kernel
theorem dL_house_675 : decode cL_house 675 = .ok (.iconst 0, 1) := by decide +kernel
theorem dL_house_676 : decode cL_house 676 = .ok (.iconst 1, 1) := by decide +kernel
theorem dL_house_677 : decode cL_house 677 = .ok (.iconst 5, 1) := by decide +kernel
theorem dL_house_678 : decode cL_house 678 = .ok (.iconst 0, 1) := by decide +kernel
theorem dL_house_679 : decode cL_house 679 = .ok (.invokevirtual 41, 3) := by decide +kernel
theorem dL_house_682 : decode cL_house 682 = .ok (.bipush 17, 2) := by decide +kernel
theorem dL_house_684 : decode cL_house 684 = .ok (.if_icmp .ne 303, 3) := by decide +kernel
theorem dL_house_687 : decode cL_house 687 = .ok (.aload_n 0, 1) := by decide +kernel
theorem dL_house_688 : decode cL_house 688 = .ok (.iconst 0, 1) := by decide +kernel
theorem dL_house_689 : decode cL_house 689 = .ok (.iconst 1, 1) := by decide +kernel
theorem dL_house_690 : decode cL_house 690 = .ok (.iconst 5, 1) := by decide +kernel
theorem dL_house_691 : decode cL_house 691 = .ok (.iconst 1, 1) := by decide +kernel
theorem dL_house_692 : decode cL_house 692 = .ok (.invokevirtual 41, 3) := by decide +kernel
theorem dL_house_695 : decode cL_house 695 = .ok (.bipush 17, 2) := by decide +kernel
theorem dL_house_697 : decode cL_house 697 = .ok (.if_icmp .ne 290, 3) := by decide +kernel
theorem dL_house_700 : decode cL_house 700 = .ok (.aload_n 0, 1) := by decide +kernel
theorem dL_house_701 : decode cL_house 701 = .ok (.iconst 0, 1) := by decide +kernel
theorem dL_house_702 : decode cL_house 702 = .ok (.iconst 1, 1) := by decide +kernel
theorem dL_house_703 : decode cL_house 703 = .ok (.iconst 5, 1) := by decide +kernel
theorem dL_house_704 : decode cL_house 704 = .ok (.iconst 2, 1) := by decide +kernel
theorem dL_house_705 : decode cL_house 705 = .ok (.invokevirtual 41, 3) := by decide +kernel
theorem dL_house_708 : decode cL_house 708 = .ok (.bipush 19, 2) := by decide +kernel
theorem dL_house_710 : decode cL_house 710 = .ok (.if_icmp .ne 277, 3) := by decide +kernel
theorem dL_house_713 : decode cL_house 713 = .ok (.aload_n 0, 1) := by decide +kernel
theorem dL_house_714 : decode cL_house 714 = .ok (.iconst 1, 1) := by decide +kernel
theorem dL_house_715 : decode cL_house 715 = .ok (.iconst 2, 1) := by decide +kernel
theorem dL_house_716 : decode cL_house 716 = .ok (.iconst 5, 1) := by decide +kernel
theorem dL_house_717 : decode cL_house 717 = .ok (.iconst 1, 1) := by decide +kernel
theorem dL_house_718 : decode cL_house 718 = .ok (.invokevirtual 37, 3) := by decide +kernel
theorem dL_house_721 : decode cL_house 721 = .ok (.iconst 4, 1) := by decide +kernel
theorem dL_house_722 : decode cL_house 722 = .ok (.if_icmp .ne 265, 3) := by decide +kernel
theorem dL_house_725 : decode cL_house 725 = .ok (.aload_n 0, 1) := by decide +kernel
theorem dL_house_726 : decode cL_house 726 = .ok (.iconst 1, 1) := by decide +kernel
theorem dL_house_727 : decode cL_house 727 = .ok (.iconst 2, 1) := by decide +kernel
theorem dL_house_728 : decode cL_house 728 = .ok (.iconst 5, 1) := by decide +kernel
theorem dL_house_729 : decode cL_house 729 = .ok (.iconst 2, 1) := by decide +kernel
theorem dL_house_730 : decode cL_house 730 = .ok (.invokevirtual 37, 3) := by decide +kernel
theorem dL_house_733 : decode cL_house 733 = .ok (.ldc 95, 2) := by decide +kernel
theorem dL_house_735 : decode cL_house 735 = .ok (.if_icmp .ne 252, 3) := by decide +kernel
theorem dL_house_738 : decode cL_house 738 = .ok (.aload_n 0, 1) := by decide +kernel
theorem dL_house_739 : decode cL_house 739 = .ok (.iconst 1, 1) := by decide +kernel
theorem dL_house_740 : decode cL_house 740 = .ok (.iconst 2, 1) := by decide +kernel
theorem dL_house_741 : decode cL_house 741 = .ok (.iconst 5, 1) := by decide +kernel
theorem dL_house_742 : decode cL_house 742 = .ok (.invokevirtual 44, 3) := by decide +kernel
theorem dL_house_745 : decode cL_house 745 = .ok (.iconst 4, 1) := by decide +kernel
theorem dL_house_746 : decode cL_house 746 = .ok (.if_icmp .ne 241, 3) := by decide +kernel
theorem dL_house_749 : decode cL_house 749 = .ok (.aload_n 0, 1) := by decide +kernel
theorem dL_house_750 : decode cL_house 750 = .ok (.iconst 1, 1) := by decide +kernel
theorem dL_house_751 : decode cL_house 751 = .ok (.iconst 2, 1) := by decide +kernel
theorem dL_house_752 : decode cL_house 752 = .ok (.iconst 5, 1) := by decide +kernel
theorem dL_house_753 : decode cL_house 753 = .ok (.invokevirtual 48, 3) := by decide +kernel
theorem dL_house_756 : decode cL_house 756 = .ok (.iconst 2, 1) := by decide +kernel
theorem dL_house_757 : decode cL_house 757 = .ok (.if_icmp .ne 230, 3) := by decide +kernel
theorem dL_house_760 : decode cL_house 760 = .ok (.aload_n 0, 1) := by decide +kernel
theorem dL_house_761 : decode cL_house 761 = .ok (.iconst 0, 1) := by decide +kernel
theorem dL_house_762 : decode cL_house 762 = .ok (.iconst 2, 1) := by decide +kernel
theorem dL_house_763 : decode cL_house 763 = .ok (.iconst 5, 1) := by decide +kernel
theorem dL_house_764 : decode cL_house 764 = .ok (.iconst 2, 1) := by decide +kernel
theorem dL_house_765 : decode cL_house 765 = .ok (.invokevirtual 41, 3) := by decide +kernel
theorem dL_house_768 : decode cL_house 768 = .ok (.ldc 95, 2) := by decide +kernel
theorem dL_house_770 : decode cL_house 770 = .ok (.if_icmp .ne 217, 3) := by decide +kernel
theorem dL_house_773 : decode cL_house 773 = .ok (.aload_n 0, 1) := by decide +kernel
theorem dL_house_774 : decode cL_house 774 = .ok (.iconst 1, 1) := by decide +kernel
theorem dL_house_775 : decode cL_house 775 = .ok (.iconst 0, 1) := by decide +kernel
theorem dL_house_776 : decode cL_house 776 = .ok (.iconst 5, 1) := by decide +kernel
theorem dL_house_777 : decode cL_house 777 = .ok (.iconst 2, 1) := by decide +kernel
theorem dL_house_778 : decode cL_house 778 = .ok (.invokevirtual 41, 3) := by decide +kernel
theorem dL_house_781 : decode cL_house 781 = .ok (.ldc 95, 2) := by decide +kernel
theorem dL_house_783 : decode cL_house 783 = .ok (.if_icmp .ne 204, 3) := by decide +kernel
theorem dL_house_786 : decode cL_house 786 = .ok (.aload_n 0, 1) := by decide +kernel
theorem dL_house_787 : decode cL_house 787 = .ok (.iconst 1, 1) := by decide +kernel
theorem dL_house_788 : decode cL_house 788 = .ok (.iconst 0, 1) := by decide +kernel
theorem dL_house_789 : decode cL_house 789 = .ok (.iconst 5, 1) := by decide +kernel
theorem dL_house_790 : decode cL_house 790 = .ok (.iconst 1, 1) := by decide +kernel
theorem dL_house_791 : decode cL_house 791 = .ok (.invokevirtual 41, 3) := by decide +kernel
theorem dL_house_794 : decode cL_house 794 = .ok (.bipush 14, 2) := by decide +kernel
theorem dL_house_796 : decode cL_house 796 = .ok (.if_icmp .ne 191, 3) := by decide +kernel
theorem dL_house_799 : decode cL_house 799 = .ok (.aload_n 0, 1) := by decide +kernel
theorem dL_house_800 : decode cL_house 800 = .ok (.iconst 0, 1) := by decide +kernel
theorem dL_house_801 : decode cL_house 801 = .ok (.iconst 0, 1) := by decide +kernel
theorem dL_house_802 : decode cL_house 802 = .ok (.iconst 5, 1) := by decide +kernel
theorem dL_house_803 : decode cL_house 803 = .ok (.iconst 2, 1) := by decide +kernel
theorem dL_house_804 : decode cL_house 804 = .ok (.invokevirtual 41, 3) := by decide +kernel
theorem dL_house_807 : decode cL_house 807 = .ok (.bipush 20, 2) := by decide +kernel
theorem dL_house_809 : decode cL_house 809 = .ok (.if_icmp .ne 178, 3) := by decide +kernel
theorem dL_house_812 : decode cL_house 812 = .ok (.aload_n 0, 1) := by decide +kernel
theorem dL_house_813 : decode cL_house 813 = .ok (.iconst 0, 1) := by decide +kernel
theorem dL_house_814 : decode cL_house 814 = .ok (.iconst 0, 1) := by decide +kernel
theorem dL_house_815 : decode cL_house 815 = .ok (.iconst 5, 1) := by decide +kernel
theorem dL_house_816 : decode cL_house 816 = .ok (.iconst 1, 1) := by decide +kernel
theorem dL_house_817 : decode cL_house 817 = .ok (.invokevirtual 41, 3) := by decide +kernel
theorem dL_house_820 : decode cL_house 820 = .ok (.bipush 18, 2) := by decide +kernel
theorem dL_house_822 : decode cL_house 822 = .ok (.if_icmp .ne 165, 3) := by decide +kernel
theorem dL_house_825 : decode cL_house 825 = .ok (.aload_n 0, 1) := by decide +kernel
theorem dL_house_826 : decode cL_house 826 = .ok (.iconst 0, 1) := by decide +kernel
theorem dL_house_827 : decode cL_house 827 = .ok (.iconst 1, 1) := by decide +kernel
theorem dL_house_828 : decode cL_house 828 = .ok (.iconst 5, 1) := by decide +kernel
theorem dL_house_829 : decode cL_house 829 = .ok (.invokevirtual 51, 3) := by decide +kernel
theorem dL_house_832 : decode cL_house 832 = .ok (.ifCond .ne 155, 3) := by decide +kernel
theorem dL_house_835 : decode cL_house 835 = .ok (.aload_n 0, 1) := by decide +kernel
theorem dL_house_836 : decode cL_house 836 = .ok (.iconst 0, 1) := by decide +kernel
theorem dL_house_837 : decode cL_house 837 = .ok (.iconst 0, 1) := by decide +kernel
theorem dL_house_838 : decode cL_house 838 = .ok (.iconst 5, 1) := by decide +kernel
theorem dL_house_839 : decode cL_house 839 = .ok (.invokevirtual 51, 3) := by decide +kernel
theorem dL_house_842 : decode cL_house 842 = .ok (.ifCond .ne 145, 3) := by decide +kernel
theorem dL_house_845 : decode cL_house 845 = .ok (.aload_n 0, 1) := by decide +kernel
theorem dL_house_846 : decode cL_house 846 = .ok (.iconst 0, 1) := by decide +kernel
theorem dL_house_847 : decode cL_house 847 = .ok (.iconst 1, 1) := by decide +kernel
theorem dL_house_848 : decode cL_house 848 = .ok (.iconst 2, 1) := by decide +kernel
theorem dL_house_849 : decode cL_house 849 = .ok (.iconst 5, 1) := by decide +kernel
theorem dL_house_850 : decode cL_house 850 = .ok (.iconst 5, 1) := by decide +kernel
theorem dL_house_851 : decode cL_house 851 = .ok (.invokevirtual 20, 3) := by decide +kernel
theorem dL_house_854 : decode cL_house 854 = .ok (.iconst 1, 1) := by decide +kernel
theorem dL_house_855 : decode cL_house 855 = .ok (.if_icmp .ne 132, 3) := by decide +kernel
theorem dL_house_858 : decode cL_house 858 = .ok (.aload_n 0, 1) := by decide +kernel
theorem dL_house_859 : decode cL_house 859 = .ok (.iconst 1, 1) := by decide +kernel
theorem dL_house_860 : decode cL_house 860 = .ok (.invokevirtual 24, 3) := by decide +kernel
theorem dL_house_863 : decode cL_house 863 = .ok (.ifCond .ne 124, 3) := by decide +kernel
theorem dL_house_866 : decode cL_house 866 = .ok (.aload_n 0, 1) := by decide +kernel
theorem dL_house_867 : decode cL_house 867 = .ok (.iconst 0, 1) := by decide +kernel
theorem dL_house_868 : decode cL_house 868 = .ok (.invokevirtual 27, 3) := by decide +kernel
theorem dL_house_871 : decode cL_house 871 = .ok (.iconst 1, 1) := by decide +kernel
theorem dL_house_872 : decode cL_house 872 = .ok (.if_icmp .ne 115, 3) := by decide +kernel
theorem dL_house_875 : decode cL_house 875 = .ok (.aload_n 0, 1) := by decide +kernel
theorem dL_house_876 : decode cL_house 876 = .ok (.iconst 5, 1) := by decide +kernel
theorem dL_house_877 : decode cL_house 877 = .ok (.iconst 1, 1) := by decide +kernel
theorem dL_house_878 : decode cL_house 878 = .ok (.iconst 0, 1) := by decide +kernel
theorem dL_house_879 : decode cL_house 879 = .ok (.iconst 0, 1) := by decide +kernel
theorem dL_house_880 : decode cL_house 880 = .ok (.iconst 0, 1) := by decide +kernel
theorem dL_house_881 : decode cL_house 881 = .ok (.iconst 0, 1) := by decide +kernel
theorem dL_house_882 : decode cL_house 882 = .ok (.invokestatic 81, 3) := by decide +kernel
theorem dL_house_885 : decode cL_house 885 = .ok (.bipush (-71), 2) := by decide +kernel
theorem dL_house_887 : decode cL_house 887 = .ok (.if_icmp .ne 100, 3) := by decide +kernel
theorem dL_house_890 : decode cL_house 890 = .ok (.aload_n 0, 1) := by decide +kernel
theorem dL_house_891 : decode cL_house 891 = .ok (.iconst 0, 1) := by decide +kernel
theorem dL_house_892 : decode cL_house 892 = .ok (.iconst 1, 1) := by decide +kernel
theorem dL_house_893 : decode cL_house 893 = .ok (.iconst 2, 1) := by decide +kernel
theorem dL_house_894 : decode cL_house 894 = .ok (.iconst 5, 1) := by decide +kernel
theorem dL_house_895 : decode cL_house 895 = .ok (.iconst 5, 1) := by decide +kernel
