theorem dL_matrix_63 : decode cL_matrix 63 = .ok (.iload_n 1, 1) := by decide +kernel
theorem dL_matrix_64 : decode cL_matrix 64 = .ok (.if_icmp .ge 83, 3) := by decide +kernel
theorem dL_matrix_67 : decode cL_matrix 67 = .ok (.iload 8, 2) := by decide +kernel
theorem dL_matrix_69 : decode cL_matrix 69 = .ok (.iload 9, 2) := by decide +kernel
theorem dL_matrix_71 : decode cL_matrix 71 = .ok (.ishr, 1) := by decide +kernel
theorem dL_matrix_72 : decode cL_matrix 72 = .ok (.iconst 1, 1) := by decide +kernel
theorem dL_matrix_73 : decode cL_matrix 73 = .ok (.iand, 1) := by decide +kernel
theorem dL_matrix_74 : decode cL_matrix 74 = .ok (.iconst 1, 1) := by decide +kernel
theorem dL_matrix_75 : decode cL_matrix 75 = .ok (.if_icmp .ne 7, 3) := by decide +kernel
theorem dL_matrix_78 : decode cL_matrix 78 = .ok (.iconst 1, 1) := by decide +kernel
theorem dL_matrix_79 : decode cL_matrix 79 = .ok (.goto 4, 3) := by decide +kernel
theorem dL_matrix_82 : decode cL_matrix 82 = .ok (.iconst 0, 1) := by decide +kernel
theorem dL_matrix_83 : decode cL_matrix 83 = .ok (.istore 10, 2) := by decide +kernel
theorem dL_matrix_85 : decode cL_matrix 85 = .ok (.iload 10, 2) := by decide +kernel
theorem dL_matrix_87 : decode cL_matrix 87 = .ok (.ifCond .eq 14, 3) := by decide +kernel
theorem dL_matrix_90 : decode cL_matrix 90 = .ok (.aload_n 0, 1) := by decide +kernel
theorem dL_matrix_91 : decode cL_matrix 91 = .ok (.iload 9, 2) := by decide +kernel
theorem dL_matrix_93 : decode cL_matrix 93 = .ok (.invokevirtual 9, 3) := by decide +kernel
theorem dL_matrix_96 : decode cL_matrix 96 = .ok (.iload 8, 2) := by decide +kernel
theorem dL_matrix_98 : decode cL_matrix 98 = .ok (.if_icmp .ne 41, 3) := by decide +kernel
theorem dL_matrix_101 : decode cL_matrix 101 = .ok (.iload 10, 2) := by decide +kernel
theorem dL_matrix_103 : decode cL_matrix 103 = .ok (.ifCond .ne 38, 3) := by decide +kernel
theorem dL_matrix_106 : decode cL_matrix 106 = .ok (.aload_n 0, 1) := by decide +kernel
theorem dL_matrix_107 : decode cL_matrix 107 = .ok (.iload 9, 2) := by decide +kernel
theorem dL_matrix_109 : decode cL_matrix 109 = .ok (.invokevirtual 9, 3) := by decide +kernel
theorem dL_matrix_112 : decode cL_matrix 112 = .ok (.iload 7, 2) := by decide +kernel
theorem dL_matrix_114 : decode cL_matrix 114 = .ok (.ishr, 1) := by decide +kernel
theorem dL_matrix_115 : decode cL_matrix 115 = .ok (.iconst 1, 1) := by decide +kernel
theorem dL_matrix_116 : decode cL_matrix 116 = .ok (.iand, 1) := by decide +kernel
theorem dL_matrix_117 : decode cL_matrix 117 = .ok (.iconst 1, 1) := by decide +kernel
theorem dL_matrix_118 : decode cL_matrix 118 = .ok (.if_icmp .eq 21, 3) := by decide +kernel
theorem dL_matrix_121 : decode cL_matrix 121 = .ok (.iload 8, 2) := by decide +kernel
theorem dL_matrix_123 : decode cL_matrix 123 = .ok (.bipush 8, 2) := by decide +kernel
theorem dL_matrix_125 : decode cL_matrix 125 = .ok (.ishr, 1) := by decide +kernel
theorem dL_matrix_126 : decode cL_matrix 126 = .ok (.aload_n 0, 1) := by decide +kernel
theorem dL_matrix_127 : decode cL_matrix 127 = .ok (.iload 9, 2) := by decide +kernel
theorem dL_matrix_129 : decode cL_matrix 129 = .ok (.invokevirtual 9, 3) := by decide +kernel
theorem dL_matrix_132 : decode cL_matrix 132 = .ok (.bipush 8, 2) := by decide +kernel
theorem dL_matrix_134 : decode cL_matrix 134 = .ok (.ishr, 1) := by decide +kernel
theorem dL_matrix_135 : decode cL_matrix 135 = .ok (.iand, 1) := by decide +kernel
theorem dL_matrix_136 : decode cL_matrix 136 = .ok (.ifCond .eq 5, 3) := by decide +kernel
theorem dL_matrix_139 : decode cL_matrix 139 = .ok (.iconst 0, 1) := by decide +kernel
theorem dL_matrix_140 : decode cL_matrix 140 = .ok (.ireturn, 1) := by decide +kernel
theorem dL_matrix_141 : decode cL_matrix 141 = .ok (.iinc 9 1, 3) := by decide +kernel
theorem dL_matrix_144 : decode cL_matrix 144 = .ok (.goto (-83), 3) := by decide +kernel
theorem dL_matrix_147 : decode cL_matrix 147 = .ok (.iconst 0, 1) := by decide +kernel
theorem dL_matrix_148 : decode cL_matrix 148 = .ok (.istore 9, 2) := by decide +kernel
theorem dL_matrix_150 : decode cL_matrix 150 = .ok (.iload 9, 2) := by decide +kernel
theorem dL_matrix_152 : decode cL_matrix 152 = .ok (.iload_n 2, 1) := by decide +kernel
theorem dL_matrix_153 : decode cL_matrix 153 = .ok (.if_icmp .ge 367, 3) := by decide +kernel
theorem dL_matrix_156 : decode cL_matrix 156 = .ok (.iload 7, 2) := by decide +kernel
theorem dL_matrix_158 : decode cL_matrix 158 = .ok (.iload_n 2, 1) := by decide +kernel
theorem dL_matrix_159 : decode cL_matrix 159 = .ok (.imul, 1) := by decide +kernel
theorem dL_matrix_160 : decode cL_matrix 160 = .ok (.iload 9, 2) := by decide +kernel
theorem dL_matrix_162 : decode cL_matrix 162 = .ok (.iadd, 1) := by decide +kernel
theorem dL_matrix_163 : decode cL_matrix 163 = .ok (.istore 10, 2) := by decide +kernel
theorem dL_matrix_165 : decode cL_matrix 165 = .ok (.aload_n 0, 1) := by decide +kernel
theorem dL_matrix_166 : decode cL_matrix 166 = .ok (.iload 10, 2) := by decide +kernel
theorem dL_matrix_168 : decode cL_matrix 168 = .ok (.iconst 0, 1) := by decide +kernel
theorem dL_matrix_169 : decode cL_matrix 169 = .ok (.invokevirtual 15, 3) := by decide +kernel
theorem dL_matrix_172 : decode cL_matrix 172 = .ok (.istore 11, 2) := by decide +kernel
theorem dL_matrix_174 : decode cL_matrix 174 = .ok (.aload_n 0, 1) := by decide +kernel
theorem dL_matrix_175 : decode cL_matrix 175 = .ok (.iload 10, 2) := by decide +kernel
theorem dL_matrix_177 : decode cL_matrix 177 = .ok (.iconst 4, 1) := by decide +kernel
theorem dL_matrix_178 : decode cL_matrix 178 = .ok (.invokevirtual 15, 3) := by decide +kernel
theorem dL_matrix_181 : decode cL_matrix 181 = .ok (.istore 12, 2) := by decide +kernel
theorem dL_matrix_183 : decode cL_matrix 183 = .ok (.aload_n 0, 1) := by decide +kernel
theorem dL_matrix_184 : decode cL_matrix 184 = .ok (.iload 10, 2) := by decide +kernel
theorem dL_matrix_186 : decode cL_matrix 186 = .ok (.iconst 5, 1) := by decide +kernel
theorem dL_matrix_187 : decode cL_matrix 187 = .ok (.invokevirtual 15, 3) := by decide +kernel
theorem dL_matrix_190 : decode cL_matrix 190 = .ok (.istore 13, 2) := by decide +kernel
theorem dL_matrix_192 : decode cL_matrix 192 = .ok (.iload 8, 2) := by decide +kernel
theorem dL_matrix_194 : decode cL_matrix 194 = .ok (.bipush 8, 2) := by decide +kernel
theorem dL_matrix_196 : decode cL_matrix 196 = .ok (.iload 9, 2) := by decide +kernel
theorem dL_matrix_198 : decode cL_matrix 198 = .ok (.iadd, 1) := by decide +kernel
theorem dL_matrix_199 : decode cL_matrix 199 = .ok (.ishr, 1) := by decide +kernel
theorem dL_matrix_200 : decode cL_matrix 200 = .ok (.iconst 1, 1) := by decide +kernel
theorem dL_matrix_201 : decode cL_matrix 201 = .ok (.iand, 1) := by decide +kernel
theorem dL_matrix_202 : decode cL_matrix 202 = .ok (.istore 14, 2) := by decide +kernel
theorem dL_matrix_204 : decode cL_matrix 204 = .ok (.iload 11, 2) := by decide +kernel
theorem dL_matrix_206 : decode cL_matrix 206 = .ok (.ifCond .le 8, 3) := by decide +kernel
theorem dL_matrix_209 : decode cL_matrix 209 = .ok (.iload 14, 2) := by decide +kernel
theorem dL_matrix_211 : decode cL_matrix 211 = .ok (.ifCond .eq 24, 3) := by decide +kernel
theorem dL_matrix_214 : decode cL_matrix 214 = .ok (.iload 11, 2) := by decide +kernel
theorem dL_matrix_216 : decode cL_matrix 216 = .ok (.ifCond .le 8, 3) := by decide +kernel
theorem dL_matrix_219 : decode cL_matrix 219 = .ok (.iload 12, 2) := by decide +kernel
theorem dL_matrix_221 : decode cL_matrix 221 = .ok (.ifCond .eq 14, 3) := by decide +kernel
theorem dL_matrix_224 : decode cL_matrix 224 = .ok (.iload 11, 2) := by decide +kernel
theorem dL_matrix_226 : decode cL_matrix 226 = .ok (.iconst 2, 1) := by decide +kernel
theorem dL_matrix_227 : decode cL_matrix 227 = .ok (.if_icmp .ne 10, 3) := by decide +kernel
theorem dL_matrix_230 : decode cL_matrix 230 = .ok (.iload 13, 2) := by decide +kernel
theorem dL_matrix_232 : decode cL_matrix 232 = .ok (.ifCond .ne 5, 3) := by decide +kernel
theorem dL_matrix_235 : decode cL_matrix 235 = .ok (.iconst 0, 1) := by decide +kernel
theorem dL_matrix_236 : decode cL_matrix 236 = .ok (.ireturn, 1) := by decide +kernel
theorem dL_matrix_237 : decode cL_matrix 237 = .ok (.iload_n 3, 1) := by decide +kernel
theorem dL_matrix_238 : decode cL_matrix 238 = .ok (.ifCond .eq 37, 3) := by decide +kernel
theorem dL_matrix_241 : decode cL_matrix 241 = .ok (.iload 12, 2) := by decide +kernel
theorem dL_matrix_243 : decode cL_matrix 243 = .ok (.iload 11, 2) := by decide +kernel
theorem dL_matrix_245 : decode cL_matrix 245 = .ok (.ifCond .le 7, 3) := by decide +kernel
theorem dL_matrix_248 : decode cL_matrix 248 = .ok (.iconst 1, 1) := by decide +kernel
theorem dL_matrix_249 : decode cL_matrix 249 = .ok (.goto 4, 3) := by decide +kernel
theorem dL_matrix_252 : decode cL_matrix 252 = .ok (.iconst 0, 1) := by decide +kernel
theorem dL_matrix_253 : decode cL_matrix 253 = .ok (.if_icmp .ne 44, 3) := by decide +kernel
theorem dL_matrix_256 : decode cL_matrix 256 = .ok (.iload 13, 2) := by decide +kernel
theorem dL_matrix_258 : decode cL_matrix 258 = .ok (.iload 11, 2) := by decide +kernel
theorem dL_matrix_260 : decode cL_matrix 260 = .ok (.iconst 2, 1) := by decide +kernel
theorem dL_matrix_261 : decode cL_matrix 261 = .ok (.if_icmp .ne 7, 3) := by decide +kernel
theorem dL_matrix_264 : decode cL_matrix 264 = .ok (.iconst 1, 1) := by decide +kernel
theorem dL_matrix_265 : decode cL_matrix 265 = .ok (.goto 4, 3) := by decide +kernel
theorem dL_matrix_268 : decode cL_matrix 268 = .ok (.iconst 0, 1) := by decide +kernel
theorem dL_matrix_269 : decode cL_matrix 269 = .ok (.if_icmp .eq 30, 3) := by decide +kernel
theorem dL_matrix_272 : decode cL_matrix 272 = .ok (.goto 25, 3) := by decide +kernel
theorem dL_matrix_275 : decode cL_matrix 275 = .ok (.iload 12, 2) := by decide +kernel
theorem dL_matrix_277 : decode cL_matrix 277 = .ok (.iload 14, 2) := by decide +kernel
theorem dL_matrix_279 : decode cL_matrix 279 = .ok (.iconst 1, 1) := by decide +kernel
theorem dL_matrix_280 : decode cL_matrix 280 = .ok (.if_icmp .eq 9, 3) := by decide +kernel
theorem dL_matrix_283 : decode cL_matrix 283 = .ok (.iload 13, 2) := by decide +kernel
theorem dL_matrix_285 : decode cL_matrix 285 = .ok (.iconst 1, 1) := by decide +kernel
theorem dL_matrix_286 : decode cL_matrix 286 = .ok (.if_icmp .ne 7, 3) := by decide +kernel
theorem dL_matrix_289 : decode cL_matrix 289 = .ok (.iconst 1, 1) := by decide +kernel
theorem dL_matrix_290 : decode cL_matrix 290 = .ok (.goto 4, 3) := by decide +kernel
theorem dL_matrix_293 : decode cL_matrix 293 = .ok (.iconst 0, 1) := by decide +kernel
theorem dL_matrix_294 : decode cL_matrix 294 = .ok (.if_icmp .eq 5, 3) := by decide +kernel
theorem dL_matrix_297 : decode cL_matrix 297 = .ok (.iconst 0, 1) := by decide +kernel
theorem dL_matrix_298 : decode cL_matrix 298 = .ok (.ireturn, 1) := by decide +kernel
theorem dL_matrix_299 : decode cL_matrix 299 = .ok (.iload 12, 2) := by decide +kernel
theorem dL_matrix_301 : decode cL_matrix 301 = .ok (.iconst 1, 1) := by decide +kernel
theorem dL_matrix_302 : decode cL_matrix 302 = .ok (.if_icmp .ne 8, 3) := by decide +kernel
theorem dL_matrix_305 : decode cL_matrix 305 = .ok (.iload 11, 2) := by decide +kernel
theorem dL_matrix_307 : decode cL_matrix 307 = .ok (.ifCond .eq 15, 3) := by decide +kernel
theorem dL_matrix_310 : decode cL_matrix 310 = .ok (.iload 13, 2) := by decide +kernel
theorem dL_matrix_312 : decode cL_matrix 312 = .ok (.iconst 1, 1) := by decide +kernel
theorem dL_matrix_313 : decode cL_matrix 313 = .ok (.if_icmp .ne 13, 3) := by decide +kernel
theorem dL_matrix_316 : decode cL_matrix 316 = .ok (.iload 11, 2) := by decide +kernel
theorem dL_matrix_318 : decode cL_matrix 318 = .ok (.iconst 2, 1) := by decide +kernel
theorem dL_matrix_319 : decode cL_matrix 319 = .ok (.if_icmp .ge 7, 3) := by decide +kernel
theorem dL_matrix_322 : decode cL_matrix 322 = .ok (.iconst 1, 1) := by decide +kernel
theorem dL_matrix_323 : decode cL_matrix 323 = .ok (.goto 4, 3) := by decide +kernel
theorem dL_matrix_326 : decode cL_matrix 326 = .ok (.iconst 0, 1) := by decide +kernel
theorem dL_matrix_327 : decode cL_matrix 327 = .ok (.istore 15, 2) := by decide +kernel
theorem dL_matrix_329 : decode cL_matrix 329 = .ok (.iconst 0, 1) := by decide +kernel
theorem dL_matrix_330 : decode cL_matrix 330 = .ok (.istore 16, 2) := by decide +kernel
theorem dL_matrix_332 : decode cL_matrix 332 = .ok (.iconst 0, 1) := by decide +kernel
theorem dL_matrix_333 : decode cL_matrix 333 = .ok (.istore 17, 2) := by decide +kernel
theorem dL_matrix_335 : decode cL_matrix 335 = .ok (.iload 17, 2) := by decide +kernel
theorem dL_matrix_337 : decode cL_matrix 337 = .ok (.iload_n 1, 1) := by decide +kernel
theorem dL_matrix_338 : decode cL_matrix 338 = .ok (.iload_n 2, 1) := by decide +kernel
theorem dL_matrix_339 : decode cL_matrix 339 = .ok (.imul, 1) := by decide +kernel
theorem dL_matrix_340 : decode cL_matrix 340 = .ok (.if_icmp .ge 104, 3) := by decide +kernel
theorem dL_matrix_343 : decode cL_matrix 343 = .ok (.iload 17, 2) := by decide +kernel
theorem dL_matrix_345 : decode cL_matrix 345 = .ok (.iload_n 2, 1) := by decide +kernel
theorem dL_matrix_346 : decode cL_matrix 346 = .ok (.idiv, 1) := by decide +kernel
theorem dL_matrix_347 : decode cL_matrix 347 = .ok (.istore 18, 2) := by decide +kernel
theorem dL_matrix_349 : decode cL_matrix 349 = .ok (.iload 17, 2) := by decide +kernel
theorem dL_matrix_351 : decode cL_matrix 351 = .ok (.iload_n 2, 1) := by decide +kernel
theorem dL_matrix_352 : decode cL_matrix 352 = .ok (.irem, 1) := by decide +kernel
theorem dL_matrix_353 : decode cL_matrix 353 = .ok (.istore 19, 2) := by decide +kernel
theorem dL_matrix_355 : decode cL_matrix 355 = .ok (.iload 18, 2) := by decide +kernel
theorem dL_matrix_357 : decode cL_matrix 357 = .ok (.iload 7, 2) := by decide +kernel
theorem dL_matrix_359 : decode cL_matrix 359 = .ok (.if_icmp .eq 63, 3) := by decide +kernel
theorem dL_matrix_362 : decode cL_matrix 362 = .ok (.iload 19, 2) := by decide +kernel
theorem dL_matrix_364 : decode cL_matrix 364 = .ok (.iload 9, 2) := by decide +kernel
theorem dL_matrix_366 : decode cL_matrix 366 = .ok (.if_icmp .eq 56, 3) := by decide +kernel
theorem dL_matrix_369 : decode cL_matrix 369 = .ok (.iload 12, 2) := by decide +kernel
theorem dL_matrix_371 : decode cL_matrix 371 = .ok (.iconst 1, 1) := by decide +kernel
theorem dL_matrix_372 : decode cL_matrix 372 = .ok (.if_icmp .ne 50, 3) := by decide +kernel
theorem dL_matrix_375 : decode cL_matrix 375 = .ok (.aload_n 0, 1) := by decide +kernel
theorem dL_matrix_376 : decode cL_matrix 376 = .ok (.iload 17, 2) := by decide +kernel
theorem dL_matrix_378 : decode cL_matrix 378 = .ok (.iconst 4, 1) := by decide +kernel
theorem dL_matrix_379 : decode cL_matrix 379 = .ok (.invokevirtual 15, 3) := by decide +kernel
theorem dL_matrix_382 : decode cL_matrix 382 = .ok (.iconst 1, 1) := by decide +kernel
theorem dL_matrix_383 : decode cL_matrix 383 = .ok (.if_icmp .ne 39, 3) := by decide +kernel
theorem dL_matrix_386 : decode cL_matrix 386 = .ok (.aload_n 0, 1) := by decide +kernel
theorem dL_matrix_387 : decode cL_matrix 387 = .ok (.iload 18, 2) := by decide +kernel
theorem dL_matrix_389 : decode cL_matrix 389 = .ok (.iload_n 2, 1) := by decide +kernel
theorem dL_matrix_390 : decode cL_matrix 390 = .ok (.imul, 1) := by decide +kernel
theorem dL_matrix_391 : decode cL_matrix 391 = .ok (.iload 9, 2) := by decide +kernel
theorem dL_matrix_393 : decode cL_matrix 393 = .ok (.iadd, 1) := by decide +kernel
theorem dL_matrix_394 : decode cL_matrix 394 = .ok (.iconst 4, 1) := by decide +kernel
theorem dL_matrix_395 : decode cL_matrix 395 = .ok (.invokevirtual 15, 3) := by decide +kernel
theorem dL_matrix_398 : decode cL_matrix 398 = .ok (.iconst 1, 1) := by decide +kernel
theorem dL_matrix_399 : decode cL_matrix 399 = .ok (.if_icmp .ne 23, 3) := by decide +kernel
theorem dL_matrix_402 : decode cL_matrix 402 = .ok (.aload_n 0, 1) := by decide +kernel
theorem dL_matrix_403 : decode cL_matrix 403 = .ok (.iload 7, 2) := by decide +kernel
theorem dL_matrix_405 : decode cL_matrix 405 = .ok (.iload_n 2, 1) := by decide +kernel
theorem dL_matrix_406 : decode cL_matrix 406 = .ok (.imul, 1) := by decide +kernel
theorem dL_matrix_407 : decode cL_matrix 407 = .ok (.iload 19, 2) := by decide +kernel
theorem dL_matrix_409 : decode cL_matrix 409 = .ok (.iadd, 1) := by decide +kernel
theorem dL_matrix_410 : decode cL_matrix 410 = .ok (.iconst 4, 1) := by decide +kernel
theorem dL_matrix_411 : decode cL_matrix 411 = .ok (.invokevirtual 15, 3) := by decide +kernel
theorem dL_matrix_414 : decode cL_matrix 414 = .ok (.iconst 1, 1) := by decide +kernel
theorem dL_matrix_415 : decode cL_matrix 415 = .ok (.if_icmp .ne 7, 3) := by decide +kernel
theorem dL_matrix_418 : decode cL_matrix 418 = .ok (.iconst 1, 1) := by decide +kernel
theorem dL_matrix_419 : decode cL_matrix 419 = .ok (.goto 4, 3) := by decide +kernel
theorem dL_matrix_422 : decode cL_matrix 422 = .ok (.iconst 0, 1) := by decide +kernel
theorem dL_matrix_423 : decode cL_matrix 423 = .ok (.istore 20, 2) := by decide +kernel
theorem dL_matrix_425 : decode cL_matrix 425 = .ok (.iload 20, 2) := by decide +kernel
theorem dL_matrix_427 : decode cL_matrix 427 = .ok (.ifCond .eq 7, 3) := by decide +kernel
theorem dL_matrix_430 : decode cL_matrix 430 = .ok (.iconst 1, 1) := by decide +kernel
theorem dL_matrix_431 : decode cL_matrix 431 = .ok (.goto 5, 3) := by decide +kernel
theorem dL_matrix_434 : decode cL_matrix 434 = .ok (.iload 16, 2) := by decide +kernel
theorem dL_matrix_436 : decode cL_matrix 436 = .ok (.istore 16, 2) := by decide +kernel
theorem dL_matrix_438 : decode cL_matrix 438 = .ok (.iinc 17 1, 3) := by decide +kernel
theorem dL_matrix_441 : decode cL_matrix 441 = .ok (.goto (-106), 3) := by decide +kernel
theorem dL_matrix_444 : decode cL_matrix 444 = .ok (.iload 4, 2) := by decide +kernel
theorem dL_matrix_446 : decode cL_matrix 446 = .ok (.iload 15, 2) := by decide +kernel
theorem dL_matrix_448 : decode cL_matrix 448 = .ok (.iadd, 1) := by decide +kernel
theorem dL_matrix_449 : decode cL_matrix 449 = .ok (.istore 4, 2) := by decide +kernel
theorem dL_matrix_451 : decode cL_matrix 451 = .ok (.iload 5, 2) := by decide +kernel
theorem dL_matrix_453 : decode cL_matrix 453 = .ok (.iload 16, 2) := by decide +kernel
theorem dL_matrix_455 : decode cL_matrix 455 = .ok (.iadd, 1) := by decide +kernel
theorem dL_matrix_456 : decode cL_matrix 456 = .ok (.istore 5, 2) := by decide +kernel
theorem dL_matrix_458 : decode cL_matrix 458 = .ok (.iload 6, 2) := by decide +kernel
theorem dL_matrix_460 : decode cL_matrix 460 = .ok (.iload 11, 2) := by decide +kernel
theorem dL_matrix_462 : decode cL_matrix 462 = .ok (.ifCond .le 7, 3) := by decide +kernel
theorem dL_matrix_465 : decode cL_matrix 465 = .ok (.iconst 1, 1) := by decide +kernel
theorem dL_matrix_466 : decode cL_matrix 466 = .ok (.goto 4, 3) := by decide +kernel
theorem dL_matrix_469 : decode cL_matrix 469 = .ok (.iconst 0, 1) := by decide +kernel
theorem dL_matrix_470 : decode cL_matrix 470 = .ok (.iadd, 1) := by decide +kernel
theorem dL_matrix_471 : decode cL_matrix 471 = .ok (.istore 6, 2) := by decide +kernel
theorem dL_matrix_473 : decode cL_matrix 473 = .ok (.aload_n 0, 1) := by decide +kernel
theorem dL_matrix_474 : decode cL_matrix 474 = .ok (.iload 10, 2) := by decide +kernel
theorem dL_matrix_476 : decode cL_matrix 476 = .ok (.bipush 6, 2) := by decide +kernel
theorem dL_matrix_478 : decode cL_matrix 478 = .ok (.invokevirtual 15, 3) := by decide +kernel
theorem dL_matrix_481 : decode cL_matrix 481 = .ok (.iload 15, 2) := by decide +kernel
theorem dL_matrix_483 : decode cL_matrix 483 = .ok (.if_icmp .ne 29, 3) := by decide +kernel
theorem dL_matrix_486 : decode cL_matrix 486 = .ok (.aload_n 0, 1) := by decide +kernel
theorem dL_matrix_487 : decode cL_matrix 487 = .ok (.iload 10, 2) := by decide +kernel
theorem dL_matrix_489 : decode cL_matrix 489 = .ok (.bipush 7, 2) := by decide +kernel
theorem dL_matrix_491 : decode cL_matrix 491 = .ok (.invokevirtual 15, 3) := by decide +kernel
theorem dL_matrix_494 : decode cL_matrix 494 = .ok (.iload 16, 2) := by decide +kernel
theorem dL_matrix_496 : decode cL_matrix 496 = .ok (.if_icmp .ne 16, 3) := by decide +kernel
theorem dL_matrix_499 : decode cL_matrix 499 = .ok (.aload_n 0, 1) := by decide +kernel
theorem dL_matrix_500 : decode cL_matrix 500 = .ok (.iload 10, 2) := by decide +kernel
theorem dL_matrix_502 : decode cL_matrix 502 = .ok (.bipush 8, 2) := by decide +kernel
theorem dL_matrix_504 : decode cL_matrix 504 = .ok (.invokevirtual 15, 3) := by decide +kernel
theorem dL_matrix_507 : decode cL_matrix 507 = .ok (.bipush (-2), 2) := by decide +kernel
theorem dL_matrix_509 : decode cL_matrix 509 = .ok (.if_icmp .eq 5, 3) := by decide +kernel
theorem dL_matrix_512 : decode cL_matrix 512 = .ok (.iconst 0, 1) := by decide +kernel
theorem dL_matrix_513 : decode cL_matrix 513 = .ok (.ireturn, 1) := by decide +kernel
theorem dL_matrix_514 : decode cL_matrix 514 = .ok (.iinc 9 1, 3) := by decide +kernel
theorem dL_matrix_517 : decode cL_matrix 517 = .ok (.goto (-367), 3) := by decide +kernel
theorem dL_matrix_520 : decode cL_matrix 520 = .ok (.iinc 7 1, 3) := by decide +kernel
theorem dL_matrix_523 : decode cL_matrix 523 = .ok (.goto (-511), 3) := by decide +kernel
theorem dL_matrix_526 : decode cL_matrix 526 = .ok (.aload_n 0, 1) := by decide +kernel
theorem dL_matrix_527 : decode cL_matrix 527 = .ok (.iconst 1, 1) := by decide +kernel
theorem dL_matrix_528 : decode cL_matrix 528 = .ok (.invokevirtual 19, 3) := by decide +kernel
theorem dL_matrix_531 : decode cL_matrix 531 = .ok (.iload_n 1, 1) := by decide +kernel
theorem dL_matrix_532 : decode cL_matrix 532 = .ok (.iload_n 2, 1) := by decide +kernel
theorem dL_matrix_533 : decode cL_matrix 533 = .ok (.imul, 1) := by decide +kernel
theorem dL_matrix_534 : decode cL_matrix 534 = .ok (.if_icmp .ne 46, 3) := by decide +kernel
theorem dL_matrix_537 : decode cL_matrix 537 = .ok (.aload_n 0, 1) := by decide +kernel
theorem dL_matrix_538 : decode cL_matrix 538 = .ok (.iconst 2, 1) := by decide +kernel
theorem dL_matrix_539 : decode cL_matrix 539 = .ok (.invokevirtual 19, 3) := by decide +kernel
theorem dL_matrix_542 : decode cL_matrix 542 = .ok (.iload 6, 2) := by decide +kernel
theorem dL_matrix_544 : decode cL_matrix 544 = .ok (.if_icmp .ne 36, 3) := by decide +kernel
theorem dL_matrix_547 : decode cL_matrix 547 = .ok (.aload_n 0, 1) := by decide +kernel
theorem dL_matrix_548 : decode cL_matrix 548 = .ok (.iconst 3, 1) := by decide +kernel
theorem dL_matrix_549 : decode cL_matrix 549 = .ok (.invokevirtual 19, 3) := by decide +kernel
theorem dL_matrix_552 : decode cL_matrix 552 = .ok (.iload 4, 2) := by decide +kernel
theorem dL_matrix_554 : decode cL_matrix 554 = .ok (.if_icmp .ne 26, 3) := by decide +kernel
theorem dL_matrix_557 : decode cL_matrix 557 = .ok (.aload_n 0, 1) := by decide +kernel
theorem dL_matrix_558 : decode cL_matrix 558 = .ok (.iconst 4, 1) := by decide +kernel
theorem dL_matrix_559 : decode cL_matrix 559 = .ok (.invokevirtual 19, 3) := by decide +kernel
theorem dL_matrix_562 : decode cL_matrix 562 = .ok (.iload 5, 2) := by decide +kernel
theorem dL_matrix_564 : decode cL_matrix 564 = .ok (.if_icmp .ne 16, 3) := by decide +kernel
theorem dL_matrix_567 : decode cL_matrix 567 = .ok (.iload_n 3, 1) := by decide +kernel
theorem dL_matrix_568 : decode cL_matrix 568 = .ok (.ifCond .eq 8, 3) := by decide +kernel
theorem dL_matrix_571 : decode cL_matrix 571 = .ok (.iload 4, 2) := by decide +kernel
theorem dL_matrix_573 : decode cL_matrix 573 = .ok (.ifCond .ne 7, 3) := by decide +kernel
theorem dL_matrix_576 : decode cL_matrix 576 = .ok (.iconst 1, 1) := by decide +kernel
theorem dL_matrix_577 : decode cL_matrix 577 = .ok (.goto 4, 3) := by decide +kernel
theorem dL_matrix_580 : decode cL_matrix 580 = .ok (.iconst 0, 1) := by decide +kernel
theorem dL_matrix_581 : decode cL_matrix 581 = .ok (.ireturn, 1) := by decide +kernel
theorem dL_voices_0 : decode cL_voices 0 = .ok (.aload_n 0, 1) := by decide +kernel
theorem dL_voices_1 : decode cL_voices 1 = .ok (.iconst 5, 1) := by decide +kernel
theorem dL_voices_2 : decode cL_voices 2 = .ok (.invokevirtual 19, 3) := by decide +kernel
theorem dL_voices_5 : decode cL_voices 5 = .ok (.istore 5, 2) := by decide +kernel
theorem dL_voices_7 : decode cL_voices 7 = .ok (.iconst 0, 1) := by decide +kernel
theorem dL_voices_8 : decode cL_voices 8 = .ok (.istore 6, 2) := by decide +kernel
theorem dL_voices_10 : decode cL_voices 10 = .ok (.iconst 0, 1) := by decide +kernel
theorem dL_voices_11 : decode cL_voices 11 = .ok (.istore 7, 2) := by decide +kernel
theorem dL_voices_13 : decode cL_voices 13 = .ok (.iconst 0, 1) := by decide +kernel
theorem dL_voices_14 : decode cL_voices 14 = .ok (.istore 8, 2) := by decide +kernel
theorem dL_voices_16 : decode cL_voices 16 = .ok (.bipush (-3), 2) := by decide +kernel
theorem dL_voices_18 : decode cL_voices 18 = .ok (.istore 9, 2) := by decide +kernel
theorem dL_voices_20 : decode cL_voices 20 = .ok (.bipush (-3), 2) := by decide +kernel
theorem dL_voices_22 : decode cL_voices 22 = .ok (.istore 10, 2) := by decide +kernel
theorem dL_voices_24 : decode cL_voices 24 = .ok (.lconst 0, 1) := by decide +kernel
theorem dL_voices_25 : decode cL_voices 25 = .ok (.lstore 11, 2) := by decide +kernel
theorem dL_voices_27 : decode cL_voices 27 = .ok (.iconst 0, 1) := by decide +kernel
theorem dL_voices_28 : decode cL_voices 28 = .ok (.istore 13, 2) := by decide +kernel
theorem dL_voices_30 : decode cL_voices 30 = .ok (.iload 13, 2) := by decide +kernel
theorem dL_voices_32 : decode cL_voices 32 = .ok (.iload 5, 2) := by decide +kernel
theorem dL_voices_34 : decode cL_voices 34 = .ok (.if_icmp .ge 329, 3) := by decide +kernel
theorem dL_voices_37 : decode cL_voices 37 = .ok (.aload_n 0, 1) := by decide +kernel
theorem dL_voices_38 : decode cL_voices 38 = .ok (.iload 13, 2) := by decide +kernel
theorem dL_voices_40 : decode cL_voices 40 = .ok (.iconst 0, 1) := by decide +kernel
theorem dL_voices_41 : decode cL_voices 41 = .ok (.invokevirtual 22, 3) := by decide +kernel
theorem dL_voices_44 : decode cL_voices 44 = .ok (.istore 14, 2) := by decide +kernel
theorem dL_voices_46 : decode cL_voices 46 = .ok (.aload_n 0, 1) := by decide +kernel
theorem dL_voices_47 : decode cL_voices 47 = .ok (.iload 13, 2) := by decide +kernel
theorem dL_voices_49 : decode cL_voices 49 = .ok (.iconst 4, 1) := by decide +kernel
theorem dL_voices_50 : decode cL_voices 50 = .ok (.invokevirtual 22, 3) := by decide +kernel
theorem dL_voices_53 : decode cL_voices 53 = .ok (.istore 15, 2) := by decide +kernel
theorem dL_voices_55 : decode cL_voices 55 = .ok (.iload 14, 2) := by decide +kernel
theorem dL_voices_57 : decode cL_voices 57 = .ok (.ifCond .ne 46, 3) := by decide +kernel
theorem dL_voices_60 : decode cL_voices 60 = .ok (.iload 15, 2) := by decide +kernel
theorem dL_voices_62 : decode cL_voices 62 = .ok (.ifCond .ne 39, 3) := by decide +kernel
theorem dL_voices_65 : decode cL_voices 65 = .ok (.aload_n 0, 1) := by decide +kernel
theorem dL_voices_66 : decode cL_voices 66 = .ok (.iload 13, 2) := by decide +kernel
theorem dL_voices_68 : decode cL_voices 68 = .ok (.iconst 1, 1) := by decide +kernel
theorem dL_voices_69 : decode cL_voices 69 = .ok (.invokevirtual 22, 3) := by decide +kernel
theorem dL_voices_72 : decode cL_voices 72 = .ok (.bipush (-3), 2) := by decide +kernel
theorem dL_voices_74 : decode cL_voices 74 = .ok (.if_icmp .ne 27, 3) := by decide +kernel
theorem dL_voices_77 : decode cL_voices 77 = .ok (.aload_n 0, 1) := by decide +kernel
theorem dL_voices_78 : decode cL_voices 78 = .ok (.iload 13, 2) := by decide +kernel
theorem dL_voices_80 : decode cL_voices 80 = .ok (.iconst 2, 1) := by decide +kernel
theorem dL_voices_81 : decode cL_voices 81 = .ok (.invokevirtual 22, 3) := by decide +kernel
theorem dL_voices_84 : decode cL_voices 84 = .ok (.bipush (-3), 2) := by decide +kernel
theorem dL_voices_86 : decode cL_voices 86 = .ok (.if_icmp .ne 15, 3) := by decide +kernel
theorem dL_voices_89 : decode cL_voices 89 = .ok (.aload_n 0, 1) := by decide +kernel
theorem dL_voices_90 : decode cL_voices 90 = .ok (.iload 13, 2) := by decide +kernel
theorem dL_voices_92 : decode cL_voices 92 = .ok (.iconst 3, 1) := by decide +kernel
theorem dL_voices_93 : decode cL_voices 93 = .ok (.invokevirtual 22, 3) := by decide +kernel
theorem dL_voices_96 : decode cL_voices 96 = .ok (.bipush (-3), 2) := by decide +kernel
theorem dL_voices_98 : decode cL_voices 98 = .ok (.if_icmp .eq 259, 3) := by decide +kernel
theorem dL_voices_101 : decode cL_voices 101 = .ok (.iconst 0, 1) := by decide +kernel
theorem dL_voices_102 : decode cL_voices 102 = .ok (.ireturn, 1) := by decide +kernel
theorem dL_voices_103 : decode cL_voices 103 = .ok (.aload_n 0, 1) := by decide +kernel
theorem dL_voices_104 : decode cL_voices 104 = .ok (.iload 13, 2) := by decide +kernel
theorem dL_voices_106 : decode cL_voices 106 = .ok (.iconst 1, 1) := by decide +kernel
theorem dL_voices_107 : decode cL_voices 107 = .ok (.invokevirtual 22, 3) := by decide +kernel
theorem dL_voices_110 : decode cL_voices 110 = .ok (.istore 16, 2) := by decide +kernel
theorem dL_voices_112 : decode cL_voices 112 = .ok (.aload_n 0, 1) := by decide +kernel
theorem dL_voices_113 : decode cL_voices 113 = .ok (.iload 13, 2) := by decide +kernel
theorem dL_voices_115 : decode cL_voices 115 = .ok (.iconst 2, 1) := by decide +kernel
theorem dL_voices_116 : decode cL_voices 116 = .ok (.invokevirtual 22, 3) := by decide +kernel
theorem dL_voices_119 : decode cL_voices 119 = .ok (.istore 17, 2) := by decide +kernel
theorem dL_voices_121 : decode cL_voices 121 = .ok (.iinc 6 1, 3) := by decide +kernel
theorem dL_voices_124 : decode cL_voices 124 = .ok (.iload 7, 2) := by decide +kernel
theorem dL_voices_126 : decode cL_voices 126 = .ok (.iload 14, 2) := by decide +kernel
theorem dL_voices_128 : decode cL_voices 128 = .ok (.iconst 2, 1) := by decide +kernel
theorem dL_voices_129 : decode cL_voices 129 = .ok (.if_icmp .ne 7, 3) := by decide +kernel
theorem dL_voices_132 : decode cL_voices 132 = .ok (.iconst 1, 1) := by decide +kernel
theorem dL_voices_133 : decode cL_voices 133 = .ok (.goto 4, 3) := by decide +kernel
theorem dL_voices_136 : decode cL_voices 136 = .ok (.iconst 0, 1) := by decide +kernel
theorem dL_voices_137 : decode cL_voices 137 = .ok (.iadd, 1) := by decide +kernel
theorem dL_voices_138 : decode cL_voices 138 = .ok (.istore 7, 2) := by decide +kernel
theorem dL_voices_140 : decode cL_voices 140 = .ok (.iload 16, 2) := by decide +kernel
theorem dL_voices_142 : decode cL_voices 142 = .ok (.ifCond .lt 87, 3) := by decide +kernel
theorem dL_voices_145 : decode cL_voices 145 = .ok (.iload 16, 2) := by decide +kernel
theorem dL_voices_147 : decode cL_voices 147 = .ok (.iload 4, 2) := by decide +kernel
theorem dL_voices_149 : decode cL_voices 149 = .ok (.if_icmp .ge 80, 3) := by decide +kernel
theorem dL_voices_152 : decode cL_voices 152 = .ok (.lload 11, 2) := by decide +kernel
theorem dL_voices_154 : decode cL_voices 154 = .ok (.iload 16, 2) := by decide +kernel
theorem dL_voices_156 : decode cL_voices 156 = .ok (.lshr, 1) := by decide +kernel
theorem dL_voices_157 : decode cL_voices 157 = .ok (.lconst 1, 1) := by decide +kernel
theorem dL_voices_158 : decode cL_voices 158 = .ok (.land, 1) := by decide +kernel
theorem dL_voices_159 : decode cL_voices 159 = .ok (.lconst 1, 1) := by decide +kernel
theorem dL_voices_160 : decode cL_voices 160 = .ok (.lcmp, 1) := by decide +kernel
theorem dL_voices_161 : decode cL_voices 161 = .ok (.ifCond .eq 68, 3) := by decide +kernel
theorem dL_voices_164 : decode cL_voices 164 = .ok (.aload_n 0, 1) := by decide +kernel
theorem dL_voices_165 : decode cL_voices 165 = .ok (.iload 16, 2) := by decide +kernel
theorem dL_voices_167 : decode cL_voices 167 = .ok (.iconst 3, 1) := by decide +kernel
theorem dL_voices_168 : decode cL_voices 168 = .ok (.invokevirtual 15, 3) := by decide +kernel
theorem dL_voices_171 : decode cL_voices 171 = .ok (.iload 13, 2) := by decide +kernel
theorem dL_voices_173 : decode cL_voices 173 = .ok (.if_icmp .ne 56, 3) := by decide +kernel
theorem dL_voices_176 : decode cL_voices 176 = .ok (.iload 17, 2) := by decide +kernel
theorem dL_voices_178 : decode cL_voices 178 = .ok (.iconst 1, 1) := by decide +kernel
theorem dL_voices_179 : decode cL_voices 179 = .ok (.if_icmp .lt 50, 3) := by decide +kernel
theorem dL_voices_182 : decode cL_voices 182 = .ok (.iload 17, 2) := by decide +kernel
theorem dL_voices_184 : decode cL_voices 184 = .ok (.bipush 127, 2) := by decide +kernel
theorem dL_voices_186 : decode cL_voices 186 = .ok (.if_icmp .gt 43, 3) := by decide +kernel
theorem dL_voices_189 : decode cL_voices 189 = .ok (.aload_n 0, 1) := by decide +kernel
theorem dL_voices_190 : decode cL_voices 190 = .ok (.iload 13, 2) := by decide +kernel
theorem dL_voices_192 : decode cL_voices 192 = .ok (.iconst 3, 1) := by decide +kernel
theorem dL_voices_193 : decode cL_voices 193 = .ok (.invokevirtual 22, 3) := by decide +kernel
theorem dL_voices_196 : decode cL_voices 196 = .ok (.aload_n 0, 1) := by decide +kernel
theorem dL_voices_197 : decode cL_voices 197 = .ok (.iconst 0, 1) := by decide +kernel
theorem dL_voices_198 : decode cL_voices 198 = .ok (.invokevirtual 19, 3) := by decide +kernel
theorem dL_voices_201 : decode cL_voices 201 = .ok (.if_icmp .ge 28, 3) := by decide +kernel
theorem dL_voices_204 : decode cL_voices 204 = .ok (.iload 15, 2) := by decide +kernel
theorem dL_voices_206 : decode cL_voices 206 = .ok (.iconst 1, 1) := by decide +kernel
theorem dL_voices_207 : decode cL_voices 207 = .ok (.if_icmp .ne 7, 3) := by decide +kernel
theorem dL_voices_210 : decode cL_voices 210 = .ok (.iload_n 3, 1) := by decide +kernel
theorem dL_voices_211 : decode cL_voices 211 = .ok (.ifCond .eq 18, 3) := by decide +kernel
theorem dL_voices_214 : decode cL_voices 214 = .ok (.iload 14, 2) := by decide +kernel
theorem dL_voices_216 : decode cL_voices 216 = .ok (.iconst 2, 1) := by decide +kernel
theorem dL_voices_217 : decode cL_voices 217 = .ok (.if_icmp .ne 14, 3) := by decide +kernel
theorem dL_voices_220 : decode cL_voices 220 = .ok (.iload_n 2, 1) := by decide +kernel
theorem dL_voices_221 : decode cL_voices 221 = .ok (.ifCond .ne 10, 3) := by decide +kernel
theorem dL_voices_224 : decode cL_voices 224 = .ok (.iload 15, 2) := by decide +kernel
theorem dL_voices_226 : decode cL_voices 226 = .ok (.ifCond .ne 5, 3) := by decide +kernel
theorem dL_voices_229 : decode cL_voices 229 = .ok (.iconst 0, 1) := by decide +kernel
theorem dL_voices_230 : decode cL_voices 230 = .ok (.ireturn, 1) := by decide +kernel
theorem dL_voices_231 : decode cL_voices 231 = .ok (.lload 11, 2) := by decide +kernel
theorem dL_voices_233 : decode cL_voices 233 = .ok (.lconst 1, 1) := by decide +kernel
theorem dL_voices_234 : decode cL_voices 234 = .ok (.iload 16, 2) := by decide +kernel
theorem dL_voices_236 : decode cL_voices 236 = .ok (.lshl, 1) := by decide +kernel
theorem dL_voices_237 : decode cL_voices 237 = .ok (.lor, 1) := by decide +kernel
theorem dL_voices_238 : decode cL_voices 238 = .ok (.lstore 11, 2) := by decide +kernel
theorem dL_voices_240 : decode cL_voices 240 = .ok (.iload 9, 2) := by decide +kernel
theorem dL_voices_242 : decode cL_voices 242 = .ok (.ifCond .lt 54, 3) := by decide +kernel
theorem dL_voices_245 : decode cL_voices 245 = .ok (.iload_n 1, 1) := by decide +kernel
theorem dL_voices_246 : decode cL_voices 246 = .ok (.iconst 1, 1) := by decide +kernel
theorem dL_voices_247 : decode cL_voices 247 = .ok (.if_icmp .ne 15, 3) := by decide +kernel
theorem dL_voices_250 : decode cL_voices 250 = .ok (.iload 17, 2) := by decide +kernel
theorem dL_voices_252 : decode cL_voices 252 = .ok (.aload_n 0, 1) := by decide +kernel
theorem dL_voices_253 : decode cL_voices 253 = .ok (.iload 9, 2) := by decide +kernel
theorem dL_voices_255 : decode cL_voices 255 = .ok (.iconst 2, 1) := by decide +kernel
theorem dL_voices_256 : decode cL_voices 256 = .ok (.invokevirtual 22, 3) := by decide +kernel
theorem dL_voices_259 : decode cL_voices 259 = .ok (.if_icmp .lt 37, 3) := by decide +kernel
theorem dL_voices_262 : decode cL_voices 262 = .ok (.iload_n 1, 1) := by decide +kernel
theorem dL_voices_263 : decode cL_voices 263 = .ok (.iconst 1, 1) := by decide +kernel
theorem dL_voices_264 : decode cL_voices 264 = .ok (.if_icmp .ne 15, 3) := by decide +kernel
theorem dL_voices_267 : decode cL_voices 267 = .ok (.iload 17, 2) := by decide +kernel
theorem dL_voices_269 : decode cL_voices 269 = .ok (.aload_n 0, 1) := by decide +kernel
theorem dL_voices_270 : decode cL_voices 270 = .ok (.iload 9, 2) := by decide +kernel
theorem dL_voices_272 : decode cL_voices 272 = .ok (.iconst 2, 1) := by decide +kernel
theorem dL_voices_273 : decode cL_voices 273 = .ok (.invokevirtual 22, 3) := by decide +kernel
theorem dL_voices_276 : decode cL_voices 276 = .ok (.if_icmp .ne 24, 3) := by decide +kernel
theorem dL_voices_279 : decode cL_voices 279 = .ok (.aload_n 0, 1) := by decide +kernel
theorem dL_voices_280 : decode cL_voices 280 = .ok (.iload 13, 2) := by decide +kernel
theorem dL_voices_282 : decode cL_voices 282 = .ok (.iconst 3, 1) := by decide +kernel
theorem dL_voices_283 : decode cL_voices 283 = .ok (.invokevirtual 22, 3) := by decide +kernel
theorem dL_voices_286 : decode cL_voices 286 = .ok (.aload_n 0, 1) := by decide +kernel
theorem dL_voices_287 : decode cL_voices 287 = .ok (.iload 9, 2) := by decide +kernel
theorem dL_voices_289 : decode cL_voices 289 = .ok (.iconst 3, 1) := by decide +kernel
theorem dL_voices_290 : decode cL_voices 290 = .ok (.invokevirtual 22, 3) := by decide +kernel
theorem dL_voices_293 : decode cL_voices 293 = .ok (.if_icmp .ge 7, 3) := by decide +kernel
theorem dL_voices_296 : decode cL_voices 296 = .ok (.iconst 1, 1) := by decide +kernel
theorem dL_voices_297 : decode cL_voices 297 = .ok (.goto 4, 3) := by decide +kernel
theorem dL_voices_300 : decode cL_voices 300 = .ok (.iconst 0, 1) := by decide +kernel
theorem dL_voices_301 : decode cL_voices 301 = .ok (.istore 18, 2) := by decide +kernel
theorem dL_voices_303 : decode cL_voices 303 = .ok (.iload 18, 2) := by decide +kernel
theorem dL_voices_305 : decode cL_voices 305 = .ok (.ifCond .eq 8, 3) := by decide +kernel
theorem dL_voices_308 : decode cL_voices 308 = .ok (.iload 13, 2) := by decide +kernel
theorem dL_voices_310 : decode cL_voices 310 = .ok (.goto 5, 3) := by decide +kernel
theorem dL_voices_313 : decode cL_voices 313 = .ok (.iload 9, 2) := by decide +kernel
theorem dL_voices_315 : decode cL_voices 315 = .ok (.istore 9, 2) := by decide +kernel
theorem dL_voices_317 : decode cL_voices 317 = .ok (.iload 14, 2) := by decide +kernel
theorem dL_voices_319 : decode cL_voices 319 = .ok (.iconst 2, 1) := by decide +kernel
theorem dL_voices_320 : decode cL_voices 320 = .ok (.if_icmp .ne 30, 3) := by decide +kernel
theorem dL_voices_323 : decode cL_voices 323 = .ok (.iload 10, 2) := by decide +kernel
theorem dL_voices_325 : decode cL_voices 325 = .ok (.ifCond .lt 20, 3) := by decide +kernel
theorem dL_voices_328 : decode cL_voices 328 = .ok (.aload_n 0, 1) := by decide +kernel
theorem dL_voices_329 : decode cL_voices 329 = .ok (.iload 13, 2) := by decide +kernel
theorem dL_voices_331 : decode cL_voices 331 = .ok (.iconst 3, 1) := by decide +kernel
theorem dL_voices_332 : decode cL_voices 332 = .ok (.invokevirtual 22, 3) := by decide +kernel
theorem dL_voices_335 : decode cL_voices 335 = .ok (.aload_n 0, 1) := by decide +kernel
theorem dL_voices_336 : decode cL_voices 336 = .ok (.iload 10, 2) := by decide +kernel
theorem dL_voices_338 : decode cL_voices 338 = .ok (.iconst 3, 1) := by decide +kernel
theorem dL_voices_339 : decode cL_voices 339 = .ok (.invokevirtual 22, 3) := by decide +kernel
theorem dL_voices_342 : decode cL_voices 342 = .ok (.if_icmp .ge 8, 3) := by decide +kernel
theorem dL_voices_345 : decode cL_voices 345 = .ok (.iload 13, 2) := by decide +kernel
theorem dL_voices_347 : decode cL_voices 347 = .ok (.goto 5, 3) := by decide +kernel
theorem dL_voices_350 : decode cL_voices 350 = .ok (.iload 10, 2) := by decide +kernel
theorem dL_voices_352 : decode cL_voices 352 = .ok (.istore 10, 2) := by decide +kernel
theorem dL_voices_354 : decode cL_voices 354 = .ok (.iinc 8 1, 3) := by decide +kernel
theorem dL_voices_357 : decode cL_voices 357 = .ok (.iinc 13 1, 3) := by decide +kernel
theorem dL_voices_360 : decode cL_voices 360 = .ok (.goto (-330), 3) := by decide +kernel
theorem dL_voices_363 : decode cL_voices 363 = .ok (.iload 8, 2) := by decide +kernel
theorem dL_voices_365 : decode cL_voices 365 = .ok (.iload 5, 2) := by decide +kernel
theorem dL_voices_367 : decode cL_voices 367 = .ok (.if_icmp .ge 8, 3) := by decide +kernel
theorem dL_voices_370 : decode cL_voices 370 = .ok (.bipush (-3), 2) := by decide +kernel
theorem dL_voices_372 : decode cL_voices 372 = .ok (.goto 20, 3) := by decide +kernel
theorem dL_voices_375 : decode cL_voices 375 = .ok (.iload_n 1, 1) := by decide +kernel
theorem dL_voices_376 : decode cL_voices 376 = .ok (.iconst 2, 1) := by decide +kernel
theorem dL_voices_377 : decode cL_voices 377 = .ok (.if_icmp .ne 13, 3) := by decide +kernel
theorem dL_voices_380 : decode cL_voices 380 = .ok (.iload 10, 2) := by decide +kernel
theorem dL_voices_382 : decode cL_voices 382 = .ok (.ifCond .lt 8, 3) := by decide +kernel
theorem dL_voices_385 : decode cL_voices 385 = .ok (.iload 10, 2) := by decide +kernel
theorem dL_voices_387 : decode cL_voices 387 = .ok (.goto 5, 3) := by decide +kernel
theorem dL_voices_390 : decode cL_voices 390 = .ok (.iload 9, 2) := by decide +kernel
theorem dL_voices_392 : decode cL_voices 392 = .ok (.istore 13, 2) := by decide +kernel
theorem dL_voices_394 : decode cL_voices 394 = .ok (.aload_n 0, 1) := by decide +kernel
theorem dL_voices_395 : decode cL_voices 395 = .ok (.bipush 6, 2) := by decide +kernel
theorem dL_voices_397 : decode cL_voices 397 = .ok (.invokevirtual 19, 3) := by decide +kernel
theorem dL_voices_400 : decode cL_voices 400 = .ok (.iload 6, 2) := by decide +kernel
theorem dL_voices_402 : decode cL_voices 402 = .ok (.if_icmp .ne 103, 3) := by decide +kernel
theorem dL_voices_405 : decode cL_voices 405 = .ok (.aload_n 0, 1) := by decide +kernel
theorem dL_voices_406 : decode cL_voices 406 = .ok (.bipush 7, 2) := by decide +kernel
theorem dL_voices_408 : decode cL_voices 408 = .ok (.invokevirtual 19, 3) := by decide +kernel
theorem dL_voices_411 : decode cL_voices 411 = .ok (.iload 7, 2) := by decide +kernel
theorem dL_voices_413 : decode cL_voices 413 = .ok (.if_icmp .ne 92, 3) := by decide +kernel
theorem dL_voices_416 : decode cL_voices 416 = .ok (.aload_n 0, 1) := by decide +kernel
theorem dL_voices_417 : decode cL_voices 417 = .ok (.invokevirtual 25, 3) := by decide +kernel
theorem dL_voices_420 : decode cL_voices 420 = .ok (.iload 13, 2) := by decide +kernel
theorem dL_voices_422 : decode cL_voices 422 = .ok (.if_icmp .ne 83, 3) := by decide +kernel
theorem dL_voices_425 : decode cL_voices 425 = .ok (.aload_n 0, 1) := by decide +kernel
theorem dL_voices_426 : decode cL_voices 426 = .ok (.iload 5, 2) := by decide +kernel
theorem dL_voices_428 : decode cL_voices 428 = .ok (.iconst 0, 1) := by decide +kernel
theorem dL_voices_429 : decode cL_voices 429 = .ok (.invokevirtual 22, 3) := by decide +kernel
theorem dL_voices_432 : decode cL_voices 432 = .ok (.iconst (-1), 1) := by decide +kernel
theorem dL_voices_433 : decode cL_voices 433 = .ok (.if_icmp .ne 72, 3) := by decide +kernel
theorem dL_voices_436 : decode cL_voices 436 = .ok (.aload_n 0, 1) := by decide +kernel
theorem dL_voices_437 : decode cL_voices 437 = .ok (.iconst 0, 1) := by decide +kernel
theorem dL_voices_438 : decode cL_voices 438 = .ok (.iconst 5, 1) := by decide +kernel
theorem dL_voices_439 : decode cL_voices 439 = .ok (.invokevirtual 22, 3) := by decide +kernel
theorem dL_voices_442 : decode cL_voices 442 = .ok (.bipush (-2), 2) := by decide +kernel
theorem dL_voices_444 : decode cL_voices 444 = .ok (.if_icmp .ne 61, 3) := by decide +kernel
theorem dL_voices_447 : decode cL_voices 447 = .ok (.aload_n 0, 1) := by decide +kernel
theorem dL_voices_448 : decode cL_voices 448 = .ok (.iconst (-1), 1) := by decide +kernel
theorem dL_voices_449 : decode cL_voices 449 = .ok (.iconst 0, 1) := by decide +kernel
theorem dL_voices_450 : decode cL_voices 450 = .ok (.invokevirtual 29, 3) := by decide +kernel
theorem dL_voices_453 : decode cL_voices 453 = .ok (.bipush (-2), 2) := by decide +kernel
theorem dL_voices_455 : decode cL_voices 455 = .ok (.if_icmp .ne 50, 3) := by decide +kernel
theorem dL_voices_458 : decode cL_voices 458 = .ok (.aload_n 0, 1) := by decide +kernel
theorem dL_voices_459 : decode cL_voices 459 = .ok (.iconst 0, 1) := by decide +kernel
theorem dL_voices_460 : decode cL_voices 460 = .ok (.iconst 3, 1) := by decide +kernel
theorem dL_voices_461 : decode cL_voices 461 = .ok (.invokevirtual 29, 3) := by decide +kernel
theorem dL_voices_464 : decode cL_voices 464 = .ok (.bipush (-2), 2) := by decide +kernel
theorem dL_voices_466 : decode cL_voices 466 = .ok (.if_icmp .ne 39, 3) := by decide +kernel
theorem dL_voices_469 : decode cL_voices 469 = .ok (.aload_n 0, 1) := by decide +kernel
theorem dL_voices_470 : decode cL_voices 470 = .ok (.bipush 16, 2) := by decide +kernel
theorem dL_voices_472 : decode cL_voices 472 = .ok (.iconst 0, 1) := by decide +kernel
theorem dL_voices_473 : decode cL_voices 473 = .ok (.invokevirtual 29, 3) := by decide +kernel
theorem dL_voices_476 : decode cL_voices 476 = .ok (.bipush (-3), 2) := by decide +kernel
theorem dL_voices_478 : decode cL_voices 478 = .ok (.if_icmp .ne 27, 3) := by decide +kernel
theorem dL_voices_481 : decode cL_voices 481 = .ok (.aload_n 0, 1) := by decide +kernel
theorem dL_voices_482 : decode cL_voices 482 = .ok (.bipush 8, 2) := by decide +kernel
theorem dL_voices_484 : decode cL_voices 484 = .ok (.invokevirtual 19, 3) := by decide +kernel
theorem dL_voices_487 : decode cL_voices 487 = .ok (.ifCond .gt 14, 3) := by decide +kernel
theorem dL_voices_490 : decode cL_voices 490 = .ok (.aload_n 0, 1) := by decide +kernel
theorem dL_voices_491 : decode cL_voices 491 = .ok (.iconst 0, 1) := by decide +kernel
theorem dL_voices_492 : decode cL_voices 492 = .ok (.iconst 0, 1) := by decide +kernel
theorem dL_voices_493 : decode cL_voices 493 = .ok (.invokevirtual 29, 3) := by decide +kernel
theorem dL_voices_496 : decode cL_voices 496 = .ok (.bipush (-3), 2) := by decide +kernel
theorem dL_voices_498 : decode cL_voices 498 = .ok (.if_icmp .ne 7, 3) := by decide +kernel
theorem dL_voices_501 : decode cL_voices 501 = .ok (.iconst 1, 1) := by decide +kernel
theorem dL_voices_502 : decode cL_voices 502 = .ok (.goto 4, 3) := by decide +kernel
theorem dL_voices_505 : decode cL_voices 505 = .ok (.iconst 0, 1) := by decide +kernel
theorem dL_voices_506 : decode cL_voices 506 = .ok (.ireturn, 1) := by decide +kernel
theorem dL_tick_0 : decode cL_tick 0 = .ok (.aload_n 0, 1) := by decide +kernel
theorem dL_tick_1 : decode cL_tick 1 = .ok (.iconst 0, 1) := by decide +kernel
theorem dL_tick_2 : decode cL_tick 2 = .ok (.invokevirtual 19, 3) := by decide +kernel
theorem dL_tick_5 : decode cL_tick 5 = .ok (.istore_n 3, 1) := by decide +kernel
theorem dL_tick_6 : decode cL_tick 6 = .ok (.iload_n 3, 1) := by decide +kernel
theorem dL_tick_7 : decode cL_tick 7 = .ok (.iload_n 1, 1) := by decide +kernel
theorem dL_tick_8 : decode cL_tick 8 = .ok (.irem, 1) := by decide +kernel
theorem dL_tick_9 : decode cL_tick 9 = .ok (.istore 4, 2) := by decide +kernel
theorem dL_tick_11 : decode cL_tick 11 = .ok (.aload_n 0, 1) := by decide +kernel
theorem dL_tick_12 : decode cL_tick 12 = .ok (.bipush 9, 2) := by decide +kernel
theorem dL_tick_14 : decode cL_tick 14 = .ok (.invokevirtual 19, 3) := by decide +kernel
theorem dL_tick_17 : decode cL_tick 17 = .ok (.aload_n 0, 1) := by decide +kernel
theorem dL_tick_18 : decode cL_tick 18 = .ok (.bipush 10, 2) := by decide +kernel
theorem dL_tick_20 : decode cL_tick 20 = .ok (.invokevirtual 19, 3) := by decide +kernel
theorem dL_tick_23 : decode cL_tick 23 = .ok (.iadd, 1) := by decide +kernel
theorem dL_tick_24 : decode cL_tick 24 = .ok (.istore 5, 2) := by decide +kernel
theorem dL_tick_26 : decode cL_tick 26 = .ok (.bipush 64, 2) := by decide +kernel
theorem dL_tick_28 : decode cL_tick 28 = .ok (.newarray .int, 2) := by decide +kernel
theorem dL_tick_30 : decode cL_tick 30 = .ok (.astore 6, 2) := by decide +kernel
theorem dL_tick_32 : decode cL_tick 32 = .ok (.bipush 64, 2) := by decide +kernel
theorem dL_tick_34 : decode cL_tick 34 = .ok (.newarray .int, 2) := by decide +kernel
theorem dL_tick_36 : decode cL_tick 36 = .ok (.astore 7, 2) := by decide +kernel
theorem dL_tick_38 : decode cL_tick 38 = .ok (.iconst 0, 1) := by decide +kernel
theorem dL_tick_39 : decode cL_tick 39 = .ok (.istore 8, 2) := by decide +kernel
theorem dL_tick_41 : decode cL_tick 41 = .ok (.iload 8, 2) := by decide +kernel
theorem dL_tick_43 : decode cL_tick 43 = .ok (.iload_n 1, 1) := by decide +kernel
theorem dL_tick_44 : decode cL_tick 44 = .ok (.iload_n 2, 1) := by decide +kernel
theorem dL_tick_45 : decode cL_tick 45 = .ok (.imul, 1) := by decide +kernel
theorem dL_tick_46 : decode cL_tick 46 = .ok (.if_icmp .ge 33, 3) := by decide +kernel
theorem dL_tick_49 : decode cL_tick 49 = .ok (.aload 6, 2) := by decide +kernel
theorem dL_tick_51 : decode cL_tick 51 = .ok (.iload 8, 2) := by decide +kernel
theorem dL_tick_53 : decode cL_tick 53 = .ok (.aload_n 0, 1) := by decide +kernel
theorem dL_tick_54 : decode cL_tick 54 = .ok (.iload 8, 2) := by decide +kernel
theorem dL_tick_56 : decode cL_tick 56 = .ok (.iconst 1, 1) := by decide +kernel
theorem dL_tick_57 : decode cL_tick 57 = .ok (.invokevirtual 15, 3) := by decide +kernel
theorem dL_tick_60 : decode cL_tick 60 = .ok (.iastore, 1) := by decide +kernel
theorem dL_tick_61 : decode cL_tick 61 = .ok (.aload 7, 2) := by decide +kernel
theorem dL_tick_63 : decode cL_tick 63 = .ok (.iload 8, 2) := by decide +kernel
theorem dL_tick_65 : decode cL_tick 65 = .ok (.aload_n 0, 1) := by decide +kernel
theorem dL_tick_66 : decode cL_tick 66 = .ok (.iload 8, 2) := by decide +kernel
theorem dL_tick_68 : decode cL_tick 68 = .ok (.iconst 2, 1) := by decide +kernel
theorem dL_tick_69 : decode cL_tick 69 = .ok (.invokevirtual 15, 3) := by decide +kernel
theorem dL_tick_72 : decode cL_tick 72 = .ok (.iastore, 1) := by decide +kernel
theorem dL_tick_73 : decode cL_tick 73 = .ok (.iinc 8 1, 3) := by decide +kernel
theorem dL_tick_76 : decode cL_tick 76 = .ok (.goto (-35), 3) := by decide +kernel
theorem dL_tick_79 : decode cL_tick 79 = .ok (.aload_n 0, 1) := by decide +kernel
theorem dL_tick_80 : decode cL_tick 80 = .ok (.iconst 1, 1) := by decide +kernel
theorem dL_tick_81 : decode cL_tick 81 = .ok (.invokevirtual 32, 3) := by decide +kernel
theorem dL_tick_84 : decode cL_tick 84 = .ok (.iload_n 3, 1) := by decide +kernel
theorem dL_tick_85 : decode cL_tick 85 = .ok (.iconst 1, 1) := by decide +kernel
theorem dL_tick_86 : decode cL_tick 86 = .ok (.iadd, 1) := by decide +kernel
theorem dL_tick_87 : decode cL_tick 87 = .ok (.if_icmp .eq 5, 3) := by decide +kernel
theorem dL_tick_90 : decode cL_tick 90 = .ok (.iconst 0, 1) := by decide +kernel
theorem dL_tick_91 : decode cL_tick 91 = .ok (.ireturn, 1) := by decide +kernel
theorem dL_tick_92 : decode cL_tick 92 = .ok (.iconst 0, 1) := by decide +kernel
theorem dL_tick_93 : decode cL_tick 93 = .ok (.istore 8, 2) := by decide +kernel
theorem dL_tick_95 : decode cL_tick 95 = .ok (.iconst 0, 1) := by decide +kernel
theorem dL_tick_96 : decode cL_tick 96 = .ok (.istore 9, 2) := by decide +kernel
theorem dL_tick_98 : decode cL_tick 98 = .ok (.iload 9, 2) := by decide +kernel
theorem dL_tick_100 : decode cL_tick 100 = .ok (.iload_n 1, 1) := by decide +kernel
theorem dL_tick_101 : decode cL_tick 101 = .ok (.iload_n 2, 1) := by decide +kernel
theorem dL_tick_102 : decode cL_tick 102 = .ok (.imul, 1) := by decide +kernel
theorem dL_tick_103 : decode cL_tick 103 = .ok (.if_icmp .ge 283, 3) := by decide +kernel
theorem dL_tick_106 : decode cL_tick 106 = .ok (.aload 6, 2) := by decide +kernel
theorem dL_tick_108 : decode cL_tick 108 = .ok (.iload 9, 2) := by decide +kernel
theorem dL_tick_110 : decode cL_tick 110 = .ok (.iaload, 1) := by decide +kernel
theorem dL_tick_111 : decode cL_tick 111 = .ok (.istore 10, 2) := by decide +kernel
theorem dL_tick_113 : decode cL_tick 113 = .ok (.iload 10, 2) := by decide +kernel
theorem dL_tick_115 : decode cL_tick 115 = .ok (.istore 11, 2) := by decide +kernel
theorem dL_tick_117 : decode cL_tick 117 = .ok (.aload 7, 2) := by decide +kernel
theorem dL_tick_119 : decode cL_tick 119 = .ok (.iload 9, 2) := by decide +kernel
theorem dL_tick_121 : decode cL_tick 121 = .ok (.iaload, 1) := by decide +kernel
theorem dL_tick_122 : decode cL_tick 122 = .ok (.istore 12, 2) := by decide +kernel
theorem dL_tick_124 : decode cL_tick 124 = .ok (.iload 9, 2) := by decide +kernel
theorem dL_tick_126 : decode cL_tick 126 = .ok (.iload_n 2, 1) := by decide +kernel
theorem dL_tick_127 : decode cL_tick 127 = .ok (.idiv, 1) := by decide +kernel
theorem dL_tick_128 : decode cL_tick 128 = .ok (.iload 4, 2) := by decide +kernel
theorem dL_tick_130 : decode cL_tick 130 = .ok (.if_icmp .ne 136, 3) := by decide +kernel
theorem dL_tick_133 : decode cL_tick 133 = .ok (.aload_n 0, 1) := by decide +kernel
theorem dL_tick_134 : decode cL_tick 134 = .ok (.iload 9, 2) := by decide +kernel
theorem dL_tick_136 : decode cL_tick 136 = .ok (.iconst 4, 1) := by decide +kernel
theorem dL_tick_137 : decode cL_tick 137 = .ok (.invokevirtual 15, 3) := by decide +kernel
theorem dL_tick_140 : decode cL_tick 140 = .ok (.iconst 1, 1) := by decide +kernel
theorem dL_tick_141 : decode cL_tick 141 = .ok (.if_icmp .ne 7, 3) := by decide +kernel
theorem dL_tick_144 : decode cL_tick 144 = .ok (.iconst 1, 1) := by decide +kernel
theorem dL_tick_145 : decode cL_tick 145 = .ok (.goto 4, 3) := by decide +kernel
theorem dL_tick_148 : decode cL_tick 148 = .ok (.iconst 0, 1) := by decide +kernel
theorem dL_tick_149 : decode cL_tick 149 = .ok (.istore 13, 2) := by decide +kernel
theorem dL_tick_151 : decode cL_tick 151 = .ok (.aload_n 0, 1) := by decide +kernel
theorem dL_tick_152 : decode cL_tick 152 = .ok (.iload 9, 2) := by decide +kernel
theorem dL_tick_154 : decode cL_tick 154 = .ok (.iconst 5, 1) := by decide +kernel
theorem dL_tick_155 : decode cL_tick 155 = .ok (.invokevirtual 15, 3) := by decide +kernel
theorem dL_tick_158 : decode cL_tick 158 = .ok (.iconst 1, 1) := by decide +kernel
theorem dL_tick_159 : decode cL_tick 159 = .ok (.if_icmp .ne 7, 3) := by decide +kernel
theorem dL_tick_162 : decode cL_tick 162 = .ok (.iconst 1, 1) := by decide +kernel
theorem dL_tick_163 : decode cL_tick 163 = .ok (.goto 4, 3) := by decide +kernel
theorem dL_tick_166 : decode cL_tick 166 = .ok (.iconst 0, 1) := by decide +kernel
theorem dL_tick_167 : decode cL_tick 167 = .ok (.istore 14, 2) := by decide +kernel
theorem dL_tick_169 : decode cL_tick 169 = .ok (.iload 14, 2) := by decide +kernel
theorem dL_tick_171 : decode cL_tick 171 = .ok (.ifCond .eq 7, 3) := by decide +kernel
theorem dL_tick_174 : decode cL_tick 174 = .ok (.iconst 2, 1) := by decide +kernel
theorem dL_tick_175 : decode cL_tick 175 = .ok (.goto 33, 3) := by decide +kernel
theorem dL_tick_178 : decode cL_tick 178 = .ok (.iload 13, 2) := by decide +kernel
theorem dL_tick_180 : decode cL_tick 180 = .ok (.ifCond .ne 7, 3) := by decide +kernel
theorem dL_tick_183 : decode cL_tick 183 = .ok (.iconst 0, 1) := by decide +kernel
theorem dL_tick_184 : decode cL_tick 184 = .ok (.goto 24, 3) := by decide +kernel
theorem dL_tick_187 : decode cL_tick 187 = .ok (.iload 10, 2) := by decide +kernel
theorem dL_tick_189 : decode cL_tick 189 = .ok (.ifCond .ne 7, 3) := by decide +kernel
theorem dL_tick_192 : decode cL_tick 192 = .ok (.iconst 1, 1) := by decide +kernel
theorem dL_tick_193 : decode cL_tick 193 = .ok (.goto 15, 3) := by decide +kernel
theorem dL_tick_196 : decode cL_tick 196 = .ok (.iload 10, 2) := by decide +kernel
theorem dL_tick_198 : decode cL_tick 198 = .ok (.iconst 2, 1) := by decide +kernel
theorem dL_tick_199 : decode cL_tick 199 = .ok (.if_icmp .ne 7, 3) := by decide +kernel
theorem dL_tick_202 : decode cL_tick 202 = .ok (.iconst 3, 1) := by decide +kernel
theorem dL_tick_203 : decode cL_tick 203 = .ok (.goto 5, 3) := by decide +kernel
theorem dL_tick_206 : decode cL_tick 206 = .ok (.iload 10, 2) := by decide +kernel
theorem dL_tick_208 : decode cL_tick 208 = .ok (.istore 11, 2) := by decide +kernel
theorem dL_tick_210 : decode cL_tick 210 = .ok (.iload 11, 2) := by decide +kernel
theorem dL_tick_212 : decode cL_tick 212 = .ok (.ifCond .ne 7, 3) := by decide +kernel
theorem dL_tick_215 : decode cL_tick 215 = .ok (.iconst 0, 1) := by decide +kernel
theorem dL_tick_216 : decode cL_tick 216 = .ok (.goto 26, 3) := by decide +kernel
theorem dL_tick_219 : decode cL_tick 219 = .ok (.iload 10, 2) := by decide +kernel
theorem dL_tick_221 : decode cL_tick 221 = .ok (.ifCond .eq 15, 3) := by decide +kernel
theorem dL_tick_224 : decode cL_tick 224 = .ok (.iload 10, 2) := by decide +kernel
theorem dL_tick_226 : decode cL_tick 226 = .ok (.iconst 2, 1) := by decide +kernel
theorem dL_tick_227 : decode cL_tick 227 = .ok (.if_icmp .ne 13, 3) := by decide +kernel
theorem dL_tick_230 : decode cL_tick 230 = .ok (.iload 11, 2) := by decide +kernel
theorem dL_tick_232 : decode cL_tick 232 = .ok (.iconst 3, 1) := by decide +kernel
theorem dL_tick_233 : decode cL_tick 233 = .ok (.if_icmp .ne 7, 3) := by decide +kernel
theorem dL_tick_236 : decode cL_tick 236 = .ok (.iload_n 3, 1) := by decide +kernel
theorem dL_tick_237 : decode cL_tick 237 = .ok (.goto 5, 3) := by decide +kernel
theorem dL_tick_240 : decode cL_tick 240 = .ok (.iload 12, 2) := by decide +kernel
theorem dL_tick_242 : decode cL_tick 242 = .ok (.istore 12, 2) := by decide +kernel
theorem dL_tick_244 : decode cL_tick 244 = .ok (.iload 8, 2) := by decide +kernel
theorem dL_tick_246 : decode cL_tick 246 = .ok (.iload 11, 2) := by decide +kernel
theorem dL_tick_248 : decode cL_tick 248 = .ok (.iconst 2, 1) := by decide +kernel
theorem dL_tick_249 : decode cL_tick 249 = .ok (.if_icmp .ne 13, 3) := by decide +kernel
theorem dL_tick_252 : decode cL_tick 252 = .ok (.iload 10, 2) := by decide +kernel
theorem dL_tick_254 : decode cL_tick 254 = .ok (.iconst 2, 1) := by decide +kernel
theorem dL_tick_255 : decode cL_tick 255 = .ok (.if_icmp .eq 7, 3) := by decide +kernel
theorem dL_tick_258 : decode cL_tick 258 = .ok (.iconst 1, 1) := by decide +kernel
theorem dL_tick_259 : decode cL_tick 259 = .ok (.goto 4, 3) := by decide +kernel
theorem dL_tick_262 : decode cL_tick 262 = .ok (.iconst 0, 1) := by decide +kernel
theorem dL_tick_263 : decode cL_tick 263 = .ok (.iadd, 1) := by decide +kernel
theorem dL_tick_264 : decode cL_tick 264 = .ok (.istore 8, 2) := by decide +kernel
theorem dL_tick_266 : decode cL_tick 266 = .ok (.aload_n 0, 1) := by decide +kernel
theorem dL_tick_267 : decode cL_tick 267 = .ok (.iload 9, 2) := by decide +kernel
theorem dL_tick_269 : decode cL_tick 269 = .ok (.iconst 1, 1) := by decide +kernel
theorem dL_tick_270 : decode cL_tick 270 = .ok (.invokevirtual 15, 3) := by decide +kernel
theorem dL_tick_273 : decode cL_tick 273 = .ok (.iload 11, 2) := by decide +kernel
theorem dL_tick_275 : decode cL_tick 275 = .ok (.if_icmp .ne 15, 3) := by decide +kernel
theorem dL_tick_278 : decode cL_tick 278 = .ok (.aload_n 0, 1) := by decide +kernel
theorem dL_tick_279 : decode cL_tick 279 = .ok (.iload 9, 2) := by decide +kernel
theorem dL_tick_281 : decode cL_tick 281 = .ok (.iconst 2, 1) := by decide +kernel
theorem dL_tick_282 : decode cL_tick 282 = .ok (.invokevirtual 15, 3) := by decide +kernel
theorem dL_tick_285 : decode cL_tick 285 = .ok (.iload 12, 2) := by decide +kernel
theorem dL_tick_287 : decode cL_tick 287 = .ok (.if_icmp .eq 5, 3) := by decide +kernel
theorem dL_tick_290 : decode cL_tick 290 = .ok (.iconst 0, 1) := by decide +kernel
theorem dL_tick_291 : decode cL_tick 291 = .ok (.ireturn, 1) := by decide +kernel
theorem dL_tick_292 : decode cL_tick 292 = .ok (.aload_n 0, 1) := by decide +kernel
theorem dL_tick_293 : decode cL_tick 293 = .ok (.iload 9, 2) := by decide +kernel
theorem dL_tick_295 : decode cL_tick 295 = .ok (.iconst 3, 1) := by decide +kernel
theorem dL_tick_296 : decode cL_tick 296 = .ok (.invokevirtual 15, 3) := by decide +kernel
theorem dL_tick_299 : decode cL_tick 299 = .ok (.istore 13, 2) := by decide +kernel
theorem dL_tick_301 : decode cL_tick 301 = .ok (.iload 11, 2) := by decide +kernel
theorem dL_tick_303 : decode cL_tick 303 = .ok (.iconst 2, 1) := by decide +kernel
theorem dL_tick_304 : decode cL_tick 304 = .ok (.if_icmp .ne 76, 3) := by decide +kernel
theorem dL_tick_307 : decode cL_tick 307 = .ok (.iload 10, 2) := by decide +kernel
theorem dL_tick_309 : decode cL_tick 309 = .ok (.iconst 2, 1) := by decide +kernel
theorem dL_tick_310 : decode cL_tick 310 = .ok (.if_icmp .eq 70, 3) := by decide +kernel
theorem dL_tick_313 : decode cL_tick 313 = .ok (.iload 13, 2) := by decide +kernel
theorem dL_tick_315 : decode cL_tick 315 = .ok (.ifCond .lt 65, 3) := by decide +kernel
theorem dL_tick_318 : decode cL_tick 318 = .ok (.aload_n 0, 1) := by decide +kernel
theorem dL_tick_319 : decode cL_tick 319 = .ok (.iload 13, 2) := by decide +kernel
theorem dL_tick_321 : decode cL_tick 321 = .ok (.iconst 3, 1) := by decide +kernel
theorem dL_tick_322 : decode cL_tick 322 = .ok (.invokevirtual 22, 3) := by decide +kernel
theorem dL_tick_325 : decode cL_tick 325 = .ok (.iload_n 3, 1) := by decide +kernel
theorem dL_tick_326 : decode cL_tick 326 = .ok (.if_icmp .ne 54, 3) := by decide +kernel
theorem dL_tick_329 : decode cL_tick 329 = .ok (.iload_n 3, 1) := by decide +kernel
theorem dL_tick_330 : decode cL_tick 330 = .ok (.iload 12, 2) := by decide +kernel
theorem dL_tick_332 : decode cL_tick 332 = .ok (.isub, 1) := by decide +kernel
theorem dL_tick_333 : decode cL_tick 333 = .ok (.iload_n 1, 1) := by decide +kernel
theorem dL_tick_334 : decode cL_tick 334 = .ok (.idiv, 1) := by decide +kernel
theorem dL_tick_335 : decode cL_tick 335 = .ok (.istore 14, 2) := by decide +kernel
theorem dL_tick_337 : decode cL_tick 337 = .ok (.aload_n 0, 1) := by decide +kernel
theorem dL_tick_338 : decode cL_tick 338 = .ok (.iload 13, 2) := by decide +kernel
theorem dL_tick_340 : decode cL_tick 340 = .ok (.iconst 0, 1) := by decide +kernel
theorem dL_tick_341 : decode cL_tick 341 = .ok (.invokevirtual 22, 3) := by decide +kernel
theorem dL_tick_344 : decode cL_tick 344 = .ok (.iconst 1, 1) := by decide +kernel
theorem dL_tick_345 : decode cL_tick 345 = .ok (.if_icmp .ne 33, 3) := by decide +kernel
theorem dL_tick_348 : decode cL_tick 348 = .ok (.aload_n 0, 1) := by decide +kernel
theorem dL_tick_349 : decode cL_tick 349 = .ok (.iload 13, 2) := by decide +kernel
theorem dL_tick_351 : decode cL_tick 351 = .ok (.iconst 2, 1) := by decide +kernel
theorem dL_tick_352 : decode cL_tick 352 = .ok (.invokevirtual 22, 3) := by decide +kernel
theorem dL_tick_355 : decode cL_tick 355 = .ok (.aload_n 0, 1) := by decide +kernel
theorem dL_tick_356 : decode cL_tick 356 = .ok (.iload 14, 2) := by decide +kernel
theorem dL_tick_358 : decode cL_tick 358 = .ok (.sipush 1000, 3) := by decide +kernel
theorem dL_tick_361 : decode cL_tick 361 = .ok (.if_icmp .le 9, 3) := by decide +kernel
theorem dL_tick_364 : decode cL_tick 364 = .ok (.sipush 1000, 3) := by decide +kernel
theorem dL_tick_367 : decode cL_tick 367 = .ok (.goto 5, 3) := by decide +kernel
theorem dL_tick_370 : decode cL_tick 370 = .ok (.iload 14, 2) := by decide +kernel
theorem dL_tick_372 : decode cL_tick 372 = .ok (.invokevirtual 35, 3) := by decide +kernel
theorem dL_tick_375 : decode cL_tick 375 = .ok (.if_icmp .eq 5, 3) := by decide +kernel
theorem dL_tick_378 : decode cL_tick 378 = .ok (.iconst 0, 1) := by decide +kernel
theorem dL_tick_379 : decode cL_tick 379 = .ok (.ireturn, 1) := by decide +kernel
theorem dL_tick_380 : decode cL_tick 380 = .ok (.iinc 9 1, 3) := by decide +kernel
theorem dL_tick_383 : decode cL_tick 383 = .ok (.goto (-285), 3) := by decide +kernel
theorem dL_tick_386 : decode cL_tick 386 = .ok (.aload_n 0, 1) := by decide +kernel
theorem dL_tick_387 : decode cL_tick 387 = .ok (.bipush 9, 2) := by decide +kernel
theorem dL_tick_389 : decode cL_tick 389 = .ok (.invokevirtual 19, 3) := by decide +kernel
theorem dL_tick_392 : decode cL_tick 392 = .ok (.aload_n 0, 1) := by decide +kernel
theorem dL_tick_393 : decode cL_tick 393 = .ok (.bipush 10, 2) := by decide +kernel
theorem dL_tick_395 : decode cL_tick 395 = .ok (.invokevirtual 19, 3) := by decide +kernel
theorem dL_tick_398 : decode cL_tick 398 = .ok (.iadd, 1) := by decide +kernel
theorem dL_tick_399 : decode cL_tick 399 = .ok (.iload 5, 2) := by decide +kernel
theorem dL_tick_401 : decode cL_tick 401 = .ok (.iload 8, 2) := by decide +kernel
theorem dL_tick_403 : decode cL_tick 403 = .ok (.iadd, 1) := by decide +kernel
theorem dL_tick_404 : decode cL_tick 404 = .ok (.if_icmp .ne 7, 3) := by decide +kernel
theorem dL_tick_407 : decode cL_tick 407 = .ok (.iconst 1, 1) := by decide +kernel
theorem dL_tick_408 : decode cL_tick 408 = .ok (.goto 4, 3) := by decide +kernel
theorem dL_tick_411 : decode cL_tick 411 = .ok (.iconst 0, 1) := by decide +kernel
theorem dL_tick_412 : decode cL_tick 412 = .ok (.ireturn, 1) := by decide +kernel
theorem dL_worst_0 : decode cL_worst 0 = .ok (.aload_n 0, 1) := by decide +kernel
theorem dL_worst_1 : decode cL_worst 1 = .ok (.iconst 3, 1) := by decide +kernel
theorem dL_worst_2 : decode cL_worst 2 = .ok (.invokevirtual 19, 3) := by decide +kernel
theorem dL_worst_5 : decode cL_worst 5 = .ok (.istore_n 2, 1) := by decide +kernel
theorem dL_worst_6 : decode cL_worst 6 = .ok (.bipush (-3), 2) := by decide +kernel
theorem dL_worst_8 : decode cL_worst 8 = .ok (.istore_n 3, 1) := by decide +kernel
theorem dL_worst_9 : decode cL_worst 9 = .ok (.aload_n 0, 1) := by decide +kernel
theorem dL_worst_10 : decode cL_worst 10 = .ok (.invokevirtual 38, 3) := by decide +kernel
theorem dL_worst_13 : decode cL_worst 13 = .ok (.istore 4, 2) := by decide +kernel
theorem dL_worst_15 : decode cL_worst 15 = .ok (.iconst 0, 1) := by decide +kernel
theorem dL_worst_16 : decode cL_worst 16 = .ok (.istore 5, 2) := by decide +kernel
theorem dL_worst_18 : decode cL_worst 18 = .ok (.iload 5, 2) := by decide +kernel
theorem dL_worst_20 : decode cL_worst 20 = .ok (.iload_n 1, 1) := by decide +kernel
theorem dL_worst_21 : decode cL_worst 21 = .ok (.if_icmp .ge 85, 3) := by decide +kernel
theorem dL_worst_24 : decode cL_worst 24 = .ok (.aload_n 0, 1) := by decide +kernel
theorem dL_worst_25 : decode cL_worst 25 = .ok (.iload 5, 2) := by decide +kernel
theorem dL_worst_27 : decode cL_worst 27 = .ok (.iconst 0, 1) := by decide +kernel
theorem dL_worst_28 : decode cL_worst 28 = .ok (.invokevirtual 15, 3) := by decide +kernel
theorem dL_worst_31 : decode cL_worst 31 = .ok (.istore 6, 2) := by decide +kernel
theorem dL_worst_33 : decode cL_worst 33 = .ok (.iload 6, 2) := by decide +kernel
theorem dL_worst_35 : decode cL_worst 35 = .ok (.ifCond .le 65, 3) := by decide +kernel
theorem dL_worst_38 : decode cL_worst 38 = .ok (.aload_n 0, 1) := by decide +kernel
theorem dL_worst_39 : decode cL_worst 39 = .ok (.iload 5, 2) := by decide +kernel
theorem dL_worst_41 : decode cL_worst 41 = .ok (.iconst 0, 1) := by decide +kernel
theorem dL_worst_42 : decode cL_worst 42 = .ok (.invokevirtual 41, 3) := by decide +kernel
theorem dL_worst_45 : decode cL_worst 45 = .ok (.iload 6, 2) := by decide +kernel
theorem dL_worst_47 : decode cL_worst 47 = .ok (.if_icmp .eq 5, 3) := by decide +kernel
theorem dL_worst_50 : decode cL_worst 50 = .ok (.iconst 0, 1) := by decide +kernel
theorem dL_worst_51 : decode cL_worst 51 = .ok (.ireturn, 1) := by decide +kernel
theorem dL_worst_52 : decode cL_worst 52 = .ok (.aload_n 0, 1) := by decide +kernel
theorem dL_worst_53 : decode cL_worst 53 = .ok (.iconst 3, 1) := by decide +kernel
theorem dL_worst_54 : decode cL_worst 54 = .ok (.invokevirtual 19, 3) := by decide +kernel
theorem dL_worst_57 : decode cL_worst 57 = .ok (.iload_n 2, 1) := by decide +kernel
theorem dL_worst_58 : decode cL_worst 58 = .ok (.if_icmp .ge 8, 3) := by decide +kernel
theorem dL_worst_61 : decode cL_worst 61 = .ok (.iload 5, 2) := by decide +kernel
theorem dL_worst_63 : decode cL_worst 63 = .ok (.goto 4, 3) := by decide +kernel
theorem dL_worst_66 : decode cL_worst 66 = .ok (.iload_n 3, 1) := by decide +kernel
theorem dL_worst_67 : decode cL_worst 67 = .ok (.istore_n 3, 1) := by decide +kernel
theorem dL_worst_68 : decode cL_worst 68 = .ok (.aload_n 0, 1) := by decide +kernel
theorem dL_worst_69 : decode cL_worst 69 = .ok (.iconst 3, 1) := by decide +kernel
theorem dL_worst_70 : decode cL_worst 70 = .ok (.invokevirtual 19, 3) := by decide +kernel
theorem dL_worst_73 : decode cL_worst 73 = .ok (.iload_n 2, 1) := by decide +kernel
theorem dL_worst_74 : decode cL_worst 74 = .ok (.if_icmp .ge 11, 3) := by decide +kernel
theorem dL_worst_77 : decode cL_worst 77 = .ok (.aload_n 0, 1) := by decide +kernel
theorem dL_worst_78 : decode cL_worst 78 = .ok (.iconst 3, 1) := by decide +kernel
theorem dL_worst_79 : decode cL_worst 79 = .ok (.invokevirtual 19, 3) := by decide +kernel
theorem dL_worst_82 : decode cL_worst 82 = .ok (.goto 4, 3) := by decide +kernel
theorem dL_worst_85 : decode cL_worst 85 = .ok (.iload_n 2, 1) := by decide +kernel
theorem dL_worst_86 : decode cL_worst 86 = .ok (.istore_n 2, 1) := by decide +kernel
theorem dL_worst_87 : decode cL_worst 87 = .ok (.aload_n 0, 1) := by decide +kernel
theorem dL_worst_88 : decode cL_worst 88 = .ok (.iload 5, 2) := by decide +kernel
theorem dL_worst_90 : decode cL_worst 90 = .ok (.iload 6, 2) := by decide +kernel
theorem dL_worst_92 : decode cL_worst 92 = .ok (.invokevirtual 41, 3) := by decide +kernel
theorem dL_worst_95 : decode cL_worst 95 = .ok (.ifCond .eq 5, 3) := by decide +kernel
theorem dL_worst_98 : decode cL_worst 98 = .ok (.iconst 0, 1) := by decide +kernel
theorem dL_worst_99 : decode cL_worst 99 = .ok (.ireturn, 1) := by decide +kernel
theorem dL_worst_100 : decode cL_worst 100 = .ok (.iinc 5 1, 3) := by decide +kernel
theorem dL_worst_103 : decode cL_worst 103 = .ok (.goto (-85), 3) := by decide +kernel
theorem dL_worst_106 : decode cL_worst 106 = .ok (.iload 4, 2) := by decide +kernel
theorem dL_worst_108 : decode cL_worst 108 = .ok (.iload_n 3, 1) := by decide +kernel
theorem dL_worst_109 : decode cL_worst 109 = .ok (.if_icmp .ne 7, 3) := by decide +kernel
theorem dL_worst_112 : decode cL_worst 112 = .ok (.iconst 1, 1) := by decide +kernel
theorem dL_worst_113 : decode cL_worst 113 = .ok (.goto 4, 3) := by decide +kernel
theorem dL_worst_116 : decode cL_worst 116 = .ok (.iconst 0, 1) := by decide +kernel
theorem dL_worst_117 : decode cL_worst 117 = .ok (.ireturn, 1) := by decide +kernel
theorem dL_rests_0 : decode cL_rests 0 = .ok (.aload_n 0, 1) := by decide +kernel
theorem dL_rests_1 : decode cL_rests 1 = .ok (.iload_n 2, 1) := by decide +kernel
theorem dL_rests_2 : decode cL_rests 2 = .ok (.invokevirtual 44, 3) := by decide +kernel
theorem dL_rests_5 : decode cL_rests 5 = .ok (.istore_n 3, 1) := by decide +kernel
theorem dL_rests_6 : decode cL_rests 6 = .ok (.iload_n 3, 1) := by decide +kernel
theorem dL_rests_7 : decode cL_rests 7 = .ok (.ifCond .ge 7, 3) := by decide +kernel
theorem dL_rests_10 : decode cL_rests 10 = .ok (.iload_n 2, 1) := by decide +kernel
theorem dL_rests_11 : decode cL_rests 11 = .ok (.goto 4, 3) := by decide +kernel
theorem dL_rests_14 : decode cL_rests 14 = .ok (.iload_n 3, 1) := by decide +kernel
theorem dL_rests_15 : decode cL_rests 15 = .ok (.istore 4, 2) := by decide +kernel
theorem dL_rests_17 : decode cL_rests 17 = .ok (.iconst 0, 1) := by decide +kernel
theorem dL_rests_18 : decode cL_rests 18 = .ok (.istore 5, 2) := by decide +kernel
theorem dL_rests_20 : decode cL_rests 20 = .ok (.iload 5, 2) := by decide +kernel
theorem dL_rests_22 : decode cL_rests 22 = .ok (.iload 4, 2) := by decide +kernel
theorem dL_rests_24 : decode cL_rests 24 = .ok (.if_icmp .gt 90, 3) := by decide +kernel
theorem dL_rests_27 : decode cL_rests 27 = .ok (.iconst 0, 1) := by decide +kernel
theorem dL_rests_28 : decode cL_rests 28 = .ok (.istore 6, 2) := by decide +kernel
theorem dL_rests_30 : decode cL_rests 30 = .ok (.iconst 0, 1) := by decide +kernel
theorem dL_rests_31 : decode cL_rests 31 = .ok (.istore 7, 2) := by decide +kernel
theorem dL_rests_33 : decode cL_rests 33 = .ok (.iload 7, 2) := by decide +kernel
theorem dL_rests_35 : decode cL_rests 35 = .ok (.iload_n 1, 1) := by decide +kernel
theorem dL_rests_36 : decode cL_rests 36 = .ok (.if_icmp .ge 29, 3) := by decide +kernel
theorem dL_rests_39 : decode cL_rests 39 = .ok (.iload 6, 2) := by decide +kernel
theorem dL_rests_41 : decode cL_rests 41 = .ok (.aload_n 0, 1) := by decide +kernel
theorem dL_rests_42 : decode cL_rests 42 = .ok (.iload 7, 2) := by decide +kernel
theorem dL_rests_44 : decode cL_rests 44 = .ok (.iconst 1, 1) := by decide +kernel
theorem dL_rests_45 : decode cL_rests 45 = .ok (.invokevirtual 15, 3) := by decide +kernel
theorem dL_rests_48 : decode cL_rests 48 = .ok (.ifCond .le 7, 3) := by decide +kernel
theorem dL_rests_51 : decode cL_rests 51 = .ok (.iconst 1, 1) := by decide +kernel
theorem dL_rests_52 : decode cL_rests 52 = .ok (.goto 4, 3) := by decide +kernel
theorem dL_rests_55 : decode cL_rests 55 = .ok (.iconst 0, 1) := by decide +kernel
theorem dL_rests_56 : decode cL_rests 56 = .ok (.iadd, 1) := by decide +kernel
theorem dL_rests_57 : decode cL_rests 57 = .ok (.istore 6, 2) := by decide +kernel
theorem dL_rests_59 : decode cL_rests 59 = .ok (.iinc 7 1, 3) := by decide +kernel
theorem dL_rests_62 : decode cL_rests 62 = .ok (.goto (-29), 3) := by decide +kernel
theorem dL_rests_65 : decode cL_rests 65 = .ok (.iload 6, 2) := by decide +kernel
theorem dL_rests_67 : decode cL_rests 67 = .ok (.ifCond .ne 7, 3) := by decide +kernel
theorem dL_rests_70 : decode cL_rests 70 = .ok (.iconst 1, 1) := by decide +kernel
theorem dL_rests_71 : decode cL_rests 71 = .ok (.goto 4, 3) := by decide +kernel
theorem dL_rests_74 : decode cL_rests 74 = .ok (.iconst 0, 1) := by decide +kernel
theorem dL_rests_75 : decode cL_rests 75 = .ok (.iload 5, 2) := by decide +kernel
theorem dL_rests_77 : decode cL_rests 77 = .ok (.iload_n 3, 1) := by decide +kernel
theorem dL_rests_78 : decode cL_rests 78 = .ok (.if_icmp .ne 7, 3) := by decide +kernel
theorem dL_rests_81 : decode cL_rests 81 = .ok (.iconst 1, 1) := by decide +kernel
theorem dL_rests_82 : decode cL_rests 82 = .ok (.goto 4, 3) := by decide +kernel
theorem dL_rests_85 : decode cL_rests 85 = .ok (.iconst 0, 1) := by decide +kernel
theorem dL_rests_86 : decode cL_rests 86 = .ok (.if_icmp .eq 5, 3) := by decide +kernel
theorem dL_rests_89 : decode cL_rests 89 = .ok (.iconst 0, 1) := by decide +kernel
theorem dL_rests_90 : decode cL_rests 90 = .ok (.ireturn, 1) := by decide +kernel
theorem dL_rests_91 : decode cL_rests 91 = .ok (.iload 5, 2) := by decide +kernel
theorem dL_rests_93 : decode cL_rests 93 = .ok (.iload 4, 2) := by decide +kernel
theorem dL_rests_95 : decode cL_rests 95 = .ok (.if_icmp .ge 13, 3) := by decide +kernel
theorem dL_rests_98 : decode cL_rests 98 = .ok (.aload_n 0, 1) := by decide +kernel
theorem dL_rests_99 : decode cL_rests 99 = .ok (.iconst 1, 1) := by decide +kernel
theorem dL_rests_100 : decode cL_rests 100 = .ok (.invokevirtual 32, 3) := by decide +kernel
theorem dL_rests_103 : decode cL_rests 103 = .ok (.ifCond .ge 5, 3) := by decide +kernel
theorem dL_rests_106 : decode cL_rests 106 = .ok (.iconst 0, 1) := by decide +kernel
theorem dL_rests_107 : decode cL_rests 107 = .ok (.ireturn, 1) := by decide +kernel
theorem dL_rests_108 : decode cL_rests 108 = .ok (.iinc 5 1, 3) := by decide +kernel
theorem dL_rests_111 : decode cL_rests 111 = .ok (.goto (-91), 3) := by decide +kernel
theorem dL_rests_114 : decode cL_rests 114 = .ok (.aload_n 0, 1) := by decide +kernel
theorem dL_rests_115 : decode cL_rests 115 = .ok (.iconst 0, 1) := by decide +kernel
theorem dL_rests_116 : decode cL_rests 116 = .ok (.invokevirtual 44, 3) := by decide +kernel
theorem dL_rests_119 : decode cL_rests 119 = .ok (.bipush (-2), 2) := by decide +kernel
theorem dL_rests_121 : decode cL_rests 121 = .ok (.if_icmp .ne 19, 3) := by decide +kernel
theorem dL_rests_124 : decode cL_rests 124 = .ok (.aload_n 0, 1) := by decide +kernel
theorem dL_rests_125 : decode cL_rests 125 = .ok (.sipush 1001, 3) := by decide +kernel
theorem dL_rests_128 : decode cL_rests 128 = .ok (.invokevirtual 44, 3) := by decide +kernel
theorem dL_rests_131 : decode cL_rests 131 = .ok (.bipush (-2), 2) := by decide +kernel
theorem dL_rests_133 : decode cL_rests 133 = .ok (.if_icmp .ne 7, 3) := by decide +kernel
theorem dL_rests_136 : decode cL_rests 136 = .ok (.iconst 1, 1) := by decide +kernel
theorem dL_rests_137 : decode cL_rests 137 = .ok (.goto 4, 3) := by decide +kernel
theorem dL_rests_140 : decode cL_rests 140 = .ok (.iconst 0, 1) := by decide +kernel
theorem dL_rests_141 : decode cL_rests 141 = .ok (.ireturn, 1) := by decide +kernel
theorem dL_pedals_0 : decode cL_pedals 0 = .ok (.aload_n 0, 1) := by decide +kernel
theorem dL_pedals_1 : decode cL_pedals 1 = .ok (.bipush 6, 2) := by decide +kernel
theorem dL_pedals_3 : decode cL_pedals 3 = .ok (.invokevirtual 19, 3) := by decide +kernel
theorem dL_pedals_6 : decode cL_pedals 6 = .ok (.aload_n 0, 1) := by decide +kernel
theorem dL_pedals_7 : decode cL_pedals 7 = .ok (.bipush 7, 2) := by decide +kernel
theorem dL_pedals_9 : decode cL_pedals 9 = .ok (.invokevirtual 19, 3) := by decide +kernel
theorem dL_pedals_12 : decode cL_pedals 12 = .ok (.isub, 1) := by decide +kernel
theorem dL_pedals_13 : decode cL_pedals 13 = .ok (.istore 5, 2) := by decide +kernel
theorem dL_pedals_15 : decode cL_pedals 15 = .ok (.aload_n 0, 1) := by decide +kernel
theorem dL_pedals_16 : decode cL_pedals 16 = .ok (.bipush 7, 2) := by decide +kernel
theorem dL_pedals_18 : decode cL_pedals 18 = .ok (.invokevirtual 19, 3) := by decide +kernel
theorem dL_pedals_21 : decode cL_pedals 21 = .ok (.istore 6, 2) := by decide +kernel
theorem dL_pedals_23 : decode cL_pedals 23 = .ok (.aload_n 0, 1) := by decide +kernel
theorem dL_pedals_24 : decode cL_pedals 24 = .ok (.bipush 8, 2) := by decide +kernel
theorem dL_pedals_26 : decode cL_pedals 26 = .ok (.invokevirtual 19, 3) := by decide +kernel
theorem dL_pedals_29 : decode cL_pedals 29 = .ok (.istore 7, 2) := by decide +kernel
theorem dL_pedals_31 : decode cL_pedals 31 = .ok (.iconst 0, 1) := by decide +kernel
theorem dL_pedals_32 : decode cL_pedals 32 = .ok (.istore 8, 2) := by decide +kernel
theorem dL_pedals_34 : decode cL_pedals 34 = .ok (.iconst 0, 1) := by decide +kernel
theorem dL_pedals_35 : decode cL_pedals 35 = .ok (.istore 9, 2) := by decide +kernel
theorem dL_pedals_37 : decode cL_pedals 37 = .ok (.iconst 0, 1) := by decide +kernel
theorem dL_pedals_38 : decode cL_pedals 38 = .ok (.istore 10, 2) := by decide +kernel
theorem dL_pedals_40 : decode cL_pedals 40 = .ok (.iload 10, 2) := by decide +kernel
theorem dL_pedals_42 : decode cL_pedals 42 = .ok (.aload_n 0, 1) := by decide +kernel
theorem dL_pedals_43 : decode cL_pedals 43 = .ok (.iconst 5, 1) := by decide +kernel
theorem dL_pedals_44 : decode cL_pedals 44 = .ok (.invokevirtual 19, 3) := by decide +kernel
theorem dL_pedals_47 : decode cL_pedals 47 = .ok (.if_icmp .ge 48, 3) := by decide +kernel
theorem dL_pedals_50 : decode cL_pedals 50 = .ok (.iload 8, 2) := by decide +kernel
theorem dL_pedals_52 : decode cL_pedals 52 = .ok (.aload_n 0, 1) := by decide +kernel
theorem dL_pedals_53 : decode cL_pedals 53 = .ok (.iload 10, 2) := by decide +kernel
theorem dL_pedals_55 : decode cL_pedals 55 = .ok (.iconst 4, 1) := by decide +kernel
theorem dL_pedals_56 : decode cL_pedals 56 = .ok (.invokevirtual 22, 3) := by decide +kernel
theorem dL_pedals_59 : decode cL_pedals 59 = .ok (.iadd, 1) := by decide +kernel
theorem dL_pedals_60 : decode cL_pedals 60 = .ok (.istore 8, 2) := by decide +kernel
theorem dL_pedals_62 : decode cL_pedals 62 = .ok (.iload 9, 2) := by decide +kernel
theorem dL_pedals_64 : decode cL_pedals 64 = .ok (.aload_n 0, 1) := by decide +kernel
theorem dL_pedals_65 : decode cL_pedals 65 = .ok (.iload 10, 2) := by decide +kernel
theorem dL_pedals_67 : decode cL_pedals 67 = .ok (.iconst 0, 1) := by decide +kernel
theorem dL_pedals_68 : decode cL_pedals 68 = .ok (.invokevirtual 22, 3) := by decide +kernel
theorem dL_pedals_71 : decode cL_pedals 71 = .ok (.iconst 2, 1) := by decide +kernel
theorem dL_pedals_72 : decode cL_pedals 72 = .ok (.if_icmp .ne 13, 3) := by decide +kernel
theorem dL_pedals_75 : decode cL_pedals 75 = .ok (.aload_n 0, 1) := by decide +kernel
theorem dL_pedals_76 : decode cL_pedals 76 = .ok (.iload 10, 2) := by decide +kernel
theorem dL_pedals_78 : decode cL_pedals 78 = .ok (.iconst 4, 1) := by decide +kernel
theorem dL_pedals_79 : decode cL_pedals 79 = .ok (.invokevirtual 22, 3) := by decide +kernel
theorem dL_pedals_82 : decode cL_pedals 82 = .ok (.goto 4, 3) := by decide +kernel
theorem dL_pedals_85 : decode cL_pedals 85 = .ok (.iconst 0, 1) := by decide +kernel
theorem dL_pedals_86 : decode cL_pedals 86 = .ok (.iadd, 1) := by decide +kernel
theorem dL_pedals_87 : decode cL_pedals 87 = .ok (.istore 9, 2) := by decide +kernel
theorem dL_pedals_89 : decode cL_pedals 89 = .ok (.iinc 10 1, 3) := by decide +kernel
theorem dL_pedals_92 : decode cL_pedals 92 = .ok (.goto (-52), 3) := by decide +kernel
theorem dL_pedals_95 : decode cL_pedals 95 = .ok (.iload_n 1, 1) := by decide +kernel
theorem dL_pedals_96 : decode cL_pedals 96 = .ok (.ifCond .ne 11, 3) := by decide +kernel
theorem dL_pedals_99 : decode cL_pedals 99 = .ok (.aload_n 0, 1) := by decide +kernel
theorem dL_pedals_100 : decode cL_pedals 100 = .ok (.iload_n 2, 1) := by decide +kernel
theorem dL_pedals_101 : decode cL_pedals 101 = .ok (.invokevirtual 47, 3) := by decide +kernel
theorem dL_pedals_104 : decode cL_pedals 104 = .ok (.goto 8, 3) := by decide +kernel
theorem dL_pedals_107 : decode cL_pedals 107 = .ok (.aload_n 0, 1) := by decide +kernel
theorem dL_pedals_108 : decode cL_pedals 108 = .ok (.iload_n 2, 1) := by decide +kernel
theorem dL_pedals_109 : decode cL_pedals 109 = .ok (.invokevirtual 51, 3) := by decide +kernel
theorem dL_pedals_112 : decode cL_pedals 112 = .ok (.istore 10, 2) := by decide +kernel
theorem dL_pedals_114 : decode cL_pedals 114 = .ok (.iload_n 3, 1) := by decide +kernel
theorem dL_pedals_115 : decode cL_pedals 115 = .ok (.ifCond .eq 43, 3) := by decide +kernel
theorem dL_pedals_118 : decode cL_pedals 118 = .ok (.iload_n 2, 1) := by decide +kernel
theorem dL_pedals_119 : decode cL_pedals 119 = .ok (.ifCond .ne 39, 3) := by decide +kernel
theorem dL_pedals_122 : decode cL_pedals 122 = .ok (.iload_n 1, 1) := by decide +kernel
theorem dL_pedals_123 : decode cL_pedals 123 = .ok (.ifCond .ne 21, 3) := by decide +kernel
theorem dL_pedals_126 : decode cL_pedals 126 = .ok (.iload 4, 2) := by decide +kernel
theorem dL_pedals_128 : decode cL_pedals 128 = .ok (.ifCond .eq 11, 3) := by decide +kernel
theorem dL_pedals_131 : decode cL_pedals 131 = .ok (.iload 6, 2) := by decide +kernel
theorem dL_pedals_133 : decode cL_pedals 133 = .ok (.iload 9, 2) := by decide +kernel
theorem dL_pedals_135 : decode cL_pedals 135 = .ok (.isub, 1) := by decide +kernel
theorem dL_pedals_136 : decode cL_pedals 136 = .ok (.goto 23, 3) := by decide +kernel
theorem dL_pedals_139 : decode cL_pedals 139 = .ok (.iload 6, 2) := by decide +kernel
theorem dL_pedals_141 : decode cL_pedals 141 = .ok (.goto 18, 3) := by decide +kernel
theorem dL_pedals_144 : decode cL_pedals 144 = .ok (.iload 4, 2) := by decide +kernel
theorem dL_pedals_146 : decode cL_pedals 146 = .ok (.ifCond .eq 7, 3) := by decide +kernel
theorem dL_pedals_149 : decode cL_pedals 149 = .ok (.iconst 0, 1) := by decide +kernel
theorem dL_pedals_150 : decode cL_pedals 150 = .ok (.goto 9, 3) := by decide +kernel
theorem dL_pedals_153 : decode cL_pedals 153 = .ok (.iload 6, 2) := by decide +kernel
theorem dL_pedals_155 : decode cL_pedals 155 = .ok (.goto 4, 3) := by decide +kernel
theorem dL_pedals_158 : decode cL_pedals 158 = .ok (.iconst 0, 1) := by decide +kernel
theorem dL_pedals_159 : decode cL_pedals 159 = .ok (.istore 11, 2) := by decide +kernel
theorem dL_pedals_161 : decode cL_pedals 161 = .ok (.iload_n 1, 1) := by decide +kernel
theorem dL_pedals_162 : decode cL_pedals 162 = .ok (.iconst 1, 1) := by decide +kernel
theorem dL_pedals_163 : decode cL_pedals 163 = .ok (.if_icmp .ne 16, 3) := by decide +kernel
theorem dL_pedals_166 : decode cL_pedals 166 = .ok (.iload_n 2, 1) := by decide +kernel
theorem dL_pedals_167 : decode cL_pedals 167 = .ok (.ifCond .eq 12, 3) := by decide +kernel
theorem dL_pedals_170 : decode cL_pedals 170 = .ok (.iload_n 3, 1) := by decide +kernel
theorem dL_pedals_171 : decode cL_pedals 171 = .ok (.ifCond .ne 8, 3) := by decide +kernel
theorem dL_pedals_174 : decode cL_pedals 174 = .ok (.iload 5, 2) := by decide +kernel
theorem dL_pedals_176 : decode cL_pedals 176 = .ok (.goto 5, 3) := by decide +kernel
theorem dL_pedals_179 : decode cL_pedals 179 = .ok (.iload 11, 2) := by decide +kernel
theorem dL_pedals_181 : decode cL_pedals 181 = .ok (.istore 12, 2) := by decide +kernel
theorem dL_pedals_183 : decode cL_pedals 183 = .ok (.iconst 0, 1) := by decide +kernel
theorem dL_pedals_184 : decode cL_pedals 184 = .ok (.istore 13, 2) := by decide +kernel
theorem dL_pedals_186 : decode cL_pedals 186 = .ok (.iconst 0, 1) := by decide +kernel
theorem dL_pedals_187 : decode cL_pedals 187 = .ok (.istore 14, 2) := by decide +kernel
theorem dL_pedals_189 : decode cL_pedals 189 = .ok (.iload 14, 2) := by decide +kernel
theorem dL_pedals_191 : decode cL_pedals 191 = .ok (.aload_n 0, 1) := by decide +kernel
theorem dL_pedals_192 : decode cL_pedals 192 = .ok (.iconst 5, 1) := by decide +kernel
theorem dL_pedals_193 : decode cL_pedals 193 = .ok (.invokevirtual 19, 3) := by decide +kernel
theorem dL_pedals_196 : decode cL_pedals 196 = .ok (.if_icmp .ge 21, 3) := by decide +kernel
theorem dL_pedals_199 : decode cL_pedals 199 = .ok (.iload 13, 2) := by decide +kernel
theorem dL_pedals_201 : decode cL_pedals 201 = .ok (.aload_n 0, 1) := by decide +kernel
