theorem dL_acts_106 : decode cL_acts 106 = .ok (.if_icmp .ge 41, 3) := by decide +kernel
theorem dL_acts_109 : decode cL_acts 109 = .ok (.aload_n 0, 1) := by decide +kernel
theorem dL_acts_110 : decode cL_acts 110 = .ok (.aload_n 1, 1) := by decide +kernel
theorem dL_acts_111 : decode cL_acts 111 = .ok (.aload_n 3, 1) := by decide +kernel
theorem dL_acts_112 : decode cL_acts 112 = .ok (.aload 4, 2) := by decide +kernel
theorem dL_acts_114 : decode cL_acts 114 = .ok (.aload 5, 2) := by decide +kernel
theorem dL_acts_116 : decode cL_acts 116 = .ok (.aload 6, 2) := by decide +kernel
theorem dL_acts_118 : decode cL_acts 118 = .ok (.iload 14, 2) := by decide +kernel
theorem dL_acts_120 : decode cL_acts 120 = .ok (.bipush 13, 2) := by decide +kernel
theorem dL_acts_122 : decode cL_acts 122 = .ok (.if_icmp .ge 7, 3) := by decide +kernel
theorem dL_acts_125 : decode cL_acts 125 = .ok (.iconst 0, 1) := by decide +kernel
theorem dL_acts_126 : decode cL_acts 126 = .ok (.goto 15, 3) := by decide +kernel
theorem dL_acts_129 : decode cL_acts 129 = .ok (.iload 14, 2) := by decide +kernel
theorem dL_acts_131 : decode cL_acts 131 = .ok (.bipush 20, 2) := by decide +kernel
theorem dL_acts_133 : decode cL_acts 133 = .ok (.if_icmp .ge 7, 3) := by decide +kernel
theorem dL_acts_136 : decode cL_acts 136 = .ok (.iconst 1, 1) := by decide +kernel
theorem dL_acts_137 : decode cL_acts 137 = .ok (.goto 4, 3) := by decide +kernel
theorem dL_acts_140 : decode cL_acts 140 = .ok (.iconst 2, 1) := by decide +kernel
theorem dL_acts_141 : decode cL_acts 141 = .ok (.iload 13, 2) := by decide +kernel
theorem dL_acts_143 : decode cL_acts 143 = .ok (.invokestatic 65, 3) := by decide +kernel
theorem dL_acts_146 : decode cL_acts 146 = .ok (.ireturn, 1) := by decide +kernel
theorem dL_acts_147 : decode cL_acts 147 = .ok (.iload 14, 2) := by decide +kernel
theorem dL_acts_149 : decode cL_acts 149 = .ok (.bipush 27, 2) := by decide +kernel
theorem dL_acts_151 : decode cL_acts 151 = .ok (.if_icmp .ge 316, 3) := by decide +kernel
theorem dL_acts_154 : decode cL_acts 154 = .ok (.iload 14, 2) := by decide +kernel
theorem dL_acts_156 : decode cL_acts 156 = .ok (.bipush 24, 2) := by decide +kernel
theorem dL_acts_158 : decode cL_acts 158 = .ok (.if_icmp .ge 26, 3) := by decide +kernel
theorem dL_acts_161 : decode cL_acts 161 = .ok (.iconst 1, 1) := by decide +kernel
theorem dL_acts_162 : decode cL_acts 162 = .ok (.iload 13, 2) := by decide +kernel
theorem dL_acts_164 : decode cL_acts 164 = .ok (.iload 13, 2) := by decide +kernel
theorem dL_acts_166 : decode cL_acts 166 = .ok (.iconst 3, 1) := by decide +kernel
theorem dL_acts_167 : decode cL_acts 167 = .ok (.irem, 1) := by decide +kernel
theorem dL_acts_168 : decode cL_acts 168 = .ok (.ifCond .ne 9, 3) := by decide +kernel
theorem dL_acts_171 : decode cL_acts 171 = .ok (.sipush 300, 3) := by decide +kernel
theorem dL_acts_174 : decode cL_acts 174 = .ok (.goto 5, 3) := by decide +kernel
theorem dL_acts_177 : decode cL_acts 177 = .ok (.bipush 90, 2) := by decide +kernel
theorem dL_acts_179 : decode cL_acts 179 = .ok (.irem, 1) := by decide +kernel
theorem dL_acts_180 : decode cL_acts 180 = .ok (.iadd, 1) := by decide +kernel
theorem dL_acts_181 : decode cL_acts 181 = .ok (.goto 10, 3) := by decide +kernel
theorem dL_acts_184 : decode cL_acts 184 = .ok (.aload 7, 2) := by decide +kernel
theorem dL_acts_186 : decode cL_acts 186 = .ok (.iload 13, 2) := by decide +kernel
theorem dL_acts_188 : decode cL_acts 188 = .ok (.iconst 3, 1) := by decide +kernel
theorem dL_acts_189 : decode cL_acts 189 = .ok (.irem, 1) := by decide +kernel
theorem dL_acts_190 : decode cL_acts 190 = .ok (.iaload, 1) := by decide +kernel
theorem dL_acts_191 : decode cL_acts 191 = .ok (.istore 15, 2) := by decide +kernel
theorem dL_acts_193 : decode cL_acts 193 = .ok (.aload 7, 2) := by decide +kernel
theorem dL_acts_195 : decode cL_acts 195 = .ok (.iload 15, 2) := by decide +kernel
theorem dL_acts_197 : decode cL_acts 197 = .ok (.invokestatic 69, 3) := by decide +kernel
theorem dL_acts_200 : decode cL_acts 200 = .ok (.istore 16, 2) := by decide +kernel
theorem dL_acts_202 : decode cL_acts 202 = .ok (.aload 7, 2) := by decide +kernel
theorem dL_acts_204 : decode cL_acts 204 = .ok (.iconst 0, 1) := by decide +kernel
theorem dL_acts_205 : decode cL_acts 205 = .ok (.invokestatic 69, 3) := by decide +kernel
theorem dL_acts_208 : decode cL_acts 208 = .ok (.istore 17, 2) := by decide +kernel
theorem dL_acts_210 : decode cL_acts 210 = .ok (.iload 14, 2) := by decide +kernel
theorem dL_acts_212 : decode cL_acts 212 = .ok (.bipush 25, 2) := by decide +kernel
theorem dL_acts_214 : decode cL_acts 214 = .ok (.if_icmp .ge 150, 3) := by decide +kernel
theorem dL_acts_217 : decode cL_acts 217 = .ok (.iload 15, 2) := by decide +kernel
theorem dL_acts_219 : decode cL_acts 219 = .ok (.ifCond .eq 13, 3) := by decide +kernel
theorem dL_acts_222 : decode cL_acts 222 = .ok (.iload 16, 2) := by decide +kernel
theorem dL_acts_224 : decode cL_acts 224 = .ok (.ifCond .ge 8, 3) := by decide +kernel
theorem dL_acts_227 : decode cL_acts 227 = .ok (.iload 17, 2) := by decide +kernel
theorem dL_acts_229 : decode cL_acts 229 = .ok (.ifCond .ge 40, 3) := by decide +kernel
theorem dL_acts_232 : decode cL_acts 232 = .ok (.aload_n 0, 1) := by decide +kernel
theorem dL_acts_233 : decode cL_acts 233 = .ok (.iload 15, 2) := by decide +kernel
theorem dL_acts_235 : decode cL_acts 235 = .ok (.invokevirtual 73, 3) := by decide +kernel
theorem dL_acts_238 : decode cL_acts 238 = .ok (.iload 15, 2) := by decide +kernel
theorem dL_acts_240 : decode cL_acts 240 = .ok (.ifCond .ne 8, 3) := by decide +kernel
theorem dL_acts_243 : decode cL_acts 243 = .ok (.ldc 48, 2) := by decide +kernel
theorem dL_acts_245 : decode cL_acts 245 = .ok (.goto 15, 3) := by decide +kernel
theorem dL_acts_248 : decode cL_acts 248 = .ok (.iload 16, 2) := by decide +kernel
theorem dL_acts_250 : decode cL_acts 250 = .ok (.ifCond .lt 8, 3) := by decide +kernel
theorem dL_acts_253 : decode cL_acts 253 = .ok (.ldc 55, 2) := by decide +kernel
theorem dL_acts_255 : decode cL_acts 255 = .ok (.goto 5, 3) := by decide +kernel
theorem dL_acts_258 : decode cL_acts 258 = .ok (.ldc 56, 2) := by decide +kernel
theorem dL_acts_260 : decode cL_acts 260 = .ok (.if_icmp .ne 7, 3) := by decide +kernel
theorem dL_acts_263 : decode cL_acts 263 = .ok (.iconst 1, 1) := by decide +kernel
theorem dL_acts_264 : decode cL_acts 264 = .ok (.goto 4, 3) := by decide +kernel
theorem dL_acts_267 : decode cL_acts 267 = .ok (.iconst 0, 1) := by decide +kernel
theorem dL_acts_268 : decode cL_acts 268 = .ok (.ireturn, 1) := by decide +kernel
theorem dL_acts_269 : decode cL_acts 269 = .ok (.aload 7, 2) := by decide +kernel
theorem dL_acts_271 : decode cL_acts 271 = .ok (.iload 17, 2) := by decide +kernel
theorem dL_acts_273 : decode cL_acts 273 = .ok (.iload 15, 2) := by decide +kernel
theorem dL_acts_275 : decode cL_acts 275 = .ok (.iastore, 1) := by decide +kernel
theorem dL_acts_276 : decode cL_acts 276 = .ok (.iconst 0, 1) := by decide +kernel
theorem dL_acts_277 : decode cL_acts 277 = .ok (.istore 18, 2) := by decide +kernel
theorem dL_acts_279 : decode cL_acts 279 = .ok (.iconst 0, 1) := by decide +kernel
theorem dL_acts_280 : decode cL_acts 280 = .ok (.istore 19, 2) := by decide +kernel
theorem dL_acts_282 : decode cL_acts 282 = .ok (.iload 19, 2) := by decide +kernel
theorem dL_acts_284 : decode cL_acts 284 = .ok (.bipush 48, 2) := by decide +kernel
theorem dL_acts_286 : decode cL_acts 286 = .ok (.if_icmp .ge 61, 3) := by decide +kernel
theorem dL_acts_289 : decode cL_acts 289 = .ok (.iload 18, 2) := by decide +kernel
theorem dL_acts_291 : decode cL_acts 291 = .ok (.iload 19, 2) := by decide +kernel
theorem dL_acts_293 : decode cL_acts 293 = .ok (.bipush 6, 2) := by decide +kernel
theorem dL_acts_295 : decode cL_acts 295 = .ok (.idiv, 1) := by decide +kernel
theorem dL_acts_296 : decode cL_acts 296 = .ok (.aload_n 1, 1) := by decide +kernel
theorem dL_acts_297 : decode cL_acts 297 = .ok (.iconst 0, 1) := by decide +kernel
theorem dL_acts_298 : decode cL_acts 298 = .ok (.iaload, 1) := by decide +kernel
theorem dL_acts_299 : decode cL_acts 299 = .ok (.if_icmp .ge 38, 3) := by decide +kernel
theorem dL_acts_302 : decode cL_acts 302 = .ok (.iload 19, 2) := by decide +kernel
theorem dL_acts_304 : decode cL_acts 304 = .ok (.bipush 6, 2) := by decide +kernel
theorem dL_acts_306 : decode cL_acts 306 = .ok (.irem, 1) := by decide +kernel
theorem dL_acts_307 : decode cL_acts 307 = .ok (.aload_n 3, 1) := by decide +kernel
theorem dL_acts_308 : decode cL_acts 308 = .ok (.iload 19, 2) := by decide +kernel
theorem dL_acts_310 : decode cL_acts 310 = .ok (.bipush 6, 2) := by decide +kernel
theorem dL_acts_312 : decode cL_acts 312 = .ok (.idiv, 1) := by decide +kernel
theorem dL_acts_313 : decode cL_acts 313 = .ok (.iaload, 1) := by decide +kernel
theorem dL_acts_314 : decode cL_acts 314 = .ok (.if_icmp .ge 23, 3) := by decide +kernel
theorem dL_acts_317 : decode cL_acts 317 = .ok (.aload_n 1, 1) := by decide +kernel
theorem dL_acts_318 : decode cL_acts 318 = .ok (.aload 7, 2) := by decide +kernel
theorem dL_acts_320 : decode cL_acts 320 = .ok (.aload 5, 2) := by decide +kernel
theorem dL_acts_322 : decode cL_acts 322 = .ok (.iload 19, 2) := by decide +kernel
theorem dL_acts_324 : decode cL_acts 324 = .ok (.iaload, 1) := by decide +kernel
theorem dL_acts_325 : decode cL_acts 325 = .ok (.invokestatic 15, 3) := by decide +kernel
theorem dL_acts_328 : decode cL_acts 328 = .ok (.iload 15, 2) := by decide +kernel
theorem dL_acts_330 : decode cL_acts 330 = .ok (.if_icmp .ne 7, 3) := by decide +kernel
theorem dL_acts_333 : decode cL_acts 333 = .ok (.iconst 1, 1) := by decide +kernel
theorem dL_acts_334 : decode cL_acts 334 = .ok (.goto 4, 3) := by decide +kernel
theorem dL_acts_337 : decode cL_acts 337 = .ok (.iconst 0, 1) := by decide +kernel
theorem dL_acts_338 : decode cL_acts 338 = .ok (.iadd, 1) := by decide +kernel
theorem dL_acts_339 : decode cL_acts 339 = .ok (.istore 18, 2) := by decide +kernel
theorem dL_acts_341 : decode cL_acts 341 = .ok (.iinc 19 1, 3) := by decide +kernel
theorem dL_acts_344 : decode cL_acts 344 = .ok (.goto (-62), 3) := by decide +kernel
theorem dL_acts_347 : decode cL_acts 347 = .ok (.aload_n 0, 1) := by decide +kernel
theorem dL_acts_348 : decode cL_acts 348 = .ok (.iload 15, 2) := by decide +kernel
theorem dL_acts_350 : decode cL_acts 350 = .ok (.invokevirtual 73, 3) := by decide +kernel
theorem dL_acts_353 : decode cL_acts 353 = .ok (.iload 18, 2) := by decide +kernel
theorem dL_acts_355 : decode cL_acts 355 = .ok (.if_icmp .ne 7, 3) := by decide +kernel
theorem dL_acts_358 : decode cL_acts 358 = .ok (.iconst 1, 1) := by decide +kernel
theorem dL_acts_359 : decode cL_acts 359 = .ok (.goto 4, 3) := by decide +kernel
theorem dL_acts_362 : decode cL_acts 362 = .ok (.iconst 0, 1) := by decide +kernel
theorem dL_acts_363 : decode cL_acts 363 = .ok (.ireturn, 1) := by decide +kernel
theorem dL_acts_364 : decode cL_acts 364 = .ok (.iload 15, 2) := by decide +kernel
theorem dL_acts_366 : decode cL_acts 366 = .ok (.ifCond .ne 38, 3) := by decide +kernel
theorem dL_acts_369 : decode cL_acts 369 = .ok (.aload_n 0, 1) := by decide +kernel
theorem dL_acts_370 : decode cL_acts 370 = .ok (.iconst 0, 1) := by decide +kernel
theorem dL_acts_371 : decode cL_acts 371 = .ok (.invokevirtual 76, 3) := by decide +kernel
theorem dL_acts_374 : decode cL_acts 374 = .ok (.ldc 48, 2) := by decide +kernel
theorem dL_acts_376 : decode cL_acts 376 = .ok (.if_icmp .ne 26, 3) := by decide +kernel
theorem dL_acts_379 : decode cL_acts 379 = .ok (.aload 7, 2) := by decide +kernel
theorem dL_acts_381 : decode cL_acts 381 = .ok (.iconst 1, 1) := by decide +kernel
theorem dL_acts_382 : decode cL_acts 382 = .ok (.invokestatic 69, 3) := by decide +kernel
theorem dL_acts_385 : decode cL_acts 385 = .ok (.ifCond .ge 13, 3) := by decide +kernel
theorem dL_acts_388 : decode cL_acts 388 = .ok (.aload_n 0, 1) := by decide +kernel
theorem dL_acts_389 : decode cL_acts 389 = .ok (.iconst 1, 1) := by decide +kernel
theorem dL_acts_390 : decode cL_acts 390 = .ok (.invokevirtual 76, 3) := by decide +kernel
theorem dL_acts_393 : decode cL_acts 393 = .ok (.ldc 55, 2) := by decide +kernel
theorem dL_acts_395 : decode cL_acts 395 = .ok (.if_icmp .ne 7, 3) := by decide +kernel
theorem dL_acts_398 : decode cL_acts 398 = .ok (.iconst 1, 1) := by decide +kernel
theorem dL_acts_399 : decode cL_acts 399 = .ok (.goto 4, 3) := by decide +kernel
theorem dL_acts_402 : decode cL_acts 402 = .ok (.iconst 0, 1) := by decide +kernel
theorem dL_acts_403 : decode cL_acts 403 = .ok (.ireturn, 1) := by decide +kernel
theorem dL_acts_404 : decode cL_acts 404 = .ok (.aload 7, 2) := by decide +kernel
theorem dL_acts_406 : decode cL_acts 406 = .ok (.iload 16, 2) := by decide +kernel
theorem dL_acts_408 : decode cL_acts 408 = .ok (.iconst 0, 1) := by decide +kernel
theorem dL_acts_409 : decode cL_acts 409 = .ok (.iastore, 1) := by decide +kernel
theorem dL_acts_410 : decode cL_acts 410 = .ok (.aload 7, 2) := by decide +kernel
theorem dL_acts_412 : decode cL_acts 412 = .ok (.iconst 0, 1) := by decide +kernel
theorem dL_acts_413 : decode cL_acts 413 = .ok (.iaload, 1) := by decide +kernel
theorem dL_acts_414 : decode cL_acts 414 = .ok (.ifCond .le 7, 3) := by decide +kernel
theorem dL_acts_417 : decode cL_acts 417 = .ok (.iconst 1, 1) := by decide +kernel
theorem dL_acts_418 : decode cL_acts 418 = .ok (.goto 4, 3) := by decide +kernel
theorem dL_acts_421 : decode cL_acts 421 = .ok (.iconst 0, 1) := by decide +kernel
theorem dL_acts_422 : decode cL_acts 422 = .ok (.aload 7, 2) := by decide +kernel
theorem dL_acts_424 : decode cL_acts 424 = .ok (.iconst 1, 1) := by decide +kernel
theorem dL_acts_425 : decode cL_acts 425 = .ok (.iaload, 1) := by decide +kernel
theorem dL_acts_426 : decode cL_acts 426 = .ok (.ifCond .le 7, 3) := by decide +kernel
theorem dL_acts_429 : decode cL_acts 429 = .ok (.iconst 1, 1) := by decide +kernel
theorem dL_acts_430 : decode cL_acts 430 = .ok (.goto 4, 3) := by decide +kernel
theorem dL_acts_433 : decode cL_acts 433 = .ok (.iconst 0, 1) := by decide +kernel
theorem dL_acts_434 : decode cL_acts 434 = .ok (.iadd, 1) := by decide +kernel
theorem dL_acts_435 : decode cL_acts 435 = .ok (.aload 7, 2) := by decide +kernel
theorem dL_acts_437 : decode cL_acts 437 = .ok (.iconst 2, 1) := by decide +kernel
theorem dL_acts_438 : decode cL_acts 438 = .ok (.iaload, 1) := by decide +kernel
theorem dL_acts_439 : decode cL_acts 439 = .ok (.ifCond .le 7, 3) := by decide +kernel
theorem dL_acts_442 : decode cL_acts 442 = .ok (.iconst 1, 1) := by decide +kernel
theorem dL_acts_443 : decode cL_acts 443 = .ok (.goto 4, 3) := by decide +kernel
theorem dL_acts_446 : decode cL_acts 446 = .ok (.iconst 0, 1) := by decide +kernel
theorem dL_acts_447 : decode cL_acts 447 = .ok (.iadd, 1) := by decide +kernel
theorem dL_acts_448 : decode cL_acts 448 = .ok (.istore 18, 2) := by decide +kernel
theorem dL_acts_450 : decode cL_acts 450 = .ok (.aload_n 0, 1) := by decide +kernel
theorem dL_acts_451 : decode cL_acts 451 = .ok (.iload 15, 2) := by decide +kernel
theorem dL_acts_453 : decode cL_acts 453 = .ok (.invokevirtual 76, 3) := by decide +kernel
theorem dL_acts_456 : decode cL_acts 456 = .ok (.iload 18, 2) := by decide +kernel
theorem dL_acts_458 : decode cL_acts 458 = .ok (.if_icmp .ne 7, 3) := by decide +kernel
theorem dL_acts_461 : decode cL_acts 461 = .ok (.iconst 1, 1) := by decide +kernel
theorem dL_acts_462 : decode cL_acts 462 = .ok (.goto 4, 3) := by decide +kernel
theorem dL_acts_465 : decode cL_acts 465 = .ok (.iconst 0, 1) := by decide +kernel
theorem dL_acts_466 : decode cL_acts 466 = .ok (.ireturn, 1) := by decide +kernel
theorem dL_acts_467 : decode cL_acts 467 = .ok (.iload 14, 2) := by decide +kernel
theorem dL_acts_469 : decode cL_acts 469 = .ok (.bipush 31, 2) := by decide +kernel
theorem dL_acts_471 : decode cL_acts 471 = .ok (.if_icmp .ge 81, 3) := by decide +kernel
theorem dL_acts_474 : decode cL_acts 474 = .ok (.bipush 6, 2) := by decide +kernel
theorem dL_acts_476 : decode cL_acts 476 = .ok (.iload 13, 2) := by decide +kernel
theorem dL_acts_478 : decode cL_acts 478 = .ok (.iload 13, 2) := by decide +kernel
theorem dL_acts_480 : decode cL_acts 480 = .ok (.iconst 4, 1) := by decide +kernel
theorem dL_acts_481 : decode cL_acts 481 = .ok (.irem, 1) := by decide +kernel
theorem dL_acts_482 : decode cL_acts 482 = .ok (.ifCond .ne 8, 3) := by decide +kernel
theorem dL_acts_485 : decode cL_acts 485 = .ok (.bipush 43, 2) := by decide +kernel
theorem dL_acts_487 : decode cL_acts 487 = .ok (.goto 4, 3) := by decide +kernel
theorem dL_acts_490 : decode cL_acts 490 = .ok (.iconst 5, 1) := by decide +kernel
theorem dL_acts_491 : decode cL_acts 491 = .ok (.irem, 1) := by decide +kernel
theorem dL_acts_492 : decode cL_acts 492 = .ok (.iload 13, 2) := by decide +kernel
theorem dL_acts_494 : decode cL_acts 494 = .ok (.iconst 4, 1) := by decide +kernel
theorem dL_acts_495 : decode cL_acts 495 = .ok (.irem, 1) := by decide +kernel
theorem dL_acts_496 : decode cL_acts 496 = .ok (.ifCond .ne 7, 3) := by decide +kernel
theorem dL_acts_499 : decode cL_acts 499 = .ok (.iconst 1, 1) := by decide +kernel
theorem dL_acts_500 : decode cL_acts 500 = .ok (.goto 5, 3) := by decide +kernel
theorem dL_acts_503 : decode cL_acts 503 = .ok (.bipush 9, 2) := by decide +kernel
theorem dL_acts_505 : decode cL_acts 505 = .ok (.imul, 1) := by decide +kernel
theorem dL_acts_506 : decode cL_acts 506 = .ok (.iadd, 1) := by decide +kernel
theorem dL_acts_507 : decode cL_acts 507 = .ok (.istore 15, 2) := by decide +kernel
theorem dL_acts_509 : decode cL_acts 509 = .ok (.aload_n 1, 1) := by decide +kernel
theorem dL_acts_510 : decode cL_acts 510 = .ok (.aload_n 2, 1) := by decide +kernel
theorem dL_acts_511 : decode cL_acts 511 = .ok (.aload_n 3, 1) := by decide +kernel
theorem dL_acts_512 : decode cL_acts 512 = .ok (.aload 4, 2) := by decide +kernel
theorem dL_acts_514 : decode cL_acts 514 = .ok (.aload 5, 2) := by decide +kernel
theorem dL_acts_516 : decode cL_acts 516 = .ok (.aload 6, 2) := by decide +kernel
theorem dL_acts_518 : decode cL_acts 518 = .ok (.aload 7, 2) := by decide +kernel
theorem dL_acts_520 : decode cL_acts 520 = .ok (.aload 8, 2) := by decide +kernel
theorem dL_acts_522 : decode cL_acts 522 = .ok (.aload 9, 2) := by decide +kernel
theorem dL_acts_524 : decode cL_acts 524 = .ok (.aload 10, 2) := by decide +kernel
theorem dL_acts_526 : decode cL_acts 526 = .ok (.aload 11, 2) := by decide +kernel
theorem dL_acts_528 : decode cL_acts 528 = .ok (.iload 15, 2) := by decide +kernel
theorem dL_acts_530 : decode cL_acts 530 = .ok (.invokestatic 79, 3) := by decide +kernel
theorem dL_acts_533 : decode cL_acts 533 = .ok (.istore 16, 2) := by decide +kernel
theorem dL_acts_535 : decode cL_acts 535 = .ok (.aload_n 0, 1) := by decide +kernel
theorem dL_acts_536 : decode cL_acts 536 = .ok (.iload 15, 2) := by decide +kernel
theorem dL_acts_538 : decode cL_acts 538 = .ok (.invokevirtual 83, 3) := by decide +kernel
theorem dL_acts_541 : decode cL_acts 541 = .ok (.iload 16, 2) := by decide +kernel
theorem dL_acts_543 : decode cL_acts 543 = .ok (.if_icmp .ne 7, 3) := by decide +kernel
theorem dL_acts_546 : decode cL_acts 546 = .ok (.iconst 1, 1) := by decide +kernel
theorem dL_acts_547 : decode cL_acts 547 = .ok (.goto 4, 3) := by decide +kernel
theorem dL_acts_550 : decode cL_acts 550 = .ok (.iconst 0, 1) := by decide +kernel
theorem dL_acts_551 : decode cL_acts 551 = .ok (.ireturn, 1) := by decide +kernel
theorem dL_acts_552 : decode cL_acts 552 = .ok (.iload 13, 2) := by decide +kernel
theorem dL_acts_554 : decode cL_acts 554 = .ok (.iconst 2, 1) := by decide +kernel
theorem dL_acts_555 : decode cL_acts 555 = .ok (.irem, 1) := by decide +kernel
theorem dL_acts_556 : decode cL_acts 556 = .ok (.istore 15, 2) := by decide +kernel
theorem dL_acts_558 : decode cL_acts 558 = .ok (.aload_n 1, 1) := by decide +kernel
theorem dL_acts_559 : decode cL_acts 559 = .ok (.iconst 1, 1) := by decide +kernel
theorem dL_acts_560 : decode cL_acts 560 = .ok (.iload 15, 2) := by decide +kernel
theorem dL_acts_562 : decode cL_acts 562 = .ok (.iadd, 1) := by decide +kernel
theorem dL_acts_563 : decode cL_acts 563 = .ok (.iaload, 1) := by decide +kernel
theorem dL_acts_564 : decode cL_acts 564 = .ok (.istore 16, 2) := by decide +kernel
theorem dL_acts_566 : decode cL_acts 566 = .ok (.aload_n 1, 1) := by decide +kernel
theorem dL_acts_567 : decode cL_acts 567 = .ok (.iconst 1, 1) := by decide +kernel
theorem dL_acts_568 : decode cL_acts 568 = .ok (.iload 15, 2) := by decide +kernel
theorem dL_acts_570 : decode cL_acts 570 = .ok (.iadd, 1) := by decide +kernel
theorem dL_acts_571 : decode cL_acts 571 = .ok (.iload 13, 2) := by decide +kernel
theorem dL_acts_573 : decode cL_acts 573 = .ok (.iconst 2, 1) := by decide +kernel
theorem dL_acts_574 : decode cL_acts 574 = .ok (.idiv, 1) := by decide +kernel
theorem dL_acts_575 : decode cL_acts 575 = .ok (.iload 15, 2) := by decide +kernel
theorem dL_acts_577 : decode cL_acts 577 = .ok (.ifCond .ne 8, 3) := by decide +kernel
theorem dL_acts_580 : decode cL_acts 580 = .ok (.bipush 101, 2) := by decide +kernel
theorem dL_acts_582 : decode cL_acts 582 = .ok (.goto 4, 3) := by decide +kernel
theorem dL_acts_585 : decode cL_acts 585 = .ok (.iconst 4, 1) := by decide +kernel
theorem dL_acts_586 : decode cL_acts 586 = .ok (.irem, 1) := by decide +kernel
theorem dL_acts_587 : decode cL_acts 587 = .ok (.iastore, 1) := by decide +kernel
theorem dL_acts_588 : decode cL_acts 588 = .ok (.aload_n 0, 1) := by decide +kernel
theorem dL_acts_589 : decode cL_acts 589 = .ok (.iload 15, 2) := by decide +kernel
theorem dL_acts_591 : decode cL_acts 591 = .ok (.aload_n 1, 1) := by decide +kernel
theorem dL_acts_592 : decode cL_acts 592 = .ok (.iconst 1, 1) := by decide +kernel
theorem dL_acts_593 : decode cL_acts 593 = .ok (.iload 15, 2) := by decide +kernel
theorem dL_acts_595 : decode cL_acts 595 = .ok (.iadd, 1) := by decide +kernel
theorem dL_acts_596 : decode cL_acts 596 = .ok (.iaload, 1) := by decide +kernel
theorem dL_acts_597 : decode cL_acts 597 = .ok (.invokevirtual 85, 3) := by decide +kernel
theorem dL_acts_600 : decode cL_acts 600 = .ok (.iload 16, 2) := by decide +kernel
theorem dL_acts_602 : decode cL_acts 602 = .ok (.if_icmp .ne 7, 3) := by decide +kernel
theorem dL_acts_605 : decode cL_acts 605 = .ok (.iconst 1, 1) := by decide +kernel
theorem dL_acts_606 : decode cL_acts 606 = .ok (.goto 4, 3) := by decide +kernel
theorem dL_acts_609 : decode cL_acts 609 = .ok (.iconst 0, 1) := by decide +kernel
theorem dL_acts_610 : decode cL_acts 610 = .ok (.ireturn, 1) := by decide +kernel
theorem dL_areStems_0 : decode cL_areStems 0 = .ok (.aload_n 0, 1) := by decide +kernel
theorem dL_areStems_1 : decode cL_areStems 1 = .ok (.aload_n 1, 1) := by decide +kernel
theorem dL_areStems_2 : decode cL_areStems 2 = .ok (.iconst 0, 1) := by decide +kernel
theorem dL_areStems_3 : decode cL_areStems 3 = .ok (.iaload, 1) := by decide +kernel
theorem dL_areStems_4 : decode cL_areStems 4 = .ok (.iconst 0, 1) := by decide +kernel
theorem dL_areStems_5 : decode cL_areStems 5 = .ok (.iconst 0, 1) := by decide +kernel
theorem dL_areStems_6 : decode cL_areStems 6 = .ok (.invokevirtual 88, 3) := by decide +kernel
theorem dL_areStems_9 : decode cL_areStems 9 = .ok (.ldc 48, 2) := by decide +kernel
theorem dL_areStems_11 : decode cL_areStems 11 = .ok (.if_icmp .ne 19, 3) := by decide +kernel
theorem dL_areStems_14 : decode cL_areStems 14 = .ok (.aload_n 0, 1) := by decide +kernel
theorem dL_areStems_15 : decode cL_areStems 15 = .ok (.iconst (-1), 1) := by decide +kernel
theorem dL_areStems_16 : decode cL_areStems 16 = .ok (.iconst 0, 1) := by decide +kernel
theorem dL_areStems_17 : decode cL_areStems 17 = .ok (.iconst 0, 1) := by decide +kernel
theorem dL_areStems_18 : decode cL_areStems 18 = .ok (.invokevirtual 88, 3) := by decide +kernel
theorem dL_areStems_21 : decode cL_areStems 21 = .ok (.ldc 48, 2) := by decide +kernel
theorem dL_areStems_23 : decode cL_areStems 23 = .ok (.if_icmp .ne 7, 3) := by decide +kernel
theorem dL_areStems_26 : decode cL_areStems 26 = .ok (.iconst 1, 1) := by decide +kernel
theorem dL_areStems_27 : decode cL_areStems 27 = .ok (.goto 4, 3) := by decide +kernel
theorem dL_areStems_30 : decode cL_areStems 30 = .ok (.iconst 0, 1) := by decide +kernel
theorem dL_areStems_31 : decode cL_areStems 31 = .ok (.istore 7, 2) := by decide +kernel
theorem dL_areStems_33 : decode cL_areStems 33 = .ok (.iconst 0, 1) := by decide +kernel
theorem dL_areStems_34 : decode cL_areStems 34 = .ok (.istore 8, 2) := by decide +kernel
theorem dL_areStems_36 : decode cL_areStems 36 = .ok (.iconst 0, 1) := by decide +kernel
theorem dL_areStems_37 : decode cL_areStems 37 = .ok (.istore 9, 2) := by decide +kernel
theorem dL_areStems_39 : decode cL_areStems 39 = .ok (.iconst 0, 1) := by decide +kernel
theorem dL_areStems_40 : decode cL_areStems 40 = .ok (.istore 10, 2) := by decide +kernel
theorem dL_areStems_42 : decode cL_areStems 42 = .ok (.iload 10, 2) := by decide +kernel
theorem dL_areStems_44 : decode cL_areStems 44 = .ok (.bipush 48, 2) := by decide +kernel
theorem dL_areStems_46 : decode cL_areStems 46 = .ok (.if_icmp .ge 441, 3) := by decide +kernel
theorem dL_areStems_49 : decode cL_areStems 49 = .ok (.iload 7, 2) := by decide +kernel
theorem dL_areStems_51 : decode cL_areStems 51 = .ok (.ifCond .eq 436, 3) := by decide +kernel
theorem dL_areStems_54 : decode cL_areStems 54 = .ok (.iload 10, 2) := by decide +kernel
theorem dL_areStems_56 : decode cL_areStems 56 = .ok (.bipush 6, 2) := by decide +kernel
theorem dL_areStems_58 : decode cL_areStems 58 = .ok (.idiv, 1) := by decide +kernel
theorem dL_areStems_59 : decode cL_areStems 59 = .ok (.aload_n 1, 1) := by decide +kernel
theorem dL_areStems_60 : decode cL_areStems 60 = .ok (.iconst 0, 1) := by decide +kernel
theorem dL_areStems_61 : decode cL_areStems 61 = .ok (.iaload, 1) := by decide +kernel
theorem dL_areStems_62 : decode cL_areStems 62 = .ok (.if_icmp .ge 18, 3) := by decide +kernel
theorem dL_areStems_65 : decode cL_areStems 65 = .ok (.iload 10, 2) := by decide +kernel
theorem dL_areStems_67 : decode cL_areStems 67 = .ok (.bipush 6, 2) := by decide +kernel
theorem dL_areStems_69 : decode cL_areStems 69 = .ok (.irem, 1) := by decide +kernel
theorem dL_areStems_70 : decode cL_areStems 70 = .ok (.aload_n 2, 1) := by decide +kernel
theorem dL_areStems_71 : decode cL_areStems 71 = .ok (.iload 10, 2) := by decide +kernel
theorem dL_areStems_73 : decode cL_areStems 73 = .ok (.bipush 6, 2) := by decide +kernel
theorem dL_areStems_75 : decode cL_areStems 75 = .ok (.idiv, 1) := by decide +kernel
theorem dL_areStems_76 : decode cL_areStems 76 = .ok (.iaload, 1) := by decide +kernel
theorem dL_areStems_77 : decode cL_areStems 77 = .ok (.if_icmp .lt 33, 3) := by decide +kernel
theorem dL_areStems_80 : decode cL_areStems 80 = .ok (.aload_n 0, 1) := by decide +kernel
theorem dL_areStems_81 : decode cL_areStems 81 = .ok (.iload 10, 2) := by decide +kernel
theorem dL_areStems_83 : decode cL_areStems 83 = .ok (.bipush 6, 2) := by decide +kernel
theorem dL_areStems_85 : decode cL_areStems 85 = .ok (.idiv, 1) := by decide +kernel
theorem dL_areStems_86 : decode cL_areStems 86 = .ok (.iload 10, 2) := by decide +kernel
theorem dL_areStems_88 : decode cL_areStems 88 = .ok (.bipush 6, 2) := by decide +kernel
theorem dL_areStems_90 : decode cL_areStems 90 = .ok (.irem, 1) := by decide +kernel
theorem dL_areStems_91 : decode cL_areStems 91 = .ok (.iconst 0, 1) := by decide +kernel
theorem dL_areStems_92 : decode cL_areStems 92 = .ok (.invokevirtual 88, 3) := by decide +kernel
theorem dL_areStems_95 : decode cL_areStems 95 = .ok (.ldc 48, 2) := by decide +kernel
theorem dL_areStems_97 : decode cL_areStems 97 = .ok (.if_icmp .ne 7, 3) := by decide +kernel
theorem dL_areStems_100 : decode cL_areStems 100 = .ok (.iconst 1, 1) := by decide +kernel
theorem dL_areStems_101 : decode cL_areStems 101 = .ok (.goto 4, 3) := by decide +kernel
theorem dL_areStems_104 : decode cL_areStems 104 = .ok (.iconst 0, 1) := by decide +kernel
theorem dL_areStems_105 : decode cL_areStems 105 = .ok (.istore 7, 2) := by decide +kernel
theorem dL_areStems_107 : decode cL_areStems 107 = .ok (.goto 374, 3) := by decide +kernel
theorem dL_areStems_110 : decode cL_areStems 110 = .ok (.iconst 0, 1) := by decide +kernel
theorem dL_areStems_111 : decode cL_areStems 111 = .ok (.istore 11, 2) := by decide +kernel
theorem dL_areStems_113 : decode cL_areStems 113 = .ok (.iconst 0, 1) := by decide +kernel
theorem dL_areStems_114 : decode cL_areStems 114 = .ok (.istore 12, 2) := by decide +kernel
theorem dL_areStems_116 : decode cL_areStems 116 = .ok (.iconst 0, 1) := by decide +kernel
theorem dL_areStems_117 : decode cL_areStems 117 = .ok (.istore 13, 2) := by decide +kernel
theorem dL_areStems_119 : decode cL_areStems 119 = .ok (.iload 13, 2) := by decide +kernel
theorem dL_areStems_121 : decode cL_areStems 121 = .ok (.bipush 48, 2) := by decide +kernel
theorem dL_areStems_123 : decode cL_areStems 123 = .ok (.if_icmp .ge 102, 3) := by decide +kernel
theorem dL_areStems_126 : decode cL_areStems 126 = .ok (.iload 13, 2) := by decide +kernel
theorem dL_areStems_128 : decode cL_areStems 128 = .ok (.bipush 6, 2) := by decide +kernel
theorem dL_areStems_130 : decode cL_areStems 130 = .ok (.idiv, 1) := by decide +kernel
theorem dL_areStems_131 : decode cL_areStems 131 = .ok (.aload_n 1, 1) := by decide +kernel
theorem dL_areStems_132 : decode cL_areStems 132 = .ok (.iconst 0, 1) := by decide +kernel
theorem dL_areStems_133 : decode cL_areStems 133 = .ok (.iaload, 1) := by decide +kernel
theorem dL_areStems_134 : decode cL_areStems 134 = .ok (.if_icmp .ge 45, 3) := by decide +kernel
theorem dL_areStems_137 : decode cL_areStems 137 = .ok (.iload 13, 2) := by decide +kernel
theorem dL_areStems_139 : decode cL_areStems 139 = .ok (.bipush 6, 2) := by decide +kernel
theorem dL_areStems_141 : decode cL_areStems 141 = .ok (.irem, 1) := by decide +kernel
theorem dL_areStems_142 : decode cL_areStems 142 = .ok (.aload_n 2, 1) := by decide +kernel
theorem dL_areStems_143 : decode cL_areStems 143 = .ok (.iload 13, 2) := by decide +kernel
theorem dL_areStems_145 : decode cL_areStems 145 = .ok (.bipush 6, 2) := by decide +kernel
theorem dL_areStems_147 : decode cL_areStems 147 = .ok (.idiv, 1) := by decide +kernel
theorem dL_areStems_148 : decode cL_areStems 148 = .ok (.iaload, 1) := by decide +kernel
theorem dL_areStems_149 : decode cL_areStems 149 = .ok (.if_icmp .ge 30, 3) := by decide +kernel
theorem dL_areStems_152 : decode cL_areStems 152 = .ok (.aload_n 1, 1) := by decide +kernel
theorem dL_areStems_153 : decode cL_areStems 153 = .ok (.aload 4, 2) := by decide +kernel
theorem dL_areStems_155 : decode cL_areStems 155 = .ok (.aload 6, 2) := by decide +kernel
theorem dL_areStems_157 : decode cL_areStems 157 = .ok (.iload 13, 2) := by decide +kernel
theorem dL_areStems_159 : decode cL_areStems 159 = .ok (.invokestatic 19, 3) := by decide +kernel
theorem dL_areStems_162 : decode cL_areStems 162 = .ok (.aload_n 1, 1) := by decide +kernel
theorem dL_areStems_163 : decode cL_areStems 163 = .ok (.aload 4, 2) := by decide +kernel
theorem dL_areStems_165 : decode cL_areStems 165 = .ok (.aload 6, 2) := by decide +kernel
theorem dL_areStems_167 : decode cL_areStems 167 = .ok (.iload 10, 2) := by decide +kernel
theorem dL_areStems_169 : decode cL_areStems 169 = .ok (.invokestatic 19, 3) := by decide +kernel
theorem dL_areStems_172 : decode cL_areStems 172 = .ok (.if_icmp .ne 7, 3) := by decide +kernel
theorem dL_areStems_175 : decode cL_areStems 175 = .ok (.iconst 1, 1) := by decide +kernel
theorem dL_areStems_176 : decode cL_areStems 176 = .ok (.goto 4, 3) := by decide +kernel
theorem dL_areStems_179 : decode cL_areStems 179 = .ok (.iconst 0, 1) := by decide +kernel
theorem dL_areStems_180 : decode cL_areStems 180 = .ok (.istore 14, 2) := by decide +kernel
theorem dL_areStems_182 : decode cL_areStems 182 = .ok (.iload 11, 2) := by decide +kernel
theorem dL_areStems_184 : decode cL_areStems 184 = .ok (.iload 14, 2) := by decide +kernel
theorem dL_areStems_186 : decode cL_areStems 186 = .ok (.ifCond .eq 7, 3) := by decide +kernel
theorem dL_areStems_189 : decode cL_areStems 189 = .ok (.iconst 1, 1) := by decide +kernel
theorem dL_areStems_190 : decode cL_areStems 190 = .ok (.goto 4, 3) := by decide +kernel
theorem dL_areStems_193 : decode cL_areStems 193 = .ok (.iconst 0, 1) := by decide +kernel
theorem dL_areStems_194 : decode cL_areStems 194 = .ok (.iadd, 1) := by decide +kernel
theorem dL_areStems_195 : decode cL_areStems 195 = .ok (.istore 11, 2) := by decide +kernel
theorem dL_areStems_197 : decode cL_areStems 197 = .ok (.iload 12, 2) := by decide +kernel
theorem dL_areStems_199 : decode cL_areStems 199 = .ok (.iload 14, 2) := by decide +kernel
theorem dL_areStems_201 : decode cL_areStems 201 = .ok (.ifCond .eq 14, 3) := by decide +kernel
theorem dL_areStems_204 : decode cL_areStems 204 = .ok (.iload 13, 2) := by decide +kernel
theorem dL_areStems_206 : decode cL_areStems 206 = .ok (.iload 10, 2) := by decide +kernel
theorem dL_areStems_208 : decode cL_areStems 208 = .ok (.if_icmp .ge 7, 3) := by decide +kernel
theorem dL_areStems_211 : decode cL_areStems 211 = .ok (.iconst 1, 1) := by decide +kernel
theorem dL_areStems_212 : decode cL_areStems 212 = .ok (.goto 4, 3) := by decide +kernel
theorem dL_areStems_215 : decode cL_areStems 215 = .ok (.iconst 0, 1) := by decide +kernel
theorem dL_areStems_216 : decode cL_areStems 216 = .ok (.iadd, 1) := by decide +kernel
theorem dL_areStems_217 : decode cL_areStems 217 = .ok (.istore 12, 2) := by decide +kernel
theorem dL_areStems_219 : decode cL_areStems 219 = .ok (.iinc 13 1, 3) := by decide +kernel
theorem dL_areStems_222 : decode cL_areStems 222 = .ok (.goto (-103), 3) := by decide +kernel
theorem dL_areStems_225 : decode cL_areStems 225 = .ok (.iinc 8 1, 3) := by decide +kernel
theorem dL_areStems_228 : decode cL_areStems 228 = .ok (.iload 9, 2) := by decide +kernel
theorem dL_areStems_230 : decode cL_areStems 230 = .ok (.iload 12, 2) := by decide +kernel
theorem dL_areStems_232 : decode cL_areStems 232 = .ok (.ifCond .ne 7, 3) := by decide +kernel
theorem dL_areStems_235 : decode cL_areStems 235 = .ok (.iconst 1, 1) := by decide +kernel
theorem dL_areStems_236 : decode cL_areStems 236 = .ok (.goto 4, 3) := by decide +kernel
theorem dL_areStems_239 : decode cL_areStems 239 = .ok (.iconst 0, 1) := by decide +kernel
theorem dL_areStems_240 : decode cL_areStems 240 = .ok (.iadd, 1) := by decide +kernel
theorem dL_areStems_241 : decode cL_areStems 241 = .ok (.istore 9, 2) := by decide +kernel
theorem dL_areStems_243 : decode cL_areStems 243 = .ok (.aload_n 1, 1) := by decide +kernel
theorem dL_areStems_244 : decode cL_areStems 244 = .ok (.aload 6, 2) := by decide +kernel
theorem dL_areStems_246 : decode cL_areStems 246 = .ok (.aload 4, 2) := by decide +kernel
theorem dL_areStems_248 : decode cL_areStems 248 = .ok (.iload 10, 2) := by decide +kernel
theorem dL_areStems_250 : decode cL_areStems 250 = .ok (.iaload, 1) := by decide +kernel
theorem dL_areStems_251 : decode cL_areStems 251 = .ok (.invokestatic 15, 3) := by decide +kernel
theorem dL_areStems_254 : decode cL_areStems 254 = .ok (.istore 13, 2) := by decide +kernel
theorem dL_areStems_256 : decode cL_areStems 256 = .ok (.aload_n 0, 1) := by decide +kernel
theorem dL_areStems_257 : decode cL_areStems 257 = .ok (.iload 10, 2) := by decide +kernel
theorem dL_areStems_259 : decode cL_areStems 259 = .ok (.bipush 6, 2) := by decide +kernel
theorem dL_areStems_261 : decode cL_areStems 261 = .ok (.idiv, 1) := by decide +kernel
theorem dL_areStems_262 : decode cL_areStems 262 = .ok (.iload 10, 2) := by decide +kernel
theorem dL_areStems_264 : decode cL_areStems 264 = .ok (.bipush 6, 2) := by decide +kernel
theorem dL_areStems_266 : decode cL_areStems 266 = .ok (.irem, 1) := by decide +kernel
theorem dL_areStems_267 : decode cL_areStems 267 = .ok (.iconst 0, 1) := by decide +kernel
theorem dL_areStems_268 : decode cL_areStems 268 = .ok (.invokevirtual 88, 3) := by decide +kernel
theorem dL_areStems_271 : decode cL_areStems 271 = .ok (.aload_n 3, 1) := by decide +kernel
theorem dL_areStems_272 : decode cL_areStems 272 = .ok (.iload 10, 2) := by decide +kernel
theorem dL_areStems_274 : decode cL_areStems 274 = .ok (.iaload, 1) := by decide +kernel
theorem dL_areStems_275 : decode cL_areStems 275 = .ok (.if_icmp .ne 203, 3) := by decide +kernel
theorem dL_areStems_278 : decode cL_areStems 278 = .ok (.aload_n 0, 1) := by decide +kernel
theorem dL_areStems_279 : decode cL_areStems 279 = .ok (.iload 10, 2) := by decide +kernel
theorem dL_areStems_281 : decode cL_areStems 281 = .ok (.bipush 6, 2) := by decide +kernel
theorem dL_areStems_283 : decode cL_areStems 283 = .ok (.idiv, 1) := by decide +kernel
theorem dL_areStems_284 : decode cL_areStems 284 = .ok (.iload 10, 2) := by decide +kernel
theorem dL_areStems_286 : decode cL_areStems 286 = .ok (.bipush 6, 2) := by decide +kernel
theorem dL_areStems_288 : decode cL_areStems 288 = .ok (.irem, 1) := by decide +kernel
theorem dL_areStems_289 : decode cL_areStems 289 = .ok (.iconst 1, 1) := by decide +kernel
theorem dL_areStems_290 : decode cL_areStems 290 = .ok (.invokevirtual 88, 3) := by decide +kernel
theorem dL_areStems_293 : decode cL_areStems 293 = .ok (.aload 4, 2) := by decide +kernel
theorem dL_areStems_295 : decode cL_areStems 295 = .ok (.iload 10, 2) := by decide +kernel
theorem dL_areStems_297 : decode cL_areStems 297 = .ok (.iaload, 1) := by decide +kernel
theorem dL_areStems_298 : decode cL_areStems 298 = .ok (.if_icmp .ne 180, 3) := by decide +kernel
theorem dL_areStems_301 : decode cL_areStems 301 = .ok (.aload_n 0, 1) := by decide +kernel
theorem dL_areStems_302 : decode cL_areStems 302 = .ok (.iload 10, 2) := by decide +kernel
theorem dL_areStems_304 : decode cL_areStems 304 = .ok (.bipush 6, 2) := by decide +kernel
theorem dL_areStems_306 : decode cL_areStems 306 = .ok (.idiv, 1) := by decide +kernel
theorem dL_areStems_307 : decode cL_areStems 307 = .ok (.iload 10, 2) := by decide +kernel
theorem dL_areStems_309 : decode cL_areStems 309 = .ok (.bipush 6, 2) := by decide +kernel
theorem dL_areStems_311 : decode cL_areStems 311 = .ok (.irem, 1) := by decide +kernel
theorem dL_areStems_312 : decode cL_areStems 312 = .ok (.iconst 2, 1) := by decide +kernel
theorem dL_areStems_313 : decode cL_areStems 313 = .ok (.invokevirtual 88, 3) := by decide +kernel
theorem dL_areStems_316 : decode cL_areStems 316 = .ok (.aload 5, 2) := by decide +kernel
theorem dL_areStems_318 : decode cL_areStems 318 = .ok (.iload 10, 2) := by decide +kernel
theorem dL_areStems_320 : decode cL_areStems 320 = .ok (.iaload, 1) := by decide +kernel
theorem dL_areStems_321 : decode cL_areStems 321 = .ok (.if_icmp .ne 157, 3) := by decide +kernel
theorem dL_areStems_324 : decode cL_areStems 324 = .ok (.aload_n 0, 1) := by decide +kernel
theorem dL_areStems_325 : decode cL_areStems 325 = .ok (.iload 10, 2) := by decide +kernel
theorem dL_areStems_327 : decode cL_areStems 327 = .ok (.bipush 6, 2) := by decide +kernel
theorem dL_areStems_329 : decode cL_areStems 329 = .ok (.idiv, 1) := by decide +kernel
theorem dL_areStems_330 : decode cL_areStems 330 = .ok (.iload 10, 2) := by decide +kernel
theorem dL_areStems_332 : decode cL_areStems 332 = .ok (.bipush 6, 2) := by decide +kernel
theorem dL_areStems_334 : decode cL_areStems 334 = .ok (.irem, 1) := by decide +kernel
theorem dL_areStems_335 : decode cL_areStems 335 = .ok (.iconst 3, 1) := by decide +kernel
theorem dL_areStems_336 : decode cL_areStems 336 = .ok (.invokevirtual 88, 3) := by decide +kernel
theorem dL_areStems_339 : decode cL_areStems 339 = .ok (.aload_n 1, 1) := by decide +kernel
theorem dL_areStems_340 : decode cL_areStems 340 = .ok (.aload 4, 2) := by decide +kernel
theorem dL_areStems_342 : decode cL_areStems 342 = .ok (.aload 6, 2) := by decide +kernel
theorem dL_areStems_344 : decode cL_areStems 344 = .ok (.iload 10, 2) := by decide +kernel
theorem dL_areStems_346 : decode cL_areStems 346 = .ok (.invokestatic 19, 3) := by decide +kernel
theorem dL_areStems_349 : decode cL_areStems 349 = .ok (.if_icmp .ne 129, 3) := by decide +kernel
theorem dL_areStems_352 : decode cL_areStems 352 = .ok (.aload_n 0, 1) := by decide +kernel
theorem dL_areStems_353 : decode cL_areStems 353 = .ok (.iload 10, 2) := by decide +kernel
theorem dL_areStems_355 : decode cL_areStems 355 = .ok (.bipush 6, 2) := by decide +kernel
theorem dL_areStems_357 : decode cL_areStems 357 = .ok (.idiv, 1) := by decide +kernel
theorem dL_areStems_358 : decode cL_areStems 358 = .ok (.iload 10, 2) := by decide +kernel
theorem dL_areStems_360 : decode cL_areStems 360 = .ok (.bipush 6, 2) := by decide +kernel
theorem dL_areStems_362 : decode cL_areStems 362 = .ok (.irem, 1) := by decide +kernel
theorem dL_areStems_363 : decode cL_areStems 363 = .ok (.iconst 4, 1) := by decide +kernel
theorem dL_areStems_364 : decode cL_areStems 364 = .ok (.invokevirtual 88, 3) := by decide +kernel
theorem dL_areStems_367 : decode cL_areStems 367 = .ok (.iload 13, 2) := by decide +kernel
theorem dL_areStems_369 : decode cL_areStems 369 = .ok (.ifCond .ne 8, 3) := by decide +kernel
theorem dL_areStems_372 : decode cL_areStems 372 = .ok (.ldc 91, 2) := by decide +kernel
theorem dL_areStems_374 : decode cL_areStems 374 = .ok (.goto 5, 3) := by decide +kernel
theorem dL_areStems_377 : decode cL_areStems 377 = .ok (.iload 13, 2) := by decide +kernel
theorem dL_areStems_379 : decode cL_areStems 379 = .ok (.if_icmp .ne 99, 3) := by decide +kernel
theorem dL_areStems_382 : decode cL_areStems 382 = .ok (.aload_n 0, 1) := by decide +kernel
theorem dL_areStems_383 : decode cL_areStems 383 = .ok (.iload 10, 2) := by decide +kernel
theorem dL_areStems_385 : decode cL_areStems 385 = .ok (.bipush 6, 2) := by decide +kernel
theorem dL_areStems_387 : decode cL_areStems 387 = .ok (.idiv, 1) := by decide +kernel
theorem dL_areStems_388 : decode cL_areStems 388 = .ok (.iload 10, 2) := by decide +kernel
theorem dL_areStems_390 : decode cL_areStems 390 = .ok (.bipush 6, 2) := by decide +kernel
theorem dL_areStems_392 : decode cL_areStems 392 = .ok (.irem, 1) := by decide +kernel
theorem dL_areStems_393 : decode cL_areStems 393 = .ok (.iconst 5, 1) := by decide +kernel
theorem dL_areStems_394 : decode cL_areStems 394 = .ok (.invokevirtual 88, 3) := by decide +kernel
theorem dL_areStems_397 : decode cL_areStems 397 = .ok (.iload 11, 2) := by decide +kernel
theorem dL_areStems_399 : decode cL_areStems 399 = .ok (.if_icmp .ne 79, 3) := by decide +kernel
theorem dL_areStems_402 : decode cL_areStems 402 = .ok (.aload_n 0, 1) := by decide +kernel
theorem dL_areStems_403 : decode cL_areStems 403 = .ok (.iload 10, 2) := by decide +kernel
theorem dL_areStems_405 : decode cL_areStems 405 = .ok (.bipush 6, 2) := by decide +kernel
theorem dL_areStems_407 : decode cL_areStems 407 = .ok (.idiv, 1) := by decide +kernel
theorem dL_areStems_408 : decode cL_areStems 408 = .ok (.iload 10, 2) := by decide +kernel
theorem dL_areStems_410 : decode cL_areStems 410 = .ok (.bipush 6, 2) := by decide +kernel
theorem dL_areStems_412 : decode cL_areStems 412 = .ok (.irem, 1) := by decide +kernel
theorem dL_areStems_413 : decode cL_areStems 413 = .ok (.bipush 6, 2) := by decide +kernel
theorem dL_areStems_415 : decode cL_areStems 415 = .ok (.invokevirtual 88, 3) := by decide +kernel
theorem dL_areStems_418 : decode cL_areStems 418 = .ok (.iload 10, 2) := by decide +kernel
theorem dL_areStems_420 : decode cL_areStems 420 = .ok (.bipush 6, 2) := by decide +kernel
theorem dL_areStems_422 : decode cL_areStems 422 = .ok (.irem, 1) := by decide +kernel
theorem dL_areStems_423 : decode cL_areStems 423 = .ok (.ifCond .ne 8, 3) := by decide +kernel
theorem dL_areStems_426 : decode cL_areStems 426 = .ok (.ldc 91, 2) := by decide +kernel
theorem dL_areStems_428 : decode cL_areStems 428 = .ok (.goto 22, 3) := by decide +kernel
theorem dL_areStems_431 : decode cL_areStems 431 = .ok (.aload_n 3, 1) := by decide +kernel
theorem dL_areStems_432 : decode cL_areStems 432 = .ok (.iload 10, 2) := by decide +kernel
theorem dL_areStems_434 : decode cL_areStems 434 = .ok (.iaload, 1) := by decide +kernel
theorem dL_areStems_435 : decode cL_areStems 435 = .ok (.aload_n 3, 1) := by decide +kernel
theorem dL_areStems_436 : decode cL_areStems 436 = .ok (.iload 10, 2) := by decide +kernel
theorem dL_areStems_438 : decode cL_areStems 438 = .ok (.iconst 1, 1) := by decide +kernel
theorem dL_areStems_439 : decode cL_areStems 439 = .ok (.isub, 1) := by decide +kernel
theorem dL_areStems_440 : decode cL_areStems 440 = .ok (.iaload, 1) := by decide +kernel
theorem dL_areStems_441 : decode cL_areStems 441 = .ok (.isub, 1) := by decide +kernel
theorem dL_areStems_442 : decode cL_areStems 442 = .ok (.aload 4, 2) := by decide +kernel
theorem dL_areStems_444 : decode cL_areStems 444 = .ok (.iload 10, 2) := by decide +kernel
theorem dL_areStems_446 : decode cL_areStems 446 = .ok (.iconst 1, 1) := by decide +kernel
theorem dL_areStems_447 : decode cL_areStems 447 = .ok (.isub, 1) := by decide +kernel
theorem dL_areStems_448 : decode cL_areStems 448 = .ok (.iaload, 1) := by decide +kernel
theorem dL_areStems_449 : decode cL_areStems 449 = .ok (.isub, 1) := by decide +kernel
theorem dL_areStems_450 : decode cL_areStems 450 = .ok (.if_icmp .ne 28, 3) := by decide +kernel
theorem dL_areStems_453 : decode cL_areStems 453 = .ok (.aload_n 0, 1) := by decide +kernel
theorem dL_areStems_454 : decode cL_areStems 454 = .ok (.iload 10, 2) := by decide +kernel
theorem dL_areStems_456 : decode cL_areStems 456 = .ok (.bipush 6, 2) := by decide +kernel
theorem dL_areStems_458 : decode cL_areStems 458 = .ok (.idiv, 1) := by decide +kernel
theorem dL_areStems_459 : decode cL_areStems 459 = .ok (.iload 10, 2) := by decide +kernel
theorem dL_areStems_461 : decode cL_areStems 461 = .ok (.bipush 6, 2) := by decide +kernel
theorem dL_areStems_463 : decode cL_areStems 463 = .ok (.irem, 1) := by decide +kernel
theorem dL_areStems_464 : decode cL_areStems 464 = .ok (.bipush 7, 2) := by decide +kernel
theorem dL_areStems_466 : decode cL_areStems 466 = .ok (.invokevirtual 88, 3) := by decide +kernel
theorem dL_areStems_469 : decode cL_areStems 469 = .ok (.ldc 48, 2) := by decide +kernel
theorem dL_areStems_471 : decode cL_areStems 471 = .ok (.if_icmp .ne 7, 3) := by decide +kernel
theorem dL_areStems_474 : decode cL_areStems 474 = .ok (.iconst 1, 1) := by decide +kernel
theorem dL_areStems_475 : decode cL_areStems 475 = .ok (.goto 4, 3) := by decide +kernel
theorem dL_areStems_478 : decode cL_areStems 478 = .ok (.iconst 0, 1) := by decide +kernel
theorem dL_areStems_479 : decode cL_areStems 479 = .ok (.istore 7, 2) := by decide +kernel
theorem dL_areStems_481 : decode cL_areStems 481 = .ok (.iinc 10 1, 3) := by decide +kernel
theorem dL_areStems_484 : decode cL_areStems 484 = .ok (.goto (-442), 3) := by decide +kernel
theorem dL_areStems_487 : decode cL_areStems 487 = .ok (.iload 7, 2) := by decide +kernel
theorem dL_areStems_489 : decode cL_areStems 489 = .ok (.ifCond .eq 27, 3) := by decide +kernel
theorem dL_areStems_492 : decode cL_areStems 492 = .ok (.aload_n 0, 1) := by decide +kernel
theorem dL_areStems_493 : decode cL_areStems 493 = .ok (.iconst 1, 1) := by decide +kernel
theorem dL_areStems_494 : decode cL_areStems 494 = .ok (.invokevirtual 92, 3) := by decide +kernel
theorem dL_areStems_497 : decode cL_areStems 497 = .ok (.iload 8, 2) := by decide +kernel
theorem dL_areStems_499 : decode cL_areStems 499 = .ok (.if_icmp .ne 17, 3) := by decide +kernel
theorem dL_areStems_502 : decode cL_areStems 502 = .ok (.aload_n 0, 1) := by decide +kernel
theorem dL_areStems_503 : decode cL_areStems 503 = .ok (.iconst 5, 1) := by decide +kernel
theorem dL_areStems_504 : decode cL_areStems 504 = .ok (.invokevirtual 92, 3) := by decide +kernel
theorem dL_areStems_507 : decode cL_areStems 507 = .ok (.iload 9, 2) := by decide +kernel
theorem dL_areStems_509 : decode cL_areStems 509 = .ok (.if_icmp .ne 7, 3) := by decide +kernel
theorem dL_areStems_512 : decode cL_areStems 512 = .ok (.iconst 1, 1) := by decide +kernel
theorem dL_areStems_513 : decode cL_areStems 513 = .ok (.goto 4, 3) := by decide +kernel
theorem dL_areStems_516 : decode cL_areStems 516 = .ok (.iconst 0, 1) := by decide +kernel
theorem dL_areStems_517 : decode cL_areStems 517 = .ok (.ireturn, 1) := by decide +kernel
theorem dL_areSheets_0 : decode cL_areSheets 0 = .ok (.iconst 0, 1) := by decide +kernel
theorem dL_areSheets_1 : decode cL_areSheets 1 = .ok (.istore 13, 2) := by decide +kernel
theorem dL_areSheets_3 : decode cL_areSheets 3 = .ok (.iconst 0, 1) := by decide +kernel
theorem dL_areSheets_4 : decode cL_areSheets 4 = .ok (.istore 14, 2) := by decide +kernel
theorem dL_areSheets_6 : decode cL_areSheets 6 = .ok (.aload_n 0, 1) := by decide +kernel
theorem dL_areSheets_7 : decode cL_areSheets 7 = .ok (.iconst (-1), 1) := by decide +kernel
theorem dL_areSheets_8 : decode cL_areSheets 8 = .ok (.iconst 0, 1) := by decide +kernel
theorem dL_areSheets_9 : decode cL_areSheets 9 = .ok (.invokevirtual 95, 3) := by decide +kernel
theorem dL_areSheets_12 : decode cL_areSheets 12 = .ok (.ldc 48, 2) := by decide +kernel
theorem dL_areSheets_14 : decode cL_areSheets 14 = .ok (.if_icmp .ne 18, 3) := by decide +kernel
theorem dL_areSheets_17 : decode cL_areSheets 17 = .ok (.aload_n 0, 1) := by decide +kernel
theorem dL_areSheets_18 : decode cL_areSheets 18 = .ok (.iconst 0, 1) := by decide +kernel
theorem dL_areSheets_19 : decode cL_areSheets 19 = .ok (.iconst 4, 1) := by decide +kernel
theorem dL_areSheets_20 : decode cL_areSheets 20 = .ok (.invokevirtual 95, 3) := by decide +kernel
theorem dL_areSheets_23 : decode cL_areSheets 23 = .ok (.ldc 48, 2) := by decide +kernel
theorem dL_areSheets_25 : decode cL_areSheets 25 = .ok (.if_icmp .ne 7, 3) := by decide +kernel
theorem dL_areSheets_28 : decode cL_areSheets 28 = .ok (.iconst 1, 1) := by decide +kernel
theorem dL_areSheets_29 : decode cL_areSheets 29 = .ok (.goto 4, 3) := by decide +kernel
theorem dL_areSheets_32 : decode cL_areSheets 32 = .ok (.iconst 0, 1) := by decide +kernel
theorem dL_areSheets_33 : decode cL_areSheets 33 = .ok (.istore 15, 2) := by decide +kernel
theorem dL_areSheets_35 : decode cL_areSheets 35 = .ok (.iconst 0, 1) := by decide +kernel
theorem dL_areSheets_36 : decode cL_areSheets 36 = .ok (.istore 16, 2) := by decide +kernel
theorem dL_areSheets_38 : decode cL_areSheets 38 = .ok (.iload 16, 2) := by decide +kernel
theorem dL_areSheets_40 : decode cL_areSheets 40 = .ok (.iconst 4, 1) := by decide +kernel
theorem dL_areSheets_41 : decode cL_areSheets 41 = .ok (.if_icmp .ge 393, 3) := by decide +kernel
theorem dL_areSheets_44 : decode cL_areSheets 44 = .ok (.iload 15, 2) := by decide +kernel
theorem dL_areSheets_46 : decode cL_areSheets 46 = .ok (.ifCond .eq 388, 3) := by decide +kernel
theorem dL_areSheets_49 : decode cL_areSheets 49 = .ok (.aload 8, 2) := by decide +kernel
theorem dL_areSheets_51 : decode cL_areSheets 51 = .ok (.iload 16, 2) := by decide +kernel
theorem dL_areSheets_53 : decode cL_areSheets 53 = .ok (.iaload, 1) := by decide +kernel
theorem dL_areSheets_54 : decode cL_areSheets 54 = .ok (.ifCond .le 18, 3) := by decide +kernel
theorem dL_areSheets_57 : decode cL_areSheets 57 = .ok (.aload 9, 2) := by decide +kernel
theorem dL_areSheets_59 : decode cL_areSheets 59 = .ok (.iload 16, 2) := by decide +kernel
theorem dL_areSheets_61 : decode cL_areSheets 61 = .ok (.iaload, 1) := by decide +kernel
theorem dL_areSheets_62 : decode cL_areSheets 62 = .ok (.aload_n 1, 1) := by decide +kernel
theorem dL_areSheets_63 : decode cL_areSheets 63 = .ok (.iconst 0, 1) := by decide +kernel
theorem dL_areSheets_64 : decode cL_areSheets 64 = .ok (.iaload, 1) := by decide +kernel
theorem dL_areSheets_65 : decode cL_areSheets 65 = .ok (.if_icmp .eq 7, 3) := by decide +kernel
theorem dL_areSheets_68 : decode cL_areSheets 68 = .ok (.iconst 1, 1) := by decide +kernel
theorem dL_areSheets_69 : decode cL_areSheets 69 = .ok (.goto 4, 3) := by decide +kernel
theorem dL_areSheets_72 : decode cL_areSheets 72 = .ok (.iconst 0, 1) := by decide +kernel
theorem dL_areSheets_73 : decode cL_areSheets 73 = .ok (.istore 17, 2) := by decide +kernel
theorem dL_areSheets_75 : decode cL_areSheets 75 = .ok (.iconst 0, 1) := by decide +kernel
theorem dL_areSheets_76 : decode cL_areSheets 76 = .ok (.istore 18, 2) := by decide +kernel
theorem dL_areSheets_78 : decode cL_areSheets 78 = .ok (.iconst 0, 1) := by decide +kernel
theorem dL_areSheets_79 : decode cL_areSheets 79 = .ok (.istore 19, 2) := by decide +kernel
theorem dL_areSheets_81 : decode cL_areSheets 81 = .ok (.iload 19, 2) := by decide +kernel
theorem dL_areSheets_83 : decode cL_areSheets 83 = .ok (.aload 9, 2) := by decide +kernel
theorem dL_areSheets_85 : decode cL_areSheets 85 = .ok (.iload 16, 2) := by decide +kernel
theorem dL_areSheets_87 : decode cL_areSheets 87 = .ok (.iaload, 1) := by decide +kernel
theorem dL_areSheets_88 : decode cL_areSheets 88 = .ok (.if_icmp .ge 109, 3) := by decide +kernel
theorem dL_areSheets_91 : decode cL_areSheets 91 = .ok (.aload 8, 2) := by decide +kernel
theorem dL_areSheets_93 : decode cL_areSheets 93 = .ok (.iload 16, 2) := by decide +kernel
theorem dL_areSheets_95 : decode cL_areSheets 95 = .ok (.iaload, 1) := by decide +kernel
theorem dL_areSheets_96 : decode cL_areSheets 96 = .ok (.ifCond .le 101, 3) := by decide +kernel
theorem dL_areSheets_99 : decode cL_areSheets 99 = .ok (.iload 18, 2) := by decide +kernel
theorem dL_areSheets_101 : decode cL_areSheets 101 = .ok (.aload 11, 2) := by decide +kernel
theorem dL_areSheets_103 : decode cL_areSheets 103 = .ok (.bipush 8, 2) := by decide +kernel
theorem dL_areSheets_105 : decode cL_areSheets 105 = .ok (.iload 16, 2) := by decide +kernel
theorem dL_areSheets_107 : decode cL_areSheets 107 = .ok (.imul, 1) := by decide +kernel
theorem dL_areSheets_108 : decode cL_areSheets 108 = .ok (.iload 19, 2) := by decide +kernel
theorem dL_areSheets_110 : decode cL_areSheets 110 = .ok (.iadd, 1) := by decide +kernel
theorem dL_areSheets_111 : decode cL_areSheets 111 = .ok (.laload, 1) := by decide +kernel
theorem dL_areSheets_112 : decode cL_areSheets 112 = .ok (.invokestatic 98, 3) := by decide +kernel
theorem dL_areSheets_115 : decode cL_areSheets 115 = .ok (.iadd, 1) := by decide +kernel
theorem dL_areSheets_116 : decode cL_areSheets 116 = .ok (.istore 18, 2) := by decide +kernel
theorem dL_areSheets_118 : decode cL_areSheets 118 = .ok (.iload 17, 2) := by decide +kernel
theorem dL_areSheets_120 : decode cL_areSheets 120 = .ok (.ifCond .ne 64, 3) := by decide +kernel
theorem dL_areSheets_123 : decode cL_areSheets 123 = .ok (.aload 10, 2) := by decide +kernel
theorem dL_areSheets_125 : decode cL_areSheets 125 = .ok (.bipush 8, 2) := by decide +kernel
theorem dL_areSheets_127 : decode cL_areSheets 127 = .ok (.iload 16, 2) := by decide +kernel
theorem dL_areSheets_129 : decode cL_areSheets 129 = .ok (.imul, 1) := by decide +kernel
theorem dL_areSheets_130 : decode cL_areSheets 130 = .ok (.iload 19, 2) := by decide +kernel
theorem dL_areSheets_132 : decode cL_areSheets 132 = .ok (.iadd, 1) := by decide +kernel
theorem dL_areSheets_133 : decode cL_areSheets 133 = .ok (.iaload, 1) := by decide +kernel
theorem dL_areSheets_134 : decode cL_areSheets 134 = .ok (.aload_n 2, 1) := by decide +kernel
theorem dL_areSheets_135 : decode cL_areSheets 135 = .ok (.iload 19, 2) := by decide +kernel
theorem dL_areSheets_137 : decode cL_areSheets 137 = .ok (.aload 8, 2) := by decide +kernel
theorem dL_areSheets_139 : decode cL_areSheets 139 = .ok (.iload 16, 2) := by decide +kernel
theorem dL_areSheets_141 : decode cL_areSheets 141 = .ok (.iaload, 1) := by decide +kernel
theorem dL_areSheets_142 : decode cL_areSheets 142 = .ok (.invokestatic 30, 3) := by decide +kernel
theorem dL_areSheets_145 : decode cL_areSheets 145 = .ok (.if_icmp .ne 39, 3) := by decide +kernel
theorem dL_areSheets_148 : decode cL_areSheets 148 = .ok (.aload 11, 2) := by decide +kernel
theorem dL_areSheets_150 : decode cL_areSheets 150 = .ok (.bipush 8, 2) := by decide +kernel
theorem dL_areSheets_152 : decode cL_areSheets 152 = .ok (.iload 16, 2) := by decide +kernel
theorem dL_areSheets_154 : decode cL_areSheets 154 = .ok (.imul, 1) := by decide +kernel
theorem dL_areSheets_155 : decode cL_areSheets 155 = .ok (.iload 19, 2) := by decide +kernel
theorem dL_areSheets_157 : decode cL_areSheets 157 = .ok (.iadd, 1) := by decide +kernel
theorem dL_areSheets_158 : decode cL_areSheets 158 = .ok (.laload, 1) := by decide +kernel
theorem dL_areSheets_159 : decode cL_areSheets 159 = .ok (.aload_n 1, 1) := by decide +kernel
theorem dL_areSheets_160 : decode cL_areSheets 160 = .ok (.aload_n 2, 1) := by decide +kernel
theorem dL_areSheets_161 : decode cL_areSheets 161 = .ok (.aload_n 3, 1) := by decide +kernel
theorem dL_areSheets_162 : decode cL_areSheets 162 = .ok (.aload 4, 2) := by decide +kernel
theorem dL_areSheets_164 : decode cL_areSheets 164 = .ok (.aload 5, 2) := by decide +kernel
theorem dL_areSheets_166 : decode cL_areSheets 166 = .ok (.aload 6, 2) := by decide +kernel
theorem dL_areSheets_168 : decode cL_areSheets 168 = .ok (.aload 7, 2) := by decide +kernel
theorem dL_areSheets_170 : decode cL_areSheets 170 = .ok (.iload 19, 2) := by decide +kernel
theorem dL_areSheets_172 : decode cL_areSheets 172 = .ok (.aload 8, 2) := by decide +kernel
theorem dL_areSheets_174 : decode cL_areSheets 174 = .ok (.iload 16, 2) := by decide +kernel
theorem dL_areSheets_176 : decode cL_areSheets 176 = .ok (.iaload, 1) := by decide +kernel
theorem dL_areSheets_177 : decode cL_areSheets 177 = .ok (.invokestatic 38, 3) := by decide +kernel
theorem dL_areSheets_180 : decode cL_areSheets 180 = .ok (.lcmp, 1) := by decide +kernel
theorem dL_areSheets_181 : decode cL_areSheets 181 = .ok (.ifCond .eq 7, 3) := by decide +kernel
theorem dL_areSheets_184 : decode cL_areSheets 184 = .ok (.iconst 1, 1) := by decide +kernel
theorem dL_areSheets_185 : decode cL_areSheets 185 = .ok (.goto 4, 3) := by decide +kernel
theorem dL_areSheets_188 : decode cL_areSheets 188 = .ok (.iconst 0, 1) := by decide +kernel
theorem dL_areSheets_189 : decode cL_areSheets 189 = .ok (.istore 17, 2) := by decide +kernel
theorem dL_areSheets_191 : decode cL_areSheets 191 = .ok (.iinc 19 1, 3) := by decide +kernel
theorem dL_areSheets_194 : decode cL_areSheets 194 = .ok (.goto (-113), 3) := by decide +kernel
theorem dL_areSheets_197 : decode cL_areSheets 197 = .ok (.iload 13, 2) := by decide +kernel
theorem dL_areSheets_199 : decode cL_areSheets 199 = .ok (.aload 8, 2) := by decide +kernel
theorem dL_areSheets_201 : decode cL_areSheets 201 = .ok (.iload 16, 2) := by decide +kernel
theorem dL_areSheets_203 : decode cL_areSheets 203 = .ok (.iaload, 1) := by decide +kernel
theorem dL_areSheets_204 : decode cL_areSheets 204 = .ok (.ifCond .le 7, 3) := by decide +kernel
theorem dL_areSheets_207 : decode cL_areSheets 207 = .ok (.iconst 1, 1) := by decide +kernel
theorem dL_areSheets_208 : decode cL_areSheets 208 = .ok (.goto 4, 3) := by decide +kernel
theorem dL_areSheets_211 : decode cL_areSheets 211 = .ok (.iconst 0, 1) := by decide +kernel
theorem dL_areSheets_212 : decode cL_areSheets 212 = .ok (.iadd, 1) := by decide +kernel
theorem dL_areSheets_213 : decode cL_areSheets 213 = .ok (.istore 13, 2) := by decide +kernel
theorem dL_areSheets_215 : decode cL_areSheets 215 = .ok (.iload 14, 2) := by decide +kernel
theorem dL_areSheets_217 : decode cL_areSheets 217 = .ok (.iload 17, 2) := by decide +kernel
theorem dL_areSheets_219 : decode cL_areSheets 219 = .ok (.ifCond .eq 7, 3) := by decide +kernel
theorem dL_areSheets_222 : decode cL_areSheets 222 = .ok (.iconst 1, 1) := by decide +kernel
theorem dL_areSheets_223 : decode cL_areSheets 223 = .ok (.goto 4, 3) := by decide +kernel
theorem dL_areSheets_226 : decode cL_areSheets 226 = .ok (.iconst 0, 1) := by decide +kernel
theorem dL_areSheets_227 : decode cL_areSheets 227 = .ok (.iadd, 1) := by decide +kernel
theorem dL_areSheets_228 : decode cL_areSheets 228 = .ok (.istore 14, 2) := by decide +kernel
theorem dL_areSheets_230 : decode cL_areSheets 230 = .ok (.aload 8, 2) := by decide +kernel
theorem dL_areSheets_232 : decode cL_areSheets 232 = .ok (.iload 16, 2) := by decide +kernel
theorem dL_areSheets_234 : decode cL_areSheets 234 = .ok (.iaload, 1) := by decide +kernel
theorem dL_areSheets_235 : decode cL_areSheets 235 = .ok (.ifCond .ne 23, 3) := by decide +kernel
theorem dL_areSheets_238 : decode cL_areSheets 238 = .ok (.aload_n 0, 1) := by decide +kernel
theorem dL_areSheets_239 : decode cL_areSheets 239 = .ok (.iload 16, 2) := by decide +kernel
theorem dL_areSheets_241 : decode cL_areSheets 241 = .ok (.iconst 0, 1) := by decide +kernel
theorem dL_areSheets_242 : decode cL_areSheets 242 = .ok (.invokevirtual 95, 3) := by decide +kernel
theorem dL_areSheets_245 : decode cL_areSheets 245 = .ok (.ldc 91, 2) := by decide +kernel
theorem dL_areSheets_247 : decode cL_areSheets 247 = .ok (.if_icmp .ne 7, 3) := by decide +kernel
theorem dL_areSheets_250 : decode cL_areSheets 250 = .ok (.iconst 1, 1) := by decide +kernel
theorem dL_areSheets_251 : decode cL_areSheets 251 = .ok (.goto 74, 3) := by decide +kernel
theorem dL_areSheets_254 : decode cL_areSheets 254 = .ok (.iconst 0, 1) := by decide +kernel
theorem dL_areSheets_255 : decode cL_areSheets 255 = .ok (.goto 70, 3) := by decide +kernel
theorem dL_areSheets_258 : decode cL_areSheets 258 = .ok (.aload_n 0, 1) := by decide +kernel
theorem dL_areSheets_259 : decode cL_areSheets 259 = .ok (.iload 16, 2) := by decide +kernel
theorem dL_areSheets_261 : decode cL_areSheets 261 = .ok (.iconst 0, 1) := by decide +kernel
theorem dL_areSheets_262 : decode cL_areSheets 262 = .ok (.invokevirtual 95, 3) := by decide +kernel
theorem dL_areSheets_265 : decode cL_areSheets 265 = .ok (.aload 8, 2) := by decide +kernel
theorem dL_areSheets_267 : decode cL_areSheets 267 = .ok (.iload 16, 2) := by decide +kernel
theorem dL_areSheets_269 : decode cL_areSheets 269 = .ok (.iaload, 1) := by decide +kernel
theorem dL_areSheets_270 : decode cL_areSheets 270 = .ok (.if_icmp .ne 54, 3) := by decide +kernel
theorem dL_areSheets_273 : decode cL_areSheets 273 = .ok (.aload_n 0, 1) := by decide +kernel
theorem dL_areSheets_274 : decode cL_areSheets 274 = .ok (.iload 16, 2) := by decide +kernel
theorem dL_areSheets_276 : decode cL_areSheets 276 = .ok (.iconst 1, 1) := by decide +kernel
theorem dL_areSheets_277 : decode cL_areSheets 277 = .ok (.invokevirtual 95, 3) := by decide +kernel
theorem dL_areSheets_280 : decode cL_areSheets 280 = .ok (.aload 9, 2) := by decide +kernel
theorem dL_areSheets_282 : decode cL_areSheets 282 = .ok (.iload 16, 2) := by decide +kernel
theorem dL_areSheets_284 : decode cL_areSheets 284 = .ok (.iaload, 1) := by decide +kernel
theorem dL_areSheets_285 : decode cL_areSheets 285 = .ok (.if_icmp .ne 39, 3) := by decide +kernel
theorem dL_areSheets_288 : decode cL_areSheets 288 = .ok (.aload_n 0, 1) := by decide +kernel
theorem dL_areSheets_289 : decode cL_areSheets 289 = .ok (.iload 16, 2) := by decide +kernel
theorem dL_areSheets_291 : decode cL_areSheets 291 = .ok (.iconst 2, 1) := by decide +kernel
theorem dL_areSheets_292 : decode cL_areSheets 292 = .ok (.invokevirtual 95, 3) := by decide +kernel
theorem dL_areSheets_295 : decode cL_areSheets 295 = .ok (.iload 17, 2) := by decide +kernel
theorem dL_areSheets_297 : decode cL_areSheets 297 = .ok (.ifCond .eq 7, 3) := by decide +kernel
theorem dL_areSheets_300 : decode cL_areSheets 300 = .ok (.iconst 1, 1) := by decide +kernel
theorem dL_areSheets_301 : decode cL_areSheets 301 = .ok (.goto 4, 3) := by decide +kernel
theorem dL_areSheets_304 : decode cL_areSheets 304 = .ok (.iconst 0, 1) := by decide +kernel
theorem dL_areSheets_305 : decode cL_areSheets 305 = .ok (.if_icmp .ne 19, 3) := by decide +kernel
theorem dL_areSheets_308 : decode cL_areSheets 308 = .ok (.aload_n 0, 1) := by decide +kernel
theorem dL_areSheets_309 : decode cL_areSheets 309 = .ok (.iload 16, 2) := by decide +kernel
theorem dL_areSheets_311 : decode cL_areSheets 311 = .ok (.iconst 3, 1) := by decide +kernel
theorem dL_areSheets_312 : decode cL_areSheets 312 = .ok (.invokevirtual 95, 3) := by decide +kernel
theorem dL_areSheets_315 : decode cL_areSheets 315 = .ok (.iload 18, 2) := by decide +kernel
theorem dL_areSheets_317 : decode cL_areSheets 317 = .ok (.if_icmp .ne 7, 3) := by decide +kernel
theorem dL_areSheets_320 : decode cL_areSheets 320 = .ok (.iconst 1, 1) := by decide +kernel
theorem dL_areSheets_321 : decode cL_areSheets 321 = .ok (.goto 4, 3) := by decide +kernel
theorem dL_areSheets_324 : decode cL_areSheets 324 = .ok (.iconst 0, 1) := by decide +kernel
theorem dL_areSheets_325 : decode cL_areSheets 325 = .ok (.istore 15, 2) := by decide +kernel
theorem dL_areSheets_327 : decode cL_areSheets 327 = .ok (.iload 12, 2) := by decide +kernel
theorem dL_areSheets_329 : decode cL_areSheets 329 = .ok (.bipush 8, 2) := by decide +kernel
theorem dL_areSheets_331 : decode cL_areSheets 331 = .ok (.irem, 1) := by decide +kernel
theorem dL_areSheets_332 : decode cL_areSheets 332 = .ok (.istore 19, 2) := by decide +kernel
theorem dL_areSheets_334 : decode cL_areSheets 334 = .ok (.iload 12, 2) := by decide +kernel
theorem dL_areSheets_336 : decode cL_areSheets 336 = .ok (.bipush 8, 2) := by decide +kernel
theorem dL_areSheets_338 : decode cL_areSheets 338 = .ok (.idiv, 1) := by decide +kernel
theorem dL_areSheets_339 : decode cL_areSheets 339 = .ok (.bipush 64, 2) := by decide +kernel
theorem dL_areSheets_341 : decode cL_areSheets 341 = .ok (.irem, 1) := by decide +kernel
theorem dL_areSheets_342 : decode cL_areSheets 342 = .ok (.istore 20, 2) := by decide +kernel
theorem dL_areSheets_344 : decode cL_areSheets 344 = .ok (.iload 15, 2) := by decide +kernel
theorem dL_areSheets_346 : decode cL_areSheets 346 = .ok (.ifCond .eq 79, 3) := by decide +kernel
theorem dL_areSheets_349 : decode cL_areSheets 349 = .ok (.aload 8, 2) := by decide +kernel
theorem dL_areSheets_351 : decode cL_areSheets 351 = .ok (.iload 16, 2) := by decide +kernel
theorem dL_areSheets_353 : decode cL_areSheets 353 = .ok (.iaload, 1) := by decide +kernel
theorem dL_areSheets_354 : decode cL_areSheets 354 = .ok (.ifCond .eq 67, 3) := by decide +kernel
theorem dL_areSheets_357 : decode cL_areSheets 357 = .ok (.aload_n 0, 1) := by decide +kernel
theorem dL_areSheets_358 : decode cL_areSheets 358 = .ok (.aload 8, 2) := by decide +kernel
theorem dL_areSheets_360 : decode cL_areSheets 360 = .ok (.iload 16, 2) := by decide +kernel
theorem dL_areSheets_362 : decode cL_areSheets 362 = .ok (.iaload, 1) := by decide +kernel
theorem dL_areSheets_363 : decode cL_areSheets 363 = .ok (.iload 19, 2) := by decide +kernel
theorem dL_areSheets_365 : decode cL_areSheets 365 = .ok (.iload 20, 2) := by decide +kernel
theorem dL_areSheets_367 : decode cL_areSheets 367 = .ok (.invokevirtual 102, 3) := by decide +kernel
theorem dL_areSheets_370 : decode cL_areSheets 370 = .ok (.iload 19, 2) := by decide +kernel
theorem dL_areSheets_372 : decode cL_areSheets 372 = .ok (.aload 9, 2) := by decide +kernel
theorem dL_areSheets_374 : decode cL_areSheets 374 = .ok (.iload 16, 2) := by decide +kernel
theorem dL_areSheets_376 : decode cL_areSheets 376 = .ok (.iaload, 1) := by decide +kernel
theorem dL_areSheets_377 : decode cL_areSheets 377 = .ok (.if_icmp .ge 19, 3) := by decide +kernel
theorem dL_areSheets_380 : decode cL_areSheets 380 = .ok (.iload 20, 2) := by decide +kernel
theorem dL_areSheets_382 : decode cL_areSheets 382 = .ok (.aload 10, 2) := by decide +kernel
theorem dL_areSheets_384 : decode cL_areSheets 384 = .ok (.bipush 8, 2) := by decide +kernel
theorem dL_areSheets_386 : decode cL_areSheets 386 = .ok (.iload 16, 2) := by decide +kernel
theorem dL_areSheets_388 : decode cL_areSheets 388 = .ok (.imul, 1) := by decide +kernel
theorem dL_areSheets_389 : decode cL_areSheets 389 = .ok (.iload 19, 2) := by decide +kernel
theorem dL_areSheets_391 : decode cL_areSheets 391 = .ok (.iadd, 1) := by decide +kernel
theorem dL_areSheets_392 : decode cL_areSheets 392 = .ok (.iaload, 1) := by decide +kernel
theorem dL_areSheets_393 : decode cL_areSheets 393 = .ok (.if_icmp .lt 8, 3) := by decide +kernel
theorem dL_areSheets_396 : decode cL_areSheets 396 = .ok (.ldc 91, 2) := by decide +kernel
theorem dL_areSheets_398 : decode cL_areSheets 398 = .ok (.goto 20, 3) := by decide +kernel
theorem dL_areSheets_401 : decode cL_areSheets 401 = .ok (.aload 11, 2) := by decide +kernel
theorem dL_areSheets_403 : decode cL_areSheets 403 = .ok (.bipush 8, 2) := by decide +kernel
theorem dL_areSheets_405 : decode cL_areSheets 405 = .ok (.iload 16, 2) := by decide +kernel
theorem dL_areSheets_407 : decode cL_areSheets 407 = .ok (.imul, 1) := by decide +kernel
theorem dL_areSheets_408 : decode cL_areSheets 408 = .ok (.iload 19, 2) := by decide +kernel
theorem dL_areSheets_410 : decode cL_areSheets 410 = .ok (.iadd, 1) := by decide +kernel
theorem dL_areSheets_411 : decode cL_areSheets 411 = .ok (.laload, 1) := by decide +kernel
theorem dL_areSheets_412 : decode cL_areSheets 412 = .ok (.iload 20, 2) := by decide +kernel
theorem dL_areSheets_414 : decode cL_areSheets 414 = .ok (.lshr, 1) := by decide +kernel
theorem dL_areSheets_415 : decode cL_areSheets 415 = .ok (.lconst 1, 1) := by decide +kernel
theorem dL_areSheets_416 : decode cL_areSheets 416 = .ok (.land, 1) := by decide +kernel
theorem dL_areSheets_417 : decode cL_areSheets 417 = .ok (.l2i, 1) := by decide +kernel
theorem dL_areSheets_418 : decode cL_areSheets 418 = .ok (.if_icmp .ne 7, 3) := by decide +kernel
theorem dL_areSheets_421 : decode cL_areSheets 421 = .ok (.iconst 1, 1) := by decide +kernel
theorem dL_areSheets_422 : decode cL_areSheets 422 = .ok (.goto 4, 3) := by decide +kernel
theorem dL_areSheets_425 : decode cL_areSheets 425 = .ok (.iconst 0, 1) := by decide +kernel
theorem dL_areSheets_426 : decode cL_areSheets 426 = .ok (.istore 15, 2) := by decide +kernel
theorem dL_areSheets_428 : decode cL_areSheets 428 = .ok (.iinc 16 1, 3) := by decide +kernel
theorem dL_areSheets_431 : decode cL_areSheets 431 = .ok (.goto (-393), 3) := by decide +kernel
theorem dL_areSheets_434 : decode cL_areSheets 434 = .ok (.iload 15, 2) := by decide +kernel
theorem dL_areSheets_436 : decode cL_areSheets 436 = .ok (.ifCond .eq 39, 3) := by decide +kernel
theorem dL_areSheets_439 : decode cL_areSheets 439 = .ok (.aload_n 0, 1) := by decide +kernel
theorem dL_areSheets_440 : decode cL_areSheets 440 = .ok (.iconst 3, 1) := by decide +kernel
theorem dL_areSheets_441 : decode cL_areSheets 441 = .ok (.invokevirtual 92, 3) := by decide +kernel
theorem dL_areSheets_444 : decode cL_areSheets 444 = .ok (.iload 13, 2) := by decide +kernel
theorem dL_areSheets_446 : decode cL_areSheets 446 = .ok (.if_icmp .ne 29, 3) := by decide +kernel
theorem dL_areSheets_449 : decode cL_areSheets 449 = .ok (.aload_n 0, 1) := by decide +kernel
theorem dL_areSheets_450 : decode cL_areSheets 450 = .ok (.iconst 4, 1) := by decide +kernel
theorem dL_areSheets_451 : decode cL_areSheets 451 = .ok (.invokevirtual 92, 3) := by decide +kernel
theorem dL_areSheets_454 : decode cL_areSheets 454 = .ok (.iload 14, 2) := by decide +kernel
theorem dL_areSheets_456 : decode cL_areSheets 456 = .ok (.if_icmp .ne 19, 3) := by decide +kernel
theorem dL_areSheets_459 : decode cL_areSheets 459 = .ok (.aload_n 0, 1) := by decide +kernel
theorem dL_areSheets_460 : decode cL_areSheets 460 = .ok (.bipush 6, 2) := by decide +kernel
theorem dL_areSheets_462 : decode cL_areSheets 462 = .ok (.invokevirtual 92, 3) := by decide +kernel
theorem dL_areSheets_465 : decode cL_areSheets 465 = .ok (.aload_n 1, 1) := by decide +kernel
theorem dL_areSheets_466 : decode cL_areSheets 466 = .ok (.iconst 3, 1) := by decide +kernel
theorem dL_areSheets_467 : decode cL_areSheets 467 = .ok (.iaload, 1) := by decide +kernel
theorem dL_areSheets_468 : decode cL_areSheets 468 = .ok (.if_icmp .ne 7, 3) := by decide +kernel
theorem dL_areSheets_471 : decode cL_areSheets 471 = .ok (.iconst 1, 1) := by decide +kernel
theorem dL_areSheets_472 : decode cL_areSheets 472 = .ok (.goto 4, 3) := by decide +kernel
theorem dL_areSheets_475 : decode cL_areSheets 475 = .ok (.iconst 0, 1) := by decide +kernel
theorem dL_areSheets_476 : decode cL_areSheets 476 = .ok (.ireturn, 1) := by decide +kernel
theorem dL_areWidths_0 : decode cL_areWidths 0 = .ok (.iconst 0, 1) := by decide +kernel
theorem dL_areWidths_1 : decode cL_areWidths 1 = .ok (.istore_n 2, 1) := by decide +kernel
theorem dL_areWidths_2 : decode cL_areWidths 2 = .ok (.iconst 1, 1) := by decide +kernel
theorem dL_areWidths_3 : decode cL_areWidths 3 = .ok (.istore_n 3, 1) := by decide +kernel
theorem dL_areWidths_4 : decode cL_areWidths 4 = .ok (.iconst 0, 1) := by decide +kernel
theorem dL_areWidths_5 : decode cL_areWidths 5 = .ok (.istore 4, 2) := by decide +kernel
theorem dL_areWidths_7 : decode cL_areWidths 7 = .ok (.iload 4, 2) := by decide +kernel
theorem dL_areWidths_9 : decode cL_areWidths 9 = .ok (.iconst 3, 1) := by decide +kernel
theorem dL_areWidths_10 : decode cL_areWidths 10 = .ok (.if_icmp .ge 103, 3) := by decide +kernel
theorem dL_areWidths_13 : decode cL_areWidths 13 = .ok (.iconst 0, 1) := by decide +kernel
theorem dL_areWidths_14 : decode cL_areWidths 14 = .ok (.istore 5, 2) := by decide +kernel
theorem dL_areWidths_16 : decode cL_areWidths 16 = .ok (.iconst 0, 1) := by decide +kernel
theorem dL_areWidths_17 : decode cL_areWidths 17 = .ok (.istore 6, 2) := by decide +kernel
theorem dL_areWidths_19 : decode cL_areWidths 19 = .ok (.iload 6, 2) := by decide +kernel
theorem dL_areWidths_21 : decode cL_areWidths 21 = .ok (.iconst 3, 1) := by decide +kernel
theorem dL_areWidths_22 : decode cL_areWidths 22 = .ok (.if_icmp .ge 37, 3) := by decide +kernel
theorem dL_areWidths_25 : decode cL_areWidths 25 = .ok (.iload 5, 2) := by decide +kernel
theorem dL_areWidths_27 : decode cL_areWidths 27 = .ok (.aload_n 1, 1) := by decide +kernel
theorem dL_areWidths_28 : decode cL_areWidths 28 = .ok (.iload 6, 2) := by decide +kernel
theorem dL_areWidths_30 : decode cL_areWidths 30 = .ok (.iaload, 1) := by decide +kernel
theorem dL_areWidths_31 : decode cL_areWidths 31 = .ok (.ifCond .le 18, 3) := by decide +kernel
theorem dL_areWidths_34 : decode cL_areWidths 34 = .ok (.aload_n 1, 1) := by decide +kernel
theorem dL_areWidths_35 : decode cL_areWidths 35 = .ok (.iload 6, 2) := by decide +kernel
theorem dL_areWidths_37 : decode cL_areWidths 37 = .ok (.iaload, 1) := by decide +kernel
theorem dL_areWidths_38 : decode cL_areWidths 38 = .ok (.aload_n 1, 1) := by decide +kernel
theorem dL_areWidths_39 : decode cL_areWidths 39 = .ok (.iload 4, 2) := by decide +kernel
theorem dL_areWidths_41 : decode cL_areWidths 41 = .ok (.iaload, 1) := by decide +kernel
theorem dL_areWidths_42 : decode cL_areWidths 42 = .ok (.if_icmp .ge 7, 3) := by decide +kernel
theorem dL_areWidths_45 : decode cL_areWidths 45 = .ok (.iconst 1, 1) := by decide +kernel
theorem dL_areWidths_46 : decode cL_areWidths 46 = .ok (.goto 4, 3) := by decide +kernel
theorem dL_areWidths_49 : decode cL_areWidths 49 = .ok (.iconst 0, 1) := by decide +kernel
theorem dL_areWidths_50 : decode cL_areWidths 50 = .ok (.iadd, 1) := by decide +kernel
theorem dL_areWidths_51 : decode cL_areWidths 51 = .ok (.istore 5, 2) := by decide +kernel
theorem dL_areWidths_53 : decode cL_areWidths 53 = .ok (.iinc 6 1, 3) := by decide +kernel
theorem dL_areWidths_56 : decode cL_areWidths 56 = .ok (.goto (-37), 3) := by decide +kernel
theorem dL_areWidths_59 : decode cL_areWidths 59 = .ok (.iload_n 2, 1) := by decide +kernel
theorem dL_areWidths_60 : decode cL_areWidths 60 = .ok (.aload_n 1, 1) := by decide +kernel
theorem dL_areWidths_61 : decode cL_areWidths 61 = .ok (.iload 4, 2) := by decide +kernel
theorem dL_areWidths_63 : decode cL_areWidths 63 = .ok (.iaload, 1) := by decide +kernel
theorem dL_areWidths_64 : decode cL_areWidths 64 = .ok (.ifCond .le 7, 3) := by decide +kernel
theorem dL_areWidths_67 : decode cL_areWidths 67 = .ok (.iconst 1, 1) := by decide +kernel
theorem dL_areWidths_68 : decode cL_areWidths 68 = .ok (.goto 4, 3) := by decide +kernel
theorem dL_areWidths_71 : decode cL_areWidths 71 = .ok (.iconst 0, 1) := by decide +kernel
theorem dL_areWidths_72 : decode cL_areWidths 72 = .ok (.iadd, 1) := by decide +kernel
theorem dL_areWidths_73 : decode cL_areWidths 73 = .ok (.istore_n 2, 1) := by decide +kernel
theorem dL_areWidths_74 : decode cL_areWidths 74 = .ok (.iload_n 3, 1) := by decide +kernel
theorem dL_areWidths_75 : decode cL_areWidths 75 = .ok (.ifCond .eq 30, 3) := by decide +kernel
theorem dL_areWidths_78 : decode cL_areWidths 78 = .ok (.aload_n 1, 1) := by decide +kernel
theorem dL_areWidths_79 : decode cL_areWidths 79 = .ok (.iload 4, 2) := by decide +kernel
theorem dL_areWidths_81 : decode cL_areWidths 81 = .ok (.iaload, 1) := by decide +kernel
theorem dL_areWidths_82 : decode cL_areWidths 82 = .ok (.ifCond .eq 19, 3) := by decide +kernel
theorem dL_areWidths_85 : decode cL_areWidths 85 = .ok (.aload_n 0, 1) := by decide +kernel
theorem dL_areWidths_86 : decode cL_areWidths 86 = .ok (.bipush 10, 2) := by decide +kernel
theorem dL_areWidths_88 : decode cL_areWidths 88 = .ok (.iload 5, 2) := by decide +kernel
theorem dL_areWidths_90 : decode cL_areWidths 90 = .ok (.iadd, 1) := by decide +kernel
theorem dL_areWidths_91 : decode cL_areWidths 91 = .ok (.invokevirtual 92, 3) := by decide +kernel
theorem dL_areWidths_94 : decode cL_areWidths 94 = .ok (.aload_n 1, 1) := by decide +kernel
theorem dL_areWidths_95 : decode cL_areWidths 95 = .ok (.iload 4, 2) := by decide +kernel
theorem dL_areWidths_97 : decode cL_areWidths 97 = .ok (.iaload, 1) := by decide +kernel
theorem dL_areWidths_98 : decode cL_areWidths 98 = .ok (.if_icmp .ne 7, 3) := by decide +kernel
theorem dL_areWidths_101 : decode cL_areWidths 101 = .ok (.iconst 1, 1) := by decide +kernel
theorem dL_areWidths_102 : decode cL_areWidths 102 = .ok (.goto 4, 3) := by decide +kernel
theorem dL_areWidths_105 : decode cL_areWidths 105 = .ok (.iconst 0, 1) := by decide +kernel
theorem dL_areWidths_106 : decode cL_areWidths 106 = .ok (.istore_n 3, 1) := by decide +kernel
theorem dL_areWidths_107 : decode cL_areWidths 107 = .ok (.iinc 4 1, 3) := by decide +kernel
theorem dL_areWidths_110 : decode cL_areWidths 110 = .ok (.goto (-103), 3) := by decide +kernel
theorem dL_areWidths_113 : decode cL_areWidths 113 = .ok (.iload_n 3, 1) := by decide +kernel
theorem dL_areWidths_114 : decode cL_areWidths 114 = .ok (.ifCond .eq 56, 3) := by decide +kernel
theorem dL_areWidths_117 : decode cL_areWidths 117 = .ok (.aload_n 0, 1) := by decide +kernel
theorem dL_areWidths_118 : decode cL_areWidths 118 = .ok (.iconst 2, 1) := by decide +kernel
theorem dL_areWidths_119 : decode cL_areWidths 119 = .ok (.invokevirtual 92, 3) := by decide +kernel
theorem dL_areWidths_122 : decode cL_areWidths 122 = .ok (.iload_n 2, 1) := by decide +kernel
theorem dL_areWidths_123 : decode cL_areWidths 123 = .ok (.if_icmp .ne 47, 3) := by decide +kernel
theorem dL_areWidths_126 : decode cL_areWidths 126 = .ok (.iload_n 2, 1) := by decide +kernel
theorem dL_areWidths_127 : decode cL_areWidths 127 = .ok (.iconst 3, 1) := by decide +kernel
theorem dL_areWidths_128 : decode cL_areWidths 128 = .ok (.if_icmp .eq 16, 3) := by decide +kernel
theorem dL_areWidths_131 : decode cL_areWidths 131 = .ok (.aload_n 0, 1) := by decide +kernel
theorem dL_areWidths_132 : decode cL_areWidths 132 = .ok (.bipush 10, 2) := by decide +kernel
theorem dL_areWidths_134 : decode cL_areWidths 134 = .ok (.iload_n 2, 1) := by decide +kernel
theorem dL_areWidths_135 : decode cL_areWidths 135 = .ok (.iadd, 1) := by decide +kernel
theorem dL_areWidths_136 : decode cL_areWidths 136 = .ok (.invokevirtual 92, 3) := by decide +kernel
theorem dL_areWidths_139 : decode cL_areWidths 139 = .ok (.ldc 91, 2) := by decide +kernel
theorem dL_areWidths_141 : decode cL_areWidths 141 = .ok (.if_icmp .ne 29, 3) := by decide +kernel
theorem dL_areWidths_144 : decode cL_areWidths 144 = .ok (.aload_n 0, 1) := by decide +kernel
theorem dL_areWidths_145 : decode cL_areWidths 145 = .ok (.bipush 9, 2) := by decide +kernel
theorem dL_areWidths_147 : decode cL_areWidths 147 = .ok (.invokevirtual 92, 3) := by decide +kernel
theorem dL_areWidths_150 : decode cL_areWidths 150 = .ok (.ldc 48, 2) := by decide +kernel
theorem dL_areWidths_152 : decode cL_areWidths 152 = .ok (.if_icmp .ne 18, 3) := by decide +kernel
theorem dL_areWidths_155 : decode cL_areWidths 155 = .ok (.aload_n 0, 1) := by decide +kernel
theorem dL_areWidths_156 : decode cL_areWidths 156 = .ok (.bipush 13, 2) := by decide +kernel
theorem dL_areWidths_158 : decode cL_areWidths 158 = .ok (.invokevirtual 92, 3) := by decide +kernel
theorem dL_areWidths_161 : decode cL_areWidths 161 = .ok (.ldc 48, 2) := by decide +kernel
theorem dL_areWidths_163 : decode cL_areWidths 163 = .ok (.if_icmp .ne 7, 3) := by decide +kernel
theorem dL_areWidths_166 : decode cL_areWidths 166 = .ok (.iconst 1, 1) := by decide +kernel
theorem dL_areWidths_167 : decode cL_areWidths 167 = .ok (.goto 4, 3) := by decide +kernel
theorem dL_areWidths_170 : decode cL_areWidths 170 = .ok (.iconst 0, 1) := by decide +kernel
theorem dL_areWidths_171 : decode cL_areWidths 171 = .ok (.ireturn, 1) := by decide +kernel
theorem dL_isSo_0 : decode cL_isSo 0 = .ok (.aload_n 0, 1) := by decide +kernel
theorem dL_isSo_1 : decode cL_isSo 1 = .ok (.aload_n 1, 1) := by decide +kernel
theorem dL_isSo_2 : decode cL_isSo 2 = .ok (.aload_n 3, 1) := by decide +kernel
theorem dL_isSo_3 : decode cL_isSo 3 = .ok (.aload 4, 2) := by decide +kernel
theorem dL_isSo_5 : decode cL_isSo 5 = .ok (.aload 5, 2) := by decide +kernel
theorem dL_isSo_7 : decode cL_isSo 7 = .ok (.aload 6, 2) := by decide +kernel
theorem dL_isSo_9 : decode cL_isSo 9 = .ok (.aload 7, 2) := by decide +kernel
theorem dL_isSo_11 : decode cL_isSo 11 = .ok (.invokestatic 105, 3) := by decide +kernel
theorem dL_isSo_14 : decode cL_isSo 14 = .ok (.ifCond .eq 88, 3) := by decide +kernel
theorem dL_isSo_17 : decode cL_isSo 17 = .ok (.aload_n 0, 1) := by decide +kernel
theorem dL_isSo_18 : decode cL_isSo 18 = .ok (.aload_n 1, 1) := by decide +kernel
theorem dL_isSo_19 : decode cL_isSo 19 = .ok (.aload_n 2, 1) := by decide +kernel
theorem dL_isSo_20 : decode cL_isSo 20 = .ok (.aload_n 3, 1) := by decide +kernel
theorem dL_isSo_21 : decode cL_isSo 21 = .ok (.aload 4, 2) := by decide +kernel
theorem dL_isSo_23 : decode cL_isSo 23 = .ok (.aload 5, 2) := by decide +kernel
theorem dL_isSo_25 : decode cL_isSo 25 = .ok (.aload 6, 2) := by decide +kernel
theorem dL_isSo_27 : decode cL_isSo 27 = .ok (.aload 7, 2) := by decide +kernel
theorem dL_isSo_29 : decode cL_isSo 29 = .ok (.aload 8, 2) := by decide +kernel
theorem dL_isSo_31 : decode cL_isSo 31 = .ok (.aload 9, 2) := by decide +kernel
theorem dL_isSo_33 : decode cL_isSo 33 = .ok (.aload 10, 2) := by decide +kernel
theorem dL_isSo_35 : decode cL_isSo 35 = .ok (.aload 11, 2) := by decide +kernel
theorem dL_isSo_37 : decode cL_isSo 37 = .ok (.iload 12, 2) := by decide +kernel
theorem dL_isSo_39 : decode cL_isSo 39 = .ok (.invokestatic 109, 3) := by decide +kernel
theorem dL_isSo_42 : decode cL_isSo 42 = .ok (.ifCond .eq 60, 3) := by decide +kernel
theorem dL_isSo_45 : decode cL_isSo 45 = .ok (.aload_n 0, 1) := by decide +kernel
theorem dL_isSo_46 : decode cL_isSo 46 = .ok (.aload 7, 2) := by decide +kernel
theorem dL_isSo_48 : decode cL_isSo 48 = .ok (.invokestatic 113, 3) := by decide +kernel
theorem dL_isSo_51 : decode cL_isSo 51 = .ok (.ifCond .eq 51, 3) := by decide +kernel
theorem dL_isSo_54 : decode cL_isSo 54 = .ok (.aload_n 0, 1) := by decide +kernel
theorem dL_isSo_55 : decode cL_isSo 55 = .ok (.iconst 0, 1) := by decide +kernel
theorem dL_isSo_56 : decode cL_isSo 56 = .ok (.invokevirtual 92, 3) := by decide +kernel
theorem dL_isSo_59 : decode cL_isSo 59 = .ok (.aload_n 1, 1) := by decide +kernel
theorem dL_isSo_60 : decode cL_isSo 60 = .ok (.iconst 0, 1) := by decide +kernel
theorem dL_isSo_61 : decode cL_isSo 61 = .ok (.iaload, 1) := by decide +kernel
theorem dL_isSo_62 : decode cL_isSo 62 = .ok (.if_icmp .ne 40, 3) := by decide +kernel
theorem dL_isSo_65 : decode cL_isSo 65 = .ok (.aload_n 0, 1) := by decide +kernel
theorem dL_isSo_66 : decode cL_isSo 66 = .ok (.bipush 8, 2) := by decide +kernel
theorem dL_isSo_68 : decode cL_isSo 68 = .ok (.invokevirtual 92, 3) := by decide +kernel
theorem dL_isSo_71 : decode cL_isSo 71 = .ok (.ifCond .ne 31, 3) := by decide +kernel
theorem dL_isSo_74 : decode cL_isSo 74 = .ok (.aload_n 0, 1) := by decide +kernel
theorem dL_isSo_75 : decode cL_isSo 75 = .ok (.bipush 20, 2) := by decide +kernel
theorem dL_isSo_77 : decode cL_isSo 77 = .ok (.invokevirtual 92, 3) := by decide +kernel
theorem dL_isSo_80 : decode cL_isSo 80 = .ok (.aload_n 1, 1) := by decide +kernel
theorem dL_isSo_81 : decode cL_isSo 81 = .ok (.iconst 1, 1) := by decide +kernel
theorem dL_isSo_82 : decode cL_isSo 82 = .ok (.iaload, 1) := by decide +kernel
theorem dL_isSo_83 : decode cL_isSo 83 = .ok (.if_icmp .ne 19, 3) := by decide +kernel
theorem dL_isSo_86 : decode cL_isSo 86 = .ok (.aload_n 0, 1) := by decide +kernel
theorem dL_isSo_87 : decode cL_isSo 87 = .ok (.bipush 21, 2) := by decide +kernel
theorem dL_isSo_89 : decode cL_isSo 89 = .ok (.invokevirtual 92, 3) := by decide +kernel
theorem dL_isSo_92 : decode cL_isSo 92 = .ok (.aload_n 1, 1) := by decide +kernel
theorem dL_isSo_93 : decode cL_isSo 93 = .ok (.iconst 2, 1) := by decide +kernel
theorem dL_isSo_94 : decode cL_isSo 94 = .ok (.iaload, 1) := by decide +kernel
theorem dL_isSo_95 : decode cL_isSo 95 = .ok (.if_icmp .ne 7, 3) := by decide +kernel
theorem dL_isSo_98 : decode cL_isSo 98 = .ok (.iconst 1, 1) := by decide +kernel
theorem dL_isSo_99 : decode cL_isSo 99 = .ok (.goto 4, 3) := by decide +kernel
theorem dL_isSo_102 : decode cL_isSo 102 = .ok (.iconst 0, 1) := by decide +kernel
theorem dL_isSo_103 : decode cL_isSo 103 = .ok (.ireturn, 1) := by decide +kernel
theorem dL_law_0 : decode cL_law 0 = .ok (.new 43, 3) := by decide +kernel
theorem dL_law_3 : decode cL_law 3 = .ok (.dup, 1) := by decide +kernel
theorem dL_law_4 : decode cL_law 4 = .ok (.invokespecial 117, 3) := by decide +kernel
theorem dL_law_7 : decode cL_law 7 = .ok (.astore_n 1, 1) := by decide +kernel
theorem dL_law_8 : decode cL_law 8 = .ok (.iconst 4, 1) := by decide +kernel
theorem dL_law_9 : decode cL_law 9 = .ok (.newarray .int, 2) := by decide +kernel
theorem dL_law_11 : decode cL_law 11 = .ok (.astore_n 2, 1) := by decide +kernel
theorem dL_law_12 : decode cL_law 12 = .ok (.bipush 8, 2) := by decide +kernel
theorem dL_law_14 : decode cL_law 14 = .ok (.newarray .int, 2) := by decide +kernel
theorem dL_law_16 : decode cL_law 16 = .ok (.astore_n 3, 1) := by decide +kernel
theorem dL_law_17 : decode cL_law 17 = .ok (.bipush 8, 2) := by decide +kernel
theorem dL_law_19 : decode cL_law 19 = .ok (.newarray .int, 2) := by decide +kernel
theorem dL_law_21 : decode cL_law 21 = .ok (.astore 4, 2) := by decide +kernel
theorem dL_law_23 : decode cL_law 23 = .ok (.bipush 49, 2) := by decide +kernel
theorem dL_law_25 : decode cL_law 25 = .ok (.newarray .int, 2) := by decide +kernel
theorem dL_law_27 : decode cL_law 27 = .ok (.astore 5, 2) := by decide +kernel
theorem dL_law_29 : decode cL_law 29 = .ok (.bipush 49, 2) := by decide +kernel
theorem dL_law_31 : decode cL_law 31 = .ok (.newarray .int, 2) := by decide +kernel
theorem dL_law_33 : decode cL_law 33 = .ok (.astore 6, 2) := by decide +kernel
theorem dL_law_35 : decode cL_law 35 = .ok (.bipush 49, 2) := by decide +kernel
theorem dL_law_37 : decode cL_law 37 = .ok (.newarray .int, 2) := by decide +kernel
theorem dL_law_39 : decode cL_law 39 = .ok (.astore 7, 2) := by decide +kernel
theorem dL_law_41 : decode cL_law 41 = .ok (.iconst 3, 1) := by decide +kernel
theorem dL_law_42 : decode cL_law 42 = .ok (.newarray .int, 2) := by decide +kernel
theorem dL_law_44 : decode cL_law 44 = .ok (.astore 8, 2) := by decide +kernel
theorem dL_law_46 : decode cL_law 46 = .ok (.iconst 4, 1) := by decide +kernel
theorem dL_law_47 : decode cL_law 47 = .ok (.newarray .int, 2) := by decide +kernel
theorem dL_law_49 : decode cL_law 49 = .ok (.astore 9, 2) := by decide +kernel
theorem dL_law_51 : decode cL_law 51 = .ok (.iconst 4, 1) := by decide +kernel
theorem dL_law_52 : decode cL_law 52 = .ok (.newarray .int, 2) := by decide +kernel
theorem dL_law_54 : decode cL_law 54 = .ok (.astore 10, 2) := by decide +kernel
theorem dL_law_56 : decode cL_law 56 = .ok (.bipush 32, 2) := by decide +kernel
theorem dL_law_58 : decode cL_law 58 = .ok (.newarray .int, 2) := by decide +kernel
theorem dL_law_60 : decode cL_law 60 = .ok (.astore 11, 2) := by decide +kernel
theorem dL_law_62 : decode cL_law 62 = .ok (.bipush 32, 2) := by decide +kernel
theorem dL_law_64 : decode cL_law 64 = .ok (.newarray .long, 2) := by decide +kernel
theorem dL_law_66 : decode cL_law 66 = .ok (.astore 12, 2) := by decide +kernel
theorem dL_law_68 : decode cL_law 68 = .ok (.aload_n 2, 1) := by decide +kernel
theorem dL_law_69 : decode cL_law 69 = .ok (.iconst 1, 1) := by decide +kernel
theorem dL_law_70 : decode cL_law 70 = .ok (.bipush 20, 2) := by decide +kernel
theorem dL_law_72 : decode cL_law 72 = .ok (.iastore, 1) := by decide +kernel
theorem dL_law_73 : decode cL_law 73 = .ok (.aload_n 2, 1) := by decide +kernel
theorem dL_law_74 : decode cL_law 74 = .ok (.iconst 2, 1) := by decide +kernel
theorem dL_law_75 : decode cL_law 75 = .ok (.iconst 1, 1) := by decide +kernel
theorem dL_law_76 : decode cL_law 76 = .ok (.iastore, 1) := by decide +kernel
theorem dL_law_77 : decode cL_law 77 = .ok (.aload_n 1, 1) := by decide +kernel
theorem dL_law_78 : decode cL_law 78 = .ok (.iconst 0, 1) := by decide +kernel
theorem dL_law_79 : decode cL_law 79 = .ok (.invokevirtual 92, 3) := by decide +kernel
theorem dL_law_82 : decode cL_law 82 = .ok (.ifCond .ne 7, 3) := by decide +kernel
theorem dL_law_85 : decode cL_law 85 = .ok (.iconst 1, 1) := by decide +kernel
theorem dL_law_86 : decode cL_law 86 = .ok (.goto 4, 3) := by decide +kernel
theorem dL_law_89 : decode cL_law 89 = .ok (.iconst 0, 1) := by decide +kernel
theorem dL_law_90 : decode cL_law 90 = .ok (.istore 13, 2) := by decide +kernel
theorem dL_law_92 : decode cL_law 92 = .ok (.iconst 0, 1) := by decide +kernel
theorem dL_law_93 : decode cL_law 93 = .ok (.istore 14, 2) := by decide +kernel
theorem dL_law_95 : decode cL_law 95 = .ok (.iload 14, 2) := by decide +kernel
theorem dL_law_97 : decode cL_law 97 = .ok (.bipush 8, 2) := by decide +kernel
theorem dL_law_99 : decode cL_law 99 = .ok (.if_icmp .ge 95, 3) := by decide +kernel
theorem dL_law_102 : decode cL_law 102 = .ok (.iload 13, 2) := by decide +kernel
theorem dL_law_104 : decode cL_law 104 = .ok (.ifCond .eq 90, 3) := by decide +kernel
theorem dL_law_107 : decode cL_law 107 = .ok (.aload_n 1, 1) := by decide +kernel
theorem dL_law_108 : decode cL_law 108 = .ok (.aload_n 2, 1) := by decide +kernel
theorem dL_law_109 : decode cL_law 109 = .ok (.aload_n 3, 1) := by decide +kernel
theorem dL_law_110 : decode cL_law 110 = .ok (.aload 4, 2) := by decide +kernel
theorem dL_law_112 : decode cL_law 112 = .ok (.aload 5, 2) := by decide +kernel
theorem dL_law_114 : decode cL_law 114 = .ok (.aload 6, 2) := by decide +kernel
theorem dL_law_116 : decode cL_law 116 = .ok (.aload 7, 2) := by decide +kernel
theorem dL_law_118 : decode cL_law 118 = .ok (.aload 8, 2) := by decide +kernel
theorem dL_law_120 : decode cL_law 120 = .ok (.aload 9, 2) := by decide +kernel
theorem dL_law_122 : decode cL_law 122 = .ok (.aload 10, 2) := by decide +kernel
theorem dL_law_124 : decode cL_law 124 = .ok (.aload 11, 2) := by decide +kernel
theorem dL_law_126 : decode cL_law 126 = .ok (.aload 12, 2) := by decide +kernel
theorem dL_law_128 : decode cL_law 128 = .ok (.aload_n 0, 1) := by decide +kernel
theorem dL_law_129 : decode cL_law 129 = .ok (.iconst 1, 1) := by decide +kernel
theorem dL_law_130 : decode cL_law 130 = .ok (.iload 14, 2) := by decide +kernel
theorem dL_law_132 : decode cL_law 132 = .ok (.iadd, 1) := by decide +kernel
theorem dL_law_133 : decode cL_law 133 = .ok (.invokestatic 118, 3) := by decide +kernel
theorem dL_law_136 : decode cL_law 136 = .ok (.ldc 8, 2) := by decide +kernel
theorem dL_law_138 : decode cL_law 138 = .ok (.iand, 1) := by decide +kernel
theorem dL_law_139 : decode cL_law 139 = .ok (.sipush 192, 3) := by decide +kernel
theorem dL_law_142 : decode cL_law 142 = .ok (.idiv, 1) := by decide +kernel
theorem dL_law_143 : decode cL_law 143 = .ok (.sipush 192, 3) := by decide +kernel
theorem dL_law_146 : decode cL_law 146 = .ok (.imul, 1) := by decide +kernel
theorem dL_law_147 : decode cL_law 147 = .ok (.iload 14, 2) := by decide +kernel
theorem dL_law_149 : decode cL_law 149 = .ok (.iconst 2, 1) := by decide +kernel
theorem dL_law_150 : decode cL_law 150 = .ok (.if_icmp .ge 7, 3) := by decide +kernel
theorem dL_law_153 : decode cL_law 153 = .ok (.iconst 0, 1) := by decide +kernel
theorem dL_law_154 : decode cL_law 154 = .ok (.goto 28, 3) := by decide +kernel
theorem dL_law_157 : decode cL_law 157 = .ok (.iload 14, 2) := by decide +kernel
theorem dL_law_159 : decode cL_law 159 = .ok (.bipush 6, 2) := by decide +kernel
theorem dL_law_161 : decode cL_law 161 = .ok (.if_icmp .ge 7, 3) := by decide +kernel
theorem dL_law_164 : decode cL_law 164 = .ok (.iconst 4, 1) := by decide +kernel
theorem dL_law_165 : decode cL_law 165 = .ok (.goto 17, 3) := by decide +kernel
theorem dL_law_168 : decode cL_law 168 = .ok (.iload 14, 2) := by decide +kernel
theorem dL_law_170 : decode cL_law 170 = .ok (.bipush 6, 2) := by decide +kernel
theorem dL_law_172 : decode cL_law 172 = .ok (.if_icmp .ne 8, 3) := by decide +kernel
theorem dL_law_175 : decode cL_law 175 = .ok (.bipush 22, 2) := by decide +kernel
theorem dL_law_177 : decode cL_law 177 = .ok (.goto 5, 3) := by decide +kernel
theorem dL_law_180 : decode cL_law 180 = .ok (.bipush 28, 2) := by decide +kernel
theorem dL_law_182 : decode cL_law 182 = .ok (.iadd, 1) := by decide +kernel
theorem dL_law_183 : decode cL_law 183 = .ok (.invokestatic 121, 3) := by decide +kernel
theorem dL_law_186 : decode cL_law 186 = .ok (.istore 13, 2) := by decide +kernel
theorem dL_law_188 : decode cL_law 188 = .ok (.iinc 14 1, 3) := by decide +kernel
theorem dL_law_191 : decode cL_law 191 = .ok (.goto (-96), 3) := by decide +kernel
theorem dL_law_194 : decode cL_law 194 = .ok (.iload 13, 2) := by decide +kernel
theorem dL_law_196 : decode cL_law 196 = .ok (.ifCond .eq 35, 3) := by decide +kernel
theorem dL_law_199 : decode cL_law 199 = .ok (.aload_n 1, 1) := by decide +kernel
theorem dL_law_200 : decode cL_law 200 = .ok (.aload_n 2, 1) := by decide +kernel
theorem dL_law_201 : decode cL_law 201 = .ok (.aload_n 3, 1) := by decide +kernel
theorem dL_law_202 : decode cL_law 202 = .ok (.aload 4, 2) := by decide +kernel
theorem dL_law_204 : decode cL_law 204 = .ok (.aload 5, 2) := by decide +kernel
theorem dL_law_206 : decode cL_law 206 = .ok (.aload 6, 2) := by decide +kernel
theorem dL_law_208 : decode cL_law 208 = .ok (.aload 7, 2) := by decide +kernel
theorem dL_law_210 : decode cL_law 210 = .ok (.aload 8, 2) := by decide +kernel
theorem dL_law_212 : decode cL_law 212 = .ok (.aload 9, 2) := by decide +kernel
theorem dL_law_214 : decode cL_law 214 = .ok (.aload 10, 2) := by decide +kernel
theorem dL_law_216 : decode cL_law 216 = .ok (.aload 11, 2) := by decide +kernel
theorem dL_law_218 : decode cL_law 218 = .ok (.aload 12, 2) := by decide +kernel
theorem dL_law_220 : decode cL_law 220 = .ok (.iconst 0, 1) := by decide +kernel
theorem dL_law_221 : decode cL_law 221 = .ok (.invokestatic 124, 3) := by decide +kernel
theorem dL_law_224 : decode cL_law 224 = .ok (.ifCond .eq 7, 3) := by decide +kernel
theorem dL_law_227 : decode cL_law 227 = .ok (.iconst 1, 1) := by decide +kernel
theorem dL_law_228 : decode cL_law 228 = .ok (.goto 4, 3) := by decide +kernel
theorem dL_law_231 : decode cL_law 231 = .ok (.iconst 0, 1) := by decide +kernel
theorem dL_law_232 : decode cL_law 232 = .ok (.istore 13, 2) := by decide +kernel
theorem dL_law_234 : decode cL_law 234 = .ok (.bipush 12, 2) := by decide +kernel
theorem dL_law_236 : decode cL_law 236 = .ok (.aload_n 0, 1) := by decide +kernel
theorem dL_law_237 : decode cL_law 237 = .ok (.iconst 0, 1) := by decide +kernel
theorem dL_law_238 : decode cL_law 238 = .ok (.invokestatic 118, 3) := by decide +kernel
theorem dL_law_241 : decode cL_law 241 = .ok (.bipush 46, 2) := by decide +kernel
theorem dL_law_243 : decode cL_law 243 = .ok (.invokestatic 58, 3) := by decide +kernel
theorem dL_law_246 : decode cL_law 246 = .ok (.iadd, 1) := by decide +kernel
theorem dL_law_247 : decode cL_law 247 = .ok (.istore 14, 2) := by decide +kernel
theorem dL_law_249 : decode cL_law 249 = .ok (.iconst 0, 1) := by decide +kernel
theorem dL_law_250 : decode cL_law 250 = .ok (.istore 15, 2) := by decide +kernel
theorem dL_law_252 : decode cL_law 252 = .ok (.iload 15, 2) := by decide +kernel
theorem dL_law_254 : decode cL_law 254 = .ok (.iload 14, 2) := by decide +kernel
theorem dL_law_256 : decode cL_law 256 = .ok (.if_icmp .ge 105, 3) := by decide +kernel
theorem dL_law_259 : decode cL_law 259 = .ok (.iload 13, 2) := by decide +kernel
theorem dL_law_261 : decode cL_law 261 = .ok (.ifCond .eq 100, 3) := by decide +kernel
theorem dL_law_264 : decode cL_law 264 = .ok (.aload_n 0, 1) := by decide +kernel
theorem dL_law_265 : decode cL_law 265 = .ok (.bipush 9, 2) := by decide +kernel
theorem dL_law_267 : decode cL_law 267 = .ok (.iload 15, 2) := by decide +kernel
theorem dL_law_269 : decode cL_law 269 = .ok (.iadd, 1) := by decide +kernel
theorem dL_law_270 : decode cL_law 270 = .ok (.invokestatic 118, 3) := by decide +kernel
theorem dL_law_273 : decode cL_law 273 = .ok (.sipush 7919, 3) := by decide +kernel
theorem dL_law_276 : decode cL_law 276 = .ok (.iload 15, 2) := by decide +kernel
theorem dL_law_278 : decode cL_law 278 = .ok (.imul, 1) := by decide +kernel
theorem dL_law_279 : decode cL_law 279 = .ok (.ixor, 1) := by decide +kernel
theorem dL_law_280 : decode cL_law 280 = .ok (.istore 16, 2) := by decide +kernel
theorem dL_law_282 : decode cL_law 282 = .ok (.aload_n 1, 1) := by decide +kernel
theorem dL_law_283 : decode cL_law 283 = .ok (.aload_n 2, 1) := by decide +kernel
theorem dL_law_284 : decode cL_law 284 = .ok (.aload_n 3, 1) := by decide +kernel
theorem dL_law_285 : decode cL_law 285 = .ok (.aload 4, 2) := by decide +kernel
theorem dL_law_287 : decode cL_law 287 = .ok (.aload 5, 2) := by decide +kernel
theorem dL_law_289 : decode cL_law 289 = .ok (.aload 6, 2) := by decide +kernel
theorem dL_law_291 : decode cL_law 291 = .ok (.aload 7, 2) := by decide +kernel
theorem dL_law_293 : decode cL_law 293 = .ok (.aload 8, 2) := by decide +kernel
theorem dL_law_295 : decode cL_law 295 = .ok (.aload 9, 2) := by decide +kernel
theorem dL_law_297 : decode cL_law 297 = .ok (.aload 10, 2) := by decide +kernel
theorem dL_law_299 : decode cL_law 299 = .ok (.aload 11, 2) := by decide +kernel
theorem dL_law_301 : decode cL_law 301 = .ok (.aload 12, 2) := by decide +kernel
theorem dL_law_303 : decode cL_law 303 = .ok (.iload 16, 2) := by decide +kernel
theorem dL_law_305 : decode cL_law 305 = .ok (.invokestatic 121, 3) := by decide +kernel
theorem dL_law_308 : decode cL_law 308 = .ok (.ifCond .eq 44, 3) := by decide +kernel
theorem dL_law_311 : decode cL_law 311 = .ok (.aload_n 1, 1) := by decide +kernel
theorem dL_law_312 : decode cL_law 312 = .ok (.aload_n 2, 1) := by decide +kernel
theorem dL_law_313 : decode cL_law 313 = .ok (.aload_n 3, 1) := by decide +kernel
theorem dL_law_314 : decode cL_law 314 = .ok (.aload 4, 2) := by decide +kernel
theorem dL_law_316 : decode cL_law 316 = .ok (.aload 5, 2) := by decide +kernel
theorem dL_law_318 : decode cL_law 318 = .ok (.aload 6, 2) := by decide +kernel
theorem dL_law_320 : decode cL_law 320 = .ok (.aload 7, 2) := by decide +kernel
theorem dL_law_322 : decode cL_law 322 = .ok (.aload 8, 2) := by decide +kernel
theorem dL_law_324 : decode cL_law 324 = .ok (.aload 9, 2) := by decide +kernel
theorem dL_law_326 : decode cL_law 326 = .ok (.aload 10, 2) := by decide +kernel
theorem dL_law_328 : decode cL_law 328 = .ok (.aload 11, 2) := by decide +kernel
theorem dL_law_330 : decode cL_law 330 = .ok (.aload 12, 2) := by decide +kernel
theorem dL_law_332 : decode cL_law 332 = .ok (.iload 16, 2) := by decide +kernel
theorem dL_law_334 : decode cL_law 334 = .ok (.bipush 7, 2) := by decide +kernel
theorem dL_law_336 : decode cL_law 336 = .ok (.ishr, 1) := by decide +kernel
theorem dL_law_337 : decode cL_law 337 = .ok (.ldc 127, 2) := by decide +kernel
theorem dL_law_339 : decode cL_law 339 = .ok (.invokestatic 58, 3) := by decide +kernel
theorem dL_law_342 : decode cL_law 342 = .ok (.invokestatic 124, 3) := by decide +kernel
theorem dL_law_345 : decode cL_law 345 = .ok (.ifCond .eq 7, 3) := by decide +kernel
theorem dL_law_348 : decode cL_law 348 = .ok (.iconst 1, 1) := by decide +kernel
theorem dL_law_349 : decode cL_law 349 = .ok (.goto 4, 3) := by decide +kernel
theorem dL_law_352 : decode cL_law 352 = .ok (.iconst 0, 1) := by decide +kernel
theorem dL_law_353 : decode cL_law 353 = .ok (.istore 13, 2) := by decide +kernel
theorem dL_law_355 : decode cL_law 355 = .ok (.iinc 15 1, 3) := by decide +kernel
theorem dL_law_358 : decode cL_law 358 = .ok (.goto (-106), 3) := by decide +kernel
theorem dL_law_361 : decode cL_law 361 = .ok (.iload 13, 2) := by decide +kernel
theorem dL_law_363 : decode cL_law 363 = .ok (.ifCond .eq 69, 3) := by decide +kernel
theorem dL_law_366 : decode cL_law 366 = .ok (.aload_n 1, 1) := by decide +kernel
theorem dL_law_367 : decode cL_law 367 = .ok (.bipush 19, 2) := by decide +kernel
theorem dL_law_369 : decode cL_law 369 = .ok (.invokevirtual 92, 3) := by decide +kernel
theorem dL_law_372 : decode cL_law 372 = .ok (.ldc 48, 2) := by decide +kernel
theorem dL_law_374 : decode cL_law 374 = .ok (.if_icmp .ne 58, 3) := by decide +kernel
theorem dL_law_377 : decode cL_law 377 = .ok (.aload_n 1, 1) := by decide +kernel
theorem dL_law_378 : decode cL_law 378 = .ok (.bipush 22, 2) := by decide +kernel
theorem dL_law_380 : decode cL_law 380 = .ok (.invokevirtual 92, 3) := by decide +kernel
theorem dL_law_383 : decode cL_law 383 = .ok (.ldc 48, 2) := by decide +kernel
theorem dL_law_385 : decode cL_law 385 = .ok (.if_icmp .ne 47, 3) := by decide +kernel
theorem dL_law_388 : decode cL_law 388 = .ok (.aload_n 1, 1) := by decide +kernel
theorem dL_law_389 : decode cL_law 389 = .ok (.iconst 5, 1) := by decide +kernel
theorem dL_law_390 : decode cL_law 390 = .ok (.iconst 0, 1) := by decide +kernel
theorem dL_law_391 : decode cL_law 391 = .ok (.iconst 0, 1) := by decide +kernel
theorem dL_law_392 : decode cL_law 392 = .ok (.invokevirtual 102, 3) := by decide +kernel
theorem dL_law_395 : decode cL_law 395 = .ok (.ldc 48, 2) := by decide +kernel
theorem dL_law_397 : decode cL_law 397 = .ok (.if_icmp .ne 35, 3) := by decide +kernel
theorem dL_law_400 : decode cL_law 400 = .ok (.aload_n 1, 1) := by decide +kernel
theorem dL_law_401 : decode cL_law 401 = .ok (.bipush 6, 2) := by decide +kernel
theorem dL_law_403 : decode cL_law 403 = .ok (.bipush 8, 2) := by decide +kernel
theorem dL_law_405 : decode cL_law 405 = .ok (.iconst 0, 1) := by decide +kernel
theorem dL_law_406 : decode cL_law 406 = .ok (.invokevirtual 102, 3) := by decide +kernel
theorem dL_law_409 : decode cL_law 409 = .ok (.ldc 48, 2) := by decide +kernel
theorem dL_law_411 : decode cL_law 411 = .ok (.if_icmp .ne 21, 3) := by decide +kernel
theorem dL_law_414 : decode cL_law 414 = .ok (.aload_n 1, 1) := by decide +kernel
theorem dL_law_415 : decode cL_law 415 = .ok (.bipush 6, 2) := by decide +kernel
theorem dL_law_417 : decode cL_law 417 = .ok (.iconst 0, 1) := by decide +kernel
theorem dL_law_418 : decode cL_law 418 = .ok (.bipush 64, 2) := by decide +kernel
theorem dL_law_420 : decode cL_law 420 = .ok (.invokevirtual 102, 3) := by decide +kernel
theorem dL_law_423 : decode cL_law 423 = .ok (.ldc 48, 2) := by decide +kernel
theorem dL_law_425 : decode cL_law 425 = .ok (.if_icmp .ne 7, 3) := by decide +kernel
theorem dL_law_428 : decode cL_law 428 = .ok (.iconst 1, 1) := by decide +kernel
theorem dL_law_429 : decode cL_law 429 = .ok (.goto 4, 3) := by decide +kernel
theorem dL_law_432 : decode cL_law 432 = .ok (.iconst 0, 1) := by decide +kernel
theorem dL_law_433 : decode cL_law 433 = .ok (.ireturn, 1) := by decide +kernel
