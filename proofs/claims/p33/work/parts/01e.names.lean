theorem dL_acts_185 : decode cL_acts 185 = .ok (.aload_n 0, 1) := by decide +kernel
theorem dL_acts_186 : decode cL_acts 186 = .ok (.iconst 4, 1) := by decide +kernel
theorem dL_acts_187 : decode cL_acts 187 = .ok (.invokevirtual 22, 3) := by decide +kernel
theorem dL_acts_190 : decode cL_acts 190 = .ok (.iadd, 1) := by decide +kernel
theorem dL_acts_191 : decode cL_acts 191 = .ok (.istore 11, 2) := by decide +kernel
theorem dL_acts_193 : decode cL_acts 193 = .ok (.iload 9, 2) := by decide +kernel
theorem dL_acts_195 : decode cL_acts 195 = .ok (.ifCond .ne 7, 3) := by decide +kernel
theorem dL_acts_198 : decode cL_acts 198 = .ok (.iconst 1, 1) := by decide +kernel
theorem dL_acts_199 : decode cL_acts 199 = .ok (.goto 4, 3) := by decide +kernel
theorem dL_acts_202 : decode cL_acts 202 = .ok (.iconst 0, 1) := by decide +kernel
theorem dL_acts_203 : decode cL_acts 203 = .ok (.iload 10, 2) := by decide +kernel
theorem dL_acts_205 : decode cL_acts 205 = .ok (.iload 8, 2) := by decide +kernel
theorem dL_acts_207 : decode cL_acts 207 = .ok (.if_icmp .lt 7, 3) := by decide +kernel
theorem dL_acts_210 : decode cL_acts 210 = .ok (.iconst 1, 1) := by decide +kernel
theorem dL_acts_211 : decode cL_acts 211 = .ok (.goto 4, 3) := by decide +kernel
theorem dL_acts_214 : decode cL_acts 214 = .ok (.iconst 0, 1) := by decide +kernel
theorem dL_acts_215 : decode cL_acts 215 = .ok (.if_icmp .ne 29, 3) := by decide +kernel
theorem dL_acts_218 : decode cL_acts 218 = .ok (.iload 9, 2) := by decide +kernel
theorem dL_acts_220 : decode cL_acts 220 = .ok (.ifCond .gt 20, 3) := by decide +kernel
theorem dL_acts_223 : decode cL_acts 223 = .ok (.aload_n 0, 1) := by decide +kernel
theorem dL_acts_224 : decode cL_acts 224 = .ok (.iload_n 3, 1) := by decide +kernel
theorem dL_acts_225 : decode cL_acts 225 = .ok (.iload 4, 2) := by decide +kernel
theorem dL_acts_227 : decode cL_acts 227 = .ok (.iload 8, 2) := by decide +kernel
theorem dL_acts_229 : decode cL_acts 229 = .ok (.invokevirtual 41, 3) := by decide +kernel
theorem dL_acts_232 : decode cL_acts 232 = .ok (.iload 8, 2) := by decide +kernel
theorem dL_acts_234 : decode cL_acts 234 = .ok (.iload 11, 2) := by decide +kernel
theorem dL_acts_236 : decode cL_acts 236 = .ok (.imul, 1) := by decide +kernel
theorem dL_acts_237 : decode cL_acts 237 = .ok (.if_icmp .ne 7, 3) := by decide +kernel
theorem dL_acts_240 : decode cL_acts 240 = .ok (.iconst 1, 1) := by decide +kernel
theorem dL_acts_241 : decode cL_acts 241 = .ok (.goto 4, 3) := by decide +kernel
theorem dL_acts_244 : decode cL_acts 244 = .ok (.iconst 0, 1) := by decide +kernel
theorem dL_acts_245 : decode cL_acts 245 = .ok (.ireturn, 1) := by decide +kernel
theorem dL_acts_246 : decode cL_acts 246 = .ok (.aload_n 0, 1) := by decide +kernel
theorem dL_acts_247 : decode cL_acts 247 = .ok (.iload 4, 2) := by decide +kernel
theorem dL_acts_249 : decode cL_acts 249 = .ok (.iconst 0, 1) := by decide +kernel
theorem dL_acts_250 : decode cL_acts 250 = .ok (.invokevirtual 19, 3) := by decide +kernel
theorem dL_acts_253 : decode cL_acts 253 = .ok (.istore 12, 2) := by decide +kernel
theorem dL_acts_255 : decode cL_acts 255 = .ok (.aload_n 0, 1) := by decide +kernel
theorem dL_acts_256 : decode cL_acts 256 = .ok (.iload 4, 2) := by decide +kernel
theorem dL_acts_258 : decode cL_acts 258 = .ok (.bipush 10, 2) := by decide +kernel
theorem dL_acts_260 : decode cL_acts 260 = .ok (.iload_n 3, 1) := by decide +kernel
theorem dL_acts_261 : decode cL_acts 261 = .ok (.iadd, 1) := by decide +kernel
theorem dL_acts_262 : decode cL_acts 262 = .ok (.invokevirtual 19, 3) := by decide +kernel
theorem dL_acts_265 : decode cL_acts 265 = .ok (.iload 5, 2) := by decide +kernel
theorem dL_acts_267 : decode cL_acts 267 = .ok (.if_icmp .lt 31, 3) := by decide +kernel
theorem dL_acts_270 : decode cL_acts 270 = .ok (.aload_n 0, 1) := by decide +kernel
theorem dL_acts_271 : decode cL_acts 271 = .ok (.iload 4, 2) := by decide +kernel
theorem dL_acts_273 : decode cL_acts 273 = .ok (.iload_n 3, 1) := by decide +kernel
theorem dL_acts_274 : decode cL_acts 274 = .ok (.iload 5, 2) := by decide +kernel
theorem dL_acts_276 : decode cL_acts 276 = .ok (.invokevirtual 44, 3) := by decide +kernel
theorem dL_acts_279 : decode cL_acts 279 = .ok (.iload 12, 2) := by decide +kernel
theorem dL_acts_281 : decode cL_acts 281 = .ok (.iload 5, 2) := by decide +kernel
theorem dL_acts_283 : decode cL_acts 283 = .ok (.aload_n 0, 1) := by decide +kernel
theorem dL_acts_284 : decode cL_acts 284 = .ok (.aload_n 0, 1) := by decide +kernel
theorem dL_acts_285 : decode cL_acts 285 = .ok (.iload_n 3, 1) := by decide +kernel
theorem dL_acts_286 : decode cL_acts 286 = .ok (.iconst 0, 1) := by decide +kernel
theorem dL_acts_287 : decode cL_acts 287 = .ok (.invokevirtual 15, 3) := by decide +kernel
theorem dL_acts_290 : decode cL_acts 290 = .ok (.invokevirtual 22, 3) := by decide +kernel
theorem dL_acts_293 : decode cL_acts 293 = .ok (.imul, 1) := by decide +kernel
theorem dL_acts_294 : decode cL_acts 294 = .ok (.iadd, 1) := by decide +kernel
theorem dL_acts_295 : decode cL_acts 295 = .ok (.if_icmp .ne 7, 3) := by decide +kernel
theorem dL_acts_298 : decode cL_acts 298 = .ok (.iconst 1, 1) := by decide +kernel
theorem dL_acts_299 : decode cL_acts 299 = .ok (.goto 4, 3) := by decide +kernel
theorem dL_acts_302 : decode cL_acts 302 = .ok (.iconst 0, 1) := by decide +kernel
theorem dL_acts_303 : decode cL_acts 303 = .ok (.ireturn, 1) := by decide +kernel
theorem dL_acts_304 : decode cL_acts 304 = .ok (.aload_n 0, 1) := by decide +kernel
theorem dL_acts_305 : decode cL_acts 305 = .ok (.iload 4, 2) := by decide +kernel
theorem dL_acts_307 : decode cL_acts 307 = .ok (.iconst 0, 1) := by decide +kernel
theorem dL_acts_308 : decode cL_acts 308 = .ok (.invokevirtual 19, 3) := by decide +kernel
theorem dL_acts_311 : decode cL_acts 311 = .ok (.istore 13, 2) := by decide +kernel
theorem dL_acts_313 : decode cL_acts 313 = .ok (.iload 5, 2) := by decide +kernel
theorem dL_acts_315 : decode cL_acts 315 = .ok (.aload_n 0, 1) := by decide +kernel
theorem dL_acts_316 : decode cL_acts 316 = .ok (.aload_n 0, 1) := by decide +kernel
theorem dL_acts_317 : decode cL_acts 317 = .ok (.iload_n 3, 1) := by decide +kernel
theorem dL_acts_318 : decode cL_acts 318 = .ok (.iconst 0, 1) := by decide +kernel
theorem dL_acts_319 : decode cL_acts 319 = .ok (.invokevirtual 15, 3) := by decide +kernel
theorem dL_acts_322 : decode cL_acts 322 = .ok (.invokevirtual 22, 3) := by decide +kernel
theorem dL_acts_325 : decode cL_acts 325 = .ok (.imul, 1) := by decide +kernel
theorem dL_acts_326 : decode cL_acts 326 = .ok (.istore 14, 2) := by decide +kernel
theorem dL_acts_328 : decode cL_acts 328 = .ok (.aload_n 0, 1) := by decide +kernel
theorem dL_acts_329 : decode cL_acts 329 = .ok (.iload_n 3, 1) := by decide +kernel
theorem dL_acts_330 : decode cL_acts 330 = .ok (.iconst 5, 1) := by decide +kernel
theorem dL_acts_331 : decode cL_acts 331 = .ok (.invokevirtual 15, 3) := by decide +kernel
theorem dL_acts_334 : decode cL_acts 334 = .ok (.iload 5, 2) := by decide +kernel
theorem dL_acts_336 : decode cL_acts 336 = .ok (.if_icmp .lt 27, 3) := by decide +kernel
theorem dL_acts_339 : decode cL_acts 339 = .ok (.iload 13, 2) := by decide +kernel
theorem dL_acts_341 : decode cL_acts 341 = .ok (.iload 14, 2) := by decide +kernel
theorem dL_acts_343 : decode cL_acts 343 = .ok (.if_icmp .lt 20, 3) := by decide +kernel
theorem dL_acts_346 : decode cL_acts 346 = .ok (.aload_n 0, 1) := by decide +kernel
theorem dL_acts_347 : decode cL_acts 347 = .ok (.iload 4, 2) := by decide +kernel
theorem dL_acts_349 : decode cL_acts 349 = .ok (.iload_n 3, 1) := by decide +kernel
theorem dL_acts_350 : decode cL_acts 350 = .ok (.iload 5, 2) := by decide +kernel
theorem dL_acts_352 : decode cL_acts 352 = .ok (.invokevirtual 47, 3) := by decide +kernel
theorem dL_acts_355 : decode cL_acts 355 = .ok (.iload 13, 2) := by decide +kernel
theorem dL_acts_357 : decode cL_acts 357 = .ok (.iload 14, 2) := by decide +kernel
theorem dL_acts_359 : decode cL_acts 359 = .ok (.isub, 1) := by decide +kernel
theorem dL_acts_360 : decode cL_acts 360 = .ok (.if_icmp .ne 7, 3) := by decide +kernel
theorem dL_acts_363 : decode cL_acts 363 = .ok (.iconst 1, 1) := by decide +kernel
theorem dL_acts_364 : decode cL_acts 364 = .ok (.goto 4, 3) := by decide +kernel
theorem dL_acts_367 : decode cL_acts 367 = .ok (.iconst 0, 1) := by decide +kernel
theorem dL_acts_368 : decode cL_acts 368 = .ok (.ireturn, 1) := by decide +kernel
theorem dL_acts_369 : decode cL_acts 369 = .ok (.aload_n 0, 1) := by decide +kernel
theorem dL_acts_370 : decode cL_acts 370 = .ok (.iload_n 3, 1) := by decide +kernel
theorem dL_acts_371 : decode cL_acts 371 = .ok (.iconst 0, 1) := by decide +kernel
theorem dL_acts_372 : decode cL_acts 372 = .ok (.invokevirtual 15, 3) := by decide +kernel
theorem dL_acts_375 : decode cL_acts 375 = .ok (.istore 15, 2) := by decide +kernel
theorem dL_acts_377 : decode cL_acts 377 = .ok (.aload_n 0, 1) := by decide +kernel
theorem dL_acts_378 : decode cL_acts 378 = .ok (.bipush 8, 2) := by decide +kernel
theorem dL_acts_380 : decode cL_acts 380 = .ok (.invokevirtual 9, 3) := by decide +kernel
theorem dL_acts_383 : decode cL_acts 383 = .ok (.istore 16, 2) := by decide +kernel
theorem dL_acts_385 : decode cL_acts 385 = .ok (.aload_n 0, 1) := by decide +kernel
theorem dL_acts_386 : decode cL_acts 386 = .ok (.iload 4, 2) := by decide +kernel
theorem dL_acts_388 : decode cL_acts 388 = .ok (.iload_n 3, 1) := by decide +kernel
theorem dL_acts_389 : decode cL_acts 389 = .ok (.iconst 1, 1) := by decide +kernel
theorem dL_acts_390 : decode cL_acts 390 = .ok (.invokevirtual 50, 3) := by decide +kernel
theorem dL_acts_393 : decode cL_acts 393 = .ok (.istore 17, 2) := by decide +kernel
theorem dL_acts_395 : decode cL_acts 395 = .ok (.aload_n 0, 1) := by decide +kernel
theorem dL_acts_396 : decode cL_acts 396 = .ok (.iload_n 3, 1) := by decide +kernel
theorem dL_acts_397 : decode cL_acts 397 = .ok (.bipush 6, 2) := by decide +kernel
theorem dL_acts_399 : decode cL_acts 399 = .ok (.invokevirtual 15, 3) := by decide +kernel
theorem dL_acts_402 : decode cL_acts 402 = .ok (.istore 18, 2) := by decide +kernel
theorem dL_acts_404 : decode cL_acts 404 = .ok (.aload_n 0, 1) := by decide +kernel
theorem dL_acts_405 : decode cL_acts 405 = .ok (.iload 4, 2) := by decide +kernel
theorem dL_acts_407 : decode cL_acts 407 = .ok (.iload 15, 2) := by decide +kernel
theorem dL_acts_409 : decode cL_acts 409 = .ok (.iconst 1, 1) := by decide +kernel
theorem dL_acts_410 : decode cL_acts 410 = .ok (.invokevirtual 53, 3) := by decide +kernel
theorem dL_acts_413 : decode cL_acts 413 = .ok (.ifCond .le 17, 3) := by decide +kernel
theorem dL_acts_416 : decode cL_acts 416 = .ok (.iload 17, 2) := by decide +kernel
theorem dL_acts_418 : decode cL_acts 418 = .ok (.iconst (-1), 1) := by decide +kernel
theorem dL_acts_419 : decode cL_acts 419 = .ok (.if_icmp .ne 7, 3) := by decide +kernel
theorem dL_acts_422 : decode cL_acts 422 = .ok (.iconst 1, 1) := by decide +kernel
theorem dL_acts_423 : decode cL_acts 423 = .ok (.goto 77, 3) := by decide +kernel
theorem dL_acts_426 : decode cL_acts 426 = .ok (.iconst 0, 1) := by decide +kernel
theorem dL_acts_427 : decode cL_acts 427 = .ok (.goto 73, 3) := by decide +kernel
theorem dL_acts_430 : decode cL_acts 430 = .ok (.aload_n 0, 1) := by decide +kernel
theorem dL_acts_431 : decode cL_acts 431 = .ok (.iload 15, 2) := by decide +kernel
theorem dL_acts_433 : decode cL_acts 433 = .ok (.invokevirtual 56, 3) := by decide +kernel
theorem dL_acts_436 : decode cL_acts 436 = .ok (.ifCond .lt 63, 3) := by decide +kernel
theorem dL_acts_439 : decode cL_acts 439 = .ok (.aload_n 0, 1) := by decide +kernel
theorem dL_acts_440 : decode cL_acts 440 = .ok (.iload 4, 2) := by decide +kernel
theorem dL_acts_442 : decode cL_acts 442 = .ok (.iload 15, 2) := by decide +kernel
theorem dL_acts_444 : decode cL_acts 444 = .ok (.iconst 1, 1) := by decide +kernel
theorem dL_acts_445 : decode cL_acts 445 = .ok (.invokevirtual 59, 3) := by decide +kernel
theorem dL_acts_448 : decode cL_acts 448 = .ok (.bipush 12, 2) := by decide +kernel
theorem dL_acts_450 : decode cL_acts 450 = .ok (.aload_n 0, 1) := by decide +kernel
theorem dL_acts_451 : decode cL_acts 451 = .ok (.iload 15, 2) := by decide +kernel
theorem dL_acts_453 : decode cL_acts 453 = .ok (.invokevirtual 22, 3) := by decide +kernel
theorem dL_acts_456 : decode cL_acts 456 = .ok (.imul, 1) := by decide +kernel
theorem dL_acts_457 : decode cL_acts 457 = .ok (.aload_n 0, 1) := by decide +kernel
theorem dL_acts_458 : decode cL_acts 458 = .ok (.iconst 3, 1) := by decide +kernel
theorem dL_acts_459 : decode cL_acts 459 = .ok (.invokevirtual 22, 3) := by decide +kernel
theorem dL_acts_462 : decode cL_acts 462 = .ok (.iadd, 1) := by decide +kernel
theorem dL_acts_463 : decode cL_acts 463 = .ok (.if_icmp .ne 36, 3) := by decide +kernel
theorem dL_acts_466 : decode cL_acts 466 = .ok (.aload_n 0, 1) := by decide +kernel
theorem dL_acts_467 : decode cL_acts 467 = .ok (.bipush 8, 2) := by decide +kernel
theorem dL_acts_469 : decode cL_acts 469 = .ok (.invokevirtual 9, 3) := by decide +kernel
theorem dL_acts_472 : decode cL_acts 472 = .ok (.iload 16, 2) := by decide +kernel
theorem dL_acts_474 : decode cL_acts 474 = .ok (.bipush 12, 2) := by decide +kernel
theorem dL_acts_476 : decode cL_acts 476 = .ok (.iadd, 1) := by decide +kernel
theorem dL_acts_477 : decode cL_acts 477 = .ok (.if_icmp .ne 22, 3) := by decide +kernel
theorem dL_acts_480 : decode cL_acts 480 = .ok (.aload_n 0, 1) := by decide +kernel
theorem dL_acts_481 : decode cL_acts 481 = .ok (.iload_n 3, 1) := by decide +kernel
theorem dL_acts_482 : decode cL_acts 482 = .ok (.bipush 6, 2) := by decide +kernel
theorem dL_acts_484 : decode cL_acts 484 = .ok (.invokevirtual 15, 3) := by decide +kernel
theorem dL_acts_487 : decode cL_acts 487 = .ok (.iload 18, 2) := by decide +kernel
theorem dL_acts_489 : decode cL_acts 489 = .ok (.iload 17, 2) := by decide +kernel
theorem dL_acts_491 : decode cL_acts 491 = .ok (.iadd, 1) := by decide +kernel
theorem dL_acts_492 : decode cL_acts 492 = .ok (.if_icmp .ne 7, 3) := by decide +kernel
theorem dL_acts_495 : decode cL_acts 495 = .ok (.iconst 1, 1) := by decide +kernel
theorem dL_acts_496 : decode cL_acts 496 = .ok (.goto 4, 3) := by decide +kernel
theorem dL_acts_499 : decode cL_acts 499 = .ok (.iconst 0, 1) := by decide +kernel
theorem dL_acts_500 : decode cL_acts 500 = .ok (.ireturn, 1) := by decide +kernel
theorem dL_acts_501 : decode cL_acts 501 = .ok (.iconst 1, 1) := by decide +kernel
theorem dL_acts_502 : decode cL_acts 502 = .ok (.iload 5, 2) := by decide +kernel
theorem dL_acts_504 : decode cL_acts 504 = .ok (.iconst 5, 1) := by decide +kernel
theorem dL_acts_505 : decode cL_acts 505 = .ok (.irem, 1) := by decide +kernel
theorem dL_acts_506 : decode cL_acts 506 = .ok (.iadd, 1) := by decide +kernel
theorem dL_acts_507 : decode cL_acts 507 = .ok (.istore 19, 2) := by decide +kernel
theorem dL_acts_509 : decode cL_acts 509 = .ok (.aload_n 0, 1) := by decide +kernel
theorem dL_acts_510 : decode cL_acts 510 = .ok (.bipush 6, 2) := by decide +kernel
theorem dL_acts_512 : decode cL_acts 512 = .ok (.invokevirtual 9, 3) := by decide +kernel
theorem dL_acts_515 : decode cL_acts 515 = .ok (.istore 20, 2) := by decide +kernel
theorem dL_acts_517 : decode cL_acts 517 = .ok (.iload 19, 2) := by decide +kernel
theorem dL_acts_519 : decode cL_acts 519 = .ok (.aload_n 0, 1) := by decide +kernel
theorem dL_acts_520 : decode cL_acts 520 = .ok (.aload_n 0, 1) := by decide +kernel
theorem dL_acts_521 : decode cL_acts 521 = .ok (.iload_n 3, 1) := by decide +kernel
theorem dL_acts_522 : decode cL_acts 522 = .ok (.iconst 0, 1) := by decide +kernel
theorem dL_acts_523 : decode cL_acts 523 = .ok (.invokevirtual 15, 3) := by decide +kernel
theorem dL_acts_526 : decode cL_acts 526 = .ok (.invokevirtual 22, 3) := by decide +kernel
theorem dL_acts_529 : decode cL_acts 529 = .ok (.imul, 1) := by decide +kernel
theorem dL_acts_530 : decode cL_acts 530 = .ok (.istore 21, 2) := by decide +kernel
theorem dL_acts_532 : decode cL_acts 532 = .ok (.iload_n 2, 1) := by decide +kernel
theorem dL_acts_533 : decode cL_acts 533 = .ok (.iconst 1, 1) := by decide +kernel
theorem dL_acts_534 : decode cL_acts 534 = .ok (.iand, 1) := by decide +kernel
theorem dL_acts_535 : decode cL_acts 535 = .ok (.ifCond .ne 52, 3) := by decide +kernel
theorem dL_acts_538 : decode cL_acts 538 = .ok (.aload_n 0, 1) := by decide +kernel
theorem dL_acts_539 : decode cL_acts 539 = .ok (.iload 4, 2) := by decide +kernel
theorem dL_acts_541 : decode cL_acts 541 = .ok (.bipush 20, 2) := by decide +kernel
theorem dL_acts_543 : decode cL_acts 543 = .ok (.iload_n 3, 1) := by decide +kernel
theorem dL_acts_544 : decode cL_acts 544 = .ok (.iadd, 1) := by decide +kernel
theorem dL_acts_545 : decode cL_acts 545 = .ok (.invokevirtual 19, 3) := by decide +kernel
theorem dL_acts_548 : decode cL_acts 548 = .ok (.iload 19, 2) := by decide +kernel
theorem dL_acts_550 : decode cL_acts 550 = .ok (.if_icmp .lt 29, 3) := by decide +kernel
theorem dL_acts_553 : decode cL_acts 553 = .ok (.aload_n 0, 1) := by decide +kernel
theorem dL_acts_554 : decode cL_acts 554 = .ok (.iload 4, 2) := by decide +kernel
theorem dL_acts_556 : decode cL_acts 556 = .ok (.iload_n 3, 1) := by decide +kernel
theorem dL_acts_557 : decode cL_acts 557 = .ok (.iload 19, 2) := by decide +kernel
theorem dL_acts_559 : decode cL_acts 559 = .ok (.invokevirtual 62, 3) := by decide +kernel
theorem dL_acts_562 : decode cL_acts 562 = .ok (.iload 21, 2) := by decide +kernel
theorem dL_acts_564 : decode cL_acts 564 = .ok (.iload 20, 2) := by decide +kernel
theorem dL_acts_566 : decode cL_acts 566 = .ok (.if_icmp .ge 8, 3) := by decide +kernel
theorem dL_acts_569 : decode cL_acts 569 = .ok (.iload 21, 2) := by decide +kernel
theorem dL_acts_571 : decode cL_acts 571 = .ok (.goto 5, 3) := by decide +kernel
theorem dL_acts_574 : decode cL_acts 574 = .ok (.iload 20, 2) := by decide +kernel
theorem dL_acts_576 : decode cL_acts 576 = .ok (.if_icmp .ne 7, 3) := by decide +kernel
theorem dL_acts_579 : decode cL_acts 579 = .ok (.iconst 1, 1) := by decide +kernel
theorem dL_acts_580 : decode cL_acts 580 = .ok (.goto 39, 3) := by decide +kernel
theorem dL_acts_583 : decode cL_acts 583 = .ok (.iconst 0, 1) := by decide +kernel
theorem dL_acts_584 : decode cL_acts 584 = .ok (.goto 35, 3) := by decide +kernel
theorem dL_acts_587 : decode cL_acts 587 = .ok (.aload_n 0, 1) := by decide +kernel
theorem dL_acts_588 : decode cL_acts 588 = .ok (.iload_n 3, 1) := by decide +kernel
theorem dL_acts_589 : decode cL_acts 589 = .ok (.iconst 5, 1) := by decide +kernel
theorem dL_acts_590 : decode cL_acts 590 = .ok (.invokevirtual 15, 3) := by decide +kernel
theorem dL_acts_593 : decode cL_acts 593 = .ok (.iload 19, 2) := by decide +kernel
theorem dL_acts_595 : decode cL_acts 595 = .ok (.if_icmp .lt 19, 3) := by decide +kernel
theorem dL_acts_598 : decode cL_acts 598 = .ok (.aload_n 0, 1) := by decide +kernel
theorem dL_acts_599 : decode cL_acts 599 = .ok (.iload_n 3, 1) := by decide +kernel
theorem dL_acts_600 : decode cL_acts 600 = .ok (.iload 19, 2) := by decide +kernel
theorem dL_acts_602 : decode cL_acts 602 = .ok (.invokevirtual 65, 3) := by decide +kernel
theorem dL_acts_605 : decode cL_acts 605 = .ok (.aload_n 0, 1) := by decide +kernel
theorem dL_acts_606 : decode cL_acts 606 = .ok (.iload_n 3, 1) := by decide +kernel
theorem dL_acts_607 : decode cL_acts 607 = .ok (.iconst 5, 1) := by decide +kernel
theorem dL_acts_608 : decode cL_acts 608 = .ok (.invokevirtual 15, 3) := by decide +kernel
theorem dL_acts_611 : decode cL_acts 611 = .ok (.if_icmp .ne 7, 3) := by decide +kernel
theorem dL_acts_614 : decode cL_acts 614 = .ok (.iconst 1, 1) := by decide +kernel
theorem dL_acts_615 : decode cL_acts 615 = .ok (.goto 4, 3) := by decide +kernel
theorem dL_acts_618 : decode cL_acts 618 = .ok (.iconst 0, 1) := by decide +kernel
theorem dL_acts_619 : decode cL_acts 619 = .ok (.ireturn, 1) := by decide +kernel
theorem dL_acts_620 : decode cL_acts 620 = .ok (.iconst 0, 1) := by decide +kernel
theorem dL_acts_621 : decode cL_acts 621 = .ok (.istore 22, 2) := by decide +kernel
theorem dL_acts_623 : decode cL_acts 623 = .ok (.iconst 0, 1) := by decide +kernel
theorem dL_acts_624 : decode cL_acts 624 = .ok (.istore 23, 2) := by decide +kernel
theorem dL_acts_626 : decode cL_acts 626 = .ok (.iload 23, 2) := by decide +kernel
theorem dL_acts_628 : decode cL_acts 628 = .ok (.aload_n 0, 1) := by decide +kernel
theorem dL_acts_629 : decode cL_acts 629 = .ok (.iconst 0, 1) := by decide +kernel
theorem dL_acts_630 : decode cL_acts 630 = .ok (.invokevirtual 9, 3) := by decide +kernel
theorem dL_acts_633 : decode cL_acts 633 = .ok (.if_icmp .ge 42, 3) := by decide +kernel
theorem dL_acts_636 : decode cL_acts 636 = .ok (.iload 22, 2) := by decide +kernel
theorem dL_acts_638 : decode cL_acts 638 = .ok (.aload_n 0, 1) := by decide +kernel
theorem dL_acts_639 : decode cL_acts 639 = .ok (.iload 23, 2) := by decide +kernel
theorem dL_acts_641 : decode cL_acts 641 = .ok (.iconst 0, 1) := by decide +kernel
theorem dL_acts_642 : decode cL_acts 642 = .ok (.invokevirtual 15, 3) := by decide +kernel
theorem dL_acts_645 : decode cL_acts 645 = .ok (.aload_n 0, 1) := by decide +kernel
theorem dL_acts_646 : decode cL_acts 646 = .ok (.iload_n 3, 1) := by decide +kernel
theorem dL_acts_647 : decode cL_acts 647 = .ok (.iconst 0, 1) := by decide +kernel
theorem dL_acts_648 : decode cL_acts 648 = .ok (.invokevirtual 15, 3) := by decide +kernel
theorem dL_acts_651 : decode cL_acts 651 = .ok (.if_icmp .ne 14, 3) := by decide +kernel
theorem dL_acts_654 : decode cL_acts 654 = .ok (.aload_n 0, 1) := by decide +kernel
theorem dL_acts_655 : decode cL_acts 655 = .ok (.iload 23, 2) := by decide +kernel
theorem dL_acts_657 : decode cL_acts 657 = .ok (.bipush 6, 2) := by decide +kernel
theorem dL_acts_659 : decode cL_acts 659 = .ok (.invokevirtual 15, 3) := by decide +kernel
theorem dL_acts_662 : decode cL_acts 662 = .ok (.goto 4, 3) := by decide +kernel
theorem dL_acts_665 : decode cL_acts 665 = .ok (.iconst 0, 1) := by decide +kernel
theorem dL_acts_666 : decode cL_acts 666 = .ok (.iadd, 1) := by decide +kernel
theorem dL_acts_667 : decode cL_acts 667 = .ok (.istore 22, 2) := by decide +kernel
theorem dL_acts_669 : decode cL_acts 669 = .ok (.iinc 23 1, 3) := by decide +kernel
theorem dL_acts_672 : decode cL_acts 672 = .ok (.goto (-46), 3) := by decide +kernel
theorem dL_acts_675 : decode cL_acts 675 = .ok (.iload_n 2, 1) := by decide +kernel
theorem dL_acts_676 : decode cL_acts 676 = .ok (.bipush 10, 2) := by decide +kernel
theorem dL_acts_678 : decode cL_acts 678 = .ok (.ishr, 1) := by decide +kernel
theorem dL_acts_679 : decode cL_acts 679 = .ok (.aload_n 0, 1) := by decide +kernel
theorem dL_acts_680 : decode cL_acts 680 = .ok (.iconst 0, 1) := by decide +kernel
theorem dL_acts_681 : decode cL_acts 681 = .ok (.invokevirtual 9, 3) := by decide +kernel
theorem dL_acts_684 : decode cL_acts 684 = .ok (.irem, 1) := by decide +kernel
theorem dL_acts_685 : decode cL_acts 685 = .ok (.istore 23, 2) := by decide +kernel
theorem dL_acts_687 : decode cL_acts 687 = .ok (.iload_n 2, 1) := by decide +kernel
theorem dL_acts_688 : decode cL_acts 688 = .ok (.iconst 1, 1) := by decide +kernel
theorem dL_acts_689 : decode cL_acts 689 = .ok (.iand, 1) := by decide +kernel
theorem dL_acts_690 : decode cL_acts 690 = .ok (.ifCond .ne 36, 3) := by decide +kernel
theorem dL_acts_693 : decode cL_acts 693 = .ok (.iload 22, 2) := by decide +kernel
theorem dL_acts_695 : decode cL_acts 695 = .ok (.iload 5, 2) := by decide +kernel
theorem dL_acts_697 : decode cL_acts 697 = .ok (.if_icmp .lt 23, 3) := by decide +kernel
theorem dL_acts_700 : decode cL_acts 700 = .ok (.aload_n 0, 1) := by decide +kernel
theorem dL_acts_701 : decode cL_acts 701 = .ok (.aload_n 0, 1) := by decide +kernel
theorem dL_acts_702 : decode cL_acts 702 = .ok (.iload_n 3, 1) := by decide +kernel
theorem dL_acts_703 : decode cL_acts 703 = .ok (.iconst 0, 1) := by decide +kernel
theorem dL_acts_704 : decode cL_acts 704 = .ok (.invokevirtual 15, 3) := by decide +kernel
theorem dL_acts_707 : decode cL_acts 707 = .ok (.iload 5, 2) := by decide +kernel
theorem dL_acts_709 : decode cL_acts 709 = .ok (.invokevirtual 68, 3) := by decide +kernel
theorem dL_acts_712 : decode cL_acts 712 = .ok (.iload 22, 2) := by decide +kernel
theorem dL_acts_714 : decode cL_acts 714 = .ok (.iload 5, 2) := by decide +kernel
theorem dL_acts_716 : decode cL_acts 716 = .ok (.isub, 1) := by decide +kernel
theorem dL_acts_717 : decode cL_acts 717 = .ok (.if_icmp .ne 7, 3) := by decide +kernel
theorem dL_acts_720 : decode cL_acts 720 = .ok (.iconst 1, 1) := by decide +kernel
theorem dL_acts_721 : decode cL_acts 721 = .ok (.goto 4, 3) := by decide +kernel
theorem dL_acts_724 : decode cL_acts 724 = .ok (.iconst 0, 1) := by decide +kernel
theorem dL_acts_725 : decode cL_acts 725 = .ok (.ireturn, 1) := by decide +kernel
theorem dL_acts_726 : decode cL_acts 726 = .ok (.iload_n 3, 1) := by decide +kernel
theorem dL_acts_727 : decode cL_acts 727 = .ok (.iload 23, 2) := by decide +kernel
theorem dL_acts_729 : decode cL_acts 729 = .ok (.if_icmp .eq 42, 3) := by decide +kernel
theorem dL_acts_732 : decode cL_acts 732 = .ok (.aload_n 0, 1) := by decide +kernel
theorem dL_acts_733 : decode cL_acts 733 = .ok (.iload_n 3, 1) := by decide +kernel
theorem dL_acts_734 : decode cL_acts 734 = .ok (.iconst 0, 1) := by decide +kernel
theorem dL_acts_735 : decode cL_acts 735 = .ok (.invokevirtual 15, 3) := by decide +kernel
theorem dL_acts_738 : decode cL_acts 738 = .ok (.aload_n 0, 1) := by decide +kernel
theorem dL_acts_739 : decode cL_acts 739 = .ok (.iload 23, 2) := by decide +kernel
theorem dL_acts_741 : decode cL_acts 741 = .ok (.iconst 0, 1) := by decide +kernel
theorem dL_acts_742 : decode cL_acts 742 = .ok (.invokevirtual 15, 3) := by decide +kernel
theorem dL_acts_745 : decode cL_acts 745 = .ok (.if_icmp .ne 26, 3) := by decide +kernel
theorem dL_acts_748 : decode cL_acts 748 = .ok (.aload_n 0, 1) := by decide +kernel
theorem dL_acts_749 : decode cL_acts 749 = .ok (.iload_n 3, 1) := by decide +kernel
theorem dL_acts_750 : decode cL_acts 750 = .ok (.iconst 1, 1) := by decide +kernel
theorem dL_acts_751 : decode cL_acts 751 = .ok (.invokevirtual 15, 3) := by decide +kernel
theorem dL_acts_754 : decode cL_acts 754 = .ok (.iload 5, 2) := by decide +kernel
theorem dL_acts_756 : decode cL_acts 756 = .ok (.if_icmp .lt 15, 3) := by decide +kernel
theorem dL_acts_759 : decode cL_acts 759 = .ok (.aload_n 0, 1) := by decide +kernel
theorem dL_acts_760 : decode cL_acts 760 = .ok (.iload_n 3, 1) := by decide +kernel
theorem dL_acts_761 : decode cL_acts 761 = .ok (.iload 23, 2) := by decide +kernel
theorem dL_acts_763 : decode cL_acts 763 = .ok (.iload 5, 2) := by decide +kernel
theorem dL_acts_765 : decode cL_acts 765 = .ok (.invokestatic 71, 3) := by decide +kernel
theorem dL_acts_768 : decode cL_acts 768 = .ok (.ifCond .eq 7, 3) := by decide +kernel
theorem dL_acts_771 : decode cL_acts 771 = .ok (.iconst 1, 1) := by decide +kernel
theorem dL_acts_772 : decode cL_acts 772 = .ok (.goto 4, 3) := by decide +kernel
theorem dL_acts_775 : decode cL_acts 775 = .ok (.iconst 0, 1) := by decide +kernel
theorem dL_acts_776 : decode cL_acts 776 = .ok (.ireturn, 1) := by decide +kernel
theorem dL_law_0 : decode cL_law 0 = .ok (.new 10, 3) := by decide +kernel
theorem dL_law_3 : decode cL_law 3 = .ok (.dup, 1) := by decide +kernel
theorem dL_law_4 : decode cL_law 4 = .ok (.invokespecial 77, 3) := by decide +kernel
theorem dL_law_7 : decode cL_law 7 = .ok (.astore_n 1, 1) := by decide +kernel
theorem dL_law_8 : decode cL_law 8 = .ok (.bipush 8, 2) := by decide +kernel
theorem dL_law_10 : decode cL_law 10 = .ok (.newarray .int, 2) := by decide +kernel
theorem dL_law_12 : decode cL_law 12 = .ok (.astore_n 2, 1) := by decide +kernel
theorem dL_law_13 : decode cL_law 13 = .ok (.aload_n 0, 1) := by decide +kernel
theorem dL_law_14 : decode cL_law 14 = .ok (.iconst 0, 1) := by decide +kernel
theorem dL_law_15 : decode cL_law 15 = .ok (.invokestatic 78, 3) := by decide +kernel
theorem dL_law_18 : decode cL_law 18 = .ok (.istore_n 3, 1) := by decide +kernel
theorem dL_law_19 : decode cL_law 19 = .ok (.iconst 0, 1) := by decide +kernel
theorem dL_law_20 : decode cL_law 20 = .ok (.istore 4, 2) := by decide +kernel
theorem dL_law_22 : decode cL_law 22 = .ok (.aload_n 1, 1) := by decide +kernel
theorem dL_law_23 : decode cL_law 23 = .ok (.invokevirtual 82, 3) := by decide +kernel
theorem dL_law_26 : decode cL_law 26 = .ok (.dconst 0, 1) := by decide +kernel
theorem dL_law_27 : decode cL_law 27 = .ok (.dcmp .l, 1) := by decide +kernel
theorem dL_law_28 : decode cL_law 28 = .ok (.ifCond .ne 55, 3) := by decide +kernel
theorem dL_law_31 : decode cL_law 31 = .ok (.aload_n 1, 1) := by decide +kernel
theorem dL_law_32 : decode cL_law 32 = .ok (.iconst 0, 1) := by decide +kernel
theorem dL_law_33 : decode cL_law 33 = .ok (.invokevirtual 56, 3) := by decide +kernel
theorem dL_law_36 : decode cL_law 36 = .ok (.iconst (-1), 1) := by decide +kernel
theorem dL_law_37 : decode cL_law 37 = .ok (.if_icmp .ne 46, 3) := by decide +kernel
theorem dL_law_40 : decode cL_law 40 = .ok (.aload_n 1, 1) := by decide +kernel
theorem dL_law_41 : decode cL_law 41 = .ok (.iconst 5, 1) := by decide +kernel
theorem dL_law_42 : decode cL_law 42 = .ok (.iconst 2, 1) := by decide +kernel
theorem dL_law_43 : decode cL_law 43 = .ok (.iload_n 3, 1) := by decide +kernel
theorem dL_law_44 : decode cL_law 44 = .ok (.bipush 20, 2) := by decide +kernel
theorem dL_law_46 : decode cL_law 46 = .ok (.irem, 1) := by decide +kernel
theorem dL_law_47 : decode cL_law 47 = .ok (.iadd, 1) := by decide +kernel
theorem dL_law_48 : decode cL_law 48 = .ok (.invokevirtual 86, 3) := by decide +kernel
theorem dL_law_51 : decode cL_law 51 = .ok (.bipush 20, 2) := by decide +kernel
theorem dL_law_53 : decode cL_law 53 = .ok (.if_icmp .ne 30, 3) := by decide +kernel
theorem dL_law_56 : decode cL_law 56 = .ok (.aload_n 1, 1) := by decide +kernel
theorem dL_law_57 : decode cL_law 57 = .ok (.iconst 1, 1) := by decide +kernel
theorem dL_law_58 : decode cL_law 58 = .ok (.iload_n 3, 1) := by decide +kernel
theorem dL_law_59 : decode cL_law 59 = .ok (.iconst 5, 1) := by decide +kernel
theorem dL_law_60 : decode cL_law 60 = .ok (.ishr, 1) := by decide +kernel
theorem dL_law_61 : decode cL_law 61 = .ok (.bipush 40, 2) := by decide +kernel
theorem dL_law_63 : decode cL_law 63 = .ok (.irem, 1) := by decide +kernel
theorem dL_law_64 : decode cL_law 64 = .ok (.iadd, 1) := by decide +kernel
theorem dL_law_65 : decode cL_law 65 = .ok (.invokevirtual 89, 3) := by decide +kernel
theorem dL_law_68 : decode cL_law 68 = .ok (.iconst 1, 1) := by decide +kernel
theorem dL_law_69 : decode cL_law 69 = .ok (.iload_n 3, 1) := by decide +kernel
theorem dL_law_70 : decode cL_law 70 = .ok (.iconst 5, 1) := by decide +kernel
theorem dL_law_71 : decode cL_law 71 = .ok (.ishr, 1) := by decide +kernel
theorem dL_law_72 : decode cL_law 72 = .ok (.bipush 40, 2) := by decide +kernel
theorem dL_law_74 : decode cL_law 74 = .ok (.irem, 1) := by decide +kernel
theorem dL_law_75 : decode cL_law 75 = .ok (.iadd, 1) := by decide +kernel
theorem dL_law_76 : decode cL_law 76 = .ok (.if_icmp .ne 7, 3) := by decide +kernel
theorem dL_law_79 : decode cL_law 79 = .ok (.iconst 1, 1) := by decide +kernel
theorem dL_law_80 : decode cL_law 80 = .ok (.goto 4, 3) := by decide +kernel
theorem dL_law_83 : decode cL_law 83 = .ok (.iconst 0, 1) := by decide +kernel
theorem dL_law_84 : decode cL_law 84 = .ok (.istore 5, 2) := by decide +kernel
theorem dL_law_86 : decode cL_law 86 = .ok (.iconst 0, 1) := by decide +kernel
theorem dL_law_87 : decode cL_law 87 = .ok (.istore 6, 2) := by decide +kernel
theorem dL_law_89 : decode cL_law 89 = .ok (.iload 6, 2) := by decide +kernel
theorem dL_law_91 : decode cL_law 91 = .ok (.iconst 2, 1) := by decide +kernel
theorem dL_law_92 : decode cL_law 92 = .ok (.iload_n 3, 1) := by decide +kernel
theorem dL_law_93 : decode cL_law 93 = .ok (.bipush 10, 2) := by decide +kernel
theorem dL_law_95 : decode cL_law 95 = .ok (.ishr, 1) := by decide +kernel
theorem dL_law_96 : decode cL_law 96 = .ok (.iconst 3, 1) := by decide +kernel
theorem dL_law_97 : decode cL_law 97 = .ok (.irem, 1) := by decide +kernel
theorem dL_law_98 : decode cL_law 98 = .ok (.iadd, 1) := by decide +kernel
theorem dL_law_99 : decode cL_law 99 = .ok (.if_icmp .ge 81, 3) := by decide +kernel
theorem dL_law_102 : decode cL_law 102 = .ok (.iload 5, 2) := by decide +kernel
theorem dL_law_104 : decode cL_law 104 = .ok (.ifCond .eq 76, 3) := by decide +kernel
theorem dL_law_107 : decode cL_law 107 = .ok (.aload_n 0, 1) := by decide +kernel
theorem dL_law_108 : decode cL_law 108 = .ok (.iconst 1, 1) := by decide +kernel
theorem dL_law_109 : decode cL_law 109 = .ok (.iload 6, 2) := by decide +kernel
theorem dL_law_111 : decode cL_law 111 = .ok (.iadd, 1) := by decide +kernel
theorem dL_law_112 : decode cL_law 112 = .ok (.invokestatic 78, 3) := by decide +kernel
theorem dL_law_115 : decode cL_law 115 = .ok (.istore 7, 2) := by decide +kernel
theorem dL_law_117 : decode cL_law 117 = .ok (.aload_n 2, 1) := by decide +kernel
theorem dL_law_118 : decode cL_law 118 = .ok (.iload 6, 2) := by decide +kernel
theorem dL_law_120 : decode cL_law 120 = .ok (.bipush 60, 2) := by decide +kernel
theorem dL_law_122 : decode cL_law 122 = .ok (.iload 7, 2) := by decide +kernel
theorem dL_law_124 : decode cL_law 124 = .ok (.iconst 2, 1) := by decide +kernel
theorem dL_law_125 : decode cL_law 125 = .ok (.ishr, 1) := by decide +kernel
theorem dL_law_126 : decode cL_law 126 = .ok (.sipush 200, 3) := by decide +kernel
theorem dL_law_129 : decode cL_law 129 = .ok (.irem, 1) := by decide +kernel
theorem dL_law_130 : decode cL_law 130 = .ok (.iadd, 1) := by decide +kernel
theorem dL_law_131 : decode cL_law 131 = .ok (.iastore, 1) := by decide +kernel
theorem dL_law_132 : decode cL_law 132 = .ok (.aload_n 1, 1) := by decide +kernel
theorem dL_law_133 : decode cL_law 133 = .ok (.iload 7, 2) := by decide +kernel
theorem dL_law_135 : decode cL_law 135 = .ok (.iconst 2, 1) := by decide +kernel
theorem dL_law_136 : decode cL_law 136 = .ok (.irem, 1) := by decide +kernel
theorem dL_law_137 : decode cL_law 137 = .ok (.aload_n 2, 1) := by decide +kernel
theorem dL_law_138 : decode cL_law 138 = .ok (.iload 6, 2) := by decide +kernel
theorem dL_law_140 : decode cL_law 140 = .ok (.iaload, 1) := by decide +kernel
theorem dL_law_141 : decode cL_law 141 = .ok (.invokevirtual 92, 3) := by decide +kernel
theorem dL_law_144 : decode cL_law 144 = .ok (.iload 6, 2) := by decide +kernel
theorem dL_law_146 : decode cL_law 146 = .ok (.if_icmp .ne 25, 3) := by decide +kernel
theorem dL_law_149 : decode cL_law 149 = .ok (.aload_n 1, 1) := by decide +kernel
theorem dL_law_150 : decode cL_law 150 = .ok (.iload 6, 2) := by decide +kernel
theorem dL_law_152 : decode cL_law 152 = .ok (.bipush 50, 2) := by decide +kernel
theorem dL_law_154 : decode cL_law 154 = .ok (.invokevirtual 32, 3) := by decide +kernel
theorem dL_law_157 : decode cL_law 157 = .ok (.aload_n 1, 1) := by decide +kernel
theorem dL_law_158 : decode cL_law 158 = .ok (.iload 6, 2) := by decide +kernel
theorem dL_law_160 : decode cL_law 160 = .ok (.iconst 2, 1) := by decide +kernel
theorem dL_law_161 : decode cL_law 161 = .ok (.invokevirtual 15, 3) := by decide +kernel
theorem dL_law_164 : decode cL_law 164 = .ok (.if_icmp .ne 7, 3) := by decide +kernel
theorem dL_law_167 : decode cL_law 167 = .ok (.iconst 1, 1) := by decide +kernel
theorem dL_law_168 : decode cL_law 168 = .ok (.goto 4, 3) := by decide +kernel
theorem dL_law_171 : decode cL_law 171 = .ok (.iconst 0, 1) := by decide +kernel
theorem dL_law_172 : decode cL_law 172 = .ok (.istore 5, 2) := by decide +kernel
theorem dL_law_174 : decode cL_law 174 = .ok (.iinc 6 1, 3) := by decide +kernel
theorem dL_law_177 : decode cL_law 177 = .ok (.goto (-88), 3) := by decide +kernel
theorem dL_law_180 : decode cL_law 180 = .ok (.iconst 0, 1) := by decide +kernel
theorem dL_law_181 : decode cL_law 181 = .ok (.istore 6, 2) := by decide +kernel
theorem dL_law_183 : decode cL_law 183 = .ok (.iload 6, 2) := by decide +kernel
theorem dL_law_185 : decode cL_law 185 = .ok (.iconst 1, 1) := by decide +kernel
theorem dL_law_186 : decode cL_law 186 = .ok (.iload_n 3, 1) := by decide +kernel
theorem dL_law_187 : decode cL_law 187 = .ok (.bipush 12, 2) := by decide +kernel
theorem dL_law_189 : decode cL_law 189 = .ok (.ishr, 1) := by decide +kernel
theorem dL_law_190 : decode cL_law 190 = .ok (.iconst 3, 1) := by decide +kernel
theorem dL_law_191 : decode cL_law 191 = .ok (.irem, 1) := by decide +kernel
theorem dL_law_192 : decode cL_law 192 = .ok (.iadd, 1) := by decide +kernel
theorem dL_law_193 : decode cL_law 193 = .ok (.if_icmp .ge 66, 3) := by decide +kernel
theorem dL_law_196 : decode cL_law 196 = .ok (.iload 5, 2) := by decide +kernel
theorem dL_law_198 : decode cL_law 198 = .ok (.ifCond .eq 61, 3) := by decide +kernel
theorem dL_law_201 : decode cL_law 201 = .ok (.aload_n 0, 1) := by decide +kernel
theorem dL_law_202 : decode cL_law 202 = .ok (.bipush 6, 2) := by decide +kernel
theorem dL_law_204 : decode cL_law 204 = .ok (.iload 6, 2) := by decide +kernel
theorem dL_law_206 : decode cL_law 206 = .ok (.iadd, 1) := by decide +kernel
theorem dL_law_207 : decode cL_law 207 = .ok (.invokestatic 78, 3) := by decide +kernel
theorem dL_law_210 : decode cL_law 210 = .ok (.istore 7, 2) := by decide +kernel
theorem dL_law_212 : decode cL_law 212 = .ok (.iload 4, 2) := by decide +kernel
theorem dL_law_214 : decode cL_law 214 = .ok (.sipush 500, 3) := by decide +kernel
theorem dL_law_217 : decode cL_law 217 = .ok (.iload 7, 2) := by decide +kernel
theorem dL_law_219 : decode cL_law 219 = .ok (.sipush 3000, 3) := by decide +kernel
theorem dL_law_222 : decode cL_law 222 = .ok (.irem, 1) := by decide +kernel
theorem dL_law_223 : decode cL_law 223 = .ok (.iadd, 1) := by decide +kernel
theorem dL_law_224 : decode cL_law 224 = .ok (.iadd, 1) := by decide +kernel
theorem dL_law_225 : decode cL_law 225 = .ok (.istore 4, 2) := by decide +kernel
theorem dL_law_227 : decode cL_law 227 = .ok (.aload_n 1, 1) := by decide +kernel
theorem dL_law_228 : decode cL_law 228 = .ok (.sipush 500, 3) := by decide +kernel
theorem dL_law_231 : decode cL_law 231 = .ok (.iload 7, 2) := by decide +kernel
theorem dL_law_233 : decode cL_law 233 = .ok (.sipush 3000, 3) := by decide +kernel
theorem dL_law_236 : decode cL_law 236 = .ok (.irem, 1) := by decide +kernel
theorem dL_law_237 : decode cL_law 237 = .ok (.iadd, 1) := by decide +kernel
theorem dL_law_238 : decode cL_law 238 = .ok (.invokevirtual 95, 3) := by decide +kernel
theorem dL_law_241 : decode cL_law 241 = .ok (.iload 6, 2) := by decide +kernel
theorem dL_law_243 : decode cL_law 243 = .ok (.if_icmp .ne 7, 3) := by decide +kernel
theorem dL_law_246 : decode cL_law 246 = .ok (.iconst 1, 1) := by decide +kernel
theorem dL_law_247 : decode cL_law 247 = .ok (.goto 4, 3) := by decide +kernel
theorem dL_law_250 : decode cL_law 250 = .ok (.iconst 0, 1) := by decide +kernel
theorem dL_law_251 : decode cL_law 251 = .ok (.istore 5, 2) := by decide +kernel
theorem dL_law_253 : decode cL_law 253 = .ok (.iinc 6 1, 3) := by decide +kernel
theorem dL_law_256 : decode cL_law 256 = .ok (.goto (-73), 3) := by decide +kernel
theorem dL_law_259 : decode cL_law 259 = .ok (.iconst 0, 1) := by decide +kernel
theorem dL_law_260 : decode cL_law 260 = .ok (.istore 6, 2) := by decide +kernel
theorem dL_law_262 : decode cL_law 262 = .ok (.iload 6, 2) := by decide +kernel
theorem dL_law_264 : decode cL_law 264 = .ok (.bipush 50, 2) := by decide +kernel
theorem dL_law_266 : decode cL_law 266 = .ok (.if_icmp .ge 54, 3) := by decide +kernel
theorem dL_law_269 : decode cL_law 269 = .ok (.iload 5, 2) := by decide +kernel
theorem dL_law_271 : decode cL_law 271 = .ok (.ifCond .eq 49, 3) := by decide +kernel
theorem dL_law_274 : decode cL_law 274 = .ok (.aload_n 1, 1) := by decide +kernel
theorem dL_law_275 : decode cL_law 275 = .ok (.aload_n 0, 1) := by decide +kernel
theorem dL_law_276 : decode cL_law 276 = .ok (.bipush 10, 2) := by decide +kernel
theorem dL_law_278 : decode cL_law 278 = .ok (.iload 6, 2) := by decide +kernel
theorem dL_law_280 : decode cL_law 280 = .ok (.iadd, 1) := by decide +kernel
theorem dL_law_281 : decode cL_law 281 = .ok (.invokestatic 78, 3) := by decide +kernel
theorem dL_law_284 : decode cL_law 284 = .ok (.invokestatic 98, 3) := by decide +kernel
theorem dL_law_287 : decode cL_law 287 = .ok (.ifCond .eq 24, 3) := by decide +kernel
theorem dL_law_290 : decode cL_law 290 = .ok (.aload_n 1, 1) := by decide +kernel
theorem dL_law_291 : decode cL_law 291 = .ok (.aload_n 2, 1) := by decide +kernel
theorem dL_law_292 : decode cL_law 292 = .ok (.invokestatic 102, 3) := by decide +kernel
theorem dL_law_295 : decode cL_law 295 = .ok (.ifCond .eq 16, 3) := by decide +kernel
theorem dL_law_298 : decode cL_law 298 = .ok (.aload_n 1, 1) := by decide +kernel
theorem dL_law_299 : decode cL_law 299 = .ok (.iload 4, 2) := by decide +kernel
theorem dL_law_301 : decode cL_law 301 = .ok (.invokestatic 106, 3) := by decide +kernel
theorem dL_law_304 : decode cL_law 304 = .ok (.ifCond .eq 7, 3) := by decide +kernel
theorem dL_law_307 : decode cL_law 307 = .ok (.iconst 1, 1) := by decide +kernel
theorem dL_law_308 : decode cL_law 308 = .ok (.goto 4, 3) := by decide +kernel
theorem dL_law_311 : decode cL_law 311 = .ok (.iconst 0, 1) := by decide +kernel
theorem dL_law_312 : decode cL_law 312 = .ok (.istore 5, 2) := by decide +kernel
theorem dL_law_314 : decode cL_law 314 = .ok (.iinc 6 1, 3) := by decide +kernel
theorem dL_law_317 : decode cL_law 317 = .ok (.goto (-55), 3) := by decide +kernel
theorem dL_law_320 : decode cL_law 320 = .ok (.aload_n 1, 1) := by decide +kernel
theorem dL_law_321 : decode cL_law 321 = .ok (.iconst 4, 1) := by decide +kernel
theorem dL_law_322 : decode cL_law 322 = .ok (.invokevirtual 9, 3) := by decide +kernel
theorem dL_law_325 : decode cL_law 325 = .ok (.istore 6, 2) := by decide +kernel
theorem dL_law_327 : decode cL_law 327 = .ok (.aload_n 1, 1) := by decide +kernel
theorem dL_law_328 : decode cL_law 328 = .ok (.bipush 6, 2) := by decide +kernel
theorem dL_law_330 : decode cL_law 330 = .ok (.invokevirtual 9, 3) := by decide +kernel
theorem dL_law_333 : decode cL_law 333 = .ok (.istore 7, 2) := by decide +kernel
theorem dL_law_335 : decode cL_law 335 = .ok (.iload 5, 2) := by decide +kernel
theorem dL_law_337 : decode cL_law 337 = .ok (.ifCond .eq 76, 3) := by decide +kernel
theorem dL_law_340 : decode cL_law 340 = .ok (.aload_n 1, 1) := by decide +kernel
theorem dL_law_341 : decode cL_law 341 = .ok (.iconst 4, 1) := by decide +kernel
theorem dL_law_342 : decode cL_law 342 = .ok (.iconst 3, 1) := by decide +kernel
theorem dL_law_343 : decode cL_law 343 = .ok (.invokevirtual 86, 3) := by decide +kernel
theorem dL_law_346 : decode cL_law 346 = .ok (.ifCond .lt 67, 3) := by decide +kernel
theorem dL_law_349 : decode cL_law 349 = .ok (.aload_n 1, 1) := by decide +kernel
theorem dL_law_350 : decode cL_law 350 = .ok (.iconst 1, 1) := by decide +kernel
theorem dL_law_351 : decode cL_law 351 = .ok (.invokevirtual 89, 3) := by decide +kernel
theorem dL_law_354 : decode cL_law 354 = .ok (.ifCond .le 59, 3) := by decide +kernel
theorem dL_law_357 : decode cL_law 357 = .ok (.aload_n 1, 1) := by decide +kernel
theorem dL_law_358 : decode cL_law 358 = .ok (.invokevirtual 109, 3) := by decide +kernel
theorem dL_law_361 : decode cL_law 361 = .ok (.ifCond .le 52, 3) := by decide +kernel
theorem dL_law_364 : decode cL_law 364 = .ok (.aload_n 1, 1) := by decide +kernel
theorem dL_law_365 : decode cL_law 365 = .ok (.invokevirtual 109, 3) := by decide +kernel
theorem dL_law_368 : decode cL_law 368 = .ok (.ifCond .le 45, 3) := by decide +kernel
theorem dL_law_371 : decode cL_law 371 = .ok (.aload_n 1, 1) := by decide +kernel
theorem dL_law_372 : decode cL_law 372 = .ok (.iconst 4, 1) := by decide +kernel
theorem dL_law_373 : decode cL_law 373 = .ok (.invokevirtual 9, 3) := by decide +kernel
theorem dL_law_376 : decode cL_law 376 = .ok (.iload 6, 2) := by decide +kernel
theorem dL_law_378 : decode cL_law 378 = .ok (.if_icmp .ne 35, 3) := by decide +kernel
theorem dL_law_381 : decode cL_law 381 = .ok (.aload_n 1, 1) := by decide +kernel
theorem dL_law_382 : decode cL_law 382 = .ok (.bipush 6, 2) := by decide +kernel
theorem dL_law_384 : decode cL_law 384 = .ok (.invokevirtual 9, 3) := by decide +kernel
theorem dL_law_387 : decode cL_law 387 = .ok (.iload 7, 2) := by decide +kernel
theorem dL_law_389 : decode cL_law 389 = .ok (.if_icmp .ne 24, 3) := by decide +kernel
theorem dL_law_392 : decode cL_law 392 = .ok (.aload_n 1, 1) := by decide +kernel
theorem dL_law_393 : decode cL_law 393 = .ok (.aload_n 2, 1) := by decide +kernel
theorem dL_law_394 : decode cL_law 394 = .ok (.invokestatic 102, 3) := by decide +kernel
theorem dL_law_397 : decode cL_law 397 = .ok (.ifCond .eq 16, 3) := by decide +kernel
theorem dL_law_400 : decode cL_law 400 = .ok (.aload_n 1, 1) := by decide +kernel
theorem dL_law_401 : decode cL_law 401 = .ok (.iload 4, 2) := by decide +kernel
theorem dL_law_403 : decode cL_law 403 = .ok (.invokestatic 106, 3) := by decide +kernel
theorem dL_law_406 : decode cL_law 406 = .ok (.ifCond .eq 7, 3) := by decide +kernel
theorem dL_law_409 : decode cL_law 409 = .ok (.iconst 1, 1) := by decide +kernel
theorem dL_law_410 : decode cL_law 410 = .ok (.goto 4, 3) := by decide +kernel
theorem dL_law_413 : decode cL_law 413 = .ok (.iconst 0, 1) := by decide +kernel
theorem dL_law_414 : decode cL_law 414 = .ok (.ireturn, 1) := by decide +kernel
abbrev vwCl : List vw_C := [(RX0, TX0, 5), (RX1, TX1, 3), (RX2, TX2, 1), (RX3, TX3, 3), (RX4, TX4, 2), (RX5, TX5, 5)]
