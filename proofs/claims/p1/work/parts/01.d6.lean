theorem d_Law_law_240 : decode b_Law_law 240 = .ok (.iload 5, 2) := by decide +kernel
theorem d_Law_law_242 : decode b_Law_law 242 = .ok (.if_icmp .eq 5, 3) := by decide +kernel
theorem d_Law_law_245 : decode b_Law_law 245 = .ok (.iconst 0, 1) := by decide +kernel
theorem d_Law_law_246 : decode b_Law_law 246 = .ok (.ireturn, 1) := by decide +kernel
theorem d_Law_law_247 : decode b_Law_law 247 = .ok (.iload 5, 2) := by decide +kernel
theorem d_Law_law_249 : decode b_Law_law 249 = .ok (.ifCond .ne 14, 3) := by decide +kernel
theorem d_Law_law_252 : decode b_Law_law 252 = .ok (.aload_n 3, 1) := by decide +kernel
theorem d_Law_law_253 : decode b_Law_law 253 = .ok (.iconst 0, 1) := by decide +kernel
theorem d_Law_law_254 : decode b_Law_law 254 = .ok (.laload, 1) := by decide +kernel
theorem d_Law_law_255 : decode b_Law_law 255 = .ok (.lload 6, 2) := by decide +kernel
theorem d_Law_law_257 : decode b_Law_law 257 = .ok (.lcmp, 1) := by decide +kernel
theorem d_Law_law_258 : decode b_Law_law 258 = .ok (.ifCond .eq 5, 3) := by decide +kernel
theorem d_Law_law_261 : decode b_Law_law 261 = .ok (.iconst 0, 1) := by decide +kernel
theorem d_Law_law_262 : decode b_Law_law 262 = .ok (.ireturn, 1) := by decide +kernel
theorem d_Law_law_263 : decode b_Law_law 263 = .ok (.goto 359, 3) := by decide +kernel
theorem d_Law_law_266 : decode b_Law_law 266 = .ok (.aload_n 1, 1) := by decide +kernel
theorem d_Law_law_267 : decode b_Law_law 267 = .ok (.invokevirtual 59, 3) := by decide +kernel
theorem d_Law_law_270 : decode b_Law_law 270 = .ok (.aload_n 2, 1) := by decide +kernel
theorem d_Law_law_271 : decode b_Law_law 271 = .ok (.invokevirtual 62, 3) := by decide +kernel
theorem d_Law_law_274 : decode b_Law_law 274 = .ok (.if_icmp .eq 348, 3) := by decide +kernel
theorem d_Law_law_277 : decode b_Law_law 277 = .ok (.iconst 0, 1) := by decide +kernel
theorem d_Law_law_278 : decode b_Law_law 278 = .ok (.ireturn, 1) := by decide +kernel
theorem d_Law_law_279 : decode b_Law_law 279 = .ok (.aload_n 1, 1) := by decide +kernel
theorem d_Law_law_280 : decode b_Law_law 280 = .ok (.aload_n 0, 1) := by decide +kernel
theorem d_Law_law_281 : decode b_Law_law 281 = .ok (.iload 4, 2) := by decide +kernel
theorem d_Law_law_283 : decode b_Law_law 283 = .ok (.iconst 1, 1) := by decide +kernel
theorem d_Law_law_284 : decode b_Law_law 284 = .ok (.iadd, 1) := by decide +kernel
theorem d_Law_law_285 : decode b_Law_law 285 = .ok (.iaload, 1) := by decide +kernel
theorem d_Law_law_286 : decode b_Law_law 286 = .ok (.invokevirtual 63, 3) := by decide +kernel
theorem d_Law_law_289 : decode b_Law_law 289 = .ok (.aload_n 2, 1) := by decide +kernel
theorem d_Law_law_290 : decode b_Law_law 290 = .ok (.aload_n 0, 1) := by decide +kernel
theorem d_Law_law_291 : decode b_Law_law 291 = .ok (.iload 4, 2) := by decide +kernel
theorem d_Law_law_293 : decode b_Law_law 293 = .ok (.iconst 1, 1) := by decide +kernel
theorem d_Law_law_294 : decode b_Law_law 294 = .ok (.iadd, 1) := by decide +kernel
theorem d_Law_law_295 : decode b_Law_law 295 = .ok (.iaload, 1) := by decide +kernel
theorem d_Law_law_296 : decode b_Law_law 296 = .ok (.invokevirtual 66, 3) := by decide +kernel
theorem d_Law_law_299 : decode b_Law_law 299 = .ok (.if_icmp .eq 323, 3) := by decide +kernel
theorem d_Law_law_302 : decode b_Law_law 302 = .ok (.iconst 0, 1) := by decide +kernel
theorem d_Law_law_303 : decode b_Law_law 303 = .ok (.ireturn, 1) := by decide +kernel
theorem d_Law_law_304 : decode b_Law_law 304 = .ok (.aload_n 1, 1) := by decide +kernel
theorem d_Law_law_305 : decode b_Law_law 305 = .ok (.aload_n 0, 1) := by decide +kernel
theorem d_Law_law_306 : decode b_Law_law 306 = .ok (.iload 4, 2) := by decide +kernel
theorem d_Law_law_308 : decode b_Law_law 308 = .ok (.iconst 1, 1) := by decide +kernel
theorem d_Law_law_309 : decode b_Law_law 309 = .ok (.iadd, 1) := by decide +kernel
theorem d_Law_law_310 : decode b_Law_law 310 = .ok (.iaload, 1) := by decide +kernel
theorem d_Law_law_311 : decode b_Law_law 311 = .ok (.i2l, 1) := by decide +kernel
theorem d_Law_law_312 : decode b_Law_law 312 = .ok (.bipush 32, 2) := by decide +kernel
theorem d_Law_law_314 : decode b_Law_law 314 = .ok (.lshl, 1) := by decide +kernel
theorem d_Law_law_315 : decode b_Law_law 315 = .ok (.aload_n 0, 1) := by decide +kernel
theorem d_Law_law_316 : decode b_Law_law 316 = .ok (.iload 4, 2) := by decide +kernel
theorem d_Law_law_318 : decode b_Law_law 318 = .ok (.iconst 2, 1) := by decide +kernel
theorem d_Law_law_319 : decode b_Law_law 319 = .ok (.iadd, 1) := by decide +kernel
theorem d_Law_law_320 : decode b_Law_law 320 = .ok (.iaload, 1) := by decide +kernel
theorem d_Law_law_321 : decode b_Law_law 321 = .ok (.i2l, 1) := by decide +kernel
theorem d_Law_law_322 : decode b_Law_law 322 = .ok (.ldc2_w 42, 3) := by decide +kernel
theorem d_Law_law_325 : decode b_Law_law 325 = .ok (.land, 1) := by decide +kernel
theorem d_Law_law_326 : decode b_Law_law 326 = .ok (.lor, 1) := by decide +kernel
theorem d_Law_law_327 : decode b_Law_law 327 = .ok (.aload_n 3, 1) := by decide +kernel
theorem d_Law_law_328 : decode b_Law_law 328 = .ok (.invokestatic 67, 3) := by decide +kernel
theorem d_Law_law_331 : decode b_Law_law 331 = .ok (.istore 5, 2) := by decide +kernel
theorem d_Law_law_333 : decode b_Law_law 333 = .ok (.aload_n 2, 1) := by decide +kernel
theorem d_Law_law_334 : decode b_Law_law 334 = .ok (.aload_n 0, 1) := by decide +kernel
theorem d_Law_law_335 : decode b_Law_law 335 = .ok (.iload 4, 2) := by decide +kernel
theorem d_Law_law_337 : decode b_Law_law 337 = .ok (.iconst 1, 1) := by decide +kernel
theorem d_Law_law_338 : decode b_Law_law 338 = .ok (.iadd, 1) := by decide +kernel
theorem d_Law_law_339 : decode b_Law_law 339 = .ok (.iaload, 1) := by decide +kernel
theorem d_Law_law_340 : decode b_Law_law 340 = .ok (.i2l, 1) := by decide +kernel
theorem d_Law_law_341 : decode b_Law_law 341 = .ok (.bipush 32, 2) := by decide +kernel
theorem d_Law_law_343 : decode b_Law_law 343 = .ok (.lshl, 1) := by decide +kernel
theorem d_Law_law_344 : decode b_Law_law 344 = .ok (.aload_n 0, 1) := by decide +kernel
theorem d_Law_law_345 : decode b_Law_law 345 = .ok (.iload 4, 2) := by decide +kernel
theorem d_Law_law_347 : decode b_Law_law 347 = .ok (.iconst 2, 1) := by decide +kernel
theorem d_Law_law_348 : decode b_Law_law 348 = .ok (.iadd, 1) := by decide +kernel
theorem d_Law_law_349 : decode b_Law_law 349 = .ok (.iaload, 1) := by decide +kernel
theorem d_Law_law_350 : decode b_Law_law 350 = .ok (.i2l, 1) := by decide +kernel
theorem d_Law_law_351 : decode b_Law_law 351 = .ok (.ldc2_w 42, 3) := by decide +kernel
theorem d_Law_law_354 : decode b_Law_law 354 = .ok (.land, 1) := by decide +kernel
theorem d_Law_law_355 : decode b_Law_law 355 = .ok (.lor, 1) := by decide +kernel
theorem d_Law_law_356 : decode b_Law_law 356 = .ok (.invokevirtual 70, 3) := by decide +kernel
theorem d_Law_law_359 : decode b_Law_law 359 = .ok (.istore 6, 2) := by decide +kernel
theorem d_Law_law_361 : decode b_Law_law 361 = .ok (.aload_n 2, 1) := by decide +kernel
theorem d_Law_law_362 : decode b_Law_law 362 = .ok (.invokevirtual 55, 3) := by decide +kernel
theorem d_Law_law_365 : decode b_Law_law 365 = .ok (.iload 5, 2) := by decide +kernel
theorem d_Law_law_367 : decode b_Law_law 367 = .ok (.if_icmp .eq 5, 3) := by decide +kernel
theorem d_Law_law_370 : decode b_Law_law 370 = .ok (.iconst 0, 1) := by decide +kernel
theorem d_Law_law_371 : decode b_Law_law 371 = .ok (.ireturn, 1) := by decide +kernel
theorem d_Law_law_372 : decode b_Law_law 372 = .ok (.iload 5, 2) := by decide +kernel
theorem d_Law_law_374 : decode b_Law_law 374 = .ok (.ifCond .ne 15, 3) := by decide +kernel
theorem d_Law_law_377 : decode b_Law_law 377 = .ok (.aload_n 3, 1) := by decide +kernel
theorem d_Law_law_378 : decode b_Law_law 378 = .ok (.iconst 0, 1) := by decide +kernel
theorem d_Law_law_379 : decode b_Law_law 379 = .ok (.laload, 1) := by decide +kernel
theorem d_Law_law_380 : decode b_Law_law 380 = .ok (.iload 6, 2) := by decide +kernel
theorem d_Law_law_382 : decode b_Law_law 382 = .ok (.i2l, 1) := by decide +kernel
theorem d_Law_law_383 : decode b_Law_law 383 = .ok (.lcmp, 1) := by decide +kernel
theorem d_Law_law_384 : decode b_Law_law 384 = .ok (.ifCond .eq 5, 3) := by decide +kernel
theorem d_Law_law_387 : decode b_Law_law 387 = .ok (.iconst 0, 1) := by decide +kernel
theorem d_Law_law_388 : decode b_Law_law 388 = .ok (.ireturn, 1) := by decide +kernel
theorem d_Law_law_389 : decode b_Law_law 389 = .ok (.goto 233, 3) := by decide +kernel
theorem d_Law_law_392 : decode b_Law_law 392 = .ok (.aload_n 1, 1) := by decide +kernel
theorem d_Law_law_393 : decode b_Law_law 393 = .ok (.aload_n 0, 1) := by decide +kernel
theorem d_Law_law_394 : decode b_Law_law 394 = .ok (.iload 4, 2) := by decide +kernel
theorem d_Law_law_396 : decode b_Law_law 396 = .ok (.iconst 1, 1) := by decide +kernel
theorem d_Law_law_397 : decode b_Law_law 397 = .ok (.iadd, 1) := by decide +kernel
theorem d_Law_law_398 : decode b_Law_law 398 = .ok (.iaload, 1) := by decide +kernel
theorem d_Law_law_399 : decode b_Law_law 399 = .ok (.i2l, 1) := by decide +kernel
theorem d_Law_law_400 : decode b_Law_law 400 = .ok (.bipush 32, 2) := by decide +kernel
theorem d_Law_law_402 : decode b_Law_law 402 = .ok (.lshl, 1) := by decide +kernel
theorem d_Law_law_403 : decode b_Law_law 403 = .ok (.aload_n 0, 1) := by decide +kernel
theorem d_Law_law_404 : decode b_Law_law 404 = .ok (.iload 4, 2) := by decide +kernel
theorem d_Law_law_406 : decode b_Law_law 406 = .ok (.iconst 2, 1) := by decide +kernel
theorem d_Law_law_407 : decode b_Law_law 407 = .ok (.iadd, 1) := by decide +kernel
theorem d_Law_law_408 : decode b_Law_law 408 = .ok (.iaload, 1) := by decide +kernel
theorem d_Law_law_409 : decode b_Law_law 409 = .ok (.i2l, 1) := by decide +kernel
theorem d_Law_law_410 : decode b_Law_law 410 = .ok (.ldc2_w 42, 3) := by decide +kernel
theorem d_Law_law_413 : decode b_Law_law 413 = .ok (.land, 1) := by decide +kernel
theorem d_Law_law_414 : decode b_Law_law 414 = .ok (.lor, 1) := by decide +kernel
theorem d_Law_law_415 : decode b_Law_law 415 = .ok (.aload_n 3, 1) := by decide +kernel
theorem d_Law_law_416 : decode b_Law_law 416 = .ok (.invokestatic 71, 3) := by decide +kernel
theorem d_Law_law_419 : decode b_Law_law 419 = .ok (.istore 5, 2) := by decide +kernel
theorem d_Law_law_421 : decode b_Law_law 421 = .ok (.aload_n 2, 1) := by decide +kernel
theorem d_Law_law_422 : decode b_Law_law 422 = .ok (.aload_n 0, 1) := by decide +kernel
theorem d_Law_law_423 : decode b_Law_law 423 = .ok (.iload 4, 2) := by decide +kernel
theorem d_Law_law_425 : decode b_Law_law 425 = .ok (.iconst 1, 1) := by decide +kernel
theorem d_Law_law_426 : decode b_Law_law 426 = .ok (.iadd, 1) := by decide +kernel
theorem d_Law_law_427 : decode b_Law_law 427 = .ok (.iaload, 1) := by decide +kernel
theorem d_Law_law_428 : decode b_Law_law 428 = .ok (.i2l, 1) := by decide +kernel
theorem d_Law_law_429 : decode b_Law_law 429 = .ok (.bipush 32, 2) := by decide +kernel
theorem d_Law_law_431 : decode b_Law_law 431 = .ok (.lshl, 1) := by decide +kernel
theorem d_Law_law_432 : decode b_Law_law 432 = .ok (.aload_n 0, 1) := by decide +kernel
theorem d_Law_law_433 : decode b_Law_law 433 = .ok (.iload 4, 2) := by decide +kernel
theorem d_Law_law_435 : decode b_Law_law 435 = .ok (.iconst 2, 1) := by decide +kernel
theorem d_Law_law_436 : decode b_Law_law 436 = .ok (.iadd, 1) := by decide +kernel
theorem d_Law_law_437 : decode b_Law_law 437 = .ok (.iaload, 1) := by decide +kernel
theorem d_Law_law_438 : decode b_Law_law 438 = .ok (.i2l, 1) := by decide +kernel
theorem d_Law_law_439 : decode b_Law_law 439 = .ok (.ldc2_w 42, 3) := by decide +kernel
theorem d_Law_law_442 : decode b_Law_law 442 = .ok (.land, 1) := by decide +kernel
theorem d_Law_law_443 : decode b_Law_law 443 = .ok (.lor, 1) := by decide +kernel
theorem d_Law_law_444 : decode b_Law_law 444 = .ok (.invokevirtual 73, 3) := by decide +kernel
theorem d_Law_law_447 : decode b_Law_law 447 = .ok (.istore 6, 2) := by decide +kernel
theorem d_Law_law_449 : decode b_Law_law 449 = .ok (.aload_n 2, 1) := by decide +kernel
theorem d_Law_law_450 : decode b_Law_law 450 = .ok (.invokevirtual 55, 3) := by decide +kernel
theorem d_Law_law_453 : decode b_Law_law 453 = .ok (.iload 5, 2) := by decide +kernel
theorem d_Law_law_455 : decode b_Law_law 455 = .ok (.if_icmp .eq 5, 3) := by decide +kernel
theorem d_Law_law_458 : decode b_Law_law 458 = .ok (.iconst 0, 1) := by decide +kernel
theorem d_Law_law_459 : decode b_Law_law 459 = .ok (.ireturn, 1) := by decide +kernel
theorem d_Law_law_460 : decode b_Law_law 460 = .ok (.iload 5, 2) := by decide +kernel
theorem d_Law_law_462 : decode b_Law_law 462 = .ok (.ifCond .ne 15, 3) := by decide +kernel
theorem d_Law_law_465 : decode b_Law_law 465 = .ok (.aload_n 3, 1) := by decide +kernel
theorem d_Law_law_466 : decode b_Law_law 466 = .ok (.iconst 0, 1) := by decide +kernel
theorem d_Law_law_467 : decode b_Law_law 467 = .ok (.laload, 1) := by decide +kernel
theorem d_Law_law_468 : decode b_Law_law 468 = .ok (.iload 6, 2) := by decide +kernel
theorem d_Law_law_470 : decode b_Law_law 470 = .ok (.i2l, 1) := by decide +kernel
theorem d_Law_law_471 : decode b_Law_law 471 = .ok (.lcmp, 1) := by decide +kernel
theorem d_Law_law_472 : decode b_Law_law 472 = .ok (.ifCond .eq 5, 3) := by decide +kernel
theorem d_Law_law_475 : decode b_Law_law 475 = .ok (.iconst 0, 1) := by decide +kernel
theorem d_Law_law_476 : decode b_Law_law 476 = .ok (.ireturn, 1) := by decide +kernel
theorem d_Law_law_477 : decode b_Law_law 477 = .ok (.goto 145, 3) := by decide +kernel
theorem d_Law_law_480 : decode b_Law_law 480 = .ok (.aload_n 1, 1) := by decide +kernel
theorem d_Law_law_481 : decode b_Law_law 481 = .ok (.aload_n 0, 1) := by decide +kernel
theorem d_Law_law_482 : decode b_Law_law 482 = .ok (.iload 4, 2) := by decide +kernel
theorem d_Law_law_484 : decode b_Law_law 484 = .ok (.iconst 1, 1) := by decide +kernel
theorem d_Law_law_485 : decode b_Law_law 485 = .ok (.iadd, 1) := by decide +kernel
theorem d_Law_law_486 : decode b_Law_law 486 = .ok (.iaload, 1) := by decide +kernel
theorem d_Law_law_487 : decode b_Law_law 487 = .ok (.aload_n 3, 1) := by decide +kernel
theorem d_Law_law_488 : decode b_Law_law 488 = .ok (.invokestatic 74, 3) := by decide +kernel
theorem d_Law_law_491 : decode b_Law_law 491 = .ok (.istore 5, 2) := by decide +kernel
theorem d_Law_law_493 : decode b_Law_law 493 = .ok (.aload_n 2, 1) := by decide +kernel
theorem d_Law_law_494 : decode b_Law_law 494 = .ok (.aload_n 0, 1) := by decide +kernel
theorem d_Law_law_495 : decode b_Law_law 495 = .ok (.iload 4, 2) := by decide +kernel
theorem d_Law_law_497 : decode b_Law_law 497 = .ok (.iconst 1, 1) := by decide +kernel
theorem d_Law_law_498 : decode b_Law_law 498 = .ok (.iadd, 1) := by decide +kernel
theorem d_Law_law_499 : decode b_Law_law 499 = .ok (.iaload, 1) := by decide +kernel
theorem d_Law_law_500 : decode b_Law_law 500 = .ok (.invokevirtual 77, 3) := by decide +kernel
theorem d_Law_law_503 : decode b_Law_law 503 = .ok (.istore 6, 2) := by decide +kernel
theorem d_Law_law_505 : decode b_Law_law 505 = .ok (.aload_n 2, 1) := by decide +kernel
theorem d_Law_law_506 : decode b_Law_law 506 = .ok (.invokevirtual 55, 3) := by decide +kernel
theorem d_Law_law_509 : decode b_Law_law 509 = .ok (.iload 5, 2) := by decide +kernel
theorem d_Law_law_511 : decode b_Law_law 511 = .ok (.if_icmp .eq 5, 3) := by decide +kernel
theorem d_Law_law_514 : decode b_Law_law 514 = .ok (.iconst 0, 1) := by decide +kernel
theorem d_Law_law_515 : decode b_Law_law 515 = .ok (.ireturn, 1) := by decide +kernel
theorem d_Law_law_516 : decode b_Law_law 516 = .ok (.iload 5, 2) := by decide +kernel
theorem d_Law_law_518 : decode b_Law_law 518 = .ok (.ifCond .ne 15, 3) := by decide +kernel
theorem d_Law_law_521 : decode b_Law_law 521 = .ok (.aload_n 3, 1) := by decide +kernel
theorem d_Law_law_522 : decode b_Law_law 522 = .ok (.iconst 0, 1) := by decide +kernel
theorem d_Law_law_523 : decode b_Law_law 523 = .ok (.laload, 1) := by decide +kernel
theorem d_Law_law_524 : decode b_Law_law 524 = .ok (.iload 6, 2) := by decide +kernel
theorem d_Law_law_526 : decode b_Law_law 526 = .ok (.i2l, 1) := by decide +kernel
theorem d_Law_law_527 : decode b_Law_law 527 = .ok (.lcmp, 1) := by decide +kernel
theorem d_Law_law_528 : decode b_Law_law 528 = .ok (.ifCond .eq 5, 3) := by decide +kernel
theorem d_Law_law_531 : decode b_Law_law 531 = .ok (.iconst 0, 1) := by decide +kernel
theorem d_Law_law_532 : decode b_Law_law 532 = .ok (.ireturn, 1) := by decide +kernel
theorem d_Law_law_533 : decode b_Law_law 533 = .ok (.goto 89, 3) := by decide +kernel
theorem d_Law_law_536 : decode b_Law_law 536 = .ok (.aload_n 1, 1) := by decide +kernel
theorem d_Law_law_537 : decode b_Law_law 537 = .ok (.aload_n 0, 1) := by decide +kernel
theorem d_Law_law_538 : decode b_Law_law 538 = .ok (.iload 4, 2) := by decide +kernel
theorem d_Law_law_540 : decode b_Law_law 540 = .ok (.iconst 1, 1) := by decide +kernel
theorem d_Law_law_541 : decode b_Law_law 541 = .ok (.iadd, 1) := by decide +kernel
theorem d_Law_law_542 : decode b_Law_law 542 = .ok (.iaload, 1) := by decide +kernel
theorem d_Law_law_543 : decode b_Law_law 543 = .ok (.i2l, 1) := by decide +kernel
theorem d_Law_law_544 : decode b_Law_law 544 = .ok (.bipush 32, 2) := by decide +kernel
theorem d_Law_law_546 : decode b_Law_law 546 = .ok (.lshl, 1) := by decide +kernel
theorem d_Law_law_547 : decode b_Law_law 547 = .ok (.aload_n 0, 1) := by decide +kernel
theorem d_Law_law_548 : decode b_Law_law 548 = .ok (.iload 4, 2) := by decide +kernel
theorem d_Law_law_550 : decode b_Law_law 550 = .ok (.iconst 2, 1) := by decide +kernel
theorem d_Law_law_551 : decode b_Law_law 551 = .ok (.iadd, 1) := by decide +kernel
theorem d_Law_law_552 : decode b_Law_law 552 = .ok (.iaload, 1) := by decide +kernel
theorem d_Law_law_553 : decode b_Law_law 553 = .ok (.i2l, 1) := by decide +kernel
theorem d_Law_law_554 : decode b_Law_law 554 = .ok (.ldc2_w 42, 3) := by decide +kernel
theorem d_Law_law_557 : decode b_Law_law 557 = .ok (.land, 1) := by decide +kernel
theorem d_Law_law_558 : decode b_Law_law 558 = .ok (.lor, 1) := by decide +kernel
theorem d_Law_law_559 : decode b_Law_law 559 = .ok (.aload_n 0, 1) := by decide +kernel
theorem d_Law_law_560 : decode b_Law_law 560 = .ok (.iload 4, 2) := by decide +kernel
theorem d_Law_law_562 : decode b_Law_law 562 = .ok (.iconst 3, 1) := by decide +kernel
theorem d_Law_law_563 : decode b_Law_law 563 = .ok (.iadd, 1) := by decide +kernel
theorem d_Law_law_564 : decode b_Law_law 564 = .ok (.iaload, 1) := by decide +kernel
theorem d_Law_law_565 : decode b_Law_law 565 = .ok (.ifCond .eq 7, 3) := by decide +kernel
theorem d_Law_law_568 : decode b_Law_law 568 = .ok (.iconst 1, 1) := by decide +kernel
theorem d_Law_law_569 : decode b_Law_law 569 = .ok (.goto 4, 3) := by decide +kernel
theorem d_Law_law_572 : decode b_Law_law 572 = .ok (.iconst 0, 1) := by decide +kernel
theorem d_Law_law_573 : decode b_Law_law 573 = .ok (.invokevirtual 78, 3) := by decide +kernel
theorem d_Law_law_576 : decode b_Law_law 576 = .ok (.aload_n 2, 1) := by decide +kernel
theorem d_Law_law_577 : decode b_Law_law 577 = .ok (.aload_n 0, 1) := by decide +kernel
theorem d_Law_law_578 : decode b_Law_law 578 = .ok (.iload 4, 2) := by decide +kernel
theorem d_Law_law_580 : decode b_Law_law 580 = .ok (.iconst 1, 1) := by decide +kernel
theorem d_Law_law_581 : decode b_Law_law 581 = .ok (.iadd, 1) := by decide +kernel
theorem d_Law_law_582 : decode b_Law_law 582 = .ok (.iaload, 1) := by decide +kernel
theorem d_Law_law_583 : decode b_Law_law 583 = .ok (.i2l, 1) := by decide +kernel
theorem d_Law_law_584 : decode b_Law_law 584 = .ok (.bipush 32, 2) := by decide +kernel
theorem d_Law_law_586 : decode b_Law_law 586 = .ok (.lshl, 1) := by decide +kernel
theorem d_Law_law_587 : decode b_Law_law 587 = .ok (.aload_n 0, 1) := by decide +kernel
theorem d_Law_law_588 : decode b_Law_law 588 = .ok (.iload 4, 2) := by decide +kernel
theorem d_Law_law_590 : decode b_Law_law 590 = .ok (.iconst 2, 1) := by decide +kernel
theorem d_Law_law_591 : decode b_Law_law 591 = .ok (.iadd, 1) := by decide +kernel
theorem d_Law_law_592 : decode b_Law_law 592 = .ok (.iaload, 1) := by decide +kernel
theorem d_Law_law_593 : decode b_Law_law 593 = .ok (.i2l, 1) := by decide +kernel
theorem d_Law_law_594 : decode b_Law_law 594 = .ok (.ldc2_w 42, 3) := by decide +kernel
theorem d_Law_law_597 : decode b_Law_law 597 = .ok (.land, 1) := by decide +kernel
theorem d_Law_law_598 : decode b_Law_law 598 = .ok (.lor, 1) := by decide +kernel
theorem d_Law_law_599 : decode b_Law_law 599 = .ok (.aload_n 0, 1) := by decide +kernel
theorem d_Law_law_600 : decode b_Law_law 600 = .ok (.iload 4, 2) := by decide +kernel
theorem d_Law_law_602 : decode b_Law_law 602 = .ok (.iconst 3, 1) := by decide +kernel
theorem d_Law_law_603 : decode b_Law_law 603 = .ok (.iadd, 1) := by decide +kernel
theorem d_Law_law_604 : decode b_Law_law 604 = .ok (.iaload, 1) := by decide +kernel
theorem d_Law_law_605 : decode b_Law_law 605 = .ok (.ifCond .eq 7, 3) := by decide +kernel
theorem d_Law_law_608 : decode b_Law_law 608 = .ok (.iconst 1, 1) := by decide +kernel
theorem d_Law_law_609 : decode b_Law_law 609 = .ok (.goto 4, 3) := by decide +kernel
theorem d_Law_law_612 : decode b_Law_law 612 = .ok (.iconst 0, 1) := by decide +kernel
theorem d_Law_law_613 : decode b_Law_law 613 = .ok (.invokevirtual 82, 3) := by decide +kernel
theorem d_Law_law_616 : decode b_Law_law 616 = .ok (.lcmp, 1) := by decide +kernel
theorem d_Law_law_617 : decode b_Law_law 617 = .ok (.ifCond .eq 5, 3) := by decide +kernel
theorem d_Law_law_620 : decode b_Law_law 620 = .ok (.iconst 0, 1) := by decide +kernel
theorem d_Law_law_621 : decode b_Law_law 621 = .ok (.ireturn, 1) := by decide +kernel
theorem d_Law_law_622 : decode b_Law_law 622 = .ok (.iinc 4 4, 3) := by decide +kernel
theorem d_Law_law_625 : decode b_Law_law 625 = .ok (.goto (-602), 3) := by decide +kernel
theorem d_Law_law_628 : decode b_Law_law 628 = .ok (.iconst 1, 1) := by decide +kernel
theorem d_Law_law_629 : decode b_Law_law 629 = .ok (.ireturn, 1) := by decide +kernel
