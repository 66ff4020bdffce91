theorem d_Law_law_240 : decode b_Law_law 240 = .ok (.iload 5, 2) := by decide +kernel
theorem d_Law_law_242 : decode b_Law_law 242 = .ok (.if_icmp .eq 5, 3) := by decide +kernel
theorem d_Law_law_245 : decode b_Law_law 245 = .ok (.iconst 0, 1) := by decide +kernel
theorem d_Law_law_246 : decode b_Law_law 246 = .ok (.ireturn, 1) := by decide +kernel
theorem d_Law_law_247 : decode b_Law_law 247 = .ok (.iload 5, 2) := by decide +kernel
theorem d_Law_law_249 : decode b_Law_law 249 = .ok (.ifCond .ne 14, 3) := by decide +kernel
theorem d_Law_law_252 : decode b_Law_law 252 = .ok (.aload_n 3, 1) := by decide +kernel
theorem d_Law_law_253 : decode b_Law_law 253 = .ok (.iconst 0, 1) := by decide +kernel
theorem d_Law_law_254 : decode b_Law_law 254 = .ok (.laload, 1) := by decide +kernel
theorem d_Law_law_255 : decode b_Law_law 255 = .ok (.lload 6, 2) := by decide +kernel
theorem d_Law_law_257 : decode b_Law_law 257 = .ok (.lcmp, 1) := by decide +kernel
theorem d_Law_law_258 : decode b_Law_law 258 = .ok (.ifCond .eq 5, 3) := by decide +kernel
theorem d_Law_law_261 : decode b_Law_law 261 = .ok (.iconst 0, 1) := by decide +kernel
theorem d_Law_law_262 : decode b_Law_law 262 = .ok (.ireturn, 1) := by decide +kernel
theorem d_Law_law_263 : decode b_Law_law 263 = .ok (.goto 274, 3) := by decide +kernel
theorem d_Law_law_266 : decode b_Law_law 266 = .ok (.aload_n 1, 1) := by decide +kernel
theorem d_Law_law_267 : decode b_Law_law 267 = .ok (.invokevirtual 59, 3) := by decide +kernel
theorem d_Law_law_270 : decode b_Law_law 270 = .ok (.pop, 1) := by decide +kernel
theorem d_Law_law_271 : decode b_Law_law 271 = .ok (.aload_n 2, 1) := by decide +kernel
theorem d_Law_law_272 : decode b_Law_law 272 = .ok (.invokevirtual 62, 3) := by decide +kernel
theorem d_Law_law_275 : decode b_Law_law 275 = .ok (.pop, 1) := by decide +kernel
theorem d_Law_law_276 : decode b_Law_law 276 = .ok (.goto 261, 3) := by decide +kernel
theorem d_Law_law_279 : decode b_Law_law 279 = .ok (.aload_n 1, 1) := by decide +kernel
theorem d_Law_law_280 : decode b_Law_law 280 = .ok (.aload_n 0, 1) := by decide +kernel
theorem d_Law_law_281 : decode b_Law_law 281 = .ok (.iload 4, 2) := by decide +kernel
theorem d_Law_law_283 : decode b_Law_law 283 = .ok (.iconst 1, 1) := by decide +kernel
theorem d_Law_law_284 : decode b_Law_law 284 = .ok (.iadd, 1) := by decide +kernel
theorem d_Law_law_285 : decode b_Law_law 285 = .ok (.iaload, 1) := by decide +kernel
theorem d_Law_law_286 : decode b_Law_law 286 = .ok (.invokevirtual 63, 3) := by decide +kernel
theorem d_Law_law_289 : decode b_Law_law 289 = .ok (.pop, 1) := by decide +kernel
theorem d_Law_law_290 : decode b_Law_law 290 = .ok (.aload_n 2, 1) := by decide +kernel
theorem d_Law_law_291 : decode b_Law_law 291 = .ok (.aload_n 0, 1) := by decide +kernel
theorem d_Law_law_292 : decode b_Law_law 292 = .ok (.iload 4, 2) := by decide +kernel
theorem d_Law_law_294 : decode b_Law_law 294 = .ok (.iconst 1, 1) := by decide +kernel
theorem d_Law_law_295 : decode b_Law_law 295 = .ok (.iadd, 1) := by decide +kernel
theorem d_Law_law_296 : decode b_Law_law 296 = .ok (.iaload, 1) := by decide +kernel
theorem d_Law_law_297 : decode b_Law_law 297 = .ok (.invokevirtual 66, 3) := by decide +kernel
theorem d_Law_law_300 : decode b_Law_law 300 = .ok (.pop, 1) := by decide +kernel
theorem d_Law_law_301 : decode b_Law_law 301 = .ok (.goto 236, 3) := by decide +kernel
theorem d_Law_law_304 : decode b_Law_law 304 = .ok (.aload_n 1, 1) := by decide +kernel
theorem d_Law_law_305 : decode b_Law_law 305 = .ok (.aload_n 0, 1) := by decide +kernel
theorem d_Law_law_306 : decode b_Law_law 306 = .ok (.iload 4, 2) := by decide +kernel
theorem d_Law_law_308 : decode b_Law_law 308 = .ok (.iconst 1, 1) := by decide +kernel
theorem d_Law_law_309 : decode b_Law_law 309 = .ok (.iadd, 1) := by decide +kernel
theorem d_Law_law_310 : decode b_Law_law 310 = .ok (.iaload, 1) := by decide +kernel
theorem d_Law_law_311 : decode b_Law_law 311 = .ok (.i2l, 1) := by decide +kernel
theorem d_Law_law_312 : decode b_Law_law 312 = .ok (.bipush 32, 2) := by decide +kernel
theorem d_Law_law_314 : decode b_Law_law 314 = .ok (.lshl, 1) := by decide +kernel
theorem d_Law_law_315 : decode b_Law_law 315 = .ok (.aload_n 0, 1) := by decide +kernel
theorem d_Law_law_316 : decode b_Law_law 316 = .ok (.iload 4, 2) := by decide +kernel
theorem d_Law_law_318 : decode b_Law_law 318 = .ok (.iconst 2, 1) := by decide +kernel
theorem d_Law_law_319 : decode b_Law_law 319 = .ok (.iadd, 1) := by decide +kernel
theorem d_Law_law_320 : decode b_Law_law 320 = .ok (.iaload, 1) := by decide +kernel
theorem d_Law_law_321 : decode b_Law_law 321 = .ok (.i2l, 1) := by decide +kernel
theorem d_Law_law_322 : decode b_Law_law 322 = .ok (.ldc2_w 42, 3) := by decide +kernel
theorem d_Law_law_325 : decode b_Law_law 325 = .ok (.land, 1) := by decide +kernel
theorem d_Law_law_326 : decode b_Law_law 326 = .ok (.lor, 1) := by decide +kernel
theorem d_Law_law_327 : decode b_Law_law 327 = .ok (.aload_n 3, 1) := by decide +kernel
theorem d_Law_law_328 : decode b_Law_law 328 = .ok (.invokestatic 67, 3) := by decide +kernel
theorem d_Law_law_331 : decode b_Law_law 331 = .ok (.istore 5, 2) := by decide +kernel
theorem d_Law_law_333 : decode b_Law_law 333 = .ok (.aload_n 2, 1) := by decide +kernel
theorem d_Law_law_334 : decode b_Law_law 334 = .ok (.aload_n 0, 1) := by decide +kernel
theorem d_Law_law_335 : decode b_Law_law 335 = .ok (.iload 4, 2) := by decide +kernel
theorem d_Law_law_337 : decode b_Law_law 337 = .ok (.iconst 1, 1) := by decide +kernel
theorem d_Law_law_338 : decode b_Law_law 338 = .ok (.iadd, 1) := by decide +kernel
theorem d_Law_law_339 : decode b_Law_law 339 = .ok (.iaload, 1) := by decide +kernel
theorem d_Law_law_340 : decode b_Law_law 340 = .ok (.i2l, 1) := by decide +kernel
theorem d_Law_law_341 : decode b_Law_law 341 = .ok (.bipush 32, 2) := by decide +kernel
theorem d_Law_law_343 : decode b_Law_law 343 = .ok (.lshl, 1) := by decide +kernel
theorem d_Law_law_344 : decode b_Law_law 344 = .ok (.aload_n 0, 1) := by decide +kernel
theorem d_Law_law_345 : decode b_Law_law 345 = .ok (.iload 4, 2) := by decide +kernel
theorem d_Law_law_347 : decode b_Law_law 347 = .ok (.iconst 2, 1) := by decide +kernel
theorem d_Law_law_348 : decode b_Law_law 348 = .ok (.iadd, 1) := by decide +kernel
theorem d_Law_law_349 : decode b_Law_law 349 = .ok (.iaload, 1) := by decide +kernel
theorem d_Law_law_350 : decode b_Law_law 350 = .ok (.i2l, 1) := by decide +kernel
theorem d_Law_law_351 : decode b_Law_law 351 = .ok (.ldc2_w 42, 3) := by decide +kernel
theorem d_Law_law_354 : decode b_Law_law 354 = .ok (.land, 1) := by decide +kernel
theorem d_Law_law_355 : decode b_Law_law 355 = .ok (.lor, 1) := by decide +kernel
theorem d_Law_law_356 : decode b_Law_law 356 = .ok (.invokevirtual 70, 3) := by decide +kernel
theorem d_Law_law_359 : decode b_Law_law 359 = .ok (.istore 6, 2) := by decide +kernel
theorem d_Law_law_361 : decode b_Law_law 361 = .ok (.goto 176, 3) := by decide +kernel
theorem d_Law_law_364 : decode b_Law_law 364 = .ok (.aload_n 1, 1) := by decide +kernel
theorem d_Law_law_365 : decode b_Law_law 365 = .ok (.aload_n 0, 1) := by decide +kernel
theorem d_Law_law_366 : decode b_Law_law 366 = .ok (.iload 4, 2) := by decide +kernel
theorem d_Law_law_368 : decode b_Law_law 368 = .ok (.iconst 1, 1) := by decide +kernel
theorem d_Law_law_369 : decode b_Law_law 369 = .ok (.iadd, 1) := by decide +kernel
theorem d_Law_law_370 : decode b_Law_law 370 = .ok (.iaload, 1) := by decide +kernel
theorem d_Law_law_371 : decode b_Law_law 371 = .ok (.i2l, 1) := by decide +kernel
theorem d_Law_law_372 : decode b_Law_law 372 = .ok (.bipush 32, 2) := by decide +kernel
theorem d_Law_law_374 : decode b_Law_law 374 = .ok (.lshl, 1) := by decide +kernel
theorem d_Law_law_375 : decode b_Law_law 375 = .ok (.aload_n 0, 1) := by decide +kernel
theorem d_Law_law_376 : decode b_Law_law 376 = .ok (.iload 4, 2) := by decide +kernel
theorem d_Law_law_378 : decode b_Law_law 378 = .ok (.iconst 2, 1) := by decide +kernel
theorem d_Law_law_379 : decode b_Law_law 379 = .ok (.iadd, 1) := by decide +kernel
theorem d_Law_law_380 : decode b_Law_law 380 = .ok (.iaload, 1) := by decide +kernel
theorem d_Law_law_381 : decode b_Law_law 381 = .ok (.i2l, 1) := by decide +kernel
theorem d_Law_law_382 : decode b_Law_law 382 = .ok (.ldc2_w 42, 3) := by decide +kernel
theorem d_Law_law_385 : decode b_Law_law 385 = .ok (.land, 1) := by decide +kernel
theorem d_Law_law_386 : decode b_Law_law 386 = .ok (.lor, 1) := by decide +kernel
theorem d_Law_law_387 : decode b_Law_law 387 = .ok (.aload_n 3, 1) := by decide +kernel
theorem d_Law_law_388 : decode b_Law_law 388 = .ok (.invokestatic 71, 3) := by decide +kernel
theorem d_Law_law_391 : decode b_Law_law 391 = .ok (.istore 5, 2) := by decide +kernel
theorem d_Law_law_393 : decode b_Law_law 393 = .ok (.aload_n 2, 1) := by decide +kernel
theorem d_Law_law_394 : decode b_Law_law 394 = .ok (.aload_n 0, 1) := by decide +kernel
theorem d_Law_law_395 : decode b_Law_law 395 = .ok (.iload 4, 2) := by decide +kernel
theorem d_Law_law_397 : decode b_Law_law 397 = .ok (.iconst 1, 1) := by decide +kernel
theorem d_Law_law_398 : decode b_Law_law 398 = .ok (.iadd, 1) := by decide +kernel
theorem d_Law_law_399 : decode b_Law_law 399 = .ok (.iaload, 1) := by decide +kernel
theorem d_Law_law_400 : decode b_Law_law 400 = .ok (.i2l, 1) := by decide +kernel
theorem d_Law_law_401 : decode b_Law_law 401 = .ok (.bipush 32, 2) := by decide +kernel
theorem d_Law_law_403 : decode b_Law_law 403 = .ok (.lshl, 1) := by decide +kernel
theorem d_Law_law_404 : decode b_Law_law 404 = .ok (.aload_n 0, 1) := by decide +kernel
theorem d_Law_law_405 : decode b_Law_law 405 = .ok (.iload 4, 2) := by decide +kernel
theorem d_Law_law_407 : decode b_Law_law 407 = .ok (.iconst 2, 1) := by decide +kernel
theorem d_Law_law_408 : decode b_Law_law 408 = .ok (.iadd, 1) := by decide +kernel
theorem d_Law_law_409 : decode b_Law_law 409 = .ok (.iaload, 1) := by decide +kernel
theorem d_Law_law_410 : decode b_Law_law 410 = .ok (.i2l, 1) := by decide +kernel
theorem d_Law_law_411 : decode b_Law_law 411 = .ok (.ldc2_w 42, 3) := by decide +kernel
theorem d_Law_law_414 : decode b_Law_law 414 = .ok (.land, 1) := by decide +kernel
theorem d_Law_law_415 : decode b_Law_law 415 = .ok (.lor, 1) := by decide +kernel
theorem d_Law_law_416 : decode b_Law_law 416 = .ok (.invokevirtual 73, 3) := by decide +kernel
theorem d_Law_law_419 : decode b_Law_law 419 = .ok (.istore 6, 2) := by decide +kernel
theorem d_Law_law_421 : decode b_Law_law 421 = .ok (.goto 116, 3) := by decide +kernel
theorem d_Law_law_424 : decode b_Law_law 424 = .ok (.aload_n 1, 1) := by decide +kernel
theorem d_Law_law_425 : decode b_Law_law 425 = .ok (.aload_n 0, 1) := by decide +kernel
theorem d_Law_law_426 : decode b_Law_law 426 = .ok (.iload 4, 2) := by decide +kernel
theorem d_Law_law_428 : decode b_Law_law 428 = .ok (.iconst 1, 1) := by decide +kernel
theorem d_Law_law_429 : decode b_Law_law 429 = .ok (.iadd, 1) := by decide +kernel
theorem d_Law_law_430 : decode b_Law_law 430 = .ok (.iaload, 1) := by decide +kernel
theorem d_Law_law_431 : decode b_Law_law 431 = .ok (.aload_n 3, 1) := by decide +kernel
theorem d_Law_law_432 : decode b_Law_law 432 = .ok (.invokestatic 74, 3) := by decide +kernel
theorem d_Law_law_435 : decode b_Law_law 435 = .ok (.istore 5, 2) := by decide +kernel
theorem d_Law_law_437 : decode b_Law_law 437 = .ok (.aload_n 2, 1) := by decide +kernel
theorem d_Law_law_438 : decode b_Law_law 438 = .ok (.aload_n 0, 1) := by decide +kernel
theorem d_Law_law_439 : decode b_Law_law 439 = .ok (.iload 4, 2) := by decide +kernel
theorem d_Law_law_441 : decode b_Law_law 441 = .ok (.iconst 1, 1) := by decide +kernel
theorem d_Law_law_442 : decode b_Law_law 442 = .ok (.iadd, 1) := by decide +kernel
theorem d_Law_law_443 : decode b_Law_law 443 = .ok (.iaload, 1) := by decide +kernel
theorem d_Law_law_444 : decode b_Law_law 444 = .ok (.invokevirtual 77, 3) := by decide +kernel
theorem d_Law_law_447 : decode b_Law_law 447 = .ok (.istore 6, 2) := by decide +kernel
theorem d_Law_law_449 : decode b_Law_law 449 = .ok (.goto 88, 3) := by decide +kernel
theorem d_Law_law_452 : decode b_Law_law 452 = .ok (.aload_n 1, 1) := by decide +kernel
theorem d_Law_law_453 : decode b_Law_law 453 = .ok (.aload_n 0, 1) := by decide +kernel
theorem d_Law_law_454 : decode b_Law_law 454 = .ok (.iload 4, 2) := by decide +kernel
theorem d_Law_law_456 : decode b_Law_law 456 = .ok (.iconst 1, 1) := by decide +kernel
theorem d_Law_law_457 : decode b_Law_law 457 = .ok (.iadd, 1) := by decide +kernel
theorem d_Law_law_458 : decode b_Law_law 458 = .ok (.iaload, 1) := by decide +kernel
theorem d_Law_law_459 : decode b_Law_law 459 = .ok (.i2l, 1) := by decide +kernel
theorem d_Law_law_460 : decode b_Law_law 460 = .ok (.bipush 32, 2) := by decide +kernel
theorem d_Law_law_462 : decode b_Law_law 462 = .ok (.lshl, 1) := by decide +kernel
theorem d_Law_law_463 : decode b_Law_law 463 = .ok (.aload_n 0, 1) := by decide +kernel
theorem d_Law_law_464 : decode b_Law_law 464 = .ok (.iload 4, 2) := by decide +kernel
theorem d_Law_law_466 : decode b_Law_law 466 = .ok (.iconst 2, 1) := by decide +kernel
theorem d_Law_law_467 : decode b_Law_law 467 = .ok (.iadd, 1) := by decide +kernel
theorem d_Law_law_468 : decode b_Law_law 468 = .ok (.iaload, 1) := by decide +kernel
theorem d_Law_law_469 : decode b_Law_law 469 = .ok (.i2l, 1) := by decide +kernel
theorem d_Law_law_470 : decode b_Law_law 470 = .ok (.ldc2_w 42, 3) := by decide +kernel
theorem d_Law_law_473 : decode b_Law_law 473 = .ok (.land, 1) := by decide +kernel
theorem d_Law_law_474 : decode b_Law_law 474 = .ok (.lor, 1) := by decide +kernel
theorem d_Law_law_475 : decode b_Law_law 475 = .ok (.aload_n 0, 1) := by decide +kernel
theorem d_Law_law_476 : decode b_Law_law 476 = .ok (.iload 4, 2) := by decide +kernel
theorem d_Law_law_478 : decode b_Law_law 478 = .ok (.iconst 3, 1) := by decide +kernel
theorem d_Law_law_479 : decode b_Law_law 479 = .ok (.iadd, 1) := by decide +kernel
theorem d_Law_law_480 : decode b_Law_law 480 = .ok (.iaload, 1) := by decide +kernel
theorem d_Law_law_481 : decode b_Law_law 481 = .ok (.ifCond .eq 7, 3) := by decide +kernel
theorem d_Law_law_484 : decode b_Law_law 484 = .ok (.iconst 1, 1) := by decide +kernel
theorem d_Law_law_485 : decode b_Law_law 485 = .ok (.goto 4, 3) := by decide +kernel
theorem d_Law_law_488 : decode b_Law_law 488 = .ok (.iconst 0, 1) := by decide +kernel
theorem d_Law_law_489 : decode b_Law_law 489 = .ok (.invokevirtual 78, 3) := by decide +kernel
theorem d_Law_law_492 : decode b_Law_law 492 = .ok (.pop2, 1) := by decide +kernel
theorem d_Law_law_493 : decode b_Law_law 493 = .ok (.aload_n 2, 1) := by decide +kernel
theorem d_Law_law_494 : decode b_Law_law 494 = .ok (.aload_n 0, 1) := by decide +kernel
theorem d_Law_law_495 : decode b_Law_law 495 = .ok (.iload 4, 2) := by decide +kernel
theorem d_Law_law_497 : decode b_Law_law 497 = .ok (.iconst 1, 1) := by decide +kernel
theorem d_Law_law_498 : decode b_Law_law 498 = .ok (.iadd, 1) := by decide +kernel
theorem d_Law_law_499 : decode b_Law_law 499 = .ok (.iaload, 1) := by decide +kernel
theorem d_Law_law_500 : decode b_Law_law 500 = .ok (.i2l, 1) := by decide +kernel
theorem d_Law_law_501 : decode b_Law_law 501 = .ok (.bipush 32, 2) := by decide +kernel
theorem d_Law_law_503 : decode b_Law_law 503 = .ok (.lshl, 1) := by decide +kernel
theorem d_Law_law_504 : decode b_Law_law 504 = .ok (.aload_n 0, 1) := by decide +kernel
theorem d_Law_law_505 : decode b_Law_law 505 = .ok (.iload 4, 2) := by decide +kernel
theorem d_Law_law_507 : decode b_Law_law 507 = .ok (.iconst 2, 1) := by decide +kernel
theorem d_Law_law_508 : decode b_Law_law 508 = .ok (.iadd, 1) := by decide +kernel
theorem d_Law_law_509 : decode b_Law_law 509 = .ok (.iaload, 1) := by decide +kernel
theorem d_Law_law_510 : decode b_Law_law 510 = .ok (.i2l, 1) := by decide +kernel
theorem d_Law_law_511 : decode b_Law_law 511 = .ok (.ldc2_w 42, 3) := by decide +kernel
theorem d_Law_law_514 : decode b_Law_law 514 = .ok (.land, 1) := by decide +kernel
theorem d_Law_law_515 : decode b_Law_law 515 = .ok (.lor, 1) := by decide +kernel
theorem d_Law_law_516 : decode b_Law_law 516 = .ok (.aload_n 0, 1) := by decide +kernel
theorem d_Law_law_517 : decode b_Law_law 517 = .ok (.iload 4, 2) := by decide +kernel
theorem d_Law_law_519 : decode b_Law_law 519 = .ok (.iconst 3, 1) := by decide +kernel
theorem d_Law_law_520 : decode b_Law_law 520 = .ok (.iadd, 1) := by decide +kernel
theorem d_Law_law_521 : decode b_Law_law 521 = .ok (.iaload, 1) := by decide +kernel
theorem d_Law_law_522 : decode b_Law_law 522 = .ok (.ifCond .eq 7, 3) := by decide +kernel
theorem d_Law_law_525 : decode b_Law_law 525 = .ok (.iconst 1, 1) := by decide +kernel
theorem d_Law_law_526 : decode b_Law_law 526 = .ok (.goto 4, 3) := by decide +kernel
theorem d_Law_law_529 : decode b_Law_law 529 = .ok (.iconst 0, 1) := by decide +kernel
theorem d_Law_law_530 : decode b_Law_law 530 = .ok (.invokevirtual 82, 3) := by decide +kernel
theorem d_Law_law_533 : decode b_Law_law 533 = .ok (.pop2, 1) := by decide +kernel
theorem d_Law_law_534 : decode b_Law_law 534 = .ok (.goto 3, 3) := by decide +kernel
theorem d_Law_law_537 : decode b_Law_law 537 = .ok (.iinc 4 4, 3) := by decide +kernel
theorem d_Law_law_540 : decode b_Law_law 540 = .ok (.goto (-517), 3) := by decide +kernel
theorem d_Law_law_543 : decode b_Law_law 543 = .ok (.iconst 1, 1) := by decide +kernel
theorem d_Law_law_544 : decode b_Law_law 544 = .ok (.ireturn, 1) := by decide +kernel
