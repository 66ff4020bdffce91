theorem d_Law_law_240 : decode b_Law_law 240 = .ok (.invokevirtual 55, 3) := by decide +kernel
theorem d_Law_law_243 : decode b_Law_law 243 = .ok (.pop, 1) := by decide +kernel
theorem d_Law_law_244 : decode b_Law_law 244 = .ok (.aload_n 2, 1) := by decide +kernel
theorem d_Law_law_245 : decode b_Law_law 245 = .ok (.invokevirtual 59, 3) := by decide +kernel
theorem d_Law_law_248 : decode b_Law_law 248 = .ok (.pop, 1) := by decide +kernel
theorem d_Law_law_249 : decode b_Law_law 249 = .ok (.goto 289, 3) := by decide +kernel
theorem d_Law_law_252 : decode b_Law_law 252 = .ok (.aload_n 1, 1) := by decide +kernel
theorem d_Law_law_253 : decode b_Law_law 253 = .ok (.aload_n 0, 1) := by decide +kernel
theorem d_Law_law_254 : decode b_Law_law 254 = .ok (.iload 4, 2) := by decide +kernel
theorem d_Law_law_256 : decode b_Law_law 256 = .ok (.iconst 1, 1) := by decide +kernel
theorem d_Law_law_257 : decode b_Law_law 257 = .ok (.iadd, 1) := by decide +kernel
theorem d_Law_law_258 : decode b_Law_law 258 = .ok (.iaload, 1) := by decide +kernel
theorem d_Law_law_259 : decode b_Law_law 259 = .ok (.invokevirtual 60, 3) := by decide +kernel
theorem d_Law_law_262 : decode b_Law_law 262 = .ok (.pop, 1) := by decide +kernel
theorem d_Law_law_263 : decode b_Law_law 263 = .ok (.aload_n 2, 1) := by decide +kernel
theorem d_Law_law_264 : decode b_Law_law 264 = .ok (.aload_n 0, 1) := by decide +kernel
theorem d_Law_law_265 : decode b_Law_law 265 = .ok (.iload 4, 2) := by decide +kernel
theorem d_Law_law_267 : decode b_Law_law 267 = .ok (.iconst 1, 1) := by decide +kernel
theorem d_Law_law_268 : decode b_Law_law 268 = .ok (.iadd, 1) := by decide +kernel
theorem d_Law_law_269 : decode b_Law_law 269 = .ok (.iaload, 1) := by decide +kernel
theorem d_Law_law_270 : decode b_Law_law 270 = .ok (.invokevirtual 63, 3) := by decide +kernel
theorem d_Law_law_273 : decode b_Law_law 273 = .ok (.pop, 1) := by decide +kernel
theorem d_Law_law_274 : decode b_Law_law 274 = .ok (.goto 264, 3) := by decide +kernel
theorem d_Law_law_277 : decode b_Law_law 277 = .ok (.aload_n 1, 1) := by decide +kernel
theorem d_Law_law_278 : decode b_Law_law 278 = .ok (.aload_n 0, 1) := by decide +kernel
theorem d_Law_law_279 : decode b_Law_law 279 = .ok (.iload 4, 2) := by decide +kernel
theorem d_Law_law_281 : decode b_Law_law 281 = .ok (.iconst 1, 1) := by decide +kernel
theorem d_Law_law_282 : decode b_Law_law 282 = .ok (.iadd, 1) := by decide +kernel
theorem d_Law_law_283 : decode b_Law_law 283 = .ok (.iaload, 1) := by decide +kernel
theorem d_Law_law_284 : decode b_Law_law 284 = .ok (.i2l, 1) := by decide +kernel
theorem d_Law_law_285 : decode b_Law_law 285 = .ok (.bipush 32, 2) := by decide +kernel
theorem d_Law_law_287 : decode b_Law_law 287 = .ok (.lshl, 1) := by decide +kernel
theorem d_Law_law_288 : decode b_Law_law 288 = .ok (.aload_n 0, 1) := by decide +kernel
theorem d_Law_law_289 : decode b_Law_law 289 = .ok (.iload 4, 2) := by decide +kernel
theorem d_Law_law_291 : decode b_Law_law 291 = .ok (.iconst 2, 1) := by decide +kernel
theorem d_Law_law_292 : decode b_Law_law 292 = .ok (.iadd, 1) := by decide +kernel
theorem d_Law_law_293 : decode b_Law_law 293 = .ok (.iaload, 1) := by decide +kernel
theorem d_Law_law_294 : decode b_Law_law 294 = .ok (.i2l, 1) := by decide +kernel
theorem d_Law_law_295 : decode b_Law_law 295 = .ok (.ldc2_w 42, 3) := by decide +kernel
theorem d_Law_law_298 : decode b_Law_law 298 = .ok (.land, 1) := by decide +kernel
theorem d_Law_law_299 : decode b_Law_law 299 = .ok (.lor, 1) := by decide +kernel
theorem d_Law_law_300 : decode b_Law_law 300 = .ok (.aload_n 3, 1) := by decide +kernel
theorem d_Law_law_301 : decode b_Law_law 301 = .ok (.invokestatic 64, 3) := by decide +kernel
theorem d_Law_law_304 : decode b_Law_law 304 = .ok (.istore 5, 2) := by decide +kernel
theorem d_Law_law_306 : decode b_Law_law 306 = .ok (.aload_n 2, 1) := by decide +kernel
theorem d_Law_law_307 : decode b_Law_law 307 = .ok (.aload_n 0, 1) := by decide +kernel
theorem d_Law_law_308 : decode b_Law_law 308 = .ok (.iload 4, 2) := by decide +kernel
theorem d_Law_law_310 : decode b_Law_law 310 = .ok (.iconst 1, 1) := by decide +kernel
theorem d_Law_law_311 : decode b_Law_law 311 = .ok (.iadd, 1) := by decide +kernel
theorem d_Law_law_312 : decode b_Law_law 312 = .ok (.iaload, 1) := by decide +kernel
theorem d_Law_law_313 : decode b_Law_law 313 = .ok (.i2l, 1) := by decide +kernel
theorem d_Law_law_314 : decode b_Law_law 314 = .ok (.bipush 32, 2) := by decide +kernel
theorem d_Law_law_316 : decode b_Law_law 316 = .ok (.lshl, 1) := by decide +kernel
theorem d_Law_law_317 : decode b_Law_law 317 = .ok (.aload_n 0, 1) := by decide +kernel
theorem d_Law_law_318 : decode b_Law_law 318 = .ok (.iload 4, 2) := by decide +kernel
theorem d_Law_law_320 : decode b_Law_law 320 = .ok (.iconst 2, 1) := by decide +kernel
theorem d_Law_law_321 : decode b_Law_law 321 = .ok (.iadd, 1) := by decide +kernel
theorem d_Law_law_322 : decode b_Law_law 322 = .ok (.iaload, 1) := by decide +kernel
theorem d_Law_law_323 : decode b_Law_law 323 = .ok (.i2l, 1) := by decide +kernel
theorem d_Law_law_324 : decode b_Law_law 324 = .ok (.ldc2_w 42, 3) := by decide +kernel
theorem d_Law_law_327 : decode b_Law_law 327 = .ok (.land, 1) := by decide +kernel
theorem d_Law_law_328 : decode b_Law_law 328 = .ok (.lor, 1) := by decide +kernel
theorem d_Law_law_329 : decode b_Law_law 329 = .ok (.invokevirtual 67, 3) := by decide +kernel
theorem d_Law_law_332 : decode b_Law_law 332 = .ok (.istore 6, 2) := by decide +kernel
theorem d_Law_law_334 : decode b_Law_law 334 = .ok (.goto 204, 3) := by decide +kernel
theorem d_Law_law_337 : decode b_Law_law 337 = .ok (.aload_n 1, 1) := by decide +kernel
theorem d_Law_law_338 : decode b_Law_law 338 = .ok (.aload_n 0, 1) := by decide +kernel
theorem d_Law_law_339 : decode b_Law_law 339 = .ok (.iload 4, 2) := by decide +kernel
theorem d_Law_law_341 : decode b_Law_law 341 = .ok (.iconst 1, 1) := by decide +kernel
theorem d_Law_law_342 : decode b_Law_law 342 = .ok (.iadd, 1) := by decide +kernel
theorem d_Law_law_343 : decode b_Law_law 343 = .ok (.iaload, 1) := by decide +kernel
theorem d_Law_law_344 : decode b_Law_law 344 = .ok (.i2l, 1) := by decide +kernel
theorem d_Law_law_345 : decode b_Law_law 345 = .ok (.bipush 32, 2) := by decide +kernel
theorem d_Law_law_347 : decode b_Law_law 347 = .ok (.lshl, 1) := by decide +kernel
theorem d_Law_law_348 : decode b_Law_law 348 = .ok (.aload_n 0, 1) := by decide +kernel
theorem d_Law_law_349 : decode b_Law_law 349 = .ok (.iload 4, 2) := by decide +kernel
theorem d_Law_law_351 : decode b_Law_law 351 = .ok (.iconst 2, 1) := by decide +kernel
theorem d_Law_law_352 : decode b_Law_law 352 = .ok (.iadd, 1) := by decide +kernel
theorem d_Law_law_353 : decode b_Law_law 353 = .ok (.iaload, 1) := by decide +kernel
theorem d_Law_law_354 : decode b_Law_law 354 = .ok (.i2l, 1) := by decide +kernel
theorem d_Law_law_355 : decode b_Law_law 355 = .ok (.ldc2_w 42, 3) := by decide +kernel
theorem d_Law_law_358 : decode b_Law_law 358 = .ok (.land, 1) := by decide +kernel
theorem d_Law_law_359 : decode b_Law_law 359 = .ok (.lor, 1) := by decide +kernel
theorem d_Law_law_360 : decode b_Law_law 360 = .ok (.aload_n 3, 1) := by decide +kernel
theorem d_Law_law_361 : decode b_Law_law 361 = .ok (.invokestatic 68, 3) := by decide +kernel
theorem d_Law_law_364 : decode b_Law_law 364 = .ok (.istore 5, 2) := by decide +kernel
theorem d_Law_law_366 : decode b_Law_law 366 = .ok (.aload_n 2, 1) := by decide +kernel
theorem d_Law_law_367 : decode b_Law_law 367 = .ok (.aload_n 0, 1) := by decide +kernel
theorem d_Law_law_368 : decode b_Law_law 368 = .ok (.iload 4, 2) := by decide +kernel
theorem d_Law_law_370 : decode b_Law_law 370 = .ok (.iconst 1, 1) := by decide +kernel
theorem d_Law_law_371 : decode b_Law_law 371 = .ok (.iadd, 1) := by decide +kernel
theorem d_Law_law_372 : decode b_Law_law 372 = .ok (.iaload, 1) := by decide +kernel
theorem d_Law_law_373 : decode b_Law_law 373 = .ok (.i2l, 1) := by decide +kernel
theorem d_Law_law_374 : decode b_Law_law 374 = .ok (.bipush 32, 2) := by decide +kernel
theorem d_Law_law_376 : decode b_Law_law 376 = .ok (.lshl, 1) := by decide +kernel
theorem d_Law_law_377 : decode b_Law_law 377 = .ok (.aload_n 0, 1) := by decide +kernel
theorem d_Law_law_378 : decode b_Law_law 378 = .ok (.iload 4, 2) := by decide +kernel
theorem d_Law_law_380 : decode b_Law_law 380 = .ok (.iconst 2, 1) := by decide +kernel
theorem d_Law_law_381 : decode b_Law_law 381 = .ok (.iadd, 1) := by decide +kernel
theorem d_Law_law_382 : decode b_Law_law 382 = .ok (.iaload, 1) := by decide +kernel
theorem d_Law_law_383 : decode b_Law_law 383 = .ok (.i2l, 1) := by decide +kernel
theorem d_Law_law_384 : decode b_Law_law 384 = .ok (.ldc2_w 42, 3) := by decide +kernel
theorem d_Law_law_387 : decode b_Law_law 387 = .ok (.land, 1) := by decide +kernel
theorem d_Law_law_388 : decode b_Law_law 388 = .ok (.lor, 1) := by decide +kernel
theorem d_Law_law_389 : decode b_Law_law 389 = .ok (.invokevirtual 70, 3) := by decide +kernel
theorem d_Law_law_392 : decode b_Law_law 392 = .ok (.istore 6, 2) := by decide +kernel
theorem d_Law_law_394 : decode b_Law_law 394 = .ok (.goto 144, 3) := by decide +kernel
theorem d_Law_law_397 : decode b_Law_law 397 = .ok (.aload_n 1, 1) := by decide +kernel
theorem d_Law_law_398 : decode b_Law_law 398 = .ok (.aload_n 0, 1) := by decide +kernel
theorem d_Law_law_399 : decode b_Law_law 399 = .ok (.iload 4, 2) := by decide +kernel
theorem d_Law_law_401 : decode b_Law_law 401 = .ok (.iconst 1, 1) := by decide +kernel
theorem d_Law_law_402 : decode b_Law_law 402 = .ok (.iadd, 1) := by decide +kernel
theorem d_Law_law_403 : decode b_Law_law 403 = .ok (.iaload, 1) := by decide +kernel
theorem d_Law_law_404 : decode b_Law_law 404 = .ok (.aload_n 3, 1) := by decide +kernel
theorem d_Law_law_405 : decode b_Law_law 405 = .ok (.invokestatic 71, 3) := by decide +kernel
theorem d_Law_law_408 : decode b_Law_law 408 = .ok (.istore 5, 2) := by decide +kernel
theorem d_Law_law_410 : decode b_Law_law 410 = .ok (.aload_n 2, 1) := by decide +kernel
theorem d_Law_law_411 : decode b_Law_law 411 = .ok (.aload_n 0, 1) := by decide +kernel
theorem d_Law_law_412 : decode b_Law_law 412 = .ok (.iload 4, 2) := by decide +kernel
theorem d_Law_law_414 : decode b_Law_law 414 = .ok (.iconst 1, 1) := by decide +kernel
theorem d_Law_law_415 : decode b_Law_law 415 = .ok (.iadd, 1) := by decide +kernel
theorem d_Law_law_416 : decode b_Law_law 416 = .ok (.iaload, 1) := by decide +kernel
theorem d_Law_law_417 : decode b_Law_law 417 = .ok (.invokevirtual 74, 3) := by decide +kernel
theorem d_Law_law_420 : decode b_Law_law 420 = .ok (.istore 6, 2) := by decide +kernel
theorem d_Law_law_422 : decode b_Law_law 422 = .ok (.aload_n 2, 1) := by decide +kernel
theorem d_Law_law_423 : decode b_Law_law 423 = .ok (.invokevirtual 75, 3) := by decide +kernel
theorem d_Law_law_426 : decode b_Law_law 426 = .ok (.iload 5, 2) := by decide +kernel
theorem d_Law_law_428 : decode b_Law_law 428 = .ok (.if_icmp .eq 5, 3) := by decide +kernel
theorem d_Law_law_431 : decode b_Law_law 431 = .ok (.iconst 0, 1) := by decide +kernel
theorem d_Law_law_432 : decode b_Law_law 432 = .ok (.ireturn, 1) := by decide +kernel
theorem d_Law_law_433 : decode b_Law_law 433 = .ok (.iload 5, 2) := by decide +kernel
theorem d_Law_law_435 : decode b_Law_law 435 = .ok (.ifCond .ne 15, 3) := by decide +kernel
theorem d_Law_law_438 : decode b_Law_law 438 = .ok (.aload_n 3, 1) := by decide +kernel
theorem d_Law_law_439 : decode b_Law_law 439 = .ok (.iconst 0, 1) := by decide +kernel
theorem d_Law_law_440 : decode b_Law_law 440 = .ok (.laload, 1) := by decide +kernel
theorem d_Law_law_441 : decode b_Law_law 441 = .ok (.iload 6, 2) := by decide +kernel
theorem d_Law_law_443 : decode b_Law_law 443 = .ok (.i2l, 1) := by decide +kernel
theorem d_Law_law_444 : decode b_Law_law 444 = .ok (.lcmp, 1) := by decide +kernel
theorem d_Law_law_445 : decode b_Law_law 445 = .ok (.ifCond .eq 5, 3) := by decide +kernel
theorem d_Law_law_448 : decode b_Law_law 448 = .ok (.iconst 0, 1) := by decide +kernel
theorem d_Law_law_449 : decode b_Law_law 449 = .ok (.ireturn, 1) := by decide +kernel
theorem d_Law_law_450 : decode b_Law_law 450 = .ok (.goto 88, 3) := by decide +kernel
theorem d_Law_law_453 : decode b_Law_law 453 = .ok (.aload_n 1, 1) := by decide +kernel
theorem d_Law_law_454 : decode b_Law_law 454 = .ok (.aload_n 0, 1) := by decide +kernel
theorem d_Law_law_455 : decode b_Law_law 455 = .ok (.iload 4, 2) := by decide +kernel
theorem d_Law_law_457 : decode b_Law_law 457 = .ok (.iconst 1, 1) := by decide +kernel
theorem d_Law_law_458 : decode b_Law_law 458 = .ok (.iadd, 1) := by decide +kernel
theorem d_Law_law_459 : decode b_Law_law 459 = .ok (.iaload, 1) := by decide +kernel
theorem d_Law_law_460 : decode b_Law_law 460 = .ok (.i2l, 1) := by decide +kernel
theorem d_Law_law_461 : decode b_Law_law 461 = .ok (.bipush 32, 2) := by decide +kernel
theorem d_Law_law_463 : decode b_Law_law 463 = .ok (.lshl, 1) := by decide +kernel
theorem d_Law_law_464 : decode b_Law_law 464 = .ok (.aload_n 0, 1) := by decide +kernel
theorem d_Law_law_465 : decode b_Law_law 465 = .ok (.iload 4, 2) := by decide +kernel
theorem d_Law_law_467 : decode b_Law_law 467 = .ok (.iconst 2, 1) := by decide +kernel
theorem d_Law_law_468 : decode b_Law_law 468 = .ok (.iadd, 1) := by decide +kernel
theorem d_Law_law_469 : decode b_Law_law 469 = .ok (.iaload, 1) := by decide +kernel
theorem d_Law_law_470 : decode b_Law_law 470 = .ok (.i2l, 1) := by decide +kernel
theorem d_Law_law_471 : decode b_Law_law 471 = .ok (.ldc2_w 42, 3) := by decide +kernel
theorem d_Law_law_474 : decode b_Law_law 474 = .ok (.land, 1) := by decide +kernel
theorem d_Law_law_475 : decode b_Law_law 475 = .ok (.lor, 1) := by decide +kernel
theorem d_Law_law_476 : decode b_Law_law 476 = .ok (.aload_n 0, 1) := by decide +kernel
theorem d_Law_law_477 : decode b_Law_law 477 = .ok (.iload 4, 2) := by decide +kernel
theorem d_Law_law_479 : decode b_Law_law 479 = .ok (.iconst 3, 1) := by decide +kernel
theorem d_Law_law_480 : decode b_Law_law 480 = .ok (.iadd, 1) := by decide +kernel
theorem d_Law_law_481 : decode b_Law_law 481 = .ok (.iaload, 1) := by decide +kernel
theorem d_Law_law_482 : decode b_Law_law 482 = .ok (.ifCond .eq 7, 3) := by decide +kernel
theorem d_Law_law_485 : decode b_Law_law 485 = .ok (.iconst 1, 1) := by decide +kernel
theorem d_Law_law_486 : decode b_Law_law 486 = .ok (.goto 4, 3) := by decide +kernel
theorem d_Law_law_489 : decode b_Law_law 489 = .ok (.iconst 0, 1) := by decide +kernel
theorem d_Law_law_490 : decode b_Law_law 490 = .ok (.invokevirtual 78, 3) := by decide +kernel
theorem d_Law_law_493 : decode b_Law_law 493 = .ok (.pop2, 1) := by decide +kernel
theorem d_Law_law_494 : decode b_Law_law 494 = .ok (.aload_n 2, 1) := by decide +kernel
theorem d_Law_law_495 : decode b_Law_law 495 = .ok (.aload_n 0, 1) := by decide +kernel
theorem d_Law_law_496 : decode b_Law_law 496 = .ok (.iload 4, 2) := by decide +kernel
theorem d_Law_law_498 : decode b_Law_law 498 = .ok (.iconst 1, 1) := by decide +kernel
theorem d_Law_law_499 : decode b_Law_law 499 = .ok (.iadd, 1) := by decide +kernel
theorem d_Law_law_500 : decode b_Law_law 500 = .ok (.iaload, 1) := by decide +kernel
theorem d_Law_law_501 : decode b_Law_law 501 = .ok (.i2l, 1) := by decide +kernel
theorem d_Law_law_502 : decode b_Law_law 502 = .ok (.bipush 32, 2) := by decide +kernel
theorem d_Law_law_504 : decode b_Law_law 504 = .ok (.lshl, 1) := by decide +kernel
theorem d_Law_law_505 : decode b_Law_law 505 = .ok (.aload_n 0, 1) := by decide +kernel
theorem d_Law_law_506 : decode b_Law_law 506 = .ok (.iload 4, 2) := by decide +kernel
theorem d_Law_law_508 : decode b_Law_law 508 = .ok (.iconst 2, 1) := by decide +kernel
theorem d_Law_law_509 : decode b_Law_law 509 = .ok (.iadd, 1) := by decide +kernel
theorem d_Law_law_510 : decode b_Law_law 510 = .ok (.iaload, 1) := by decide +kernel
theorem d_Law_law_511 : decode b_Law_law 511 = .ok (.i2l, 1) := by decide +kernel
theorem d_Law_law_512 : decode b_Law_law 512 = .ok (.ldc2_w 42, 3) := by decide +kernel
theorem d_Law_law_515 : decode b_Law_law 515 = .ok (.land, 1) := by decide +kernel
theorem d_Law_law_516 : decode b_Law_law 516 = .ok (.lor, 1) := by decide +kernel
theorem d_Law_law_517 : decode b_Law_law 517 = .ok (.aload_n 0, 1) := by decide +kernel
theorem d_Law_law_518 : decode b_Law_law 518 = .ok (.iload 4, 2) := by decide +kernel
theorem d_Law_law_520 : decode b_Law_law 520 = .ok (.iconst 3, 1) := by decide +kernel
theorem d_Law_law_521 : decode b_Law_law 521 = .ok (.iadd, 1) := by decide +kernel
theorem d_Law_law_522 : decode b_Law_law 522 = .ok (.iaload, 1) := by decide +kernel
theorem d_Law_law_523 : decode b_Law_law 523 = .ok (.ifCond .eq 7, 3) := by decide +kernel
theorem d_Law_law_526 : decode b_Law_law 526 = .ok (.iconst 1, 1) := by decide +kernel
theorem d_Law_law_527 : decode b_Law_law 527 = .ok (.goto 4, 3) := by decide +kernel
theorem d_Law_law_530 : decode b_Law_law 530 = .ok (.iconst 0, 1) := by decide +kernel
theorem d_Law_law_531 : decode b_Law_law 531 = .ok (.invokevirtual 82, 3) := by decide +kernel
theorem d_Law_law_534 : decode b_Law_law 534 = .ok (.pop2, 1) := by decide +kernel
theorem d_Law_law_535 : decode b_Law_law 535 = .ok (.goto 3, 3) := by decide +kernel
theorem d_Law_law_538 : decode b_Law_law 538 = .ok (.iinc 4 4, 3) := by decide +kernel
theorem d_Law_law_541 : decode b_Law_law 541 = .ok (.goto (-518), 3) := by decide +kernel
theorem d_Law_law_544 : decode b_Law_law 544 = .ok (.iconst 1, 1) := by decide +kernel
theorem d_Law_law_545 : decode b_Law_law 545 = .ok (.ireturn, 1) := by decide +kernel
