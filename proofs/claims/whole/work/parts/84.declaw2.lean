/-! the law's own instructions, the rest -/
theorem d_W_law_322 : decode (yMb m_W_law) 322 = .ok (.iload 4, 2) := by decide +kernel
theorem d_W_law_324 : decode (yMb m_W_law) 324 = .ok (.iconst 1, 1) := by decide +kernel
theorem d_W_law_325 : decode (yMb m_W_law) 325 = .ok (.iadd, 1) := by decide +kernel
theorem d_W_law_326 : decode (yMb m_W_law) 326 = .ok (.iaload, 1) := by decide +kernel
theorem d_W_law_327 : decode (yMb m_W_law) 327 = .ok (.invokestatic 64, 3) := by decide +kernel
theorem d_W_law_330 : decode (yMb m_W_law) 330 = .ok (.istore 5, 2) := by decide +kernel
theorem d_W_law_332 : decode (yMb m_W_law) 332 = .ok (.aload_n 2, 1) := by decide +kernel
theorem d_W_law_333 : decode (yMb m_W_law) 333 = .ok (.aload_n 0, 1) := by decide +kernel
theorem d_W_law_334 : decode (yMb m_W_law) 334 = .ok (.iload 4, 2) := by decide +kernel
theorem d_W_law_336 : decode (yMb m_W_law) 336 = .ok (.iconst 1, 1) := by decide +kernel
theorem d_W_law_337 : decode (yMb m_W_law) 337 = .ok (.iadd, 1) := by decide +kernel
theorem d_W_law_338 : decode (yMb m_W_law) 338 = .ok (.iaload, 1) := by decide +kernel
theorem d_W_law_339 : decode (yMb m_W_law) 339 = .ok (.invokevirtual 67, 3) := by decide +kernel
theorem d_W_law_342 : decode (yMb m_W_law) 342 = .ok (.aload_n 2, 1) := by decide +kernel
theorem d_W_law_343 : decode (yMb m_W_law) 343 = .ok (.invokevirtual 52, 3) := by decide +kernel
theorem d_W_law_346 : decode (yMb m_W_law) 346 = .ok (.iload 5, 2) := by decide +kernel
theorem d_W_law_348 : decode (yMb m_W_law) 348 = .ok (.if_icmp .eq 5, 3) := by decide +kernel
theorem d_W_law_351 : decode (yMb m_W_law) 351 = .ok (.iconst 0, 1) := by decide +kernel
theorem d_W_law_352 : decode (yMb m_W_law) 352 = .ok (.ireturn, 1) := by decide +kernel
theorem d_W_law_353 : decode (yMb m_W_law) 353 = .ok (.goto 245, 3) := by decide +kernel
theorem d_W_law_356 : decode (yMb m_W_law) 356 = .ok (.aload_n 1, 1) := by decide +kernel
theorem d_W_law_357 : decode (yMb m_W_law) 357 = .ok (.aload_n 0, 1) := by decide +kernel
theorem d_W_law_358 : decode (yMb m_W_law) 358 = .ok (.iload 4, 2) := by decide +kernel
theorem d_W_law_360 : decode (yMb m_W_law) 360 = .ok (.iconst 1, 1) := by decide +kernel
theorem d_W_law_361 : decode (yMb m_W_law) 361 = .ok (.iadd, 1) := by decide +kernel
theorem d_W_law_362 : decode (yMb m_W_law) 362 = .ok (.iaload, 1) := by decide +kernel
theorem d_W_law_363 : decode (yMb m_W_law) 363 = .ok (.aload_n 0, 1) := by decide +kernel
theorem d_W_law_364 : decode (yMb m_W_law) 364 = .ok (.iload 4, 2) := by decide +kernel
theorem d_W_law_366 : decode (yMb m_W_law) 366 = .ok (.iconst 2, 1) := by decide +kernel
theorem d_W_law_367 : decode (yMb m_W_law) 367 = .ok (.iadd, 1) := by decide +kernel
theorem d_W_law_368 : decode (yMb m_W_law) 368 = .ok (.iaload, 1) := by decide +kernel
theorem d_W_law_369 : decode (yMb m_W_law) 369 = .ok (.aload_n 3, 1) := by decide +kernel
theorem d_W_law_370 : decode (yMb m_W_law) 370 = .ok (.invokestatic 68, 3) := by decide +kernel
theorem d_W_law_373 : decode (yMb m_W_law) 373 = .ok (.istore 5, 2) := by decide +kernel
theorem d_W_law_375 : decode (yMb m_W_law) 375 = .ok (.aload_n 2, 1) := by decide +kernel
theorem d_W_law_376 : decode (yMb m_W_law) 376 = .ok (.aload_n 0, 1) := by decide +kernel
theorem d_W_law_377 : decode (yMb m_W_law) 377 = .ok (.iload 4, 2) := by decide +kernel
theorem d_W_law_379 : decode (yMb m_W_law) 379 = .ok (.iconst 1, 1) := by decide +kernel
theorem d_W_law_380 : decode (yMb m_W_law) 380 = .ok (.iadd, 1) := by decide +kernel
theorem d_W_law_381 : decode (yMb m_W_law) 381 = .ok (.iaload, 1) := by decide +kernel
theorem d_W_law_382 : decode (yMb m_W_law) 382 = .ok (.aload_n 0, 1) := by decide +kernel
theorem d_W_law_383 : decode (yMb m_W_law) 383 = .ok (.iload 4, 2) := by decide +kernel
theorem d_W_law_385 : decode (yMb m_W_law) 385 = .ok (.iconst 2, 1) := by decide +kernel
theorem d_W_law_386 : decode (yMb m_W_law) 386 = .ok (.iadd, 1) := by decide +kernel
theorem d_W_law_387 : decode (yMb m_W_law) 387 = .ok (.iaload, 1) := by decide +kernel
theorem d_W_law_388 : decode (yMb m_W_law) 388 = .ok (.invokevirtual 70, 3) := by decide +kernel
theorem d_W_law_391 : decode (yMb m_W_law) 391 = .ok (.istore 6, 2) := by decide +kernel
theorem d_W_law_393 : decode (yMb m_W_law) 393 = .ok (.aload_n 2, 1) := by decide +kernel
theorem d_W_law_394 : decode (yMb m_W_law) 394 = .ok (.invokevirtual 52, 3) := by decide +kernel
theorem d_W_law_397 : decode (yMb m_W_law) 397 = .ok (.iload 5, 2) := by decide +kernel
theorem d_W_law_399 : decode (yMb m_W_law) 399 = .ok (.if_icmp .eq 5, 3) := by decide +kernel
theorem d_W_law_402 : decode (yMb m_W_law) 402 = .ok (.iconst 0, 1) := by decide +kernel
theorem d_W_law_403 : decode (yMb m_W_law) 403 = .ok (.ireturn, 1) := by decide +kernel
theorem d_W_law_404 : decode (yMb m_W_law) 404 = .ok (.iload 5, 2) := by decide +kernel
theorem d_W_law_406 : decode (yMb m_W_law) 406 = .ok (.ifCond .ne 15, 3) := by decide +kernel
theorem d_W_law_409 : decode (yMb m_W_law) 409 = .ok (.aload_n 3, 1) := by decide +kernel
theorem d_W_law_410 : decode (yMb m_W_law) 410 = .ok (.iconst 0, 1) := by decide +kernel
theorem d_W_law_411 : decode (yMb m_W_law) 411 = .ok (.laload, 1) := by decide +kernel
theorem d_W_law_412 : decode (yMb m_W_law) 412 = .ok (.iload 6, 2) := by decide +kernel
theorem d_W_law_414 : decode (yMb m_W_law) 414 = .ok (.i2l, 1) := by decide +kernel
theorem d_W_law_415 : decode (yMb m_W_law) 415 = .ok (.lcmp, 1) := by decide +kernel
theorem d_W_law_416 : decode (yMb m_W_law) 416 = .ok (.ifCond .eq 5, 3) := by decide +kernel
theorem d_W_law_419 : decode (yMb m_W_law) 419 = .ok (.iconst 0, 1) := by decide +kernel
theorem d_W_law_420 : decode (yMb m_W_law) 420 = .ok (.ireturn, 1) := by decide +kernel
theorem d_W_law_421 : decode (yMb m_W_law) 421 = .ok (.goto 177, 3) := by decide +kernel
theorem d_W_law_424 : decode (yMb m_W_law) 424 = .ok (.aload_n 1, 1) := by decide +kernel
theorem d_W_law_425 : decode (yMb m_W_law) 425 = .ok (.aload_n 0, 1) := by decide +kernel
theorem d_W_law_426 : decode (yMb m_W_law) 426 = .ok (.iload 4, 2) := by decide +kernel
theorem d_W_law_428 : decode (yMb m_W_law) 428 = .ok (.iconst 1, 1) := by decide +kernel
theorem d_W_law_429 : decode (yMb m_W_law) 429 = .ok (.iadd, 1) := by decide +kernel
theorem d_W_law_430 : decode (yMb m_W_law) 430 = .ok (.iaload, 1) := by decide +kernel
theorem d_W_law_431 : decode (yMb m_W_law) 431 = .ok (.aload_n 0, 1) := by decide +kernel
theorem d_W_law_432 : decode (yMb m_W_law) 432 = .ok (.iload 4, 2) := by decide +kernel
theorem d_W_law_434 : decode (yMb m_W_law) 434 = .ok (.iconst 2, 1) := by decide +kernel
theorem d_W_law_435 : decode (yMb m_W_law) 435 = .ok (.iadd, 1) := by decide +kernel
theorem d_W_law_436 : decode (yMb m_W_law) 436 = .ok (.iaload, 1) := by decide +kernel
theorem d_W_law_437 : decode (yMb m_W_law) 437 = .ok (.aload_n 3, 1) := by decide +kernel
theorem d_W_law_438 : decode (yMb m_W_law) 438 = .ok (.invokestatic 71, 3) := by decide +kernel
theorem d_W_law_441 : decode (yMb m_W_law) 441 = .ok (.istore 5, 2) := by decide +kernel
theorem d_W_law_443 : decode (yMb m_W_law) 443 = .ok (.aload_n 2, 1) := by decide +kernel
theorem d_W_law_444 : decode (yMb m_W_law) 444 = .ok (.aload_n 0, 1) := by decide +kernel
theorem d_W_law_445 : decode (yMb m_W_law) 445 = .ok (.iload 4, 2) := by decide +kernel
theorem d_W_law_447 : decode (yMb m_W_law) 447 = .ok (.iconst 1, 1) := by decide +kernel
theorem d_W_law_448 : decode (yMb m_W_law) 448 = .ok (.iadd, 1) := by decide +kernel
theorem d_W_law_449 : decode (yMb m_W_law) 449 = .ok (.iaload, 1) := by decide +kernel
theorem d_W_law_450 : decode (yMb m_W_law) 450 = .ok (.aload_n 0, 1) := by decide +kernel
theorem d_W_law_451 : decode (yMb m_W_law) 451 = .ok (.iload 4, 2) := by decide +kernel
theorem d_W_law_453 : decode (yMb m_W_law) 453 = .ok (.iconst 2, 1) := by decide +kernel
theorem d_W_law_454 : decode (yMb m_W_law) 454 = .ok (.iadd, 1) := by decide +kernel
theorem d_W_law_455 : decode (yMb m_W_law) 455 = .ok (.iaload, 1) := by decide +kernel
theorem d_W_law_456 : decode (yMb m_W_law) 456 = .ok (.invokevirtual 73, 3) := by decide +kernel
theorem d_W_law_459 : decode (yMb m_W_law) 459 = .ok (.istore 6, 2) := by decide +kernel
theorem d_W_law_461 : decode (yMb m_W_law) 461 = .ok (.aload_n 2, 1) := by decide +kernel
theorem d_W_law_462 : decode (yMb m_W_law) 462 = .ok (.invokevirtual 52, 3) := by decide +kernel
theorem d_W_law_465 : decode (yMb m_W_law) 465 = .ok (.iload 5, 2) := by decide +kernel
theorem d_W_law_467 : decode (yMb m_W_law) 467 = .ok (.if_icmp .eq 5, 3) := by decide +kernel
theorem d_W_law_470 : decode (yMb m_W_law) 470 = .ok (.iconst 0, 1) := by decide +kernel
theorem d_W_law_471 : decode (yMb m_W_law) 471 = .ok (.ireturn, 1) := by decide +kernel
theorem d_W_law_472 : decode (yMb m_W_law) 472 = .ok (.iload 5, 2) := by decide +kernel
theorem d_W_law_474 : decode (yMb m_W_law) 474 = .ok (.ifCond .ne 15, 3) := by decide +kernel
theorem d_W_law_477 : decode (yMb m_W_law) 477 = .ok (.aload_n 3, 1) := by decide +kernel
theorem d_W_law_478 : decode (yMb m_W_law) 478 = .ok (.iconst 0, 1) := by decide +kernel
theorem d_W_law_479 : decode (yMb m_W_law) 479 = .ok (.laload, 1) := by decide +kernel
theorem d_W_law_480 : decode (yMb m_W_law) 480 = .ok (.iload 6, 2) := by decide +kernel
theorem d_W_law_482 : decode (yMb m_W_law) 482 = .ok (.i2l, 1) := by decide +kernel
theorem d_W_law_483 : decode (yMb m_W_law) 483 = .ok (.lcmp, 1) := by decide +kernel
theorem d_W_law_484 : decode (yMb m_W_law) 484 = .ok (.ifCond .eq 5, 3) := by decide +kernel
theorem d_W_law_487 : decode (yMb m_W_law) 487 = .ok (.iconst 0, 1) := by decide +kernel
theorem d_W_law_488 : decode (yMb m_W_law) 488 = .ok (.ireturn, 1) := by decide +kernel
theorem d_W_law_489 : decode (yMb m_W_law) 489 = .ok (.goto 109, 3) := by decide +kernel
theorem d_W_law_492 : decode (yMb m_W_law) 492 = .ok (.aload_n 1, 1) := by decide +kernel
theorem d_W_law_493 : decode (yMb m_W_law) 493 = .ok (.aload_n 0, 1) := by decide +kernel
theorem d_W_law_494 : decode (yMb m_W_law) 494 = .ok (.iload 4, 2) := by decide +kernel
theorem d_W_law_496 : decode (yMb m_W_law) 496 = .ok (.iconst 1, 1) := by decide +kernel
theorem d_W_law_497 : decode (yMb m_W_law) 497 = .ok (.iadd, 1) := by decide +kernel
theorem d_W_law_498 : decode (yMb m_W_law) 498 = .ok (.iaload, 1) := by decide +kernel
theorem d_W_law_499 : decode (yMb m_W_law) 499 = .ok (.aload_n 0, 1) := by decide +kernel
theorem d_W_law_500 : decode (yMb m_W_law) 500 = .ok (.iload 4, 2) := by decide +kernel
theorem d_W_law_502 : decode (yMb m_W_law) 502 = .ok (.iconst 2, 1) := by decide +kernel
theorem d_W_law_503 : decode (yMb m_W_law) 503 = .ok (.iadd, 1) := by decide +kernel
theorem d_W_law_504 : decode (yMb m_W_law) 504 = .ok (.iaload, 1) := by decide +kernel
theorem d_W_law_505 : decode (yMb m_W_law) 505 = .ok (.aload_n 3, 1) := by decide +kernel
theorem d_W_law_506 : decode (yMb m_W_law) 506 = .ok (.invokestatic 74, 3) := by decide +kernel
theorem d_W_law_509 : decode (yMb m_W_law) 509 = .ok (.istore 5, 2) := by decide +kernel
theorem d_W_law_511 : decode (yMb m_W_law) 511 = .ok (.aload_n 2, 1) := by decide +kernel
theorem d_W_law_512 : decode (yMb m_W_law) 512 = .ok (.aload_n 0, 1) := by decide +kernel
theorem d_W_law_513 : decode (yMb m_W_law) 513 = .ok (.iload 4, 2) := by decide +kernel
theorem d_W_law_515 : decode (yMb m_W_law) 515 = .ok (.iconst 1, 1) := by decide +kernel
theorem d_W_law_516 : decode (yMb m_W_law) 516 = .ok (.iadd, 1) := by decide +kernel
theorem d_W_law_517 : decode (yMb m_W_law) 517 = .ok (.iaload, 1) := by decide +kernel
theorem d_W_law_518 : decode (yMb m_W_law) 518 = .ok (.aload_n 0, 1) := by decide +kernel
theorem d_W_law_519 : decode (yMb m_W_law) 519 = .ok (.iload 4, 2) := by decide +kernel
theorem d_W_law_521 : decode (yMb m_W_law) 521 = .ok (.iconst 2, 1) := by decide +kernel
theorem d_W_law_522 : decode (yMb m_W_law) 522 = .ok (.iadd, 1) := by decide +kernel
theorem d_W_law_523 : decode (yMb m_W_law) 523 = .ok (.iaload, 1) := by decide +kernel
theorem d_W_law_524 : decode (yMb m_W_law) 524 = .ok (.invokevirtual 76, 3) := by decide +kernel
theorem d_W_law_527 : decode (yMb m_W_law) 527 = .ok (.istore 6, 2) := by decide +kernel
theorem d_W_law_529 : decode (yMb m_W_law) 529 = .ok (.aload_n 2, 1) := by decide +kernel
theorem d_W_law_530 : decode (yMb m_W_law) 530 = .ok (.invokevirtual 52, 3) := by decide +kernel
theorem d_W_law_533 : decode (yMb m_W_law) 533 = .ok (.iload 5, 2) := by decide +kernel
theorem d_W_law_535 : decode (yMb m_W_law) 535 = .ok (.if_icmp .eq 5, 3) := by decide +kernel
theorem d_W_law_538 : decode (yMb m_W_law) 538 = .ok (.iconst 0, 1) := by decide +kernel
theorem d_W_law_539 : decode (yMb m_W_law) 539 = .ok (.ireturn, 1) := by decide +kernel
theorem d_W_law_540 : decode (yMb m_W_law) 540 = .ok (.iload 5, 2) := by decide +kernel
theorem d_W_law_542 : decode (yMb m_W_law) 542 = .ok (.ifCond .ne 15, 3) := by decide +kernel
theorem d_W_law_545 : decode (yMb m_W_law) 545 = .ok (.aload_n 3, 1) := by decide +kernel
theorem d_W_law_546 : decode (yMb m_W_law) 546 = .ok (.iconst 0, 1) := by decide +kernel
theorem d_W_law_547 : decode (yMb m_W_law) 547 = .ok (.laload, 1) := by decide +kernel
theorem d_W_law_548 : decode (yMb m_W_law) 548 = .ok (.iload 6, 2) := by decide +kernel
theorem d_W_law_550 : decode (yMb m_W_law) 550 = .ok (.i2l, 1) := by decide +kernel
theorem d_W_law_551 : decode (yMb m_W_law) 551 = .ok (.lcmp, 1) := by decide +kernel
theorem d_W_law_552 : decode (yMb m_W_law) 552 = .ok (.ifCond .eq 5, 3) := by decide +kernel
theorem d_W_law_555 : decode (yMb m_W_law) 555 = .ok (.iconst 0, 1) := by decide +kernel
theorem d_W_law_556 : decode (yMb m_W_law) 556 = .ok (.ireturn, 1) := by decide +kernel
theorem d_W_law_557 : decode (yMb m_W_law) 557 = .ok (.goto 41, 3) := by decide +kernel
theorem d_W_law_560 : decode (yMb m_W_law) 560 = .ok (.aload_n 1, 1) := by decide +kernel
theorem d_W_law_561 : decode (yMb m_W_law) 561 = .ok (.invokevirtual 77, 3) := by decide +kernel
theorem d_W_law_564 : decode (yMb m_W_law) 564 = .ok (.aload_n 2, 1) := by decide +kernel
theorem d_W_law_565 : decode (yMb m_W_law) 565 = .ok (.invokevirtual 80, 3) := by decide +kernel
theorem d_W_law_568 : decode (yMb m_W_law) 568 = .ok (.if_icmp .eq 30, 3) := by decide +kernel
theorem d_W_law_571 : decode (yMb m_W_law) 571 = .ok (.iconst 0, 1) := by decide +kernel
theorem d_W_law_572 : decode (yMb m_W_law) 572 = .ok (.ireturn, 1) := by decide +kernel
theorem d_W_law_573 : decode (yMb m_W_law) 573 = .ok (.aload_n 1, 1) := by decide +kernel
theorem d_W_law_574 : decode (yMb m_W_law) 574 = .ok (.aload_n 0, 1) := by decide +kernel
theorem d_W_law_575 : decode (yMb m_W_law) 575 = .ok (.iload 4, 2) := by decide +kernel
theorem d_W_law_577 : decode (yMb m_W_law) 577 = .ok (.iconst 1, 1) := by decide +kernel
theorem d_W_law_578 : decode (yMb m_W_law) 578 = .ok (.iadd, 1) := by decide +kernel
theorem d_W_law_579 : decode (yMb m_W_law) 579 = .ok (.iaload, 1) := by decide +kernel
theorem d_W_law_580 : decode (yMb m_W_law) 580 = .ok (.invokevirtual 81, 3) := by decide +kernel
theorem d_W_law_583 : decode (yMb m_W_law) 583 = .ok (.aload_n 2, 1) := by decide +kernel
theorem d_W_law_584 : decode (yMb m_W_law) 584 = .ok (.aload_n 0, 1) := by decide +kernel
theorem d_W_law_585 : decode (yMb m_W_law) 585 = .ok (.iload 4, 2) := by decide +kernel
theorem d_W_law_587 : decode (yMb m_W_law) 587 = .ok (.iconst 1, 1) := by decide +kernel
theorem d_W_law_588 : decode (yMb m_W_law) 588 = .ok (.iadd, 1) := by decide +kernel
theorem d_W_law_589 : decode (yMb m_W_law) 589 = .ok (.iaload, 1) := by decide +kernel
theorem d_W_law_590 : decode (yMb m_W_law) 590 = .ok (.invokevirtual 84, 3) := by decide +kernel
theorem d_W_law_593 : decode (yMb m_W_law) 593 = .ok (.if_icmp .eq 5, 3) := by decide +kernel
theorem d_W_law_596 : decode (yMb m_W_law) 596 = .ok (.iconst 0, 1) := by decide +kernel
theorem d_W_law_597 : decode (yMb m_W_law) 597 = .ok (.ireturn, 1) := by decide +kernel
theorem d_W_law_598 : decode (yMb m_W_law) 598 = .ok (.iinc 4 6, 3) := by decide +kernel
theorem d_W_law_601 : decode (yMb m_W_law) 601 = .ok (.goto (-578), 3) := by decide +kernel
theorem d_W_law_604 : decode (yMb m_W_law) 604 = .ok (.iconst 1, 1) := by decide +kernel
theorem d_W_law_605 : decode (yMb m_W_law) 605 = .ok (.ireturn, 1) := by decide +kernel
