theorem dd_Law_law_398 : decode bb_Law_law 398 = .ok (.ifCond .ne 22, 3) := by decide +kernel
theorem dd_Law_law_401 : decode bb_Law_law 401 = .ok (.aload_n 3, 1) := by decide +kernel
theorem dd_Law_law_402 : decode bb_Law_law 402 = .ok (.iconst 0, 1) := by decide +kernel
theorem dd_Law_law_403 : decode bb_Law_law 403 = .ok (.laload, 1) := by decide +kernel
theorem dd_Law_law_404 : decode bb_Law_law 404 = .ok (.iload 6, 2) := by decide +kernel
theorem dd_Law_law_406 : decode bb_Law_law 406 = .ok (.ifCond .eq 7, 3) := by decide +kernel
theorem dd_Law_law_413 : decode bb_Law_law 413 = .ok (.lconst 0, 1) := by decide +kernel
theorem dd_Law_law_409 : decode bb_Law_law 409 = .ok (.lconst 1, 1) := by decide +kernel
theorem dd_Law_law_410 : decode bb_Law_law 410 = .ok (.goto 4, 3) := by decide +kernel
theorem dd_Law_law_394 : decode bb_Law_law 394 = .ok (.iconst 0, 1) := by decide +kernel
theorem dd_Law_law_414 : decode bb_Law_law 414 = .ok (.lcmp, 1) := by decide +kernel
theorem dd_Law_law_415 : decode bb_Law_law 415 = .ok (.ifCond .eq 5, 3) := by decide +kernel
theorem dd_Law_law_418 : decode bb_Law_law 418 = .ok (.iconst 0, 1) := by decide +kernel
theorem dd_Law_law_420 : decode bb_Law_law 420 = .ok (.goto 1050, 3) := by decide +kernel
theorem dd_Law_law_423 : decode bb_Law_law 423 = .ok (.aload_n 1, 1) := by decide +kernel
theorem dd_Law_law_424 : decode bb_Law_law 424 = .ok (.aload_n 0, 1) := by decide +kernel
theorem dd_Law_law_425 : decode bb_Law_law 425 = .ok (.iload 4, 2) := by decide +kernel
theorem dd_Law_law_427 : decode bb_Law_law 427 = .ok (.iconst 1, 1) := by decide +kernel
theorem dd_Law_law_428 : decode bb_Law_law 428 = .ok (.iadd, 1) := by decide +kernel
theorem dd_Law_law_429 : decode bb_Law_law 429 = .ok (.iaload, 1) := by decide +kernel
theorem dd_Law_law_430 : decode bb_Law_law 430 = .ok (.aload_n 0, 1) := by decide +kernel
theorem dd_Law_law_431 : decode bb_Law_law 431 = .ok (.iload 4, 2) := by decide +kernel
theorem dd_Law_law_433 : decode bb_Law_law 433 = .ok (.iconst 2, 1) := by decide +kernel
theorem dd_Law_law_434 : decode bb_Law_law 434 = .ok (.iadd, 1) := by decide +kernel
theorem dd_Law_law_435 : decode bb_Law_law 435 = .ok (.iaload, 1) := by decide +kernel
theorem dd_Law_law_436 : decode bb_Law_law 436 = .ok (.aload_n 0, 1) := by decide +kernel
theorem dd_Law_law_437 : decode bb_Law_law 437 = .ok (.iload 4, 2) := by decide +kernel
theorem dd_Law_law_439 : decode bb_Law_law 439 = .ok (.iconst 3, 1) := by decide +kernel
theorem dd_Law_law_440 : decode bb_Law_law 440 = .ok (.iadd, 1) := by decide +kernel
theorem dd_Law_law_441 : decode bb_Law_law 441 = .ok (.iaload, 1) := by decide +kernel
theorem dd_Law_law_442 : decode bb_Law_law 442 = .ok (.aload_n 0, 1) := by decide +kernel
theorem dd_Law_law_443 : decode bb_Law_law 443 = .ok (.iload 4, 2) := by decide +kernel
theorem dd_Law_law_445 : decode bb_Law_law 445 = .ok (.iconst 4, 1) := by decide +kernel
theorem dd_Law_law_446 : decode bb_Law_law 446 = .ok (.iadd, 1) := by decide +kernel
theorem dd_Law_law_447 : decode bb_Law_law 447 = .ok (.iaload, 1) := by decide +kernel
theorem dd_Law_law_448 : decode bb_Law_law 448 = .ok (.aload_n 3, 1) := by decide +kernel
theorem dd_Law_law_449 : decode bb_Law_law 449 = .ok (.invokestatic 113, 3) := by decide +kernel
theorem dd_Law_law_452 : decode bb_Law_law 452 = .ok (.istore 5, 2) := by decide +kernel
theorem dd_Law_law_454 : decode bb_Law_law 454 = .ok (.aload_n 2, 1) := by decide +kernel
theorem dd_Law_law_455 : decode bb_Law_law 455 = .ok (.aload_n 0, 1) := by decide +kernel
theorem dd_Law_law_456 : decode bb_Law_law 456 = .ok (.iload 4, 2) := by decide +kernel
theorem dd_Law_law_458 : decode bb_Law_law 458 = .ok (.iconst 1, 1) := by decide +kernel
theorem dd_Law_law_459 : decode bb_Law_law 459 = .ok (.iadd, 1) := by decide +kernel
theorem dd_Law_law_460 : decode bb_Law_law 460 = .ok (.iaload, 1) := by decide +kernel
theorem dd_Law_law_461 : decode bb_Law_law 461 = .ok (.aload_n 0, 1) := by decide +kernel
theorem dd_Law_law_462 : decode bb_Law_law 462 = .ok (.iload 4, 2) := by decide +kernel
theorem dd_Law_law_464 : decode bb_Law_law 464 = .ok (.iconst 2, 1) := by decide +kernel
theorem dd_Law_law_465 : decode bb_Law_law 465 = .ok (.iadd, 1) := by decide +kernel
theorem dd_Law_law_466 : decode bb_Law_law 466 = .ok (.iaload, 1) := by decide +kernel
theorem dd_Law_law_467 : decode bb_Law_law 467 = .ok (.aload_n 0, 1) := by decide +kernel
theorem dd_Law_law_468 : decode bb_Law_law 468 = .ok (.iload 4, 2) := by decide +kernel
theorem dd_Law_law_470 : decode bb_Law_law 470 = .ok (.iconst 3, 1) := by decide +kernel
theorem dd_Law_law_471 : decode bb_Law_law 471 = .ok (.iadd, 1) := by decide +kernel
theorem dd_Law_law_472 : decode bb_Law_law 472 = .ok (.iaload, 1) := by decide +kernel
theorem dd_Law_law_473 : decode bb_Law_law 473 = .ok (.aload_n 0, 1) := by decide +kernel
theorem dd_Law_law_474 : decode bb_Law_law 474 = .ok (.iload 4, 2) := by decide +kernel
theorem dd_Law_law_476 : decode bb_Law_law 476 = .ok (.iconst 4, 1) := by decide +kernel
theorem dd_Law_law_477 : decode bb_Law_law 477 = .ok (.iadd, 1) := by decide +kernel
theorem dd_Law_law_478 : decode bb_Law_law 478 = .ok (.iaload, 1) := by decide +kernel
theorem dd_Law_law_479 : decode bb_Law_law 479 = .ok (.invokevirtual 116, 3) := by decide +kernel
