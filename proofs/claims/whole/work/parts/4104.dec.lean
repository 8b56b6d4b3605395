theorem dd_Law_law_482 : decode bb_Law_law 482 = .ok (.istore 6, 2) := by decide +kernel
theorem dd_Law_law_484 : decode bb_Law_law 484 = .ok (.aload_n 2, 1) := by decide +kernel
theorem dd_Law_law_485 : decode bb_Law_law 485 = .ok (.invokevirtual 95, 3) := by decide +kernel
theorem dd_Law_law_488 : decode bb_Law_law 488 = .ok (.iload 5, 2) := by decide +kernel
theorem dd_Law_law_490 : decode bb_Law_law 490 = .ok (.if_icmp .eq 5, 3) := by decide +kernel
theorem dd_Law_law_495 : decode bb_Law_law 495 = .ok (.iload 5, 2) := by decide +kernel
theorem dd_Law_law_497 : decode bb_Law_law 497 = .ok (.ifCond .ne 22, 3) := by decide +kernel
theorem dd_Law_law_500 : decode bb_Law_law 500 = .ok (.aload_n 3, 1) := by decide +kernel
theorem dd_Law_law_501 : decode bb_Law_law 501 = .ok (.iconst 0, 1) := by decide +kernel
theorem dd_Law_law_502 : decode bb_Law_law 502 = .ok (.laload, 1) := by decide +kernel
theorem dd_Law_law_503 : decode bb_Law_law 503 = .ok (.iload 6, 2) := by decide +kernel
theorem dd_Law_law_505 : decode bb_Law_law 505 = .ok (.ifCond .eq 7, 3) := by decide +kernel
theorem dd_Law_law_512 : decode bb_Law_law 512 = .ok (.lconst 0, 1) := by decide +kernel
theorem dd_Law_law_508 : decode bb_Law_law 508 = .ok (.lconst 1, 1) := by decide +kernel
theorem dd_Law_law_509 : decode bb_Law_law 509 = .ok (.goto 4, 3) := by decide +kernel
theorem dd_Law_law_493 : decode bb_Law_law 493 = .ok (.iconst 0, 1) := by decide +kernel
theorem dd_Law_law_513 : decode bb_Law_law 513 = .ok (.lcmp, 1) := by decide +kernel
theorem dd_Law_law_514 : decode bb_Law_law 514 = .ok (.ifCond .eq 5, 3) := by decide +kernel
theorem dd_Law_law_517 : decode bb_Law_law 517 = .ok (.iconst 0, 1) := by decide +kernel
theorem dd_Law_law_519 : decode bb_Law_law 519 = .ok (.goto 951, 3) := by decide +kernel
theorem dd_Law_law_522 : decode bb_Law_law 522 = .ok (.aload_n 1, 1) := by decide +kernel
theorem dd_Law_law_523 : decode bb_Law_law 523 = .ok (.aload_n 0, 1) := by decide +kernel
theorem dd_Law_law_524 : decode bb_Law_law 524 = .ok (.iload 4, 2) := by decide +kernel
theorem dd_Law_law_526 : decode bb_Law_law 526 = .ok (.iconst 1, 1) := by decide +kernel
theorem dd_Law_law_527 : decode bb_Law_law 527 = .ok (.iadd, 1) := by decide +kernel
theorem dd_Law_law_528 : decode bb_Law_law 528 = .ok (.iaload, 1) := by decide +kernel
theorem dd_Law_law_529 : decode bb_Law_law 529 = .ok (.aload_n 0, 1) := by decide +kernel
theorem dd_Law_law_530 : decode bb_Law_law 530 = .ok (.iload 4, 2) := by decide +kernel
theorem dd_Law_law_532 : decode bb_Law_law 532 = .ok (.iconst 2, 1) := by decide +kernel
theorem dd_Law_law_533 : decode bb_Law_law 533 = .ok (.iadd, 1) := by decide +kernel
theorem dd_Law_law_534 : decode bb_Law_law 534 = .ok (.iaload, 1) := by decide +kernel
theorem dd_Law_law_535 : decode bb_Law_law 535 = .ok (.aload_n 3, 1) := by decide +kernel
theorem dd_Law_law_536 : decode bb_Law_law 536 = .ok (.invokestatic 117, 3) := by decide +kernel
theorem dd_Law_law_539 : decode bb_Law_law 539 = .ok (.istore 5, 2) := by decide +kernel
theorem dd_Law_law_541 : decode bb_Law_law 541 = .ok (.aload_n 2, 1) := by decide +kernel
theorem dd_Law_law_542 : decode bb_Law_law 542 = .ok (.aload_n 0, 1) := by decide +kernel
theorem dd_Law_law_543 : decode bb_Law_law 543 = .ok (.iload 4, 2) := by decide +kernel
theorem dd_Law_law_545 : decode bb_Law_law 545 = .ok (.iconst 1, 1) := by decide +kernel
theorem dd_Law_law_546 : decode bb_Law_law 546 = .ok (.iadd, 1) := by decide +kernel
theorem dd_Law_law_547 : decode bb_Law_law 547 = .ok (.iaload, 1) := by decide +kernel
theorem dd_Law_law_548 : decode bb_Law_law 548 = .ok (.aload_n 0, 1) := by decide +kernel
theorem dd_Law_law_549 : decode bb_Law_law 549 = .ok (.iload 4, 2) := by decide +kernel
theorem dd_Law_law_551 : decode bb_Law_law 551 = .ok (.iconst 2, 1) := by decide +kernel
theorem dd_Law_law_552 : decode bb_Law_law 552 = .ok (.iadd, 1) := by decide +kernel
theorem dd_Law_law_553 : decode bb_Law_law 553 = .ok (.iaload, 1) := by decide +kernel
theorem dd_Law_law_554 : decode bb_Law_law 554 = .ok (.invokevirtual 120, 3) := by decide +kernel
theorem dd_Law_law_557 : decode bb_Law_law 557 = .ok (.istore 6, 2) := by decide +kernel
theorem dd_Law_law_559 : decode bb_Law_law 559 = .ok (.aload_n 2, 1) := by decide +kernel
theorem dd_Law_law_560 : decode bb_Law_law 560 = .ok (.invokevirtual 95, 3) := by decide +kernel
theorem dd_Law_law_563 : decode bb_Law_law 563 = .ok (.iload 5, 2) := by decide +kernel
theorem dd_Law_law_565 : decode bb_Law_law 565 = .ok (.if_icmp .eq 5, 3) := by decide +kernel
theorem dd_Law_law_570 : decode bb_Law_law 570 = .ok (.iload 5, 2) := by decide +kernel
theorem dd_Law_law_572 : decode bb_Law_law 572 = .ok (.ifCond .ne 22, 3) := by decide +kernel
theorem dd_Law_law_575 : decode bb_Law_law 575 = .ok (.aload_n 3, 1) := by decide +kernel
theorem dd_Law_law_576 : decode bb_Law_law 576 = .ok (.iconst 0, 1) := by decide +kernel
theorem dd_Law_law_577 : decode bb_Law_law 577 = .ok (.laload, 1) := by decide +kernel
theorem dd_Law_law_578 : decode bb_Law_law 578 = .ok (.iload 6, 2) := by decide +kernel
theorem dd_Law_law_580 : decode bb_Law_law 580 = .ok (.ifCond .eq 7, 3) := by decide +kernel
theorem dd_Law_law_587 : decode bb_Law_law 587 = .ok (.lconst 0, 1) := by decide +kernel
theorem dd_Law_law_583 : decode bb_Law_law 583 = .ok (.lconst 1, 1) := by decide +kernel
