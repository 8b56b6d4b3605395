theorem dd_Law_law_584 : decode bb_Law_law 584 = .ok (.goto 4, 3) := by decide +kernel
theorem dd_Law_law_568 : decode bb_Law_law 568 = .ok (.iconst 0, 1) := by decide +kernel
theorem dd_Law_law_588 : decode bb_Law_law 588 = .ok (.lcmp, 1) := by decide +kernel
theorem dd_Law_law_589 : decode bb_Law_law 589 = .ok (.ifCond .eq 5, 3) := by decide +kernel
theorem dd_Law_law_592 : decode bb_Law_law 592 = .ok (.iconst 0, 1) := by decide +kernel
theorem dd_Law_law_594 : decode bb_Law_law 594 = .ok (.goto 876, 3) := by decide +kernel
theorem dd_Law_law_597 : decode bb_Law_law 597 = .ok (.aload_n 1, 1) := by decide +kernel
theorem dd_Law_law_598 : decode bb_Law_law 598 = .ok (.aload_n 0, 1) := by decide +kernel
theorem dd_Law_law_599 : decode bb_Law_law 599 = .ok (.iload 4, 2) := by decide +kernel
theorem dd_Law_law_601 : decode bb_Law_law 601 = .ok (.iconst 1, 1) := by decide +kernel
theorem dd_Law_law_602 : decode bb_Law_law 602 = .ok (.iadd, 1) := by decide +kernel
theorem dd_Law_law_603 : decode bb_Law_law 603 = .ok (.iaload, 1) := by decide +kernel
theorem dd_Law_law_604 : decode bb_Law_law 604 = .ok (.aload_n 3, 1) := by decide +kernel
theorem dd_Law_law_605 : decode bb_Law_law 605 = .ok (.invokestatic 121, 3) := by decide +kernel
theorem dd_Law_law_608 : decode bb_Law_law 608 = .ok (.istore 5, 2) := by decide +kernel
theorem dd_Law_law_610 : decode bb_Law_law 610 = .ok (.aload_n 2, 1) := by decide +kernel
theorem dd_Law_law_611 : decode bb_Law_law 611 = .ok (.aload_n 0, 1) := by decide +kernel
theorem dd_Law_law_612 : decode bb_Law_law 612 = .ok (.iload 4, 2) := by decide +kernel
theorem dd_Law_law_614 : decode bb_Law_law 614 = .ok (.iconst 1, 1) := by decide +kernel
theorem dd_Law_law_615 : decode bb_Law_law 615 = .ok (.iadd, 1) := by decide +kernel
theorem dd_Law_law_616 : decode bb_Law_law 616 = .ok (.iaload, 1) := by decide +kernel
theorem dd_Law_law_617 : decode bb_Law_law 617 = .ok (.invokevirtual 123, 3) := by decide +kernel
theorem dd_Law_law_620 : decode bb_Law_law 620 = .ok (.istore 6, 2) := by decide +kernel
theorem dd_Law_law_622 : decode bb_Law_law 622 = .ok (.aload_n 2, 1) := by decide +kernel
theorem dd_Law_law_623 : decode bb_Law_law 623 = .ok (.invokevirtual 95, 3) := by decide +kernel
theorem dd_Law_law_626 : decode bb_Law_law 626 = .ok (.iload 5, 2) := by decide +kernel
theorem dd_Law_law_628 : decode bb_Law_law 628 = .ok (.if_icmp .eq 5, 3) := by decide +kernel
theorem dd_Law_law_633 : decode bb_Law_law 633 = .ok (.iload 5, 2) := by decide +kernel
theorem dd_Law_law_635 : decode bb_Law_law 635 = .ok (.ifCond .ne 22, 3) := by decide +kernel
theorem dd_Law_law_638 : decode bb_Law_law 638 = .ok (.aload_n 3, 1) := by decide +kernel
theorem dd_Law_law_639 : decode bb_Law_law 639 = .ok (.iconst 0, 1) := by decide +kernel
theorem dd_Law_law_640 : decode bb_Law_law 640 = .ok (.laload, 1) := by decide +kernel
theorem dd_Law_law_641 : decode bb_Law_law 641 = .ok (.iload 6, 2) := by decide +kernel
theorem dd_Law_law_643 : decode bb_Law_law 643 = .ok (.ifCond .eq 7, 3) := by decide +kernel
theorem dd_Law_law_650 : decode bb_Law_law 650 = .ok (.lconst 0, 1) := by decide +kernel
theorem dd_Law_law_646 : decode bb_Law_law 646 = .ok (.lconst 1, 1) := by decide +kernel
theorem dd_Law_law_647 : decode bb_Law_law 647 = .ok (.goto 4, 3) := by decide +kernel
theorem dd_Law_law_631 : decode bb_Law_law 631 = .ok (.iconst 0, 1) := by decide +kernel
theorem dd_Law_law_651 : decode bb_Law_law 651 = .ok (.lcmp, 1) := by decide +kernel
theorem dd_Law_law_652 : decode bb_Law_law 652 = .ok (.ifCond .eq 5, 3) := by decide +kernel
theorem dd_Law_law_655 : decode bb_Law_law 655 = .ok (.iconst 0, 1) := by decide +kernel
theorem dd_Law_law_657 : decode bb_Law_law 657 = .ok (.goto 813, 3) := by decide +kernel
theorem dd_Law_law_660 : decode bb_Law_law 660 = .ok (.aload_n 1, 1) := by decide +kernel
theorem dd_Law_law_661 : decode bb_Law_law 661 = .ok (.aload_n 0, 1) := by decide +kernel
theorem dd_Law_law_662 : decode bb_Law_law 662 = .ok (.iload 4, 2) := by decide +kernel
theorem dd_Law_law_664 : decode bb_Law_law 664 = .ok (.iconst 1, 1) := by decide +kernel
theorem dd_Law_law_665 : decode bb_Law_law 665 = .ok (.iadd, 1) := by decide +kernel
theorem dd_Law_law_666 : decode bb_Law_law 666 = .ok (.iaload, 1) := by decide +kernel
theorem dd_Law_law_667 : decode bb_Law_law 667 = .ok (.aload_n 0, 1) := by decide +kernel
theorem dd_Law_law_668 : decode bb_Law_law 668 = .ok (.iload 4, 2) := by decide +kernel
theorem dd_Law_law_670 : decode bb_Law_law 670 = .ok (.iconst 2, 1) := by decide +kernel
theorem dd_Law_law_671 : decode bb_Law_law 671 = .ok (.iadd, 1) := by decide +kernel
theorem dd_Law_law_672 : decode bb_Law_law 672 = .ok (.iaload, 1) := by decide +kernel
theorem dd_Law_law_673 : decode bb_Law_law 673 = .ok (.aload_n 3, 1) := by decide +kernel
theorem dd_Law_law_674 : decode bb_Law_law 674 = .ok (.invokestatic 124, 3) := by decide +kernel
theorem dd_Law_law_677 : decode bb_Law_law 677 = .ok (.istore 5, 2) := by decide +kernel
theorem dd_Law_law_679 : decode bb_Law_law 679 = .ok (.aload_n 2, 1) := by decide +kernel
theorem dd_Law_law_680 : decode bb_Law_law 680 = .ok (.aload_n 0, 1) := by decide +kernel
theorem dd_Law_law_681 : decode bb_Law_law 681 = .ok (.iload 4, 2) := by decide +kernel
theorem dd_Law_law_683 : decode bb_Law_law 683 = .ok (.iconst 1, 1) := by decide +kernel
