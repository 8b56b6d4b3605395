theorem dd_Law_law_684 : decode bb_Law_law 684 = .ok (.iadd, 1) := by decide +kernel
theorem dd_Law_law_685 : decode bb_Law_law 685 = .ok (.iaload, 1) := by decide +kernel
theorem dd_Law_law_686 : decode bb_Law_law 686 = .ok (.aload_n 0, 1) := by decide +kernel
theorem dd_Law_law_687 : decode bb_Law_law 687 = .ok (.iload 4, 2) := by decide +kernel
theorem dd_Law_law_689 : decode bb_Law_law 689 = .ok (.iconst 2, 1) := by decide +kernel
theorem dd_Law_law_690 : decode bb_Law_law 690 = .ok (.iadd, 1) := by decide +kernel
theorem dd_Law_law_691 : decode bb_Law_law 691 = .ok (.iaload, 1) := by decide +kernel
theorem dd_Law_law_692 : decode bb_Law_law 692 = .ok (.invokevirtual 126, 3) := by decide +kernel
theorem dd_Law_law_695 : decode bb_Law_law 695 = .ok (.istore 6, 2) := by decide +kernel
theorem dd_Law_law_697 : decode bb_Law_law 697 = .ok (.aload_n 2, 1) := by decide +kernel
theorem dd_Law_law_698 : decode bb_Law_law 698 = .ok (.invokevirtual 95, 3) := by decide +kernel
theorem dd_Law_law_701 : decode bb_Law_law 701 = .ok (.iload 5, 2) := by decide +kernel
theorem dd_Law_law_703 : decode bb_Law_law 703 = .ok (.if_icmp .eq 5, 3) := by decide +kernel
theorem dd_Law_law_708 : decode bb_Law_law 708 = .ok (.iload 5, 2) := by decide +kernel
theorem dd_Law_law_710 : decode bb_Law_law 710 = .ok (.ifCond .ne 15, 3) := by decide +kernel
theorem dd_Law_law_713 : decode bb_Law_law 713 = .ok (.aload_n 3, 1) := by decide +kernel
theorem dd_Law_law_714 : decode bb_Law_law 714 = .ok (.iconst 0, 1) := by decide +kernel
theorem dd_Law_law_715 : decode bb_Law_law 715 = .ok (.laload, 1) := by decide +kernel
theorem dd_Law_law_716 : decode bb_Law_law 716 = .ok (.iload 6, 2) := by decide +kernel
theorem dd_Law_law_718 : decode bb_Law_law 718 = .ok (.i2l, 1) := by decide +kernel
theorem dd_Law_law_719 : decode bb_Law_law 719 = .ok (.lcmp, 1) := by decide +kernel
theorem dd_Law_law_720 : decode bb_Law_law 720 = .ok (.ifCond .eq 5, 3) := by decide +kernel
theorem dd_Law_law_723 : decode bb_Law_law 723 = .ok (.iconst 0, 1) := by decide +kernel
theorem dd_Law_law_706 : decode bb_Law_law 706 = .ok (.iconst 0, 1) := by decide +kernel
theorem dd_Law_law_725 : decode bb_Law_law 725 = .ok (.goto 745, 3) := by decide +kernel
theorem dd_Law_law_728 : decode bb_Law_law 728 = .ok (.aload_n 1, 1) := by decide +kernel
theorem dd_Law_law_729 : decode bb_Law_law 729 = .ok (.aload_n 0, 1) := by decide +kernel
theorem dd_Law_law_730 : decode bb_Law_law 730 = .ok (.iload 4, 2) := by decide +kernel
theorem dd_Law_law_732 : decode bb_Law_law 732 = .ok (.iconst 1, 1) := by decide +kernel
theorem dd_Law_law_733 : decode bb_Law_law 733 = .ok (.iadd, 1) := by decide +kernel
theorem dd_Law_law_734 : decode bb_Law_law 734 = .ok (.iaload, 1) := by decide +kernel
theorem dd_Law_law_735 : decode bb_Law_law 735 = .ok (.aload_n 0, 1) := by decide +kernel
theorem dd_Law_law_736 : decode bb_Law_law 736 = .ok (.iload 4, 2) := by decide +kernel
theorem dd_Law_law_738 : decode bb_Law_law 738 = .ok (.iconst 2, 1) := by decide +kernel
theorem dd_Law_law_739 : decode bb_Law_law 739 = .ok (.iadd, 1) := by decide +kernel
theorem dd_Law_law_740 : decode bb_Law_law 740 = .ok (.iaload, 1) := by decide +kernel
theorem dd_Law_law_741 : decode bb_Law_law 741 = .ok (.ifCond .eq 7, 3) := by decide +kernel
theorem dd_Law_law_748 : decode bb_Law_law 748 = .ok (.iconst 0, 1) := by decide +kernel
theorem dd_Law_law_744 : decode bb_Law_law 744 = .ok (.iconst 1, 1) := by decide +kernel
theorem dd_Law_law_745 : decode bb_Law_law 745 = .ok (.goto 4, 3) := by decide +kernel
theorem dd_Law_law_749 : decode bb_Law_law 749 = .ok (.invokestatic 127, 3) := by decide +kernel
theorem dd_Law_law_752 : decode bb_Law_law 752 = .ok (.istore 5, 2) := by decide +kernel
theorem dd_Law_law_754 : decode bb_Law_law 754 = .ok (.aload_n 2, 1) := by decide +kernel
theorem dd_Law_law_755 : decode bb_Law_law 755 = .ok (.aload_n 0, 1) := by decide +kernel
theorem dd_Law_law_756 : decode bb_Law_law 756 = .ok (.iload 4, 2) := by decide +kernel
theorem dd_Law_law_758 : decode bb_Law_law 758 = .ok (.iconst 1, 1) := by decide +kernel
theorem dd_Law_law_759 : decode bb_Law_law 759 = .ok (.iadd, 1) := by decide +kernel
theorem dd_Law_law_760 : decode bb_Law_law 760 = .ok (.iaload, 1) := by decide +kernel
theorem dd_Law_law_761 : decode bb_Law_law 761 = .ok (.aload_n 0, 1) := by decide +kernel
theorem dd_Law_law_762 : decode bb_Law_law 762 = .ok (.iload 4, 2) := by decide +kernel
theorem dd_Law_law_764 : decode bb_Law_law 764 = .ok (.iconst 2, 1) := by decide +kernel
theorem dd_Law_law_765 : decode bb_Law_law 765 = .ok (.iadd, 1) := by decide +kernel
theorem dd_Law_law_766 : decode bb_Law_law 766 = .ok (.iaload, 1) := by decide +kernel
theorem dd_Law_law_767 : decode bb_Law_law 767 = .ok (.ifCond .eq 7, 3) := by decide +kernel
theorem dd_Law_law_774 : decode bb_Law_law 774 = .ok (.iconst 0, 1) := by decide +kernel
theorem dd_Law_law_770 : decode bb_Law_law 770 = .ok (.iconst 1, 1) := by decide +kernel
theorem dd_Law_law_771 : decode bb_Law_law 771 = .ok (.goto 4, 3) := by decide +kernel
theorem dd_Law_law_775 : decode bb_Law_law 775 = .ok (.invokevirtual 130, 3) := by decide +kernel
theorem dd_Law_law_778 : decode bb_Law_law 778 = .ok (.aload_n 2, 1) := by decide +kernel
theorem dd_Law_law_779 : decode bb_Law_law 779 = .ok (.invokevirtual 95, 3) := by decide +kernel
