theorem dd_Law_law_782 : decode bb_Law_law 782 = .ok (.iload 5, 2) := by decide +kernel
theorem dd_Law_law_784 : decode bb_Law_law 784 = .ok (.if_icmp .eq 5, 3) := by decide +kernel
theorem dd_Law_law_789 : decode bb_Law_law 789 = .ok (.goto 681, 3) := by decide +kernel
theorem dd_Law_law_787 : decode bb_Law_law 787 = .ok (.iconst 0, 1) := by decide +kernel
theorem dd_Law_law_792 : decode bb_Law_law 792 = .ok (.aload_n 1, 1) := by decide +kernel
theorem dd_Law_law_793 : decode bb_Law_law 793 = .ok (.aload_n 0, 1) := by decide +kernel
theorem dd_Law_law_794 : decode bb_Law_law 794 = .ok (.iload 4, 2) := by decide +kernel
theorem dd_Law_law_796 : decode bb_Law_law 796 = .ok (.iconst 1, 1) := by decide +kernel
theorem dd_Law_law_797 : decode bb_Law_law 797 = .ok (.iadd, 1) := by decide +kernel
theorem dd_Law_law_798 : decode bb_Law_law 798 = .ok (.iaload, 1) := by decide +kernel
theorem dd_Law_law_799 : decode bb_Law_law 799 = .ok (.aload_n 0, 1) := by decide +kernel
theorem dd_Law_law_800 : decode bb_Law_law 800 = .ok (.iload 4, 2) := by decide +kernel
theorem dd_Law_law_802 : decode bb_Law_law 802 = .ok (.iconst 2, 1) := by decide +kernel
theorem dd_Law_law_803 : decode bb_Law_law 803 = .ok (.iadd, 1) := by decide +kernel
theorem dd_Law_law_804 : decode bb_Law_law 804 = .ok (.iaload, 1) := by decide +kernel
theorem dd_Law_law_805 : decode bb_Law_law 805 = .ok (.ifCond .eq 7, 3) := by decide +kernel
theorem dd_Law_law_812 : decode bb_Law_law 812 = .ok (.iconst 0, 1) := by decide +kernel
theorem dd_Law_law_808 : decode bb_Law_law 808 = .ok (.iconst 1, 1) := by decide +kernel
theorem dd_Law_law_809 : decode bb_Law_law 809 = .ok (.goto 4, 3) := by decide +kernel
theorem dd_Law_law_813 : decode bb_Law_law 813 = .ok (.invokestatic 131, 3) := by decide +kernel
theorem dd_Law_law_816 : decode bb_Law_law 816 = .ok (.istore 5, 2) := by decide +kernel
theorem dd_Law_law_818 : decode bb_Law_law 818 = .ok (.aload_n 2, 1) := by decide +kernel
theorem dd_Law_law_819 : decode bb_Law_law 819 = .ok (.aload_n 0, 1) := by decide +kernel
theorem dd_Law_law_820 : decode bb_Law_law 820 = .ok (.iload 4, 2) := by decide +kernel
theorem dd_Law_law_822 : decode bb_Law_law 822 = .ok (.iconst 1, 1) := by decide +kernel
theorem dd_Law_law_823 : decode bb_Law_law 823 = .ok (.iadd, 1) := by decide +kernel
theorem dd_Law_law_824 : decode bb_Law_law 824 = .ok (.iaload, 1) := by decide +kernel
theorem dd_Law_law_825 : decode bb_Law_law 825 = .ok (.aload_n 0, 1) := by decide +kernel
theorem dd_Law_law_826 : decode bb_Law_law 826 = .ok (.iload 4, 2) := by decide +kernel
theorem dd_Law_law_828 : decode bb_Law_law 828 = .ok (.iconst 2, 1) := by decide +kernel
theorem dd_Law_law_829 : decode bb_Law_law 829 = .ok (.iadd, 1) := by decide +kernel
theorem dd_Law_law_830 : decode bb_Law_law 830 = .ok (.iaload, 1) := by decide +kernel
theorem dd_Law_law_831 : decode bb_Law_law 831 = .ok (.ifCond .eq 7, 3) := by decide +kernel
theorem dd_Law_law_838 : decode bb_Law_law 838 = .ok (.iconst 0, 1) := by decide +kernel
theorem dd_Law_law_834 : decode bb_Law_law 834 = .ok (.iconst 1, 1) := by decide +kernel
theorem dd_Law_law_835 : decode bb_Law_law 835 = .ok (.goto 4, 3) := by decide +kernel
theorem dd_Law_law_839 : decode bb_Law_law 839 = .ok (.invokevirtual 133, 3) := by decide +kernel
theorem dd_Law_law_842 : decode bb_Law_law 842 = .ok (.aload_n 2, 1) := by decide +kernel
theorem dd_Law_law_843 : decode bb_Law_law 843 = .ok (.invokevirtual 95, 3) := by decide +kernel
theorem dd_Law_law_846 : decode bb_Law_law 846 = .ok (.iload 5, 2) := by decide +kernel
theorem dd_Law_law_848 : decode bb_Law_law 848 = .ok (.if_icmp .eq 5, 3) := by decide +kernel
theorem dd_Law_law_853 : decode bb_Law_law 853 = .ok (.goto 617, 3) := by decide +kernel
theorem dd_Law_law_851 : decode bb_Law_law 851 = .ok (.iconst 0, 1) := by decide +kernel
theorem dd_Law_law_856 : decode bb_Law_law 856 = .ok (.aload_n 1, 1) := by decide +kernel
theorem dd_Law_law_857 : decode bb_Law_law 857 = .ok (.aload_n 0, 1) := by decide +kernel
theorem dd_Law_law_858 : decode bb_Law_law 858 = .ok (.iload 4, 2) := by decide +kernel
theorem dd_Law_law_860 : decode bb_Law_law 860 = .ok (.iconst 1, 1) := by decide +kernel
theorem dd_Law_law_861 : decode bb_Law_law 861 = .ok (.iadd, 1) := by decide +kernel
theorem dd_Law_law_862 : decode bb_Law_law 862 = .ok (.iaload, 1) := by decide +kernel
theorem dd_Law_law_863 : decode bb_Law_law 863 = .ok (.aload_n 3, 1) := by decide +kernel
theorem dd_Law_law_864 : decode bb_Law_law 864 = .ok (.invokestatic 134, 3) := by decide +kernel
theorem dd_Law_law_867 : decode bb_Law_law 867 = .ok (.istore 5, 2) := by decide +kernel
theorem dd_Law_law_869 : decode bb_Law_law 869 = .ok (.aload_n 2, 1) := by decide +kernel
theorem dd_Law_law_870 : decode bb_Law_law 870 = .ok (.aload_n 0, 1) := by decide +kernel
theorem dd_Law_law_871 : decode bb_Law_law 871 = .ok (.iload 4, 2) := by decide +kernel
theorem dd_Law_law_873 : decode bb_Law_law 873 = .ok (.iconst 1, 1) := by decide +kernel
theorem dd_Law_law_874 : decode bb_Law_law 874 = .ok (.iadd, 1) := by decide +kernel
theorem dd_Law_law_875 : decode bb_Law_law 875 = .ok (.iaload, 1) := by decide +kernel
theorem dd_Law_law_876 : decode bb_Law_law 876 = .ok (.invokevirtual 136, 3) := by decide +kernel
theorem dd_Law_law_879 : decode bb_Law_law 879 = .ok (.istore 6, 2) := by decide +kernel
