theorem dd_Law_law_881 : decode bb_Law_law 881 = .ok (.aload_n 2, 1) := by decide +kernel
theorem dd_Law_law_882 : decode bb_Law_law 882 = .ok (.invokevirtual 95, 3) := by decide +kernel
theorem dd_Law_law_885 : decode bb_Law_law 885 = .ok (.iload 5, 2) := by decide +kernel
theorem dd_Law_law_887 : decode bb_Law_law 887 = .ok (.if_icmp .eq 5, 3) := by decide +kernel
theorem dd_Law_law_892 : decode bb_Law_law 892 = .ok (.iload 5, 2) := by decide +kernel
theorem dd_Law_law_894 : decode bb_Law_law 894 = .ok (.ifCond .ne 15, 3) := by decide +kernel
theorem dd_Law_law_897 : decode bb_Law_law 897 = .ok (.aload_n 3, 1) := by decide +kernel
theorem dd_Law_law_898 : decode bb_Law_law 898 = .ok (.iconst 0, 1) := by decide +kernel
theorem dd_Law_law_899 : decode bb_Law_law 899 = .ok (.laload, 1) := by decide +kernel
theorem dd_Law_law_900 : decode bb_Law_law 900 = .ok (.iload 6, 2) := by decide +kernel
theorem dd_Law_law_902 : decode bb_Law_law 902 = .ok (.i2l, 1) := by decide +kernel
theorem dd_Law_law_903 : decode bb_Law_law 903 = .ok (.lcmp, 1) := by decide +kernel
theorem dd_Law_law_904 : decode bb_Law_law 904 = .ok (.ifCond .eq 5, 3) := by decide +kernel
theorem dd_Law_law_907 : decode bb_Law_law 907 = .ok (.iconst 0, 1) := by decide +kernel
theorem dd_Law_law_890 : decode bb_Law_law 890 = .ok (.iconst 0, 1) := by decide +kernel
theorem dd_Law_law_909 : decode bb_Law_law 909 = .ok (.goto 561, 3) := by decide +kernel
theorem dd_Law_law_912 : decode bb_Law_law 912 = .ok (.aload_n 1, 1) := by decide +kernel
theorem dd_Law_law_913 : decode bb_Law_law 913 = .ok (.aload_n 0, 1) := by decide +kernel
theorem dd_Law_law_914 : decode bb_Law_law 914 = .ok (.iload 4, 2) := by decide +kernel
theorem dd_Law_law_916 : decode bb_Law_law 916 = .ok (.iconst 1, 1) := by decide +kernel
theorem dd_Law_law_917 : decode bb_Law_law 917 = .ok (.iadd, 1) := by decide +kernel
theorem dd_Law_law_918 : decode bb_Law_law 918 = .ok (.iaload, 1) := by decide +kernel
theorem dd_Law_law_919 : decode bb_Law_law 919 = .ok (.aload_n 3, 1) := by decide +kernel
theorem dd_Law_law_920 : decode bb_Law_law 920 = .ok (.invokestatic 137, 3) := by decide +kernel
theorem dd_Law_law_923 : decode bb_Law_law 923 = .ok (.istore 5, 2) := by decide +kernel
theorem dd_Law_law_925 : decode bb_Law_law 925 = .ok (.aload_n 2, 1) := by decide +kernel
theorem dd_Law_law_926 : decode bb_Law_law 926 = .ok (.aload_n 0, 1) := by decide +kernel
theorem dd_Law_law_927 : decode bb_Law_law 927 = .ok (.iload 4, 2) := by decide +kernel
theorem dd_Law_law_929 : decode bb_Law_law 929 = .ok (.iconst 1, 1) := by decide +kernel
theorem dd_Law_law_930 : decode bb_Law_law 930 = .ok (.iadd, 1) := by decide +kernel
theorem dd_Law_law_931 : decode bb_Law_law 931 = .ok (.iaload, 1) := by decide +kernel
theorem dd_Law_law_932 : decode bb_Law_law 932 = .ok (.invokevirtual 139, 3) := by decide +kernel
theorem dd_Law_law_935 : decode bb_Law_law 935 = .ok (.istore 6, 2) := by decide +kernel
theorem dd_Law_law_937 : decode bb_Law_law 937 = .ok (.aload_n 2, 1) := by decide +kernel
theorem dd_Law_law_938 : decode bb_Law_law 938 = .ok (.invokevirtual 95, 3) := by decide +kernel
theorem dd_Law_law_941 : decode bb_Law_law 941 = .ok (.iload 5, 2) := by decide +kernel
theorem dd_Law_law_943 : decode bb_Law_law 943 = .ok (.if_icmp .eq 5, 3) := by decide +kernel
theorem dd_Law_law_948 : decode bb_Law_law 948 = .ok (.iload 5, 2) := by decide +kernel
theorem dd_Law_law_950 : decode bb_Law_law 950 = .ok (.ifCond .ne 22, 3) := by decide +kernel
theorem dd_Law_law_953 : decode bb_Law_law 953 = .ok (.aload_n 3, 1) := by decide +kernel
theorem dd_Law_law_954 : decode bb_Law_law 954 = .ok (.iconst 0, 1) := by decide +kernel
theorem dd_Law_law_955 : decode bb_Law_law 955 = .ok (.laload, 1) := by decide +kernel
theorem dd_Law_law_956 : decode bb_Law_law 956 = .ok (.iload 6, 2) := by decide +kernel
theorem dd_Law_law_958 : decode bb_Law_law 958 = .ok (.ifCond .eq 7, 3) := by decide +kernel
theorem dd_Law_law_965 : decode bb_Law_law 965 = .ok (.lconst 0, 1) := by decide +kernel
theorem dd_Law_law_961 : decode bb_Law_law 961 = .ok (.lconst 1, 1) := by decide +kernel
theorem dd_Law_law_962 : decode bb_Law_law 962 = .ok (.goto 4, 3) := by decide +kernel
theorem dd_Law_law_946 : decode bb_Law_law 946 = .ok (.iconst 0, 1) := by decide +kernel
theorem dd_Law_law_966 : decode bb_Law_law 966 = .ok (.lcmp, 1) := by decide +kernel
theorem dd_Law_law_967 : decode bb_Law_law 967 = .ok (.ifCond .eq 5, 3) := by decide +kernel
theorem dd_Law_law_970 : decode bb_Law_law 970 = .ok (.iconst 0, 1) := by decide +kernel
theorem dd_Law_law_972 : decode bb_Law_law 972 = .ok (.goto 498, 3) := by decide +kernel
theorem dd_Law_law_975 : decode bb_Law_law 975 = .ok (.aload_n 1, 1) := by decide +kernel
theorem dd_Law_law_976 : decode bb_Law_law 976 = .ok (.aload_n 0, 1) := by decide +kernel
theorem dd_Law_law_977 : decode bb_Law_law 977 = .ok (.iload 4, 2) := by decide +kernel
theorem dd_Law_law_979 : decode bb_Law_law 979 = .ok (.iconst 1, 1) := by decide +kernel
theorem dd_Law_law_980 : decode bb_Law_law 980 = .ok (.iadd, 1) := by decide +kernel
theorem dd_Law_law_981 : decode bb_Law_law 981 = .ok (.iaload, 1) := by decide +kernel
theorem dd_Law_law_982 : decode bb_Law_law 982 = .ok (.aload_n 3, 1) := by decide +kernel
theorem dd_Law_law_983 : decode bb_Law_law 983 = .ok (.invokestatic 140, 3) := by decide +kernel
