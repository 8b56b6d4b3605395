theorem dd_Law_law_986 : decode bb_Law_law 986 = .ok (.istore 5, 2) := by decide +kernel
theorem dd_Law_law_988 : decode bb_Law_law 988 = .ok (.aload_n 2, 1) := by decide +kernel
theorem dd_Law_law_989 : decode bb_Law_law 989 = .ok (.aload_n 0, 1) := by decide +kernel
theorem dd_Law_law_990 : decode bb_Law_law 990 = .ok (.iload 4, 2) := by decide +kernel
theorem dd_Law_law_992 : decode bb_Law_law 992 = .ok (.iconst 1, 1) := by decide +kernel
theorem dd_Law_law_993 : decode bb_Law_law 993 = .ok (.iadd, 1) := by decide +kernel
theorem dd_Law_law_994 : decode bb_Law_law 994 = .ok (.iaload, 1) := by decide +kernel
theorem dd_Law_law_995 : decode bb_Law_law 995 = .ok (.invokevirtual 142, 3) := by decide +kernel
theorem dd_Law_law_998 : decode bb_Law_law 998 = .ok (.istore 6, 2) := by decide +kernel
theorem dd_Law_law_1000 : decode bb_Law_law 1000 = .ok (.aload_n 2, 1) := by decide +kernel
theorem dd_Law_law_1001 : decode bb_Law_law 1001 = .ok (.invokevirtual 95, 3) := by decide +kernel
theorem dd_Law_law_1004 : decode bb_Law_law 1004 = .ok (.iload 5, 2) := by decide +kernel
theorem dd_Law_law_1006 : decode bb_Law_law 1006 = .ok (.if_icmp .eq 5, 3) := by decide +kernel
theorem dd_Law_law_1011 : decode bb_Law_law 1011 = .ok (.iload 5, 2) := by decide +kernel
theorem dd_Law_law_1013 : decode bb_Law_law 1013 = .ok (.ifCond .ne 15, 3) := by decide +kernel
theorem dd_Law_law_1016 : decode bb_Law_law 1016 = .ok (.aload_n 3, 1) := by decide +kernel
theorem dd_Law_law_1017 : decode bb_Law_law 1017 = .ok (.iconst 0, 1) := by decide +kernel
theorem dd_Law_law_1018 : decode bb_Law_law 1018 = .ok (.laload, 1) := by decide +kernel
theorem dd_Law_law_1019 : decode bb_Law_law 1019 = .ok (.iload 6, 2) := by decide +kernel
theorem dd_Law_law_1021 : decode bb_Law_law 1021 = .ok (.i2l, 1) := by decide +kernel
theorem dd_Law_law_1022 : decode bb_Law_law 1022 = .ok (.lcmp, 1) := by decide +kernel
theorem dd_Law_law_1023 : decode bb_Law_law 1023 = .ok (.ifCond .eq 5, 3) := by decide +kernel
theorem dd_Law_law_1026 : decode bb_Law_law 1026 = .ok (.iconst 0, 1) := by decide +kernel
theorem dd_Law_law_1009 : decode bb_Law_law 1009 = .ok (.iconst 0, 1) := by decide +kernel
theorem dd_Law_law_1028 : decode bb_Law_law 1028 = .ok (.goto 442, 3) := by decide +kernel
theorem dd_Law_law_1031 : decode bb_Law_law 1031 = .ok (.aload_n 1, 1) := by decide +kernel
theorem dd_Law_law_1032 : decode bb_Law_law 1032 = .ok (.invokevirtual 143, 3) := by decide +kernel
theorem dd_Law_law_1035 : decode bb_Law_law 1035 = .ok (.aload_n 2, 1) := by decide +kernel
theorem dd_Law_law_1036 : decode bb_Law_law 1036 = .ok (.invokevirtual 146, 3) := by decide +kernel
theorem dd_Law_law_1039 : decode bb_Law_law 1039 = .ok (.if_icmp .eq 431, 3) := by decide +kernel
theorem dd_Law_law_1042 : decode bb_Law_law 1042 = .ok (.iconst 0, 1) := by decide +kernel
theorem dd_Law_law_1044 : decode bb_Law_law 1044 = .ok (.aload_n 1, 1) := by decide +kernel
theorem dd_Law_law_1045 : decode bb_Law_law 1045 = .ok (.aload_n 0, 1) := by decide +kernel
theorem dd_Law_law_1046 : decode bb_Law_law 1046 = .ok (.iload 4, 2) := by decide +kernel
theorem dd_Law_law_1048 : decode bb_Law_law 1048 = .ok (.iconst 1, 1) := by decide +kernel
theorem dd_Law_law_1049 : decode bb_Law_law 1049 = .ok (.iadd, 1) := by decide +kernel
theorem dd_Law_law_1050 : decode bb_Law_law 1050 = .ok (.iaload, 1) := by decide +kernel
theorem dd_Law_law_1051 : decode bb_Law_law 1051 = .ok (.aload_n 3, 1) := by decide +kernel
theorem dd_Law_law_1052 : decode bb_Law_law 1052 = .ok (.invokestatic 147, 3) := by decide +kernel
theorem dd_Law_law_1055 : decode bb_Law_law 1055 = .ok (.istore 5, 2) := by decide +kernel
theorem dd_Law_law_1057 : decode bb_Law_law 1057 = .ok (.aload_n 2, 1) := by decide +kernel
theorem dd_Law_law_1058 : decode bb_Law_law 1058 = .ok (.aload_n 0, 1) := by decide +kernel
theorem dd_Law_law_1059 : decode bb_Law_law 1059 = .ok (.iload 4, 2) := by decide +kernel
theorem dd_Law_law_1061 : decode bb_Law_law 1061 = .ok (.iconst 1, 1) := by decide +kernel
theorem dd_Law_law_1062 : decode bb_Law_law 1062 = .ok (.iadd, 1) := by decide +kernel
theorem dd_Law_law_1063 : decode bb_Law_law 1063 = .ok (.iaload, 1) := by decide +kernel
theorem dd_Law_law_1064 : decode bb_Law_law 1064 = .ok (.invokevirtual 149, 3) := by decide +kernel
theorem dd_Law_law_1067 : decode bb_Law_law 1067 = .ok (.istore 6, 2) := by decide +kernel
theorem dd_Law_law_1069 : decode bb_Law_law 1069 = .ok (.aload_n 2, 1) := by decide +kernel
theorem dd_Law_law_1070 : decode bb_Law_law 1070 = .ok (.invokevirtual 95, 3) := by decide +kernel
theorem dd_Law_law_1073 : decode bb_Law_law 1073 = .ok (.iload 5, 2) := by decide +kernel
theorem dd_Law_law_1075 : decode bb_Law_law 1075 = .ok (.if_icmp .eq 5, 3) := by decide +kernel
theorem dd_Law_law_1080 : decode bb_Law_law 1080 = .ok (.iload 5, 2) := by decide +kernel
theorem dd_Law_law_1082 : decode bb_Law_law 1082 = .ok (.ifCond .ne 15, 3) := by decide +kernel
theorem dd_Law_law_1085 : decode bb_Law_law 1085 = .ok (.aload_n 3, 1) := by decide +kernel
theorem dd_Law_law_1086 : decode bb_Law_law 1086 = .ok (.iconst 0, 1) := by decide +kernel
theorem dd_Law_law_1087 : decode bb_Law_law 1087 = .ok (.laload, 1) := by decide +kernel
theorem dd_Law_law_1088 : decode bb_Law_law 1088 = .ok (.iload 6, 2) := by decide +kernel
theorem dd_Law_law_1090 : decode bb_Law_law 1090 = .ok (.i2l, 1) := by decide +kernel
theorem dd_Law_law_1091 : decode bb_Law_law 1091 = .ok (.lcmp, 1) := by decide +kernel
