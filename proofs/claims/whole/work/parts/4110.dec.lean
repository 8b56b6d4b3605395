theorem dd_Law_law_1092 : decode bb_Law_law 1092 = .ok (.ifCond .eq 5, 3) := by decide +kernel
theorem dd_Law_law_1095 : decode bb_Law_law 1095 = .ok (.iconst 0, 1) := by decide +kernel
theorem dd_Law_law_1078 : decode bb_Law_law 1078 = .ok (.iconst 0, 1) := by decide +kernel
theorem dd_Law_law_1097 : decode bb_Law_law 1097 = .ok (.goto 373, 3) := by decide +kernel
theorem dd_Law_law_1100 : decode bb_Law_law 1100 = .ok (.aload_n 1, 1) := by decide +kernel
theorem dd_Law_law_1101 : decode bb_Law_law 1101 = .ok (.aload_n 0, 1) := by decide +kernel
theorem dd_Law_law_1102 : decode bb_Law_law 1102 = .ok (.iload 4, 2) := by decide +kernel
theorem dd_Law_law_1104 : decode bb_Law_law 1104 = .ok (.iconst 1, 1) := by decide +kernel
theorem dd_Law_law_1105 : decode bb_Law_law 1105 = .ok (.iadd, 1) := by decide +kernel
theorem dd_Law_law_1106 : decode bb_Law_law 1106 = .ok (.iaload, 1) := by decide +kernel
theorem dd_Law_law_1107 : decode bb_Law_law 1107 = .ok (.aload_n 3, 1) := by decide +kernel
theorem dd_Law_law_1108 : decode bb_Law_law 1108 = .ok (.invokestatic 150, 3) := by decide +kernel
theorem dd_Law_law_1111 : decode bb_Law_law 1111 = .ok (.istore 5, 2) := by decide +kernel
theorem dd_Law_law_1113 : decode bb_Law_law 1113 = .ok (.aload_n 2, 1) := by decide +kernel
theorem dd_Law_law_1114 : decode bb_Law_law 1114 = .ok (.aload_n 0, 1) := by decide +kernel
theorem dd_Law_law_1115 : decode bb_Law_law 1115 = .ok (.iload 4, 2) := by decide +kernel
theorem dd_Law_law_1117 : decode bb_Law_law 1117 = .ok (.iconst 1, 1) := by decide +kernel
theorem dd_Law_law_1118 : decode bb_Law_law 1118 = .ok (.iadd, 1) := by decide +kernel
theorem dd_Law_law_1119 : decode bb_Law_law 1119 = .ok (.iaload, 1) := by decide +kernel
theorem dd_Law_law_1120 : decode bb_Law_law 1120 = .ok (.invokevirtual 152, 3) := by decide +kernel
theorem dd_Law_law_1123 : decode bb_Law_law 1123 = .ok (.istore 6, 2) := by decide +kernel
theorem dd_Law_law_1125 : decode bb_Law_law 1125 = .ok (.aload_n 2, 1) := by decide +kernel
theorem dd_Law_law_1126 : decode bb_Law_law 1126 = .ok (.invokevirtual 95, 3) := by decide +kernel
theorem dd_Law_law_1129 : decode bb_Law_law 1129 = .ok (.iload 5, 2) := by decide +kernel
theorem dd_Law_law_1131 : decode bb_Law_law 1131 = .ok (.if_icmp .eq 5, 3) := by decide +kernel
theorem dd_Law_law_1136 : decode bb_Law_law 1136 = .ok (.iload 5, 2) := by decide +kernel
theorem dd_Law_law_1138 : decode bb_Law_law 1138 = .ok (.ifCond .ne 15, 3) := by decide +kernel
theorem dd_Law_law_1141 : decode bb_Law_law 1141 = .ok (.aload_n 3, 1) := by decide +kernel
theorem dd_Law_law_1142 : decode bb_Law_law 1142 = .ok (.iconst 0, 1) := by decide +kernel
theorem dd_Law_law_1143 : decode bb_Law_law 1143 = .ok (.laload, 1) := by decide +kernel
theorem dd_Law_law_1144 : decode bb_Law_law 1144 = .ok (.iload 6, 2) := by decide +kernel
theorem dd_Law_law_1146 : decode bb_Law_law 1146 = .ok (.i2l, 1) := by decide +kernel
theorem dd_Law_law_1147 : decode bb_Law_law 1147 = .ok (.lcmp, 1) := by decide +kernel
theorem dd_Law_law_1148 : decode bb_Law_law 1148 = .ok (.ifCond .eq 5, 3) := by decide +kernel
theorem dd_Law_law_1151 : decode bb_Law_law 1151 = .ok (.iconst 0, 1) := by decide +kernel
theorem dd_Law_law_1134 : decode bb_Law_law 1134 = .ok (.iconst 0, 1) := by decide +kernel
theorem dd_Law_law_1153 : decode bb_Law_law 1153 = .ok (.goto 317, 3) := by decide +kernel
theorem dd_Law_law_1156 : decode bb_Law_law 1156 = .ok (.aload_n 1, 1) := by decide +kernel
theorem dd_Law_law_1157 : decode bb_Law_law 1157 = .ok (.aload_n 0, 1) := by decide +kernel
theorem dd_Law_law_1158 : decode bb_Law_law 1158 = .ok (.iload 4, 2) := by decide +kernel
theorem dd_Law_law_1160 : decode bb_Law_law 1160 = .ok (.iconst 1, 1) := by decide +kernel
theorem dd_Law_law_1161 : decode bb_Law_law 1161 = .ok (.iadd, 1) := by decide +kernel
theorem dd_Law_law_1162 : decode bb_Law_law 1162 = .ok (.iaload, 1) := by decide +kernel
theorem dd_Law_law_1163 : decode bb_Law_law 1163 = .ok (.aload_n 3, 1) := by decide +kernel
theorem dd_Law_law_1164 : decode bb_Law_law 1164 = .ok (.invokestatic 153, 3) := by decide +kernel
theorem dd_Law_law_1167 : decode bb_Law_law 1167 = .ok (.istore 5, 2) := by decide +kernel
theorem dd_Law_law_1169 : decode bb_Law_law 1169 = .ok (.aload_n 2, 1) := by decide +kernel
theorem dd_Law_law_1170 : decode bb_Law_law 1170 = .ok (.aload_n 0, 1) := by decide +kernel
theorem dd_Law_law_1171 : decode bb_Law_law 1171 = .ok (.iload 4, 2) := by decide +kernel
theorem dd_Law_law_1173 : decode bb_Law_law 1173 = .ok (.iconst 1, 1) := by decide +kernel
theorem dd_Law_law_1174 : decode bb_Law_law 1174 = .ok (.iadd, 1) := by decide +kernel
theorem dd_Law_law_1175 : decode bb_Law_law 1175 = .ok (.iaload, 1) := by decide +kernel
theorem dd_Law_law_1176 : decode bb_Law_law 1176 = .ok (.invokevirtual 155, 3) := by decide +kernel
theorem dd_Law_law_1179 : decode bb_Law_law 1179 = .ok (.lstore 6, 2) := by decide +kernel
theorem dd_Law_law_1181 : decode bb_Law_law 1181 = .ok (.aload_n 2, 1) := by decide +kernel
theorem dd_Law_law_1182 : decode bb_Law_law 1182 = .ok (.invokevirtual 95, 3) := by decide +kernel
theorem dd_Law_law_1185 : decode bb_Law_law 1185 = .ok (.iload 5, 2) := by decide +kernel
theorem dd_Law_law_1187 : decode bb_Law_law 1187 = .ok (.if_icmp .eq 5, 3) := by decide +kernel
theorem dd_Law_law_1192 : decode bb_Law_law 1192 = .ok (.iload 5, 2) := by decide +kernel
theorem dd_Law_law_1194 : decode bb_Law_law 1194 = .ok (.ifCond .ne 14, 3) := by decide +kernel
