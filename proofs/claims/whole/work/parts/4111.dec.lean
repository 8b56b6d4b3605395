theorem dd_Law_law_1197 : decode bb_Law_law 1197 = .ok (.aload_n 3, 1) := by decide +kernel
theorem dd_Law_law_1198 : decode bb_Law_law 1198 = .ok (.iconst 0, 1) := by decide +kernel
theorem dd_Law_law_1199 : decode bb_Law_law 1199 = .ok (.laload, 1) := by decide +kernel
theorem dd_Law_law_1200 : decode bb_Law_law 1200 = .ok (.lload 6, 2) := by decide +kernel
theorem dd_Law_law_1202 : decode bb_Law_law 1202 = .ok (.lcmp, 1) := by decide +kernel
theorem dd_Law_law_1203 : decode bb_Law_law 1203 = .ok (.ifCond .eq 5, 3) := by decide +kernel
theorem dd_Law_law_1206 : decode bb_Law_law 1206 = .ok (.iconst 0, 1) := by decide +kernel
theorem dd_Law_law_1190 : decode bb_Law_law 1190 = .ok (.iconst 0, 1) := by decide +kernel
theorem dd_Law_law_1208 : decode bb_Law_law 1208 = .ok (.goto 262, 3) := by decide +kernel
theorem dd_Law_law_1211 : decode bb_Law_law 1211 = .ok (.aload_n 1, 1) := by decide +kernel
theorem dd_Law_law_1212 : decode bb_Law_law 1212 = .ok (.aload_n 0, 1) := by decide +kernel
theorem dd_Law_law_1213 : decode bb_Law_law 1213 = .ok (.iload 4, 2) := by decide +kernel
theorem dd_Law_law_1215 : decode bb_Law_law 1215 = .ok (.iconst 1, 1) := by decide +kernel
theorem dd_Law_law_1216 : decode bb_Law_law 1216 = .ok (.iadd, 1) := by decide +kernel
theorem dd_Law_law_1217 : decode bb_Law_law 1217 = .ok (.iaload, 1) := by decide +kernel
theorem dd_Law_law_1218 : decode bb_Law_law 1218 = .ok (.aload_n 0, 1) := by decide +kernel
theorem dd_Law_law_1219 : decode bb_Law_law 1219 = .ok (.iload 4, 2) := by decide +kernel
theorem dd_Law_law_1221 : decode bb_Law_law 1221 = .ok (.iconst 2, 1) := by decide +kernel
theorem dd_Law_law_1222 : decode bb_Law_law 1222 = .ok (.iadd, 1) := by decide +kernel
theorem dd_Law_law_1223 : decode bb_Law_law 1223 = .ok (.iaload, 1) := by decide +kernel
theorem dd_Law_law_1224 : decode bb_Law_law 1224 = .ok (.aload_n 3, 1) := by decide +kernel
theorem dd_Law_law_1225 : decode bb_Law_law 1225 = .ok (.invokestatic 156, 3) := by decide +kernel
theorem dd_Law_law_1228 : decode bb_Law_law 1228 = .ok (.istore 5, 2) := by decide +kernel
theorem dd_Law_law_1230 : decode bb_Law_law 1230 = .ok (.aload_n 2, 1) := by decide +kernel
theorem dd_Law_law_1231 : decode bb_Law_law 1231 = .ok (.aload_n 0, 1) := by decide +kernel
theorem dd_Law_law_1232 : decode bb_Law_law 1232 = .ok (.iload 4, 2) := by decide +kernel
theorem dd_Law_law_1234 : decode bb_Law_law 1234 = .ok (.iconst 1, 1) := by decide +kernel
theorem dd_Law_law_1235 : decode bb_Law_law 1235 = .ok (.iadd, 1) := by decide +kernel
theorem dd_Law_law_1236 : decode bb_Law_law 1236 = .ok (.iaload, 1) := by decide +kernel
theorem dd_Law_law_1237 : decode bb_Law_law 1237 = .ok (.aload_n 0, 1) := by decide +kernel
theorem dd_Law_law_1238 : decode bb_Law_law 1238 = .ok (.iload 4, 2) := by decide +kernel
theorem dd_Law_law_1240 : decode bb_Law_law 1240 = .ok (.iconst 2, 1) := by decide +kernel
theorem dd_Law_law_1241 : decode bb_Law_law 1241 = .ok (.iadd, 1) := by decide +kernel
theorem dd_Law_law_1242 : decode bb_Law_law 1242 = .ok (.iaload, 1) := by decide +kernel
theorem dd_Law_law_1243 : decode bb_Law_law 1243 = .ok (.invokevirtual 158, 3) := by decide +kernel
theorem dd_Law_law_1246 : decode bb_Law_law 1246 = .ok (.istore 6, 2) := by decide +kernel
theorem dd_Law_law_1248 : decode bb_Law_law 1248 = .ok (.aload_n 2, 1) := by decide +kernel
theorem dd_Law_law_1249 : decode bb_Law_law 1249 = .ok (.invokevirtual 95, 3) := by decide +kernel
theorem dd_Law_law_1252 : decode bb_Law_law 1252 = .ok (.iload 5, 2) := by decide +kernel
theorem dd_Law_law_1254 : decode bb_Law_law 1254 = .ok (.if_icmp .eq 5, 3) := by decide +kernel
theorem dd_Law_law_1259 : decode bb_Law_law 1259 = .ok (.iload 5, 2) := by decide +kernel
theorem dd_Law_law_1261 : decode bb_Law_law 1261 = .ok (.ifCond .ne 15, 3) := by decide +kernel
theorem dd_Law_law_1264 : decode bb_Law_law 1264 = .ok (.aload_n 3, 1) := by decide +kernel
theorem dd_Law_law_1265 : decode bb_Law_law 1265 = .ok (.iconst 0, 1) := by decide +kernel
theorem dd_Law_law_1266 : decode bb_Law_law 1266 = .ok (.laload, 1) := by decide +kernel
theorem dd_Law_law_1267 : decode bb_Law_law 1267 = .ok (.iload 6, 2) := by decide +kernel
theorem dd_Law_law_1269 : decode bb_Law_law 1269 = .ok (.i2l, 1) := by decide +kernel
theorem dd_Law_law_1270 : decode bb_Law_law 1270 = .ok (.lcmp, 1) := by decide +kernel
theorem dd_Law_law_1271 : decode bb_Law_law 1271 = .ok (.ifCond .eq 5, 3) := by decide +kernel
theorem dd_Law_law_1274 : decode bb_Law_law 1274 = .ok (.iconst 0, 1) := by decide +kernel
theorem dd_Law_law_1257 : decode bb_Law_law 1257 = .ok (.iconst 0, 1) := by decide +kernel
theorem dd_Law_law_1276 : decode bb_Law_law 1276 = .ok (.goto 194, 3) := by decide +kernel
theorem dd_Law_law_1279 : decode bb_Law_law 1279 = .ok (.aload_n 1, 1) := by decide +kernel
theorem dd_Law_law_1280 : decode bb_Law_law 1280 = .ok (.aload_n 0, 1) := by decide +kernel
theorem dd_Law_law_1281 : decode bb_Law_law 1281 = .ok (.iload 4, 2) := by decide +kernel
theorem dd_Law_law_1283 : decode bb_Law_law 1283 = .ok (.iconst 1, 1) := by decide +kernel
theorem dd_Law_law_1284 : decode bb_Law_law 1284 = .ok (.iadd, 1) := by decide +kernel
theorem dd_Law_law_1285 : decode bb_Law_law 1285 = .ok (.iaload, 1) := by decide +kernel
theorem dd_Law_law_1286 : decode bb_Law_law 1286 = .ok (.aload_n 3, 1) := by decide +kernel
theorem dd_Law_law_1287 : decode bb_Law_law 1287 = .ok (.invokestatic 159, 3) := by decide +kernel
