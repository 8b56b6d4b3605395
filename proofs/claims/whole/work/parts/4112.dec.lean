theorem dd_Law_law_1290 : decode bb_Law_law 1290 = .ok (.istore 5, 2) := by decide +kernel
theorem dd_Law_law_1292 : decode bb_Law_law 1292 = .ok (.aload_n 2, 1) := by decide +kernel
theorem dd_Law_law_1293 : decode bb_Law_law 1293 = .ok (.aload_n 0, 1) := by decide +kernel
theorem dd_Law_law_1294 : decode bb_Law_law 1294 = .ok (.iload 4, 2) := by decide +kernel
theorem dd_Law_law_1296 : decode bb_Law_law 1296 = .ok (.iconst 1, 1) := by decide +kernel
theorem dd_Law_law_1297 : decode bb_Law_law 1297 = .ok (.iadd, 1) := by decide +kernel
theorem dd_Law_law_1298 : decode bb_Law_law 1298 = .ok (.iaload, 1) := by decide +kernel
theorem dd_Law_law_1299 : decode bb_Law_law 1299 = .ok (.invokevirtual 161, 3) := by decide +kernel
theorem dd_Law_law_1302 : decode bb_Law_law 1302 = .ok (.lstore 6, 2) := by decide +kernel
theorem dd_Law_law_1304 : decode bb_Law_law 1304 = .ok (.aload_n 2, 1) := by decide +kernel
theorem dd_Law_law_1305 : decode bb_Law_law 1305 = .ok (.invokevirtual 95, 3) := by decide +kernel
theorem dd_Law_law_1308 : decode bb_Law_law 1308 = .ok (.iload 5, 2) := by decide +kernel
theorem dd_Law_law_1310 : decode bb_Law_law 1310 = .ok (.if_icmp .eq 5, 3) := by decide +kernel
theorem dd_Law_law_1315 : decode bb_Law_law 1315 = .ok (.iload 5, 2) := by decide +kernel
theorem dd_Law_law_1317 : decode bb_Law_law 1317 = .ok (.ifCond .ne 14, 3) := by decide +kernel
theorem dd_Law_law_1320 : decode bb_Law_law 1320 = .ok (.aload_n 3, 1) := by decide +kernel
theorem dd_Law_law_1321 : decode bb_Law_law 1321 = .ok (.iconst 0, 1) := by decide +kernel
theorem dd_Law_law_1322 : decode bb_Law_law 1322 = .ok (.laload, 1) := by decide +kernel
theorem dd_Law_law_1323 : decode bb_Law_law 1323 = .ok (.lload 6, 2) := by decide +kernel
theorem dd_Law_law_1325 : decode bb_Law_law 1325 = .ok (.lcmp, 1) := by decide +kernel
theorem dd_Law_law_1326 : decode bb_Law_law 1326 = .ok (.ifCond .eq 5, 3) := by decide +kernel
theorem dd_Law_law_1329 : decode bb_Law_law 1329 = .ok (.iconst 0, 1) := by decide +kernel
theorem dd_Law_law_1313 : decode bb_Law_law 1313 = .ok (.iconst 0, 1) := by decide +kernel
theorem dd_Law_law_1331 : decode bb_Law_law 1331 = .ok (.goto 139, 3) := by decide +kernel
theorem dd_Law_law_1334 : decode bb_Law_law 1334 = .ok (.aload_n 1, 1) := by decide +kernel
theorem dd_Law_law_1335 : decode bb_Law_law 1335 = .ok (.invokevirtual 162, 3) := by decide +kernel
theorem dd_Law_law_1338 : decode bb_Law_law 1338 = .ok (.aload_n 2, 1) := by decide +kernel
theorem dd_Law_law_1339 : decode bb_Law_law 1339 = .ok (.invokevirtual 165, 3) := by decide +kernel
theorem dd_Law_law_1342 : decode bb_Law_law 1342 = .ok (.if_icmp .eq 128, 3) := by decide +kernel
theorem dd_Law_law_1345 : decode bb_Law_law 1345 = .ok (.iconst 0, 1) := by decide +kernel
theorem dd_Law_law_1347 : decode bb_Law_law 1347 = .ok (.aload_n 1, 1) := by decide +kernel
theorem dd_Law_law_1348 : decode bb_Law_law 1348 = .ok (.aload_n 0, 1) := by decide +kernel
theorem dd_Law_law_1349 : decode bb_Law_law 1349 = .ok (.iload 4, 2) := by decide +kernel
theorem dd_Law_law_1351 : decode bb_Law_law 1351 = .ok (.iconst 1, 1) := by decide +kernel
theorem dd_Law_law_1352 : decode bb_Law_law 1352 = .ok (.iadd, 1) := by decide +kernel
theorem dd_Law_law_1353 : decode bb_Law_law 1353 = .ok (.iaload, 1) := by decide +kernel
theorem dd_Law_law_1354 : decode bb_Law_law 1354 = .ok (.aload_n 0, 1) := by decide +kernel
theorem dd_Law_law_1355 : decode bb_Law_law 1355 = .ok (.iload 4, 2) := by decide +kernel
theorem dd_Law_law_1357 : decode bb_Law_law 1357 = .ok (.iconst 2, 1) := by decide +kernel
theorem dd_Law_law_1358 : decode bb_Law_law 1358 = .ok (.iadd, 1) := by decide +kernel
theorem dd_Law_law_1359 : decode bb_Law_law 1359 = .ok (.iaload, 1) := by decide +kernel
theorem dd_Law_law_1360 : decode bb_Law_law 1360 = .ok (.aload_n 3, 1) := by decide +kernel
theorem dd_Law_law_1361 : decode bb_Law_law 1361 = .ok (.invokestatic 166, 3) := by decide +kernel
theorem dd_Law_law_1364 : decode bb_Law_law 1364 = .ok (.istore 5, 2) := by decide +kernel
theorem dd_Law_law_1366 : decode bb_Law_law 1366 = .ok (.aload_n 2, 1) := by decide +kernel
theorem dd_Law_law_1367 : decode bb_Law_law 1367 = .ok (.aload_n 0, 1) := by decide +kernel
theorem dd_Law_law_1368 : decode bb_Law_law 1368 = .ok (.iload 4, 2) := by decide +kernel
theorem dd_Law_law_1370 : decode bb_Law_law 1370 = .ok (.iconst 1, 1) := by decide +kernel
theorem dd_Law_law_1371 : decode bb_Law_law 1371 = .ok (.iadd, 1) := by decide +kernel
theorem dd_Law_law_1372 : decode bb_Law_law 1372 = .ok (.iaload, 1) := by decide +kernel
theorem dd_Law_law_1373 : decode bb_Law_law 1373 = .ok (.aload_n 0, 1) := by decide +kernel
theorem dd_Law_law_1374 : decode bb_Law_law 1374 = .ok (.iload 4, 2) := by decide +kernel
theorem dd_Law_law_1376 : decode bb_Law_law 1376 = .ok (.iconst 2, 1) := by decide +kernel
theorem dd_Law_law_1377 : decode bb_Law_law 1377 = .ok (.iadd, 1) := by decide +kernel
theorem dd_Law_law_1378 : decode bb_Law_law 1378 = .ok (.iaload, 1) := by decide +kernel
theorem dd_Law_law_1379 : decode bb_Law_law 1379 = .ok (.invokevirtual 168, 3) := by decide +kernel
theorem dd_Law_law_1382 : decode bb_Law_law 1382 = .ok (.istore 6, 2) := by decide +kernel
theorem dd_Law_law_1384 : decode bb_Law_law 1384 = .ok (.aload_n 2, 1) := by decide +kernel
theorem dd_Law_law_1385 : decode bb_Law_law 1385 = .ok (.invokevirtual 95, 3) := by decide +kernel
theorem dd_Law_law_1388 : decode bb_Law_law 1388 = .ok (.iload 5, 2) := by decide +kernel
