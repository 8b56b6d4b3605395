theorem dd_Law_law_1390 : decode bb_Law_law 1390 = .ok (.if_icmp .eq 5, 3) := by decide +kernel
theorem dd_Law_law_1395 : decode bb_Law_law 1395 = .ok (.iload 5, 2) := by decide +kernel
theorem dd_Law_law_1397 : decode bb_Law_law 1397 = .ok (.ifCond .ne 15, 3) := by decide +kernel
theorem dd_Law_law_1400 : decode bb_Law_law 1400 = .ok (.aload_n 3, 1) := by decide +kernel
theorem dd_Law_law_1401 : decode bb_Law_law 1401 = .ok (.iconst 0, 1) := by decide +kernel
theorem dd_Law_law_1402 : decode bb_Law_law 1402 = .ok (.laload, 1) := by decide +kernel
theorem dd_Law_law_1403 : decode bb_Law_law 1403 = .ok (.iload 6, 2) := by decide +kernel
theorem dd_Law_law_1405 : decode bb_Law_law 1405 = .ok (.i2l, 1) := by decide +kernel
theorem dd_Law_law_1406 : decode bb_Law_law 1406 = .ok (.lcmp, 1) := by decide +kernel
theorem dd_Law_law_1407 : decode bb_Law_law 1407 = .ok (.ifCond .eq 5, 3) := by decide +kernel
theorem dd_Law_law_1410 : decode bb_Law_law 1410 = .ok (.iconst 0, 1) := by decide +kernel
theorem dd_Law_law_1393 : decode bb_Law_law 1393 = .ok (.iconst 0, 1) := by decide +kernel
theorem dd_Law_law_1412 : decode bb_Law_law 1412 = .ok (.goto 58, 3) := by decide +kernel
theorem dd_Law_law_1415 : decode bb_Law_law 1415 = .ok (.aload_n 1, 1) := by decide +kernel
theorem dd_Law_law_1416 : decode bb_Law_law 1416 = .ok (.aload_n 0, 1) := by decide +kernel
theorem dd_Law_law_1417 : decode bb_Law_law 1417 = .ok (.iload 4, 2) := by decide +kernel
theorem dd_Law_law_1419 : decode bb_Law_law 1419 = .ok (.iconst 1, 1) := by decide +kernel
theorem dd_Law_law_1420 : decode bb_Law_law 1420 = .ok (.iadd, 1) := by decide +kernel
theorem dd_Law_law_1421 : decode bb_Law_law 1421 = .ok (.iaload, 1) := by decide +kernel
theorem dd_Law_law_1422 : decode bb_Law_law 1422 = .ok (.aload_n 3, 1) := by decide +kernel
theorem dd_Law_law_1423 : decode bb_Law_law 1423 = .ok (.invokestatic 169, 3) := by decide +kernel
theorem dd_Law_law_1426 : decode bb_Law_law 1426 = .ok (.istore 5, 2) := by decide +kernel
theorem dd_Law_law_1428 : decode bb_Law_law 1428 = .ok (.aload_n 2, 1) := by decide +kernel
theorem dd_Law_law_1429 : decode bb_Law_law 1429 = .ok (.aload_n 0, 1) := by decide +kernel
theorem dd_Law_law_1430 : decode bb_Law_law 1430 = .ok (.iload 4, 2) := by decide +kernel
theorem dd_Law_law_1432 : decode bb_Law_law 1432 = .ok (.iconst 1, 1) := by decide +kernel
theorem dd_Law_law_1433 : decode bb_Law_law 1433 = .ok (.iadd, 1) := by decide +kernel
theorem dd_Law_law_1434 : decode bb_Law_law 1434 = .ok (.iaload, 1) := by decide +kernel
theorem dd_Law_law_1435 : decode bb_Law_law 1435 = .ok (.invokevirtual 171, 3) := by decide +kernel
theorem dd_Law_law_1438 : decode bb_Law_law 1438 = .ok (.lstore 6, 2) := by decide +kernel
theorem dd_Law_law_1440 : decode bb_Law_law 1440 = .ok (.aload_n 2, 1) := by decide +kernel
theorem dd_Law_law_1441 : decode bb_Law_law 1441 = .ok (.invokevirtual 95, 3) := by decide +kernel
theorem dd_Law_law_1444 : decode bb_Law_law 1444 = .ok (.iload 5, 2) := by decide +kernel
theorem dd_Law_law_1446 : decode bb_Law_law 1446 = .ok (.if_icmp .eq 5, 3) := by decide +kernel
theorem dd_Law_law_1451 : decode bb_Law_law 1451 = .ok (.iload 5, 2) := by decide +kernel
theorem dd_Law_law_1453 : decode bb_Law_law 1453 = .ok (.ifCond .ne 14, 3) := by decide +kernel
theorem dd_Law_law_1456 : decode bb_Law_law 1456 = .ok (.aload_n 3, 1) := by decide +kernel
theorem dd_Law_law_1457 : decode bb_Law_law 1457 = .ok (.iconst 0, 1) := by decide +kernel
theorem dd_Law_law_1458 : decode bb_Law_law 1458 = .ok (.laload, 1) := by decide +kernel
theorem dd_Law_law_1459 : decode bb_Law_law 1459 = .ok (.lload 6, 2) := by decide +kernel
theorem dd_Law_law_1461 : decode bb_Law_law 1461 = .ok (.lcmp, 1) := by decide +kernel
theorem dd_Law_law_1462 : decode bb_Law_law 1462 = .ok (.ifCond .eq 5, 3) := by decide +kernel
theorem dd_Law_law_1465 : decode bb_Law_law 1465 = .ok (.iconst 0, 1) := by decide +kernel
theorem dd_Law_law_1449 : decode bb_Law_law 1449 = .ok (.iconst 0, 1) := by decide +kernel
theorem dd_Law_law_1467 : decode bb_Law_law 1467 = .ok (.goto 3, 3) := by decide +kernel
theorem dd_Law_law_1470 : decode bb_Law_law 1470 = .ok (.iinc 4 5, 3) := by decide +kernel
theorem dd_Law_law_1473 : decode bb_Law_law 1473 = .ok (.goto (-1450), 3) := by decide +kernel
