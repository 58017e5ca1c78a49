theorem dL_acts_1385 : decode cL_acts 1385 = .ok (.aload_n 1, 1) := by decide +kernel
theorem dL_acts_1386 : decode cL_acts 1386 = .ok (.iconst 0, 1) := by decide +kernel
theorem dL_acts_1387 : decode cL_acts 1387 = .ok (.invokevirtual 219, 3) := by decide +kernel
theorem dL_acts_1390 : decode cL_acts 1390 = .ok (.aload_n 3, 1) := by decide +kernel
theorem dL_acts_1391 : decode cL_acts 1391 = .ok (.invokestatic 329, 3) := by decide +kernel
theorem dL_acts_1394 : decode cL_acts 1394 = .ok (.ireturn, 1) := by decide +kernel
theorem dL_acts_1395 : decode cL_acts 1395 = .ok (.aload_n 1, 1) := by decide +kernel
theorem dL_acts_1396 : decode cL_acts 1396 = .ok (.getfield 109, 3) := by decide +kernel
theorem dL_acts_1399 : decode cL_acts 1399 = .ok (.invokeinterface 375 1, 5) := by decide +kernel
theorem dL_acts_1404 : decode cL_acts 1404 = .ok (.ifCond .ne 11, 3) := by decide +kernel
theorem dL_acts_1407 : decode cL_acts 1407 = .ok (.aload_n 2, 1) := by decide +kernel
theorem dL_acts_1408 : decode cL_acts 1408 = .ok (.iconst 2, 1) := by decide +kernel
theorem dL_acts_1409 : decode cL_acts 1409 = .ok (.invokestatic 45, 3) := by decide +kernel
theorem dL_acts_1412 : decode cL_acts 1412 = .ok (.ifCond .ne 48, 3) := by decide +kernel
theorem dL_acts_1415 : decode cL_acts 1415 = .ok (.aload_n 2, 1) := by decide +kernel
theorem dL_acts_1416 : decode cL_acts 1416 = .ok (.bipush 6, 2) := by decide +kernel
theorem dL_acts_1418 : decode cL_acts 1418 = .ok (.invokestatic 45, 3) := by decide +kernel
theorem dL_acts_1421 : decode cL_acts 1421 = .ok (.istore 5, 2) := by decide +kernel
theorem dL_acts_1423 : decode cL_acts 1423 = .ok (.aload_n 1, 1) := by decide +kernel
theorem dL_acts_1424 : decode cL_acts 1424 = .ok (.getfield 140, 3) := by decide +kernel
theorem dL_acts_1427 : decode cL_acts 1427 = .ok (.istore 6, 2) := by decide +kernel
theorem dL_acts_1429 : decode cL_acts 1429 = .ok (.aload_n 1, 1) := by decide +kernel
theorem dL_acts_1430 : decode cL_acts 1430 = .ok (.iload 5, 2) := by decide +kernel
theorem dL_acts_1432 : decode cL_acts 1432 = .ok (.putfield 140, 3) := by decide +kernel
theorem dL_acts_1435 : decode cL_acts 1435 = .ok (.aload_n 0, 1) := by decide +kernel
theorem dL_acts_1436 : decode cL_acts 1436 = .ok (.iload 5, 2) := by decide +kernel
theorem dL_acts_1438 : decode cL_acts 1438 = .ok (.invokevirtual 381, 3) := by decide +kernel
theorem dL_acts_1441 : decode cL_acts 1441 = .ok (.iload 6, 2) := by decide +kernel
theorem dL_acts_1443 : decode cL_acts 1443 = .ok (.iload 5, 2) := by decide +kernel
theorem dL_acts_1445 : decode cL_acts 1445 = .ok (.if_icmp .ne 8, 3) := by decide +kernel
theorem dL_acts_1448 : decode cL_acts 1448 = .ok (.bipush (-7), 2) := by decide +kernel
theorem dL_acts_1450 : decode cL_acts 1450 = .ok (.goto 5, 3) := by decide +kernel
theorem dL_acts_1453 : decode cL_acts 1453 = .ok (.iload 6, 2) := by decide +kernel
theorem dL_acts_1455 : decode cL_acts 1455 = .ok (.aload_n 3, 1) := by decide +kernel
theorem dL_acts_1456 : decode cL_acts 1456 = .ok (.invokestatic 329, 3) := by decide +kernel
theorem dL_acts_1459 : decode cL_acts 1459 = .ok (.ireturn, 1) := by decide +kernel
theorem dL_acts_1460 : decode cL_acts 1460 = .ok (.aload_n 2, 1) := by decide +kernel
theorem dL_acts_1461 : decode cL_acts 1461 = .ok (.aload_n 1, 1) := by decide +kernel
theorem dL_acts_1462 : decode cL_acts 1462 = .ok (.getfield 109, 3) := by decide +kernel
theorem dL_acts_1465 : decode cL_acts 1465 = .ok (.invokeinterface 160 1, 5) := by decide +kernel
theorem dL_acts_1470 : decode cL_acts 1470 = .ok (.invokestatic 45, 3) := by decide +kernel
theorem dL_acts_1473 : decode cL_acts 1473 = .ok (.istore 5, 2) := by decide +kernel
theorem dL_acts_1475 : decode cL_acts 1475 = .ok (.aload_n 1, 1) := by decide +kernel
theorem dL_acts_1476 : decode cL_acts 1476 = .ok (.getfield 109, 3) := by decide +kernel
theorem dL_acts_1479 : decode cL_acts 1479 = .ok (.iload 5, 2) := by decide +kernel
theorem dL_acts_1481 : decode cL_acts 1481 = .ok (.invokeinterface 362 2, 5) := by decide +kernel
theorem dL_acts_1486 : decode cL_acts 1486 = .ok (.checkcast 69, 3) := by decide +kernel
theorem dL_acts_1489 : decode cL_acts 1489 = .ok (.astore 6, 2) := by decide +kernel
theorem dL_acts_1491 : decode cL_acts 1491 = .ok (.aload_n 0, 1) := by decide +kernel
theorem dL_acts_1492 : decode cL_acts 1492 = .ok (.iload 5, 2) := by decide +kernel
theorem dL_acts_1494 : decode cL_acts 1494 = .ok (.invokevirtual 384, 3) := by decide +kernel
theorem dL_acts_1497 : decode cL_acts 1497 = .ok (.aload_n 1, 1) := by decide +kernel
theorem dL_acts_1498 : decode cL_acts 1498 = .ok (.getfield 109, 3) := by decide +kernel
theorem dL_acts_1501 : decode cL_acts 1501 = .ok (.invokeinterface 160 1, 5) := by decide +kernel
theorem dL_acts_1506 : decode cL_acts 1506 = .ok (.aload_n 3, 1) := by decide +kernel
theorem dL_acts_1507 : decode cL_acts 1507 = .ok (.invokestatic 329, 3) := by decide +kernel
theorem dL_acts_1510 : decode cL_acts 1510 = .ok (.ireturn, 1) := by decide +kernel
theorem dL_acts_1511 : decode cL_acts 1511 = .ok (.aload_n 2, 1) := by decide +kernel
theorem dL_acts_1512 : decode cL_acts 1512 = .ok (.bipush 7, 2) := by decide +kernel
theorem dL_acts_1514 : decode cL_acts 1514 = .ok (.invokestatic 45, 3) := by decide +kernel
theorem dL_acts_1517 : decode cL_acts 1517 = .ok (.istore 5, 2) := by decide +kernel
theorem dL_acts_1519 : decode cL_acts 1519 = .ok (.aload_n 1, 1) := by decide +kernel
theorem dL_acts_1520 : decode cL_acts 1520 = .ok (.getfield 145, 3) := by decide +kernel
theorem dL_acts_1523 : decode cL_acts 1523 = .ok (.iload 5, 2) := by decide +kernel
theorem dL_acts_1525 : decode cL_acts 1525 = .ok (.iaload, 1) := by decide +kernel
theorem dL_acts_1526 : decode cL_acts 1526 = .ok (.istore 6, 2) := by decide +kernel
theorem dL_acts_1528 : decode cL_acts 1528 = .ok (.aload_n 1, 1) := by decide +kernel
theorem dL_acts_1529 : decode cL_acts 1529 = .ok (.getfield 145, 3) := by decide +kernel
theorem dL_acts_1532 : decode cL_acts 1532 = .ok (.iload 5, 2) := by decide +kernel
theorem dL_acts_1534 : decode cL_acts 1534 = .ok (.aload_n 2, 1) := by decide +kernel
theorem dL_acts_1535 : decode cL_acts 1535 = .ok (.iconst 2, 1) := by decide +kernel
theorem dL_acts_1536 : decode cL_acts 1536 = .ok (.invokestatic 45, 3) := by decide +kernel
theorem dL_acts_1539 : decode cL_acts 1539 = .ok (.ifCond .ne 12, 3) := by decide +kernel
theorem dL_acts_1542 : decode cL_acts 1542 = .ok (.aload_n 2, 1) := by decide +kernel
theorem dL_acts_1543 : decode cL_acts 1543 = .ok (.bipush 30, 2) := by decide +kernel
theorem dL_acts_1545 : decode cL_acts 1545 = .ok (.invokestatic 45, 3) := by decide +kernel
theorem dL_acts_1548 : decode cL_acts 1548 = .ok (.goto 13, 3) := by decide +kernel
theorem dL_acts_1551 : decode cL_acts 1551 = .ok (.bipush 50, 2) := by decide +kernel
theorem dL_acts_1553 : decode cL_acts 1553 = .ok (.aload_n 2, 1) := by decide +kernel
theorem dL_acts_1554 : decode cL_acts 1554 = .ok (.sipush 400, 3) := by decide +kernel
