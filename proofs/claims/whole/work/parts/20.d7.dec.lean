/-! The law: what stands at its places, 7. -/
theorem dC_1412 : decode code 1412 = .ok (.aload_n 0, 1) := by decide +kernel
theorem dC_1413 : decode code 1413 = .ok (.iload 5, 2) := by decide +kernel
theorem dC_1415 : decode code 1415 = .ok (.iconst 2, 1) := by decide +kernel
theorem dC_1416 : decode code 1416 = .ok (.iadd, 1) := by decide +kernel
theorem dC_1417 : decode code 1417 = .ok (.iaload, 1) := by decide +kernel
theorem dC_1418 : decode code 1418 = .ok (.invokevirtual 178, 3) := by decide +kernel
theorem dC_1421 : decode code 1421 = .ok (.istore 7, 2) := by decide +kernel
theorem dC_1423 : decode code 1423 = .ok (.aload_n 2, 1) := by decide +kernel
theorem dC_1424 : decode code 1424 = .ok (.invokevirtual 110, 3) := by decide +kernel
theorem dC_1427 : decode code 1427 = .ok (.iload 6, 2) := by decide +kernel
theorem dC_1429 : decode code 1429 = .ok (.if_icmp .eq 5, 3) := by decide +kernel
theorem dC_1434 : decode code 1434 = .ok (.iload 6, 2) := by decide +kernel
theorem dC_1436 : decode code 1436 = .ok (.ifCond .ne 15, 3) := by decide +kernel
theorem dC_1439 : decode code 1439 = .ok (.aload_n 3, 1) := by decide +kernel
theorem dC_1440 : decode code 1440 = .ok (.iconst 0, 1) := by decide +kernel
theorem dC_1441 : decode code 1441 = .ok (.laload, 1) := by decide +kernel
theorem dC_1442 : decode code 1442 = .ok (.iload 7, 2) := by decide +kernel
theorem dC_1444 : decode code 1444 = .ok (.i2l, 1) := by decide +kernel
theorem dC_1445 : decode code 1445 = .ok (.lcmp, 1) := by decide +kernel
theorem dC_1446 : decode code 1446 = .ok (.ifCond .eq 5, 3) := by decide +kernel
theorem dC_1451 : decode code 1451 = .ok (.goto 300, 3) := by decide +kernel
theorem dC_1454 : decode code 1454 = .ok (.aload_n 1, 1) := by decide +kernel
theorem dC_1455 : decode code 1455 = .ok (.aload_n 0, 1) := by decide +kernel
theorem dC_1456 : decode code 1456 = .ok (.iload 5, 2) := by decide +kernel
theorem dC_1458 : decode code 1458 = .ok (.iconst 1, 1) := by decide +kernel
theorem dC_1459 : decode code 1459 = .ok (.iadd, 1) := by decide +kernel
theorem dC_1460 : decode code 1460 = .ok (.iaload, 1) := by decide +kernel
theorem dC_1461 : decode code 1461 = .ok (.aload_n 0, 1) := by decide +kernel
theorem dC_1462 : decode code 1462 = .ok (.iload 5, 2) := by decide +kernel
theorem dC_1464 : decode code 1464 = .ok (.iconst 2, 1) := by decide +kernel
theorem dC_1465 : decode code 1465 = .ok (.iadd, 1) := by decide +kernel
theorem dC_1466 : decode code 1466 = .ok (.iaload, 1) := by decide +kernel
theorem dC_1467 : decode code 1467 = .ok (.aload_n 0, 1) := by decide +kernel
theorem dC_1468 : decode code 1468 = .ok (.iload 5, 2) := by decide +kernel
theorem dC_1470 : decode code 1470 = .ok (.iconst 3, 1) := by decide +kernel
theorem dC_1471 : decode code 1471 = .ok (.iadd, 1) := by decide +kernel
theorem dC_1472 : decode code 1472 = .ok (.iaload, 1) := by decide +kernel
theorem dC_1473 : decode code 1473 = .ok (.aload_n 0, 1) := by decide +kernel
theorem dC_1474 : decode code 1474 = .ok (.iload 5, 2) := by decide +kernel
theorem dC_1476 : decode code 1476 = .ok (.iconst 4, 1) := by decide +kernel
theorem dC_1477 : decode code 1477 = .ok (.iadd, 1) := by decide +kernel
theorem dC_1478 : decode code 1478 = .ok (.iaload, 1) := by decide +kernel
theorem dC_1479 : decode code 1479 = .ok (.aload_n 3, 1) := by decide +kernel
theorem dC_1480 : decode code 1480 = .ok (.invokestatic 179, 3) := by decide +kernel
theorem dC_1483 : decode code 1483 = .ok (.istore 6, 2) := by decide +kernel
theorem dC_1485 : decode code 1485 = .ok (.aload_n 2, 1) := by decide +kernel
theorem dC_1486 : decode code 1486 = .ok (.aload_n 0, 1) := by decide +kernel
theorem dC_1487 : decode code 1487 = .ok (.iload 5, 2) := by decide +kernel
theorem dC_1489 : decode code 1489 = .ok (.iconst 1, 1) := by decide +kernel
theorem dC_1490 : decode code 1490 = .ok (.iadd, 1) := by decide +kernel
theorem dC_1491 : decode code 1491 = .ok (.iaload, 1) := by decide +kernel
theorem dC_1492 : decode code 1492 = .ok (.aload_n 0, 1) := by decide +kernel
theorem dC_1493 : decode code 1493 = .ok (.iload 5, 2) := by decide +kernel
theorem dC_1495 : decode code 1495 = .ok (.iconst 2, 1) := by decide +kernel
theorem dC_1496 : decode code 1496 = .ok (.iadd, 1) := by decide +kernel
theorem dC_1497 : decode code 1497 = .ok (.iaload, 1) := by decide +kernel
theorem dC_1498 : decode code 1498 = .ok (.aload_n 0, 1) := by decide +kernel
theorem dC_1499 : decode code 1499 = .ok (.iload 5, 2) := by decide +kernel
theorem dC_1501 : decode code 1501 = .ok (.iconst 3, 1) := by decide +kernel
theorem dC_1502 : decode code 1502 = .ok (.iadd, 1) := by decide +kernel
theorem dC_1503 : decode code 1503 = .ok (.iaload, 1) := by decide +kernel
theorem dC_1504 : decode code 1504 = .ok (.aload_n 0, 1) := by decide +kernel
theorem dC_1505 : decode code 1505 = .ok (.iload 5, 2) := by decide +kernel
theorem dC_1507 : decode code 1507 = .ok (.iconst 4, 1) := by decide +kernel
theorem dC_1508 : decode code 1508 = .ok (.iadd, 1) := by decide +kernel
theorem dC_1509 : decode code 1509 = .ok (.iaload, 1) := by decide +kernel
theorem dC_1510 : decode code 1510 = .ok (.invokevirtual 181, 3) := by decide +kernel
theorem dC_1513 : decode code 1513 = .ok (.istore 7, 2) := by decide +kernel
theorem dC_1515 : decode code 1515 = .ok (.aload_n 2, 1) := by decide +kernel
theorem dC_1516 : decode code 1516 = .ok (.invokevirtual 110, 3) := by decide +kernel
theorem dC_1519 : decode code 1519 = .ok (.iload 6, 2) := by decide +kernel
theorem dC_1521 : decode code 1521 = .ok (.if_icmp .eq 5, 3) := by decide +kernel
theorem dC_1526 : decode code 1526 = .ok (.iload 6, 2) := by decide +kernel
theorem dC_1528 : decode code 1528 = .ok (.ifCond .ne 15, 3) := by decide +kernel
theorem dC_1531 : decode code 1531 = .ok (.aload_n 3, 1) := by decide +kernel
theorem dC_1532 : decode code 1532 = .ok (.iconst 0, 1) := by decide +kernel
theorem dC_1533 : decode code 1533 = .ok (.laload, 1) := by decide +kernel
theorem dC_1534 : decode code 1534 = .ok (.iload 7, 2) := by decide +kernel
theorem dC_1536 : decode code 1536 = .ok (.i2l, 1) := by decide +kernel
theorem dC_1537 : decode code 1537 = .ok (.lcmp, 1) := by decide +kernel
theorem dC_1538 : decode code 1538 = .ok (.ifCond .eq 5, 3) := by decide +kernel
theorem dC_1543 : decode code 1543 = .ok (.goto 208, 3) := by decide +kernel
theorem dC_1546 : decode code 1546 = .ok (.aload_n 1, 1) := by decide +kernel
theorem dC_1547 : decode code 1547 = .ok (.aload_n 0, 1) := by decide +kernel
theorem dC_1548 : decode code 1548 = .ok (.iload 5, 2) := by decide +kernel
theorem dC_1550 : decode code 1550 = .ok (.iconst 1, 1) := by decide +kernel
theorem dC_1551 : decode code 1551 = .ok (.iadd, 1) := by decide +kernel
theorem dC_1552 : decode code 1552 = .ok (.iaload, 1) := by decide +kernel
theorem dC_1553 : decode code 1553 = .ok (.aload_n 0, 1) := by decide +kernel
theorem dC_1554 : decode code 1554 = .ok (.iload 5, 2) := by decide +kernel
theorem dC_1556 : decode code 1556 = .ok (.iconst 2, 1) := by decide +kernel
theorem dC_1557 : decode code 1557 = .ok (.iadd, 1) := by decide +kernel
theorem dC_1558 : decode code 1558 = .ok (.iaload, 1) := by decide +kernel
theorem dC_1559 : decode code 1559 = .ok (.aload_n 3, 1) := by decide +kernel
theorem dC_1560 : decode code 1560 = .ok (.invokestatic 182, 3) := by decide +kernel
theorem dC_1563 : decode code 1563 = .ok (.istore 6, 2) := by decide +kernel
theorem dC_1565 : decode code 1565 = .ok (.aload_n 2, 1) := by decide +kernel
theorem dC_1566 : decode code 1566 = .ok (.aload_n 0, 1) := by decide +kernel
theorem dC_1567 : decode code 1567 = .ok (.iload 5, 2) := by decide +kernel
theorem dC_1569 : decode code 1569 = .ok (.iconst 1, 1) := by decide +kernel
theorem dC_1570 : decode code 1570 = .ok (.iadd, 1) := by decide +kernel
theorem dC_1571 : decode code 1571 = .ok (.iaload, 1) := by decide +kernel
theorem dC_1572 : decode code 1572 = .ok (.aload_n 0, 1) := by decide +kernel
theorem dC_1573 : decode code 1573 = .ok (.iload 5, 2) := by decide +kernel
theorem dC_1575 : decode code 1575 = .ok (.iconst 2, 1) := by decide +kernel
theorem dC_1576 : decode code 1576 = .ok (.iadd, 1) := by decide +kernel
theorem dC_1577 : decode code 1577 = .ok (.iaload, 1) := by decide +kernel
theorem dC_1578 : decode code 1578 = .ok (.invokevirtual 184, 3) := by decide +kernel
theorem dC_1581 : decode code 1581 = .ok (.istore 7, 2) := by decide +kernel
theorem dC_1583 : decode code 1583 = .ok (.aload_n 2, 1) := by decide +kernel
theorem dC_1584 : decode code 1584 = .ok (.invokevirtual 110, 3) := by decide +kernel
theorem dC_1587 : decode code 1587 = .ok (.iload 6, 2) := by decide +kernel
theorem dC_1589 : decode code 1589 = .ok (.if_icmp .eq 5, 3) := by decide +kernel
theorem dC_1594 : decode code 1594 = .ok (.iload 6, 2) := by decide +kernel
theorem dC_1596 : decode code 1596 = .ok (.ifCond .ne 15, 3) := by decide +kernel
theorem dC_1599 : decode code 1599 = .ok (.aload_n 3, 1) := by decide +kernel
theorem dC_1600 : decode code 1600 = .ok (.iconst 0, 1) := by decide +kernel
theorem dC_1601 : decode code 1601 = .ok (.laload, 1) := by decide +kernel
theorem dC_1602 : decode code 1602 = .ok (.iload 7, 2) := by decide +kernel
theorem dC_1604 : decode code 1604 = .ok (.i2l, 1) := by decide +kernel
theorem dC_1605 : decode code 1605 = .ok (.lcmp, 1) := by decide +kernel
theorem dC_1606 : decode code 1606 = .ok (.ifCond .eq 5, 3) := by decide +kernel
theorem dC_1611 : decode code 1611 = .ok (.goto 140, 3) := by decide +kernel
theorem dC_1614 : decode code 1614 = .ok (.aload_n 1, 1) := by decide +kernel
theorem dC_1615 : decode code 1615 = .ok (.aload_n 0, 1) := by decide +kernel
theorem dC_1616 : decode code 1616 = .ok (.iload 5, 2) := by decide +kernel
theorem dC_1618 : decode code 1618 = .ok (.iconst 1, 1) := by decide +kernel
theorem dC_1619 : decode code 1619 = .ok (.iadd, 1) := by decide +kernel
theorem dC_1620 : decode code 1620 = .ok (.iaload, 1) := by decide +kernel
theorem dC_1621 : decode code 1621 = .ok (.aload_n 0, 1) := by decide +kernel
