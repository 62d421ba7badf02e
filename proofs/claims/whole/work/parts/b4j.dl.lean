/-! the law, decoded: 1490 and on -/
theorem dl_1490 : decode code 1490 = .ok (.iaload, 1) := by decide +kernel
theorem dl_1491 : decode code 1491 = .ok (.aload_n 0, 1) := by decide +kernel
theorem dl_1492 : decode code 1492 = .ok (.iload 4, 2) := by decide +kernel
theorem dl_1494 : decode code 1494 = .ok (.iconst 3, 1) := by decide +kernel
theorem dl_1495 : decode code 1495 = .ok (.iadd, 1) := by decide +kernel
theorem dl_1496 : decode code 1496 = .ok (.iaload, 1) := by decide +kernel
theorem dl_1497 : decode code 1497 = .ok (.aload_n 0, 1) := by decide +kernel
theorem dl_1498 : decode code 1498 = .ok (.iload 4, 2) := by decide +kernel
theorem dl_1500 : decode code 1500 = .ok (.iconst 4, 1) := by decide +kernel
theorem dl_1501 : decode code 1501 = .ok (.iadd, 1) := by decide +kernel
theorem dl_1502 : decode code 1502 = .ok (.iaload, 1) := by decide +kernel
theorem dl_1503 : decode code 1503 = .ok (.ifCond .eq 7, 3) := by decide +kernel
theorem dl_1506 : decode code 1506 = .ok (.iconst 1, 1) := by decide +kernel
theorem dl_1507 : decode code 1507 = .ok (.goto 4, 3) := by decide +kernel
theorem dl_1510 : decode code 1510 = .ok (.iconst 0, 1) := by decide +kernel
theorem dl_1511 : decode code 1511 = .ok (.invokevirtual 182, 3) := by decide +kernel
theorem dl_1514 : decode code 1514 = .ok (.aload_n 2, 1) := by decide +kernel
theorem dl_1515 : decode code 1515 = .ok (.aload_n 0, 1) := by decide +kernel
theorem dl_1516 : decode code 1516 = .ok (.iload 4, 2) := by decide +kernel
theorem dl_1518 : decode code 1518 = .ok (.iconst 1, 1) := by decide +kernel
theorem dl_1519 : decode code 1519 = .ok (.iadd, 1) := by decide +kernel
theorem dl_1520 : decode code 1520 = .ok (.iaload, 1) := by decide +kernel
theorem dl_1521 : decode code 1521 = .ok (.aload_n 0, 1) := by decide +kernel
theorem dl_1522 : decode code 1522 = .ok (.iload 4, 2) := by decide +kernel
theorem dl_1524 : decode code 1524 = .ok (.iconst 2, 1) := by decide +kernel
theorem dl_1525 : decode code 1525 = .ok (.iadd, 1) := by decide +kernel
theorem dl_1526 : decode code 1526 = .ok (.iaload, 1) := by decide +kernel
theorem dl_1527 : decode code 1527 = .ok (.aload_n 0, 1) := by decide +kernel
theorem dl_1528 : decode code 1528 = .ok (.iload 4, 2) := by decide +kernel
theorem dl_1530 : decode code 1530 = .ok (.iconst 3, 1) := by decide +kernel
theorem dl_1531 : decode code 1531 = .ok (.iadd, 1) := by decide +kernel
theorem dl_1532 : decode code 1532 = .ok (.iaload, 1) := by decide +kernel
theorem dl_1533 : decode code 1533 = .ok (.aload_n 0, 1) := by decide +kernel
theorem dl_1534 : decode code 1534 = .ok (.iload 4, 2) := by decide +kernel
theorem dl_1536 : decode code 1536 = .ok (.iconst 4, 1) := by decide +kernel
theorem dl_1537 : decode code 1537 = .ok (.iadd, 1) := by decide +kernel
theorem dl_1538 : decode code 1538 = .ok (.iaload, 1) := by decide +kernel
theorem dl_1539 : decode code 1539 = .ok (.ifCond .eq 7, 3) := by decide +kernel
theorem dl_1542 : decode code 1542 = .ok (.iconst 1, 1) := by decide +kernel
theorem dl_1543 : decode code 1543 = .ok (.goto 4, 3) := by decide +kernel
theorem dl_1546 : decode code 1546 = .ok (.iconst 0, 1) := by decide +kernel
theorem dl_1547 : decode code 1547 = .ok (.invokevirtual 186, 3) := by decide +kernel
theorem dl_1550 : decode code 1550 = .ok (.if_icmp .eq 255, 3) := by decide +kernel
theorem dl_1553 : decode code 1553 = .ok (.iconst 0, 1) := by decide +kernel
theorem dl_1554 : decode code 1554 = .ok (.ireturn, 1) := by decide +kernel
theorem dl_1555 : decode code 1555 = .ok (.aload_n 1, 1) := by decide +kernel
theorem dl_1556 : decode code 1556 = .ok (.aload_n 0, 1) := by decide +kernel
theorem dl_1557 : decode code 1557 = .ok (.iload 4, 2) := by decide +kernel
theorem dl_1559 : decode code 1559 = .ok (.iconst 1, 1) := by decide +kernel
theorem dl_1560 : decode code 1560 = .ok (.iadd, 1) := by decide +kernel
theorem dl_1561 : decode code 1561 = .ok (.iaload, 1) := by decide +kernel
theorem dl_1562 : decode code 1562 = .ok (.invokevirtual 187, 3) := by decide +kernel
theorem dl_1565 : decode code 1565 = .ok (.aload_n 2, 1) := by decide +kernel
theorem dl_1566 : decode code 1566 = .ok (.aload_n 0, 1) := by decide +kernel
theorem dl_1567 : decode code 1567 = .ok (.iload 4, 2) := by decide +kernel
theorem dl_1569 : decode code 1569 = .ok (.iconst 1, 1) := by decide +kernel
theorem dl_1570 : decode code 1570 = .ok (.iadd, 1) := by decide +kernel
theorem dl_1571 : decode code 1571 = .ok (.iaload, 1) := by decide +kernel
theorem dl_1572 : decode code 1572 = .ok (.invokevirtual 190, 3) := by decide +kernel
theorem dl_1575 : decode code 1575 = .ok (.if_icmp .eq 230, 3) := by decide +kernel
theorem dl_1578 : decode code 1578 = .ok (.iconst 0, 1) := by decide +kernel
theorem dl_1579 : decode code 1579 = .ok (.ireturn, 1) := by decide +kernel
theorem dl_1580 : decode code 1580 = .ok (.aload_n 1, 1) := by decide +kernel
theorem dl_1581 : decode code 1581 = .ok (.aload_n 0, 1) := by decide +kernel
theorem dl_1582 : decode code 1582 = .ok (.iload 4, 2) := by decide +kernel
theorem dl_1584 : decode code 1584 = .ok (.iconst 1, 1) := by decide +kernel
theorem dl_1585 : decode code 1585 = .ok (.iadd, 1) := by decide +kernel
theorem dl_1586 : decode code 1586 = .ok (.iaload, 1) := by decide +kernel
theorem dl_1587 : decode code 1587 = .ok (.invokevirtual 191, 3) := by decide +kernel
theorem dl_1590 : decode code 1590 = .ok (.aload_n 2, 1) := by decide +kernel
theorem dl_1591 : decode code 1591 = .ok (.aload_n 0, 1) := by decide +kernel
theorem dl_1592 : decode code 1592 = .ok (.iload 4, 2) := by decide +kernel
theorem dl_1594 : decode code 1594 = .ok (.iconst 1, 1) := by decide +kernel
theorem dl_1595 : decode code 1595 = .ok (.iadd, 1) := by decide +kernel
theorem dl_1596 : decode code 1596 = .ok (.iaload, 1) := by decide +kernel
theorem dl_1597 : decode code 1597 = .ok (.invokevirtual 194, 3) := by decide +kernel
theorem dl_1600 : decode code 1600 = .ok (.if_icmp .eq 205, 3) := by decide +kernel
theorem dl_1603 : decode code 1603 = .ok (.iconst 0, 1) := by decide +kernel
theorem dl_1604 : decode code 1604 = .ok (.ireturn, 1) := by decide +kernel
theorem dl_1605 : decode code 1605 = .ok (.aload_n 1, 1) := by decide +kernel
theorem dl_1606 : decode code 1606 = .ok (.invokevirtual 195, 3) := by decide +kernel
theorem dl_1609 : decode code 1609 = .ok (.aload_n 2, 1) := by decide +kernel
theorem dl_1610 : decode code 1610 = .ok (.invokevirtual 198, 3) := by decide +kernel
theorem dl_1613 : decode code 1613 = .ok (.if_icmp .eq 192, 3) := by decide +kernel
theorem dl_1616 : decode code 1616 = .ok (.iconst 0, 1) := by decide +kernel
theorem dl_1617 : decode code 1617 = .ok (.ireturn, 1) := by decide +kernel
theorem dl_1618 : decode code 1618 = .ok (.aload_n 1, 1) := by decide +kernel
theorem dl_1619 : decode code 1619 = .ok (.aload_n 0, 1) := by decide +kernel
theorem dl_1620 : decode code 1620 = .ok (.iload 4, 2) := by decide +kernel
theorem dl_1622 : decode code 1622 = .ok (.iconst 1, 1) := by decide +kernel
theorem dl_1623 : decode code 1623 = .ok (.iadd, 1) := by decide +kernel
theorem dl_1624 : decode code 1624 = .ok (.iaload, 1) := by decide +kernel
theorem dl_1625 : decode code 1625 = .ok (.invokevirtual 199, 3) := by decide +kernel
theorem dl_1628 : decode code 1628 = .ok (.aload_n 2, 1) := by decide +kernel
theorem dl_1629 : decode code 1629 = .ok (.aload_n 0, 1) := by decide +kernel
theorem dl_1630 : decode code 1630 = .ok (.iload 4, 2) := by decide +kernel
theorem dl_1632 : decode code 1632 = .ok (.iconst 1, 1) := by decide +kernel
theorem dl_1633 : decode code 1633 = .ok (.iadd, 1) := by decide +kernel
theorem dl_1634 : decode code 1634 = .ok (.iaload, 1) := by decide +kernel
theorem dl_1635 : decode code 1635 = .ok (.invokevirtual 202, 3) := by decide +kernel
