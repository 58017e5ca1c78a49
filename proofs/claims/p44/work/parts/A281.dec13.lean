theorem dL_acts_1557 : decode cL_acts 1557 = .ok (.invokestatic 45, 3) := by decide +kernel
theorem dL_acts_1560 : decode cL_acts 1560 = .ok (.iadd, 1) := by decide +kernel
theorem dL_acts_1561 : decode cL_acts 1561 = .ok (.iastore, 1) := by decide +kernel
theorem dL_acts_1562 : decode cL_acts 1562 = .ok (.aload_n 0, 1) := by decide +kernel
theorem dL_acts_1563 : decode cL_acts 1563 = .ok (.iload 5, 2) := by decide +kernel
theorem dL_acts_1565 : decode cL_acts 1565 = .ok (.aload_n 1, 1) := by decide +kernel
theorem dL_acts_1566 : decode cL_acts 1566 = .ok (.getfield 145, 3) := by decide +kernel
theorem dL_acts_1569 : decode cL_acts 1569 = .ok (.iload 5, 2) := by decide +kernel
theorem dL_acts_1571 : decode cL_acts 1571 = .ok (.iaload, 1) := by decide +kernel
theorem dL_acts_1572 : decode cL_acts 1572 = .ok (.invokevirtual 387, 3) := by decide +kernel
theorem dL_acts_1575 : decode cL_acts 1575 = .ok (.iload 6, 2) := by decide +kernel
theorem dL_acts_1577 : decode cL_acts 1577 = .ok (.aload_n 3, 1) := by decide +kernel
theorem dL_acts_1578 : decode cL_acts 1578 = .ok (.invokestatic 329, 3) := by decide +kernel
theorem dL_acts_1581 : decode cL_acts 1581 = .ok (.ireturn, 1) := by decide +kernel
theorem dL_acts_1582 : decode cL_acts 1582 = .ok (.aload_n 0, 1) := by decide +kernel
theorem dL_acts_1583 : decode cL_acts 1583 = .ok (.bipush 8, 2) := by decide +kernel
theorem dL_acts_1585 : decode cL_acts 1585 = .ok (.invokevirtual 209, 3) := by decide +kernel
theorem dL_acts_1588 : decode cL_acts 1588 = .ok (.istore 5, 2) := by decide +kernel
theorem dL_acts_1590 : decode cL_acts 1590 = .ok (.aload_n 3, 1) := by decide +kernel
theorem dL_acts_1591 : decode cL_acts 1591 = .ok (.iconst 0, 1) := by decide +kernel
theorem dL_acts_1592 : decode cL_acts 1592 = .ok (.dup2, 1) := by decide +kernel
theorem dL_acts_1593 : decode cL_acts 1593 = .ok (.iaload, 1) := by decide +kernel
theorem dL_acts_1594 : decode cL_acts 1594 = .ok (.iconst 2, 1) := by decide +kernel
theorem dL_acts_1595 : decode cL_acts 1595 = .ok (.iadd, 1) := by decide +kernel
theorem dL_acts_1596 : decode cL_acts 1596 = .ok (.iastore, 1) := by decide +kernel
theorem dL_acts_1597 : decode cL_acts 1597 = .ok (.aload_n 1, 1) := by decide +kernel
theorem dL_acts_1598 : decode cL_acts 1598 = .ok (.getfield 145, 3) := by decide +kernel
theorem dL_acts_1601 : decode cL_acts 1601 = .ok (.iconst 3, 1) := by decide +kernel
theorem dL_acts_1602 : decode cL_acts 1602 = .ok (.iaload, 1) := by decide +kernel
theorem dL_acts_1603 : decode cL_acts 1603 = .ok (.iconst 1, 1) := by decide +kernel
theorem dL_acts_1604 : decode cL_acts 1604 = .ok (.iadd, 1) := by decide +kernel
theorem dL_acts_1605 : decode cL_acts 1605 = .ok (.sipush 1000, 3) := by decide +kernel
theorem dL_acts_1608 : decode cL_acts 1608 = .ok (.irem, 1) := by decide +kernel
theorem dL_acts_1609 : decode cL_acts 1609 = .ok (.istore 6, 2) := by decide +kernel
theorem dL_acts_1611 : decode cL_acts 1611 = .ok (.aload_n 0, 1) := by decide +kernel
theorem dL_acts_1612 : decode cL_acts 1612 = .ok (.iconst 3, 1) := by decide +kernel
theorem dL_acts_1613 : decode cL_acts 1613 = .ok (.iload 6, 2) := by decide +kernel
theorem dL_acts_1615 : decode cL_acts 1615 = .ok (.invokevirtual 387, 3) := by decide +kernel
theorem dL_acts_1618 : decode cL_acts 1618 = .ok (.aload_n 1, 1) := by decide +kernel
theorem dL_acts_1619 : decode cL_acts 1619 = .ok (.getfield 145, 3) := by decide +kernel
theorem dL_acts_1622 : decode cL_acts 1622 = .ok (.iconst 3, 1) := by decide +kernel
theorem dL_acts_1623 : decode cL_acts 1623 = .ok (.iaload, 1) := by decide +kernel
theorem dL_acts_1624 : decode cL_acts 1624 = .ok (.if_icmp .ne 28, 3) := by decide +kernel
theorem dL_acts_1627 : decode cL_acts 1627 = .ok (.aload_n 0, 1) := by decide +kernel
theorem dL_acts_1628 : decode cL_acts 1628 = .ok (.invokevirtual 369, 3) := by decide +kernel
theorem dL_acts_1631 : decode cL_acts 1631 = .ok (.ifCond .lt 21, 3) := by decide +kernel
theorem dL_acts_1634 : decode cL_acts 1634 = .ok (.aload_n 0, 1) := by decide +kernel
theorem dL_acts_1635 : decode cL_acts 1635 = .ok (.bipush 8, 2) := by decide +kernel
theorem dL_acts_1637 : decode cL_acts 1637 = .ok (.invokevirtual 209, 3) := by decide +kernel
theorem dL_acts_1640 : decode cL_acts 1640 = .ok (.bipush 8, 2) := by decide +kernel
theorem dL_acts_1642 : decode cL_acts 1642 = .ok (.iload 5, 2) := by decide +kernel
theorem dL_acts_1644 : decode cL_acts 1644 = .ok (.iconst 2, 1) := by decide +kernel
theorem dL_acts_1645 : decode cL_acts 1645 = .ok (.iadd, 1) := by decide +kernel
theorem dL_acts_1646 : decode cL_acts 1646 = .ok (.invokestatic 230, 3) := by decide +kernel
theorem dL_acts_1649 : decode cL_acts 1649 = .ok (.if_icmp .eq 5, 3) := by decide +kernel
theorem dL_acts_1652 : decode cL_acts 1652 = .ok (.iconst 0, 1) := by decide +kernel
theorem dL_acts_1653 : decode cL_acts 1653 = .ok (.ireturn, 1) := by decide +kernel
theorem dL_acts_1654 : decode cL_acts 1654 = .ok (.aload_n 0, 1) := by decide +kernel
theorem dL_acts_1655 : decode cL_acts 1655 = .ok (.invokevirtual 390, 3) := by decide +kernel
theorem dL_acts_1658 : decode cL_acts 1658 = .ok (.bipush 8, 2) := by decide +kernel
theorem dL_acts_1660 : decode cL_acts 1660 = .ok (.iload 5, 2) := by decide +kernel
theorem dL_acts_1662 : decode cL_acts 1662 = .ok (.iconst 2, 1) := by decide +kernel
theorem dL_acts_1663 : decode cL_acts 1663 = .ok (.iadd, 1) := by decide +kernel
theorem dL_acts_1664 : decode cL_acts 1664 = .ok (.invokestatic 230, 3) := by decide +kernel
theorem dL_acts_1667 : decode cL_acts 1667 = .ok (.iconst 1, 1) := by decide +kernel
theorem dL_acts_1668 : decode cL_acts 1668 = .ok (.isub, 1) := by decide +kernel
theorem dL_acts_1669 : decode cL_acts 1669 = .ok (.if_icmp .ne 25, 3) := by decide +kernel
theorem dL_acts_1672 : decode cL_acts 1672 = .ok (.aload_n 0, 1) := by decide +kernel
theorem dL_acts_1673 : decode cL_acts 1673 = .ok (.invokevirtual 390, 3) := by decide +kernel
theorem dL_acts_1676 : decode cL_acts 1676 = .ok (.bipush 8, 2) := by decide +kernel
theorem dL_acts_1678 : decode cL_acts 1678 = .ok (.iload 5, 2) := by decide +kernel
theorem dL_acts_1680 : decode cL_acts 1680 = .ok (.iconst 2, 1) := by decide +kernel
theorem dL_acts_1681 : decode cL_acts 1681 = .ok (.iadd, 1) := by decide +kernel
theorem dL_acts_1682 : decode cL_acts 1682 = .ok (.invokestatic 230, 3) := by decide +kernel
theorem dL_acts_1685 : decode cL_acts 1685 = .ok (.iconst 2, 1) := by decide +kernel
theorem dL_acts_1686 : decode cL_acts 1686 = .ok (.isub, 1) := by decide +kernel
theorem dL_acts_1687 : decode cL_acts 1687 = .ok (.if_icmp .ne 7, 3) := by decide +kernel
theorem dL_acts_1690 : decode cL_acts 1690 = .ok (.iconst 1, 1) := by decide +kernel
theorem dL_acts_1691 : decode cL_acts 1691 = .ok (.goto 4, 3) := by decide +kernel
theorem dL_acts_1694 : decode cL_acts 1694 = .ok (.iconst 0, 1) := by decide +kernel
