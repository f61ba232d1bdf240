theorem dw_1550 : decode code 1550 = .ok (.iload 6, 2) := by decide +kernel
theorem dw_1552 : decode code 1552 = .ok (.i2l, 1) := by decide +kernel
theorem dw_1553 : decode code 1553 = .ok (.lcmp, 1) := by decide +kernel
theorem dw_1554 : decode code 1554 = .ok (.ifCond .eq 5, 3) := by decide +kernel
theorem dw_1557 : decode code 1557 = .ok (.iconst 0, 1) := by decide +kernel
theorem dw_1558 : decode code 1558 = .ok (.ireturn, 1) := by decide +kernel
theorem dw_1559 : decode code 1559 = .ok (.goto 208, 3) := by decide +kernel
theorem dw_1562 : decode code 1562 = .ok (.aload_n 1, 1) := by decide +kernel
theorem dw_1563 : decode code 1563 = .ok (.aload_n 0, 1) := by decide +kernel
theorem dw_1564 : decode code 1564 = .ok (.iload 4, 2) := by decide +kernel
theorem dw_1566 : decode code 1566 = .ok (.iconst 1, 1) := by decide +kernel
theorem dw_1567 : decode code 1567 = .ok (.iadd, 1) := by decide +kernel
theorem dw_1568 : decode code 1568 = .ok (.iaload, 1) := by decide +kernel
theorem dw_1569 : decode code 1569 = .ok (.aload_n 3, 1) := by decide +kernel
theorem dw_1570 : decode code 1570 = .ok (.invokestatic 177, 3) := by decide +kernel
theorem dw_1573 : decode code 1573 = .ok (.istore 5, 2) := by decide +kernel
theorem dw_1575 : decode code 1575 = .ok (.aload_n 2, 1) := by decide +kernel
theorem dw_1576 : decode code 1576 = .ok (.aload_n 0, 1) := by decide +kernel
theorem dw_1577 : decode code 1577 = .ok (.iload 4, 2) := by decide +kernel
theorem dw_1579 : decode code 1579 = .ok (.iconst 1, 1) := by decide +kernel
theorem dw_1580 : decode code 1580 = .ok (.iadd, 1) := by decide +kernel
theorem dw_1581 : decode code 1581 = .ok (.iaload, 1) := by decide +kernel
theorem dw_1582 : decode code 1582 = .ok (.invokevirtual 179, 3) := by decide +kernel
theorem dw_1585 : decode code 1585 = .ok (.istore 6, 2) := by decide +kernel
theorem dw_1587 : decode code 1587 = .ok (.aload_n 2, 1) := by decide +kernel
theorem dw_1588 : decode code 1588 = .ok (.invokevirtual 106, 3) := by decide +kernel
theorem dw_1591 : decode code 1591 = .ok (.iload 5, 2) := by decide +kernel
theorem dw_1593 : decode code 1593 = .ok (.if_icmp .eq 5, 3) := by decide +kernel
theorem dw_1596 : decode code 1596 = .ok (.iconst 0, 1) := by decide +kernel
theorem dw_1597 : decode code 1597 = .ok (.ireturn, 1) := by decide +kernel
theorem dw_1598 : decode code 1598 = .ok (.iload 5, 2) := by decide +kernel
theorem dw_1600 : decode code 1600 = .ok (.ifCond .ne 15, 3) := by decide +kernel
theorem dw_1603 : decode code 1603 = .ok (.aload_n 3, 1) := by decide +kernel
theorem dw_1604 : decode code 1604 = .ok (.iconst 0, 1) := by decide +kernel
theorem dw_1605 : decode code 1605 = .ok (.laload, 1) := by decide +kernel
theorem dw_1606 : decode code 1606 = .ok (.iload 6, 2) := by decide +kernel
theorem dw_1608 : decode code 1608 = .ok (.i2l, 1) := by decide +kernel
theorem dw_1609 : decode code 1609 = .ok (.lcmp, 1) := by decide +kernel
theorem dw_1610 : decode code 1610 = .ok (.ifCond .eq 5, 3) := by decide +kernel
theorem dw_1613 : decode code 1613 = .ok (.iconst 0, 1) := by decide +kernel
theorem dw_1614 : decode code 1614 = .ok (.ireturn, 1) := by decide +kernel
theorem dw_1615 : decode code 1615 = .ok (.goto 152, 3) := by decide +kernel
theorem dw_1618 : decode code 1618 = .ok (.aload_n 1, 1) := by decide +kernel
theorem dw_1619 : decode code 1619 = .ok (.aload_n 0, 1) := by decide +kernel
theorem dw_1620 : decode code 1620 = .ok (.iload 4, 2) := by decide +kernel
theorem dw_1622 : decode code 1622 = .ok (.iconst 1, 1) := by decide +kernel
theorem dw_1623 : decode code 1623 = .ok (.iadd, 1) := by decide +kernel
theorem dw_1624 : decode code 1624 = .ok (.iaload, 1) := by decide +kernel
theorem dw_1625 : decode code 1625 = .ok (.invokevirtual 180, 3) := by decide +kernel
theorem dw_1628 : decode code 1628 = .ok (.aload_n 2, 1) := by decide +kernel
theorem dw_1629 : decode code 1629 = .ok (.aload_n 0, 1) := by decide +kernel
theorem dw_1630 : decode code 1630 = .ok (.iload 4, 2) := by decide +kernel
theorem dw_1632 : decode code 1632 = .ok (.iconst 1, 1) := by decide +kernel
theorem dw_1633 : decode code 1633 = .ok (.iadd, 1) := by decide +kernel
theorem dw_1634 : decode code 1634 = .ok (.iaload, 1) := by decide +kernel
theorem dw_1635 : decode code 1635 = .ok (.invokevirtual 183, 3) := by decide +kernel
theorem dw_1638 : decode code 1638 = .ok (.if_icmp .eq 129, 3) := by decide +kernel
theorem dw_1641 : decode code 1641 = .ok (.iconst 0, 1) := by decide +kernel
theorem dw_1642 : decode code 1642 = .ok (.ireturn, 1) := by decide +kernel
theorem dw_1643 : decode code 1643 = .ok (.aload_n 1, 1) := by decide +kernel
theorem dw_1644 : decode code 1644 = .ok (.aload_n 0, 1) := by decide +kernel
theorem dw_1645 : decode code 1645 = .ok (.iload 4, 2) := by decide +kernel
theorem dw_1647 : decode code 1647 = .ok (.iconst 1, 1) := by decide +kernel
theorem dw_1648 : decode code 1648 = .ok (.iadd, 1) := by decide +kernel
theorem dw_1649 : decode code 1649 = .ok (.iaload, 1) := by decide +kernel
theorem dw_1650 : decode code 1650 = .ok (.aload_n 0, 1) := by decide +kernel
theorem dw_1651 : decode code 1651 = .ok (.iload 4, 2) := by decide +kernel
theorem dw_1653 : decode code 1653 = .ok (.iconst 2, 1) := by decide +kernel
theorem dw_1654 : decode code 1654 = .ok (.iadd, 1) := by decide +kernel
theorem dw_1655 : decode code 1655 = .ok (.iaload, 1) := by decide +kernel
theorem dw_1656 : decode code 1656 = .ok (.aload_n 3, 1) := by decide +kernel
theorem dw_1657 : decode code 1657 = .ok (.invokestatic 184, 3) := by decide +kernel
theorem dw_1660 : decode code 1660 = .ok (.istore 5, 2) := by decide +kernel
theorem dw_1662 : decode code 1662 = .ok (.aload_n 2, 1) := by decide +kernel
theorem dw_1663 : decode code 1663 = .ok (.aload_n 0, 1) := by decide +kernel
theorem dw_1664 : decode code 1664 = .ok (.iload 4, 2) := by decide +kernel
theorem dw_1666 : decode code 1666 = .ok (.iconst 1, 1) := by decide +kernel
theorem dw_1667 : decode code 1667 = .ok (.iadd, 1) := by decide +kernel
theorem dw_1668 : decode code 1668 = .ok (.iaload, 1) := by decide +kernel
theorem dw_1669 : decode code 1669 = .ok (.aload_n 0, 1) := by decide +kernel
theorem dw_1670 : decode code 1670 = .ok (.iload 4, 2) := by decide +kernel
theorem dw_1672 : decode code 1672 = .ok (.iconst 2, 1) := by decide +kernel
theorem dw_1673 : decode code 1673 = .ok (.iadd, 1) := by decide +kernel
theorem dw_1674 : decode code 1674 = .ok (.iaload, 1) := by decide +kernel
theorem dw_1675 : decode code 1675 = .ok (.invokevirtual 186, 3) := by decide +kernel
theorem dw_1678 : decode code 1678 = .ok (.istore 6, 2) := by decide +kernel
theorem dw_1680 : decode code 1680 = .ok (.aload_n 2, 1) := by decide +kernel
theorem dw_1681 : decode code 1681 = .ok (.invokevirtual 106, 3) := by decide +kernel
theorem dw_1684 : decode code 1684 = .ok (.iload 5, 2) := by decide +kernel
theorem dw_1686 : decode code 1686 = .ok (.if_icmp .eq 5, 3) := by decide +kernel
theorem dw_1689 : decode code 1689 = .ok (.iconst 0, 1) := by decide +kernel
theorem dw_1690 : decode code 1690 = .ok (.ireturn, 1) := by decide +kernel
theorem dw_1691 : decode code 1691 = .ok (.iload 5, 2) := by decide +kernel
theorem dw_1693 : decode code 1693 = .ok (.ifCond .ne 15, 3) := by decide +kernel
theorem dw_1696 : decode code 1696 = .ok (.aload_n 3, 1) := by decide +kernel
theorem dw_1697 : decode code 1697 = .ok (.iconst 0, 1) := by decide +kernel
theorem dw_1698 : decode code 1698 = .ok (.laload, 1) := by decide +kernel
theorem dw_1699 : decode code 1699 = .ok (.iload 6, 2) := by decide +kernel
theorem dw_1701 : decode code 1701 = .ok (.i2l, 1) := by decide +kernel
theorem dw_1702 : decode code 1702 = .ok (.lcmp, 1) := by decide +kernel
theorem dw_1703 : decode code 1703 = .ok (.ifCond .eq 5, 3) := by decide +kernel
theorem dw_1706 : decode code 1706 = .ok (.iconst 0, 1) := by decide +kernel
theorem dw_1707 : decode code 1707 = .ok (.ireturn, 1) := by decide +kernel
theorem dw_1708 : decode code 1708 = .ok (.goto 59, 3) := by decide +kernel
theorem dw_1711 : decode code 1711 = .ok (.aload_n 1, 1) := by decide +kernel
theorem dw_1712 : decode code 1712 = .ok (.aload_n 0, 1) := by decide +kernel
theorem dw_1713 : decode code 1713 = .ok (.iload 4, 2) := by decide +kernel
theorem dw_1715 : decode code 1715 = .ok (.iconst 1, 1) := by decide +kernel
theorem dw_1716 : decode code 1716 = .ok (.iadd, 1) := by decide +kernel
theorem dw_1717 : decode code 1717 = .ok (.iaload, 1) := by decide +kernel
theorem dw_1718 : decode code 1718 = .ok (.aload_n 3, 1) := by decide +kernel
theorem dw_1719 : decode code 1719 = .ok (.invokestatic 187, 3) := by decide +kernel
theorem dw_1722 : decode code 1722 = .ok (.istore 5, 2) := by decide +kernel
theorem dw_1724 : decode code 1724 = .ok (.aload_n 2, 1) := by decide +kernel
theorem dw_1725 : decode code 1725 = .ok (.aload_n 0, 1) := by decide +kernel
theorem dw_1726 : decode code 1726 = .ok (.iload 4, 2) := by decide +kernel
theorem dw_1728 : decode code 1728 = .ok (.iconst 1, 1) := by decide +kernel
theorem dw_1729 : decode code 1729 = .ok (.iadd, 1) := by decide +kernel
theorem dw_1730 : decode code 1730 = .ok (.iaload, 1) := by decide +kernel
theorem dw_1731 : decode code 1731 = .ok (.invokevirtual 189, 3) := by decide +kernel
theorem dw_1734 : decode code 1734 = .ok (.istore 6, 2) := by decide +kernel
theorem dw_1736 : decode code 1736 = .ok (.aload_n 2, 1) := by decide +kernel
theorem dw_1737 : decode code 1737 = .ok (.invokevirtual 106, 3) := by decide +kernel
theorem dw_1740 : decode code 1740 = .ok (.iload 5, 2) := by decide +kernel
theorem dw_1742 : decode code 1742 = .ok (.if_icmp .eq 5, 3) := by decide +kernel
theorem dw_1745 : decode code 1745 = .ok (.iconst 0, 1) := by decide +kernel
theorem dw_1746 : decode code 1746 = .ok (.ireturn, 1) := by decide +kernel
theorem dw_1747 : decode code 1747 = .ok (.iload 5, 2) := by decide +kernel
theorem dw_1749 : decode code 1749 = .ok (.ifCond .ne 15, 3) := by decide +kernel
theorem dw_1752 : decode code 1752 = .ok (.aload_n 3, 1) := by decide +kernel
theorem dw_1753 : decode code 1753 = .ok (.iconst 0, 1) := by decide +kernel
theorem dw_1754 : decode code 1754 = .ok (.laload, 1) := by decide +kernel
theorem dw_1755 : decode code 1755 = .ok (.iload 6, 2) := by decide +kernel
theorem dw_1757 : decode code 1757 = .ok (.i2l, 1) := by decide +kernel
theorem dw_1758 : decode code 1758 = .ok (.lcmp, 1) := by decide +kernel
theorem dw_1759 : decode code 1759 = .ok (.ifCond .eq 5, 3) := by decide +kernel
theorem dw_1762 : decode code 1762 = .ok (.iconst 0, 1) := by decide +kernel
theorem dw_1763 : decode code 1763 = .ok (.ireturn, 1) := by decide +kernel
theorem dw_1764 : decode code 1764 = .ok (.goto 3, 3) := by decide +kernel
theorem dw_1767 : decode code 1767 = .ok (.iinc 4 5, 3) := by decide +kernel
theorem dw_1770 : decode code 1770 = .ok (.goto (-1747), 3) := by decide +kernel
theorem dw_1773 : decode code 1773 = .ok (.iconst 1, 1) := by decide +kernel
theorem dw_1774 : decode code 1774 = .ok (.ireturn, 1) := by decide +kernel
