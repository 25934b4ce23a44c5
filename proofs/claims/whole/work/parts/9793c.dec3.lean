/-! the law, run by run: printed by wip/whole/gen_law.py -/
theorem d336_1476 : decode code 1476 = .ok (.goto 660, 3) := by decide +kernel
theorem d336_1479 : decode code 1479 = .ok (.aload_n 1, 1) := by decide +kernel
theorem d336_1480 : decode code 1480 = .ok (.invokevirtual 185, 3) := by decide +kernel
theorem d336_1483 : decode code 1483 = .ok (.aload_n 2, 1) := by decide +kernel
theorem d336_1484 : decode code 1484 = .ok (.invokevirtual 188, 3) := by decide +kernel
theorem d336_1487 : decode code 1487 = .ok (.if_icmp .eq 649, 3) := by decide +kernel
theorem d336_1490 : decode code 1490 = .ok (.iconst 0, 1) := by decide +kernel
theorem d336_1491 : decode code 1491 = .ok (.ireturn, 1) := by decide +kernel
theorem d336_1492 : decode code 1492 = .ok (.aload_n 1, 1) := by decide +kernel
theorem d336_1493 : decode code 1493 = .ok (.invokevirtual 189, 3) := by decide +kernel
theorem d336_1496 : decode code 1496 = .ok (.aload_n 2, 1) := by decide +kernel
theorem d336_1497 : decode code 1497 = .ok (.invokevirtual 192, 3) := by decide +kernel
theorem d336_1500 : decode code 1500 = .ok (.if_icmp .eq 636, 3) := by decide +kernel
theorem d336_1503 : decode code 1503 = .ok (.iconst 0, 1) := by decide +kernel
theorem d336_1504 : decode code 1504 = .ok (.ireturn, 1) := by decide +kernel
theorem d336_1505 : decode code 1505 = .ok (.aload_n 1, 1) := by decide +kernel
theorem d336_1506 : decode code 1506 = .ok (.aload_n 0, 1) := by decide +kernel
theorem d336_1507 : decode code 1507 = .ok (.iload 4, 2) := by decide +kernel
theorem d336_1509 : decode code 1509 = .ok (.iconst 1, 1) := by decide +kernel
theorem d336_1510 : decode code 1510 = .ok (.iadd, 1) := by decide +kernel
theorem d336_1511 : decode code 1511 = .ok (.iaload, 1) := by decide +kernel
theorem d336_1512 : decode code 1512 = .ok (.aload_n 3, 1) := by decide +kernel
theorem d336_1513 : decode code 1513 = .ok (.invokestatic 193, 3) := by decide +kernel
theorem d336_1516 : decode code 1516 = .ok (.istore 5, 2) := by decide +kernel
theorem d336_1518 : decode code 1518 = .ok (.aload_n 2, 1) := by decide +kernel
theorem d336_1519 : decode code 1519 = .ok (.aload_n 0, 1) := by decide +kernel
theorem d336_1520 : decode code 1520 = .ok (.iload 4, 2) := by decide +kernel
theorem d336_1522 : decode code 1522 = .ok (.iconst 1, 1) := by decide +kernel
theorem d336_1523 : decode code 1523 = .ok (.iadd, 1) := by decide +kernel
theorem d336_1524 : decode code 1524 = .ok (.iaload, 1) := by decide +kernel
theorem d336_1525 : decode code 1525 = .ok (.invokevirtual 195, 3) := by decide +kernel
theorem d336_1528 : decode code 1528 = .ok (.istore 6, 2) := by decide +kernel
theorem d336_1530 : decode code 1530 = .ok (.aload_n 2, 1) := by decide +kernel
theorem d336_1531 : decode code 1531 = .ok (.invokevirtual 105, 3) := by decide +kernel
theorem d336_1534 : decode code 1534 = .ok (.iload 5, 2) := by decide +kernel
theorem d336_1536 : decode code 1536 = .ok (.if_icmp .eq 5, 3) := by decide +kernel
theorem d336_1539 : decode code 1539 = .ok (.iconst 0, 1) := by decide +kernel
theorem d336_1540 : decode code 1540 = .ok (.ireturn, 1) := by decide +kernel
theorem d336_1541 : decode code 1541 = .ok (.iload 5, 2) := by decide +kernel
theorem d336_1543 : decode code 1543 = .ok (.ifCond .ne 15, 3) := by decide +kernel
theorem d336_1546 : decode code 1546 = .ok (.aload_n 3, 1) := by decide +kernel
theorem d336_1547 : decode code 1547 = .ok (.iconst 0, 1) := by decide +kernel
theorem d336_1548 : decode code 1548 = .ok (.laload, 1) := by decide +kernel
theorem d336_1549 : decode code 1549 = .ok (.iload 6, 2) := by decide +kernel
theorem d336_1551 : decode code 1551 = .ok (.i2l, 1) := by decide +kernel
theorem d336_1552 : decode code 1552 = .ok (.lcmp, 1) := by decide +kernel
theorem d336_1553 : decode code 1553 = .ok (.ifCond .eq 5, 3) := by decide +kernel
theorem d336_1556 : decode code 1556 = .ok (.iconst 0, 1) := by decide +kernel
theorem d336_1557 : decode code 1557 = .ok (.ireturn, 1) := by decide +kernel
theorem d336_1558 : decode code 1558 = .ok (.goto 578, 3) := by decide +kernel
theorem d336_1561 : decode code 1561 = .ok (.aload_n 1, 1) := by decide +kernel
theorem d336_1562 : decode code 1562 = .ok (.invokevirtual 196, 3) := by decide +kernel
theorem d336_1565 : decode code 1565 = .ok (.aload_n 2, 1) := by decide +kernel
theorem d336_1566 : decode code 1566 = .ok (.invokevirtual 199, 3) := by decide +kernel
theorem d336_1569 : decode code 1569 = .ok (.if_icmp .eq 567, 3) := by decide +kernel
theorem d336_1572 : decode code 1572 = .ok (.iconst 0, 1) := by decide +kernel
theorem d336_1573 : decode code 1573 = .ok (.ireturn, 1) := by decide +kernel
theorem d336_1574 : decode code 1574 = .ok (.aload_n 1, 1) := by decide +kernel
theorem d336_1575 : decode code 1575 = .ok (.invokevirtual 200, 3) := by decide +kernel
theorem d336_1578 : decode code 1578 = .ok (.aload_n 2, 1) := by decide +kernel
theorem d336_1579 : decode code 1579 = .ok (.invokevirtual 203, 3) := by decide +kernel
theorem d336_1582 : decode code 1582 = .ok (.if_icmp .eq 554, 3) := by decide +kernel
theorem d336_1585 : decode code 1585 = .ok (.iconst 0, 1) := by decide +kernel
theorem d336_1586 : decode code 1586 = .ok (.ireturn, 1) := by decide +kernel
theorem d336_1587 : decode code 1587 = .ok (.aload_n 1, 1) := by decide +kernel
theorem d336_1588 : decode code 1588 = .ok (.aload_n 0, 1) := by decide +kernel
theorem d336_1589 : decode code 1589 = .ok (.iload 4, 2) := by decide +kernel
theorem d336_1591 : decode code 1591 = .ok (.iconst 1, 1) := by decide +kernel
theorem d336_1592 : decode code 1592 = .ok (.iadd, 1) := by decide +kernel
theorem d336_1593 : decode code 1593 = .ok (.iaload, 1) := by decide +kernel
theorem d336_1594 : decode code 1594 = .ok (.aload_n 0, 1) := by decide +kernel
theorem d336_1595 : decode code 1595 = .ok (.iload 4, 2) := by decide +kernel
theorem d336_1597 : decode code 1597 = .ok (.iconst 2, 1) := by decide +kernel
theorem d336_1598 : decode code 1598 = .ok (.iadd, 1) := by decide +kernel
theorem d336_1599 : decode code 1599 = .ok (.iaload, 1) := by decide +kernel
theorem d336_1600 : decode code 1600 = .ok (.aload_n 3, 1) := by decide +kernel
theorem d336_1601 : decode code 1601 = .ok (.invokestatic 204, 3) := by decide +kernel
theorem d336_1604 : decode code 1604 = .ok (.istore 5, 2) := by decide +kernel
theorem d336_1606 : decode code 1606 = .ok (.aload_n 2, 1) := by decide +kernel
theorem d336_1607 : decode code 1607 = .ok (.aload_n 0, 1) := by decide +kernel
theorem d336_1608 : decode code 1608 = .ok (.iload 4, 2) := by decide +kernel
theorem d336_1610 : decode code 1610 = .ok (.iconst 1, 1) := by decide +kernel
theorem d336_1611 : decode code 1611 = .ok (.iadd, 1) := by decide +kernel
theorem d336_1612 : decode code 1612 = .ok (.iaload, 1) := by decide +kernel
theorem d336_1613 : decode code 1613 = .ok (.aload_n 0, 1) := by decide +kernel
theorem d336_1614 : decode code 1614 = .ok (.iload 4, 2) := by decide +kernel
theorem d336_1616 : decode code 1616 = .ok (.iconst 2, 1) := by decide +kernel
theorem d336_1617 : decode code 1617 = .ok (.iadd, 1) := by decide +kernel
theorem d336_1618 : decode code 1618 = .ok (.iaload, 1) := by decide +kernel
theorem d336_1619 : decode code 1619 = .ok (.invokevirtual 206, 3) := by decide +kernel
theorem d336_1622 : decode code 1622 = .ok (.istore 6, 2) := by decide +kernel
theorem d336_1624 : decode code 1624 = .ok (.aload_n 2, 1) := by decide +kernel
theorem d336_1625 : decode code 1625 = .ok (.invokevirtual 105, 3) := by decide +kernel
theorem d336_1628 : decode code 1628 = .ok (.iload 5, 2) := by decide +kernel
theorem d336_1630 : decode code 1630 = .ok (.if_icmp .eq 5, 3) := by decide +kernel
theorem d336_1633 : decode code 1633 = .ok (.iconst 0, 1) := by decide +kernel
theorem d336_1634 : decode code 1634 = .ok (.ireturn, 1) := by decide +kernel
theorem d336_1635 : decode code 1635 = .ok (.iload 5, 2) := by decide +kernel
theorem d336_1637 : decode code 1637 = .ok (.ifCond .ne 15, 3) := by decide +kernel
theorem d336_1640 : decode code 1640 = .ok (.aload_n 3, 1) := by decide +kernel
theorem d336_1641 : decode code 1641 = .ok (.iconst 0, 1) := by decide +kernel
theorem d336_1642 : decode code 1642 = .ok (.laload, 1) := by decide +kernel
theorem d336_1643 : decode code 1643 = .ok (.iload 6, 2) := by decide +kernel
theorem d336_1645 : decode code 1645 = .ok (.i2l, 1) := by decide +kernel
theorem d336_1646 : decode code 1646 = .ok (.lcmp, 1) := by decide +kernel
theorem d336_1647 : decode code 1647 = .ok (.ifCond .eq 5, 3) := by decide +kernel
theorem d336_1650 : decode code 1650 = .ok (.iconst 0, 1) := by decide +kernel
theorem d336_1651 : decode code 1651 = .ok (.ireturn, 1) := by decide +kernel
theorem d336_1652 : decode code 1652 = .ok (.goto 484, 3) := by decide +kernel
theorem d336_1655 : decode code 1655 = .ok (.aload_n 1, 1) := by decide +kernel
theorem d336_1656 : decode code 1656 = .ok (.aload_n 0, 1) := by decide +kernel
theorem d336_1657 : decode code 1657 = .ok (.iload 4, 2) := by decide +kernel
theorem d336_1659 : decode code 1659 = .ok (.iconst 1, 1) := by decide +kernel
theorem d336_1660 : decode code 1660 = .ok (.iadd, 1) := by decide +kernel
theorem d336_1661 : decode code 1661 = .ok (.iaload, 1) := by decide +kernel
theorem d336_1662 : decode code 1662 = .ok (.aload_n 3, 1) := by decide +kernel
theorem d336_1663 : decode code 1663 = .ok (.invokestatic 207, 3) := by decide +kernel
theorem d336_1666 : decode code 1666 = .ok (.istore 5, 2) := by decide +kernel
theorem d336_1668 : decode code 1668 = .ok (.aload_n 2, 1) := by decide +kernel
theorem d336_1669 : decode code 1669 = .ok (.aload_n 0, 1) := by decide +kernel
theorem d336_1670 : decode code 1670 = .ok (.iload 4, 2) := by decide +kernel
theorem d336_1672 : decode code 1672 = .ok (.iconst 1, 1) := by decide +kernel
theorem d336_1673 : decode code 1673 = .ok (.iadd, 1) := by decide +kernel
theorem d336_1674 : decode code 1674 = .ok (.iaload, 1) := by decide +kernel
theorem d336_1675 : decode code 1675 = .ok (.invokevirtual 209, 3) := by decide +kernel
theorem d336_1678 : decode code 1678 = .ok (.istore 6, 2) := by decide +kernel
theorem d336_1680 : decode code 1680 = .ok (.aload_n 2, 1) := by decide +kernel
theorem d336_1681 : decode code 1681 = .ok (.invokevirtual 105, 3) := by decide +kernel
theorem d336_1684 : decode code 1684 = .ok (.iload 5, 2) := by decide +kernel
theorem d336_1686 : decode code 1686 = .ok (.if_icmp .eq 5, 3) := by decide +kernel
theorem d336_1689 : decode code 1689 = .ok (.iconst 0, 1) := by decide +kernel
theorem d336_1690 : decode code 1690 = .ok (.ireturn, 1) := by decide +kernel
theorem d336_1691 : decode code 1691 = .ok (.iload 5, 2) := by decide +kernel
theorem d336_1693 : decode code 1693 = .ok (.ifCond .ne 15, 3) := by decide +kernel
theorem d336_1696 : decode code 1696 = .ok (.aload_n 3, 1) := by decide +kernel
theorem d336_1697 : decode code 1697 = .ok (.iconst 0, 1) := by decide +kernel
theorem d336_1698 : decode code 1698 = .ok (.laload, 1) := by decide +kernel
theorem d336_1699 : decode code 1699 = .ok (.iload 6, 2) := by decide +kernel
theorem d336_1701 : decode code 1701 = .ok (.i2l, 1) := by decide +kernel
theorem d336_1702 : decode code 1702 = .ok (.lcmp, 1) := by decide +kernel
theorem d336_1703 : decode code 1703 = .ok (.ifCond .eq 5, 3) := by decide +kernel
theorem d336_1706 : decode code 1706 = .ok (.iconst 0, 1) := by decide +kernel
theorem d336_1707 : decode code 1707 = .ok (.ireturn, 1) := by decide +kernel
theorem d336_1708 : decode code 1708 = .ok (.goto 428, 3) := by decide +kernel
theorem d336_1711 : decode code 1711 = .ok (.aload_n 1, 1) := by decide +kernel
theorem d336_1712 : decode code 1712 = .ok (.invokevirtual 210, 3) := by decide +kernel
theorem d336_1715 : decode code 1715 = .ok (.aload_n 2, 1) := by decide +kernel
theorem d336_1716 : decode code 1716 = .ok (.invokevirtual 213, 3) := by decide +kernel
theorem d336_1719 : decode code 1719 = .ok (.if_icmp .eq 417, 3) := by decide +kernel
theorem d336_1722 : decode code 1722 = .ok (.iconst 0, 1) := by decide +kernel
theorem d336_1723 : decode code 1723 = .ok (.ireturn, 1) := by decide +kernel
theorem d336_1724 : decode code 1724 = .ok (.aload_n 1, 1) := by decide +kernel
theorem d336_1725 : decode code 1725 = .ok (.invokevirtual 214, 3) := by decide +kernel
theorem d336_1728 : decode code 1728 = .ok (.aload_n 2, 1) := by decide +kernel
theorem d336_1729 : decode code 1729 = .ok (.invokevirtual 217, 3) := by decide +kernel
theorem d336_1732 : decode code 1732 = .ok (.if_icmp .eq 404, 3) := by decide +kernel
theorem d336_1735 : decode code 1735 = .ok (.iconst 0, 1) := by decide +kernel
theorem d336_1736 : decode code 1736 = .ok (.ireturn, 1) := by decide +kernel
theorem d336_1737 : decode code 1737 = .ok (.aload_n 1, 1) := by decide +kernel
theorem d336_1738 : decode code 1738 = .ok (.aload_n 0, 1) := by decide +kernel
theorem d336_1739 : decode code 1739 = .ok (.iload 4, 2) := by decide +kernel
theorem d336_1741 : decode code 1741 = .ok (.iconst 1, 1) := by decide +kernel
theorem d336_1742 : decode code 1742 = .ok (.iadd, 1) := by decide +kernel
theorem d336_1743 : decode code 1743 = .ok (.iaload, 1) := by decide +kernel
theorem d336_1744 : decode code 1744 = .ok (.aload_n 0, 1) := by decide +kernel
theorem d336_1745 : decode code 1745 = .ok (.iload 4, 2) := by decide +kernel
theorem d336_1747 : decode code 1747 = .ok (.iconst 2, 1) := by decide +kernel
theorem d336_1748 : decode code 1748 = .ok (.iadd, 1) := by decide +kernel
theorem d336_1749 : decode code 1749 = .ok (.iaload, 1) := by decide +kernel
theorem d336_1750 : decode code 1750 = .ok (.aload_n 0, 1) := by decide +kernel
theorem d336_1751 : decode code 1751 = .ok (.iload 4, 2) := by decide +kernel
theorem d336_1753 : decode code 1753 = .ok (.iconst 3, 1) := by decide +kernel
theorem d336_1754 : decode code 1754 = .ok (.iadd, 1) := by decide +kernel
theorem d336_1755 : decode code 1755 = .ok (.iaload, 1) := by decide +kernel
theorem d336_1756 : decode code 1756 = .ok (.aload_n 0, 1) := by decide +kernel
theorem d336_1757 : decode code 1757 = .ok (.iload 4, 2) := by decide +kernel
theorem d336_1759 : decode code 1759 = .ok (.iconst 4, 1) := by decide +kernel
theorem d336_1760 : decode code 1760 = .ok (.iadd, 1) := by decide +kernel
theorem d336_1761 : decode code 1761 = .ok (.iaload, 1) := by decide +kernel
theorem d336_1762 : decode code 1762 = .ok (.aload_n 3, 1) := by decide +kernel
theorem d336_1763 : decode code 1763 = .ok (.invokestatic 218, 3) := by decide +kernel
theorem d336_1766 : decode code 1766 = .ok (.istore 5, 2) := by decide +kernel
theorem d336_1768 : decode code 1768 = .ok (.aload_n 2, 1) := by decide +kernel
theorem d336_1769 : decode code 1769 = .ok (.aload_n 0, 1) := by decide +kernel
theorem d336_1770 : decode code 1770 = .ok (.iload 4, 2) := by decide +kernel
theorem d336_1772 : decode code 1772 = .ok (.iconst 1, 1) := by decide +kernel
theorem d336_1773 : decode code 1773 = .ok (.iadd, 1) := by decide +kernel
theorem d336_1774 : decode code 1774 = .ok (.iaload, 1) := by decide +kernel
theorem d336_1775 : decode code 1775 = .ok (.aload_n 0, 1) := by decide +kernel
theorem d336_1776 : decode code 1776 = .ok (.iload 4, 2) := by decide +kernel
theorem d336_1778 : decode code 1778 = .ok (.iconst 2, 1) := by decide +kernel
theorem d336_1779 : decode code 1779 = .ok (.iadd, 1) := by decide +kernel
theorem d336_1780 : decode code 1780 = .ok (.iaload, 1) := by decide +kernel
theorem d336_1781 : decode code 1781 = .ok (.aload_n 0, 1) := by decide +kernel
theorem d336_1782 : decode code 1782 = .ok (.iload 4, 2) := by decide +kernel
theorem d336_1784 : decode code 1784 = .ok (.iconst 3, 1) := by decide +kernel
theorem d336_1785 : decode code 1785 = .ok (.iadd, 1) := by decide +kernel
theorem d336_1786 : decode code 1786 = .ok (.iaload, 1) := by decide +kernel
theorem d336_1787 : decode code 1787 = .ok (.aload_n 0, 1) := by decide +kernel
theorem d336_1788 : decode code 1788 = .ok (.iload 4, 2) := by decide +kernel
theorem d336_1790 : decode code 1790 = .ok (.iconst 4, 1) := by decide +kernel
theorem d336_1791 : decode code 1791 = .ok (.iadd, 1) := by decide +kernel
theorem d336_1792 : decode code 1792 = .ok (.iaload, 1) := by decide +kernel
theorem d336_1793 : decode code 1793 = .ok (.invokevirtual 220, 3) := by decide +kernel
theorem d336_1796 : decode code 1796 = .ok (.istore 6, 2) := by decide +kernel
theorem d336_1798 : decode code 1798 = .ok (.aload_n 2, 1) := by decide +kernel
theorem d336_1799 : decode code 1799 = .ok (.invokevirtual 105, 3) := by decide +kernel
theorem d336_1802 : decode code 1802 = .ok (.iload 5, 2) := by decide +kernel
theorem d336_1804 : decode code 1804 = .ok (.if_icmp .eq 5, 3) := by decide +kernel
theorem d336_1807 : decode code 1807 = .ok (.iconst 0, 1) := by decide +kernel
theorem d336_1808 : decode code 1808 = .ok (.ireturn, 1) := by decide +kernel
theorem d336_1809 : decode code 1809 = .ok (.iload 5, 2) := by decide +kernel
theorem d336_1811 : decode code 1811 = .ok (.ifCond .ne 15, 3) := by decide +kernel
theorem d336_1814 : decode code 1814 = .ok (.aload_n 3, 1) := by decide +kernel
theorem d336_1815 : decode code 1815 = .ok (.iconst 0, 1) := by decide +kernel
theorem d336_1816 : decode code 1816 = .ok (.laload, 1) := by decide +kernel
theorem d336_1817 : decode code 1817 = .ok (.iload 6, 2) := by decide +kernel
theorem d336_1819 : decode code 1819 = .ok (.i2l, 1) := by decide +kernel
theorem d336_1820 : decode code 1820 = .ok (.lcmp, 1) := by decide +kernel
theorem d336_1821 : decode code 1821 = .ok (.ifCond .eq 5, 3) := by decide +kernel
theorem d336_1824 : decode code 1824 = .ok (.iconst 0, 1) := by decide +kernel
theorem d336_1825 : decode code 1825 = .ok (.ireturn, 1) := by decide +kernel
theorem d336_1826 : decode code 1826 = .ok (.goto 310, 3) := by decide +kernel
theorem d336_1829 : decode code 1829 = .ok (.aload_n 1, 1) := by decide +kernel
theorem d336_1830 : decode code 1830 = .ok (.aload_n 0, 1) := by decide +kernel
theorem d336_1831 : decode code 1831 = .ok (.iload 4, 2) := by decide +kernel
theorem d336_1833 : decode code 1833 = .ok (.iconst 1, 1) := by decide +kernel
theorem d336_1834 : decode code 1834 = .ok (.iadd, 1) := by decide +kernel
theorem d336_1835 : decode code 1835 = .ok (.iaload, 1) := by decide +kernel
theorem d336_1836 : decode code 1836 = .ok (.aload_n 3, 1) := by decide +kernel
theorem d336_1837 : decode code 1837 = .ok (.invokestatic 221, 3) := by decide +kernel
theorem d336_1840 : decode code 1840 = .ok (.istore 5, 2) := by decide +kernel
theorem d336_1842 : decode code 1842 = .ok (.aload_n 2, 1) := by decide +kernel
theorem d336_1843 : decode code 1843 = .ok (.aload_n 0, 1) := by decide +kernel
theorem d336_1844 : decode code 1844 = .ok (.iload 4, 2) := by decide +kernel
theorem d336_1846 : decode code 1846 = .ok (.iconst 1, 1) := by decide +kernel
theorem d336_1847 : decode code 1847 = .ok (.iadd, 1) := by decide +kernel
theorem d336_1848 : decode code 1848 = .ok (.iaload, 1) := by decide +kernel
theorem d336_1849 : decode code 1849 = .ok (.invokevirtual 223, 3) := by decide +kernel
theorem d336_1852 : decode code 1852 = .ok (.istore 6, 2) := by decide +kernel
theorem d336_1854 : decode code 1854 = .ok (.aload_n 2, 1) := by decide +kernel
theorem d336_1855 : decode code 1855 = .ok (.invokevirtual 105, 3) := by decide +kernel
theorem d336_1858 : decode code 1858 = .ok (.iload 5, 2) := by decide +kernel
theorem d336_1860 : decode code 1860 = .ok (.if_icmp .eq 5, 3) := by decide +kernel
theorem d336_1863 : decode code 1863 = .ok (.iconst 0, 1) := by decide +kernel
theorem d336_1864 : decode code 1864 = .ok (.ireturn, 1) := by decide +kernel
theorem d336_1865 : decode code 1865 = .ok (.iload 5, 2) := by decide +kernel
theorem d336_1867 : decode code 1867 = .ok (.ifCond .ne 15, 3) := by decide +kernel
theorem d336_1870 : decode code 1870 = .ok (.aload_n 3, 1) := by decide +kernel
theorem d336_1871 : decode code 1871 = .ok (.iconst 0, 1) := by decide +kernel
theorem d336_1872 : decode code 1872 = .ok (.laload, 1) := by decide +kernel
theorem d336_1873 : decode code 1873 = .ok (.iload 6, 2) := by decide +kernel
theorem d336_1875 : decode code 1875 = .ok (.i2l, 1) := by decide +kernel
theorem d336_1876 : decode code 1876 = .ok (.lcmp, 1) := by decide +kernel
theorem d336_1877 : decode code 1877 = .ok (.ifCond .eq 5, 3) := by decide +kernel
theorem d336_1880 : decode code 1880 = .ok (.iconst 0, 1) := by decide +kernel
theorem d336_1881 : decode code 1881 = .ok (.ireturn, 1) := by decide +kernel
theorem d336_1882 : decode code 1882 = .ok (.goto 254, 3) := by decide +kernel
theorem d336_1885 : decode code 1885 = .ok (.aload_n 1, 1) := by decide +kernel
theorem d336_1886 : decode code 1886 = .ok (.aload_n 0, 1) := by decide +kernel
theorem d336_1887 : decode code 1887 = .ok (.iload 4, 2) := by decide +kernel
theorem d336_1889 : decode code 1889 = .ok (.iconst 1, 1) := by decide +kernel
theorem d336_1890 : decode code 1890 = .ok (.iadd, 1) := by decide +kernel
theorem d336_1891 : decode code 1891 = .ok (.iaload, 1) := by decide +kernel
theorem d336_1892 : decode code 1892 = .ok (.aload_n 3, 1) := by decide +kernel
theorem d336_1893 : decode code 1893 = .ok (.invokestatic 224, 3) := by decide +kernel
theorem d336_1896 : decode code 1896 = .ok (.istore 5, 2) := by decide +kernel
theorem d336_1898 : decode code 1898 = .ok (.aload_n 2, 1) := by decide +kernel
theorem d336_1899 : decode code 1899 = .ok (.aload_n 0, 1) := by decide +kernel
theorem d336_1900 : decode code 1900 = .ok (.iload 4, 2) := by decide +kernel
theorem d336_1902 : decode code 1902 = .ok (.iconst 1, 1) := by decide +kernel
theorem d336_1903 : decode code 1903 = .ok (.iadd, 1) := by decide +kernel
theorem d336_1904 : decode code 1904 = .ok (.iaload, 1) := by decide +kernel
theorem d336_1905 : decode code 1905 = .ok (.invokevirtual 226, 3) := by decide +kernel
theorem d336_1908 : decode code 1908 = .ok (.istore 6, 2) := by decide +kernel
theorem d336_1910 : decode code 1910 = .ok (.aload_n 2, 1) := by decide +kernel
theorem d336_1911 : decode code 1911 = .ok (.invokevirtual 105, 3) := by decide +kernel
theorem d336_1914 : decode code 1914 = .ok (.iload 5, 2) := by decide +kernel
theorem d336_1916 : decode code 1916 = .ok (.if_icmp .eq 5, 3) := by decide +kernel
theorem d336_1919 : decode code 1919 = .ok (.iconst 0, 1) := by decide +kernel
theorem d336_1920 : decode code 1920 = .ok (.ireturn, 1) := by decide +kernel
theorem d336_1921 : decode code 1921 = .ok (.iload 5, 2) := by decide +kernel
theorem d336_1923 : decode code 1923 = .ok (.ifCond .ne 15, 3) := by decide +kernel
theorem d336_1926 : decode code 1926 = .ok (.aload_n 3, 1) := by decide +kernel
theorem d336_1927 : decode code 1927 = .ok (.iconst 0, 1) := by decide +kernel
theorem d336_1928 : decode code 1928 = .ok (.laload, 1) := by decide +kernel
theorem d336_1929 : decode code 1929 = .ok (.iload 6, 2) := by decide +kernel
theorem d336_1931 : decode code 1931 = .ok (.i2l, 1) := by decide +kernel
theorem d336_1932 : decode code 1932 = .ok (.lcmp, 1) := by decide +kernel
theorem d336_1933 : decode code 1933 = .ok (.ifCond .eq 5, 3) := by decide +kernel
theorem d336_1936 : decode code 1936 = .ok (.iconst 0, 1) := by decide +kernel
theorem d336_1937 : decode code 1937 = .ok (.ireturn, 1) := by decide +kernel
theorem d336_1938 : decode code 1938 = .ok (.goto 198, 3) := by decide +kernel
theorem d336_1941 : decode code 1941 = .ok (.aload_n 1, 1) := by decide +kernel
theorem d336_1942 : decode code 1942 = .ok (.invokevirtual 227, 3) := by decide +kernel
theorem d336_1945 : decode code 1945 = .ok (.aload_n 2, 1) := by decide +kernel
theorem d336_1946 : decode code 1946 = .ok (.invokevirtual 230, 3) := by decide +kernel
theorem d336_1949 : decode code 1949 = .ok (.goto 187, 3) := by decide +kernel
theorem d336_1952 : decode code 1952 = .ok (.aload_n 1, 1) := by decide +kernel
theorem d336_1953 : decode code 1953 = .ok (.aload_n 0, 1) := by decide +kernel
theorem d336_1954 : decode code 1954 = .ok (.iload 4, 2) := by decide +kernel
theorem d336_1956 : decode code 1956 = .ok (.iconst 1, 1) := by decide +kernel
theorem d336_1957 : decode code 1957 = .ok (.iadd, 1) := by decide +kernel
theorem d336_1958 : decode code 1958 = .ok (.iaload, 1) := by decide +kernel
theorem d336_1959 : decode code 1959 = .ok (.aload_n 0, 1) := by decide +kernel
theorem d336_1960 : decode code 1960 = .ok (.iload 4, 2) := by decide +kernel
theorem d336_1962 : decode code 1962 = .ok (.iconst 2, 1) := by decide +kernel
theorem d336_1963 : decode code 1963 = .ok (.iadd, 1) := by decide +kernel
theorem d336_1964 : decode code 1964 = .ok (.iaload, 1) := by decide +kernel
theorem d336_1965 : decode code 1965 = .ok (.aload_n 0, 1) := by decide +kernel
theorem d336_1966 : decode code 1966 = .ok (.iload 4, 2) := by decide +kernel
theorem d336_1968 : decode code 1968 = .ok (.iconst 3, 1) := by decide +kernel
theorem d336_1969 : decode code 1969 = .ok (.iadd, 1) := by decide +kernel
theorem d336_1970 : decode code 1970 = .ok (.iaload, 1) := by decide +kernel
theorem d336_1971 : decode code 1971 = .ok (.aload_n 3, 1) := by decide +kernel
theorem d336_1972 : decode code 1972 = .ok (.invokestatic 231, 3) := by decide +kernel
theorem d336_1975 : decode code 1975 = .ok (.istore 5, 2) := by decide +kernel
theorem d336_1977 : decode code 1977 = .ok (.aload_n 2, 1) := by decide +kernel
theorem d336_1978 : decode code 1978 = .ok (.aload_n 0, 1) := by decide +kernel
theorem d336_1979 : decode code 1979 = .ok (.iload 4, 2) := by decide +kernel
theorem d336_1981 : decode code 1981 = .ok (.iconst 1, 1) := by decide +kernel
theorem d336_1982 : decode code 1982 = .ok (.iadd, 1) := by decide +kernel
theorem d336_1983 : decode code 1983 = .ok (.iaload, 1) := by decide +kernel
theorem d336_1984 : decode code 1984 = .ok (.aload_n 0, 1) := by decide +kernel
theorem d336_1985 : decode code 1985 = .ok (.iload 4, 2) := by decide +kernel
theorem d336_1987 : decode code 1987 = .ok (.iconst 2, 1) := by decide +kernel
theorem d336_1988 : decode code 1988 = .ok (.iadd, 1) := by decide +kernel
theorem d336_1989 : decode code 1989 = .ok (.iaload, 1) := by decide +kernel
theorem d336_1990 : decode code 1990 = .ok (.aload_n 0, 1) := by decide +kernel
theorem d336_1991 : decode code 1991 = .ok (.iload 4, 2) := by decide +kernel
theorem d336_1993 : decode code 1993 = .ok (.iconst 3, 1) := by decide +kernel
theorem d336_1994 : decode code 1994 = .ok (.iadd, 1) := by decide +kernel
theorem d336_1995 : decode code 1995 = .ok (.iaload, 1) := by decide +kernel
theorem d336_1996 : decode code 1996 = .ok (.invokevirtual 233, 3) := by decide +kernel
theorem d336_1999 : decode code 1999 = .ok (.istore 6, 2) := by decide +kernel
theorem d336_2001 : decode code 2001 = .ok (.aload_n 2, 1) := by decide +kernel
theorem d336_2002 : decode code 2002 = .ok (.invokevirtual 105, 3) := by decide +kernel
theorem d336_2005 : decode code 2005 = .ok (.iload 5, 2) := by decide +kernel
theorem d336_2007 : decode code 2007 = .ok (.if_icmp .eq 5, 3) := by decide +kernel
theorem d336_2010 : decode code 2010 = .ok (.iconst 0, 1) := by decide +kernel
theorem d336_2011 : decode code 2011 = .ok (.ireturn, 1) := by decide +kernel
theorem d336_2012 : decode code 2012 = .ok (.iload 5, 2) := by decide +kernel
theorem d336_2014 : decode code 2014 = .ok (.ifCond .ne 15, 3) := by decide +kernel
theorem d336_2017 : decode code 2017 = .ok (.aload_n 3, 1) := by decide +kernel
theorem d336_2018 : decode code 2018 = .ok (.iconst 0, 1) := by decide +kernel
theorem d336_2019 : decode code 2019 = .ok (.laload, 1) := by decide +kernel
theorem d336_2020 : decode code 2020 = .ok (.iload 6, 2) := by decide +kernel
theorem d336_2022 : decode code 2022 = .ok (.i2l, 1) := by decide +kernel
theorem d336_2023 : decode code 2023 = .ok (.lcmp, 1) := by decide +kernel
theorem d336_2024 : decode code 2024 = .ok (.ifCond .eq 5, 3) := by decide +kernel
theorem d336_2027 : decode code 2027 = .ok (.iconst 0, 1) := by decide +kernel
theorem d336_2028 : decode code 2028 = .ok (.ireturn, 1) := by decide +kernel
theorem d336_2029 : decode code 2029 = .ok (.goto 107, 3) := by decide +kernel
theorem d336_2032 : decode code 2032 = .ok (.aload_n 1, 1) := by decide +kernel
theorem d336_2033 : decode code 2033 = .ok (.aload_n 0, 1) := by decide +kernel
theorem d336_2034 : decode code 2034 = .ok (.iload 4, 2) := by decide +kernel
theorem d336_2036 : decode code 2036 = .ok (.iconst 1, 1) := by decide +kernel
theorem d336_2037 : decode code 2037 = .ok (.iadd, 1) := by decide +kernel
theorem d336_2038 : decode code 2038 = .ok (.iaload, 1) := by decide +kernel
theorem d336_2039 : decode code 2039 = .ok (.aload_n 0, 1) := by decide +kernel
theorem d336_2040 : decode code 2040 = .ok (.iload 4, 2) := by decide +kernel
theorem d336_2042 : decode code 2042 = .ok (.iconst 2, 1) := by decide +kernel
theorem d336_2043 : decode code 2043 = .ok (.iadd, 1) := by decide +kernel
theorem d336_2044 : decode code 2044 = .ok (.iaload, 1) := by decide +kernel
theorem d336_2045 : decode code 2045 = .ok (.aload_n 0, 1) := by decide +kernel
theorem d336_2046 : decode code 2046 = .ok (.iload 4, 2) := by decide +kernel
theorem d336_2048 : decode code 2048 = .ok (.iconst 3, 1) := by decide +kernel
theorem d336_2049 : decode code 2049 = .ok (.iadd, 1) := by decide +kernel
theorem d336_2050 : decode code 2050 = .ok (.iaload, 1) := by decide +kernel
theorem d336_2051 : decode code 2051 = .ok (.aload_n 3, 1) := by decide +kernel
theorem d336_2052 : decode code 2052 = .ok (.invokestatic 234, 3) := by decide +kernel
theorem d336_2055 : decode code 2055 = .ok (.istore 5, 2) := by decide +kernel
theorem d336_2057 : decode code 2057 = .ok (.aload_n 2, 1) := by decide +kernel
theorem d336_2058 : decode code 2058 = .ok (.aload_n 0, 1) := by decide +kernel
theorem d336_2059 : decode code 2059 = .ok (.iload 4, 2) := by decide +kernel
theorem d336_2061 : decode code 2061 = .ok (.iconst 1, 1) := by decide +kernel
theorem d336_2062 : decode code 2062 = .ok (.iadd, 1) := by decide +kernel
theorem d336_2063 : decode code 2063 = .ok (.iaload, 1) := by decide +kernel
theorem d336_2064 : decode code 2064 = .ok (.aload_n 0, 1) := by decide +kernel
theorem d336_2065 : decode code 2065 = .ok (.iload 4, 2) := by decide +kernel
theorem d336_2067 : decode code 2067 = .ok (.iconst 2, 1) := by decide +kernel
theorem d336_2068 : decode code 2068 = .ok (.iadd, 1) := by decide +kernel
theorem d336_2069 : decode code 2069 = .ok (.iaload, 1) := by decide +kernel
theorem d336_2070 : decode code 2070 = .ok (.aload_n 0, 1) := by decide +kernel
theorem d336_2071 : decode code 2071 = .ok (.iload 4, 2) := by decide +kernel
theorem d336_2073 : decode code 2073 = .ok (.iconst 3, 1) := by decide +kernel
theorem d336_2074 : decode code 2074 = .ok (.iadd, 1) := by decide +kernel
theorem d336_2075 : decode code 2075 = .ok (.iaload, 1) := by decide +kernel
theorem d336_2076 : decode code 2076 = .ok (.invokevirtual 236, 3) := by decide +kernel
theorem d336_2079 : decode code 2079 = .ok (.istore 6, 2) := by decide +kernel
theorem d336_2081 : decode code 2081 = .ok (.aload_n 2, 1) := by decide +kernel
theorem d336_2082 : decode code 2082 = .ok (.invokevirtual 105, 3) := by decide +kernel
theorem d336_2085 : decode code 2085 = .ok (.iload 5, 2) := by decide +kernel
theorem d336_2087 : decode code 2087 = .ok (.if_icmp .eq 5, 3) := by decide +kernel
theorem d336_2090 : decode code 2090 = .ok (.iconst 0, 1) := by decide +kernel
theorem d336_2091 : decode code 2091 = .ok (.ireturn, 1) := by decide +kernel
theorem d336_2092 : decode code 2092 = .ok (.iload 5, 2) := by decide +kernel
theorem d336_2094 : decode code 2094 = .ok (.ifCond .ne 15, 3) := by decide +kernel
theorem d336_2097 : decode code 2097 = .ok (.aload_n 3, 1) := by decide +kernel
theorem d336_2098 : decode code 2098 = .ok (.iconst 0, 1) := by decide +kernel
theorem d336_2099 : decode code 2099 = .ok (.laload, 1) := by decide +kernel
theorem d336_2100 : decode code 2100 = .ok (.iload 6, 2) := by decide +kernel
theorem d336_2102 : decode code 2102 = .ok (.i2l, 1) := by decide +kernel
theorem d336_2103 : decode code 2103 = .ok (.lcmp, 1) := by decide +kernel
theorem d336_2104 : decode code 2104 = .ok (.ifCond .eq 5, 3) := by decide +kernel
theorem d336_2107 : decode code 2107 = .ok (.iconst 0, 1) := by decide +kernel
theorem d336_2108 : decode code 2108 = .ok (.ireturn, 1) := by decide +kernel
theorem d336_2109 : decode code 2109 = .ok (.goto 27, 3) := by decide +kernel
theorem d336_2112 : decode code 2112 = .ok (.aload_n 1, 1) := by decide +kernel
theorem d336_2113 : decode code 2113 = .ok (.invokevirtual 237, 3) := by decide +kernel
theorem d336_2116 : decode code 2116 = .ok (.aload_n 2, 1) := by decide +kernel
theorem d336_2117 : decode code 2117 = .ok (.invokevirtual 240, 3) := by decide +kernel
theorem d336_2120 : decode code 2120 = .ok (.goto 16, 3) := by decide +kernel
theorem d336_2123 : decode code 2123 = .ok (.aload_n 1, 1) := by decide +kernel
theorem d336_2124 : decode code 2124 = .ok (.invokevirtual 241, 3) := by decide +kernel
theorem d336_2127 : decode code 2127 = .ok (.aload_n 2, 1) := by decide +kernel
theorem d336_2128 : decode code 2128 = .ok (.invokevirtual 245, 3) := by decide +kernel
theorem d336_2131 : decode code 2131 = .ok (.if_icmp .eq 5, 3) := by decide +kernel
theorem d336_2134 : decode code 2134 = .ok (.iconst 0, 1) := by decide +kernel
theorem d336_2135 : decode code 2135 = .ok (.ireturn, 1) := by decide +kernel
theorem d336_2136 : decode code 2136 = .ok (.iinc 4 6, 3) := by decide +kernel
theorem d336_2139 : decode code 2139 = .ok (.goto (-2116), 3) := by decide +kernel
theorem d336_2142 : decode code 2142 = .ok (.iconst 1, 1) := by decide +kernel
theorem d336_2143 : decode code 2143 = .ok (.ireturn, 1) := by decide +kernel
