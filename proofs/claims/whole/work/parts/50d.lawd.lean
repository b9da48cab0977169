theorem dL_law__1542 : decode cL_law_ 1542 = .ok (.iadd, 1) := by decide +kernel
theorem dL_law__1543 : decode cL_law_ 1543 = .ok (.iaload, 1) := by decide +kernel
theorem dL_law__1544 : decode cL_law_ 1544 = .ok (.aload_n 0, 1) := by decide +kernel
theorem dL_law__1545 : decode cL_law_ 1545 = .ok (.iload 4, 2) := by decide +kernel
theorem dL_law__1547 : decode cL_law_ 1547 = .ok (.iconst 2, 1) := by decide +kernel
theorem dL_law__1548 : decode cL_law_ 1548 = .ok (.iadd, 1) := by decide +kernel
theorem dL_law__1549 : decode cL_law_ 1549 = .ok (.iaload, 1) := by decide +kernel
theorem dL_law__1550 : decode cL_law_ 1550 = .ok (.aload_n 0, 1) := by decide +kernel
theorem dL_law__1551 : decode cL_law_ 1551 = .ok (.iload 4, 2) := by decide +kernel
theorem dL_law__1553 : decode cL_law_ 1553 = .ok (.iconst 3, 1) := by decide +kernel
theorem dL_law__1554 : decode cL_law_ 1554 = .ok (.iadd, 1) := by decide +kernel
theorem dL_law__1555 : decode cL_law_ 1555 = .ok (.iaload, 1) := by decide +kernel
theorem dL_law__1556 : decode cL_law_ 1556 = .ok (.aload_n 3, 1) := by decide +kernel
theorem dL_law__1557 : decode cL_law_ 1557 = .ok (.invokestatic 200, 3) := by decide +kernel
theorem dL_law__1560 : decode cL_law_ 1560 = .ok (.istore 5, 2) := by decide +kernel
theorem dL_law__1562 : decode cL_law_ 1562 = .ok (.aload_n 2, 1) := by decide +kernel
theorem dL_law__1563 : decode cL_law_ 1563 = .ok (.aload_n 0, 1) := by decide +kernel
theorem dL_law__1564 : decode cL_law_ 1564 = .ok (.iload 4, 2) := by decide +kernel
theorem dL_law__1566 : decode cL_law_ 1566 = .ok (.iconst 1, 1) := by decide +kernel
theorem dL_law__1567 : decode cL_law_ 1567 = .ok (.iadd, 1) := by decide +kernel
theorem dL_law__1568 : decode cL_law_ 1568 = .ok (.iaload, 1) := by decide +kernel
theorem dL_law__1569 : decode cL_law_ 1569 = .ok (.aload_n 0, 1) := by decide +kernel
theorem dL_law__1570 : decode cL_law_ 1570 = .ok (.iload 4, 2) := by decide +kernel
theorem dL_law__1572 : decode cL_law_ 1572 = .ok (.iconst 2, 1) := by decide +kernel
theorem dL_law__1573 : decode cL_law_ 1573 = .ok (.iadd, 1) := by decide +kernel
theorem dL_law__1574 : decode cL_law_ 1574 = .ok (.iaload, 1) := by decide +kernel
theorem dL_law__1575 : decode cL_law_ 1575 = .ok (.aload_n 0, 1) := by decide +kernel
theorem dL_law__1576 : decode cL_law_ 1576 = .ok (.iload 4, 2) := by decide +kernel
theorem dL_law__1578 : decode cL_law_ 1578 = .ok (.iconst 3, 1) := by decide +kernel
theorem dL_law__1579 : decode cL_law_ 1579 = .ok (.iadd, 1) := by decide +kernel
theorem dL_law__1580 : decode cL_law_ 1580 = .ok (.iaload, 1) := by decide +kernel
theorem dL_law__1581 : decode cL_law_ 1581 = .ok (.invokevirtual 202, 3) := by decide +kernel
theorem dL_law__1584 : decode cL_law_ 1584 = .ok (.istore 6, 2) := by decide +kernel
theorem dL_law__1586 : decode cL_law_ 1586 = .ok (.aload_n 2, 1) := by decide +kernel
theorem dL_law__1587 : decode cL_law_ 1587 = .ok (.invokevirtual 134, 3) := by decide +kernel
theorem dL_law__1590 : decode cL_law_ 1590 = .ok (.iload 5, 2) := by decide +kernel
theorem dL_law__1592 : decode cL_law_ 1592 = .ok (.if_icmp .eq 5, 3) := by decide +kernel
theorem dL_law__1595 : decode cL_law_ 1595 = .ok (.iconst 0, 1) := by decide +kernel
theorem dL_law__1596 : decode cL_law_ 1596 = .ok (.ireturn, 1) := by decide +kernel
theorem dL_law__1597 : decode cL_law_ 1597 = .ok (.iload 5, 2) := by decide +kernel
theorem dL_law__1599 : decode cL_law_ 1599 = .ok (.ifCond .ne 15, 3) := by decide +kernel
theorem dL_law__1602 : decode cL_law_ 1602 = .ok (.aload_n 3, 1) := by decide +kernel
theorem dL_law__1603 : decode cL_law_ 1603 = .ok (.iconst 0, 1) := by decide +kernel
theorem dL_law__1604 : decode cL_law_ 1604 = .ok (.laload, 1) := by decide +kernel
theorem dL_law__1605 : decode cL_law_ 1605 = .ok (.iload 6, 2) := by decide +kernel
theorem dL_law__1607 : decode cL_law_ 1607 = .ok (.i2l, 1) := by decide +kernel
theorem dL_law__1608 : decode cL_law_ 1608 = .ok (.lcmp, 1) := by decide +kernel
theorem dL_law__1609 : decode cL_law_ 1609 = .ok (.ifCond .eq 5, 3) := by decide +kernel
theorem dL_law__1612 : decode cL_law_ 1612 = .ok (.iconst 0, 1) := by decide +kernel
theorem dL_law__1613 : decode cL_law_ 1613 = .ok (.ireturn, 1) := by decide +kernel
theorem dL_law__1614 : decode cL_law_ 1614 = .ok (.goto 1129, 3) := by decide +kernel
theorem dL_law__1617 : decode cL_law_ 1617 = .ok (.aload_n 1, 1) := by decide +kernel
theorem dL_law__1618 : decode cL_law_ 1618 = .ok (.aload_n 0, 1) := by decide +kernel
theorem dL_law__1619 : decode cL_law_ 1619 = .ok (.iload 4, 2) := by decide +kernel
theorem dL_law__1621 : decode cL_law_ 1621 = .ok (.iconst 1, 1) := by decide +kernel
theorem dL_law__1622 : decode cL_law_ 1622 = .ok (.iadd, 1) := by decide +kernel
theorem dL_law__1623 : decode cL_law_ 1623 = .ok (.iaload, 1) := by decide +kernel
theorem dL_law__1624 : decode cL_law_ 1624 = .ok (.aload_n 0, 1) := by decide +kernel
theorem dL_law__1625 : decode cL_law_ 1625 = .ok (.iload 4, 2) := by decide +kernel
theorem dL_law__1627 : decode cL_law_ 1627 = .ok (.iconst 2, 1) := by decide +kernel
theorem dL_law__1628 : decode cL_law_ 1628 = .ok (.iadd, 1) := by decide +kernel
theorem dL_law__1629 : decode cL_law_ 1629 = .ok (.iaload, 1) := by decide +kernel
theorem dL_law__1630 : decode cL_law_ 1630 = .ok (.aload_n 0, 1) := by decide +kernel
theorem dL_law__1631 : decode cL_law_ 1631 = .ok (.iload 4, 2) := by decide +kernel
theorem dL_law__1633 : decode cL_law_ 1633 = .ok (.iconst 3, 1) := by decide +kernel
theorem dL_law__1634 : decode cL_law_ 1634 = .ok (.iadd, 1) := by decide +kernel
theorem dL_law__1635 : decode cL_law_ 1635 = .ok (.iaload, 1) := by decide +kernel
theorem dL_law__1636 : decode cL_law_ 1636 = .ok (.aload_n 0, 1) := by decide +kernel
theorem dL_law__1637 : decode cL_law_ 1637 = .ok (.iload 4, 2) := by decide +kernel
theorem dL_law__1639 : decode cL_law_ 1639 = .ok (.iconst 4, 1) := by decide +kernel
theorem dL_law__1640 : decode cL_law_ 1640 = .ok (.iadd, 1) := by decide +kernel
theorem dL_law__1641 : decode cL_law_ 1641 = .ok (.iaload, 1) := by decide +kernel
theorem dL_law__1642 : decode cL_law_ 1642 = .ok (.aload_n 3, 1) := by decide +kernel
theorem dL_law__1643 : decode cL_law_ 1643 = .ok (.invokestatic 203, 3) := by decide +kernel
theorem dL_law__1646 : decode cL_law_ 1646 = .ok (.istore 5, 2) := by decide +kernel
theorem dL_law__1648 : decode cL_law_ 1648 = .ok (.aload_n 2, 1) := by decide +kernel
theorem dL_law__1649 : decode cL_law_ 1649 = .ok (.aload_n 0, 1) := by decide +kernel
theorem dL_law__1650 : decode cL_law_ 1650 = .ok (.iload 4, 2) := by decide +kernel
theorem dL_law__1652 : decode cL_law_ 1652 = .ok (.iconst 1, 1) := by decide +kernel
theorem dL_law__1653 : decode cL_law_ 1653 = .ok (.iadd, 1) := by decide +kernel
theorem dL_law__1654 : decode cL_law_ 1654 = .ok (.iaload, 1) := by decide +kernel
theorem dL_law__1655 : decode cL_law_ 1655 = .ok (.aload_n 0, 1) := by decide +kernel
theorem dL_law__1656 : decode cL_law_ 1656 = .ok (.iload 4, 2) := by decide +kernel
theorem dL_law__1658 : decode cL_law_ 1658 = .ok (.iconst 2, 1) := by decide +kernel
theorem dL_law__1659 : decode cL_law_ 1659 = .ok (.iadd, 1) := by decide +kernel
theorem dL_law__1660 : decode cL_law_ 1660 = .ok (.iaload, 1) := by decide +kernel
theorem dL_law__1661 : decode cL_law_ 1661 = .ok (.aload_n 0, 1) := by decide +kernel
theorem dL_law__1662 : decode cL_law_ 1662 = .ok (.iload 4, 2) := by decide +kernel
theorem dL_law__1664 : decode cL_law_ 1664 = .ok (.iconst 3, 1) := by decide +kernel
theorem dL_law__1665 : decode cL_law_ 1665 = .ok (.iadd, 1) := by decide +kernel
theorem dL_law__1666 : decode cL_law_ 1666 = .ok (.iaload, 1) := by decide +kernel
theorem dL_law__1667 : decode cL_law_ 1667 = .ok (.aload_n 0, 1) := by decide +kernel
theorem dL_law__1668 : decode cL_law_ 1668 = .ok (.iload 4, 2) := by decide +kernel
theorem dL_law__1670 : decode cL_law_ 1670 = .ok (.iconst 4, 1) := by decide +kernel
theorem dL_law__1671 : decode cL_law_ 1671 = .ok (.iadd, 1) := by decide +kernel
theorem dL_law__1672 : decode cL_law_ 1672 = .ok (.iaload, 1) := by decide +kernel
theorem dL_law__1673 : decode cL_law_ 1673 = .ok (.invokevirtual 206, 3) := by decide +kernel
theorem dL_law__1676 : decode cL_law_ 1676 = .ok (.istore 6, 2) := by decide +kernel
theorem dL_law__1678 : decode cL_law_ 1678 = .ok (.aload_n 2, 1) := by decide +kernel
theorem dL_law__1679 : decode cL_law_ 1679 = .ok (.invokevirtual 134, 3) := by decide +kernel
theorem dL_law__1682 : decode cL_law_ 1682 = .ok (.iload 5, 2) := by decide +kernel
theorem dL_law__1684 : decode cL_law_ 1684 = .ok (.if_icmp .eq 5, 3) := by decide +kernel
theorem dL_law__1687 : decode cL_law_ 1687 = .ok (.iconst 0, 1) := by decide +kernel
theorem dL_law__1688 : decode cL_law_ 1688 = .ok (.ireturn, 1) := by decide +kernel
theorem dL_law__1689 : decode cL_law_ 1689 = .ok (.iload 5, 2) := by decide +kernel
theorem dL_law__1691 : decode cL_law_ 1691 = .ok (.ifCond .ne 15, 3) := by decide +kernel
theorem dL_law__1694 : decode cL_law_ 1694 = .ok (.aload_n 3, 1) := by decide +kernel
theorem dL_law__1695 : decode cL_law_ 1695 = .ok (.iconst 0, 1) := by decide +kernel
theorem dL_law__1696 : decode cL_law_ 1696 = .ok (.laload, 1) := by decide +kernel
theorem dL_law__1697 : decode cL_law_ 1697 = .ok (.iload 6, 2) := by decide +kernel
theorem dL_law__1699 : decode cL_law_ 1699 = .ok (.i2l, 1) := by decide +kernel
theorem dL_law__1700 : decode cL_law_ 1700 = .ok (.lcmp, 1) := by decide +kernel
theorem dL_law__1701 : decode cL_law_ 1701 = .ok (.ifCond .eq 5, 3) := by decide +kernel
theorem dL_law__1704 : decode cL_law_ 1704 = .ok (.iconst 0, 1) := by decide +kernel
theorem dL_law__1705 : decode cL_law_ 1705 = .ok (.ireturn, 1) := by decide +kernel
theorem dL_law__1706 : decode cL_law_ 1706 = .ok (.goto 1037, 3) := by decide +kernel
theorem dL_law__1709 : decode cL_law_ 1709 = .ok (.aload_n 1, 1) := by decide +kernel
theorem dL_law__1710 : decode cL_law_ 1710 = .ok (.aload_n 0, 1) := by decide +kernel
theorem dL_law__1711 : decode cL_law_ 1711 = .ok (.iload 4, 2) := by decide +kernel
theorem dL_law__1713 : decode cL_law_ 1713 = .ok (.iconst 1, 1) := by decide +kernel
theorem dL_law__1714 : decode cL_law_ 1714 = .ok (.iadd, 1) := by decide +kernel
theorem dL_law__1715 : decode cL_law_ 1715 = .ok (.iaload, 1) := by decide +kernel
theorem dL_law__1716 : decode cL_law_ 1716 = .ok (.aload_n 0, 1) := by decide +kernel
theorem dL_law__1717 : decode cL_law_ 1717 = .ok (.iload 4, 2) := by decide +kernel
theorem dL_law__1719 : decode cL_law_ 1719 = .ok (.iconst 2, 1) := by decide +kernel
theorem dL_law__1720 : decode cL_law_ 1720 = .ok (.iadd, 1) := by decide +kernel
theorem dL_law__1721 : decode cL_law_ 1721 = .ok (.iaload, 1) := by decide +kernel
theorem dL_law__1722 : decode cL_law_ 1722 = .ok (.aload_n 0, 1) := by decide +kernel
theorem dL_law__1723 : decode cL_law_ 1723 = .ok (.iload 4, 2) := by decide +kernel
theorem dL_law__1725 : decode cL_law_ 1725 = .ok (.iconst 3, 1) := by decide +kernel
theorem dL_law__1726 : decode cL_law_ 1726 = .ok (.iadd, 1) := by decide +kernel
theorem dL_law__1727 : decode cL_law_ 1727 = .ok (.iaload, 1) := by decide +kernel
theorem dL_law__1728 : decode cL_law_ 1728 = .ok (.aload_n 3, 1) := by decide +kernel
theorem dL_law__1729 : decode cL_law_ 1729 = .ok (.invokestatic 207, 3) := by decide +kernel
theorem dL_law__1732 : decode cL_law_ 1732 = .ok (.istore 5, 2) := by decide +kernel
theorem dL_law__1734 : decode cL_law_ 1734 = .ok (.aload_n 2, 1) := by decide +kernel
theorem dL_law__1735 : decode cL_law_ 1735 = .ok (.aload_n 0, 1) := by decide +kernel
theorem dL_law__1736 : decode cL_law_ 1736 = .ok (.iload 4, 2) := by decide +kernel
theorem dL_law__1738 : decode cL_law_ 1738 = .ok (.iconst 1, 1) := by decide +kernel
theorem dL_law__1739 : decode cL_law_ 1739 = .ok (.iadd, 1) := by decide +kernel
theorem dL_law__1740 : decode cL_law_ 1740 = .ok (.iaload, 1) := by decide +kernel
theorem dL_law__1741 : decode cL_law_ 1741 = .ok (.aload_n 0, 1) := by decide +kernel
theorem dL_law__1742 : decode cL_law_ 1742 = .ok (.iload 4, 2) := by decide +kernel
theorem dL_law__1744 : decode cL_law_ 1744 = .ok (.iconst 2, 1) := by decide +kernel
theorem dL_law__1745 : decode cL_law_ 1745 = .ok (.iadd, 1) := by decide +kernel
theorem dL_law__1746 : decode cL_law_ 1746 = .ok (.iaload, 1) := by decide +kernel
theorem dL_law__1747 : decode cL_law_ 1747 = .ok (.aload_n 0, 1) := by decide +kernel
theorem dL_law__1748 : decode cL_law_ 1748 = .ok (.iload 4, 2) := by decide +kernel
theorem dL_law__1750 : decode cL_law_ 1750 = .ok (.iconst 3, 1) := by decide +kernel
theorem dL_law__1751 : decode cL_law_ 1751 = .ok (.iadd, 1) := by decide +kernel
theorem dL_law__1752 : decode cL_law_ 1752 = .ok (.iaload, 1) := by decide +kernel
theorem dL_law__1753 : decode cL_law_ 1753 = .ok (.invokevirtual 209, 3) := by decide +kernel
theorem dL_law__1756 : decode cL_law_ 1756 = .ok (.lstore 6, 2) := by decide +kernel
theorem dL_law__1758 : decode cL_law_ 1758 = .ok (.aload_n 2, 1) := by decide +kernel
theorem dL_law__1759 : decode cL_law_ 1759 = .ok (.invokevirtual 134, 3) := by decide +kernel
theorem dL_law__1762 : decode cL_law_ 1762 = .ok (.iload 5, 2) := by decide +kernel
theorem dL_law__1764 : decode cL_law_ 1764 = .ok (.if_icmp .eq 5, 3) := by decide +kernel
theorem dL_law__1767 : decode cL_law_ 1767 = .ok (.iconst 0, 1) := by decide +kernel
theorem dL_law__1768 : decode cL_law_ 1768 = .ok (.ireturn, 1) := by decide +kernel
theorem dL_law__1769 : decode cL_law_ 1769 = .ok (.iload 5, 2) := by decide +kernel
theorem dL_law__1771 : decode cL_law_ 1771 = .ok (.ifCond .ne 14, 3) := by decide +kernel
theorem dL_law__1774 : decode cL_law_ 1774 = .ok (.aload_n 3, 1) := by decide +kernel
theorem dL_law__1775 : decode cL_law_ 1775 = .ok (.iconst 0, 1) := by decide +kernel
theorem dL_law__1776 : decode cL_law_ 1776 = .ok (.laload, 1) := by decide +kernel
theorem dL_law__1777 : decode cL_law_ 1777 = .ok (.lload 6, 2) := by decide +kernel
theorem dL_law__1779 : decode cL_law_ 1779 = .ok (.lcmp, 1) := by decide +kernel
theorem dL_law__1780 : decode cL_law_ 1780 = .ok (.ifCond .eq 5, 3) := by decide +kernel
theorem dL_law__1783 : decode cL_law_ 1783 = .ok (.iconst 0, 1) := by decide +kernel
theorem dL_law__1784 : decode cL_law_ 1784 = .ok (.ireturn, 1) := by decide +kernel
theorem dL_law__1785 : decode cL_law_ 1785 = .ok (.goto 958, 3) := by decide +kernel
theorem dL_law__1788 : decode cL_law_ 1788 = .ok (.aload_n 1, 1) := by decide +kernel
theorem dL_law__1789 : decode cL_law_ 1789 = .ok (.aload_n 0, 1) := by decide +kernel
theorem dL_law__1790 : decode cL_law_ 1790 = .ok (.iload 4, 2) := by decide +kernel
theorem dL_law__1792 : decode cL_law_ 1792 = .ok (.iconst 1, 1) := by decide +kernel
theorem dL_law__1793 : decode cL_law_ 1793 = .ok (.iadd, 1) := by decide +kernel
theorem dL_law__1794 : decode cL_law_ 1794 = .ok (.iaload, 1) := by decide +kernel
theorem dL_law__1795 : decode cL_law_ 1795 = .ok (.aload_n 0, 1) := by decide +kernel
theorem dL_law__1796 : decode cL_law_ 1796 = .ok (.iload 4, 2) := by decide +kernel
theorem dL_law__1798 : decode cL_law_ 1798 = .ok (.iconst 2, 1) := by decide +kernel
theorem dL_law__1799 : decode cL_law_ 1799 = .ok (.iadd, 1) := by decide +kernel
theorem dL_law__1800 : decode cL_law_ 1800 = .ok (.iaload, 1) := by decide +kernel
theorem dL_law__1801 : decode cL_law_ 1801 = .ok (.aload_n 0, 1) := by decide +kernel
theorem dL_law__1802 : decode cL_law_ 1802 = .ok (.iload 4, 2) := by decide +kernel
theorem dL_law__1804 : decode cL_law_ 1804 = .ok (.iconst 3, 1) := by decide +kernel
theorem dL_law__1805 : decode cL_law_ 1805 = .ok (.iadd, 1) := by decide +kernel
theorem dL_law__1806 : decode cL_law_ 1806 = .ok (.iaload, 1) := by decide +kernel
theorem dL_law__1807 : decode cL_law_ 1807 = .ok (.aload_n 3, 1) := by decide +kernel
theorem dL_law__1808 : decode cL_law_ 1808 = .ok (.invokestatic 210, 3) := by decide +kernel
theorem dL_law__1811 : decode cL_law_ 1811 = .ok (.istore 5, 2) := by decide +kernel
theorem dL_law__1813 : decode cL_law_ 1813 = .ok (.aload_n 2, 1) := by decide +kernel
theorem dL_law__1814 : decode cL_law_ 1814 = .ok (.aload_n 0, 1) := by decide +kernel
theorem dL_law__1815 : decode cL_law_ 1815 = .ok (.iload 4, 2) := by decide +kernel
theorem dL_law__1817 : decode cL_law_ 1817 = .ok (.iconst 1, 1) := by decide +kernel
theorem dL_law__1818 : decode cL_law_ 1818 = .ok (.iadd, 1) := by decide +kernel
theorem dL_law__1819 : decode cL_law_ 1819 = .ok (.iaload, 1) := by decide +kernel
theorem dL_law__1820 : decode cL_law_ 1820 = .ok (.aload_n 0, 1) := by decide +kernel
theorem dL_law__1821 : decode cL_law_ 1821 = .ok (.iload 4, 2) := by decide +kernel
theorem dL_law__1823 : decode cL_law_ 1823 = .ok (.iconst 2, 1) := by decide +kernel
theorem dL_law__1824 : decode cL_law_ 1824 = .ok (.iadd, 1) := by decide +kernel
theorem dL_law__1825 : decode cL_law_ 1825 = .ok (.iaload, 1) := by decide +kernel
theorem dL_law__1826 : decode cL_law_ 1826 = .ok (.aload_n 0, 1) := by decide +kernel
theorem dL_law__1827 : decode cL_law_ 1827 = .ok (.iload 4, 2) := by decide +kernel
theorem dL_law__1829 : decode cL_law_ 1829 = .ok (.iconst 3, 1) := by decide +kernel
theorem dL_law__1830 : decode cL_law_ 1830 = .ok (.iadd, 1) := by decide +kernel
theorem dL_law__1831 : decode cL_law_ 1831 = .ok (.iaload, 1) := by decide +kernel
theorem dL_law__1832 : decode cL_law_ 1832 = .ok (.invokevirtual 212, 3) := by decide +kernel
theorem dL_law__1835 : decode cL_law_ 1835 = .ok (.istore 6, 2) := by decide +kernel
theorem dL_law__1837 : decode cL_law_ 1837 = .ok (.aload_n 2, 1) := by decide +kernel
theorem dL_law__1838 : decode cL_law_ 1838 = .ok (.invokevirtual 134, 3) := by decide +kernel
theorem dL_law__1841 : decode cL_law_ 1841 = .ok (.iload 5, 2) := by decide +kernel
theorem dL_law__1843 : decode cL_law_ 1843 = .ok (.if_icmp .eq 5, 3) := by decide +kernel
theorem dL_law__1846 : decode cL_law_ 1846 = .ok (.iconst 0, 1) := by decide +kernel
theorem dL_law__1847 : decode cL_law_ 1847 = .ok (.ireturn, 1) := by decide +kernel
theorem dL_law__1848 : decode cL_law_ 1848 = .ok (.iload 5, 2) := by decide +kernel
theorem dL_law__1850 : decode cL_law_ 1850 = .ok (.ifCond .ne 15, 3) := by decide +kernel
theorem dL_law__1853 : decode cL_law_ 1853 = .ok (.aload_n 3, 1) := by decide +kernel
theorem dL_law__1854 : decode cL_law_ 1854 = .ok (.iconst 0, 1) := by decide +kernel
theorem dL_law__1855 : decode cL_law_ 1855 = .ok (.laload, 1) := by decide +kernel
theorem dL_law__1856 : decode cL_law_ 1856 = .ok (.iload 6, 2) := by decide +kernel
theorem dL_law__1858 : decode cL_law_ 1858 = .ok (.i2l, 1) := by decide +kernel
theorem dL_law__1859 : decode cL_law_ 1859 = .ok (.lcmp, 1) := by decide +kernel
theorem dL_law__1860 : decode cL_law_ 1860 = .ok (.ifCond .eq 5, 3) := by decide +kernel
theorem dL_law__1863 : decode cL_law_ 1863 = .ok (.iconst 0, 1) := by decide +kernel
theorem dL_law__1864 : decode cL_law_ 1864 = .ok (.ireturn, 1) := by decide +kernel
theorem dL_law__1865 : decode cL_law_ 1865 = .ok (.goto 878, 3) := by decide +kernel
theorem dL_law__1868 : decode cL_law_ 1868 = .ok (.aload_n 1, 1) := by decide +kernel
theorem dL_law__1869 : decode cL_law_ 1869 = .ok (.aload_n 0, 1) := by decide +kernel
theorem dL_law__1870 : decode cL_law_ 1870 = .ok (.iload 4, 2) := by decide +kernel
theorem dL_law__1872 : decode cL_law_ 1872 = .ok (.iconst 1, 1) := by decide +kernel
theorem dL_law__1873 : decode cL_law_ 1873 = .ok (.iadd, 1) := by decide +kernel
theorem dL_law__1874 : decode cL_law_ 1874 = .ok (.iaload, 1) := by decide +kernel
theorem dL_law__1875 : decode cL_law_ 1875 = .ok (.aload_n 0, 1) := by decide +kernel
theorem dL_law__1876 : decode cL_law_ 1876 = .ok (.iload 4, 2) := by decide +kernel
theorem dL_law__1878 : decode cL_law_ 1878 = .ok (.iconst 2, 1) := by decide +kernel
theorem dL_law__1879 : decode cL_law_ 1879 = .ok (.iadd, 1) := by decide +kernel
theorem dL_law__1880 : decode cL_law_ 1880 = .ok (.iaload, 1) := by decide +kernel
theorem dL_law__1881 : decode cL_law_ 1881 = .ok (.aload_n 0, 1) := by decide +kernel
theorem dL_law__1882 : decode cL_law_ 1882 = .ok (.iload 4, 2) := by decide +kernel
theorem dL_law__1884 : decode cL_law_ 1884 = .ok (.iconst 3, 1) := by decide +kernel
theorem dL_law__1885 : decode cL_law_ 1885 = .ok (.iadd, 1) := by decide +kernel
theorem dL_law__1886 : decode cL_law_ 1886 = .ok (.iaload, 1) := by decide +kernel
theorem dL_law__1887 : decode cL_law_ 1887 = .ok (.aload_n 3, 1) := by decide +kernel
theorem dL_law__1888 : decode cL_law_ 1888 = .ok (.invokestatic 213, 3) := by decide +kernel
theorem dL_law__1891 : decode cL_law_ 1891 = .ok (.istore 5, 2) := by decide +kernel
theorem dL_law__1893 : decode cL_law_ 1893 = .ok (.aload_n 2, 1) := by decide +kernel
theorem dL_law__1894 : decode cL_law_ 1894 = .ok (.aload_n 0, 1) := by decide +kernel
theorem dL_law__1895 : decode cL_law_ 1895 = .ok (.iload 4, 2) := by decide +kernel
theorem dL_law__1897 : decode cL_law_ 1897 = .ok (.iconst 1, 1) := by decide +kernel
theorem dL_law__1898 : decode cL_law_ 1898 = .ok (.iadd, 1) := by decide +kernel
theorem dL_law__1899 : decode cL_law_ 1899 = .ok (.iaload, 1) := by decide +kernel
theorem dL_law__1900 : decode cL_law_ 1900 = .ok (.aload_n 0, 1) := by decide +kernel
theorem dL_law__1901 : decode cL_law_ 1901 = .ok (.iload 4, 2) := by decide +kernel
theorem dL_law__1903 : decode cL_law_ 1903 = .ok (.iconst 2, 1) := by decide +kernel
theorem dL_law__1904 : decode cL_law_ 1904 = .ok (.iadd, 1) := by decide +kernel
theorem dL_law__1905 : decode cL_law_ 1905 = .ok (.iaload, 1) := by decide +kernel
theorem dL_law__1906 : decode cL_law_ 1906 = .ok (.aload_n 0, 1) := by decide +kernel
theorem dL_law__1907 : decode cL_law_ 1907 = .ok (.iload 4, 2) := by decide +kernel
theorem dL_law__1909 : decode cL_law_ 1909 = .ok (.iconst 3, 1) := by decide +kernel
theorem dL_law__1910 : decode cL_law_ 1910 = .ok (.iadd, 1) := by decide +kernel
theorem dL_law__1911 : decode cL_law_ 1911 = .ok (.iaload, 1) := by decide +kernel
theorem dL_law__1912 : decode cL_law_ 1912 = .ok (.invokevirtual 215, 3) := by decide +kernel
theorem dL_law__1915 : decode cL_law_ 1915 = .ok (.istore 6, 2) := by decide +kernel
theorem dL_law__1917 : decode cL_law_ 1917 = .ok (.aload_n 2, 1) := by decide +kernel
theorem dL_law__1918 : decode cL_law_ 1918 = .ok (.invokevirtual 134, 3) := by decide +kernel
theorem dL_law__1921 : decode cL_law_ 1921 = .ok (.iload 5, 2) := by decide +kernel
theorem dL_law__1923 : decode cL_law_ 1923 = .ok (.if_icmp .eq 5, 3) := by decide +kernel
theorem dL_law__1926 : decode cL_law_ 1926 = .ok (.iconst 0, 1) := by decide +kernel
theorem dL_law__1927 : decode cL_law_ 1927 = .ok (.ireturn, 1) := by decide +kernel
theorem dL_law__1928 : decode cL_law_ 1928 = .ok (.iload 5, 2) := by decide +kernel
theorem dL_law__1930 : decode cL_law_ 1930 = .ok (.ifCond .ne 15, 3) := by decide +kernel
theorem dL_law__1933 : decode cL_law_ 1933 = .ok (.aload_n 3, 1) := by decide +kernel
theorem dL_law__1934 : decode cL_law_ 1934 = .ok (.iconst 0, 1) := by decide +kernel
theorem dL_law__1935 : decode cL_law_ 1935 = .ok (.laload, 1) := by decide +kernel
theorem dL_law__1936 : decode cL_law_ 1936 = .ok (.iload 6, 2) := by decide +kernel
theorem dL_law__1938 : decode cL_law_ 1938 = .ok (.i2l, 1) := by decide +kernel
theorem dL_law__1939 : decode cL_law_ 1939 = .ok (.lcmp, 1) := by decide +kernel
theorem dL_law__1940 : decode cL_law_ 1940 = .ok (.ifCond .eq 5, 3) := by decide +kernel
theorem dL_law__1943 : decode cL_law_ 1943 = .ok (.iconst 0, 1) := by decide +kernel
theorem dL_law__1944 : decode cL_law_ 1944 = .ok (.ireturn, 1) := by decide +kernel
theorem dL_law__1945 : decode cL_law_ 1945 = .ok (.goto 798, 3) := by decide +kernel
theorem dL_law__1948 : decode cL_law_ 1948 = .ok (.aload_n 1, 1) := by decide +kernel
theorem dL_law__1949 : decode cL_law_ 1949 = .ok (.aload_n 0, 1) := by decide +kernel
theorem dL_law__1950 : decode cL_law_ 1950 = .ok (.iload 4, 2) := by decide +kernel
theorem dL_law__1952 : decode cL_law_ 1952 = .ok (.iconst 1, 1) := by decide +kernel
theorem dL_law__1953 : decode cL_law_ 1953 = .ok (.iadd, 1) := by decide +kernel
theorem dL_law__1954 : decode cL_law_ 1954 = .ok (.iaload, 1) := by decide +kernel
theorem dL_law__1955 : decode cL_law_ 1955 = .ok (.aload_n 3, 1) := by decide +kernel
theorem dL_law__1956 : decode cL_law_ 1956 = .ok (.invokestatic 216, 3) := by decide +kernel
theorem dL_law__1959 : decode cL_law_ 1959 = .ok (.istore 5, 2) := by decide +kernel
theorem dL_law__1961 : decode cL_law_ 1961 = .ok (.aload_n 2, 1) := by decide +kernel
theorem dL_law__1962 : decode cL_law_ 1962 = .ok (.aload_n 0, 1) := by decide +kernel
theorem dL_law__1963 : decode cL_law_ 1963 = .ok (.iload 4, 2) := by decide +kernel
theorem dL_law__1965 : decode cL_law_ 1965 = .ok (.iconst 1, 1) := by decide +kernel
theorem dL_law__1966 : decode cL_law_ 1966 = .ok (.iadd, 1) := by decide +kernel
theorem dL_law__1967 : decode cL_law_ 1967 = .ok (.iaload, 1) := by decide +kernel
theorem dL_law__1968 : decode cL_law_ 1968 = .ok (.invokevirtual 218, 3) := by decide +kernel
theorem dL_law__1971 : decode cL_law_ 1971 = .ok (.istore 6, 2) := by decide +kernel
theorem dL_law__1973 : decode cL_law_ 1973 = .ok (.aload_n 2, 1) := by decide +kernel
theorem dL_law__1974 : decode cL_law_ 1974 = .ok (.invokevirtual 134, 3) := by decide +kernel
theorem dL_law__1977 : decode cL_law_ 1977 = .ok (.iload 5, 2) := by decide +kernel
