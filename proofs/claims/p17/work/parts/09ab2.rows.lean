theorem dL_law_1503 : decode cL_law 1503 = .ok (.aload_n 1, 1) := by decide +kernel
theorem dL_law_1504 : decode cL_law 1504 = .ok (.aload_n 0, 1) := by decide +kernel
theorem dL_law_1505 : decode cL_law 1505 = .ok (.iload 4, 2) := by decide +kernel
theorem dL_law_1507 : decode cL_law 1507 = .ok (.iconst 1, 1) := by decide +kernel
theorem dL_law_1508 : decode cL_law 1508 = .ok (.iadd, 1) := by decide +kernel
theorem dL_law_1509 : decode cL_law 1509 = .ok (.iaload, 1) := by decide +kernel
theorem dL_law_1510 : decode cL_law 1510 = .ok (.aload_n 0, 1) := by decide +kernel
theorem dL_law_1511 : decode cL_law 1511 = .ok (.iload 4, 2) := by decide +kernel
theorem dL_law_1513 : decode cL_law 1513 = .ok (.iconst 2, 1) := by decide +kernel
theorem dL_law_1514 : decode cL_law 1514 = .ok (.iadd, 1) := by decide +kernel
theorem dL_law_1515 : decode cL_law 1515 = .ok (.iaload, 1) := by decide +kernel
theorem dL_law_1516 : decode cL_law 1516 = .ok (.aload_n 0, 1) := by decide +kernel
theorem dL_law_1517 : decode cL_law 1517 = .ok (.iload 4, 2) := by decide +kernel
theorem dL_law_1519 : decode cL_law 1519 = .ok (.iconst 3, 1) := by decide +kernel
theorem dL_law_1520 : decode cL_law 1520 = .ok (.iadd, 1) := by decide +kernel
theorem dL_law_1521 : decode cL_law 1521 = .ok (.iaload, 1) := by decide +kernel
theorem dL_law_1522 : decode cL_law 1522 = .ok (.aload_n 0, 1) := by decide +kernel
theorem dL_law_1523 : decode cL_law 1523 = .ok (.iload 4, 2) := by decide +kernel
theorem dL_law_1525 : decode cL_law 1525 = .ok (.iconst 4, 1) := by decide +kernel
theorem dL_law_1526 : decode cL_law 1526 = .ok (.iadd, 1) := by decide +kernel
theorem dL_law_1527 : decode cL_law 1527 = .ok (.iaload, 1) := by decide +kernel
theorem dL_law_1528 : decode cL_law 1528 = .ok (.invokevirtual 137, 3) := by decide +kernel
theorem dL_law_1531 : decode cL_law 1531 = .ok (.pop, 1) := by decide +kernel
theorem dL_law_1532 : decode cL_law 1532 = .ok (.aload_n 2, 1) := by decide +kernel
theorem dL_law_1533 : decode cL_law 1533 = .ok (.aload_n 0, 1) := by decide +kernel
theorem dL_law_1534 : decode cL_law 1534 = .ok (.iload 4, 2) := by decide +kernel
theorem dL_law_1536 : decode cL_law 1536 = .ok (.iconst 1, 1) := by decide +kernel
theorem dL_law_1537 : decode cL_law 1537 = .ok (.iadd, 1) := by decide +kernel
theorem dL_law_1538 : decode cL_law 1538 = .ok (.iaload, 1) := by decide +kernel
theorem dL_law_1539 : decode cL_law 1539 = .ok (.aload_n 0, 1) := by decide +kernel
theorem dL_law_1540 : decode cL_law 1540 = .ok (.iload 4, 2) := by decide +kernel
theorem dL_law_1542 : decode cL_law 1542 = .ok (.iconst 2, 1) := by decide +kernel
theorem dL_law_1543 : decode cL_law 1543 = .ok (.iadd, 1) := by decide +kernel
theorem dL_law_1544 : decode cL_law 1544 = .ok (.iaload, 1) := by decide +kernel
theorem dL_law_1545 : decode cL_law 1545 = .ok (.aload_n 0, 1) := by decide +kernel
theorem dL_law_1546 : decode cL_law 1546 = .ok (.iload 4, 2) := by decide +kernel
theorem dL_law_1548 : decode cL_law 1548 = .ok (.iconst 3, 1) := by decide +kernel
theorem dL_law_1549 : decode cL_law 1549 = .ok (.iadd, 1) := by decide +kernel
theorem dL_law_1550 : decode cL_law 1550 = .ok (.iaload, 1) := by decide +kernel
theorem dL_law_1551 : decode cL_law 1551 = .ok (.aload_n 0, 1) := by decide +kernel
theorem dL_law_1552 : decode cL_law 1552 = .ok (.iload 4, 2) := by decide +kernel
theorem dL_law_1554 : decode cL_law 1554 = .ok (.iconst 4, 1) := by decide +kernel
theorem dL_law_1555 : decode cL_law 1555 = .ok (.iadd, 1) := by decide +kernel
theorem dL_law_1556 : decode cL_law 1556 = .ok (.iaload, 1) := by decide +kernel
theorem dL_law_1557 : decode cL_law 1557 = .ok (.invokevirtual 140, 3) := by decide +kernel
theorem dL_law_1560 : decode cL_law 1560 = .ok (.pop, 1) := by decide +kernel
theorem dL_law_1561 : decode cL_law 1561 = .ok (.goto 369, 3) := by decide +kernel

theorem dL_law_1564 : decode cL_law 1564 = .ok (.aload_n 1, 1) := by decide +kernel
theorem dL_law_1565 : decode cL_law 1565 = .ok (.invokevirtual 141, 3) := by decide +kernel
theorem dL_law_1568 : decode cL_law 1568 = .ok (.pop, 1) := by decide +kernel
theorem dL_law_1569 : decode cL_law 1569 = .ok (.aload_n 2, 1) := by decide +kernel
theorem dL_law_1570 : decode cL_law 1570 = .ok (.invokevirtual 144, 3) := by decide +kernel
theorem dL_law_1573 : decode cL_law 1573 = .ok (.pop, 1) := by decide +kernel
theorem dL_law_1574 : decode cL_law 1574 = .ok (.goto 356, 3) := by decide +kernel

theorem dL_law_1577 : decode cL_law 1577 = .ok (.aload_n 1, 1) := by decide +kernel
theorem dL_law_1578 : decode cL_law 1578 = .ok (.aload_n 0, 1) := by decide +kernel
theorem dL_law_1579 : decode cL_law 1579 = .ok (.iload 4, 2) := by decide +kernel
theorem dL_law_1581 : decode cL_law 1581 = .ok (.iconst 1, 1) := by decide +kernel
theorem dL_law_1582 : decode cL_law 1582 = .ok (.iadd, 1) := by decide +kernel
theorem dL_law_1583 : decode cL_law 1583 = .ok (.iaload, 1) := by decide +kernel
theorem dL_law_1584 : decode cL_law 1584 = .ok (.aload_n 0, 1) := by decide +kernel
theorem dL_law_1585 : decode cL_law 1585 = .ok (.iload 4, 2) := by decide +kernel
theorem dL_law_1587 : decode cL_law 1587 = .ok (.iconst 2, 1) := by decide +kernel
theorem dL_law_1588 : decode cL_law 1588 = .ok (.iadd, 1) := by decide +kernel
theorem dL_law_1589 : decode cL_law 1589 = .ok (.iaload, 1) := by decide +kernel
theorem dL_law_1590 : decode cL_law 1590 = .ok (.ifCond .eq 7, 3) := by decide +kernel
theorem dL_law_1597 : decode cL_law 1597 = .ok (.iconst 0, 1) := by decide +kernel
theorem dL_law_1598 : decode cL_law 1598 = .ok (.aload_n 0, 1) := by decide +kernel
theorem dL_law_1599 : decode cL_law 1599 = .ok (.iload 4, 2) := by decide +kernel
theorem dL_law_1601 : decode cL_law 1601 = .ok (.iconst 3, 1) := by decide +kernel
theorem dL_law_1602 : decode cL_law 1602 = .ok (.iadd, 1) := by decide +kernel
theorem dL_law_1603 : decode cL_law 1603 = .ok (.iaload, 1) := by decide +kernel
theorem dL_law_1604 : decode cL_law 1604 = .ok (.aload_n 0, 1) := by decide +kernel
theorem dL_law_1605 : decode cL_law 1605 = .ok (.iload 4, 2) := by decide +kernel
theorem dL_law_1607 : decode cL_law 1607 = .ok (.iconst 4, 1) := by decide +kernel
theorem dL_law_1608 : decode cL_law 1608 = .ok (.iadd, 1) := by decide +kernel
theorem dL_law_1609 : decode cL_law 1609 = .ok (.iaload, 1) := by decide +kernel
theorem dL_law_1610 : decode cL_law 1610 = .ok (.invokevirtual 145, 3) := by decide +kernel
theorem dL_law_1613 : decode cL_law 1613 = .ok (.pop, 1) := by decide +kernel
theorem dL_law_1614 : decode cL_law 1614 = .ok (.aload_n 2, 1) := by decide +kernel
theorem dL_law_1615 : decode cL_law 1615 = .ok (.aload_n 0, 1) := by decide +kernel
theorem dL_law_1616 : decode cL_law 1616 = .ok (.iload 4, 2) := by decide +kernel
theorem dL_law_1618 : decode cL_law 1618 = .ok (.iconst 1, 1) := by decide +kernel
theorem dL_law_1619 : decode cL_law 1619 = .ok (.iadd, 1) := by decide +kernel
theorem dL_law_1620 : decode cL_law 1620 = .ok (.iaload, 1) := by decide +kernel
theorem dL_law_1621 : decode cL_law 1621 = .ok (.aload_n 0, 1) := by decide +kernel
theorem dL_law_1622 : decode cL_law 1622 = .ok (.iload 4, 2) := by decide +kernel
theorem dL_law_1624 : decode cL_law 1624 = .ok (.iconst 2, 1) := by decide +kernel
theorem dL_law_1625 : decode cL_law 1625 = .ok (.iadd, 1) := by decide +kernel
theorem dL_law_1626 : decode cL_law 1626 = .ok (.iaload, 1) := by decide +kernel
theorem dL_law_1627 : decode cL_law 1627 = .ok (.ifCond .eq 7, 3) := by decide +kernel
theorem dL_law_1634 : decode cL_law 1634 = .ok (.iconst 0, 1) := by decide +kernel
theorem dL_law_1635 : decode cL_law 1635 = .ok (.aload_n 0, 1) := by decide +kernel
theorem dL_law_1636 : decode cL_law 1636 = .ok (.iload 4, 2) := by decide +kernel
theorem dL_law_1638 : decode cL_law 1638 = .ok (.iconst 3, 1) := by decide +kernel
theorem dL_law_1639 : decode cL_law 1639 = .ok (.iadd, 1) := by decide +kernel
theorem dL_law_1640 : decode cL_law 1640 = .ok (.iaload, 1) := by decide +kernel
theorem dL_law_1641 : decode cL_law 1641 = .ok (.aload_n 0, 1) := by decide +kernel
theorem dL_law_1642 : decode cL_law 1642 = .ok (.iload 4, 2) := by decide +kernel
theorem dL_law_1644 : decode cL_law 1644 = .ok (.iconst 4, 1) := by decide +kernel
theorem dL_law_1645 : decode cL_law 1645 = .ok (.iadd, 1) := by decide +kernel
theorem dL_law_1646 : decode cL_law 1646 = .ok (.iaload, 1) := by decide +kernel
theorem dL_law_1647 : decode cL_law 1647 = .ok (.invokevirtual 149, 3) := by decide +kernel
theorem dL_law_1650 : decode cL_law 1650 = .ok (.pop, 1) := by decide +kernel
theorem dL_law_1651 : decode cL_law 1651 = .ok (.goto 279, 3) := by decide +kernel
theorem dL_law_1593 : decode cL_law 1593 = .ok (.iconst 1, 1) := by decide +kernel
theorem dL_law_1594 : decode cL_law 1594 = .ok (.goto 4, 3) := by decide +kernel
theorem dL_law_1630 : decode cL_law 1630 = .ok (.iconst 1, 1) := by decide +kernel
theorem dL_law_1631 : decode cL_law 1631 = .ok (.goto 4, 3) := by decide +kernel

theorem dL_law_1654 : decode cL_law 1654 = .ok (.aload_n 1, 1) := by decide +kernel
theorem dL_law_1655 : decode cL_law 1655 = .ok (.aload_n 0, 1) := by decide +kernel
theorem dL_law_1656 : decode cL_law 1656 = .ok (.iload 4, 2) := by decide +kernel
theorem dL_law_1658 : decode cL_law 1658 = .ok (.iconst 1, 1) := by decide +kernel
theorem dL_law_1659 : decode cL_law 1659 = .ok (.iadd, 1) := by decide +kernel
theorem dL_law_1660 : decode cL_law 1660 = .ok (.iaload, 1) := by decide +kernel
theorem dL_law_1661 : decode cL_law 1661 = .ok (.aload_n 0, 1) := by decide +kernel
theorem dL_law_1662 : decode cL_law 1662 = .ok (.iload 4, 2) := by decide +kernel
theorem dL_law_1664 : decode cL_law 1664 = .ok (.iconst 2, 1) := by decide +kernel
theorem dL_law_1665 : decode cL_law 1665 = .ok (.iadd, 1) := by decide +kernel
theorem dL_law_1666 : decode cL_law 1666 = .ok (.iaload, 1) := by decide +kernel
theorem dL_law_1667 : decode cL_law 1667 = .ok (.invokevirtual 150, 3) := by decide +kernel
theorem dL_law_1670 : decode cL_law 1670 = .ok (.pop, 1) := by decide +kernel
theorem dL_law_1671 : decode cL_law 1671 = .ok (.aload_n 2, 1) := by decide +kernel
theorem dL_law_1672 : decode cL_law 1672 = .ok (.aload_n 0, 1) := by decide +kernel
theorem dL_law_1673 : decode cL_law 1673 = .ok (.iload 4, 2) := by decide +kernel
theorem dL_law_1675 : decode cL_law 1675 = .ok (.iconst 1, 1) := by decide +kernel
theorem dL_law_1676 : decode cL_law 1676 = .ok (.iadd, 1) := by decide +kernel
theorem dL_law_1677 : decode cL_law 1677 = .ok (.iaload, 1) := by decide +kernel
theorem dL_law_1678 : decode cL_law 1678 = .ok (.aload_n 0, 1) := by decide +kernel
theorem dL_law_1679 : decode cL_law 1679 = .ok (.iload 4, 2) := by decide +kernel
theorem dL_law_1681 : decode cL_law 1681 = .ok (.iconst 2, 1) := by decide +kernel
theorem dL_law_1682 : decode cL_law 1682 = .ok (.iadd, 1) := by decide +kernel
theorem dL_law_1683 : decode cL_law 1683 = .ok (.iaload, 1) := by decide +kernel
theorem dL_law_1684 : decode cL_law 1684 = .ok (.invokevirtual 153, 3) := by decide +kernel
theorem dL_law_1687 : decode cL_law 1687 = .ok (.pop, 1) := by decide +kernel
theorem dL_law_1688 : decode cL_law 1688 = .ok (.goto 242, 3) := by decide +kernel

theorem dL_law_1691 : decode cL_law 1691 = .ok (.aload_n 1, 1) := by decide +kernel
theorem dL_law_1692 : decode cL_law 1692 = .ok (.aload_n 0, 1) := by decide +kernel
theorem dL_law_1693 : decode cL_law 1693 = .ok (.iload 4, 2) := by decide +kernel
theorem dL_law_1695 : decode cL_law 1695 = .ok (.iconst 1, 1) := by decide +kernel
theorem dL_law_1696 : decode cL_law 1696 = .ok (.iadd, 1) := by decide +kernel
theorem dL_law_1697 : decode cL_law 1697 = .ok (.iaload, 1) := by decide +kernel
theorem dL_law_1698 : decode cL_law 1698 = .ok (.aload_n 0, 1) := by decide +kernel
theorem dL_law_1699 : decode cL_law 1699 = .ok (.iload 4, 2) := by decide +kernel
theorem dL_law_1701 : decode cL_law 1701 = .ok (.iconst 2, 1) := by decide +kernel
theorem dL_law_1702 : decode cL_law 1702 = .ok (.iadd, 1) := by decide +kernel
theorem dL_law_1703 : decode cL_law 1703 = .ok (.iaload, 1) := by decide +kernel
theorem dL_law_1704 : decode cL_law 1704 = .ok (.invokevirtual 154, 3) := by decide +kernel
theorem dL_law_1707 : decode cL_law 1707 = .ok (.pop, 1) := by decide +kernel
theorem dL_law_1708 : decode cL_law 1708 = .ok (.aload_n 2, 1) := by decide +kernel
theorem dL_law_1709 : decode cL_law 1709 = .ok (.aload_n 0, 1) := by decide +kernel
theorem dL_law_1710 : decode cL_law 1710 = .ok (.iload 4, 2) := by decide +kernel
theorem dL_law_1712 : decode cL_law 1712 = .ok (.iconst 1, 1) := by decide +kernel
theorem dL_law_1713 : decode cL_law 1713 = .ok (.iadd, 1) := by decide +kernel
theorem dL_law_1714 : decode cL_law 1714 = .ok (.iaload, 1) := by decide +kernel
theorem dL_law_1715 : decode cL_law 1715 = .ok (.aload_n 0, 1) := by decide +kernel
theorem dL_law_1716 : decode cL_law 1716 = .ok (.iload 4, 2) := by decide +kernel
theorem dL_law_1718 : decode cL_law 1718 = .ok (.iconst 2, 1) := by decide +kernel
theorem dL_law_1719 : decode cL_law 1719 = .ok (.iadd, 1) := by decide +kernel
theorem dL_law_1720 : decode cL_law 1720 = .ok (.iaload, 1) := by decide +kernel
theorem dL_law_1721 : decode cL_law 1721 = .ok (.invokevirtual 158, 3) := by decide +kernel
theorem dL_law_1724 : decode cL_law 1724 = .ok (.pop, 1) := by decide +kernel
theorem dL_law_1725 : decode cL_law 1725 = .ok (.goto 205, 3) := by decide +kernel

theorem dL_law_1728 : decode cL_law 1728 = .ok (.aload_n 1, 1) := by decide +kernel
theorem dL_law_1729 : decode cL_law 1729 = .ok (.aload_n 0, 1) := by decide +kernel
theorem dL_law_1730 : decode cL_law 1730 = .ok (.iload 4, 2) := by decide +kernel
theorem dL_law_1732 : decode cL_law 1732 = .ok (.iconst 1, 1) := by decide +kernel
theorem dL_law_1733 : decode cL_law 1733 = .ok (.iadd, 1) := by decide +kernel
theorem dL_law_1734 : decode cL_law 1734 = .ok (.iaload, 1) := by decide +kernel
theorem dL_law_1735 : decode cL_law 1735 = .ok (.aload_n 0, 1) := by decide +kernel
theorem dL_law_1736 : decode cL_law 1736 = .ok (.iload 4, 2) := by decide +kernel
theorem dL_law_1738 : decode cL_law 1738 = .ok (.iconst 2, 1) := by decide +kernel
theorem dL_law_1739 : decode cL_law 1739 = .ok (.iadd, 1) := by decide +kernel
theorem dL_law_1740 : decode cL_law 1740 = .ok (.iaload, 1) := by decide +kernel
theorem dL_law_1741 : decode cL_law 1741 = .ok (.ifCond .eq 7, 3) := by decide +kernel
theorem dL_law_1748 : decode cL_law 1748 = .ok (.iconst 0, 1) := by decide +kernel
theorem dL_law_1749 : decode cL_law 1749 = .ok (.aload_n 0, 1) := by decide +kernel
theorem dL_law_1750 : decode cL_law 1750 = .ok (.iload 4, 2) := by decide +kernel
theorem dL_law_1752 : decode cL_law 1752 = .ok (.iconst 3, 1) := by decide +kernel
theorem dL_law_1753 : decode cL_law 1753 = .ok (.iadd, 1) := by decide +kernel
theorem dL_law_1754 : decode cL_law 1754 = .ok (.iaload, 1) := by decide +kernel
theorem dL_law_1755 : decode cL_law 1755 = .ok (.aload_n 0, 1) := by decide +kernel
theorem dL_law_1756 : decode cL_law 1756 = .ok (.iload 4, 2) := by decide +kernel
theorem dL_law_1758 : decode cL_law 1758 = .ok (.iconst 4, 1) := by decide +kernel
theorem dL_law_1759 : decode cL_law 1759 = .ok (.iadd, 1) := by decide +kernel
theorem dL_law_1760 : decode cL_law 1760 = .ok (.iaload, 1) := by decide +kernel
theorem dL_law_1761 : decode cL_law 1761 = .ok (.invokevirtual 159, 3) := by decide +kernel
theorem dL_law_1764 : decode cL_law 1764 = .ok (.pop, 1) := by decide +kernel
theorem dL_law_1765 : decode cL_law 1765 = .ok (.aload_n 2, 1) := by decide +kernel
theorem dL_law_1766 : decode cL_law 1766 = .ok (.aload_n 0, 1) := by decide +kernel
theorem dL_law_1767 : decode cL_law 1767 = .ok (.iload 4, 2) := by decide +kernel
theorem dL_law_1769 : decode cL_law 1769 = .ok (.iconst 1, 1) := by decide +kernel
theorem dL_law_1770 : decode cL_law 1770 = .ok (.iadd, 1) := by decide +kernel
theorem dL_law_1771 : decode cL_law 1771 = .ok (.iaload, 1) := by decide +kernel
theorem dL_law_1772 : decode cL_law 1772 = .ok (.aload_n 0, 1) := by decide +kernel
theorem dL_law_1773 : decode cL_law 1773 = .ok (.iload 4, 2) := by decide +kernel
theorem dL_law_1775 : decode cL_law 1775 = .ok (.iconst 2, 1) := by decide +kernel
theorem dL_law_1776 : decode cL_law 1776 = .ok (.iadd, 1) := by decide +kernel
theorem dL_law_1777 : decode cL_law 1777 = .ok (.iaload, 1) := by decide +kernel
theorem dL_law_1778 : decode cL_law 1778 = .ok (.ifCond .eq 7, 3) := by decide +kernel
theorem dL_law_1785 : decode cL_law 1785 = .ok (.iconst 0, 1) := by decide +kernel
theorem dL_law_1786 : decode cL_law 1786 = .ok (.aload_n 0, 1) := by decide +kernel
theorem dL_law_1787 : decode cL_law 1787 = .ok (.iload 4, 2) := by decide +kernel
theorem dL_law_1789 : decode cL_law 1789 = .ok (.iconst 3, 1) := by decide +kernel
theorem dL_law_1790 : decode cL_law 1790 = .ok (.iadd, 1) := by decide +kernel
theorem dL_law_1791 : decode cL_law 1791 = .ok (.iaload, 1) := by decide +kernel
theorem dL_law_1792 : decode cL_law 1792 = .ok (.aload_n 0, 1) := by decide +kernel
theorem dL_law_1793 : decode cL_law 1793 = .ok (.iload 4, 2) := by decide +kernel
theorem dL_law_1795 : decode cL_law 1795 = .ok (.iconst 4, 1) := by decide +kernel
theorem dL_law_1796 : decode cL_law 1796 = .ok (.iadd, 1) := by decide +kernel
theorem dL_law_1797 : decode cL_law 1797 = .ok (.iaload, 1) := by decide +kernel
theorem dL_law_1798 : decode cL_law 1798 = .ok (.invokevirtual 162, 3) := by decide +kernel
theorem dL_law_1801 : decode cL_law 1801 = .ok (.pop, 1) := by decide +kernel
theorem dL_law_1802 : decode cL_law 1802 = .ok (.goto 128, 3) := by decide +kernel
theorem dL_law_1744 : decode cL_law 1744 = .ok (.iconst 1, 1) := by decide +kernel
theorem dL_law_1745 : decode cL_law 1745 = .ok (.goto 4, 3) := by decide +kernel
theorem dL_law_1781 : decode cL_law 1781 = .ok (.iconst 1, 1) := by decide +kernel
theorem dL_law_1782 : decode cL_law 1782 = .ok (.goto 4, 3) := by decide +kernel

theorem dL_law_1805 : decode cL_law 1805 = .ok (.aload_n 1, 1) := by decide +kernel
theorem dL_law_1806 : decode cL_law 1806 = .ok (.invokevirtual 163, 3) := by decide +kernel
theorem dL_law_1809 : decode cL_law 1809 = .ok (.pop, 1) := by decide +kernel
theorem dL_law_1810 : decode cL_law 1810 = .ok (.aload_n 2, 1) := by decide +kernel
theorem dL_law_1811 : decode cL_law 1811 = .ok (.invokevirtual 166, 3) := by decide +kernel
theorem dL_law_1814 : decode cL_law 1814 = .ok (.pop, 1) := by decide +kernel
theorem dL_law_1815 : decode cL_law 1815 = .ok (.goto 115, 3) := by decide +kernel

theorem dL_law_1818 : decode cL_law 1818 = .ok (.aload_n 1, 1) := by decide +kernel
theorem dL_law_1819 : decode cL_law 1819 = .ok (.aload_n 0, 1) := by decide +kernel
theorem dL_law_1820 : decode cL_law 1820 = .ok (.iload 4, 2) := by decide +kernel
theorem dL_law_1822 : decode cL_law 1822 = .ok (.iconst 1, 1) := by decide +kernel
theorem dL_law_1823 : decode cL_law 1823 = .ok (.iadd, 1) := by decide +kernel
theorem dL_law_1824 : decode cL_law 1824 = .ok (.iaload, 1) := by decide +kernel
theorem dL_law_1825 : decode cL_law 1825 = .ok (.invokevirtual 167, 3) := by decide +kernel
theorem dL_law_1828 : decode cL_law 1828 = .ok (.pop, 1) := by decide +kernel
theorem dL_law_1829 : decode cL_law 1829 = .ok (.aload_n 2, 1) := by decide +kernel
theorem dL_law_1830 : decode cL_law 1830 = .ok (.aload_n 0, 1) := by decide +kernel
theorem dL_law_1831 : decode cL_law 1831 = .ok (.iload 4, 2) := by decide +kernel
theorem dL_law_1833 : decode cL_law 1833 = .ok (.iconst 1, 1) := by decide +kernel
theorem dL_law_1834 : decode cL_law 1834 = .ok (.iadd, 1) := by decide +kernel
theorem dL_law_1835 : decode cL_law 1835 = .ok (.iaload, 1) := by decide +kernel
theorem dL_law_1836 : decode cL_law 1836 = .ok (.invokevirtual 170, 3) := by decide +kernel
theorem dL_law_1839 : decode cL_law 1839 = .ok (.pop, 1) := by decide +kernel
theorem dL_law_1840 : decode cL_law 1840 = .ok (.goto 90, 3) := by decide +kernel

theorem dL_law_1843 : decode cL_law 1843 = .ok (.aload_n 1, 1) := by decide +kernel
theorem dL_law_1844 : decode cL_law 1844 = .ok (.aload_n 0, 1) := by decide +kernel
theorem dL_law_1845 : decode cL_law 1845 = .ok (.iload 4, 2) := by decide +kernel
theorem dL_law_1847 : decode cL_law 1847 = .ok (.iconst 1, 1) := by decide +kernel
theorem dL_law_1848 : decode cL_law 1848 = .ok (.iadd, 1) := by decide +kernel
theorem dL_law_1849 : decode cL_law 1849 = .ok (.iaload, 1) := by decide +kernel
theorem dL_law_1850 : decode cL_law 1850 = .ok (.aload_n 0, 1) := by decide +kernel
theorem dL_law_1851 : decode cL_law 1851 = .ok (.iload 4, 2) := by decide +kernel
theorem dL_law_1853 : decode cL_law 1853 = .ok (.iconst 2, 1) := by decide +kernel
theorem dL_law_1854 : decode cL_law 1854 = .ok (.iadd, 1) := by decide +kernel
theorem dL_law_1855 : decode cL_law 1855 = .ok (.iaload, 1) := by decide +kernel
theorem dL_law_1856 : decode cL_law 1856 = .ok (.invokevirtual 171, 3) := by decide +kernel
theorem dL_law_1859 : decode cL_law 1859 = .ok (.pop, 1) := by decide +kernel
theorem dL_law_1860 : decode cL_law 1860 = .ok (.aload_n 2, 1) := by decide +kernel
theorem dL_law_1861 : decode cL_law 1861 = .ok (.aload_n 0, 1) := by decide +kernel
theorem dL_law_1862 : decode cL_law 1862 = .ok (.iload 4, 2) := by decide +kernel
theorem dL_law_1864 : decode cL_law 1864 = .ok (.iconst 1, 1) := by decide +kernel
theorem dL_law_1865 : decode cL_law 1865 = .ok (.iadd, 1) := by decide +kernel
theorem dL_law_1866 : decode cL_law 1866 = .ok (.iaload, 1) := by decide +kernel
theorem dL_law_1867 : decode cL_law 1867 = .ok (.aload_n 0, 1) := by decide +kernel
theorem dL_law_1868 : decode cL_law 1868 = .ok (.iload 4, 2) := by decide +kernel
theorem dL_law_1870 : decode cL_law 1870 = .ok (.iconst 2, 1) := by decide +kernel
theorem dL_law_1871 : decode cL_law 1871 = .ok (.iadd, 1) := by decide +kernel
theorem dL_law_1872 : decode cL_law 1872 = .ok (.iaload, 1) := by decide +kernel
theorem dL_law_1873 : decode cL_law 1873 = .ok (.invokevirtual 174, 3) := by decide +kernel
theorem dL_law_1876 : decode cL_law 1876 = .ok (.pop, 1) := by decide +kernel
theorem dL_law_1877 : decode cL_law 1877 = .ok (.goto 53, 3) := by decide +kernel

theorem dL_law_1880 : decode cL_law 1880 = .ok (.aload_n 1, 1) := by decide +kernel
theorem dL_law_1881 : decode cL_law 1881 = .ok (.aload_n 0, 1) := by decide +kernel
theorem dL_law_1882 : decode cL_law 1882 = .ok (.iload 4, 2) := by decide +kernel
theorem dL_law_1884 : decode cL_law 1884 = .ok (.iconst 1, 1) := by decide +kernel
theorem dL_law_1885 : decode cL_law 1885 = .ok (.iadd, 1) := by decide +kernel
theorem dL_law_1886 : decode cL_law 1886 = .ok (.iaload, 1) := by decide +kernel
theorem dL_law_1887 : decode cL_law 1887 = .ok (.invokevirtual 175, 3) := by decide +kernel
theorem dL_law_1890 : decode cL_law 1890 = .ok (.pop, 1) := by decide +kernel
theorem dL_law_1891 : decode cL_law 1891 = .ok (.aload_n 2, 1) := by decide +kernel
theorem dL_law_1892 : decode cL_law 1892 = .ok (.aload_n 0, 1) := by decide +kernel
theorem dL_law_1893 : decode cL_law 1893 = .ok (.iload 4, 2) := by decide +kernel
theorem dL_law_1895 : decode cL_law 1895 = .ok (.iconst 1, 1) := by decide +kernel
theorem dL_law_1896 : decode cL_law 1896 = .ok (.iadd, 1) := by decide +kernel
theorem dL_law_1897 : decode cL_law 1897 = .ok (.iaload, 1) := by decide +kernel
theorem dL_law_1898 : decode cL_law 1898 = .ok (.invokevirtual 178, 3) := by decide +kernel
theorem dL_law_1901 : decode cL_law 1901 = .ok (.pop, 1) := by decide +kernel
theorem dL_law_1902 : decode cL_law 1902 = .ok (.goto 28, 3) := by decide +kernel

theorem dL_law_1905 : decode cL_law 1905 = .ok (.aload_n 1, 1) := by decide +kernel
theorem dL_law_1906 : decode cL_law 1906 = .ok (.aload_n 0, 1) := by decide +kernel
theorem dL_law_1907 : decode cL_law 1907 = .ok (.iload 4, 2) := by decide +kernel
theorem dL_law_1909 : decode cL_law 1909 = .ok (.iconst 1, 1) := by decide +kernel
theorem dL_law_1910 : decode cL_law 1910 = .ok (.iadd, 1) := by decide +kernel
theorem dL_law_1911 : decode cL_law 1911 = .ok (.iaload, 1) := by decide +kernel
theorem dL_law_1912 : decode cL_law 1912 = .ok (.invokevirtual 179, 3) := by decide +kernel
theorem dL_law_1915 : decode cL_law 1915 = .ok (.pop, 1) := by decide +kernel
theorem dL_law_1916 : decode cL_law 1916 = .ok (.aload_n 2, 1) := by decide +kernel
theorem dL_law_1917 : decode cL_law 1917 = .ok (.aload_n 0, 1) := by decide +kernel
theorem dL_law_1918 : decode cL_law 1918 = .ok (.iload 4, 2) := by decide +kernel
theorem dL_law_1920 : decode cL_law 1920 = .ok (.iconst 1, 1) := by decide +kernel
theorem dL_law_1921 : decode cL_law 1921 = .ok (.iadd, 1) := by decide +kernel
theorem dL_law_1922 : decode cL_law 1922 = .ok (.iaload, 1) := by decide +kernel
theorem dL_law_1923 : decode cL_law 1923 = .ok (.invokevirtual 182, 3) := by decide +kernel
theorem dL_law_1926 : decode cL_law 1926 = .ok (.pop, 1) := by decide +kernel
theorem dL_law_1927 : decode cL_law 1927 = .ok (.goto 3, 3) := by decide +kernel

