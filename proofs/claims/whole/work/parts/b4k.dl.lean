/-! the law, decoded: 1638 and on -/
theorem dl_1638 : decode code 1638 = .ok (.if_icmp .eq 167, 3) := by decide +kernel
theorem dl_1641 : decode code 1641 = .ok (.iconst 0, 1) := by decide +kernel
theorem dl_1642 : decode code 1642 = .ok (.ireturn, 1) := by decide +kernel
theorem dl_1643 : decode code 1643 = .ok (.aload_n 1, 1) := by decide +kernel
theorem dl_1644 : decode code 1644 = .ok (.aload_n 0, 1) := by decide +kernel
theorem dl_1645 : decode code 1645 = .ok (.iload 4, 2) := by decide +kernel
theorem dl_1647 : decode code 1647 = .ok (.iconst 1, 1) := by decide +kernel
theorem dl_1648 : decode code 1648 = .ok (.iadd, 1) := by decide +kernel
theorem dl_1649 : decode code 1649 = .ok (.iaload, 1) := by decide +kernel
theorem dl_1650 : decode code 1650 = .ok (.aload_n 0, 1) := by decide +kernel
theorem dl_1651 : decode code 1651 = .ok (.iload 4, 2) := by decide +kernel
theorem dl_1653 : decode code 1653 = .ok (.iconst 2, 1) := by decide +kernel
theorem dl_1654 : decode code 1654 = .ok (.iadd, 1) := by decide +kernel
theorem dl_1655 : decode code 1655 = .ok (.iaload, 1) := by decide +kernel
theorem dl_1656 : decode code 1656 = .ok (.aload_n 0, 1) := by decide +kernel
theorem dl_1657 : decode code 1657 = .ok (.iload 4, 2) := by decide +kernel
theorem dl_1659 : decode code 1659 = .ok (.iconst 3, 1) := by decide +kernel
theorem dl_1660 : decode code 1660 = .ok (.iadd, 1) := by decide +kernel
theorem dl_1661 : decode code 1661 = .ok (.iaload, 1) := by decide +kernel
theorem dl_1662 : decode code 1662 = .ok (.invokevirtual 203, 3) := by decide +kernel
theorem dl_1665 : decode code 1665 = .ok (.aload_n 2, 1) := by decide +kernel
theorem dl_1666 : decode code 1666 = .ok (.aload_n 0, 1) := by decide +kernel
theorem dl_1667 : decode code 1667 = .ok (.iload 4, 2) := by decide +kernel
theorem dl_1669 : decode code 1669 = .ok (.iconst 1, 1) := by decide +kernel
theorem dl_1670 : decode code 1670 = .ok (.iadd, 1) := by decide +kernel
theorem dl_1671 : decode code 1671 = .ok (.iaload, 1) := by decide +kernel
theorem dl_1672 : decode code 1672 = .ok (.aload_n 0, 1) := by decide +kernel
theorem dl_1673 : decode code 1673 = .ok (.iload 4, 2) := by decide +kernel
theorem dl_1675 : decode code 1675 = .ok (.iconst 2, 1) := by decide +kernel
theorem dl_1676 : decode code 1676 = .ok (.iadd, 1) := by decide +kernel
theorem dl_1677 : decode code 1677 = .ok (.iaload, 1) := by decide +kernel
theorem dl_1678 : decode code 1678 = .ok (.aload_n 0, 1) := by decide +kernel
theorem dl_1679 : decode code 1679 = .ok (.iload 4, 2) := by decide +kernel
theorem dl_1681 : decode code 1681 = .ok (.iconst 3, 1) := by decide +kernel
theorem dl_1682 : decode code 1682 = .ok (.iadd, 1) := by decide +kernel
theorem dl_1683 : decode code 1683 = .ok (.iaload, 1) := by decide +kernel
theorem dl_1684 : decode code 1684 = .ok (.invokevirtual 206, 3) := by decide +kernel
theorem dl_1687 : decode code 1687 = .ok (.if_icmp .eq 118, 3) := by decide +kernel
theorem dl_1690 : decode code 1690 = .ok (.iconst 0, 1) := by decide +kernel
theorem dl_1691 : decode code 1691 = .ok (.ireturn, 1) := by decide +kernel
theorem dl_1692 : decode code 1692 = .ok (.aload_n 1, 1) := by decide +kernel
theorem dl_1693 : decode code 1693 = .ok (.aload_n 0, 1) := by decide +kernel
theorem dl_1694 : decode code 1694 = .ok (.iload 4, 2) := by decide +kernel
theorem dl_1696 : decode code 1696 = .ok (.iconst 1, 1) := by decide +kernel
theorem dl_1697 : decode code 1697 = .ok (.iadd, 1) := by decide +kernel
theorem dl_1698 : decode code 1698 = .ok (.iaload, 1) := by decide +kernel
theorem dl_1699 : decode code 1699 = .ok (.aload_n 0, 1) := by decide +kernel
theorem dl_1700 : decode code 1700 = .ok (.iload 4, 2) := by decide +kernel
theorem dl_1702 : decode code 1702 = .ok (.iconst 2, 1) := by decide +kernel
theorem dl_1703 : decode code 1703 = .ok (.iadd, 1) := by decide +kernel
theorem dl_1704 : decode code 1704 = .ok (.iaload, 1) := by decide +kernel
theorem dl_1705 : decode code 1705 = .ok (.aload_n 0, 1) := by decide +kernel
theorem dl_1706 : decode code 1706 = .ok (.iload 4, 2) := by decide +kernel
theorem dl_1708 : decode code 1708 = .ok (.iconst 3, 1) := by decide +kernel
theorem dl_1709 : decode code 1709 = .ok (.iadd, 1) := by decide +kernel
theorem dl_1710 : decode code 1710 = .ok (.iaload, 1) := by decide +kernel
theorem dl_1711 : decode code 1711 = .ok (.invokevirtual 207, 3) := by decide +kernel
theorem dl_1714 : decode code 1714 = .ok (.aload_n 2, 1) := by decide +kernel
theorem dl_1715 : decode code 1715 = .ok (.aload_n 0, 1) := by decide +kernel
theorem dl_1716 : decode code 1716 = .ok (.iload 4, 2) := by decide +kernel
theorem dl_1718 : decode code 1718 = .ok (.iconst 1, 1) := by decide +kernel
theorem dl_1719 : decode code 1719 = .ok (.iadd, 1) := by decide +kernel
theorem dl_1720 : decode code 1720 = .ok (.iaload, 1) := by decide +kernel
theorem dl_1721 : decode code 1721 = .ok (.aload_n 0, 1) := by decide +kernel
theorem dl_1722 : decode code 1722 = .ok (.iload 4, 2) := by decide +kernel
theorem dl_1724 : decode code 1724 = .ok (.iconst 2, 1) := by decide +kernel
theorem dl_1725 : decode code 1725 = .ok (.iadd, 1) := by decide +kernel
theorem dl_1726 : decode code 1726 = .ok (.iaload, 1) := by decide +kernel
theorem dl_1727 : decode code 1727 = .ok (.aload_n 0, 1) := by decide +kernel
theorem dl_1728 : decode code 1728 = .ok (.iload 4, 2) := by decide +kernel
theorem dl_1730 : decode code 1730 = .ok (.iconst 3, 1) := by decide +kernel
theorem dl_1731 : decode code 1731 = .ok (.iadd, 1) := by decide +kernel
theorem dl_1732 : decode code 1732 = .ok (.iaload, 1) := by decide +kernel
theorem dl_1733 : decode code 1733 = .ok (.invokevirtual 210, 3) := by decide +kernel
theorem dl_1736 : decode code 1736 = .ok (.if_icmp .eq 69, 3) := by decide +kernel
theorem dl_1739 : decode code 1739 = .ok (.iconst 0, 1) := by decide +kernel
theorem dl_1740 : decode code 1740 = .ok (.ireturn, 1) := by decide +kernel
theorem dl_1741 : decode code 1741 = .ok (.aload_n 1, 1) := by decide +kernel
theorem dl_1742 : decode code 1742 = .ok (.invokevirtual 211, 3) := by decide +kernel
theorem dl_1745 : decode code 1745 = .ok (.aload_n 2, 1) := by decide +kernel
theorem dl_1746 : decode code 1746 = .ok (.invokevirtual 214, 3) := by decide +kernel
theorem dl_1749 : decode code 1749 = .ok (.if_icmp .eq 56, 3) := by decide +kernel
theorem dl_1752 : decode code 1752 = .ok (.iconst 0, 1) := by decide +kernel
theorem dl_1753 : decode code 1753 = .ok (.ireturn, 1) := by decide +kernel
theorem dl_1754 : decode code 1754 = .ok (.aload_n 1, 1) := by decide +kernel
theorem dl_1755 : decode code 1755 = .ok (.invokevirtual 215, 3) := by decide +kernel
theorem dl_1758 : decode code 1758 = .ok (.aload_n 2, 1) := by decide +kernel
theorem dl_1759 : decode code 1759 = .ok (.invokevirtual 218, 3) := by decide +kernel
theorem dl_1762 : decode code 1762 = .ok (.if_icmp .eq 43, 3) := by decide +kernel
theorem dl_1765 : decode code 1765 = .ok (.iconst 0, 1) := by decide +kernel
theorem dl_1766 : decode code 1766 = .ok (.ireturn, 1) := by decide +kernel
theorem dl_1767 : decode code 1767 = .ok (.aload_n 1, 1) := by decide +kernel
theorem dl_1768 : decode code 1768 = .ok (.invokevirtual 219, 3) := by decide +kernel
theorem dl_1771 : decode code 1771 = .ok (.aload_n 2, 1) := by decide +kernel
theorem dl_1772 : decode code 1772 = .ok (.invokevirtual 222, 3) := by decide +kernel
theorem dl_1775 : decode code 1775 = .ok (.if_icmp .eq 30, 3) := by decide +kernel
theorem dl_1778 : decode code 1778 = .ok (.iconst 0, 1) := by decide +kernel
theorem dl_1779 : decode code 1779 = .ok (.ireturn, 1) := by decide +kernel
theorem dl_1780 : decode code 1780 = .ok (.aload_n 1, 1) := by decide +kernel
theorem dl_1781 : decode code 1781 = .ok (.aload_n 0, 1) := by decide +kernel
