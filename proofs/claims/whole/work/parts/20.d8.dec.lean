/-! The law: what stands at its places, 8. -/
theorem dC_1622 : decode code 1622 = .ok (.iload 5, 2) := by decide +kernel
theorem dC_1624 : decode code 1624 = .ok (.iconst 2, 1) := by decide +kernel
theorem dC_1625 : decode code 1625 = .ok (.iadd, 1) := by decide +kernel
theorem dC_1626 : decode code 1626 = .ok (.iaload, 1) := by decide +kernel
theorem dC_1627 : decode code 1627 = .ok (.aload_n 3, 1) := by decide +kernel
theorem dC_1628 : decode code 1628 = .ok (.invokestatic 185, 3) := by decide +kernel
theorem dC_1631 : decode code 1631 = .ok (.istore 6, 2) := by decide +kernel
theorem dC_1633 : decode code 1633 = .ok (.aload_n 2, 1) := by decide +kernel
theorem dC_1634 : decode code 1634 = .ok (.aload_n 0, 1) := by decide +kernel
theorem dC_1635 : decode code 1635 = .ok (.iload 5, 2) := by decide +kernel
theorem dC_1637 : decode code 1637 = .ok (.iconst 1, 1) := by decide +kernel
theorem dC_1638 : decode code 1638 = .ok (.iadd, 1) := by decide +kernel
theorem dC_1639 : decode code 1639 = .ok (.iaload, 1) := by decide +kernel
theorem dC_1640 : decode code 1640 = .ok (.aload_n 0, 1) := by decide +kernel
theorem dC_1641 : decode code 1641 = .ok (.iload 5, 2) := by decide +kernel
theorem dC_1643 : decode code 1643 = .ok (.iconst 2, 1) := by decide +kernel
theorem dC_1644 : decode code 1644 = .ok (.iadd, 1) := by decide +kernel
theorem dC_1645 : decode code 1645 = .ok (.iaload, 1) := by decide +kernel
theorem dC_1646 : decode code 1646 = .ok (.invokevirtual 187, 3) := by decide +kernel
theorem dC_1649 : decode code 1649 = .ok (.istore 7, 2) := by decide +kernel
theorem dC_1651 : decode code 1651 = .ok (.aload_n 2, 1) := by decide +kernel
theorem dC_1652 : decode code 1652 = .ok (.invokevirtual 110, 3) := by decide +kernel
theorem dC_1655 : decode code 1655 = .ok (.iload 6, 2) := by decide +kernel
theorem dC_1657 : decode code 1657 = .ok (.if_icmp .eq 5, 3) := by decide +kernel
theorem dC_1662 : decode code 1662 = .ok (.iload 6, 2) := by decide +kernel
theorem dC_1664 : decode code 1664 = .ok (.ifCond .ne 15, 3) := by decide +kernel
theorem dC_1667 : decode code 1667 = .ok (.aload_n 3, 1) := by decide +kernel
theorem dC_1668 : decode code 1668 = .ok (.iconst 0, 1) := by decide +kernel
theorem dC_1669 : decode code 1669 = .ok (.laload, 1) := by decide +kernel
theorem dC_1670 : decode code 1670 = .ok (.iload 7, 2) := by decide +kernel
theorem dC_1672 : decode code 1672 = .ok (.i2l, 1) := by decide +kernel
theorem dC_1673 : decode code 1673 = .ok (.lcmp, 1) := by decide +kernel
theorem dC_1674 : decode code 1674 = .ok (.ifCond .eq 5, 3) := by decide +kernel
theorem dC_1679 : decode code 1679 = .ok (.goto 72, 3) := by decide +kernel
theorem dC_1682 : decode code 1682 = .ok (.aload_n 1, 1) := by decide +kernel
theorem dC_1683 : decode code 1683 = .ok (.invokevirtual 188, 3) := by decide +kernel
theorem dC_1686 : decode code 1686 = .ok (.aload_n 2, 1) := by decide +kernel
theorem dC_1687 : decode code 1687 = .ok (.invokevirtual 191, 3) := by decide +kernel
theorem dC_1690 : decode code 1690 = .ok (.if_icmp .eq 61, 3) := by decide +kernel
theorem dC_1695 : decode code 1695 = .ok (.aload_n 1, 1) := by decide +kernel
theorem dC_1696 : decode code 1696 = .ok (.aload_n 0, 1) := by decide +kernel
theorem dC_1697 : decode code 1697 = .ok (.iload 5, 2) := by decide +kernel
theorem dC_1699 : decode code 1699 = .ok (.iconst 1, 1) := by decide +kernel
theorem dC_1700 : decode code 1700 = .ok (.iadd, 1) := by decide +kernel
theorem dC_1701 : decode code 1701 = .ok (.iaload, 1) := by decide +kernel
theorem dC_1702 : decode code 1702 = .ok (.aload_n 3, 1) := by decide +kernel
theorem dC_1703 : decode code 1703 = .ok (.invokestatic 192, 3) := by decide +kernel
theorem dC_1706 : decode code 1706 = .ok (.istore 6, 2) := by decide +kernel
theorem dC_1708 : decode code 1708 = .ok (.aload_n 2, 1) := by decide +kernel
theorem dC_1709 : decode code 1709 = .ok (.aload_n 0, 1) := by decide +kernel
theorem dC_1710 : decode code 1710 = .ok (.iload 5, 2) := by decide +kernel
theorem dC_1712 : decode code 1712 = .ok (.iconst 1, 1) := by decide +kernel
theorem dC_1713 : decode code 1713 = .ok (.iadd, 1) := by decide +kernel
theorem dC_1714 : decode code 1714 = .ok (.iaload, 1) := by decide +kernel
theorem dC_1715 : decode code 1715 = .ok (.invokevirtual 194, 3) := by decide +kernel
theorem dC_1718 : decode code 1718 = .ok (.istore 7, 2) := by decide +kernel
theorem dC_1720 : decode code 1720 = .ok (.aload_n 2, 1) := by decide +kernel
theorem dC_1721 : decode code 1721 = .ok (.invokevirtual 110, 3) := by decide +kernel
theorem dC_1724 : decode code 1724 = .ok (.iload 6, 2) := by decide +kernel
theorem dC_1726 : decode code 1726 = .ok (.if_icmp .eq 5, 3) := by decide +kernel
theorem dC_1731 : decode code 1731 = .ok (.iload 6, 2) := by decide +kernel
theorem dC_1733 : decode code 1733 = .ok (.ifCond .ne 15, 3) := by decide +kernel
theorem dC_1736 : decode code 1736 = .ok (.aload_n 3, 1) := by decide +kernel
theorem dC_1737 : decode code 1737 = .ok (.iconst 0, 1) := by decide +kernel
theorem dC_1738 : decode code 1738 = .ok (.laload, 1) := by decide +kernel
theorem dC_1739 : decode code 1739 = .ok (.iload 7, 2) := by decide +kernel
theorem dC_1741 : decode code 1741 = .ok (.i2l, 1) := by decide +kernel
theorem dC_1742 : decode code 1742 = .ok (.lcmp, 1) := by decide +kernel
theorem dC_1743 : decode code 1743 = .ok (.ifCond .eq 5, 3) := by decide +kernel
theorem dC_1748 : decode code 1748 = .ok (.goto 3, 3) := by decide +kernel
theorem dC_1751 : decode code 1751 = .ok (.iinc 5 5, 3) := by decide +kernel
theorem dC_1754 : decode code 1754 = .ok (.goto (-1726), 3) := by decide +kernel
theorem dC_1757 : decode code 1757 = .ok (.iconst 1, 1) := by decide +kernel
theorem dC_1758 : decode code 1758 = .ok (.ireturn, 1) := by decide +kernel
