theorem dL_law_1704 : decode cL_law 1704 = .ok (.iconst 0, 1) := by decide +kernel
theorem dL_law_1705 : decode cL_law 1705 = .ok (.ireturn, 1) := by decide +kernel
theorem dL_law_1706 : decode cL_law 1706 = .ok (.goto 59, 3) := by decide +kernel
theorem dL_law_1709 : decode cL_law 1709 = .ok (.aload_n 1, 1) := by decide +kernel
theorem dL_law_1710 : decode cL_law 1710 = .ok (.aload_n 0, 1) := by decide +kernel
theorem dL_law_1711 : decode cL_law 1711 = .ok (.iload 4, 2) := by decide +kernel
theorem dL_law_1713 : decode cL_law 1713 = .ok (.iconst 1, 1) := by decide +kernel
theorem dL_law_1714 : decode cL_law 1714 = .ok (.iadd, 1) := by decide +kernel
theorem dL_law_1715 : decode cL_law 1715 = .ok (.iaload, 1) := by decide +kernel
theorem dL_law_1716 : decode cL_law 1716 = .ok (.aload_n 3, 1) := by decide +kernel
theorem dL_law_1717 : decode cL_law 1717 = .ok (.invokestatic 180, 3) := by decide +kernel
theorem dL_law_1720 : decode cL_law 1720 = .ok (.istore 5, 2) := by decide +kernel
theorem dL_law_1722 : decode cL_law 1722 = .ok (.aload_n 2, 1) := by decide +kernel
theorem dL_law_1723 : decode cL_law 1723 = .ok (.aload_n 0, 1) := by decide +kernel
theorem dL_law_1724 : decode cL_law 1724 = .ok (.iload 4, 2) := by decide +kernel
theorem dL_law_1726 : decode cL_law 1726 = .ok (.iconst 1, 1) := by decide +kernel
theorem dL_law_1727 : decode cL_law 1727 = .ok (.iadd, 1) := by decide +kernel
theorem dL_law_1728 : decode cL_law 1728 = .ok (.iaload, 1) := by decide +kernel
theorem dL_law_1729 : decode cL_law 1729 = .ok (.invokevirtual 182, 3) := by decide +kernel
theorem dL_law_1732 : decode cL_law 1732 = .ok (.istore 6, 2) := by decide +kernel
theorem dL_law_1734 : decode cL_law 1734 = .ok (.aload_n 2, 1) := by decide +kernel
theorem dL_law_1735 : decode cL_law 1735 = .ok (.invokevirtual 96, 3) := by decide +kernel
theorem dL_law_1738 : decode cL_law 1738 = .ok (.iload 5, 2) := by decide +kernel
theorem dL_law_1740 : decode cL_law 1740 = .ok (.if_icmp .eq 5, 3) := by decide +kernel
theorem dL_law_1743 : decode cL_law 1743 = .ok (.iconst 0, 1) := by decide +kernel
theorem dL_law_1744 : decode cL_law 1744 = .ok (.ireturn, 1) := by decide +kernel
theorem dL_law_1745 : decode cL_law 1745 = .ok (.iload 5, 2) := by decide +kernel
theorem dL_law_1747 : decode cL_law 1747 = .ok (.ifCond .ne 15, 3) := by decide +kernel
theorem dL_law_1750 : decode cL_law 1750 = .ok (.aload_n 3, 1) := by decide +kernel
theorem dL_law_1751 : decode cL_law 1751 = .ok (.iconst 0, 1) := by decide +kernel
theorem dL_law_1752 : decode cL_law 1752 = .ok (.laload, 1) := by decide +kernel
theorem dL_law_1753 : decode cL_law 1753 = .ok (.iload 6, 2) := by decide +kernel
theorem dL_law_1755 : decode cL_law 1755 = .ok (.i2l, 1) := by decide +kernel
theorem dL_law_1756 : decode cL_law 1756 = .ok (.lcmp, 1) := by decide +kernel
theorem dL_law_1757 : decode cL_law 1757 = .ok (.ifCond .eq 5, 3) := by decide +kernel
theorem dL_law_1760 : decode cL_law 1760 = .ok (.iconst 0, 1) := by decide +kernel
theorem dL_law_1761 : decode cL_law 1761 = .ok (.ireturn, 1) := by decide +kernel
theorem dL_law_1762 : decode cL_law 1762 = .ok (.goto 3, 3) := by decide +kernel
theorem dL_law_1765 : decode cL_law 1765 = .ok (.iinc 4 5, 3) := by decide +kernel
theorem dL_law_1768 : decode cL_law 1768 = .ok (.goto (-1745), 3) := by decide +kernel
theorem dL_law_1771 : decode cL_law 1771 = .ok (.iconst 1, 1) := by decide +kernel
theorem dL_law_1772 : decode cL_law 1772 = .ok (.ireturn, 1) := by decide +kernel
