/-! the law, decoded: 1782 and on -/
theorem dl_1782 : decode code 1782 = .ok (.iload 4, 2) := by decide +kernel
theorem dl_1784 : decode code 1784 = .ok (.iconst 1, 1) := by decide +kernel
theorem dl_1785 : decode code 1785 = .ok (.iadd, 1) := by decide +kernel
theorem dl_1786 : decode code 1786 = .ok (.iaload, 1) := by decide +kernel
theorem dl_1787 : decode code 1787 = .ok (.invokevirtual 223, 3) := by decide +kernel
theorem dl_1790 : decode code 1790 = .ok (.aload_n 2, 1) := by decide +kernel
theorem dl_1791 : decode code 1791 = .ok (.aload_n 0, 1) := by decide +kernel
theorem dl_1792 : decode code 1792 = .ok (.iload 4, 2) := by decide +kernel
theorem dl_1794 : decode code 1794 = .ok (.iconst 1, 1) := by decide +kernel
theorem dl_1795 : decode code 1795 = .ok (.iadd, 1) := by decide +kernel
theorem dl_1796 : decode code 1796 = .ok (.iaload, 1) := by decide +kernel
theorem dl_1797 : decode code 1797 = .ok (.invokevirtual 226, 3) := by decide +kernel
theorem dl_1800 : decode code 1800 = .ok (.if_icmp .eq 5, 3) := by decide +kernel
theorem dl_1803 : decode code 1803 = .ok (.iconst 0, 1) := by decide +kernel
theorem dl_1804 : decode code 1804 = .ok (.ireturn, 1) := by decide +kernel
theorem dl_1805 : decode code 1805 = .ok (.iinc 4 6, 3) := by decide +kernel
theorem dl_1808 : decode code 1808 = .ok (.goto (-1785), 3) := by decide +kernel
theorem dl_1811 : decode code 1811 = .ok (.iconst 1, 1) := by decide +kernel
theorem dl_1812 : decode code 1812 = .ok (.ireturn, 1) := by decide +kernel
