theorem dL_law__1677 : decode cL_law_ 1677 = .ok (.iload 4, 2) := by decide +kernel
theorem dL_law__1679 : decode cL_law_ 1679 = .ok (.iconst 1, 1) := by decide +kernel
theorem dL_law__1680 : decode cL_law_ 1680 = .ok (.iadd, 1) := by decide +kernel
theorem dL_law__1681 : decode cL_law_ 1681 = .ok (.iaload, 1) := by decide +kernel
theorem dL_law__1682 : decode cL_law_ 1682 = .ok (.aload_n 0, 1) := by decide +kernel
theorem dL_law__1683 : decode cL_law_ 1683 = .ok (.iload 4, 2) := by decide +kernel
theorem dL_law__1685 : decode cL_law_ 1685 = .ok (.iconst 2, 1) := by decide +kernel
theorem dL_law__1686 : decode cL_law_ 1686 = .ok (.iadd, 1) := by decide +kernel
theorem dL_law__1687 : decode cL_law_ 1687 = .ok (.iaload, 1) := by decide +kernel
theorem dL_law__1688 : decode cL_law_ 1688 = .ok (.invokevirtual 205, 3) := by decide +kernel
theorem dL_law__1691 : decode cL_law_ 1691 = .ok (.istore 6, 2) := by decide +kernel
theorem dL_law__1693 : decode cL_law_ 1693 = .ok (.aload_n 2, 1) := by decide +kernel
theorem dL_law__1694 : decode cL_law_ 1694 = .ok (.invokevirtual 134, 3) := by decide +kernel
theorem dL_law__1697 : decode cL_law_ 1697 = .ok (.iload 5, 2) := by decide +kernel
theorem dL_law__1699 : decode cL_law_ 1699 = .ok (.if_icmp .eq 5, 3) := by decide +kernel
theorem dL_law__1702 : decode cL_law_ 1702 = .ok (.iconst 0, 1) := by decide +kernel
theorem dL_law__1703 : decode cL_law_ 1703 = .ok (.ireturn, 1) := by decide +kernel
theorem dL_law__1704 : decode cL_law_ 1704 = .ok (.iload 5, 2) := by decide +kernel
theorem dL_law__1706 : decode cL_law_ 1706 = .ok (.ifCond .ne 15, 3) := by decide +kernel
theorem dL_law__1709 : decode cL_law_ 1709 = .ok (.aload_n 3, 1) := by decide +kernel
theorem dL_law__1710 : decode cL_law_ 1710 = .ok (.iconst 0, 1) := by decide +kernel
theorem dL_law__1711 : decode cL_law_ 1711 = .ok (.laload, 1) := by decide +kernel
theorem dL_law__1712 : decode cL_law_ 1712 = .ok (.iload 6, 2) := by decide +kernel
theorem dL_law__1714 : decode cL_law_ 1714 = .ok (.i2l, 1) := by decide +kernel
theorem dL_law__1715 : decode cL_law_ 1715 = .ok (.lcmp, 1) := by decide +kernel
theorem dL_law__1716 : decode cL_law_ 1716 = .ok (.ifCond .eq 5, 3) := by decide +kernel
theorem dL_law__1719 : decode cL_law_ 1719 = .ok (.iconst 0, 1) := by decide +kernel
theorem dL_law__1720 : decode cL_law_ 1720 = .ok (.ireturn, 1) := by decide +kernel
theorem dL_law__1721 : decode cL_law_ 1721 = .ok (.goto 1086, 3) := by decide +kernel
theorem dL_law__1724 : decode cL_law_ 1724 = .ok (.aload_n 1, 1) := by decide +kernel
theorem dL_law__1725 : decode cL_law_ 1725 = .ok (.aload_n 0, 1) := by decide +kernel
theorem dL_law__1726 : decode cL_law_ 1726 = .ok (.iload 4, 2) := by decide +kernel
theorem dL_law__1728 : decode cL_law_ 1728 = .ok (.iconst 1, 1) := by decide +kernel
theorem dL_law__1729 : decode cL_law_ 1729 = .ok (.iadd, 1) := by decide +kernel
theorem dL_law__1730 : decode cL_law_ 1730 = .ok (.iaload, 1) := by decide +kernel
theorem dL_law__1731 : decode cL_law_ 1731 = .ok (.aload_n 0, 1) := by decide +kernel
theorem dL_law__1732 : decode cL_law_ 1732 = .ok (.iload 4, 2) := by decide +kernel
theorem dL_law__1734 : decode cL_law_ 1734 = .ok (.iconst 2, 1) := by decide +kernel
theorem dL_law__1735 : decode cL_law_ 1735 = .ok (.iadd, 1) := by decide +kernel
theorem dL_law__1736 : decode cL_law_ 1736 = .ok (.iaload, 1) := by decide +kernel
theorem dL_law__1737 : decode cL_law_ 1737 = .ok (.aload_n 3, 1) := by decide +kernel
theorem dL_law__1738 : decode cL_law_ 1738 = .ok (.invokestatic 206, 3) := by decide +kernel
theorem dL_law__1741 : decode cL_law_ 1741 = .ok (.istore 5, 2) := by decide +kernel
theorem dL_law__1743 : decode cL_law_ 1743 = .ok (.aload_n 2, 1) := by decide +kernel
theorem dL_law__1744 : decode cL_law_ 1744 = .ok (.aload_n 0, 1) := by decide +kernel
theorem dL_law__1745 : decode cL_law_ 1745 = .ok (.iload 4, 2) := by decide +kernel
theorem dL_law__1747 : decode cL_law_ 1747 = .ok (.iconst 1, 1) := by decide +kernel
theorem dL_law__1748 : decode cL_law_ 1748 = .ok (.iadd, 1) := by decide +kernel
theorem dL_law__1749 : decode cL_law_ 1749 = .ok (.iaload, 1) := by decide +kernel
theorem dL_law__1750 : decode cL_law_ 1750 = .ok (.aload_n 0, 1) := by decide +kernel
theorem dL_law__1751 : decode cL_law_ 1751 = .ok (.iload 4, 2) := by decide +kernel
theorem dL_law__1753 : decode cL_law_ 1753 = .ok (.iconst 2, 1) := by decide +kernel
theorem dL_law__1754 : decode cL_law_ 1754 = .ok (.iadd, 1) := by decide +kernel
theorem dL_law__1755 : decode cL_law_ 1755 = .ok (.iaload, 1) := by decide +kernel
theorem dL_law__1756 : decode cL_law_ 1756 = .ok (.invokevirtual 208, 3) := by decide +kernel
theorem dL_law__1759 : decode cL_law_ 1759 = .ok (.istore 6, 2) := by decide +kernel
theorem dL_law__1761 : decode cL_law_ 1761 = .ok (.aload_n 2, 1) := by decide +kernel
theorem dL_law__1762 : decode cL_law_ 1762 = .ok (.invokevirtual 134, 3) := by decide +kernel
theorem dL_law__1765 : decode cL_law_ 1765 = .ok (.iload 5, 2) := by decide +kernel
theorem dL_law__1767 : decode cL_law_ 1767 = .ok (.if_icmp .eq 5, 3) := by decide +kernel
theorem dL_law__1770 : decode cL_law_ 1770 = .ok (.iconst 0, 1) := by decide +kernel
theorem dL_law__1771 : decode cL_law_ 1771 = .ok (.ireturn, 1) := by decide +kernel
theorem dL_law__1772 : decode cL_law_ 1772 = .ok (.iload 5, 2) := by decide +kernel
theorem dL_law__1774 : decode cL_law_ 1774 = .ok (.ifCond .ne 15, 3) := by decide +kernel
theorem dL_law__1777 : decode cL_law_ 1777 = .ok (.aload_n 3, 1) := by decide +kernel
theorem dL_law__1778 : decode cL_law_ 1778 = .ok (.iconst 0, 1) := by decide +kernel
theorem dL_law__1779 : decode cL_law_ 1779 = .ok (.laload, 1) := by decide +kernel
theorem dL_law__1780 : decode cL_law_ 1780 = .ok (.iload 6, 2) := by decide +kernel
theorem dL_law__1782 : decode cL_law_ 1782 = .ok (.i2l, 1) := by decide +kernel
theorem dL_law__1783 : decode cL_law_ 1783 = .ok (.lcmp, 1) := by decide +kernel
theorem dL_law__1784 : decode cL_law_ 1784 = .ok (.ifCond .eq 5, 3) := by decide +kernel
theorem dL_law__1787 : decode cL_law_ 1787 = .ok (.iconst 0, 1) := by decide +kernel
theorem dL_law__1788 : decode cL_law_ 1788 = .ok (.ireturn, 1) := by decide +kernel
theorem dL_law__1789 : decode cL_law_ 1789 = .ok (.goto 1018, 3) := by decide +kernel
theorem dL_law__1792 : decode cL_law_ 1792 = .ok (.aload_n 1, 1) := by decide +kernel
theorem dL_law__1793 : decode cL_law_ 1793 = .ok (.aload_n 0, 1) := by decide +kernel
theorem dL_law__1794 : decode cL_law_ 1794 = .ok (.iload 4, 2) := by decide +kernel
theorem dL_law__1796 : decode cL_law_ 1796 = .ok (.iconst 1, 1) := by decide +kernel
theorem dL_law__1797 : decode cL_law_ 1797 = .ok (.iadd, 1) := by decide +kernel
theorem dL_law__1798 : decode cL_law_ 1798 = .ok (.iaload, 1) := by decide +kernel
theorem dL_law__1799 : decode cL_law_ 1799 = .ok (.aload_n 0, 1) := by decide +kernel
theorem dL_law__1800 : decode cL_law_ 1800 = .ok (.iload 4, 2) := by decide +kernel
theorem dL_law__1802 : decode cL_law_ 1802 = .ok (.iconst 2, 1) := by decide +kernel
theorem dL_law__1803 : decode cL_law_ 1803 = .ok (.iadd, 1) := by decide +kernel
theorem dL_law__1804 : decode cL_law_ 1804 = .ok (.iaload, 1) := by decide +kernel
theorem dL_law__1805 : decode cL_law_ 1805 = .ok (.aload_n 0, 1) := by decide +kernel
theorem dL_law__1806 : decode cL_law_ 1806 = .ok (.iload 4, 2) := by decide +kernel
theorem dL_law__1808 : decode cL_law_ 1808 = .ok (.iconst 3, 1) := by decide +kernel
theorem dL_law__1809 : decode cL_law_ 1809 = .ok (.iadd, 1) := by decide +kernel
theorem dL_law__1810 : decode cL_law_ 1810 = .ok (.iaload, 1) := by decide +kernel
theorem dL_law__1811 : decode cL_law_ 1811 = .ok (.aload_n 3, 1) := by decide +kernel
theorem dL_law__1812 : decode cL_law_ 1812 = .ok (.invokestatic 209, 3) := by decide +kernel
theorem dL_law__1815 : decode cL_law_ 1815 = .ok (.istore 5, 2) := by decide +kernel
theorem dL_law__1817 : decode cL_law_ 1817 = .ok (.aload_n 2, 1) := by decide +kernel
theorem dL_law__1818 : decode cL_law_ 1818 = .ok (.aload_n 0, 1) := by decide +kernel
theorem dL_law__1819 : decode cL_law_ 1819 = .ok (.iload 4, 2) := by decide +kernel
theorem dL_law__1821 : decode cL_law_ 1821 = .ok (.iconst 1, 1) := by decide +kernel
theorem dL_law__1822 : decode cL_law_ 1822 = .ok (.iadd, 1) := by decide +kernel
theorem dL_law__1823 : decode cL_law_ 1823 = .ok (.iaload, 1) := by decide +kernel
theorem dL_law__1824 : decode cL_law_ 1824 = .ok (.aload_n 0, 1) := by decide +kernel
theorem dL_law__1825 : decode cL_law_ 1825 = .ok (.iload 4, 2) := by decide +kernel
theorem dL_law__1827 : decode cL_law_ 1827 = .ok (.iconst 2, 1) := by decide +kernel
theorem dL_law__1828 : decode cL_law_ 1828 = .ok (.iadd, 1) := by decide +kernel
theorem dL_law__1829 : decode cL_law_ 1829 = .ok (.iaload, 1) := by decide +kernel
theorem dL_law__1830 : decode cL_law_ 1830 = .ok (.aload_n 0, 1) := by decide +kernel
theorem dL_law__1831 : decode cL_law_ 1831 = .ok (.iload 4, 2) := by decide +kernel
theorem dL_law__1833 : decode cL_law_ 1833 = .ok (.iconst 3, 1) := by decide +kernel
theorem dL_law__1834 : decode cL_law_ 1834 = .ok (.iadd, 1) := by decide +kernel
theorem dL_law__1835 : decode cL_law_ 1835 = .ok (.iaload, 1) := by decide +kernel
theorem dL_law__1836 : decode cL_law_ 1836 = .ok (.invokevirtual 211, 3) := by decide +kernel
theorem dL_law__1839 : decode cL_law_ 1839 = .ok (.istore 6, 2) := by decide +kernel
theorem dL_law__1841 : decode cL_law_ 1841 = .ok (.aload_n 2, 1) := by decide +kernel
theorem dL_law__1842 : decode cL_law_ 1842 = .ok (.invokevirtual 134, 3) := by decide +kernel
theorem dL_law__1845 : decode cL_law_ 1845 = .ok (.iload 5, 2) := by decide +kernel
theorem dL_law__1847 : decode cL_law_ 1847 = .ok (.if_icmp .eq 5, 3) := by decide +kernel
theorem dL_law__1850 : decode cL_law_ 1850 = .ok (.iconst 0, 1) := by decide +kernel
theorem dL_law__1851 : decode cL_law_ 1851 = .ok (.ireturn, 1) := by decide +kernel
theorem dL_law__1852 : decode cL_law_ 1852 = .ok (.iload 5, 2) := by decide +kernel
theorem dL_law__1854 : decode cL_law_ 1854 = .ok (.ifCond .ne 15, 3) := by decide +kernel
theorem dL_law__1857 : decode cL_law_ 1857 = .ok (.aload_n 3, 1) := by decide +kernel
theorem dL_law__1858 : decode cL_law_ 1858 = .ok (.iconst 0, 1) := by decide +kernel
theorem dL_law__1859 : decode cL_law_ 1859 = .ok (.laload, 1) := by decide +kernel
theorem dL_law__1860 : decode cL_law_ 1860 = .ok (.iload 6, 2) := by decide +kernel
theorem dL_law__1862 : decode cL_law_ 1862 = .ok (.i2l, 1) := by decide +kernel
theorem dL_law__1863 : decode cL_law_ 1863 = .ok (.lcmp, 1) := by decide +kernel
theorem dL_law__1864 : decode cL_law_ 1864 = .ok (.ifCond .eq 5, 3) := by decide +kernel
theorem dL_law__1867 : decode cL_law_ 1867 = .ok (.iconst 0, 1) := by decide +kernel
theorem dL_law__1868 : decode cL_law_ 1868 = .ok (.ireturn, 1) := by decide +kernel
theorem dL_law__1869 : decode cL_law_ 1869 = .ok (.goto 938, 3) := by decide +kernel
theorem dL_law__1872 : decode cL_law_ 1872 = .ok (.aload_n 1, 1) := by decide +kernel
theorem dL_law__1873 : decode cL_law_ 1873 = .ok (.aload_n 0, 1) := by decide +kernel
theorem dL_law__1874 : decode cL_law_ 1874 = .ok (.iload 4, 2) := by decide +kernel
theorem dL_law__1876 : decode cL_law_ 1876 = .ok (.iconst 1, 1) := by decide +kernel
theorem dL_law__1877 : decode cL_law_ 1877 = .ok (.iadd, 1) := by decide +kernel
theorem dL_law__1878 : decode cL_law_ 1878 = .ok (.iaload, 1) := by decide +kernel
theorem dL_law__1879 : decode cL_law_ 1879 = .ok (.aload_n 0, 1) := by decide +kernel
theorem dL_law__1880 : decode cL_law_ 1880 = .ok (.iload 4, 2) := by decide +kernel
theorem dL_law__1882 : decode cL_law_ 1882 = .ok (.iconst 2, 1) := by decide +kernel
theorem dL_law__1883 : decode cL_law_ 1883 = .ok (.iadd, 1) := by decide +kernel
theorem dL_law__1884 : decode cL_law_ 1884 = .ok (.iaload, 1) := by decide +kernel
theorem dL_law__1885 : decode cL_law_ 1885 = .ok (.aload_n 0, 1) := by decide +kernel
theorem dL_law__1886 : decode cL_law_ 1886 = .ok (.iload 4, 2) := by decide +kernel
theorem dL_law__1888 : decode cL_law_ 1888 = .ok (.iconst 3, 1) := by decide +kernel
theorem dL_law__1889 : decode cL_law_ 1889 = .ok (.iadd, 1) := by decide +kernel
theorem dL_law__1890 : decode cL_law_ 1890 = .ok (.iaload, 1) := by decide +kernel
theorem dL_law__1891 : decode cL_law_ 1891 = .ok (.aload_n 0, 1) := by decide +kernel
theorem dL_law__1892 : decode cL_law_ 1892 = .ok (.iload 4, 2) := by decide +kernel
theorem dL_law__1894 : decode cL_law_ 1894 = .ok (.iconst 4, 1) := by decide +kernel
theorem dL_law__1895 : decode cL_law_ 1895 = .ok (.iadd, 1) := by decide +kernel
theorem dL_law__1896 : decode cL_law_ 1896 = .ok (.iaload, 1) := by decide +kernel
theorem dL_law__1897 : decode cL_law_ 1897 = .ok (.aload_n 3, 1) := by decide +kernel
theorem dL_law__1898 : decode cL_law_ 1898 = .ok (.invokestatic 212, 3) := by decide +kernel
theorem dL_law__1901 : decode cL_law_ 1901 = .ok (.istore 5, 2) := by decide +kernel
theorem dL_law__1903 : decode cL_law_ 1903 = .ok (.aload_n 2, 1) := by decide +kernel
theorem dL_law__1904 : decode cL_law_ 1904 = .ok (.aload_n 0, 1) := by decide +kernel
theorem dL_law__1905 : decode cL_law_ 1905 = .ok (.iload 4, 2) := by decide +kernel
theorem dL_law__1907 : decode cL_law_ 1907 = .ok (.iconst 1, 1) := by decide +kernel
theorem dL_law__1908 : decode cL_law_ 1908 = .ok (.iadd, 1) := by decide +kernel
theorem dL_law__1909 : decode cL_law_ 1909 = .ok (.iaload, 1) := by decide +kernel
theorem dL_law__1910 : decode cL_law_ 1910 = .ok (.aload_n 0, 1) := by decide +kernel
theorem dL_law__1911 : decode cL_law_ 1911 = .ok (.iload 4, 2) := by decide +kernel
theorem dL_law__1913 : decode cL_law_ 1913 = .ok (.iconst 2, 1) := by decide +kernel
theorem dL_law__1914 : decode cL_law_ 1914 = .ok (.iadd, 1) := by decide +kernel
theorem dL_law__1915 : decode cL_law_ 1915 = .ok (.iaload, 1) := by decide +kernel
theorem dL_law__1916 : decode cL_law_ 1916 = .ok (.aload_n 0, 1) := by decide +kernel
theorem dL_law__1917 : decode cL_law_ 1917 = .ok (.iload 4, 2) := by decide +kernel
theorem dL_law__1919 : decode cL_law_ 1919 = .ok (.iconst 3, 1) := by decide +kernel
theorem dL_law__1920 : decode cL_law_ 1920 = .ok (.iadd, 1) := by decide +kernel
theorem dL_law__1921 : decode cL_law_ 1921 = .ok (.iaload, 1) := by decide +kernel
theorem dL_law__1922 : decode cL_law_ 1922 = .ok (.aload_n 0, 1) := by decide +kernel
theorem dL_law__1923 : decode cL_law_ 1923 = .ok (.iload 4, 2) := by decide +kernel
theorem dL_law__1925 : decode cL_law_ 1925 = .ok (.iconst 4, 1) := by decide +kernel
theorem dL_law__1926 : decode cL_law_ 1926 = .ok (.iadd, 1) := by decide +kernel
theorem dL_law__1927 : decode cL_law_ 1927 = .ok (.iaload, 1) := by decide +kernel
theorem dL_law__1928 : decode cL_law_ 1928 = .ok (.invokevirtual 215, 3) := by decide +kernel
theorem dL_law__1931 : decode cL_law_ 1931 = .ok (.lstore 6, 2) := by decide +kernel
theorem dL_law__1933 : decode cL_law_ 1933 = .ok (.aload_n 2, 1) := by decide +kernel
theorem dL_law__1934 : decode cL_law_ 1934 = .ok (.invokevirtual 134, 3) := by decide +kernel
theorem dL_law__1937 : decode cL_law_ 1937 = .ok (.iload 5, 2) := by decide +kernel
theorem dL_law__1939 : decode cL_law_ 1939 = .ok (.if_icmp .eq 5, 3) := by decide +kernel
theorem dL_law__1942 : decode cL_law_ 1942 = .ok (.iconst 0, 1) := by decide +kernel
theorem dL_law__1943 : decode cL_law_ 1943 = .ok (.ireturn, 1) := by decide +kernel
theorem dL_law__1944 : decode cL_law_ 1944 = .ok (.iload 5, 2) := by decide +kernel
theorem dL_law__1946 : decode cL_law_ 1946 = .ok (.ifCond .ne 14, 3) := by decide +kernel
theorem dL_law__1949 : decode cL_law_ 1949 = .ok (.aload_n 3, 1) := by decide +kernel
theorem dL_law__1950 : decode cL_law_ 1950 = .ok (.iconst 0, 1) := by decide +kernel
theorem dL_law__1951 : decode cL_law_ 1951 = .ok (.laload, 1) := by decide +kernel
theorem dL_law__1952 : decode cL_law_ 1952 = .ok (.lload 6, 2) := by decide +kernel
theorem dL_law__1954 : decode cL_law_ 1954 = .ok (.lcmp, 1) := by decide +kernel
theorem dL_law__1955 : decode cL_law_ 1955 = .ok (.ifCond .eq 5, 3) := by decide +kernel
theorem dL_law__1958 : decode cL_law_ 1958 = .ok (.iconst 0, 1) := by decide +kernel
theorem dL_law__1959 : decode cL_law_ 1959 = .ok (.ireturn, 1) := by decide +kernel
theorem dL_law__1960 : decode cL_law_ 1960 = .ok (.goto 847, 3) := by decide +kernel
theorem dL_law__1963 : decode cL_law_ 1963 = .ok (.aload_n 1, 1) := by decide +kernel
theorem dL_law__1964 : decode cL_law_ 1964 = .ok (.aload_n 0, 1) := by decide +kernel
theorem dL_law__1965 : decode cL_law_ 1965 = .ok (.iload 4, 2) := by decide +kernel
theorem dL_law__1967 : decode cL_law_ 1967 = .ok (.iconst 1, 1) := by decide +kernel
theorem dL_law__1968 : decode cL_law_ 1968 = .ok (.iadd, 1) := by decide +kernel
theorem dL_law__1969 : decode cL_law_ 1969 = .ok (.iaload, 1) := by decide +kernel
theorem dL_law__1970 : decode cL_law_ 1970 = .ok (.aload_n 0, 1) := by decide +kernel
theorem dL_law__1971 : decode cL_law_ 1971 = .ok (.iload 4, 2) := by decide +kernel
theorem dL_law__1973 : decode cL_law_ 1973 = .ok (.iconst 2, 1) := by decide +kernel
theorem dL_law__1974 : decode cL_law_ 1974 = .ok (.iadd, 1) := by decide +kernel
theorem dL_law__1975 : decode cL_law_ 1975 = .ok (.iaload, 1) := by decide +kernel
theorem dL_law__1976 : decode cL_law_ 1976 = .ok (.aload_n 0, 1) := by decide +kernel
theorem dL_law__1977 : decode cL_law_ 1977 = .ok (.iload 4, 2) := by decide +kernel
theorem dL_law__1979 : decode cL_law_ 1979 = .ok (.iconst 3, 1) := by decide +kernel
theorem dL_law__1980 : decode cL_law_ 1980 = .ok (.iadd, 1) := by decide +kernel
theorem dL_law__1981 : decode cL_law_ 1981 = .ok (.iaload, 1) := by decide +kernel
theorem dL_law__1982 : decode cL_law_ 1982 = .ok (.aload_n 3, 1) := by decide +kernel
theorem dL_law__1983 : decode cL_law_ 1983 = .ok (.invokestatic 216, 3) := by decide +kernel
theorem dL_law__1986 : decode cL_law_ 1986 = .ok (.istore 5, 2) := by decide +kernel
theorem dL_law__1988 : decode cL_law_ 1988 = .ok (.aload_n 2, 1) := by decide +kernel
theorem dL_law__1989 : decode cL_law_ 1989 = .ok (.aload_n 0, 1) := by decide +kernel
theorem dL_law__1990 : decode cL_law_ 1990 = .ok (.iload 4, 2) := by decide +kernel
theorem dL_law__1992 : decode cL_law_ 1992 = .ok (.iconst 1, 1) := by decide +kernel
theorem dL_law__1993 : decode cL_law_ 1993 = .ok (.iadd, 1) := by decide +kernel
theorem dL_law__1994 : decode cL_law_ 1994 = .ok (.iaload, 1) := by decide +kernel
theorem dL_law__1995 : decode cL_law_ 1995 = .ok (.aload_n 0, 1) := by decide +kernel
theorem dL_law__1996 : decode cL_law_ 1996 = .ok (.iload 4, 2) := by decide +kernel
theorem dL_law__1998 : decode cL_law_ 1998 = .ok (.iconst 2, 1) := by decide +kernel
theorem dL_law__1999 : decode cL_law_ 1999 = .ok (.iadd, 1) := by decide +kernel
theorem dL_law__2000 : decode cL_law_ 2000 = .ok (.iaload, 1) := by decide +kernel
theorem dL_law__2001 : decode cL_law_ 2001 = .ok (.aload_n 0, 1) := by decide +kernel
theorem dL_law__2002 : decode cL_law_ 2002 = .ok (.iload 4, 2) := by decide +kernel
theorem dL_law__2004 : decode cL_law_ 2004 = .ok (.iconst 3, 1) := by decide +kernel
theorem dL_law__2005 : decode cL_law_ 2005 = .ok (.iadd, 1) := by decide +kernel
theorem dL_law__2006 : decode cL_law_ 2006 = .ok (.iaload, 1) := by decide +kernel
theorem dL_law__2007 : decode cL_law_ 2007 = .ok (.invokevirtual 218, 3) := by decide +kernel
theorem dL_law__2010 : decode cL_law_ 2010 = .ok (.istore 6, 2) := by decide +kernel
theorem dL_law__2012 : decode cL_law_ 2012 = .ok (.aload_n 2, 1) := by decide +kernel
theorem dL_law__2013 : decode cL_law_ 2013 = .ok (.invokevirtual 134, 3) := by decide +kernel
theorem dL_law__2016 : decode cL_law_ 2016 = .ok (.iload 5, 2) := by decide +kernel
theorem dL_law__2018 : decode cL_law_ 2018 = .ok (.if_icmp .eq 5, 3) := by decide +kernel
theorem dL_law__2021 : decode cL_law_ 2021 = .ok (.iconst 0, 1) := by decide +kernel
theorem dL_law__2022 : decode cL_law_ 2022 = .ok (.ireturn, 1) := by decide +kernel
theorem dL_law__2023 : decode cL_law_ 2023 = .ok (.iload 5, 2) := by decide +kernel
theorem dL_law__2025 : decode cL_law_ 2025 = .ok (.ifCond .ne 15, 3) := by decide +kernel
theorem dL_law__2028 : decode cL_law_ 2028 = .ok (.aload_n 3, 1) := by decide +kernel
theorem dL_law__2029 : decode cL_law_ 2029 = .ok (.iconst 0, 1) := by decide +kernel
theorem dL_law__2030 : decode cL_law_ 2030 = .ok (.laload, 1) := by decide +kernel
theorem dL_law__2031 : decode cL_law_ 2031 = .ok (.iload 6, 2) := by decide +kernel
theorem dL_law__2033 : decode cL_law_ 2033 = .ok (.i2l, 1) := by decide +kernel
theorem dL_law__2034 : decode cL_law_ 2034 = .ok (.lcmp, 1) := by decide +kernel
theorem dL_law__2035 : decode cL_law_ 2035 = .ok (.ifCond .eq 5, 3) := by decide +kernel
theorem dL_law__2038 : decode cL_law_ 2038 = .ok (.iconst 0, 1) := by decide +kernel
theorem dL_law__2039 : decode cL_law_ 2039 = .ok (.ireturn, 1) := by decide +kernel
theorem dL_law__2040 : decode cL_law_ 2040 = .ok (.goto 767, 3) := by decide +kernel
theorem dL_law__2043 : decode cL_law_ 2043 = .ok (.aload_n 1, 1) := by decide +kernel
theorem dL_law__2044 : decode cL_law_ 2044 = .ok (.aload_n 0, 1) := by decide +kernel
