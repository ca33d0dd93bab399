/-! the law, its bytes -/
theorem dL_law__1745 : decode cL_law_ 1745 = .ok (.iload 4, 2) := by decide +kernel
theorem dL_law__1747 : decode cL_law_ 1747 = .ok (.iconst 2, 1) := by decide +kernel
theorem dL_law__1748 : decode cL_law_ 1748 = .ok (.iadd, 1) := by decide +kernel
theorem dL_law__1749 : decode cL_law_ 1749 = .ok (.iaload, 1) := by decide +kernel
theorem dL_law__1750 : decode cL_law_ 1750 = .ok (.aload_n 0, 1) := by decide +kernel
theorem dL_law__1751 : decode cL_law_ 1751 = .ok (.iload 4, 2) := by decide +kernel
theorem dL_law__1753 : decode cL_law_ 1753 = .ok (.iconst 3, 1) := by decide +kernel
theorem dL_law__1754 : decode cL_law_ 1754 = .ok (.iadd, 1) := by decide +kernel
theorem dL_law__1755 : decode cL_law_ 1755 = .ok (.iaload, 1) := by decide +kernel
theorem dL_law__1756 : decode cL_law_ 1756 = .ok (.ifCond .eq 7, 3) := by decide +kernel
theorem dL_law__1759 : decode cL_law_ 1759 = .ok (.iconst 1, 1) := by decide +kernel
theorem dL_law__1760 : decode cL_law_ 1760 = .ok (.goto 4, 3) := by decide +kernel
theorem dL_law__1763 : decode cL_law_ 1763 = .ok (.iconst 0, 1) := by decide +kernel
theorem dL_law__1764 : decode cL_law_ 1764 = .ok (.aload_n 3, 1) := by decide +kernel
theorem dL_law__1765 : decode cL_law_ 1765 = .ok (.invokestatic 231, 3) := by decide +kernel
theorem dL_law__1768 : decode cL_law_ 1768 = .ok (.istore 5, 2) := by decide +kernel
theorem dL_law__1770 : decode cL_law_ 1770 = .ok (.aload_n 2, 1) := by decide +kernel
theorem dL_law__1771 : decode cL_law_ 1771 = .ok (.aload_n 0, 1) := by decide +kernel
theorem dL_law__1772 : decode cL_law_ 1772 = .ok (.iload 4, 2) := by decide +kernel
theorem dL_law__1774 : decode cL_law_ 1774 = .ok (.iconst 1, 1) := by decide +kernel
theorem dL_law__1775 : decode cL_law_ 1775 = .ok (.iadd, 1) := by decide +kernel
theorem dL_law__1776 : decode cL_law_ 1776 = .ok (.iaload, 1) := by decide +kernel
theorem dL_law__1777 : decode cL_law_ 1777 = .ok (.aload_n 0, 1) := by decide +kernel
theorem dL_law__1778 : decode cL_law_ 1778 = .ok (.iload 4, 2) := by decide +kernel
theorem dL_law__1780 : decode cL_law_ 1780 = .ok (.iconst 2, 1) := by decide +kernel
theorem dL_law__1781 : decode cL_law_ 1781 = .ok (.iadd, 1) := by decide +kernel
theorem dL_law__1782 : decode cL_law_ 1782 = .ok (.iaload, 1) := by decide +kernel
theorem dL_law__1783 : decode cL_law_ 1783 = .ok (.aload_n 0, 1) := by decide +kernel
theorem dL_law__1784 : decode cL_law_ 1784 = .ok (.iload 4, 2) := by decide +kernel
theorem dL_law__1786 : decode cL_law_ 1786 = .ok (.iconst 3, 1) := by decide +kernel
theorem dL_law__1787 : decode cL_law_ 1787 = .ok (.iadd, 1) := by decide +kernel
theorem dL_law__1788 : decode cL_law_ 1788 = .ok (.iaload, 1) := by decide +kernel
theorem dL_law__1789 : decode cL_law_ 1789 = .ok (.ifCond .eq 7, 3) := by decide +kernel
theorem dL_law__1792 : decode cL_law_ 1792 = .ok (.iconst 1, 1) := by decide +kernel
theorem dL_law__1793 : decode cL_law_ 1793 = .ok (.goto 4, 3) := by decide +kernel
theorem dL_law__1796 : decode cL_law_ 1796 = .ok (.iconst 0, 1) := by decide +kernel
theorem dL_law__1797 : decode cL_law_ 1797 = .ok (.invokevirtual 234, 3) := by decide +kernel
theorem dL_law__1800 : decode cL_law_ 1800 = .ok (.istore 6, 2) := by decide +kernel
theorem dL_law__1802 : decode cL_law_ 1802 = .ok (.aload_n 2, 1) := by decide +kernel
theorem dL_law__1803 : decode cL_law_ 1803 = .ok (.invokevirtual 136, 3) := by decide +kernel
theorem dL_law__1806 : decode cL_law_ 1806 = .ok (.iload 5, 2) := by decide +kernel
theorem dL_law__1808 : decode cL_law_ 1808 = .ok (.if_icmp .eq 5, 3) := by decide +kernel
theorem dL_law__1813 : decode cL_law_ 1813 = .ok (.iload 5, 2) := by decide +kernel
theorem dL_law__1815 : decode cL_law_ 1815 = .ok (.ifCond .ne 15, 3) := by decide +kernel
theorem dL_law__1818 : decode cL_law_ 1818 = .ok (.aload_n 3, 1) := by decide +kernel
theorem dL_law__1819 : decode cL_law_ 1819 = .ok (.iconst 0, 1) := by decide +kernel
theorem dL_law__1820 : decode cL_law_ 1820 = .ok (.laload, 1) := by decide +kernel
theorem dL_law__1821 : decode cL_law_ 1821 = .ok (.iload 6, 2) := by decide +kernel
theorem dL_law__1823 : decode cL_law_ 1823 = .ok (.i2l, 1) := by decide +kernel
theorem dL_law__1824 : decode cL_law_ 1824 = .ok (.lcmp, 1) := by decide +kernel
theorem dL_law__1825 : decode cL_law_ 1825 = .ok (.ifCond .eq 5, 3) := by decide +kernel
theorem dL_law__1830 : decode cL_law_ 1830 = .ok (.goto 925, 3) := by decide +kernel
theorem dL_law__1833 : decode cL_law_ 1833 = .ok (.aload_n 1, 1) := by decide +kernel
theorem dL_law__1834 : decode cL_law_ 1834 = .ok (.aload_n 0, 1) := by decide +kernel
theorem dL_law__1835 : decode cL_law_ 1835 = .ok (.iload 4, 2) := by decide +kernel
theorem dL_law__1837 : decode cL_law_ 1837 = .ok (.iconst 1, 1) := by decide +kernel
theorem dL_law__1838 : decode cL_law_ 1838 = .ok (.iadd, 1) := by decide +kernel
theorem dL_law__1839 : decode cL_law_ 1839 = .ok (.iaload, 1) := by decide +kernel
theorem dL_law__1840 : decode cL_law_ 1840 = .ok (.aload_n 0, 1) := by decide +kernel
theorem dL_law__1841 : decode cL_law_ 1841 = .ok (.iload 4, 2) := by decide +kernel
theorem dL_law__1843 : decode cL_law_ 1843 = .ok (.iconst 2, 1) := by decide +kernel
theorem dL_law__1844 : decode cL_law_ 1844 = .ok (.iadd, 1) := by decide +kernel
theorem dL_law__1845 : decode cL_law_ 1845 = .ok (.iaload, 1) := by decide +kernel
theorem dL_law__1846 : decode cL_law_ 1846 = .ok (.aload_n 3, 1) := by decide +kernel
theorem dL_law__1847 : decode cL_law_ 1847 = .ok (.invokestatic 235, 3) := by decide +kernel
theorem dL_law__1850 : decode cL_law_ 1850 = .ok (.istore 5, 2) := by decide +kernel
theorem dL_law__1852 : decode cL_law_ 1852 = .ok (.aload_n 2, 1) := by decide +kernel
theorem dL_law__1853 : decode cL_law_ 1853 = .ok (.aload_n 0, 1) := by decide +kernel
theorem dL_law__1854 : decode cL_law_ 1854 = .ok (.iload 4, 2) := by decide +kernel
theorem dL_law__1856 : decode cL_law_ 1856 = .ok (.iconst 1, 1) := by decide +kernel
theorem dL_law__1857 : decode cL_law_ 1857 = .ok (.iadd, 1) := by decide +kernel
theorem dL_law__1858 : decode cL_law_ 1858 = .ok (.iaload, 1) := by decide +kernel
theorem dL_law__1859 : decode cL_law_ 1859 = .ok (.aload_n 0, 1) := by decide +kernel
theorem dL_law__1860 : decode cL_law_ 1860 = .ok (.iload 4, 2) := by decide +kernel
theorem dL_law__1862 : decode cL_law_ 1862 = .ok (.iconst 2, 1) := by decide +kernel
theorem dL_law__1863 : decode cL_law_ 1863 = .ok (.iadd, 1) := by decide +kernel
theorem dL_law__1864 : decode cL_law_ 1864 = .ok (.iaload, 1) := by decide +kernel
theorem dL_law__1865 : decode cL_law_ 1865 = .ok (.invokevirtual 237, 3) := by decide +kernel
theorem dL_law__1868 : decode cL_law_ 1868 = .ok (.istore 6, 2) := by decide +kernel
theorem dL_law__1870 : decode cL_law_ 1870 = .ok (.aload_n 2, 1) := by decide +kernel
theorem dL_law__1871 : decode cL_law_ 1871 = .ok (.invokevirtual 136, 3) := by decide +kernel
theorem dL_law__1874 : decode cL_law_ 1874 = .ok (.iload 5, 2) := by decide +kernel
theorem dL_law__1876 : decode cL_law_ 1876 = .ok (.if_icmp .eq 5, 3) := by decide +kernel
theorem dL_law__1881 : decode cL_law_ 1881 = .ok (.iload 5, 2) := by decide +kernel
theorem dL_law__1883 : decode cL_law_ 1883 = .ok (.ifCond .ne 22, 3) := by decide +kernel
theorem dL_law__1886 : decode cL_law_ 1886 = .ok (.aload_n 3, 1) := by decide +kernel
theorem dL_law__1887 : decode cL_law_ 1887 = .ok (.iconst 0, 1) := by decide +kernel
theorem dL_law__1888 : decode cL_law_ 1888 = .ok (.laload, 1) := by decide +kernel
theorem dL_law__1889 : decode cL_law_ 1889 = .ok (.iload 6, 2) := by decide +kernel
theorem dL_law__1891 : decode cL_law_ 1891 = .ok (.ifCond .eq 7, 3) := by decide +kernel
theorem dL_law__1894 : decode cL_law_ 1894 = .ok (.lconst 1, 1) := by decide +kernel
theorem dL_law__1895 : decode cL_law_ 1895 = .ok (.goto 4, 3) := by decide +kernel
theorem dL_law__1898 : decode cL_law_ 1898 = .ok (.lconst 0, 1) := by decide +kernel
theorem dL_law__1899 : decode cL_law_ 1899 = .ok (.lcmp, 1) := by decide +kernel
theorem dL_law__1900 : decode cL_law_ 1900 = .ok (.ifCond .eq 5, 3) := by decide +kernel
theorem dL_law__1905 : decode cL_law_ 1905 = .ok (.goto 850, 3) := by decide +kernel
theorem dL_law__1908 : decode cL_law_ 1908 = .ok (.aload_n 1, 1) := by decide +kernel
theorem dL_law__1909 : decode cL_law_ 1909 = .ok (.aload_n 0, 1) := by decide +kernel
theorem dL_law__1910 : decode cL_law_ 1910 = .ok (.iload 4, 2) := by decide +kernel
theorem dL_law__1912 : decode cL_law_ 1912 = .ok (.iconst 1, 1) := by decide +kernel
theorem dL_law__1913 : decode cL_law_ 1913 = .ok (.iadd, 1) := by decide +kernel
theorem dL_law__1914 : decode cL_law_ 1914 = .ok (.iaload, 1) := by decide +kernel
theorem dL_law__1915 : decode cL_law_ 1915 = .ok (.aload_n 0, 1) := by decide +kernel
theorem dL_law__1916 : decode cL_law_ 1916 = .ok (.iload 4, 2) := by decide +kernel
theorem dL_law__1918 : decode cL_law_ 1918 = .ok (.iconst 2, 1) := by decide +kernel
theorem dL_law__1919 : decode cL_law_ 1919 = .ok (.iadd, 1) := by decide +kernel
theorem dL_law__1920 : decode cL_law_ 1920 = .ok (.iaload, 1) := by decide +kernel
theorem dL_law__1921 : decode cL_law_ 1921 = .ok (.aload_n 3, 1) := by decide +kernel
theorem dL_law__1922 : decode cL_law_ 1922 = .ok (.invokestatic 238, 3) := by decide +kernel
theorem dL_law__1925 : decode cL_law_ 1925 = .ok (.istore 5, 2) := by decide +kernel
theorem dL_law__1927 : decode cL_law_ 1927 = .ok (.aload_n 2, 1) := by decide +kernel
theorem dL_law__1928 : decode cL_law_ 1928 = .ok (.aload_n 0, 1) := by decide +kernel
theorem dL_law__1929 : decode cL_law_ 1929 = .ok (.iload 4, 2) := by decide +kernel
theorem dL_law__1931 : decode cL_law_ 1931 = .ok (.iconst 1, 1) := by decide +kernel
theorem dL_law__1932 : decode cL_law_ 1932 = .ok (.iadd, 1) := by decide +kernel
theorem dL_law__1933 : decode cL_law_ 1933 = .ok (.iaload, 1) := by decide +kernel
theorem dL_law__1934 : decode cL_law_ 1934 = .ok (.aload_n 0, 1) := by decide +kernel
theorem dL_law__1935 : decode cL_law_ 1935 = .ok (.iload 4, 2) := by decide +kernel
theorem dL_law__1937 : decode cL_law_ 1937 = .ok (.iconst 2, 1) := by decide +kernel
theorem dL_law__1938 : decode cL_law_ 1938 = .ok (.iadd, 1) := by decide +kernel
theorem dL_law__1939 : decode cL_law_ 1939 = .ok (.iaload, 1) := by decide +kernel
theorem dL_law__1940 : decode cL_law_ 1940 = .ok (.invokevirtual 240, 3) := by decide +kernel
theorem dL_law__1943 : decode cL_law_ 1943 = .ok (.istore 6, 2) := by decide +kernel
theorem dL_law__1945 : decode cL_law_ 1945 = .ok (.aload_n 2, 1) := by decide +kernel
theorem dL_law__1946 : decode cL_law_ 1946 = .ok (.invokevirtual 136, 3) := by decide +kernel
theorem dL_law__1949 : decode cL_law_ 1949 = .ok (.iload 5, 2) := by decide +kernel
theorem dL_law__1951 : decode cL_law_ 1951 = .ok (.if_icmp .eq 5, 3) := by decide +kernel
theorem dL_law__1956 : decode cL_law_ 1956 = .ok (.iload 5, 2) := by decide +kernel
theorem dL_law__1958 : decode cL_law_ 1958 = .ok (.ifCond .ne 15, 3) := by decide +kernel
theorem dL_law__1961 : decode cL_law_ 1961 = .ok (.aload_n 3, 1) := by decide +kernel
theorem dL_law__1962 : decode cL_law_ 1962 = .ok (.iconst 0, 1) := by decide +kernel
theorem dL_law__1963 : decode cL_law_ 1963 = .ok (.laload, 1) := by decide +kernel
theorem dL_law__1964 : decode cL_law_ 1964 = .ok (.iload 6, 2) := by decide +kernel
theorem dL_law__1966 : decode cL_law_ 1966 = .ok (.i2l, 1) := by decide +kernel
theorem dL_law__1967 : decode cL_law_ 1967 = .ok (.lcmp, 1) := by decide +kernel
theorem dL_law__1968 : decode cL_law_ 1968 = .ok (.ifCond .eq 5, 3) := by decide +kernel
theorem dL_law__1973 : decode cL_law_ 1973 = .ok (.goto 782, 3) := by decide +kernel
theorem dL_law__1976 : decode cL_law_ 1976 = .ok (.aload_n 1, 1) := by decide +kernel
theorem dL_law__1977 : decode cL_law_ 1977 = .ok (.aload_n 0, 1) := by decide +kernel
theorem dL_law__1978 : decode cL_law_ 1978 = .ok (.iload 4, 2) := by decide +kernel
theorem dL_law__1980 : decode cL_law_ 1980 = .ok (.iconst 1, 1) := by decide +kernel
theorem dL_law__1981 : decode cL_law_ 1981 = .ok (.iadd, 1) := by decide +kernel
theorem dL_law__1982 : decode cL_law_ 1982 = .ok (.iaload, 1) := by decide +kernel
theorem dL_law__1983 : decode cL_law_ 1983 = .ok (.aload_n 3, 1) := by decide +kernel
theorem dL_law__1984 : decode cL_law_ 1984 = .ok (.invokestatic 241, 3) := by decide +kernel
theorem dL_law__1987 : decode cL_law_ 1987 = .ok (.istore 5, 2) := by decide +kernel
theorem dL_law__1989 : decode cL_law_ 1989 = .ok (.aload_n 2, 1) := by decide +kernel
theorem dL_law__1990 : decode cL_law_ 1990 = .ok (.aload_n 0, 1) := by decide +kernel
theorem dL_law__1991 : decode cL_law_ 1991 = .ok (.iload 4, 2) := by decide +kernel
theorem dL_law__1993 : decode cL_law_ 1993 = .ok (.iconst 1, 1) := by decide +kernel
