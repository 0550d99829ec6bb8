theorem tw_1042 : Cond.codeWith yL_waiting cL_waiting 4 (some .int) [(0, 9, 12, 19)] ∈ tp_all := tp_mem 1042 (by decide +kernel) rfl
theorem tw_1040 : Cond.methodLink RL 229 yL_waiting ∈ tp_all := tp_mem 1040 (by decide +kernel) rfl
theorem tw_1041 : Cond.static yL_waiting ∈ tp_all := tp_mem 1041 (by decide +kernel) rfl
theorem tw_1538 : Cond.code yX10_waiting cX10_waiting 2 (some .int) ∈ tp_all := tp_mem 1538 (by decide +kernel) rfl
theorem tw_1535 : Cond.methodLink RL 231 yX10_waiting ∈ tp_all := tp_mem 1535 (by decide +kernel) rfl
theorem tw_1536 : Cond.instanceMethod yX10_waiting ∈ tp_all := tp_mem 1536 (by decide +kernel) rfl
theorem tw_1537 : Cond.selects RX10 yX10_waiting yX10_waiting ∈ tp_all := tp_mem 1537 (by decide +kernel) rfl
theorem dL_law_1805 : decode cL_law 1805 = .ok (.aload_n 1, 1) := by decide +kernel
theorem dL_law_1806 : decode cL_law 1806 = .ok (.aload_n 0, 1) := by decide +kernel
theorem dL_law_1807 : decode cL_law 1807 = .ok (.iload 4, 2) := by decide +kernel
theorem dL_law_1809 : decode cL_law 1809 = .ok (.iconst 1, 1) := by decide +kernel
theorem dL_law_1810 : decode cL_law 1810 = .ok (.iadd, 1) := by decide +kernel
theorem dL_law_1811 : decode cL_law 1811 = .ok (.iaload, 1) := by decide +kernel
theorem dL_law_1812 : decode cL_law 1812 = .ok (.aload_n 3, 1) := by decide +kernel
theorem dL_law_1813 : decode cL_law 1813 = .ok (.invokestatic 229, 3) := by decide +kernel
theorem dL_law_1816 : decode cL_law 1816 = .ok (.istore 5, 2) := by decide +kernel
theorem dL_law_1818 : decode cL_law 1818 = .ok (.aload_n 2, 1) := by decide +kernel
theorem dL_law_1819 : decode cL_law 1819 = .ok (.aload_n 0, 1) := by decide +kernel
theorem dL_law_1820 : decode cL_law 1820 = .ok (.iload 4, 2) := by decide +kernel
theorem dL_law_1822 : decode cL_law 1822 = .ok (.iconst 1, 1) := by decide +kernel
theorem dL_law_1823 : decode cL_law 1823 = .ok (.iadd, 1) := by decide +kernel
theorem dL_law_1824 : decode cL_law 1824 = .ok (.iaload, 1) := by decide +kernel
theorem dL_law_1825 : decode cL_law 1825 = .ok (.invokevirtual 231, 3) := by decide +kernel
theorem dL_law_1828 : decode cL_law 1828 = .ok (.istore 6, 2) := by decide +kernel
theorem dL_law_1830 : decode cL_law 1830 = .ok (.aload_n 2, 1) := by decide +kernel
theorem dL_law_1831 : decode cL_law 1831 = .ok (.invokevirtual 133, 3) := by decide +kernel
theorem dL_law_1834 : decode cL_law 1834 = .ok (.iload 5, 2) := by decide +kernel
theorem dL_law_1836 : decode cL_law 1836 = .ok (.if_icmp .eq 5, 3) := by decide +kernel
theorem dL_law_1841 : decode cL_law 1841 = .ok (.iload 5, 2) := by decide +kernel
theorem dL_law_1843 : decode cL_law 1843 = .ok (.ifCond .ne 15, 3) := by decide +kernel
theorem dL_law_1858 : decode cL_law 1858 = .ok (.goto 646, 3) := by decide +kernel
theorem tw_1046 : Cond.codeWith yL_onLink cL_onLink 4 (some .int) [(0, 9, 12, 19)] ∈ tp_all := tp_mem 1046 (by decide +kernel) rfl
theorem tw_1044 : Cond.methodLink RL 232 yL_onLink ∈ tp_all := tp_mem 1044 (by decide +kernel) rfl
theorem tw_1045 : Cond.static yL_onLink ∈ tp_all := tp_mem 1045 (by decide +kernel) rfl
theorem tw_1542 : Cond.code yX10_onLink cX10_onLink 2 (some .int) ∈ tp_all := tp_mem 1542 (by decide +kernel) rfl
theorem tw_1539 : Cond.methodLink RL 234 yX10_onLink ∈ tp_all := tp_mem 1539 (by decide +kernel) rfl
theorem tw_1540 : Cond.instanceMethod yX10_onLink ∈ tp_all := tp_mem 1540 (by decide +kernel) rfl
theorem tw_1541 : Cond.selects RX10 yX10_onLink yX10_onLink ∈ tp_all := tp_mem 1541 (by decide +kernel) rfl
theorem dL_law_1861 : decode cL_law 1861 = .ok (.aload_n 1, 1) := by decide +kernel
theorem dL_law_1862 : decode cL_law 1862 = .ok (.aload_n 0, 1) := by decide +kernel
theorem dL_law_1863 : decode cL_law 1863 = .ok (.iload 4, 2) := by decide +kernel
theorem dL_law_1865 : decode cL_law 1865 = .ok (.iconst 1, 1) := by decide +kernel
theorem dL_law_1866 : decode cL_law 1866 = .ok (.iadd, 1) := by decide +kernel
theorem dL_law_1867 : decode cL_law 1867 = .ok (.iaload, 1) := by decide +kernel
theorem dL_law_1868 : decode cL_law 1868 = .ok (.aload_n 3, 1) := by decide +kernel
theorem dL_law_1869 : decode cL_law 1869 = .ok (.invokestatic 232, 3) := by decide +kernel
theorem dL_law_1872 : decode cL_law 1872 = .ok (.istore 5, 2) := by decide +kernel
theorem dL_law_1874 : decode cL_law 1874 = .ok (.aload_n 2, 1) := by decide +kernel
theorem dL_law_1875 : decode cL_law 1875 = .ok (.aload_n 0, 1) := by decide +kernel
theorem dL_law_1876 : decode cL_law 1876 = .ok (.iload 4, 2) := by decide +kernel
theorem dL_law_1878 : decode cL_law 1878 = .ok (.iconst 1, 1) := by decide +kernel
theorem dL_law_1879 : decode cL_law 1879 = .ok (.iadd, 1) := by decide +kernel
theorem dL_law_1880 : decode cL_law 1880 = .ok (.iaload, 1) := by decide +kernel
theorem dL_law_1881 : decode cL_law 1881 = .ok (.invokevirtual 234, 3) := by decide +kernel
theorem dL_law_1884 : decode cL_law 1884 = .ok (.istore 6, 2) := by decide +kernel
theorem dL_law_1886 : decode cL_law 1886 = .ok (.aload_n 2, 1) := by decide +kernel
theorem dL_law_1887 : decode cL_law 1887 = .ok (.invokevirtual 133, 3) := by decide +kernel
theorem dL_law_1890 : decode cL_law 1890 = .ok (.iload 5, 2) := by decide +kernel
theorem dL_law_1892 : decode cL_law 1892 = .ok (.if_icmp .eq 5, 3) := by decide +kernel
theorem dL_law_1897 : decode cL_law 1897 = .ok (.iload 5, 2) := by decide +kernel
theorem dL_law_1899 : decode cL_law 1899 = .ok (.ifCond .ne 15, 3) := by decide +kernel
theorem dL_law_1914 : decode cL_law 1914 = .ok (.goto 590, 3) := by decide +kernel
theorem tw_1050 : Cond.codeWith yL_vehicleAt cL_vehicleAt 5 (some .int) [(0, 10, 13, 19)] ∈ tp_all := tp_mem 1050 (by decide +kernel) rfl
theorem tw_1048 : Cond.methodLink RL 235 yL_vehicleAt ∈ tp_all := tp_mem 1048 (by decide +kernel) rfl
theorem tw_1049 : Cond.static yL_vehicleAt ∈ tp_all := tp_mem 1049 (by decide +kernel) rfl
theorem tw_1546 : Cond.code yX10_vehicleAt cX10_vehicleAt 3 (some .int) ∈ tp_all := tp_mem 1546 (by decide +kernel) rfl
theorem tw_1543 : Cond.methodLink RL 237 yX10_vehicleAt ∈ tp_all := tp_mem 1543 (by decide +kernel) rfl
theorem tw_1544 : Cond.instanceMethod yX10_vehicleAt ∈ tp_all := tp_mem 1544 (by decide +kernel) rfl
theorem tw_1545 : Cond.selects RX10 yX10_vehicleAt yX10_vehicleAt ∈ tp_all := tp_mem 1545 (by decide +kernel) rfl
theorem dL_law_1917 : decode cL_law 1917 = .ok (.aload_n 1, 1) := by decide +kernel
theorem dL_law_1918 : decode cL_law 1918 = .ok (.aload_n 0, 1) := by decide +kernel
theorem dL_law_1919 : decode cL_law 1919 = .ok (.iload 4, 2) := by decide +kernel
theorem dL_law_1921 : decode cL_law 1921 = .ok (.iconst 1, 1) := by decide +kernel
theorem dL_law_1922 : decode cL_law 1922 = .ok (.iadd, 1) := by decide +kernel
theorem dL_law_1923 : decode cL_law 1923 = .ok (.iaload, 1) := by decide +kernel
theorem dL_law_1924 : decode cL_law 1924 = .ok (.aload_n 0, 1) := by decide +kernel
theorem dL_law_1925 : decode cL_law 1925 = .ok (.iload 4, 2) := by decide +kernel
theorem dL_law_1927 : decode cL_law 1927 = .ok (.iconst 2, 1) := by decide +kernel
theorem dL_law_1928 : decode cL_law 1928 = .ok (.iadd, 1) := by decide +kernel
theorem dL_law_1929 : decode cL_law 1929 = .ok (.iaload, 1) := by decide +kernel
theorem dL_law_1930 : decode cL_law 1930 = .ok (.aload_n 3, 1) := by decide +kernel
theorem dL_law_1931 : decode cL_law 1931 = .ok (.invokestatic 235, 3) := by decide +kernel
theorem dL_law_1934 : decode cL_law 1934 = .ok (.istore 5, 2) := by decide +kernel
theorem dL_law_1936 : decode cL_law 1936 = .ok (.aload_n 2, 1) := by decide +kernel
theorem dL_law_1937 : decode cL_law 1937 = .ok (.aload_n 0, 1) := by decide +kernel
theorem dL_law_1938 : decode cL_law 1938 = .ok (.iload 4, 2) := by decide +kernel
theorem dL_law_1940 : decode cL_law 1940 = .ok (.iconst 1, 1) := by decide +kernel
theorem dL_law_1941 : decode cL_law 1941 = .ok (.iadd, 1) := by decide +kernel
theorem dL_law_1942 : decode cL_law 1942 = .ok (.iaload, 1) := by decide +kernel
theorem dL_law_1943 : decode cL_law 1943 = .ok (.aload_n 0, 1) := by decide +kernel
theorem dL_law_1944 : decode cL_law 1944 = .ok (.iload 4, 2) := by decide +kernel
theorem dL_law_1946 : decode cL_law 1946 = .ok (.iconst 2, 1) := by decide +kernel
theorem dL_law_1947 : decode cL_law 1947 = .ok (.iadd, 1) := by decide +kernel
theorem dL_law_1948 : decode cL_law 1948 = .ok (.iaload, 1) := by decide +kernel
theorem dL_law_1949 : decode cL_law 1949 = .ok (.invokevirtual 237, 3) := by decide +kernel
theorem dL_law_1952 : decode cL_law 1952 = .ok (.istore 6, 2) := by decide +kernel
theorem dL_law_1954 : decode cL_law 1954 = .ok (.aload_n 2, 1) := by decide +kernel
theorem dL_law_1955 : decode cL_law 1955 = .ok (.invokevirtual 133, 3) := by decide +kernel
theorem dL_law_1958 : decode cL_law 1958 = .ok (.iload 5, 2) := by decide +kernel
theorem dL_law_1960 : decode cL_law 1960 = .ok (.if_icmp .eq 5, 3) := by decide +kernel
theorem dL_law_1965 : decode cL_law 1965 = .ok (.iload 5, 2) := by decide +kernel
theorem dL_law_1967 : decode cL_law 1967 = .ok (.ifCond .ne 15, 3) := by decide +kernel
theorem dL_law_1982 : decode cL_law 1982 = .ok (.goto 522, 3) := by decide +kernel
theorem tw_1054 : Cond.codeWith yL_queue cL_queue 4 (some .int) [(0, 9, 12, 19)] ∈ tp_all := tp_mem 1054 (by decide +kernel) rfl
theorem tw_1052 : Cond.methodLink RL 238 yL_queue ∈ tp_all := tp_mem 1052 (by decide +kernel) rfl
theorem tw_1053 : Cond.static yL_queue ∈ tp_all := tp_mem 1053 (by decide +kernel) rfl
theorem tw_1551 : Cond.code yX10_queue cX10_queue 2 (some .int) ∈ tp_all := tp_mem 1551 (by decide +kernel) rfl
theorem tw_1548 : Cond.methodLink RL 240 yX10_queue ∈ tp_all := tp_mem 1548 (by decide +kernel) rfl
theorem tw_1549 : Cond.instanceMethod yX10_queue ∈ tp_all := tp_mem 1549 (by decide +kernel) rfl
theorem tw_1550 : Cond.selects RX10 yX10_queue yX10_queue ∈ tp_all := tp_mem 1550 (by decide +kernel) rfl
theorem dL_law_1985 : decode cL_law 1985 = .ok (.aload_n 1, 1) := by decide +kernel
theorem dL_law_1986 : decode cL_law 1986 = .ok (.aload_n 0, 1) := by decide +kernel
theorem dL_law_1987 : decode cL_law 1987 = .ok (.iload 4, 2) := by decide +kernel
theorem dL_law_1989 : decode cL_law 1989 = .ok (.iconst 1, 1) := by decide +kernel
theorem dL_law_1990 : decode cL_law 1990 = .ok (.iadd, 1) := by decide +kernel
theorem dL_law_1991 : decode cL_law 1991 = .ok (.iaload, 1) := by decide +kernel
theorem dL_law_1992 : decode cL_law 1992 = .ok (.aload_n 3, 1) := by decide +kernel
theorem dL_law_1993 : decode cL_law 1993 = .ok (.invokestatic 238, 3) := by decide +kernel
theorem dL_law_1996 : decode cL_law 1996 = .ok (.istore 5, 2) := by decide +kernel
theorem dL_law_1998 : decode cL_law 1998 = .ok (.aload_n 2, 1) := by decide +kernel
theorem dL_law_1999 : decode cL_law 1999 = .ok (.aload_n 0, 1) := by decide +kernel
theorem dL_law_2000 : decode cL_law 2000 = .ok (.iload 4, 2) := by decide +kernel
theorem dL_law_2002 : decode cL_law 2002 = .ok (.iconst 1, 1) := by decide +kernel
theorem dL_law_2003 : decode cL_law 2003 = .ok (.iadd, 1) := by decide +kernel
theorem dL_law_2004 : decode cL_law 2004 = .ok (.iaload, 1) := by decide +kernel
theorem dL_law_2005 : decode cL_law 2005 = .ok (.invokevirtual 240, 3) := by decide +kernel
theorem dL_law_2008 : decode cL_law 2008 = .ok (.istore 6, 2) := by decide +kernel
theorem dL_law_2010 : decode cL_law 2010 = .ok (.aload_n 2, 1) := by decide +kernel
theorem dL_law_2011 : decode cL_law 2011 = .ok (.invokevirtual 133, 3) := by decide +kernel
theorem dL_law_2014 : decode cL_law 2014 = .ok (.iload 5, 2) := by decide +kernel
theorem dL_law_2016 : decode cL_law 2016 = .ok (.if_icmp .eq 5, 3) := by decide +kernel
theorem dL_law_2021 : decode cL_law 2021 = .ok (.iload 5, 2) := by decide +kernel
theorem dL_law_2023 : decode cL_law 2023 = .ok (.ifCond .ne 15, 3) := by decide +kernel
theorem dL_law_2038 : decode cL_law 2038 = .ok (.goto 466, 3) := by decide +kernel
theorem tw_1058 : Cond.codeWith yL_count cL_count 5 (some .int) [(0, 10, 13, 19), (0, 10, 17, 21)] ∈ tp_all := tp_mem 1058 (by decide +kernel) rfl
theorem tw_1056 : Cond.methodLink RL 241 yL_count ∈ tp_all := tp_mem 1056 (by decide +kernel) rfl
theorem tw_1057 : Cond.static yL_count ∈ tp_all := tp_mem 1057 (by decide +kernel) rfl
theorem tw_1556 : Cond.code yX10_count cX10_count 3 (some .int) ∈ tp_all := tp_mem 1556 (by decide +kernel) rfl
theorem tw_1553 : Cond.methodLink RL 243 yX10_count ∈ tp_all := tp_mem 1553 (by decide +kernel) rfl
theorem tw_1554 : Cond.instanceMethod yX10_count ∈ tp_all := tp_mem 1554 (by decide +kernel) rfl
theorem tw_1555 : Cond.selects RX10 yX10_count yX10_count ∈ tp_all := tp_mem 1555 (by decide +kernel) rfl
theorem dL_law_2041 : decode cL_law 2041 = .ok (.aload_n 1, 1) := by decide +kernel
theorem dL_law_2042 : decode cL_law 2042 = .ok (.aload_n 0, 1) := by decide +kernel
theorem dL_law_2043 : decode cL_law 2043 = .ok (.iload 4, 2) := by decide +kernel
theorem dL_law_2045 : decode cL_law 2045 = .ok (.iconst 1, 1) := by decide +kernel
theorem dL_law_2046 : decode cL_law 2046 = .ok (.iadd, 1) := by decide +kernel
theorem dL_law_2047 : decode cL_law 2047 = .ok (.iaload, 1) := by decide +kernel
theorem dL_law_2048 : decode cL_law 2048 = .ok (.aload_n 0, 1) := by decide +kernel
theorem dL_law_2049 : decode cL_law 2049 = .ok (.iload 4, 2) := by decide +kernel
theorem dL_law_2051 : decode cL_law 2051 = .ok (.iconst 2, 1) := by decide +kernel
theorem dL_law_2052 : decode cL_law 2052 = .ok (.iadd, 1) := by decide +kernel
theorem dL_law_2053 : decode cL_law 2053 = .ok (.iaload, 1) := by decide +kernel
theorem dL_law_2054 : decode cL_law 2054 = .ok (.aload_n 3, 1) := by decide +kernel
theorem dL_law_2055 : decode cL_law 2055 = .ok (.invokestatic 241, 3) := by decide +kernel
theorem dL_law_2058 : decode cL_law 2058 = .ok (.istore 5, 2) := by decide +kernel
theorem dL_law_2060 : decode cL_law 2060 = .ok (.aload_n 2, 1) := by decide +kernel
theorem dL_law_2061 : decode cL_law 2061 = .ok (.aload_n 0, 1) := by decide +kernel
theorem dL_law_2062 : decode cL_law 2062 = .ok (.iload 4, 2) := by decide +kernel
theorem dL_law_2064 : decode cL_law 2064 = .ok (.iconst 1, 1) := by decide +kernel
theorem dL_law_2065 : decode cL_law 2065 = .ok (.iadd, 1) := by decide +kernel
theorem dL_law_2066 : decode cL_law 2066 = .ok (.iaload, 1) := by decide +kernel
theorem dL_law_2067 : decode cL_law 2067 = .ok (.aload_n 0, 1) := by decide +kernel
theorem dL_law_2068 : decode cL_law 2068 = .ok (.iload 4, 2) := by decide +kernel
theorem dL_law_2070 : decode cL_law 2070 = .ok (.iconst 2, 1) := by decide +kernel
theorem dL_law_2071 : decode cL_law 2071 = .ok (.iadd, 1) := by decide +kernel
theorem dL_law_2072 : decode cL_law 2072 = .ok (.iaload, 1) := by decide +kernel
theorem dL_law_2073 : decode cL_law 2073 = .ok (.invokevirtual 243, 3) := by decide +kernel
theorem dL_law_2076 : decode cL_law 2076 = .ok (.istore 6, 2) := by decide +kernel
theorem dL_law_2078 : decode cL_law 2078 = .ok (.aload_n 2, 1) := by decide +kernel
theorem dL_law_2079 : decode cL_law 2079 = .ok (.invokevirtual 133, 3) := by decide +kernel
theorem dL_law_2082 : decode cL_law 2082 = .ok (.iload 5, 2) := by decide +kernel
theorem dL_law_2084 : decode cL_law 2084 = .ok (.if_icmp .eq 5, 3) := by decide +kernel
theorem dL_law_2089 : decode cL_law 2089 = .ok (.iload 5, 2) := by decide +kernel
theorem dL_law_2091 : decode cL_law 2091 = .ok (.ifCond .ne 15, 3) := by decide +kernel
theorem dL_law_2106 : decode cL_law 2106 = .ok (.goto 398, 3) := by decide +kernel
theorem tw_1062 : Cond.codeWith yL_turned cL_turned 5 (some .int) [(0, 10, 13, 19)] ∈ tp_all := tp_mem 1062 (by decide +kernel) rfl
theorem tw_1060 : Cond.methodLink RL 244 yL_turned ∈ tp_all := tp_mem 1060 (by decide +kernel) rfl
theorem tw_1061 : Cond.static yL_turned ∈ tp_all := tp_mem 1061 (by decide +kernel) rfl
theorem tw_1564 : Cond.code yX10_turned cX10_turned 3 (some .int) ∈ tp_all := tp_mem 1564 (by decide +kernel) rfl
theorem tw_1561 : Cond.methodLink RL 246 yX10_turned ∈ tp_all := tp_mem 1561 (by decide +kernel) rfl
theorem tw_1562 : Cond.instanceMethod yX10_turned ∈ tp_all := tp_mem 1562 (by decide +kernel) rfl
theorem tw_1563 : Cond.selects RX10 yX10_turned yX10_turned ∈ tp_all := tp_mem 1563 (by decide +kernel) rfl
theorem dL_law_2109 : decode cL_law 2109 = .ok (.aload_n 1, 1) := by decide +kernel
theorem dL_law_2110 : decode cL_law 2110 = .ok (.aload_n 0, 1) := by decide +kernel
theorem dL_law_2111 : decode cL_law 2111 = .ok (.iload 4, 2) := by decide +kernel
theorem dL_law_2113 : decode cL_law 2113 = .ok (.iconst 1, 1) := by decide +kernel
theorem dL_law_2114 : decode cL_law 2114 = .ok (.iadd, 1) := by decide +kernel
theorem dL_law_2115 : decode cL_law 2115 = .ok (.iaload, 1) := by decide +kernel
theorem dL_law_2116 : decode cL_law 2116 = .ok (.aload_n 0, 1) := by decide +kernel
theorem dL_law_2117 : decode cL_law 2117 = .ok (.iload 4, 2) := by decide +kernel
theorem dL_law_2119 : decode cL_law 2119 = .ok (.iconst 2, 1) := by decide +kernel
theorem dL_law_2120 : decode cL_law 2120 = .ok (.iadd, 1) := by decide +kernel
theorem dL_law_2121 : decode cL_law 2121 = .ok (.iaload, 1) := by decide +kernel
theorem dL_law_2122 : decode cL_law 2122 = .ok (.aload_n 3, 1) := by decide +kernel
theorem dL_law_2123 : decode cL_law 2123 = .ok (.invokestatic 244, 3) := by decide +kernel
theorem dL_law_2126 : decode cL_law 2126 = .ok (.istore 5, 2) := by decide +kernel
theorem dL_law_2128 : decode cL_law 2128 = .ok (.aload_n 2, 1) := by decide +kernel
theorem dL_law_2129 : decode cL_law 2129 = .ok (.aload_n 0, 1) := by decide +kernel
theorem dL_law_2130 : decode cL_law 2130 = .ok (.iload 4, 2) := by decide +kernel
theorem dL_law_2132 : decode cL_law 2132 = .ok (.iconst 1, 1) := by decide +kernel
theorem dL_law_2133 : decode cL_law 2133 = .ok (.iadd, 1) := by decide +kernel
theorem dL_law_2134 : decode cL_law 2134 = .ok (.iaload, 1) := by decide +kernel
theorem dL_law_2135 : decode cL_law 2135 = .ok (.aload_n 0, 1) := by decide +kernel
theorem dL_law_2136 : decode cL_law 2136 = .ok (.iload 4, 2) := by decide +kernel
theorem dL_law_2138 : decode cL_law 2138 = .ok (.iconst 2, 1) := by decide +kernel
theorem dL_law_2139 : decode cL_law 2139 = .ok (.iadd, 1) := by decide +kernel
theorem dL_law_2140 : decode cL_law 2140 = .ok (.iaload, 1) := by decide +kernel
theorem dL_law_2141 : decode cL_law 2141 = .ok (.invokevirtual 246, 3) := by decide +kernel
theorem dL_law_2144 : decode cL_law 2144 = .ok (.istore 6, 2) := by decide +kernel
theorem dL_law_2146 : decode cL_law 2146 = .ok (.aload_n 2, 1) := by decide +kernel
theorem dL_law_2147 : decode cL_law 2147 = .ok (.invokevirtual 133, 3) := by decide +kernel
theorem dL_law_2150 : decode cL_law 2150 = .ok (.iload 5, 2) := by decide +kernel
theorem dL_law_2152 : decode cL_law 2152 = .ok (.if_icmp .eq 5, 3) := by decide +kernel
theorem dL_law_2157 : decode cL_law 2157 = .ok (.iload 5, 2) := by decide +kernel
theorem dL_law_2159 : decode cL_law 2159 = .ok (.ifCond .ne 15, 3) := by decide +kernel
theorem dL_law_2174 : decode cL_law 2174 = .ok (.goto 330, 3) := by decide +kernel
theorem tw_1066 : Cond.codeWith yL_ofFlow cL_ofFlow 5 (some .int) [(0, 10, 13, 19), (0, 10, 17, 21)] ∈ tp_all := tp_mem 1066 (by decide +kernel) rfl
theorem tw_1064 : Cond.methodLink RL 247 yL_ofFlow ∈ tp_all := tp_mem 1064 (by decide +kernel) rfl
theorem tw_1065 : Cond.static yL_ofFlow ∈ tp_all := tp_mem 1065 (by decide +kernel) rfl
theorem tw_1568 : Cond.code yX10_ofFlow cX10_ofFlow 3 (some .int) ∈ tp_all := tp_mem 1568 (by decide +kernel) rfl
theorem tw_1565 : Cond.methodLink RL 249 yX10_ofFlow ∈ tp_all := tp_mem 1565 (by decide +kernel) rfl
theorem tw_1566 : Cond.instanceMethod yX10_ofFlow ∈ tp_all := tp_mem 1566 (by decide +kernel) rfl
theorem tw_1567 : Cond.selects RX10 yX10_ofFlow yX10_ofFlow ∈ tp_all := tp_mem 1567 (by decide +kernel) rfl
theorem dL_law_2177 : decode cL_law 2177 = .ok (.aload_n 1, 1) := by decide +kernel
theorem dL_law_2178 : decode cL_law 2178 = .ok (.aload_n 0, 1) := by decide +kernel
theorem dL_law_2179 : decode cL_law 2179 = .ok (.iload 4, 2) := by decide +kernel
theorem dL_law_2181 : decode cL_law 2181 = .ok (.iconst 1, 1) := by decide +kernel
theorem dL_law_2182 : decode cL_law 2182 = .ok (.iadd, 1) := by decide +kernel
theorem dL_law_2183 : decode cL_law 2183 = .ok (.iaload, 1) := by decide +kernel
theorem dL_law_2184 : decode cL_law 2184 = .ok (.aload_n 0, 1) := by decide +kernel
theorem dL_law_2185 : decode cL_law 2185 = .ok (.iload 4, 2) := by decide +kernel
theorem dL_law_2187 : decode cL_law 2187 = .ok (.iconst 2, 1) := by decide +kernel
theorem dL_law_2188 : decode cL_law 2188 = .ok (.iadd, 1) := by decide +kernel
theorem dL_law_2189 : decode cL_law 2189 = .ok (.iaload, 1) := by decide +kernel
theorem dL_law_2190 : decode cL_law 2190 = .ok (.aload_n 3, 1) := by decide +kernel
theorem dL_law_2191 : decode cL_law 2191 = .ok (.invokestatic 247, 3) := by decide +kernel
theorem dL_law_2194 : decode cL_law 2194 = .ok (.istore 5, 2) := by decide +kernel
theorem dL_law_2196 : decode cL_law 2196 = .ok (.aload_n 2, 1) := by decide +kernel
theorem dL_law_2197 : decode cL_law 2197 = .ok (.aload_n 0, 1) := by decide +kernel
theorem dL_law_2198 : decode cL_law 2198 = .ok (.iload 4, 2) := by decide +kernel
theorem dL_law_2200 : decode cL_law 2200 = .ok (.iconst 1, 1) := by decide +kernel
theorem dL_law_2201 : decode cL_law 2201 = .ok (.iadd, 1) := by decide +kernel
theorem dL_law_2202 : decode cL_law 2202 = .ok (.iaload, 1) := by decide +kernel
theorem dL_law_2203 : decode cL_law 2203 = .ok (.aload_n 0, 1) := by decide +kernel
theorem dL_law_2204 : decode cL_law 2204 = .ok (.iload 4, 2) := by decide +kernel
theorem dL_law_2206 : decode cL_law 2206 = .ok (.iconst 2, 1) := by decide +kernel
theorem dL_law_2207 : decode cL_law 2207 = .ok (.iadd, 1) := by decide +kernel
theorem dL_law_2208 : decode cL_law 2208 = .ok (.iaload, 1) := by decide +kernel
theorem dL_law_2209 : decode cL_law 2209 = .ok (.invokevirtual 249, 3) := by decide +kernel
theorem dL_law_2212 : decode cL_law 2212 = .ok (.istore 6, 2) := by decide +kernel
theorem dL_law_2214 : decode cL_law 2214 = .ok (.aload_n 2, 1) := by decide +kernel
theorem dL_law_2215 : decode cL_law 2215 = .ok (.invokevirtual 133, 3) := by decide +kernel
theorem dL_law_2218 : decode cL_law 2218 = .ok (.iload 5, 2) := by decide +kernel
theorem dL_law_2220 : decode cL_law 2220 = .ok (.if_icmp .eq 5, 3) := by decide +kernel
theorem dL_law_2225 : decode cL_law 2225 = .ok (.iload 5, 2) := by decide +kernel
theorem dL_law_2227 : decode cL_law 2227 = .ok (.ifCond .ne 15, 3) := by decide +kernel
theorem dL_law_2242 : decode cL_law 2242 = .ok (.goto 262, 3) := by decide +kernel
theorem tw_436 : Cond.code yX8_meanTrip cX8_meanTrip 5 (some .double) ∈ tp_all := tp_mem 436 (by decide +kernel) rfl
theorem tw_433 : Cond.methodLink RL 250 yX8_meanTrip ∈ tp_all := tp_mem 433 (by decide +kernel) rfl
theorem tw_434 : Cond.instanceMethod yX8_meanTrip ∈ tp_all := tp_mem 434 (by decide +kernel) rfl
theorem tw_435 : Cond.selects RX8 yX8_meanTrip yX8_meanTrip ∈ tp_all := tp_mem 435 (by decide +kernel) rfl
theorem tw_1576 : Cond.code yX10_meanTrip cX10_meanTrip 4 (some .double) ∈ tp_all := tp_mem 1576 (by decide +kernel) rfl
theorem tw_1573 : Cond.methodLink RL 254 yX10_meanTrip ∈ tp_all := tp_mem 1573 (by decide +kernel) rfl
theorem tw_1574 : Cond.instanceMethod yX10_meanTrip ∈ tp_all := tp_mem 1574 (by decide +kernel) rfl
theorem tw_1575 : Cond.selects RX10 yX10_meanTrip yX10_meanTrip ∈ tp_all := tp_mem 1575 (by decide +kernel) rfl
theorem dL_law_2245 : decode cL_law 2245 = .ok (.aload_n 1, 1) := by decide +kernel
theorem dL_law_2246 : decode cL_law 2246 = .ok (.invokevirtual 250, 3) := by decide +kernel
theorem dL_law_2249 : decode cL_law 2249 = .ok (.dstore 5, 2) := by decide +kernel
theorem dL_law_2251 : decode cL_law 2251 = .ok (.aload_n 2, 1) := by decide +kernel
theorem dL_law_2252 : decode cL_law 2252 = .ok (.invokevirtual 254, 3) := by decide +kernel
theorem dL_law_2255 : decode cL_law 2255 = .ok (.dstore 7, 2) := by decide +kernel
theorem dL_law_2257 : decode cL_law 2257 = .ok (.dload 5, 2) := by decide +kernel
theorem dL_law_2259 : decode cL_law 2259 = .ok (.dload 7, 2) := by decide +kernel
theorem dL_law_2261 : decode cL_law 2261 = .ok (.dcmp .l, 1) := by decide +kernel
theorem dL_law_2262 : decode cL_law 2262 = .ok (.ifCond .eq 21, 3) := by decide +kernel
theorem dL_law_2283 : decode cL_law 2283 = .ok (.goto 221, 3) := by decide +kernel
theorem tw_1070 : Cond.codeWith yL_arrivesIn cL_arrivesIn 5 (some .int) [(0, 10, 13, 19), (0, 10, 17, 21)] ∈ tp_all := tp_mem 1070 (by decide +kernel) rfl
theorem tw_1068 : Cond.methodLink RL 255 yL_arrivesIn ∈ tp_all := tp_mem 1068 (by decide +kernel) rfl
theorem tw_1069 : Cond.static yL_arrivesIn ∈ tp_all := tp_mem 1069 (by decide +kernel) rfl
theorem tw_1580 : Cond.code yX10_arrivesIn cX10_arrivesIn 5 (some .int) ∈ tp_all := tp_mem 1580 (by decide +kernel) rfl
theorem tw_1577 : Cond.methodLink RL 257 yX10_arrivesIn ∈ tp_all := tp_mem 1577 (by decide +kernel) rfl
theorem tw_1578 : Cond.instanceMethod yX10_arrivesIn ∈ tp_all := tp_mem 1578 (by decide +kernel) rfl
theorem tw_1579 : Cond.selects RX10 yX10_arrivesIn yX10_arrivesIn ∈ tp_all := tp_mem 1579 (by decide +kernel) rfl
theorem dL_law_2286 : decode cL_law 2286 = .ok (.aload_n 1, 1) := by decide +kernel
theorem dL_law_2287 : decode cL_law 2287 = .ok (.aload_n 0, 1) := by decide +kernel
theorem dL_law_2288 : decode cL_law 2288 = .ok (.iload 4, 2) := by decide +kernel
theorem dL_law_2290 : decode cL_law 2290 = .ok (.iconst 1, 1) := by decide +kernel
theorem dL_law_2291 : decode cL_law 2291 = .ok (.iadd, 1) := by decide +kernel
theorem dL_law_2292 : decode cL_law 2292 = .ok (.iaload, 1) := by decide +kernel
theorem dL_law_2293 : decode cL_law 2293 = .ok (.aload_n 0, 1) := by decide +kernel
theorem dL_law_2294 : decode cL_law 2294 = .ok (.iload 4, 2) := by decide +kernel
theorem dL_law_2296 : decode cL_law 2296 = .ok (.iconst 2, 1) := by decide +kernel
theorem dL_law_2297 : decode cL_law 2297 = .ok (.iadd, 1) := by decide +kernel
theorem dL_law_2298 : decode cL_law 2298 = .ok (.iaload, 1) := by decide +kernel
theorem dL_law_2299 : decode cL_law 2299 = .ok (.aload_n 3, 1) := by decide +kernel
theorem dL_law_2300 : decode cL_law 2300 = .ok (.invokestatic 255, 3) := by decide +kernel
theorem dL_law_2303 : decode cL_law 2303 = .ok (.istore 5, 2) := by decide +kernel
theorem dL_law_2305 : decode cL_law 2305 = .ok (.aload_n 2, 1) := by decide +kernel
theorem dL_law_2306 : decode cL_law 2306 = .ok (.aload_n 0, 1) := by decide +kernel
theorem dL_law_2307 : decode cL_law 2307 = .ok (.iload 4, 2) := by decide +kernel
theorem dL_law_2309 : decode cL_law 2309 = .ok (.iconst 1, 1) := by decide +kernel
theorem dL_law_2310 : decode cL_law 2310 = .ok (.iadd, 1) := by decide +kernel
theorem dL_law_2311 : decode cL_law 2311 = .ok (.iaload, 1) := by decide +kernel
theorem dL_law_2312 : decode cL_law 2312 = .ok (.aload_n 0, 1) := by decide +kernel
theorem dL_law_2313 : decode cL_law 2313 = .ok (.iload 4, 2) := by decide +kernel
theorem dL_law_2315 : decode cL_law 2315 = .ok (.iconst 2, 1) := by decide +kernel
theorem dL_law_2316 : decode cL_law 2316 = .ok (.iadd, 1) := by decide +kernel
theorem dL_law_2317 : decode cL_law 2317 = .ok (.iaload, 1) := by decide +kernel
theorem dL_law_2318 : decode cL_law 2318 = .ok (.invokevirtual 257, 3) := by decide +kernel
theorem dL_law_2321 : decode cL_law 2321 = .ok (.istore 6, 2) := by decide +kernel
theorem dL_law_2323 : decode cL_law 2323 = .ok (.aload_n 2, 1) := by decide +kernel
theorem dL_law_2324 : decode cL_law 2324 = .ok (.invokevirtual 133, 3) := by decide +kernel
theorem dL_law_2327 : decode cL_law 2327 = .ok (.iload 5, 2) := by decide +kernel
theorem dL_law_2329 : decode cL_law 2329 = .ok (.if_icmp .eq 5, 3) := by decide +kernel
theorem dL_law_2334 : decode cL_law 2334 = .ok (.iload 5, 2) := by decide +kernel
theorem dL_law_2336 : decode cL_law 2336 = .ok (.ifCond .ne 15, 3) := by decide +kernel
theorem dL_law_2351 : decode cL_law 2351 = .ok (.goto 153, 3) := by decide +kernel
theorem tw_1107 : Cond.codeWith yL_emptyIn cL_emptyIn 4 (some .int) [(0, 9, 12, 21)] ∈ tp_all := tp_mem 1107 (by decide +kernel) rfl
theorem tw_1105 : Cond.methodLink RL 258 yL_emptyIn ∈ tp_all := tp_mem 1105 (by decide +kernel) rfl
theorem tw_1106 : Cond.static yL_emptyIn ∈ tp_all := tp_mem 1106 (by decide +kernel) rfl
theorem tw_1594 : Cond.code yX10_emptyIn cX10_emptyIn 4 (some .int) ∈ tp_all := tp_mem 1594 (by decide +kernel) rfl
theorem tw_1591 : Cond.methodLink RL 260 yX10_emptyIn ∈ tp_all := tp_mem 1591 (by decide +kernel) rfl
theorem tw_1592 : Cond.instanceMethod yX10_emptyIn ∈ tp_all := tp_mem 1592 (by decide +kernel) rfl
theorem tw_1593 : Cond.selects RX10 yX10_emptyIn yX10_emptyIn ∈ tp_all := tp_mem 1593 (by decide +kernel) rfl
theorem dL_law_2354 : decode cL_law 2354 = .ok (.aload_n 1, 1) := by decide +kernel
theorem dL_law_2355 : decode cL_law 2355 = .ok (.aload_n 0, 1) := by decide +kernel
theorem dL_law_2356 : decode cL_law 2356 = .ok (.iload 4, 2) := by decide +kernel
theorem dL_law_2358 : decode cL_law 2358 = .ok (.iconst 1, 1) := by decide +kernel
theorem dL_law_2359 : decode cL_law 2359 = .ok (.iadd, 1) := by decide +kernel
theorem dL_law_2360 : decode cL_law 2360 = .ok (.iaload, 1) := by decide +kernel
theorem dL_law_2361 : decode cL_law 2361 = .ok (.aload_n 3, 1) := by decide +kernel
theorem dL_law_2362 : decode cL_law 2362 = .ok (.invokestatic 258, 3) := by decide +kernel
theorem dL_law_2365 : decode cL_law 2365 = .ok (.istore 5, 2) := by decide +kernel
theorem dL_law_2367 : decode cL_law 2367 = .ok (.aload_n 2, 1) := by decide +kernel
theorem dL_law_2368 : decode cL_law 2368 = .ok (.aload_n 0, 1) := by decide +kernel
theorem dL_law_2369 : decode cL_law 2369 = .ok (.iload 4, 2) := by decide +kernel
theorem dL_law_2371 : decode cL_law 2371 = .ok (.iconst 1, 1) := by decide +kernel
theorem dL_law_2372 : decode cL_law 2372 = .ok (.iadd, 1) := by decide +kernel
theorem dL_law_2373 : decode cL_law 2373 = .ok (.iaload, 1) := by decide +kernel
theorem dL_law_2374 : decode cL_law 2374 = .ok (.invokevirtual 260, 3) := by decide +kernel
theorem dL_law_2377 : decode cL_law 2377 = .ok (.istore 6, 2) := by decide +kernel
theorem dL_law_2379 : decode cL_law 2379 = .ok (.aload_n 2, 1) := by decide +kernel
theorem dL_law_2380 : decode cL_law 2380 = .ok (.invokevirtual 133, 3) := by decide +kernel
theorem dL_law_2383 : decode cL_law 2383 = .ok (.iload 5, 2) := by decide +kernel
theorem dL_law_2385 : decode cL_law 2385 = .ok (.if_icmp .eq 5, 3) := by decide +kernel
theorem dL_law_2390 : decode cL_law 2390 = .ok (.iload 5, 2) := by decide +kernel
theorem dL_law_2392 : decode cL_law 2392 = .ok (.ifCond .ne 15, 3) := by decide +kernel
theorem dL_law_2395 : decode cL_law 2395 = .ok (.aload_n 3, 1) := by decide +kernel
theorem dL_law_2396 : decode cL_law 2396 = .ok (.iconst 0, 1) := by decide +kernel
theorem dL_law_2397 : decode cL_law 2397 = .ok (.laload, 1) := by decide +kernel
theorem dL_law_2398 : decode cL_law 2398 = .ok (.iload 6, 2) := by decide +kernel
theorem dL_law_2400 : decode cL_law 2400 = .ok (.i2l, 1) := by decide +kernel
theorem dL_law_2401 : decode cL_law 2401 = .ok (.lcmp, 1) := by decide +kernel
theorem dL_law_2402 : decode cL_law 2402 = .ok (.ifCond .eq 5, 3) := by decide +kernel
theorem dL_law_2407 : decode cL_law 2407 = .ok (.goto 97, 3) := by decide +kernel
theorem tw_1114 : Cond.codeWith yL_distanceWithout cL_distanceWithout 6 (some .int) [(0, 12, 15, 19)] ∈ tp_all := tp_mem 1114 (by decide +kernel) rfl
theorem tw_1112 : Cond.methodLink RL 261 yL_distanceWithout ∈ tp_all := tp_mem 1112 (by decide +kernel) rfl
theorem tw_1113 : Cond.static yL_distanceWithout ∈ tp_all := tp_mem 1113 (by decide +kernel) rfl
theorem tw_1602 : Cond.code yX10_distanceWithout cX10_distanceWithout 4 (some .int) ∈ tp_all := tp_mem 1602 (by decide +kernel) rfl
theorem tw_1599 : Cond.methodLink RL 263 yX10_distanceWithout ∈ tp_all := tp_mem 1599 (by decide +kernel) rfl
theorem tw_1600 : Cond.instanceMethod yX10_distanceWithout ∈ tp_all := tp_mem 1600 (by decide +kernel) rfl
theorem tw_1601 : Cond.selects RX10 yX10_distanceWithout yX10_distanceWithout ∈ tp_all := tp_mem 1601 (by decide +kernel) rfl
theorem dL_law_2410 : decode cL_law 2410 = .ok (.aload_n 1, 1) := by decide +kernel
theorem dL_law_2411 : decode cL_law 2411 = .ok (.aload_n 0, 1) := by decide +kernel
theorem dL_law_2412 : decode cL_law 2412 = .ok (.iload 4, 2) := by decide +kernel
theorem dL_law_2414 : decode cL_law 2414 = .ok (.iconst 1, 1) := by decide +kernel
theorem dL_law_2415 : decode cL_law 2415 = .ok (.iadd, 1) := by decide +kernel
theorem dL_law_2416 : decode cL_law 2416 = .ok (.iaload, 1) := by decide +kernel
theorem dL_law_2417 : decode cL_law 2417 = .ok (.aload_n 0, 1) := by decide +kernel
theorem dL_law_2418 : decode cL_law 2418 = .ok (.iload 4, 2) := by decide +kernel
theorem dL_law_2420 : decode cL_law 2420 = .ok (.iconst 2, 1) := by decide +kernel
theorem dL_law_2421 : decode cL_law 2421 = .ok (.iadd, 1) := by decide +kernel
theorem dL_law_2422 : decode cL_law 2422 = .ok (.iaload, 1) := by decide +kernel
theorem dL_law_2423 : decode cL_law 2423 = .ok (.aload_n 0, 1) := by decide +kernel
theorem dL_law_2424 : decode cL_law 2424 = .ok (.iload 4, 2) := by decide +kernel
theorem dL_law_2426 : decode cL_law 2426 = .ok (.iconst 3, 1) := by decide +kernel
theorem dL_law_2427 : decode cL_law 2427 = .ok (.iadd, 1) := by decide +kernel
theorem dL_law_2428 : decode cL_law 2428 = .ok (.iaload, 1) := by decide +kernel
theorem dL_law_2429 : decode cL_law 2429 = .ok (.aload_n 3, 1) := by decide +kernel
theorem dL_law_2430 : decode cL_law 2430 = .ok (.invokestatic 261, 3) := by decide +kernel
theorem dL_law_2433 : decode cL_law 2433 = .ok (.istore 5, 2) := by decide +kernel
theorem dL_law_2435 : decode cL_law 2435 = .ok (.aload_n 2, 1) := by decide +kernel
theorem dL_law_2436 : decode cL_law 2436 = .ok (.aload_n 0, 1) := by decide +kernel
theorem dL_law_2437 : decode cL_law 2437 = .ok (.iload 4, 2) := by decide +kernel
theorem dL_law_2439 : decode cL_law 2439 = .ok (.iconst 1, 1) := by decide +kernel
theorem dL_law_2440 : decode cL_law 2440 = .ok (.iadd, 1) := by decide +kernel
theorem dL_law_2441 : decode cL_law 2441 = .ok (.iaload, 1) := by decide +kernel
theorem dL_law_2442 : decode cL_law 2442 = .ok (.aload_n 0, 1) := by decide +kernel
theorem dL_law_2443 : decode cL_law 2443 = .ok (.iload 4, 2) := by decide +kernel
theorem dL_law_2445 : decode cL_law 2445 = .ok (.iconst 2, 1) := by decide +kernel
theorem dL_law_2446 : decode cL_law 2446 = .ok (.iadd, 1) := by decide +kernel
theorem dL_law_2447 : decode cL_law 2447 = .ok (.iaload, 1) := by decide +kernel
theorem dL_law_2448 : decode cL_law 2448 = .ok (.aload_n 0, 1) := by decide +kernel
theorem dL_law_2449 : decode cL_law 2449 = .ok (.iload 4, 2) := by decide +kernel
theorem dL_law_2451 : decode cL_law 2451 = .ok (.iconst 3, 1) := by decide +kernel
theorem dL_law_2452 : decode cL_law 2452 = .ok (.iadd, 1) := by decide +kernel
theorem dL_law_2453 : decode cL_law 2453 = .ok (.iaload, 1) := by decide +kernel
theorem dL_law_2454 : decode cL_law 2454 = .ok (.invokevirtual 263, 3) := by decide +kernel
theorem dL_law_2457 : decode cL_law 2457 = .ok (.istore 6, 2) := by decide +kernel
theorem dL_law_2459 : decode cL_law 2459 = .ok (.aload_n 2, 1) := by decide +kernel
theorem dL_law_2460 : decode cL_law 2460 = .ok (.invokevirtual 133, 3) := by decide +kernel
theorem dL_law_2463 : decode cL_law 2463 = .ok (.iload 5, 2) := by decide +kernel
theorem dL_law_2465 : decode cL_law 2465 = .ok (.if_icmp .eq 5, 3) := by decide +kernel
theorem dL_law_2470 : decode cL_law 2470 = .ok (.iload 5, 2) := by decide +kernel
theorem dL_law_2472 : decode cL_law 2472 = .ok (.ifCond .ne 15, 3) := by decide +kernel
theorem dL_law_2487 : decode cL_law 2487 = .ok (.goto 17, 3) := by decide +kernel
theorem tw_440 : Cond.code yX8_digest cX8_digest 3 (some .long) ∈ tp_all := tp_mem 440 (by decide +kernel) rfl
theorem tw_437 : Cond.methodLink RL 264 yX8_digest ∈ tp_all := tp_mem 437 (by decide +kernel) rfl
theorem tw_438 : Cond.instanceMethod yX8_digest ∈ tp_all := tp_mem 438 (by decide +kernel) rfl
theorem tw_439 : Cond.selects RX8 yX8_digest yX8_digest ∈ tp_all := tp_mem 439 (by decide +kernel) rfl
theorem tw_1606 : Cond.code yX10_digest cX10_digest 5 (some .long) ∈ tp_all := tp_mem 1606 (by decide +kernel) rfl
theorem tw_1603 : Cond.methodLink RL 268 yX10_digest ∈ tp_all := tp_mem 1603 (by decide +kernel) rfl
theorem tw_1604 : Cond.instanceMethod yX10_digest ∈ tp_all := tp_mem 1604 (by decide +kernel) rfl
theorem tw_1605 : Cond.selects RX10 yX10_digest yX10_digest ∈ tp_all := tp_mem 1605 (by decide +kernel) rfl
theorem dL_law_2490 : decode cL_law 2490 = .ok (.aload_n 1, 1) := by decide +kernel
theorem dL_law_2491 : decode cL_law 2491 = .ok (.invokevirtual 264, 3) := by decide +kernel
theorem dL_law_2494 : decode cL_law 2494 = .ok (.aload_n 2, 1) := by decide +kernel
theorem dL_law_2495 : decode cL_law 2495 = .ok (.invokevirtual 268, 3) := by decide +kernel
theorem dL_law_2498 : decode cL_law 2498 = .ok (.lcmp, 1) := by decide +kernel
theorem dL_law_2499 : decode cL_law 2499 = .ok (.ifCond .eq 5, 3) := by decide +kernel
