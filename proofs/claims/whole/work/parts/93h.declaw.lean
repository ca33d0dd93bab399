/-! the law, its bytes -/
theorem dL_law__1994 : decode cL_law_ 1994 = .ok (.iadd, 1) := by decide +kernel
theorem dL_law__1995 : decode cL_law_ 1995 = .ok (.iaload, 1) := by decide +kernel
theorem dL_law__1996 : decode cL_law_ 1996 = .ok (.invokevirtual 243, 3) := by decide +kernel
theorem dL_law__1999 : decode cL_law_ 1999 = .ok (.istore 6, 2) := by decide +kernel
theorem dL_law__2001 : decode cL_law_ 2001 = .ok (.aload_n 2, 1) := by decide +kernel
theorem dL_law__2002 : decode cL_law_ 2002 = .ok (.invokevirtual 136, 3) := by decide +kernel
theorem dL_law__2005 : decode cL_law_ 2005 = .ok (.iload 5, 2) := by decide +kernel
theorem dL_law__2007 : decode cL_law_ 2007 = .ok (.if_icmp .eq 5, 3) := by decide +kernel
theorem dL_law__2012 : decode cL_law_ 2012 = .ok (.iload 5, 2) := by decide +kernel
theorem dL_law__2014 : decode cL_law_ 2014 = .ok (.ifCond .ne 15, 3) := by decide +kernel
theorem dL_law__2017 : decode cL_law_ 2017 = .ok (.aload_n 3, 1) := by decide +kernel
theorem dL_law__2018 : decode cL_law_ 2018 = .ok (.iconst 0, 1) := by decide +kernel
theorem dL_law__2019 : decode cL_law_ 2019 = .ok (.laload, 1) := by decide +kernel
theorem dL_law__2020 : decode cL_law_ 2020 = .ok (.iload 6, 2) := by decide +kernel
theorem dL_law__2022 : decode cL_law_ 2022 = .ok (.i2l, 1) := by decide +kernel
theorem dL_law__2023 : decode cL_law_ 2023 = .ok (.lcmp, 1) := by decide +kernel
theorem dL_law__2024 : decode cL_law_ 2024 = .ok (.ifCond .eq 5, 3) := by decide +kernel
theorem dL_law__2029 : decode cL_law_ 2029 = .ok (.goto 726, 3) := by decide +kernel
theorem dL_law__2032 : decode cL_law_ 2032 = .ok (.aload_n 1, 1) := by decide +kernel
theorem dL_law__2033 : decode cL_law_ 2033 = .ok (.invokevirtual 244, 3) := by decide +kernel
theorem dL_law__2036 : decode cL_law_ 2036 = .ok (.aload_n 2, 1) := by decide +kernel
theorem dL_law__2037 : decode cL_law_ 2037 = .ok (.invokevirtual 247, 3) := by decide +kernel
theorem dL_law__2040 : decode cL_law_ 2040 = .ok (.if_icmp .eq 715, 3) := by decide +kernel
theorem dL_law__2045 : decode cL_law_ 2045 = .ok (.aload_n 1, 1) := by decide +kernel
theorem dL_law__2046 : decode cL_law_ 2046 = .ok (.aload_n 0, 1) := by decide +kernel
theorem dL_law__2047 : decode cL_law_ 2047 = .ok (.iload 4, 2) := by decide +kernel
theorem dL_law__2049 : decode cL_law_ 2049 = .ok (.iconst 1, 1) := by decide +kernel
theorem dL_law__2050 : decode cL_law_ 2050 = .ok (.iadd, 1) := by decide +kernel
theorem dL_law__2051 : decode cL_law_ 2051 = .ok (.iaload, 1) := by decide +kernel
theorem dL_law__2052 : decode cL_law_ 2052 = .ok (.ifCond .eq 7, 3) := by decide +kernel
theorem dL_law__2055 : decode cL_law_ 2055 = .ok (.iconst 1, 1) := by decide +kernel
theorem dL_law__2056 : decode cL_law_ 2056 = .ok (.goto 4, 3) := by decide +kernel
theorem dL_law__2059 : decode cL_law_ 2059 = .ok (.iconst 0, 1) := by decide +kernel
theorem dL_law__2060 : decode cL_law_ 2060 = .ok (.invokevirtual 248, 3) := by decide +kernel
theorem dL_law__2063 : decode cL_law_ 2063 = .ok (.aload_n 2, 1) := by decide +kernel
theorem dL_law__2064 : decode cL_law_ 2064 = .ok (.aload_n 0, 1) := by decide +kernel
theorem dL_law__2065 : decode cL_law_ 2065 = .ok (.iload 4, 2) := by decide +kernel
theorem dL_law__2067 : decode cL_law_ 2067 = .ok (.iconst 1, 1) := by decide +kernel
theorem dL_law__2068 : decode cL_law_ 2068 = .ok (.iadd, 1) := by decide +kernel
theorem dL_law__2069 : decode cL_law_ 2069 = .ok (.iaload, 1) := by decide +kernel
theorem dL_law__2070 : decode cL_law_ 2070 = .ok (.ifCond .eq 7, 3) := by decide +kernel
theorem dL_law__2073 : decode cL_law_ 2073 = .ok (.iconst 1, 1) := by decide +kernel
theorem dL_law__2074 : decode cL_law_ 2074 = .ok (.goto 4, 3) := by decide +kernel
theorem dL_law__2077 : decode cL_law_ 2077 = .ok (.iconst 0, 1) := by decide +kernel
theorem dL_law__2078 : decode cL_law_ 2078 = .ok (.invokevirtual 251, 3) := by decide +kernel
theorem dL_law__2081 : decode cL_law_ 2081 = .ok (.if_icmp .eq 674, 3) := by decide +kernel
theorem dL_law__2086 : decode cL_law_ 2086 = .ok (.aload_n 1, 1) := by decide +kernel
theorem dL_law__2087 : decode cL_law_ 2087 = .ok (.aload_n 0, 1) := by decide +kernel
theorem dL_law__2088 : decode cL_law_ 2088 = .ok (.iload 4, 2) := by decide +kernel
theorem dL_law__2090 : decode cL_law_ 2090 = .ok (.iconst 1, 1) := by decide +kernel
theorem dL_law__2091 : decode cL_law_ 2091 = .ok (.iadd, 1) := by decide +kernel
theorem dL_law__2092 : decode cL_law_ 2092 = .ok (.iaload, 1) := by decide +kernel
theorem dL_law__2093 : decode cL_law_ 2093 = .ok (.aload_n 0, 1) := by decide +kernel
theorem dL_law__2094 : decode cL_law_ 2094 = .ok (.iload 4, 2) := by decide +kernel
theorem dL_law__2096 : decode cL_law_ 2096 = .ok (.iconst 2, 1) := by decide +kernel
theorem dL_law__2097 : decode cL_law_ 2097 = .ok (.iadd, 1) := by decide +kernel
theorem dL_law__2098 : decode cL_law_ 2098 = .ok (.iaload, 1) := by decide +kernel
theorem dL_law__2099 : decode cL_law_ 2099 = .ok (.aload_n 0, 1) := by decide +kernel
theorem dL_law__2100 : decode cL_law_ 2100 = .ok (.iload 4, 2) := by decide +kernel
theorem dL_law__2102 : decode cL_law_ 2102 = .ok (.iconst 3, 1) := by decide +kernel
theorem dL_law__2103 : decode cL_law_ 2103 = .ok (.iadd, 1) := by decide +kernel
theorem dL_law__2104 : decode cL_law_ 2104 = .ok (.iaload, 1) := by decide +kernel
theorem dL_law__2105 : decode cL_law_ 2105 = .ok (.ifCond .eq 7, 3) := by decide +kernel
theorem dL_law__2108 : decode cL_law_ 2108 = .ok (.iconst 1, 1) := by decide +kernel
theorem dL_law__2109 : decode cL_law_ 2109 = .ok (.goto 4, 3) := by decide +kernel
theorem dL_law__2112 : decode cL_law_ 2112 = .ok (.iconst 0, 1) := by decide +kernel
theorem dL_law__2113 : decode cL_law_ 2113 = .ok (.aload_n 3, 1) := by decide +kernel
theorem dL_law__2114 : decode cL_law_ 2114 = .ok (.invokestatic 252, 3) := by decide +kernel
theorem dL_law__2117 : decode cL_law_ 2117 = .ok (.istore 5, 2) := by decide +kernel
theorem dL_law__2119 : decode cL_law_ 2119 = .ok (.aload_n 2, 1) := by decide +kernel
theorem dL_law__2120 : decode cL_law_ 2120 = .ok (.aload_n 0, 1) := by decide +kernel
theorem dL_law__2121 : decode cL_law_ 2121 = .ok (.iload 4, 2) := by decide +kernel
theorem dL_law__2123 : decode cL_law_ 2123 = .ok (.iconst 1, 1) := by decide +kernel
theorem dL_law__2124 : decode cL_law_ 2124 = .ok (.iadd, 1) := by decide +kernel
theorem dL_law__2125 : decode cL_law_ 2125 = .ok (.iaload, 1) := by decide +kernel
theorem dL_law__2126 : decode cL_law_ 2126 = .ok (.aload_n 0, 1) := by decide +kernel
theorem dL_law__2127 : decode cL_law_ 2127 = .ok (.iload 4, 2) := by decide +kernel
theorem dL_law__2129 : decode cL_law_ 2129 = .ok (.iconst 2, 1) := by decide +kernel
theorem dL_law__2130 : decode cL_law_ 2130 = .ok (.iadd, 1) := by decide +kernel
theorem dL_law__2131 : decode cL_law_ 2131 = .ok (.iaload, 1) := by decide +kernel
theorem dL_law__2132 : decode cL_law_ 2132 = .ok (.aload_n 0, 1) := by decide +kernel
theorem dL_law__2133 : decode cL_law_ 2133 = .ok (.iload 4, 2) := by decide +kernel
theorem dL_law__2135 : decode cL_law_ 2135 = .ok (.iconst 3, 1) := by decide +kernel
theorem dL_law__2136 : decode cL_law_ 2136 = .ok (.iadd, 1) := by decide +kernel
theorem dL_law__2137 : decode cL_law_ 2137 = .ok (.iaload, 1) := by decide +kernel
theorem dL_law__2138 : decode cL_law_ 2138 = .ok (.ifCond .eq 7, 3) := by decide +kernel
theorem dL_law__2141 : decode cL_law_ 2141 = .ok (.iconst 1, 1) := by decide +kernel
theorem dL_law__2142 : decode cL_law_ 2142 = .ok (.goto 4, 3) := by decide +kernel
theorem dL_law__2145 : decode cL_law_ 2145 = .ok (.iconst 0, 1) := by decide +kernel
theorem dL_law__2146 : decode cL_law_ 2146 = .ok (.invokevirtual 254, 3) := by decide +kernel
theorem dL_law__2149 : decode cL_law_ 2149 = .ok (.istore 6, 2) := by decide +kernel
theorem dL_law__2151 : decode cL_law_ 2151 = .ok (.aload_n 2, 1) := by decide +kernel
theorem dL_law__2152 : decode cL_law_ 2152 = .ok (.invokevirtual 136, 3) := by decide +kernel
theorem dL_law__2155 : decode cL_law_ 2155 = .ok (.iload 5, 2) := by decide +kernel
theorem dL_law__2157 : decode cL_law_ 2157 = .ok (.if_icmp .eq 5, 3) := by decide +kernel
theorem dL_law__2162 : decode cL_law_ 2162 = .ok (.iload 5, 2) := by decide +kernel
theorem dL_law__2164 : decode cL_law_ 2164 = .ok (.ifCond .ne 15, 3) := by decide +kernel
theorem dL_law__2167 : decode cL_law_ 2167 = .ok (.aload_n 3, 1) := by decide +kernel
theorem dL_law__2168 : decode cL_law_ 2168 = .ok (.iconst 0, 1) := by decide +kernel
theorem dL_law__2169 : decode cL_law_ 2169 = .ok (.laload, 1) := by decide +kernel
theorem dL_law__2170 : decode cL_law_ 2170 = .ok (.iload 6, 2) := by decide +kernel
theorem dL_law__2172 : decode cL_law_ 2172 = .ok (.i2l, 1) := by decide +kernel
theorem dL_law__2173 : decode cL_law_ 2173 = .ok (.lcmp, 1) := by decide +kernel
theorem dL_law__2174 : decode cL_law_ 2174 = .ok (.ifCond .eq 5, 3) := by decide +kernel
theorem dL_law__2179 : decode cL_law_ 2179 = .ok (.goto 576, 3) := by decide +kernel
theorem dL_law__2182 : decode cL_law_ 2182 = .ok (.aload_n 1, 1) := by decide +kernel
theorem dL_law__2183 : decode cL_law_ 2183 = .ok (.aload_n 0, 1) := by decide +kernel
theorem dL_law__2184 : decode cL_law_ 2184 = .ok (.iload 4, 2) := by decide +kernel
theorem dL_law__2186 : decode cL_law_ 2186 = .ok (.iconst 1, 1) := by decide +kernel
theorem dL_law__2187 : decode cL_law_ 2187 = .ok (.iadd, 1) := by decide +kernel
theorem dL_law__2188 : decode cL_law_ 2188 = .ok (.iaload, 1) := by decide +kernel
theorem dL_law__2189 : decode cL_law_ 2189 = .ok (.aload_n 3, 1) := by decide +kernel
theorem dL_law__2190 : decode cL_law_ 2190 = .ok (.invokestatic 255, 3) := by decide +kernel
theorem dL_law__2193 : decode cL_law_ 2193 = .ok (.istore 5, 2) := by decide +kernel
theorem dL_law__2195 : decode cL_law_ 2195 = .ok (.aload_n 2, 1) := by decide +kernel
theorem dL_law__2196 : decode cL_law_ 2196 = .ok (.aload_n 0, 1) := by decide +kernel
theorem dL_law__2197 : decode cL_law_ 2197 = .ok (.iload 4, 2) := by decide +kernel
theorem dL_law__2199 : decode cL_law_ 2199 = .ok (.iconst 1, 1) := by decide +kernel
theorem dL_law__2200 : decode cL_law_ 2200 = .ok (.iadd, 1) := by decide +kernel
theorem dL_law__2201 : decode cL_law_ 2201 = .ok (.iaload, 1) := by decide +kernel
theorem dL_law__2202 : decode cL_law_ 2202 = .ok (.invokevirtual 257, 3) := by decide +kernel
theorem dL_law__2205 : decode cL_law_ 2205 = .ok (.istore 6, 2) := by decide +kernel
theorem dL_law__2207 : decode cL_law_ 2207 = .ok (.aload_n 2, 1) := by decide +kernel
theorem dL_law__2208 : decode cL_law_ 2208 = .ok (.invokevirtual 136, 3) := by decide +kernel
theorem dL_law__2211 : decode cL_law_ 2211 = .ok (.iload 5, 2) := by decide +kernel
theorem dL_law__2213 : decode cL_law_ 2213 = .ok (.if_icmp .eq 5, 3) := by decide +kernel
theorem dL_law__2218 : decode cL_law_ 2218 = .ok (.iload 5, 2) := by decide +kernel
theorem dL_law__2220 : decode cL_law_ 2220 = .ok (.ifCond .ne 15, 3) := by decide +kernel
theorem dL_law__2223 : decode cL_law_ 2223 = .ok (.aload_n 3, 1) := by decide +kernel
theorem dL_law__2224 : decode cL_law_ 2224 = .ok (.iconst 0, 1) := by decide +kernel
theorem dL_law__2225 : decode cL_law_ 2225 = .ok (.laload, 1) := by decide +kernel
theorem dL_law__2226 : decode cL_law_ 2226 = .ok (.iload 6, 2) := by decide +kernel
theorem dL_law__2228 : decode cL_law_ 2228 = .ok (.i2l, 1) := by decide +kernel
theorem dL_law__2229 : decode cL_law_ 2229 = .ok (.lcmp, 1) := by decide +kernel
theorem dL_law__2230 : decode cL_law_ 2230 = .ok (.ifCond .eq 5, 3) := by decide +kernel
theorem dL_law__2235 : decode cL_law_ 2235 = .ok (.goto 520, 3) := by decide +kernel
theorem dL_law__2238 : decode cL_law_ 2238 = .ok (.aload_n 1, 1) := by decide +kernel
theorem dL_law__2239 : decode cL_law_ 2239 = .ok (.aload_n 0, 1) := by decide +kernel
theorem dL_law__2240 : decode cL_law_ 2240 = .ok (.iload 4, 2) := by decide +kernel
theorem dL_law__2242 : decode cL_law_ 2242 = .ok (.iconst 1, 1) := by decide +kernel
theorem dL_law__2243 : decode cL_law_ 2243 = .ok (.iadd, 1) := by decide +kernel
theorem dL_law__2244 : decode cL_law_ 2244 = .ok (.iaload, 1) := by decide +kernel
theorem dL_law__2245 : decode cL_law_ 2245 = .ok (.ifCond .eq 7, 3) := by decide +kernel
theorem dL_law__2248 : decode cL_law_ 2248 = .ok (.iconst 1, 1) := by decide +kernel
theorem dL_law__2249 : decode cL_law_ 2249 = .ok (.goto 4, 3) := by decide +kernel
theorem dL_law__2252 : decode cL_law_ 2252 = .ok (.iconst 0, 1) := by decide +kernel
theorem dL_law__2253 : decode cL_law_ 2253 = .ok (.invokevirtual 258, 3) := by decide +kernel
theorem dL_law__2256 : decode cL_law_ 2256 = .ok (.aload_n 2, 1) := by decide +kernel
theorem dL_law__2257 : decode cL_law_ 2257 = .ok (.aload_n 0, 1) := by decide +kernel
theorem dL_law__2258 : decode cL_law_ 2258 = .ok (.iload 4, 2) := by decide +kernel
