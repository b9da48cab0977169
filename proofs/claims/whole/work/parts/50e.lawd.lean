theorem dL_law__1979 : decode cL_law_ 1979 = .ok (.if_icmp .eq 5, 3) := by decide +kernel
theorem dL_law__1982 : decode cL_law_ 1982 = .ok (.iconst 0, 1) := by decide +kernel
theorem dL_law__1983 : decode cL_law_ 1983 = .ok (.ireturn, 1) := by decide +kernel
theorem dL_law__1984 : decode cL_law_ 1984 = .ok (.iload 5, 2) := by decide +kernel
theorem dL_law__1986 : decode cL_law_ 1986 = .ok (.ifCond .ne 15, 3) := by decide +kernel
theorem dL_law__1989 : decode cL_law_ 1989 = .ok (.aload_n 3, 1) := by decide +kernel
theorem dL_law__1990 : decode cL_law_ 1990 = .ok (.iconst 0, 1) := by decide +kernel
theorem dL_law__1991 : decode cL_law_ 1991 = .ok (.laload, 1) := by decide +kernel
theorem dL_law__1992 : decode cL_law_ 1992 = .ok (.iload 6, 2) := by decide +kernel
theorem dL_law__1994 : decode cL_law_ 1994 = .ok (.i2l, 1) := by decide +kernel
theorem dL_law__1995 : decode cL_law_ 1995 = .ok (.lcmp, 1) := by decide +kernel
theorem dL_law__1996 : decode cL_law_ 1996 = .ok (.ifCond .eq 5, 3) := by decide +kernel
theorem dL_law__1999 : decode cL_law_ 1999 = .ok (.iconst 0, 1) := by decide +kernel
theorem dL_law__2000 : decode cL_law_ 2000 = .ok (.ireturn, 1) := by decide +kernel
theorem dL_law__2001 : decode cL_law_ 2001 = .ok (.goto 742, 3) := by decide +kernel
theorem dL_law__2004 : decode cL_law_ 2004 = .ok (.aload_n 1, 1) := by decide +kernel
theorem dL_law__2005 : decode cL_law_ 2005 = .ok (.aload_n 0, 1) := by decide +kernel
theorem dL_law__2006 : decode cL_law_ 2006 = .ok (.iload 4, 2) := by decide +kernel
theorem dL_law__2008 : decode cL_law_ 2008 = .ok (.iconst 1, 1) := by decide +kernel
theorem dL_law__2009 : decode cL_law_ 2009 = .ok (.iadd, 1) := by decide +kernel
theorem dL_law__2010 : decode cL_law_ 2010 = .ok (.iaload, 1) := by decide +kernel
theorem dL_law__2011 : decode cL_law_ 2011 = .ok (.aload_n 0, 1) := by decide +kernel
theorem dL_law__2012 : decode cL_law_ 2012 = .ok (.iload 4, 2) := by decide +kernel
theorem dL_law__2014 : decode cL_law_ 2014 = .ok (.iconst 2, 1) := by decide +kernel
theorem dL_law__2015 : decode cL_law_ 2015 = .ok (.iadd, 1) := by decide +kernel
theorem dL_law__2016 : decode cL_law_ 2016 = .ok (.iaload, 1) := by decide +kernel
theorem dL_law__2017 : decode cL_law_ 2017 = .ok (.aload_n 3, 1) := by decide +kernel
theorem dL_law__2018 : decode cL_law_ 2018 = .ok (.invokestatic 219, 3) := by decide +kernel
theorem dL_law__2021 : decode cL_law_ 2021 = .ok (.istore 5, 2) := by decide +kernel
theorem dL_law__2023 : decode cL_law_ 2023 = .ok (.aload_n 2, 1) := by decide +kernel
theorem dL_law__2024 : decode cL_law_ 2024 = .ok (.aload_n 0, 1) := by decide +kernel
theorem dL_law__2025 : decode cL_law_ 2025 = .ok (.iload 4, 2) := by decide +kernel
theorem dL_law__2027 : decode cL_law_ 2027 = .ok (.iconst 1, 1) := by decide +kernel
theorem dL_law__2028 : decode cL_law_ 2028 = .ok (.iadd, 1) := by decide +kernel
theorem dL_law__2029 : decode cL_law_ 2029 = .ok (.iaload, 1) := by decide +kernel
theorem dL_law__2030 : decode cL_law_ 2030 = .ok (.aload_n 0, 1) := by decide +kernel
theorem dL_law__2031 : decode cL_law_ 2031 = .ok (.iload 4, 2) := by decide +kernel
theorem dL_law__2033 : decode cL_law_ 2033 = .ok (.iconst 2, 1) := by decide +kernel
theorem dL_law__2034 : decode cL_law_ 2034 = .ok (.iadd, 1) := by decide +kernel
theorem dL_law__2035 : decode cL_law_ 2035 = .ok (.iaload, 1) := by decide +kernel
theorem dL_law__2036 : decode cL_law_ 2036 = .ok (.invokevirtual 221, 3) := by decide +kernel
theorem dL_law__2039 : decode cL_law_ 2039 = .ok (.istore 6, 2) := by decide +kernel
theorem dL_law__2041 : decode cL_law_ 2041 = .ok (.aload_n 2, 1) := by decide +kernel
theorem dL_law__2042 : decode cL_law_ 2042 = .ok (.invokevirtual 134, 3) := by decide +kernel
theorem dL_law__2045 : decode cL_law_ 2045 = .ok (.iload 5, 2) := by decide +kernel
theorem dL_law__2047 : decode cL_law_ 2047 = .ok (.if_icmp .eq 5, 3) := by decide +kernel
theorem dL_law__2050 : decode cL_law_ 2050 = .ok (.iconst 0, 1) := by decide +kernel
theorem dL_law__2051 : decode cL_law_ 2051 = .ok (.ireturn, 1) := by decide +kernel
theorem dL_law__2052 : decode cL_law_ 2052 = .ok (.iload 5, 2) := by decide +kernel
theorem dL_law__2054 : decode cL_law_ 2054 = .ok (.ifCond .ne 15, 3) := by decide +kernel
theorem dL_law__2057 : decode cL_law_ 2057 = .ok (.aload_n 3, 1) := by decide +kernel
theorem dL_law__2058 : decode cL_law_ 2058 = .ok (.iconst 0, 1) := by decide +kernel
theorem dL_law__2059 : decode cL_law_ 2059 = .ok (.laload, 1) := by decide +kernel
theorem dL_law__2060 : decode cL_law_ 2060 = .ok (.iload 6, 2) := by decide +kernel
theorem dL_law__2062 : decode cL_law_ 2062 = .ok (.i2l, 1) := by decide +kernel
theorem dL_law__2063 : decode cL_law_ 2063 = .ok (.lcmp, 1) := by decide +kernel
theorem dL_law__2064 : decode cL_law_ 2064 = .ok (.ifCond .eq 5, 3) := by decide +kernel
theorem dL_law__2067 : decode cL_law_ 2067 = .ok (.iconst 0, 1) := by decide +kernel
theorem dL_law__2068 : decode cL_law_ 2068 = .ok (.ireturn, 1) := by decide +kernel
theorem dL_law__2069 : decode cL_law_ 2069 = .ok (.goto 674, 3) := by decide +kernel
theorem dL_law__2072 : decode cL_law_ 2072 = .ok (.aload_n 1, 1) := by decide +kernel
theorem dL_law__2073 : decode cL_law_ 2073 = .ok (.aload_n 0, 1) := by decide +kernel
theorem dL_law__2074 : decode cL_law_ 2074 = .ok (.iload 4, 2) := by decide +kernel
theorem dL_law__2076 : decode cL_law_ 2076 = .ok (.iconst 1, 1) := by decide +kernel
theorem dL_law__2077 : decode cL_law_ 2077 = .ok (.iadd, 1) := by decide +kernel
theorem dL_law__2078 : decode cL_law_ 2078 = .ok (.iaload, 1) := by decide +kernel
theorem dL_law__2079 : decode cL_law_ 2079 = .ok (.aload_n 0, 1) := by decide +kernel
theorem dL_law__2080 : decode cL_law_ 2080 = .ok (.iload 4, 2) := by decide +kernel
theorem dL_law__2082 : decode cL_law_ 2082 = .ok (.iconst 2, 1) := by decide +kernel
theorem dL_law__2083 : decode cL_law_ 2083 = .ok (.iadd, 1) := by decide +kernel
theorem dL_law__2084 : decode cL_law_ 2084 = .ok (.iaload, 1) := by decide +kernel
theorem dL_law__2085 : decode cL_law_ 2085 = .ok (.aload_n 3, 1) := by decide +kernel
theorem dL_law__2086 : decode cL_law_ 2086 = .ok (.invokestatic 222, 3) := by decide +kernel
theorem dL_law__2089 : decode cL_law_ 2089 = .ok (.istore 5, 2) := by decide +kernel
theorem dL_law__2091 : decode cL_law_ 2091 = .ok (.aload_n 2, 1) := by decide +kernel
theorem dL_law__2092 : decode cL_law_ 2092 = .ok (.aload_n 0, 1) := by decide +kernel
theorem dL_law__2093 : decode cL_law_ 2093 = .ok (.iload 4, 2) := by decide +kernel
theorem dL_law__2095 : decode cL_law_ 2095 = .ok (.iconst 1, 1) := by decide +kernel
theorem dL_law__2096 : decode cL_law_ 2096 = .ok (.iadd, 1) := by decide +kernel
theorem dL_law__2097 : decode cL_law_ 2097 = .ok (.iaload, 1) := by decide +kernel
theorem dL_law__2098 : decode cL_law_ 2098 = .ok (.aload_n 0, 1) := by decide +kernel
theorem dL_law__2099 : decode cL_law_ 2099 = .ok (.iload 4, 2) := by decide +kernel
theorem dL_law__2101 : decode cL_law_ 2101 = .ok (.iconst 2, 1) := by decide +kernel
theorem dL_law__2102 : decode cL_law_ 2102 = .ok (.iadd, 1) := by decide +kernel
theorem dL_law__2103 : decode cL_law_ 2103 = .ok (.iaload, 1) := by decide +kernel
theorem dL_law__2104 : decode cL_law_ 2104 = .ok (.invokevirtual 224, 3) := by decide +kernel
theorem dL_law__2107 : decode cL_law_ 2107 = .ok (.istore 6, 2) := by decide +kernel
theorem dL_law__2109 : decode cL_law_ 2109 = .ok (.aload_n 2, 1) := by decide +kernel
theorem dL_law__2110 : decode cL_law_ 2110 = .ok (.invokevirtual 134, 3) := by decide +kernel
theorem dL_law__2113 : decode cL_law_ 2113 = .ok (.iload 5, 2) := by decide +kernel
theorem dL_law__2115 : decode cL_law_ 2115 = .ok (.if_icmp .eq 5, 3) := by decide +kernel
theorem dL_law__2118 : decode cL_law_ 2118 = .ok (.iconst 0, 1) := by decide +kernel
theorem dL_law__2119 : decode cL_law_ 2119 = .ok (.ireturn, 1) := by decide +kernel
theorem dL_law__2120 : decode cL_law_ 2120 = .ok (.iload 5, 2) := by decide +kernel
theorem dL_law__2122 : decode cL_law_ 2122 = .ok (.ifCond .ne 15, 3) := by decide +kernel
theorem dL_law__2125 : decode cL_law_ 2125 = .ok (.aload_n 3, 1) := by decide +kernel
theorem dL_law__2126 : decode cL_law_ 2126 = .ok (.iconst 0, 1) := by decide +kernel
theorem dL_law__2127 : decode cL_law_ 2127 = .ok (.laload, 1) := by decide +kernel
theorem dL_law__2128 : decode cL_law_ 2128 = .ok (.iload 6, 2) := by decide +kernel
theorem dL_law__2130 : decode cL_law_ 2130 = .ok (.i2l, 1) := by decide +kernel
theorem dL_law__2131 : decode cL_law_ 2131 = .ok (.lcmp, 1) := by decide +kernel
theorem dL_law__2132 : decode cL_law_ 2132 = .ok (.ifCond .eq 5, 3) := by decide +kernel
theorem dL_law__2135 : decode cL_law_ 2135 = .ok (.iconst 0, 1) := by decide +kernel
theorem dL_law__2136 : decode cL_law_ 2136 = .ok (.ireturn, 1) := by decide +kernel
theorem dL_law__2137 : decode cL_law_ 2137 = .ok (.goto 606, 3) := by decide +kernel
theorem dL_law__2140 : decode cL_law_ 2140 = .ok (.aload_n 1, 1) := by decide +kernel
theorem dL_law__2141 : decode cL_law_ 2141 = .ok (.aload_n 0, 1) := by decide +kernel
theorem dL_law__2142 : decode cL_law_ 2142 = .ok (.iload 4, 2) := by decide +kernel
theorem dL_law__2144 : decode cL_law_ 2144 = .ok (.iconst 1, 1) := by decide +kernel
theorem dL_law__2145 : decode cL_law_ 2145 = .ok (.iadd, 1) := by decide +kernel
theorem dL_law__2146 : decode cL_law_ 2146 = .ok (.iaload, 1) := by decide +kernel
theorem dL_law__2147 : decode cL_law_ 2147 = .ok (.aload_n 3, 1) := by decide +kernel
theorem dL_law__2148 : decode cL_law_ 2148 = .ok (.invokestatic 225, 3) := by decide +kernel
theorem dL_law__2151 : decode cL_law_ 2151 = .ok (.istore 5, 2) := by decide +kernel
theorem dL_law__2153 : decode cL_law_ 2153 = .ok (.aload_n 2, 1) := by decide +kernel
theorem dL_law__2154 : decode cL_law_ 2154 = .ok (.aload_n 0, 1) := by decide +kernel
theorem dL_law__2155 : decode cL_law_ 2155 = .ok (.iload 4, 2) := by decide +kernel
theorem dL_law__2157 : decode cL_law_ 2157 = .ok (.iconst 1, 1) := by decide +kernel
theorem dL_law__2158 : decode cL_law_ 2158 = .ok (.iadd, 1) := by decide +kernel
theorem dL_law__2159 : decode cL_law_ 2159 = .ok (.iaload, 1) := by decide +kernel
theorem dL_law__2160 : decode cL_law_ 2160 = .ok (.invokevirtual 227, 3) := by decide +kernel
theorem dL_law__2163 : decode cL_law_ 2163 = .ok (.istore 6, 2) := by decide +kernel
theorem dL_law__2165 : decode cL_law_ 2165 = .ok (.aload_n 2, 1) := by decide +kernel
theorem dL_law__2166 : decode cL_law_ 2166 = .ok (.invokevirtual 134, 3) := by decide +kernel
theorem dL_law__2169 : decode cL_law_ 2169 = .ok (.iload 5, 2) := by decide +kernel
theorem dL_law__2171 : decode cL_law_ 2171 = .ok (.if_icmp .eq 5, 3) := by decide +kernel
theorem dL_law__2174 : decode cL_law_ 2174 = .ok (.iconst 0, 1) := by decide +kernel
theorem dL_law__2175 : decode cL_law_ 2175 = .ok (.ireturn, 1) := by decide +kernel
theorem dL_law__2176 : decode cL_law_ 2176 = .ok (.iload 5, 2) := by decide +kernel
theorem dL_law__2178 : decode cL_law_ 2178 = .ok (.ifCond .ne 15, 3) := by decide +kernel
theorem dL_law__2181 : decode cL_law_ 2181 = .ok (.aload_n 3, 1) := by decide +kernel
theorem dL_law__2182 : decode cL_law_ 2182 = .ok (.iconst 0, 1) := by decide +kernel
theorem dL_law__2183 : decode cL_law_ 2183 = .ok (.laload, 1) := by decide +kernel
theorem dL_law__2184 : decode cL_law_ 2184 = .ok (.iload 6, 2) := by decide +kernel
theorem dL_law__2186 : decode cL_law_ 2186 = .ok (.i2l, 1) := by decide +kernel
theorem dL_law__2187 : decode cL_law_ 2187 = .ok (.lcmp, 1) := by decide +kernel
theorem dL_law__2188 : decode cL_law_ 2188 = .ok (.ifCond .eq 5, 3) := by decide +kernel
theorem dL_law__2191 : decode cL_law_ 2191 = .ok (.iconst 0, 1) := by decide +kernel
theorem dL_law__2192 : decode cL_law_ 2192 = .ok (.ireturn, 1) := by decide +kernel
theorem dL_law__2193 : decode cL_law_ 2193 = .ok (.goto 550, 3) := by decide +kernel
theorem dL_law__2196 : decode cL_law_ 2196 = .ok (.aload_n 1, 1) := by decide +kernel
theorem dL_law__2197 : decode cL_law_ 2197 = .ok (.invokevirtual 228, 3) := by decide +kernel
theorem dL_law__2200 : decode cL_law_ 2200 = .ok (.aload_n 2, 1) := by decide +kernel
theorem dL_law__2201 : decode cL_law_ 2201 = .ok (.invokevirtual 231, 3) := by decide +kernel
theorem dL_law__2204 : decode cL_law_ 2204 = .ok (.if_icmp .eq 539, 3) := by decide +kernel
theorem dL_law__2207 : decode cL_law_ 2207 = .ok (.iconst 0, 1) := by decide +kernel
theorem dL_law__2208 : decode cL_law_ 2208 = .ok (.ireturn, 1) := by decide +kernel
theorem dL_law__2209 : decode cL_law_ 2209 = .ok (.aload_n 1, 1) := by decide +kernel
theorem dL_law__2210 : decode cL_law_ 2210 = .ok (.aload_n 0, 1) := by decide +kernel
theorem dL_law__2211 : decode cL_law_ 2211 = .ok (.iload 4, 2) := by decide +kernel
theorem dL_law__2213 : decode cL_law_ 2213 = .ok (.iconst 1, 1) := by decide +kernel
theorem dL_law__2214 : decode cL_law_ 2214 = .ok (.iadd, 1) := by decide +kernel
theorem dL_law__2215 : decode cL_law_ 2215 = .ok (.iaload, 1) := by decide +kernel
theorem dL_law__2216 : decode cL_law_ 2216 = .ok (.aload_n 0, 1) := by decide +kernel
theorem dL_law__2217 : decode cL_law_ 2217 = .ok (.iload 4, 2) := by decide +kernel
theorem dL_law__2219 : decode cL_law_ 2219 = .ok (.iconst 2, 1) := by decide +kernel
theorem dL_law__2220 : decode cL_law_ 2220 = .ok (.iadd, 1) := by decide +kernel
theorem dL_law__2221 : decode cL_law_ 2221 = .ok (.iaload, 1) := by decide +kernel
theorem dL_law__2222 : decode cL_law_ 2222 = .ok (.aload_n 3, 1) := by decide +kernel
theorem dL_law__2223 : decode cL_law_ 2223 = .ok (.invokestatic 232, 3) := by decide +kernel
theorem dL_law__2226 : decode cL_law_ 2226 = .ok (.istore 5, 2) := by decide +kernel
theorem dL_law__2228 : decode cL_law_ 2228 = .ok (.aload_n 2, 1) := by decide +kernel
theorem dL_law__2229 : decode cL_law_ 2229 = .ok (.aload_n 0, 1) := by decide +kernel
theorem dL_law__2230 : decode cL_law_ 2230 = .ok (.iload 4, 2) := by decide +kernel
theorem dL_law__2232 : decode cL_law_ 2232 = .ok (.iconst 1, 1) := by decide +kernel
theorem dL_law__2233 : decode cL_law_ 2233 = .ok (.iadd, 1) := by decide +kernel
theorem dL_law__2234 : decode cL_law_ 2234 = .ok (.iaload, 1) := by decide +kernel
theorem dL_law__2235 : decode cL_law_ 2235 = .ok (.aload_n 0, 1) := by decide +kernel
theorem dL_law__2236 : decode cL_law_ 2236 = .ok (.iload 4, 2) := by decide +kernel
theorem dL_law__2238 : decode cL_law_ 2238 = .ok (.iconst 2, 1) := by decide +kernel
theorem dL_law__2239 : decode cL_law_ 2239 = .ok (.iadd, 1) := by decide +kernel
theorem dL_law__2240 : decode cL_law_ 2240 = .ok (.iaload, 1) := by decide +kernel
theorem dL_law__2241 : decode cL_law_ 2241 = .ok (.invokevirtual 234, 3) := by decide +kernel
theorem dL_law__2244 : decode cL_law_ 2244 = .ok (.istore 6, 2) := by decide +kernel
theorem dL_law__2246 : decode cL_law_ 2246 = .ok (.aload_n 2, 1) := by decide +kernel
theorem dL_law__2247 : decode cL_law_ 2247 = .ok (.invokevirtual 134, 3) := by decide +kernel
theorem dL_law__2250 : decode cL_law_ 2250 = .ok (.iload 5, 2) := by decide +kernel
theorem dL_law__2252 : decode cL_law_ 2252 = .ok (.if_icmp .eq 5, 3) := by decide +kernel
theorem dL_law__2255 : decode cL_law_ 2255 = .ok (.iconst 0, 1) := by decide +kernel
theorem dL_law__2256 : decode cL_law_ 2256 = .ok (.ireturn, 1) := by decide +kernel
theorem dL_law__2257 : decode cL_law_ 2257 = .ok (.iload 5, 2) := by decide +kernel
theorem dL_law__2259 : decode cL_law_ 2259 = .ok (.ifCond .ne 15, 3) := by decide +kernel
theorem dL_law__2262 : decode cL_law_ 2262 = .ok (.aload_n 3, 1) := by decide +kernel
theorem dL_law__2263 : decode cL_law_ 2263 = .ok (.iconst 0, 1) := by decide +kernel
theorem dL_law__2264 : decode cL_law_ 2264 = .ok (.laload, 1) := by decide +kernel
theorem dL_law__2265 : decode cL_law_ 2265 = .ok (.iload 6, 2) := by decide +kernel
theorem dL_law__2267 : decode cL_law_ 2267 = .ok (.i2l, 1) := by decide +kernel
theorem dL_law__2268 : decode cL_law_ 2268 = .ok (.lcmp, 1) := by decide +kernel
theorem dL_law__2269 : decode cL_law_ 2269 = .ok (.ifCond .eq 5, 3) := by decide +kernel
theorem dL_law__2272 : decode cL_law_ 2272 = .ok (.iconst 0, 1) := by decide +kernel
theorem dL_law__2273 : decode cL_law_ 2273 = .ok (.ireturn, 1) := by decide +kernel
theorem dL_law__2274 : decode cL_law_ 2274 = .ok (.goto 469, 3) := by decide +kernel
theorem dL_law__2277 : decode cL_law_ 2277 = .ok (.aload_n 1, 1) := by decide +kernel
theorem dL_law__2278 : decode cL_law_ 2278 = .ok (.aload_n 0, 1) := by decide +kernel
theorem dL_law__2279 : decode cL_law_ 2279 = .ok (.iload 4, 2) := by decide +kernel
theorem dL_law__2281 : decode cL_law_ 2281 = .ok (.iconst 1, 1) := by decide +kernel
theorem dL_law__2282 : decode cL_law_ 2282 = .ok (.iadd, 1) := by decide +kernel
theorem dL_law__2283 : decode cL_law_ 2283 = .ok (.iaload, 1) := by decide +kernel
theorem dL_law__2284 : decode cL_law_ 2284 = .ok (.aload_n 3, 1) := by decide +kernel
theorem dL_law__2285 : decode cL_law_ 2285 = .ok (.invokestatic 235, 3) := by decide +kernel
theorem dL_law__2288 : decode cL_law_ 2288 = .ok (.istore 5, 2) := by decide +kernel
theorem dL_law__2290 : decode cL_law_ 2290 = .ok (.aload_n 2, 1) := by decide +kernel
theorem dL_law__2291 : decode cL_law_ 2291 = .ok (.aload_n 0, 1) := by decide +kernel
theorem dL_law__2292 : decode cL_law_ 2292 = .ok (.iload 4, 2) := by decide +kernel
theorem dL_law__2294 : decode cL_law_ 2294 = .ok (.iconst 1, 1) := by decide +kernel
theorem dL_law__2295 : decode cL_law_ 2295 = .ok (.iadd, 1) := by decide +kernel
theorem dL_law__2296 : decode cL_law_ 2296 = .ok (.iaload, 1) := by decide +kernel
theorem dL_law__2297 : decode cL_law_ 2297 = .ok (.invokevirtual 237, 3) := by decide +kernel
theorem dL_law__2300 : decode cL_law_ 2300 = .ok (.istore 6, 2) := by decide +kernel
theorem dL_law__2302 : decode cL_law_ 2302 = .ok (.aload_n 2, 1) := by decide +kernel
theorem dL_law__2303 : decode cL_law_ 2303 = .ok (.invokevirtual 134, 3) := by decide +kernel
theorem dL_law__2306 : decode cL_law_ 2306 = .ok (.iload 5, 2) := by decide +kernel
theorem dL_law__2308 : decode cL_law_ 2308 = .ok (.if_icmp .eq 5, 3) := by decide +kernel
theorem dL_law__2311 : decode cL_law_ 2311 = .ok (.iconst 0, 1) := by decide +kernel
theorem dL_law__2312 : decode cL_law_ 2312 = .ok (.ireturn, 1) := by decide +kernel
theorem dL_law__2313 : decode cL_law_ 2313 = .ok (.iload 5, 2) := by decide +kernel
theorem dL_law__2315 : decode cL_law_ 2315 = .ok (.ifCond .ne 15, 3) := by decide +kernel
theorem dL_law__2318 : decode cL_law_ 2318 = .ok (.aload_n 3, 1) := by decide +kernel
theorem dL_law__2319 : decode cL_law_ 2319 = .ok (.iconst 0, 1) := by decide +kernel
theorem dL_law__2320 : decode cL_law_ 2320 = .ok (.laload, 1) := by decide +kernel
theorem dL_law__2321 : decode cL_law_ 2321 = .ok (.iload 6, 2) := by decide +kernel
theorem dL_law__2323 : decode cL_law_ 2323 = .ok (.i2l, 1) := by decide +kernel
theorem dL_law__2324 : decode cL_law_ 2324 = .ok (.lcmp, 1) := by decide +kernel
theorem dL_law__2325 : decode cL_law_ 2325 = .ok (.ifCond .eq 5, 3) := by decide +kernel
theorem dL_law__2328 : decode cL_law_ 2328 = .ok (.iconst 0, 1) := by decide +kernel
theorem dL_law__2329 : decode cL_law_ 2329 = .ok (.ireturn, 1) := by decide +kernel
theorem dL_law__2330 : decode cL_law_ 2330 = .ok (.goto 413, 3) := by decide +kernel
theorem dL_law__2333 : decode cL_law_ 2333 = .ok (.aload_n 1, 1) := by decide +kernel
theorem dL_law__2334 : decode cL_law_ 2334 = .ok (.aload_n 0, 1) := by decide +kernel
theorem dL_law__2335 : decode cL_law_ 2335 = .ok (.iload 4, 2) := by decide +kernel
theorem dL_law__2337 : decode cL_law_ 2337 = .ok (.iconst 1, 1) := by decide +kernel
theorem dL_law__2338 : decode cL_law_ 2338 = .ok (.iadd, 1) := by decide +kernel
theorem dL_law__2339 : decode cL_law_ 2339 = .ok (.iaload, 1) := by decide +kernel
theorem dL_law__2340 : decode cL_law_ 2340 = .ok (.aload_n 3, 1) := by decide +kernel
theorem dL_law__2341 : decode cL_law_ 2341 = .ok (.invokestatic 238, 3) := by decide +kernel
theorem dL_law__2344 : decode cL_law_ 2344 = .ok (.istore 5, 2) := by decide +kernel
theorem dL_law__2346 : decode cL_law_ 2346 = .ok (.aload_n 2, 1) := by decide +kernel
theorem dL_law__2347 : decode cL_law_ 2347 = .ok (.aload_n 0, 1) := by decide +kernel
theorem dL_law__2348 : decode cL_law_ 2348 = .ok (.iload 4, 2) := by decide +kernel
theorem dL_law__2350 : decode cL_law_ 2350 = .ok (.iconst 1, 1) := by decide +kernel
theorem dL_law__2351 : decode cL_law_ 2351 = .ok (.iadd, 1) := by decide +kernel
theorem dL_law__2352 : decode cL_law_ 2352 = .ok (.iaload, 1) := by decide +kernel
theorem dL_law__2353 : decode cL_law_ 2353 = .ok (.invokevirtual 240, 3) := by decide +kernel
theorem dL_law__2356 : decode cL_law_ 2356 = .ok (.istore 6, 2) := by decide +kernel
theorem dL_law__2358 : decode cL_law_ 2358 = .ok (.aload_n 2, 1) := by decide +kernel
theorem dL_law__2359 : decode cL_law_ 2359 = .ok (.invokevirtual 134, 3) := by decide +kernel
theorem dL_law__2362 : decode cL_law_ 2362 = .ok (.iload 5, 2) := by decide +kernel
theorem dL_law__2364 : decode cL_law_ 2364 = .ok (.if_icmp .eq 5, 3) := by decide +kernel
theorem dL_law__2367 : decode cL_law_ 2367 = .ok (.iconst 0, 1) := by decide +kernel
theorem dL_law__2368 : decode cL_law_ 2368 = .ok (.ireturn, 1) := by decide +kernel
theorem dL_law__2369 : decode cL_law_ 2369 = .ok (.iload 5, 2) := by decide +kernel
theorem dL_law__2371 : decode cL_law_ 2371 = .ok (.ifCond .ne 15, 3) := by decide +kernel
theorem dL_law__2374 : decode cL_law_ 2374 = .ok (.aload_n 3, 1) := by decide +kernel
theorem dL_law__2375 : decode cL_law_ 2375 = .ok (.iconst 0, 1) := by decide +kernel
theorem dL_law__2376 : decode cL_law_ 2376 = .ok (.laload, 1) := by decide +kernel
theorem dL_law__2377 : decode cL_law_ 2377 = .ok (.iload 6, 2) := by decide +kernel
theorem dL_law__2379 : decode cL_law_ 2379 = .ok (.i2l, 1) := by decide +kernel
theorem dL_law__2380 : decode cL_law_ 2380 = .ok (.lcmp, 1) := by decide +kernel
theorem dL_law__2381 : decode cL_law_ 2381 = .ok (.ifCond .eq 5, 3) := by decide +kernel
theorem dL_law__2384 : decode cL_law_ 2384 = .ok (.iconst 0, 1) := by decide +kernel
theorem dL_law__2385 : decode cL_law_ 2385 = .ok (.ireturn, 1) := by decide +kernel
theorem dL_law__2386 : decode cL_law_ 2386 = .ok (.goto 357, 3) := by decide +kernel
theorem dL_law__2389 : decode cL_law_ 2389 = .ok (.aload_n 1, 1) := by decide +kernel
theorem dL_law__2390 : decode cL_law_ 2390 = .ok (.aload_n 0, 1) := by decide +kernel
theorem dL_law__2391 : decode cL_law_ 2391 = .ok (.iload 4, 2) := by decide +kernel
theorem dL_law__2393 : decode cL_law_ 2393 = .ok (.iconst 1, 1) := by decide +kernel
theorem dL_law__2394 : decode cL_law_ 2394 = .ok (.iadd, 1) := by decide +kernel
theorem dL_law__2395 : decode cL_law_ 2395 = .ok (.iaload, 1) := by decide +kernel
theorem dL_law__2396 : decode cL_law_ 2396 = .ok (.aload_n 0, 1) := by decide +kernel
theorem dL_law__2397 : decode cL_law_ 2397 = .ok (.iload 4, 2) := by decide +kernel
theorem dL_law__2399 : decode cL_law_ 2399 = .ok (.iconst 2, 1) := by decide +kernel
theorem dL_law__2400 : decode cL_law_ 2400 = .ok (.iadd, 1) := by decide +kernel
theorem dL_law__2401 : decode cL_law_ 2401 = .ok (.iaload, 1) := by decide +kernel
theorem dL_law__2402 : decode cL_law_ 2402 = .ok (.aload_n 3, 1) := by decide +kernel
theorem dL_law__2403 : decode cL_law_ 2403 = .ok (.invokestatic 241, 3) := by decide +kernel
theorem dL_law__2406 : decode cL_law_ 2406 = .ok (.istore 5, 2) := by decide +kernel
theorem dL_law__2408 : decode cL_law_ 2408 = .ok (.aload_n 2, 1) := by decide +kernel
theorem dL_law__2409 : decode cL_law_ 2409 = .ok (.aload_n 0, 1) := by decide +kernel
theorem dL_law__2410 : decode cL_law_ 2410 = .ok (.iload 4, 2) := by decide +kernel
theorem dL_law__2412 : decode cL_law_ 2412 = .ok (.iconst 1, 1) := by decide +kernel
theorem dL_law__2413 : decode cL_law_ 2413 = .ok (.iadd, 1) := by decide +kernel
theorem dL_law__2414 : decode cL_law_ 2414 = .ok (.iaload, 1) := by decide +kernel
theorem dL_law__2415 : decode cL_law_ 2415 = .ok (.aload_n 0, 1) := by decide +kernel
theorem dL_law__2416 : decode cL_law_ 2416 = .ok (.iload 4, 2) := by decide +kernel
theorem dL_law__2418 : decode cL_law_ 2418 = .ok (.iconst 2, 1) := by decide +kernel
theorem dL_law__2419 : decode cL_law_ 2419 = .ok (.iadd, 1) := by decide +kernel
theorem dL_law__2420 : decode cL_law_ 2420 = .ok (.iaload, 1) := by decide +kernel
theorem dL_law__2421 : decode cL_law_ 2421 = .ok (.invokevirtual 243, 3) := by decide +kernel
theorem dL_law__2424 : decode cL_law_ 2424 = .ok (.istore 6, 2) := by decide +kernel
theorem dL_law__2426 : decode cL_law_ 2426 = .ok (.aload_n 2, 1) := by decide +kernel
theorem dL_law__2427 : decode cL_law_ 2427 = .ok (.invokevirtual 134, 3) := by decide +kernel
theorem dL_law__2430 : decode cL_law_ 2430 = .ok (.iload 5, 2) := by decide +kernel
theorem dL_law__2432 : decode cL_law_ 2432 = .ok (.if_icmp .eq 5, 3) := by decide +kernel
theorem dL_law__2435 : decode cL_law_ 2435 = .ok (.iconst 0, 1) := by decide +kernel
theorem dL_law__2436 : decode cL_law_ 2436 = .ok (.ireturn, 1) := by decide +kernel
theorem dL_law__2437 : decode cL_law_ 2437 = .ok (.iload 5, 2) := by decide +kernel
theorem dL_law__2439 : decode cL_law_ 2439 = .ok (.ifCond .ne 15, 3) := by decide +kernel
theorem dL_law__2442 : decode cL_law_ 2442 = .ok (.aload_n 3, 1) := by decide +kernel
theorem dL_law__2443 : decode cL_law_ 2443 = .ok (.iconst 0, 1) := by decide +kernel
theorem dL_law__2444 : decode cL_law_ 2444 = .ok (.laload, 1) := by decide +kernel
