theorem dL_law__2045 : decode cL_law_ 2045 = .ok (.iload 4, 2) := by decide +kernel
theorem dL_law__2047 : decode cL_law_ 2047 = .ok (.iconst 1, 1) := by decide +kernel
theorem dL_law__2048 : decode cL_law_ 2048 = .ok (.iadd, 1) := by decide +kernel
theorem dL_law__2049 : decode cL_law_ 2049 = .ok (.iaload, 1) := by decide +kernel
theorem dL_law__2050 : decode cL_law_ 2050 = .ok (.aload_n 0, 1) := by decide +kernel
theorem dL_law__2051 : decode cL_law_ 2051 = .ok (.iload 4, 2) := by decide +kernel
theorem dL_law__2053 : decode cL_law_ 2053 = .ok (.iconst 2, 1) := by decide +kernel
theorem dL_law__2054 : decode cL_law_ 2054 = .ok (.iadd, 1) := by decide +kernel
theorem dL_law__2055 : decode cL_law_ 2055 = .ok (.iaload, 1) := by decide +kernel
theorem dL_law__2056 : decode cL_law_ 2056 = .ok (.aload_n 0, 1) := by decide +kernel
theorem dL_law__2057 : decode cL_law_ 2057 = .ok (.iload 4, 2) := by decide +kernel
theorem dL_law__2059 : decode cL_law_ 2059 = .ok (.iconst 3, 1) := by decide +kernel
theorem dL_law__2060 : decode cL_law_ 2060 = .ok (.iadd, 1) := by decide +kernel
theorem dL_law__2061 : decode cL_law_ 2061 = .ok (.iaload, 1) := by decide +kernel
theorem dL_law__2062 : decode cL_law_ 2062 = .ok (.aload_n 3, 1) := by decide +kernel
theorem dL_law__2063 : decode cL_law_ 2063 = .ok (.invokestatic 219, 3) := by decide +kernel
theorem dL_law__2066 : decode cL_law_ 2066 = .ok (.istore 5, 2) := by decide +kernel
theorem dL_law__2068 : decode cL_law_ 2068 = .ok (.aload_n 2, 1) := by decide +kernel
theorem dL_law__2069 : decode cL_law_ 2069 = .ok (.aload_n 0, 1) := by decide +kernel
theorem dL_law__2070 : decode cL_law_ 2070 = .ok (.iload 4, 2) := by decide +kernel
theorem dL_law__2072 : decode cL_law_ 2072 = .ok (.iconst 1, 1) := by decide +kernel
theorem dL_law__2073 : decode cL_law_ 2073 = .ok (.iadd, 1) := by decide +kernel
theorem dL_law__2074 : decode cL_law_ 2074 = .ok (.iaload, 1) := by decide +kernel
theorem dL_law__2075 : decode cL_law_ 2075 = .ok (.aload_n 0, 1) := by decide +kernel
theorem dL_law__2076 : decode cL_law_ 2076 = .ok (.iload 4, 2) := by decide +kernel
theorem dL_law__2078 : decode cL_law_ 2078 = .ok (.iconst 2, 1) := by decide +kernel
theorem dL_law__2079 : decode cL_law_ 2079 = .ok (.iadd, 1) := by decide +kernel
theorem dL_law__2080 : decode cL_law_ 2080 = .ok (.iaload, 1) := by decide +kernel
theorem dL_law__2081 : decode cL_law_ 2081 = .ok (.aload_n 0, 1) := by decide +kernel
theorem dL_law__2082 : decode cL_law_ 2082 = .ok (.iload 4, 2) := by decide +kernel
theorem dL_law__2084 : decode cL_law_ 2084 = .ok (.iconst 3, 1) := by decide +kernel
theorem dL_law__2085 : decode cL_law_ 2085 = .ok (.iadd, 1) := by decide +kernel
theorem dL_law__2086 : decode cL_law_ 2086 = .ok (.iaload, 1) := by decide +kernel
theorem dL_law__2087 : decode cL_law_ 2087 = .ok (.invokevirtual 221, 3) := by decide +kernel
theorem dL_law__2090 : decode cL_law_ 2090 = .ok (.istore 6, 2) := by decide +kernel
theorem dL_law__2092 : decode cL_law_ 2092 = .ok (.aload_n 2, 1) := by decide +kernel
theorem dL_law__2093 : decode cL_law_ 2093 = .ok (.invokevirtual 134, 3) := by decide +kernel
theorem dL_law__2096 : decode cL_law_ 2096 = .ok (.iload 5, 2) := by decide +kernel
theorem dL_law__2098 : decode cL_law_ 2098 = .ok (.if_icmp .eq 5, 3) := by decide +kernel
theorem dL_law__2101 : decode cL_law_ 2101 = .ok (.iconst 0, 1) := by decide +kernel
theorem dL_law__2102 : decode cL_law_ 2102 = .ok (.ireturn, 1) := by decide +kernel
theorem dL_law__2103 : decode cL_law_ 2103 = .ok (.iload 5, 2) := by decide +kernel
theorem dL_law__2105 : decode cL_law_ 2105 = .ok (.ifCond .ne 15, 3) := by decide +kernel
theorem dL_law__2108 : decode cL_law_ 2108 = .ok (.aload_n 3, 1) := by decide +kernel
theorem dL_law__2109 : decode cL_law_ 2109 = .ok (.iconst 0, 1) := by decide +kernel
theorem dL_law__2110 : decode cL_law_ 2110 = .ok (.laload, 1) := by decide +kernel
theorem dL_law__2111 : decode cL_law_ 2111 = .ok (.iload 6, 2) := by decide +kernel
theorem dL_law__2113 : decode cL_law_ 2113 = .ok (.i2l, 1) := by decide +kernel
theorem dL_law__2114 : decode cL_law_ 2114 = .ok (.lcmp, 1) := by decide +kernel
theorem dL_law__2115 : decode cL_law_ 2115 = .ok (.ifCond .eq 5, 3) := by decide +kernel
theorem dL_law__2118 : decode cL_law_ 2118 = .ok (.iconst 0, 1) := by decide +kernel
theorem dL_law__2119 : decode cL_law_ 2119 = .ok (.ireturn, 1) := by decide +kernel
theorem dL_law__2120 : decode cL_law_ 2120 = .ok (.goto 687, 3) := by decide +kernel
theorem dL_law__2123 : decode cL_law_ 2123 = .ok (.aload_n 1, 1) := by decide +kernel
theorem dL_law__2124 : decode cL_law_ 2124 = .ok (.aload_n 0, 1) := by decide +kernel
theorem dL_law__2125 : decode cL_law_ 2125 = .ok (.iload 4, 2) := by decide +kernel
theorem dL_law__2127 : decode cL_law_ 2127 = .ok (.iconst 1, 1) := by decide +kernel
theorem dL_law__2128 : decode cL_law_ 2128 = .ok (.iadd, 1) := by decide +kernel
theorem dL_law__2129 : decode cL_law_ 2129 = .ok (.iaload, 1) := by decide +kernel
theorem dL_law__2130 : decode cL_law_ 2130 = .ok (.aload_n 0, 1) := by decide +kernel
theorem dL_law__2131 : decode cL_law_ 2131 = .ok (.iload 4, 2) := by decide +kernel
theorem dL_law__2133 : decode cL_law_ 2133 = .ok (.iconst 2, 1) := by decide +kernel
theorem dL_law__2134 : decode cL_law_ 2134 = .ok (.iadd, 1) := by decide +kernel
theorem dL_law__2135 : decode cL_law_ 2135 = .ok (.iaload, 1) := by decide +kernel
theorem dL_law__2136 : decode cL_law_ 2136 = .ok (.aload_n 3, 1) := by decide +kernel
theorem dL_law__2137 : decode cL_law_ 2137 = .ok (.invokestatic 222, 3) := by decide +kernel
theorem dL_law__2140 : decode cL_law_ 2140 = .ok (.istore 5, 2) := by decide +kernel
theorem dL_law__2142 : decode cL_law_ 2142 = .ok (.aload_n 2, 1) := by decide +kernel
theorem dL_law__2143 : decode cL_law_ 2143 = .ok (.aload_n 0, 1) := by decide +kernel
theorem dL_law__2144 : decode cL_law_ 2144 = .ok (.iload 4, 2) := by decide +kernel
theorem dL_law__2146 : decode cL_law_ 2146 = .ok (.iconst 1, 1) := by decide +kernel
theorem dL_law__2147 : decode cL_law_ 2147 = .ok (.iadd, 1) := by decide +kernel
theorem dL_law__2148 : decode cL_law_ 2148 = .ok (.iaload, 1) := by decide +kernel
theorem dL_law__2149 : decode cL_law_ 2149 = .ok (.aload_n 0, 1) := by decide +kernel
theorem dL_law__2150 : decode cL_law_ 2150 = .ok (.iload 4, 2) := by decide +kernel
theorem dL_law__2152 : decode cL_law_ 2152 = .ok (.iconst 2, 1) := by decide +kernel
theorem dL_law__2153 : decode cL_law_ 2153 = .ok (.iadd, 1) := by decide +kernel
theorem dL_law__2154 : decode cL_law_ 2154 = .ok (.iaload, 1) := by decide +kernel
theorem dL_law__2155 : decode cL_law_ 2155 = .ok (.invokevirtual 224, 3) := by decide +kernel
theorem dL_law__2158 : decode cL_law_ 2158 = .ok (.istore 6, 2) := by decide +kernel
theorem dL_law__2160 : decode cL_law_ 2160 = .ok (.aload_n 2, 1) := by decide +kernel
theorem dL_law__2161 : decode cL_law_ 2161 = .ok (.invokevirtual 134, 3) := by decide +kernel
theorem dL_law__2164 : decode cL_law_ 2164 = .ok (.iload 5, 2) := by decide +kernel
theorem dL_law__2166 : decode cL_law_ 2166 = .ok (.if_icmp .eq 5, 3) := by decide +kernel
theorem dL_law__2169 : decode cL_law_ 2169 = .ok (.iconst 0, 1) := by decide +kernel
theorem dL_law__2170 : decode cL_law_ 2170 = .ok (.ireturn, 1) := by decide +kernel
theorem dL_law__2171 : decode cL_law_ 2171 = .ok (.iload 5, 2) := by decide +kernel
theorem dL_law__2173 : decode cL_law_ 2173 = .ok (.ifCond .ne 15, 3) := by decide +kernel
theorem dL_law__2176 : decode cL_law_ 2176 = .ok (.aload_n 3, 1) := by decide +kernel
theorem dL_law__2177 : decode cL_law_ 2177 = .ok (.iconst 0, 1) := by decide +kernel
theorem dL_law__2178 : decode cL_law_ 2178 = .ok (.laload, 1) := by decide +kernel
theorem dL_law__2179 : decode cL_law_ 2179 = .ok (.iload 6, 2) := by decide +kernel
theorem dL_law__2181 : decode cL_law_ 2181 = .ok (.i2l, 1) := by decide +kernel
theorem dL_law__2182 : decode cL_law_ 2182 = .ok (.lcmp, 1) := by decide +kernel
theorem dL_law__2183 : decode cL_law_ 2183 = .ok (.ifCond .eq 5, 3) := by decide +kernel
theorem dL_law__2186 : decode cL_law_ 2186 = .ok (.iconst 0, 1) := by decide +kernel
theorem dL_law__2187 : decode cL_law_ 2187 = .ok (.ireturn, 1) := by decide +kernel
theorem dL_law__2188 : decode cL_law_ 2188 = .ok (.goto 619, 3) := by decide +kernel
theorem dL_law__2191 : decode cL_law_ 2191 = .ok (.aload_n 1, 1) := by decide +kernel
theorem dL_law__2192 : decode cL_law_ 2192 = .ok (.aload_n 0, 1) := by decide +kernel
theorem dL_law__2193 : decode cL_law_ 2193 = .ok (.iload 4, 2) := by decide +kernel
theorem dL_law__2195 : decode cL_law_ 2195 = .ok (.iconst 1, 1) := by decide +kernel
theorem dL_law__2196 : decode cL_law_ 2196 = .ok (.iadd, 1) := by decide +kernel
theorem dL_law__2197 : decode cL_law_ 2197 = .ok (.iaload, 1) := by decide +kernel
theorem dL_law__2198 : decode cL_law_ 2198 = .ok (.aload_n 0, 1) := by decide +kernel
theorem dL_law__2199 : decode cL_law_ 2199 = .ok (.iload 4, 2) := by decide +kernel
theorem dL_law__2201 : decode cL_law_ 2201 = .ok (.iconst 2, 1) := by decide +kernel
theorem dL_law__2202 : decode cL_law_ 2202 = .ok (.iadd, 1) := by decide +kernel
theorem dL_law__2203 : decode cL_law_ 2203 = .ok (.iaload, 1) := by decide +kernel
theorem dL_law__2204 : decode cL_law_ 2204 = .ok (.aload_n 3, 1) := by decide +kernel
theorem dL_law__2205 : decode cL_law_ 2205 = .ok (.invokestatic 225, 3) := by decide +kernel
theorem dL_law__2208 : decode cL_law_ 2208 = .ok (.istore 5, 2) := by decide +kernel
theorem dL_law__2210 : decode cL_law_ 2210 = .ok (.aload_n 2, 1) := by decide +kernel
theorem dL_law__2211 : decode cL_law_ 2211 = .ok (.aload_n 0, 1) := by decide +kernel
theorem dL_law__2212 : decode cL_law_ 2212 = .ok (.iload 4, 2) := by decide +kernel
theorem dL_law__2214 : decode cL_law_ 2214 = .ok (.iconst 1, 1) := by decide +kernel
theorem dL_law__2215 : decode cL_law_ 2215 = .ok (.iadd, 1) := by decide +kernel
theorem dL_law__2216 : decode cL_law_ 2216 = .ok (.iaload, 1) := by decide +kernel
theorem dL_law__2217 : decode cL_law_ 2217 = .ok (.aload_n 0, 1) := by decide +kernel
theorem dL_law__2218 : decode cL_law_ 2218 = .ok (.iload 4, 2) := by decide +kernel
theorem dL_law__2220 : decode cL_law_ 2220 = .ok (.iconst 2, 1) := by decide +kernel
theorem dL_law__2221 : decode cL_law_ 2221 = .ok (.iadd, 1) := by decide +kernel
theorem dL_law__2222 : decode cL_law_ 2222 = .ok (.iaload, 1) := by decide +kernel
theorem dL_law__2223 : decode cL_law_ 2223 = .ok (.invokevirtual 227, 3) := by decide +kernel
theorem dL_law__2226 : decode cL_law_ 2226 = .ok (.istore 6, 2) := by decide +kernel
theorem dL_law__2228 : decode cL_law_ 2228 = .ok (.aload_n 2, 1) := by decide +kernel
theorem dL_law__2229 : decode cL_law_ 2229 = .ok (.invokevirtual 134, 3) := by decide +kernel
theorem dL_law__2232 : decode cL_law_ 2232 = .ok (.iload 5, 2) := by decide +kernel
theorem dL_law__2234 : decode cL_law_ 2234 = .ok (.if_icmp .eq 5, 3) := by decide +kernel
theorem dL_law__2237 : decode cL_law_ 2237 = .ok (.iconst 0, 1) := by decide +kernel
theorem dL_law__2238 : decode cL_law_ 2238 = .ok (.ireturn, 1) := by decide +kernel
theorem dL_law__2239 : decode cL_law_ 2239 = .ok (.iload 5, 2) := by decide +kernel
theorem dL_law__2241 : decode cL_law_ 2241 = .ok (.ifCond .ne 15, 3) := by decide +kernel
theorem dL_law__2244 : decode cL_law_ 2244 = .ok (.aload_n 3, 1) := by decide +kernel
theorem dL_law__2245 : decode cL_law_ 2245 = .ok (.iconst 0, 1) := by decide +kernel
theorem dL_law__2246 : decode cL_law_ 2246 = .ok (.laload, 1) := by decide +kernel
theorem dL_law__2247 : decode cL_law_ 2247 = .ok (.iload 6, 2) := by decide +kernel
theorem dL_law__2249 : decode cL_law_ 2249 = .ok (.i2l, 1) := by decide +kernel
theorem dL_law__2250 : decode cL_law_ 2250 = .ok (.lcmp, 1) := by decide +kernel
theorem dL_law__2251 : decode cL_law_ 2251 = .ok (.ifCond .eq 5, 3) := by decide +kernel
theorem dL_law__2254 : decode cL_law_ 2254 = .ok (.iconst 0, 1) := by decide +kernel
theorem dL_law__2255 : decode cL_law_ 2255 = .ok (.ireturn, 1) := by decide +kernel
theorem dL_law__2256 : decode cL_law_ 2256 = .ok (.goto 551, 3) := by decide +kernel
theorem dL_law__2259 : decode cL_law_ 2259 = .ok (.aload_n 1, 1) := by decide +kernel
theorem dL_law__2260 : decode cL_law_ 2260 = .ok (.aload_n 0, 1) := by decide +kernel
theorem dL_law__2261 : decode cL_law_ 2261 = .ok (.iload 4, 2) := by decide +kernel
theorem dL_law__2263 : decode cL_law_ 2263 = .ok (.iconst 1, 1) := by decide +kernel
theorem dL_law__2264 : decode cL_law_ 2264 = .ok (.iadd, 1) := by decide +kernel
theorem dL_law__2265 : decode cL_law_ 2265 = .ok (.iaload, 1) := by decide +kernel
theorem dL_law__2266 : decode cL_law_ 2266 = .ok (.aload_n 3, 1) := by decide +kernel
theorem dL_law__2267 : decode cL_law_ 2267 = .ok (.invokestatic 228, 3) := by decide +kernel
theorem dL_law__2270 : decode cL_law_ 2270 = .ok (.istore 5, 2) := by decide +kernel
theorem dL_law__2272 : decode cL_law_ 2272 = .ok (.aload_n 2, 1) := by decide +kernel
theorem dL_law__2273 : decode cL_law_ 2273 = .ok (.aload_n 0, 1) := by decide +kernel
theorem dL_law__2274 : decode cL_law_ 2274 = .ok (.iload 4, 2) := by decide +kernel
theorem dL_law__2276 : decode cL_law_ 2276 = .ok (.iconst 1, 1) := by decide +kernel
theorem dL_law__2277 : decode cL_law_ 2277 = .ok (.iadd, 1) := by decide +kernel
theorem dL_law__2278 : decode cL_law_ 2278 = .ok (.iaload, 1) := by decide +kernel
theorem dL_law__2279 : decode cL_law_ 2279 = .ok (.invokevirtual 230, 3) := by decide +kernel
theorem dL_law__2282 : decode cL_law_ 2282 = .ok (.istore 6, 2) := by decide +kernel
theorem dL_law__2284 : decode cL_law_ 2284 = .ok (.aload_n 2, 1) := by decide +kernel
theorem dL_law__2285 : decode cL_law_ 2285 = .ok (.invokevirtual 134, 3) := by decide +kernel
theorem dL_law__2288 : decode cL_law_ 2288 = .ok (.iload 5, 2) := by decide +kernel
theorem dL_law__2290 : decode cL_law_ 2290 = .ok (.if_icmp .eq 5, 3) := by decide +kernel
theorem dL_law__2293 : decode cL_law_ 2293 = .ok (.iconst 0, 1) := by decide +kernel
theorem dL_law__2294 : decode cL_law_ 2294 = .ok (.ireturn, 1) := by decide +kernel
theorem dL_law__2295 : decode cL_law_ 2295 = .ok (.iload 5, 2) := by decide +kernel
theorem dL_law__2297 : decode cL_law_ 2297 = .ok (.ifCond .ne 15, 3) := by decide +kernel
theorem dL_law__2300 : decode cL_law_ 2300 = .ok (.aload_n 3, 1) := by decide +kernel
theorem dL_law__2301 : decode cL_law_ 2301 = .ok (.iconst 0, 1) := by decide +kernel
theorem dL_law__2302 : decode cL_law_ 2302 = .ok (.laload, 1) := by decide +kernel
theorem dL_law__2303 : decode cL_law_ 2303 = .ok (.iload 6, 2) := by decide +kernel
theorem dL_law__2305 : decode cL_law_ 2305 = .ok (.i2l, 1) := by decide +kernel
theorem dL_law__2306 : decode cL_law_ 2306 = .ok (.lcmp, 1) := by decide +kernel
theorem dL_law__2307 : decode cL_law_ 2307 = .ok (.ifCond .eq 5, 3) := by decide +kernel
theorem dL_law__2310 : decode cL_law_ 2310 = .ok (.iconst 0, 1) := by decide +kernel
theorem dL_law__2311 : decode cL_law_ 2311 = .ok (.ireturn, 1) := by decide +kernel
theorem dL_law__2312 : decode cL_law_ 2312 = .ok (.goto 495, 3) := by decide +kernel
theorem dL_law__2315 : decode cL_law_ 2315 = .ok (.aload_n 1, 1) := by decide +kernel
theorem dL_law__2316 : decode cL_law_ 2316 = .ok (.aload_n 0, 1) := by decide +kernel
theorem dL_law__2317 : decode cL_law_ 2317 = .ok (.iload 4, 2) := by decide +kernel
theorem dL_law__2319 : decode cL_law_ 2319 = .ok (.iconst 1, 1) := by decide +kernel
theorem dL_law__2320 : decode cL_law_ 2320 = .ok (.iadd, 1) := by decide +kernel
theorem dL_law__2321 : decode cL_law_ 2321 = .ok (.iaload, 1) := by decide +kernel
theorem dL_law__2322 : decode cL_law_ 2322 = .ok (.aload_n 3, 1) := by decide +kernel
theorem dL_law__2323 : decode cL_law_ 2323 = .ok (.invokestatic 231, 3) := by decide +kernel
theorem dL_law__2326 : decode cL_law_ 2326 = .ok (.istore 5, 2) := by decide +kernel
theorem dL_law__2328 : decode cL_law_ 2328 = .ok (.aload_n 2, 1) := by decide +kernel
theorem dL_law__2329 : decode cL_law_ 2329 = .ok (.aload_n 0, 1) := by decide +kernel
theorem dL_law__2330 : decode cL_law_ 2330 = .ok (.iload 4, 2) := by decide +kernel
theorem dL_law__2332 : decode cL_law_ 2332 = .ok (.iconst 1, 1) := by decide +kernel
theorem dL_law__2333 : decode cL_law_ 2333 = .ok (.iadd, 1) := by decide +kernel
theorem dL_law__2334 : decode cL_law_ 2334 = .ok (.iaload, 1) := by decide +kernel
theorem dL_law__2335 : decode cL_law_ 2335 = .ok (.invokevirtual 233, 3) := by decide +kernel
theorem dL_law__2338 : decode cL_law_ 2338 = .ok (.istore 6, 2) := by decide +kernel
theorem dL_law__2340 : decode cL_law_ 2340 = .ok (.aload_n 2, 1) := by decide +kernel
theorem dL_law__2341 : decode cL_law_ 2341 = .ok (.invokevirtual 134, 3) := by decide +kernel
theorem dL_law__2344 : decode cL_law_ 2344 = .ok (.iload 5, 2) := by decide +kernel
theorem dL_law__2346 : decode cL_law_ 2346 = .ok (.if_icmp .eq 5, 3) := by decide +kernel
theorem dL_law__2349 : decode cL_law_ 2349 = .ok (.iconst 0, 1) := by decide +kernel
theorem dL_law__2350 : decode cL_law_ 2350 = .ok (.ireturn, 1) := by decide +kernel
theorem dL_law__2351 : decode cL_law_ 2351 = .ok (.iload 5, 2) := by decide +kernel
theorem dL_law__2353 : decode cL_law_ 2353 = .ok (.ifCond .ne 15, 3) := by decide +kernel
theorem dL_law__2356 : decode cL_law_ 2356 = .ok (.aload_n 3, 1) := by decide +kernel
theorem dL_law__2357 : decode cL_law_ 2357 = .ok (.iconst 0, 1) := by decide +kernel
theorem dL_law__2358 : decode cL_law_ 2358 = .ok (.laload, 1) := by decide +kernel
theorem dL_law__2359 : decode cL_law_ 2359 = .ok (.iload 6, 2) := by decide +kernel
theorem dL_law__2361 : decode cL_law_ 2361 = .ok (.i2l, 1) := by decide +kernel
theorem dL_law__2362 : decode cL_law_ 2362 = .ok (.lcmp, 1) := by decide +kernel
theorem dL_law__2363 : decode cL_law_ 2363 = .ok (.ifCond .eq 5, 3) := by decide +kernel
theorem dL_law__2366 : decode cL_law_ 2366 = .ok (.iconst 0, 1) := by decide +kernel
theorem dL_law__2367 : decode cL_law_ 2367 = .ok (.ireturn, 1) := by decide +kernel
theorem dL_law__2368 : decode cL_law_ 2368 = .ok (.goto 439, 3) := by decide +kernel
theorem dL_law__2371 : decode cL_law_ 2371 = .ok (.aload_n 1, 1) := by decide +kernel
theorem dL_law__2372 : decode cL_law_ 2372 = .ok (.aload_n 0, 1) := by decide +kernel
theorem dL_law__2373 : decode cL_law_ 2373 = .ok (.iload 4, 2) := by decide +kernel
theorem dL_law__2375 : decode cL_law_ 2375 = .ok (.iconst 1, 1) := by decide +kernel
theorem dL_law__2376 : decode cL_law_ 2376 = .ok (.iadd, 1) := by decide +kernel
theorem dL_law__2377 : decode cL_law_ 2377 = .ok (.iaload, 1) := by decide +kernel
theorem dL_law__2378 : decode cL_law_ 2378 = .ok (.aload_n 3, 1) := by decide +kernel
theorem dL_law__2379 : decode cL_law_ 2379 = .ok (.invokestatic 234, 3) := by decide +kernel
theorem dL_law__2382 : decode cL_law_ 2382 = .ok (.istore 5, 2) := by decide +kernel
theorem dL_law__2384 : decode cL_law_ 2384 = .ok (.aload_n 2, 1) := by decide +kernel
theorem dL_law__2385 : decode cL_law_ 2385 = .ok (.aload_n 0, 1) := by decide +kernel
theorem dL_law__2386 : decode cL_law_ 2386 = .ok (.iload 4, 2) := by decide +kernel
theorem dL_law__2388 : decode cL_law_ 2388 = .ok (.iconst 1, 1) := by decide +kernel
theorem dL_law__2389 : decode cL_law_ 2389 = .ok (.iadd, 1) := by decide +kernel
theorem dL_law__2390 : decode cL_law_ 2390 = .ok (.iaload, 1) := by decide +kernel
theorem dL_law__2391 : decode cL_law_ 2391 = .ok (.invokevirtual 236, 3) := by decide +kernel
theorem dL_law__2394 : decode cL_law_ 2394 = .ok (.istore 6, 2) := by decide +kernel
theorem dL_law__2396 : decode cL_law_ 2396 = .ok (.aload_n 2, 1) := by decide +kernel
theorem dL_law__2397 : decode cL_law_ 2397 = .ok (.invokevirtual 134, 3) := by decide +kernel
theorem dL_law__2400 : decode cL_law_ 2400 = .ok (.iload 5, 2) := by decide +kernel
theorem dL_law__2402 : decode cL_law_ 2402 = .ok (.if_icmp .eq 5, 3) := by decide +kernel
theorem dL_law__2405 : decode cL_law_ 2405 = .ok (.iconst 0, 1) := by decide +kernel
theorem dL_law__2406 : decode cL_law_ 2406 = .ok (.ireturn, 1) := by decide +kernel
theorem dL_law__2407 : decode cL_law_ 2407 = .ok (.iload 5, 2) := by decide +kernel
theorem dL_law__2409 : decode cL_law_ 2409 = .ok (.ifCond .ne 15, 3) := by decide +kernel
theorem dL_law__2412 : decode cL_law_ 2412 = .ok (.aload_n 3, 1) := by decide +kernel
theorem dL_law__2413 : decode cL_law_ 2413 = .ok (.iconst 0, 1) := by decide +kernel
theorem dL_law__2414 : decode cL_law_ 2414 = .ok (.laload, 1) := by decide +kernel
theorem dL_law__2415 : decode cL_law_ 2415 = .ok (.iload 6, 2) := by decide +kernel
theorem dL_law__2417 : decode cL_law_ 2417 = .ok (.i2l, 1) := by decide +kernel
theorem dL_law__2418 : decode cL_law_ 2418 = .ok (.lcmp, 1) := by decide +kernel
theorem dL_law__2419 : decode cL_law_ 2419 = .ok (.ifCond .eq 5, 3) := by decide +kernel
theorem dL_law__2422 : decode cL_law_ 2422 = .ok (.iconst 0, 1) := by decide +kernel
theorem dL_law__2423 : decode cL_law_ 2423 = .ok (.ireturn, 1) := by decide +kernel
theorem dL_law__2424 : decode cL_law_ 2424 = .ok (.goto 383, 3) := by decide +kernel
theorem dL_law__2427 : decode cL_law_ 2427 = .ok (.aload_n 1, 1) := by decide +kernel
theorem dL_law__2428 : decode cL_law_ 2428 = .ok (.aload_n 0, 1) := by decide +kernel
