theorem dL_law_2124 : decode cL_law 2124 = .ok (.ifCond .ne 5, 3) := by decide +kernel
theorem dL_law_2127 : decode cL_law 2127 = .ok (.iconst 0, 1) := by decide +kernel
theorem dL_law_2128 : decode cL_law 2128 = .ok (.ireturn, 1) := by decide +kernel
theorem dL_law_2129 : decode cL_law 2129 = .ok (.goto 541, 3) := by decide +kernel
theorem dL_law_2132 : decode cL_law 2132 = .ok (.aload_n 1, 1) := by decide +kernel
theorem dL_law_2133 : decode cL_law 2133 = .ok (.aload 4, 2) := by decide +kernel
theorem dL_law_2135 : decode cL_law 2135 = .ok (.invokestatic 286, 3) := by decide +kernel
theorem dL_law_2138 : decode cL_law 2138 = .ok (.istore 6, 2) := by decide +kernel
theorem dL_law_2140 : decode cL_law 2140 = .ok (.aload_n 2, 1) := by decide +kernel
theorem dL_law_2141 : decode cL_law 2141 = .ok (.invokevirtual 288, 3) := by decide +kernel
theorem dL_law_2144 : decode cL_law 2144 = .ok (.fstore 7, 2) := by decide +kernel
theorem dL_law_2146 : decode cL_law 2146 = .ok (.aload_n 2, 1) := by decide +kernel
theorem dL_law_2147 : decode cL_law 2147 = .ok (.invokevirtual 154, 3) := by decide +kernel
theorem dL_law_2150 : decode cL_law 2150 = .ok (.iload 6, 2) := by decide +kernel
theorem dL_law_2152 : decode cL_law 2152 = .ok (.if_icmp .eq 5, 3) := by decide +kernel
theorem dL_law_2155 : decode cL_law 2155 = .ok (.iconst 0, 1) := by decide +kernel
theorem dL_law_2156 : decode cL_law 2156 = .ok (.ireturn, 1) := by decide +kernel
theorem dL_law_2157 : decode cL_law 2157 = .ok (.iload 6, 2) := by decide +kernel
theorem dL_law_2159 : decode cL_law 2159 = .ok (.ifCond .ne 36, 3) := by decide +kernel
theorem dL_law_2162 : decode cL_law 2162 = .ok (.aload 4, 2) := by decide +kernel
theorem dL_law_2164 : decode cL_law 2164 = .ok (.iconst 0, 1) := by decide +kernel
theorem dL_law_2165 : decode cL_law 2165 = .ok (.daload, 1) := by decide +kernel
theorem dL_law_2166 : decode cL_law 2166 = .ok (.fload 7, 2) := by decide +kernel
theorem dL_law_2168 : decode cL_law 2168 = .ok (.f2d, 1) := by decide +kernel
theorem dL_law_2169 : decode cL_law 2169 = .ok (.dcmp .l, 1) := by decide +kernel
theorem dL_law_2170 : decode cL_law 2170 = .ok (.ifCond .eq 25, 3) := by decide +kernel
theorem dL_law_2173 : decode cL_law 2173 = .ok (.aload 4, 2) := by decide +kernel
theorem dL_law_2175 : decode cL_law 2175 = .ok (.iconst 0, 1) := by decide +kernel
theorem dL_law_2176 : decode cL_law 2176 = .ok (.daload, 1) := by decide +kernel
theorem dL_law_2177 : decode cL_law 2177 = .ok (.aload 4, 2) := by decide +kernel
theorem dL_law_2179 : decode cL_law 2179 = .ok (.iconst 0, 1) := by decide +kernel
theorem dL_law_2180 : decode cL_law 2180 = .ok (.daload, 1) := by decide +kernel
theorem dL_law_2181 : decode cL_law 2181 = .ok (.dcmp .l, 1) := by decide +kernel
theorem dL_law_2182 : decode cL_law 2182 = .ok (.ifCond .eq 11, 3) := by decide +kernel
theorem dL_law_2185 : decode cL_law 2185 = .ok (.fload 7, 2) := by decide +kernel
theorem dL_law_2187 : decode cL_law 2187 = .ok (.fload 7, 2) := by decide +kernel
theorem dL_law_2189 : decode cL_law 2189 = .ok (.fcmp .l, 1) := by decide +kernel
theorem dL_law_2190 : decode cL_law 2190 = .ok (.ifCond .ne 5, 3) := by decide +kernel
theorem dL_law_2193 : decode cL_law 2193 = .ok (.iconst 0, 1) := by decide +kernel
theorem dL_law_2194 : decode cL_law 2194 = .ok (.ireturn, 1) := by decide +kernel
theorem dL_law_2195 : decode cL_law 2195 = .ok (.goto 475, 3) := by decide +kernel
theorem dL_law_2198 : decode cL_law 2198 = .ok (.aload_n 1, 1) := by decide +kernel
theorem dL_law_2199 : decode cL_law 2199 = .ok (.aload_n 0, 1) := by decide +kernel
theorem dL_law_2200 : decode cL_law 2200 = .ok (.iload 5, 2) := by decide +kernel
theorem dL_law_2202 : decode cL_law 2202 = .ok (.iconst 1, 1) := by decide +kernel
theorem dL_law_2203 : decode cL_law 2203 = .ok (.iadd, 1) := by decide +kernel
theorem dL_law_2204 : decode cL_law 2204 = .ok (.iaload, 1) := by decide +kernel
theorem dL_law_2205 : decode cL_law 2205 = .ok (.aload_n 3, 1) := by decide +kernel
theorem dL_law_2206 : decode cL_law 2206 = .ok (.invokestatic 289, 3) := by decide +kernel
theorem dL_law_2209 : decode cL_law 2209 = .ok (.istore 6, 2) := by decide +kernel
theorem dL_law_2211 : decode cL_law 2211 = .ok (.aload_n 2, 1) := by decide +kernel
theorem dL_law_2212 : decode cL_law 2212 = .ok (.aload_n 0, 1) := by decide +kernel
theorem dL_law_2213 : decode cL_law 2213 = .ok (.iload 5, 2) := by decide +kernel
theorem dL_law_2215 : decode cL_law 2215 = .ok (.iconst 1, 1) := by decide +kernel
theorem dL_law_2216 : decode cL_law 2216 = .ok (.iadd, 1) := by decide +kernel
theorem dL_law_2217 : decode cL_law 2217 = .ok (.iaload, 1) := by decide +kernel
theorem dL_law_2218 : decode cL_law 2218 = .ok (.invokevirtual 291, 3) := by decide +kernel
theorem dL_law_2221 : decode cL_law 2221 = .ok (.istore 7, 2) := by decide +kernel
theorem dL_law_2223 : decode cL_law 2223 = .ok (.aload_n 2, 1) := by decide +kernel
theorem dL_law_2224 : decode cL_law 2224 = .ok (.invokevirtual 154, 3) := by decide +kernel
theorem dL_law_2227 : decode cL_law 2227 = .ok (.iload 6, 2) := by decide +kernel
theorem dL_law_2229 : decode cL_law 2229 = .ok (.if_icmp .eq 5, 3) := by decide +kernel
theorem dL_law_2232 : decode cL_law 2232 = .ok (.iconst 0, 1) := by decide +kernel
theorem dL_law_2233 : decode cL_law 2233 = .ok (.ireturn, 1) := by decide +kernel
theorem dL_law_2234 : decode cL_law 2234 = .ok (.iload 6, 2) := by decide +kernel
theorem dL_law_2236 : decode cL_law 2236 = .ok (.ifCond .ne 15, 3) := by decide +kernel
theorem dL_law_2239 : decode cL_law 2239 = .ok (.aload_n 3, 1) := by decide +kernel
theorem dL_law_2240 : decode cL_law 2240 = .ok (.iconst 0, 1) := by decide +kernel
theorem dL_law_2241 : decode cL_law 2241 = .ok (.laload, 1) := by decide +kernel
theorem dL_law_2242 : decode cL_law 2242 = .ok (.iload 7, 2) := by decide +kernel
theorem dL_law_2244 : decode cL_law 2244 = .ok (.i2l, 1) := by decide +kernel
theorem dL_law_2245 : decode cL_law 2245 = .ok (.lcmp, 1) := by decide +kernel
theorem dL_law_2246 : decode cL_law 2246 = .ok (.ifCond .eq 5, 3) := by decide +kernel
theorem dL_law_2249 : decode cL_law 2249 = .ok (.iconst 0, 1) := by decide +kernel
theorem dL_law_2250 : decode cL_law 2250 = .ok (.ireturn, 1) := by decide +kernel
theorem dL_law_2251 : decode cL_law 2251 = .ok (.goto 419, 3) := by decide +kernel
theorem dL_law_2254 : decode cL_law 2254 = .ok (.aload_n 1, 1) := by decide +kernel
theorem dL_law_2255 : decode cL_law 2255 = .ok (.aload_n 0, 1) := by decide +kernel
theorem dL_law_2256 : decode cL_law 2256 = .ok (.iload 5, 2) := by decide +kernel
theorem dL_law_2258 : decode cL_law 2258 = .ok (.iconst 1, 1) := by decide +kernel
theorem dL_law_2259 : decode cL_law 2259 = .ok (.iadd, 1) := by decide +kernel
theorem dL_law_2260 : decode cL_law 2260 = .ok (.iaload, 1) := by decide +kernel
theorem dL_law_2261 : decode cL_law 2261 = .ok (.aload_n 3, 1) := by decide +kernel
theorem dL_law_2262 : decode cL_law 2262 = .ok (.invokestatic 292, 3) := by decide +kernel
theorem dL_law_2265 : decode cL_law 2265 = .ok (.istore 6, 2) := by decide +kernel
theorem dL_law_2267 : decode cL_law 2267 = .ok (.aload_n 2, 1) := by decide +kernel
theorem dL_law_2268 : decode cL_law 2268 = .ok (.aload_n 0, 1) := by decide +kernel
theorem dL_law_2269 : decode cL_law 2269 = .ok (.iload 5, 2) := by decide +kernel
theorem dL_law_2271 : decode cL_law 2271 = .ok (.iconst 1, 1) := by decide +kernel
theorem dL_law_2272 : decode cL_law 2272 = .ok (.iadd, 1) := by decide +kernel
theorem dL_law_2273 : decode cL_law 2273 = .ok (.iaload, 1) := by decide +kernel
theorem dL_law_2274 : decode cL_law 2274 = .ok (.invokevirtual 294, 3) := by decide +kernel
theorem dL_law_2277 : decode cL_law 2277 = .ok (.istore 7, 2) := by decide +kernel
theorem dL_law_2279 : decode cL_law 2279 = .ok (.aload_n 2, 1) := by decide +kernel
theorem dL_law_2280 : decode cL_law 2280 = .ok (.invokevirtual 154, 3) := by decide +kernel
theorem dL_law_2283 : decode cL_law 2283 = .ok (.iload 6, 2) := by decide +kernel
theorem dL_law_2285 : decode cL_law 2285 = .ok (.if_icmp .eq 5, 3) := by decide +kernel
theorem dL_law_2288 : decode cL_law 2288 = .ok (.iconst 0, 1) := by decide +kernel
theorem dL_law_2289 : decode cL_law 2289 = .ok (.ireturn, 1) := by decide +kernel
theorem dL_law_2290 : decode cL_law 2290 = .ok (.iload 6, 2) := by decide +kernel
theorem dL_law_2292 : decode cL_law 2292 = .ok (.ifCond .ne 15, 3) := by decide +kernel
theorem dL_law_2295 : decode cL_law 2295 = .ok (.aload_n 3, 1) := by decide +kernel
theorem dL_law_2296 : decode cL_law 2296 = .ok (.iconst 0, 1) := by decide +kernel
theorem dL_law_2297 : decode cL_law 2297 = .ok (.laload, 1) := by decide +kernel
theorem dL_law_2298 : decode cL_law 2298 = .ok (.iload 7, 2) := by decide +kernel
theorem dL_law_2300 : decode cL_law 2300 = .ok (.i2l, 1) := by decide +kernel
theorem dL_law_2301 : decode cL_law 2301 = .ok (.lcmp, 1) := by decide +kernel
theorem dL_law_2302 : decode cL_law 2302 = .ok (.ifCond .eq 5, 3) := by decide +kernel
theorem dL_law_2305 : decode cL_law 2305 = .ok (.iconst 0, 1) := by decide +kernel
theorem dL_law_2306 : decode cL_law 2306 = .ok (.ireturn, 1) := by decide +kernel
theorem dL_law_2307 : decode cL_law 2307 = .ok (.goto 363, 3) := by decide +kernel
theorem dL_law_2310 : decode cL_law 2310 = .ok (.aload_n 1, 1) := by decide +kernel
theorem dL_law_2311 : decode cL_law 2311 = .ok (.aload_n 0, 1) := by decide +kernel
theorem dL_law_2312 : decode cL_law 2312 = .ok (.iload 5, 2) := by decide +kernel
theorem dL_law_2314 : decode cL_law 2314 = .ok (.iconst 1, 1) := by decide +kernel
theorem dL_law_2315 : decode cL_law 2315 = .ok (.iadd, 1) := by decide +kernel
theorem dL_law_2316 : decode cL_law 2316 = .ok (.iaload, 1) := by decide +kernel
theorem dL_law_2317 : decode cL_law 2317 = .ok (.aload_n 3, 1) := by decide +kernel
theorem dL_law_2318 : decode cL_law 2318 = .ok (.invokestatic 295, 3) := by decide +kernel
theorem dL_law_2321 : decode cL_law 2321 = .ok (.istore 6, 2) := by decide +kernel
theorem dL_law_2323 : decode cL_law 2323 = .ok (.aload_n 2, 1) := by decide +kernel
theorem dL_law_2324 : decode cL_law 2324 = .ok (.aload_n 0, 1) := by decide +kernel
theorem dL_law_2325 : decode cL_law 2325 = .ok (.iload 5, 2) := by decide +kernel
theorem dL_law_2327 : decode cL_law 2327 = .ok (.iconst 1, 1) := by decide +kernel
theorem dL_law_2328 : decode cL_law 2328 = .ok (.iadd, 1) := by decide +kernel
theorem dL_law_2329 : decode cL_law 2329 = .ok (.iaload, 1) := by decide +kernel
theorem dL_law_2330 : decode cL_law 2330 = .ok (.invokevirtual 297, 3) := by decide +kernel
theorem dL_law_2333 : decode cL_law 2333 = .ok (.istore 7, 2) := by decide +kernel
theorem dL_law_2335 : decode cL_law 2335 = .ok (.aload_n 2, 1) := by decide +kernel
theorem dL_law_2336 : decode cL_law 2336 = .ok (.invokevirtual 154, 3) := by decide +kernel
theorem dL_law_2339 : decode cL_law 2339 = .ok (.iload 6, 2) := by decide +kernel
theorem dL_law_2341 : decode cL_law 2341 = .ok (.if_icmp .eq 5, 3) := by decide +kernel
theorem dL_law_2344 : decode cL_law 2344 = .ok (.iconst 0, 1) := by decide +kernel
theorem dL_law_2345 : decode cL_law 2345 = .ok (.ireturn, 1) := by decide +kernel
theorem dL_law_2346 : decode cL_law 2346 = .ok (.iload 6, 2) := by decide +kernel
theorem dL_law_2348 : decode cL_law 2348 = .ok (.ifCond .ne 15, 3) := by decide +kernel
theorem dL_law_2351 : decode cL_law 2351 = .ok (.aload_n 3, 1) := by decide +kernel
theorem dL_law_2352 : decode cL_law 2352 = .ok (.iconst 0, 1) := by decide +kernel
theorem dL_law_2353 : decode cL_law 2353 = .ok (.laload, 1) := by decide +kernel
theorem dL_law_2354 : decode cL_law 2354 = .ok (.iload 7, 2) := by decide +kernel
theorem dL_law_2356 : decode cL_law 2356 = .ok (.i2l, 1) := by decide +kernel
theorem dL_law_2357 : decode cL_law 2357 = .ok (.lcmp, 1) := by decide +kernel
theorem dL_law_2358 : decode cL_law 2358 = .ok (.ifCond .eq 5, 3) := by decide +kernel
theorem dL_law_2361 : decode cL_law 2361 = .ok (.iconst 0, 1) := by decide +kernel
theorem dL_law_2362 : decode cL_law 2362 = .ok (.ireturn, 1) := by decide +kernel
theorem dL_law_2363 : decode cL_law 2363 = .ok (.goto 307, 3) := by decide +kernel
theorem dL_law_2366 : decode cL_law 2366 = .ok (.aload_n 1, 1) := by decide +kernel
theorem dL_law_2367 : decode cL_law 2367 = .ok (.invokevirtual 298, 3) := by decide +kernel
theorem dL_law_2370 : decode cL_law 2370 = .ok (.aload_n 2, 1) := by decide +kernel
theorem dL_law_2371 : decode cL_law 2371 = .ok (.invokevirtual 302, 3) := by decide +kernel
