/-! decode rows of the law -/
theorem dL_law_2150 : decode cL_law 2150 = .ok (.iconst 1, 1) := by decide +kernel
theorem dL_law_2151 : decode cL_law 2151 = .ok (.iadd, 1) := by decide +kernel
theorem dL_law_2152 : decode cL_law 2152 = .ok (.iaload, 1) := by decide +kernel
theorem dL_law_2153 : decode cL_law 2153 = .ok (.aload_n 0, 1) := by decide +kernel
theorem dL_law_2154 : decode cL_law 2154 = .ok (.iload 5, 2) := by decide +kernel
theorem dL_law_2156 : decode cL_law 2156 = .ok (.iconst 2, 1) := by decide +kernel
theorem dL_law_2157 : decode cL_law 2157 = .ok (.iadd, 1) := by decide +kernel
theorem dL_law_2158 : decode cL_law 2158 = .ok (.iaload, 1) := by decide +kernel
theorem dL_law_2159 : decode cL_law 2159 = .ok (.aload_n 3, 1) := by decide +kernel
theorem dL_law_2160 : decode cL_law 2160 = .ok (.invokestatic 283, 3) := by decide +kernel
theorem dL_law_2163 : decode cL_law 2163 = .ok (.istore 6, 2) := by decide +kernel
theorem dL_law_2165 : decode cL_law 2165 = .ok (.aload_n 2, 1) := by decide +kernel
theorem dL_law_2166 : decode cL_law 2166 = .ok (.aload_n 0, 1) := by decide +kernel
theorem dL_law_2167 : decode cL_law 2167 = .ok (.iload 5, 2) := by decide +kernel
theorem dL_law_2169 : decode cL_law 2169 = .ok (.iconst 1, 1) := by decide +kernel
theorem dL_law_2170 : decode cL_law 2170 = .ok (.iadd, 1) := by decide +kernel
theorem dL_law_2171 : decode cL_law 2171 = .ok (.iaload, 1) := by decide +kernel
theorem dL_law_2172 : decode cL_law 2172 = .ok (.aload_n 0, 1) := by decide +kernel
theorem dL_law_2173 : decode cL_law 2173 = .ok (.iload 5, 2) := by decide +kernel
theorem dL_law_2175 : decode cL_law 2175 = .ok (.iconst 2, 1) := by decide +kernel
theorem dL_law_2176 : decode cL_law 2176 = .ok (.iadd, 1) := by decide +kernel
theorem dL_law_2177 : decode cL_law 2177 = .ok (.iaload, 1) := by decide +kernel
theorem dL_law_2178 : decode cL_law 2178 = .ok (.invokevirtual 285, 3) := by decide +kernel
theorem dL_law_2181 : decode cL_law 2181 = .ok (.istore 7, 2) := by decide +kernel
theorem dL_law_2183 : decode cL_law 2183 = .ok (.aload_n 2, 1) := by decide +kernel
theorem dL_law_2184 : decode cL_law 2184 = .ok (.invokevirtual 179, 3) := by decide +kernel
theorem dL_law_2187 : decode cL_law 2187 = .ok (.iload 6, 2) := by decide +kernel
theorem dL_law_2189 : decode cL_law 2189 = .ok (.if_icmp .eq 5, 3) := by decide +kernel
theorem dL_law_2194 : decode cL_law 2194 = .ok (.iload 6, 2) := by decide +kernel
theorem dL_law_2196 : decode cL_law 2196 = .ok (.ifCond .ne 15, 3) := by decide +kernel
theorem dL_law_2199 : decode cL_law 2199 = .ok (.aload_n 3, 1) := by decide +kernel
theorem dL_law_2200 : decode cL_law 2200 = .ok (.iconst 0, 1) := by decide +kernel
theorem dL_law_2201 : decode cL_law 2201 = .ok (.laload, 1) := by decide +kernel
theorem dL_law_2202 : decode cL_law 2202 = .ok (.iload 7, 2) := by decide +kernel
theorem dL_law_2204 : decode cL_law 2204 = .ok (.i2l, 1) := by decide +kernel
theorem dL_law_2205 : decode cL_law 2205 = .ok (.lcmp, 1) := by decide +kernel
theorem dL_law_2206 : decode cL_law 2206 = .ok (.ifCond .eq 5, 3) := by decide +kernel
theorem dL_law_2211 : decode cL_law 2211 = .ok (.goto 828, 3) := by decide +kernel
theorem dL_law_2214 : decode cL_law 2214 = .ok (.aload_n 1, 1) := by decide +kernel
theorem dL_law_2215 : decode cL_law 2215 = .ok (.invokevirtual 286, 3) := by decide +kernel
theorem dL_law_2218 : decode cL_law 2218 = .ok (.aload_n 2, 1) := by decide +kernel
theorem dL_law_2219 : decode cL_law 2219 = .ok (.invokevirtual 289, 3) := by decide +kernel
theorem dL_law_2222 : decode cL_law 2222 = .ok (.if_icmp .eq 817, 3) := by decide +kernel
theorem dL_law_2227 : decode cL_law 2227 = .ok (.aload_n 1, 1) := by decide +kernel
theorem dL_law_2228 : decode cL_law 2228 = .ok (.invokevirtual 290, 3) := by decide +kernel
theorem dL_law_2231 : decode cL_law 2231 = .ok (.aload_n 2, 1) := by decide +kernel
theorem dL_law_2232 : decode cL_law 2232 = .ok (.invokevirtual 293, 3) := by decide +kernel
theorem dL_law_2235 : decode cL_law 2235 = .ok (.if_icmp .eq 804, 3) := by decide +kernel
theorem dL_law_2240 : decode cL_law 2240 = .ok (.aload_n 1, 1) := by decide +kernel
theorem dL_law_2241 : decode cL_law 2241 = .ok (.invokevirtual 294, 3) := by decide +kernel
theorem dL_law_2244 : decode cL_law 2244 = .ok (.aload_n 2, 1) := by decide +kernel
theorem dL_law_2245 : decode cL_law 2245 = .ok (.invokevirtual 297, 3) := by decide +kernel
theorem dL_law_2248 : decode cL_law 2248 = .ok (.if_icmp .eq 791, 3) := by decide +kernel
theorem dL_law_2253 : decode cL_law 2253 = .ok (.aload_n 1, 1) := by decide +kernel
theorem dL_law_2254 : decode cL_law 2254 = .ok (.invokevirtual 298, 3) := by decide +kernel
theorem dL_law_2257 : decode cL_law 2257 = .ok (.aload_n 2, 1) := by decide +kernel
theorem dL_law_2258 : decode cL_law 2258 = .ok (.invokevirtual 301, 3) := by decide +kernel
theorem dL_law_2261 : decode cL_law 2261 = .ok (.if_icmp .eq 778, 3) := by decide +kernel
theorem dL_law_2266 : decode cL_law 2266 = .ok (.aload_n 1, 1) := by decide +kernel
theorem dL_law_2267 : decode cL_law 2267 = .ok (.invokevirtual 302, 3) := by decide +kernel
theorem dL_law_2270 : decode cL_law 2270 = .ok (.aload_n 2, 1) := by decide +kernel
theorem dL_law_2271 : decode cL_law 2271 = .ok (.invokevirtual 305, 3) := by decide +kernel
theorem dL_law_2274 : decode cL_law 2274 = .ok (.if_icmp .eq 765, 3) := by decide +kernel
theorem dL_law_2279 : decode cL_law 2279 = .ok (.aload_n 1, 1) := by decide +kernel
theorem dL_law_2280 : decode cL_law 2280 = .ok (.invokevirtual 306, 3) := by decide +kernel
theorem dL_law_2283 : decode cL_law 2283 = .ok (.aload_n 2, 1) := by decide +kernel
theorem dL_law_2284 : decode cL_law 2284 = .ok (.invokevirtual 309, 3) := by decide +kernel
theorem dL_law_2287 : decode cL_law 2287 = .ok (.if_icmp .eq 752, 3) := by decide +kernel
theorem dL_law_2292 : decode cL_law 2292 = .ok (.aload_n 1, 1) := by decide +kernel
theorem dL_law_2293 : decode cL_law 2293 = .ok (.invokevirtual 310, 3) := by decide +kernel
theorem dL_law_2296 : decode cL_law 2296 = .ok (.aload_n 2, 1) := by decide +kernel
theorem dL_law_2297 : decode cL_law 2297 = .ok (.invokevirtual 314, 3) := by decide +kernel
theorem dL_law_2300 : decode cL_law 2300 = .ok (.if_icmp .eq 739, 3) := by decide +kernel
theorem dL_law_2305 : decode cL_law 2305 = .ok (.aload_n 1, 1) := by decide +kernel
theorem dL_law_2306 : decode cL_law 2306 = .ok (.invokevirtual 315, 3) := by decide +kernel
theorem dL_law_2309 : decode cL_law 2309 = .ok (.f2d, 1) := by decide +kernel
theorem dL_law_2310 : decode cL_law 2310 = .ok (.dstore 6, 2) := by decide +kernel
theorem dL_law_2312 : decode cL_law 2312 = .ok (.aload_n 2, 1) := by decide +kernel
theorem dL_law_2313 : decode cL_law 2313 = .ok (.invokevirtual 319, 3) := by decide +kernel
theorem dL_law_2316 : decode cL_law 2316 = .ok (.f2d, 1) := by decide +kernel
theorem dL_law_2317 : decode cL_law 2317 = .ok (.dstore 8, 2) := by decide +kernel
theorem dL_law_2319 : decode cL_law 2319 = .ok (.dload 6, 2) := by decide +kernel
theorem dL_law_2321 : decode cL_law 2321 = .ok (.dload 8, 2) := by decide +kernel
theorem dL_law_2323 : decode cL_law 2323 = .ok (.dcmp .l, 1) := by decide +kernel
theorem dL_law_2324 : decode cL_law 2324 = .ok (.ifCond .eq 21, 3) := by decide +kernel
theorem dL_law_2327 : decode cL_law 2327 = .ok (.dload 6, 2) := by decide +kernel
theorem dL_law_2329 : decode cL_law 2329 = .ok (.dload 6, 2) := by decide +kernel
theorem dL_law_2331 : decode cL_law 2331 = .ok (.dcmp .l, 1) := by decide +kernel
theorem dL_law_2332 : decode cL_law 2332 = .ok (.ifCond .eq 11, 3) := by decide +kernel
theorem dL_law_2335 : decode cL_law 2335 = .ok (.dload 8, 2) := by decide +kernel
theorem dL_law_2337 : decode cL_law 2337 = .ok (.dload 8, 2) := by decide +kernel
theorem dL_law_2339 : decode cL_law 2339 = .ok (.dcmp .l, 1) := by decide +kernel
theorem dL_law_2340 : decode cL_law 2340 = .ok (.ifCond .ne 5, 3) := by decide +kernel
theorem dL_law_2345 : decode cL_law 2345 = .ok (.goto 694, 3) := by decide +kernel
theorem dL_law_2348 : decode cL_law 2348 = .ok (.aload_n 1, 1) := by decide +kernel
theorem dL_law_2349 : decode cL_law 2349 = .ok (.aload_n 0, 1) := by decide +kernel
theorem dL_law_2350 : decode cL_law 2350 = .ok (.iload 5, 2) := by decide +kernel
theorem dL_law_2352 : decode cL_law 2352 = .ok (.iconst 1, 1) := by decide +kernel
theorem dL_law_2353 : decode cL_law 2353 = .ok (.iadd, 1) := by decide +kernel
theorem dL_law_2354 : decode cL_law 2354 = .ok (.iaload, 1) := by decide +kernel
theorem dL_law_2355 : decode cL_law 2355 = .ok (.aload_n 3, 1) := by decide +kernel
theorem dL_law_2356 : decode cL_law 2356 = .ok (.invokestatic 320, 3) := by decide +kernel
theorem dL_law_2359 : decode cL_law 2359 = .ok (.istore 6, 2) := by decide +kernel
theorem dL_law_2361 : decode cL_law 2361 = .ok (.aload_n 2, 1) := by decide +kernel
theorem dL_law_2362 : decode cL_law 2362 = .ok (.aload_n 0, 1) := by decide +kernel
theorem dL_law_2363 : decode cL_law 2363 = .ok (.iload 5, 2) := by decide +kernel
theorem dL_law_2365 : decode cL_law 2365 = .ok (.iconst 1, 1) := by decide +kernel
theorem dL_law_2366 : decode cL_law 2366 = .ok (.iadd, 1) := by decide +kernel
theorem dL_law_2367 : decode cL_law 2367 = .ok (.iaload, 1) := by decide +kernel
theorem dL_law_2368 : decode cL_law 2368 = .ok (.invokevirtual 322, 3) := by decide +kernel
theorem dL_law_2371 : decode cL_law 2371 = .ok (.istore 7, 2) := by decide +kernel
theorem dL_law_2373 : decode cL_law 2373 = .ok (.aload_n 2, 1) := by decide +kernel
theorem dL_law_2374 : decode cL_law 2374 = .ok (.invokevirtual 179, 3) := by decide +kernel
theorem dL_law_2377 : decode cL_law 2377 = .ok (.iload 6, 2) := by decide +kernel
theorem dL_law_2379 : decode cL_law 2379 = .ok (.if_icmp .eq 5, 3) := by decide +kernel
theorem dL_law_2384 : decode cL_law 2384 = .ok (.iload 6, 2) := by decide +kernel
theorem dL_law_2386 : decode cL_law 2386 = .ok (.ifCond .ne 15, 3) := by decide +kernel
theorem dL_law_2389 : decode cL_law 2389 = .ok (.aload_n 3, 1) := by decide +kernel
theorem dL_law_2390 : decode cL_law 2390 = .ok (.iconst 0, 1) := by decide +kernel
theorem dL_law_2391 : decode cL_law 2391 = .ok (.laload, 1) := by decide +kernel
theorem dL_law_2392 : decode cL_law 2392 = .ok (.iload 7, 2) := by decide +kernel
theorem dL_law_2394 : decode cL_law 2394 = .ok (.i2l, 1) := by decide +kernel
theorem dL_law_2395 : decode cL_law 2395 = .ok (.lcmp, 1) := by decide +kernel
theorem dL_law_2396 : decode cL_law 2396 = .ok (.ifCond .eq 5, 3) := by decide +kernel
theorem dL_law_2401 : decode cL_law 2401 = .ok (.goto 638, 3) := by decide +kernel
theorem dL_law_2404 : decode cL_law 2404 = .ok (.aload_n 1, 1) := by decide +kernel
theorem dL_law_2405 : decode cL_law 2405 = .ok (.aload_n 0, 1) := by decide +kernel
theorem dL_law_2406 : decode cL_law 2406 = .ok (.iload 5, 2) := by decide +kernel
theorem dL_law_2408 : decode cL_law 2408 = .ok (.iconst 1, 1) := by decide +kernel
theorem dL_law_2409 : decode cL_law 2409 = .ok (.iadd, 1) := by decide +kernel
theorem dL_law_2410 : decode cL_law 2410 = .ok (.iaload, 1) := by decide +kernel
theorem dL_law_2411 : decode cL_law 2411 = .ok (.aload_n 0, 1) := by decide +kernel
theorem dL_law_2412 : decode cL_law 2412 = .ok (.iload 5, 2) := by decide +kernel
theorem dL_law_2414 : decode cL_law 2414 = .ok (.iconst 2, 1) := by decide +kernel
theorem dL_law_2415 : decode cL_law 2415 = .ok (.iadd, 1) := by decide +kernel
theorem dL_law_2416 : decode cL_law 2416 = .ok (.iaload, 1) := by decide +kernel
theorem dL_law_2417 : decode cL_law 2417 = .ok (.aload_n 3, 1) := by decide +kernel
theorem dL_law_2418 : decode cL_law 2418 = .ok (.invokestatic 323, 3) := by decide +kernel
theorem dL_law_2421 : decode cL_law 2421 = .ok (.istore 6, 2) := by decide +kernel
theorem dL_law_2423 : decode cL_law 2423 = .ok (.aload_n 2, 1) := by decide +kernel
theorem dL_law_2424 : decode cL_law 2424 = .ok (.aload_n 0, 1) := by decide +kernel
theorem dL_law_2425 : decode cL_law 2425 = .ok (.iload 5, 2) := by decide +kernel
theorem dL_law_2427 : decode cL_law 2427 = .ok (.iconst 1, 1) := by decide +kernel
theorem dL_law_2428 : decode cL_law 2428 = .ok (.iadd, 1) := by decide +kernel
theorem dL_law_2429 : decode cL_law 2429 = .ok (.iaload, 1) := by decide +kernel
theorem dL_law_2430 : decode cL_law 2430 = .ok (.aload_n 0, 1) := by decide +kernel
theorem dL_law_2431 : decode cL_law 2431 = .ok (.iload 5, 2) := by decide +kernel
theorem dL_law_2433 : decode cL_law 2433 = .ok (.iconst 2, 1) := by decide +kernel
theorem dL_law_2434 : decode cL_law 2434 = .ok (.iadd, 1) := by decide +kernel
theorem dL_law_2435 : decode cL_law 2435 = .ok (.iaload, 1) := by decide +kernel
theorem dL_law_2436 : decode cL_law 2436 = .ok (.invokevirtual 325, 3) := by decide +kernel
theorem dL_law_2439 : decode cL_law 2439 = .ok (.istore 7, 2) := by decide +kernel
theorem dL_law_2441 : decode cL_law 2441 = .ok (.aload_n 2, 1) := by decide +kernel
theorem dL_law_2442 : decode cL_law 2442 = .ok (.invokevirtual 179, 3) := by decide +kernel
theorem dL_law_2445 : decode cL_law 2445 = .ok (.iload 6, 2) := by decide +kernel
theorem dL_law_2447 : decode cL_law 2447 = .ok (.if_icmp .eq 5, 3) := by decide +kernel
theorem dL_law_2452 : decode cL_law 2452 = .ok (.iload 6, 2) := by decide +kernel
theorem dL_law_2454 : decode cL_law 2454 = .ok (.ifCond .ne 15, 3) := by decide +kernel
theorem dL_law_2457 : decode cL_law 2457 = .ok (.aload_n 3, 1) := by decide +kernel
theorem dL_law_2458 : decode cL_law 2458 = .ok (.iconst 0, 1) := by decide +kernel
theorem dL_law_2459 : decode cL_law 2459 = .ok (.laload, 1) := by decide +kernel
theorem dL_law_2460 : decode cL_law 2460 = .ok (.iload 7, 2) := by decide +kernel
theorem dL_law_2462 : decode cL_law 2462 = .ok (.i2l, 1) := by decide +kernel
theorem dL_law_2463 : decode cL_law 2463 = .ok (.lcmp, 1) := by decide +kernel
theorem dL_law_2464 : decode cL_law 2464 = .ok (.ifCond .eq 5, 3) := by decide +kernel
theorem dL_law_2469 : decode cL_law 2469 = .ok (.goto 570, 3) := by decide +kernel
theorem dL_law_2472 : decode cL_law 2472 = .ok (.aload_n 1, 1) := by decide +kernel
theorem dL_law_2473 : decode cL_law 2473 = .ok (.aload_n 0, 1) := by decide +kernel
theorem dL_law_2474 : decode cL_law 2474 = .ok (.iload 5, 2) := by decide +kernel
theorem dL_law_2476 : decode cL_law 2476 = .ok (.iconst 1, 1) := by decide +kernel
theorem dL_law_2477 : decode cL_law 2477 = .ok (.iadd, 1) := by decide +kernel
theorem dL_law_2478 : decode cL_law 2478 = .ok (.iaload, 1) := by decide +kernel
theorem dL_law_2479 : decode cL_law 2479 = .ok (.aload_n 0, 1) := by decide +kernel
theorem dL_law_2480 : decode cL_law 2480 = .ok (.iload 5, 2) := by decide +kernel
theorem dL_law_2482 : decode cL_law 2482 = .ok (.iconst 2, 1) := by decide +kernel
theorem dL_law_2483 : decode cL_law 2483 = .ok (.iadd, 1) := by decide +kernel
theorem dL_law_2484 : decode cL_law 2484 = .ok (.iaload, 1) := by decide +kernel
theorem dL_law_2485 : decode cL_law 2485 = .ok (.aload_n 3, 1) := by decide +kernel
theorem dL_law_2486 : decode cL_law 2486 = .ok (.invokestatic 326, 3) := by decide +kernel
theorem dL_law_2489 : decode cL_law 2489 = .ok (.istore 6, 2) := by decide +kernel
theorem dL_law_2491 : decode cL_law 2491 = .ok (.aload_n 2, 1) := by decide +kernel
theorem dL_law_2492 : decode cL_law 2492 = .ok (.aload_n 0, 1) := by decide +kernel
theorem dL_law_2493 : decode cL_law 2493 = .ok (.iload 5, 2) := by decide +kernel
theorem dL_law_2495 : decode cL_law 2495 = .ok (.iconst 1, 1) := by decide +kernel
theorem dL_law_2496 : decode cL_law 2496 = .ok (.iadd, 1) := by decide +kernel
theorem dL_law_2497 : decode cL_law 2497 = .ok (.iaload, 1) := by decide +kernel
theorem dL_law_2498 : decode cL_law 2498 = .ok (.aload_n 0, 1) := by decide +kernel
theorem dL_law_2499 : decode cL_law 2499 = .ok (.iload 5, 2) := by decide +kernel
theorem dL_law_2501 : decode cL_law 2501 = .ok (.iconst 2, 1) := by decide +kernel
theorem dL_law_2502 : decode cL_law 2502 = .ok (.iadd, 1) := by decide +kernel
theorem dL_law_2503 : decode cL_law 2503 = .ok (.iaload, 1) := by decide +kernel
theorem dL_law_2504 : decode cL_law 2504 = .ok (.invokevirtual 328, 3) := by decide +kernel
theorem dL_law_2507 : decode cL_law 2507 = .ok (.istore 7, 2) := by decide +kernel
theorem dL_law_2509 : decode cL_law 2509 = .ok (.aload_n 2, 1) := by decide +kernel
theorem dL_law_2510 : decode cL_law 2510 = .ok (.invokevirtual 179, 3) := by decide +kernel
theorem dL_law_2513 : decode cL_law 2513 = .ok (.iload 6, 2) := by decide +kernel
theorem dL_law_2515 : decode cL_law 2515 = .ok (.if_icmp .eq 5, 3) := by decide +kernel
theorem dL_law_2520 : decode cL_law 2520 = .ok (.iload 6, 2) := by decide +kernel
theorem dL_law_2522 : decode cL_law 2522 = .ok (.ifCond .ne 15, 3) := by decide +kernel
theorem dL_law_2525 : decode cL_law 2525 = .ok (.aload_n 3, 1) := by decide +kernel
theorem dL_law_2526 : decode cL_law 2526 = .ok (.iconst 0, 1) := by decide +kernel
theorem dL_law_2527 : decode cL_law 2527 = .ok (.laload, 1) := by decide +kernel
theorem dL_law_2528 : decode cL_law 2528 = .ok (.iload 7, 2) := by decide +kernel
theorem dL_law_2530 : decode cL_law 2530 = .ok (.i2l, 1) := by decide +kernel
theorem dL_law_2531 : decode cL_law 2531 = .ok (.lcmp, 1) := by decide +kernel
theorem dL_law_2532 : decode cL_law 2532 = .ok (.ifCond .eq 5, 3) := by decide +kernel
theorem dL_law_2537 : decode cL_law 2537 = .ok (.goto 502, 3) := by decide +kernel
theorem dL_law_2540 : decode cL_law 2540 = .ok (.aload_n 1, 1) := by decide +kernel
theorem dL_law_2541 : decode cL_law 2541 = .ok (.aload_n 0, 1) := by decide +kernel
theorem dL_law_2542 : decode cL_law 2542 = .ok (.iload 5, 2) := by decide +kernel
theorem dL_law_2544 : decode cL_law 2544 = .ok (.iconst 1, 1) := by decide +kernel
theorem dL_law_2545 : decode cL_law 2545 = .ok (.iadd, 1) := by decide +kernel
theorem dL_law_2546 : decode cL_law 2546 = .ok (.iaload, 1) := by decide +kernel
theorem dL_law_2547 : decode cL_law 2547 = .ok (.aload_n 0, 1) := by decide +kernel
theorem dL_law_2548 : decode cL_law 2548 = .ok (.iload 5, 2) := by decide +kernel
theorem dL_law_2550 : decode cL_law 2550 = .ok (.iconst 2, 1) := by decide +kernel
theorem dL_law_2551 : decode cL_law 2551 = .ok (.iadd, 1) := by decide +kernel
theorem dL_law_2552 : decode cL_law 2552 = .ok (.iaload, 1) := by decide +kernel
theorem dL_law_2553 : decode cL_law 2553 = .ok (.aload_n 3, 1) := by decide +kernel
theorem dL_law_2554 : decode cL_law 2554 = .ok (.invokestatic 329, 3) := by decide +kernel
theorem dL_law_2557 : decode cL_law 2557 = .ok (.istore 6, 2) := by decide +kernel
theorem dL_law_2559 : decode cL_law 2559 = .ok (.aload_n 2, 1) := by decide +kernel
theorem dL_law_2560 : decode cL_law 2560 = .ok (.aload_n 0, 1) := by decide +kernel
theorem dL_law_2561 : decode cL_law 2561 = .ok (.iload 5, 2) := by decide +kernel
theorem dL_law_2563 : decode cL_law 2563 = .ok (.iconst 1, 1) := by decide +kernel
theorem dL_law_2564 : decode cL_law 2564 = .ok (.iadd, 1) := by decide +kernel
theorem dL_law_2565 : decode cL_law 2565 = .ok (.iaload, 1) := by decide +kernel
theorem dL_law_2566 : decode cL_law 2566 = .ok (.aload_n 0, 1) := by decide +kernel
theorem dL_law_2567 : decode cL_law 2567 = .ok (.iload 5, 2) := by decide +kernel
theorem dL_law_2569 : decode cL_law 2569 = .ok (.iconst 2, 1) := by decide +kernel
theorem dL_law_2570 : decode cL_law 2570 = .ok (.iadd, 1) := by decide +kernel
theorem dL_law_2571 : decode cL_law 2571 = .ok (.iaload, 1) := by decide +kernel
theorem dL_law_2572 : decode cL_law 2572 = .ok (.invokevirtual 331, 3) := by decide +kernel
theorem dL_law_2575 : decode cL_law 2575 = .ok (.istore 7, 2) := by decide +kernel
theorem dL_law_2577 : decode cL_law 2577 = .ok (.aload_n 2, 1) := by decide +kernel
theorem dL_law_2578 : decode cL_law 2578 = .ok (.invokevirtual 179, 3) := by decide +kernel
theorem dL_law_2581 : decode cL_law 2581 = .ok (.iload 6, 2) := by decide +kernel
theorem dL_law_2583 : decode cL_law 2583 = .ok (.if_icmp .eq 5, 3) := by decide +kernel
theorem dL_law_2588 : decode cL_law 2588 = .ok (.iload 6, 2) := by decide +kernel
theorem dL_law_2590 : decode cL_law 2590 = .ok (.ifCond .ne 15, 3) := by decide +kernel
theorem dL_law_2593 : decode cL_law 2593 = .ok (.aload_n 3, 1) := by decide +kernel
theorem dL_law_2594 : decode cL_law 2594 = .ok (.iconst 0, 1) := by decide +kernel
