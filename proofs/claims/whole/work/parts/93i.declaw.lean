/-! the law, its bytes -/
theorem dL_law__2260 : decode cL_law_ 2260 = .ok (.iconst 1, 1) := by decide +kernel
theorem dL_law__2261 : decode cL_law_ 2261 = .ok (.iadd, 1) := by decide +kernel
theorem dL_law__2262 : decode cL_law_ 2262 = .ok (.iaload, 1) := by decide +kernel
theorem dL_law__2263 : decode cL_law_ 2263 = .ok (.ifCond .eq 7, 3) := by decide +kernel
theorem dL_law__2266 : decode cL_law_ 2266 = .ok (.iconst 1, 1) := by decide +kernel
theorem dL_law__2267 : decode cL_law_ 2267 = .ok (.goto 4, 3) := by decide +kernel
theorem dL_law__2270 : decode cL_law_ 2270 = .ok (.iconst 0, 1) := by decide +kernel
theorem dL_law__2271 : decode cL_law_ 2271 = .ok (.invokevirtual 261, 3) := by decide +kernel
theorem dL_law__2274 : decode cL_law_ 2274 = .ok (.if_icmp .eq 481, 3) := by decide +kernel
theorem dL_law__2279 : decode cL_law_ 2279 = .ok (.aload_n 1, 1) := by decide +kernel
theorem dL_law__2280 : decode cL_law_ 2280 = .ok (.aload_n 0, 1) := by decide +kernel
theorem dL_law__2281 : decode cL_law_ 2281 = .ok (.iload 4, 2) := by decide +kernel
theorem dL_law__2283 : decode cL_law_ 2283 = .ok (.iconst 1, 1) := by decide +kernel
theorem dL_law__2284 : decode cL_law_ 2284 = .ok (.iadd, 1) := by decide +kernel
theorem dL_law__2285 : decode cL_law_ 2285 = .ok (.iaload, 1) := by decide +kernel
theorem dL_law__2286 : decode cL_law_ 2286 = .ok (.aload_n 3, 1) := by decide +kernel
theorem dL_law__2287 : decode cL_law_ 2287 = .ok (.invokestatic 262, 3) := by decide +kernel
theorem dL_law__2290 : decode cL_law_ 2290 = .ok (.istore 5, 2) := by decide +kernel
theorem dL_law__2292 : decode cL_law_ 2292 = .ok (.aload_n 2, 1) := by decide +kernel
theorem dL_law__2293 : decode cL_law_ 2293 = .ok (.aload_n 0, 1) := by decide +kernel
theorem dL_law__2294 : decode cL_law_ 2294 = .ok (.iload 4, 2) := by decide +kernel
theorem dL_law__2296 : decode cL_law_ 2296 = .ok (.iconst 1, 1) := by decide +kernel
theorem dL_law__2297 : decode cL_law_ 2297 = .ok (.iadd, 1) := by decide +kernel
theorem dL_law__2298 : decode cL_law_ 2298 = .ok (.iaload, 1) := by decide +kernel
theorem dL_law__2299 : decode cL_law_ 2299 = .ok (.invokevirtual 264, 3) := by decide +kernel
theorem dL_law__2302 : decode cL_law_ 2302 = .ok (.istore 6, 2) := by decide +kernel
theorem dL_law__2304 : decode cL_law_ 2304 = .ok (.aload_n 2, 1) := by decide +kernel
theorem dL_law__2305 : decode cL_law_ 2305 = .ok (.invokevirtual 136, 3) := by decide +kernel
theorem dL_law__2308 : decode cL_law_ 2308 = .ok (.iload 5, 2) := by decide +kernel
theorem dL_law__2310 : decode cL_law_ 2310 = .ok (.if_icmp .eq 5, 3) := by decide +kernel
theorem dL_law__2315 : decode cL_law_ 2315 = .ok (.iload 5, 2) := by decide +kernel
theorem dL_law__2317 : decode cL_law_ 2317 = .ok (.ifCond .ne 15, 3) := by decide +kernel
theorem dL_law__2320 : decode cL_law_ 2320 = .ok (.aload_n 3, 1) := by decide +kernel
theorem dL_law__2321 : decode cL_law_ 2321 = .ok (.iconst 0, 1) := by decide +kernel
theorem dL_law__2322 : decode cL_law_ 2322 = .ok (.laload, 1) := by decide +kernel
theorem dL_law__2323 : decode cL_law_ 2323 = .ok (.iload 6, 2) := by decide +kernel
theorem dL_law__2325 : decode cL_law_ 2325 = .ok (.i2l, 1) := by decide +kernel
theorem dL_law__2326 : decode cL_law_ 2326 = .ok (.lcmp, 1) := by decide +kernel
theorem dL_law__2327 : decode cL_law_ 2327 = .ok (.ifCond .eq 5, 3) := by decide +kernel
theorem dL_law__2332 : decode cL_law_ 2332 = .ok (.goto 423, 3) := by decide +kernel
theorem dL_law__2335 : decode cL_law_ 2335 = .ok (.aload_n 1, 1) := by decide +kernel
theorem dL_law__2336 : decode cL_law_ 2336 = .ok (.invokevirtual 265, 3) := by decide +kernel
theorem dL_law__2339 : decode cL_law_ 2339 = .ok (.aload_n 2, 1) := by decide +kernel
theorem dL_law__2340 : decode cL_law_ 2340 = .ok (.invokevirtual 268, 3) := by decide +kernel
theorem dL_law__2343 : decode cL_law_ 2343 = .ok (.if_icmp .eq 412, 3) := by decide +kernel
theorem dL_law__2348 : decode cL_law_ 2348 = .ok (.aload_n 1, 1) := by decide +kernel
theorem dL_law__2349 : decode cL_law_ 2349 = .ok (.aload_n 0, 1) := by decide +kernel
theorem dL_law__2350 : decode cL_law_ 2350 = .ok (.iload 4, 2) := by decide +kernel
theorem dL_law__2352 : decode cL_law_ 2352 = .ok (.iconst 1, 1) := by decide +kernel
theorem dL_law__2353 : decode cL_law_ 2353 = .ok (.iadd, 1) := by decide +kernel
theorem dL_law__2354 : decode cL_law_ 2354 = .ok (.iaload, 1) := by decide +kernel
theorem dL_law__2355 : decode cL_law_ 2355 = .ok (.aload_n 0, 1) := by decide +kernel
theorem dL_law__2356 : decode cL_law_ 2356 = .ok (.iload 4, 2) := by decide +kernel
theorem dL_law__2358 : decode cL_law_ 2358 = .ok (.iconst 2, 1) := by decide +kernel
theorem dL_law__2359 : decode cL_law_ 2359 = .ok (.iadd, 1) := by decide +kernel
theorem dL_law__2360 : decode cL_law_ 2360 = .ok (.iaload, 1) := by decide +kernel
theorem dL_law__2361 : decode cL_law_ 2361 = .ok (.ifCond .eq 7, 3) := by decide +kernel
theorem dL_law__2364 : decode cL_law_ 2364 = .ok (.iconst 1, 1) := by decide +kernel
theorem dL_law__2365 : decode cL_law_ 2365 = .ok (.goto 4, 3) := by decide +kernel
theorem dL_law__2368 : decode cL_law_ 2368 = .ok (.iconst 0, 1) := by decide +kernel
theorem dL_law__2369 : decode cL_law_ 2369 = .ok (.aload_n 3, 1) := by decide +kernel
theorem dL_law__2370 : decode cL_law_ 2370 = .ok (.invokestatic 269, 3) := by decide +kernel
theorem dL_law__2373 : decode cL_law_ 2373 = .ok (.istore 5, 2) := by decide +kernel
theorem dL_law__2375 : decode cL_law_ 2375 = .ok (.aload_n 2, 1) := by decide +kernel
theorem dL_law__2376 : decode cL_law_ 2376 = .ok (.aload_n 0, 1) := by decide +kernel
theorem dL_law__2377 : decode cL_law_ 2377 = .ok (.iload 4, 2) := by decide +kernel
theorem dL_law__2379 : decode cL_law_ 2379 = .ok (.iconst 1, 1) := by decide +kernel
theorem dL_law__2380 : decode cL_law_ 2380 = .ok (.iadd, 1) := by decide +kernel
theorem dL_law__2381 : decode cL_law_ 2381 = .ok (.iaload, 1) := by decide +kernel
theorem dL_law__2382 : decode cL_law_ 2382 = .ok (.aload_n 0, 1) := by decide +kernel
theorem dL_law__2383 : decode cL_law_ 2383 = .ok (.iload 4, 2) := by decide +kernel
theorem dL_law__2385 : decode cL_law_ 2385 = .ok (.iconst 2, 1) := by decide +kernel
theorem dL_law__2386 : decode cL_law_ 2386 = .ok (.iadd, 1) := by decide +kernel
theorem dL_law__2387 : decode cL_law_ 2387 = .ok (.iaload, 1) := by decide +kernel
theorem dL_law__2388 : decode cL_law_ 2388 = .ok (.ifCond .eq 7, 3) := by decide +kernel
theorem dL_law__2391 : decode cL_law_ 2391 = .ok (.iconst 1, 1) := by decide +kernel
theorem dL_law__2392 : decode cL_law_ 2392 = .ok (.goto 4, 3) := by decide +kernel
theorem dL_law__2395 : decode cL_law_ 2395 = .ok (.iconst 0, 1) := by decide +kernel
theorem dL_law__2396 : decode cL_law_ 2396 = .ok (.invokevirtual 271, 3) := by decide +kernel
theorem dL_law__2399 : decode cL_law_ 2399 = .ok (.istore 6, 2) := by decide +kernel
theorem dL_law__2401 : decode cL_law_ 2401 = .ok (.aload_n 2, 1) := by decide +kernel
theorem dL_law__2402 : decode cL_law_ 2402 = .ok (.invokevirtual 136, 3) := by decide +kernel
theorem dL_law__2405 : decode cL_law_ 2405 = .ok (.iload 5, 2) := by decide +kernel
theorem dL_law__2407 : decode cL_law_ 2407 = .ok (.if_icmp .eq 5, 3) := by decide +kernel
theorem dL_law__2412 : decode cL_law_ 2412 = .ok (.iload 5, 2) := by decide +kernel
theorem dL_law__2414 : decode cL_law_ 2414 = .ok (.ifCond .ne 15, 3) := by decide +kernel
theorem dL_law__2417 : decode cL_law_ 2417 = .ok (.aload_n 3, 1) := by decide +kernel
theorem dL_law__2418 : decode cL_law_ 2418 = .ok (.iconst 0, 1) := by decide +kernel
theorem dL_law__2419 : decode cL_law_ 2419 = .ok (.laload, 1) := by decide +kernel
theorem dL_law__2420 : decode cL_law_ 2420 = .ok (.iload 6, 2) := by decide +kernel
theorem dL_law__2422 : decode cL_law_ 2422 = .ok (.i2l, 1) := by decide +kernel
theorem dL_law__2423 : decode cL_law_ 2423 = .ok (.lcmp, 1) := by decide +kernel
theorem dL_law__2424 : decode cL_law_ 2424 = .ok (.ifCond .eq 5, 3) := by decide +kernel
theorem dL_law__2429 : decode cL_law_ 2429 = .ok (.goto 326, 3) := by decide +kernel
theorem dL_law__2432 : decode cL_law_ 2432 = .ok (.aload_n 1, 1) := by decide +kernel
theorem dL_law__2433 : decode cL_law_ 2433 = .ok (.aload_n 0, 1) := by decide +kernel
theorem dL_law__2434 : decode cL_law_ 2434 = .ok (.iload 4, 2) := by decide +kernel
theorem dL_law__2436 : decode cL_law_ 2436 = .ok (.iconst 1, 1) := by decide +kernel
theorem dL_law__2437 : decode cL_law_ 2437 = .ok (.iadd, 1) := by decide +kernel
theorem dL_law__2438 : decode cL_law_ 2438 = .ok (.iaload, 1) := by decide +kernel
theorem dL_law__2439 : decode cL_law_ 2439 = .ok (.aload_n 0, 1) := by decide +kernel
theorem dL_law__2440 : decode cL_law_ 2440 = .ok (.iload 4, 2) := by decide +kernel
theorem dL_law__2442 : decode cL_law_ 2442 = .ok (.iconst 2, 1) := by decide +kernel
theorem dL_law__2443 : decode cL_law_ 2443 = .ok (.iadd, 1) := by decide +kernel
theorem dL_law__2444 : decode cL_law_ 2444 = .ok (.iaload, 1) := by decide +kernel
theorem dL_law__2445 : decode cL_law_ 2445 = .ok (.ifCond .eq 7, 3) := by decide +kernel
theorem dL_law__2448 : decode cL_law_ 2448 = .ok (.iconst 1, 1) := by decide +kernel
theorem dL_law__2449 : decode cL_law_ 2449 = .ok (.goto 4, 3) := by decide +kernel
theorem dL_law__2452 : decode cL_law_ 2452 = .ok (.iconst 0, 1) := by decide +kernel
theorem dL_law__2453 : decode cL_law_ 2453 = .ok (.aload_n 3, 1) := by decide +kernel
theorem dL_law__2454 : decode cL_law_ 2454 = .ok (.invokestatic 272, 3) := by decide +kernel
theorem dL_law__2457 : decode cL_law_ 2457 = .ok (.istore 5, 2) := by decide +kernel
theorem dL_law__2459 : decode cL_law_ 2459 = .ok (.aload_n 2, 1) := by decide +kernel
theorem dL_law__2460 : decode cL_law_ 2460 = .ok (.aload_n 0, 1) := by decide +kernel
theorem dL_law__2461 : decode cL_law_ 2461 = .ok (.iload 4, 2) := by decide +kernel
theorem dL_law__2463 : decode cL_law_ 2463 = .ok (.iconst 1, 1) := by decide +kernel
theorem dL_law__2464 : decode cL_law_ 2464 = .ok (.iadd, 1) := by decide +kernel
theorem dL_law__2465 : decode cL_law_ 2465 = .ok (.iaload, 1) := by decide +kernel
theorem dL_law__2466 : decode cL_law_ 2466 = .ok (.aload_n 0, 1) := by decide +kernel
theorem dL_law__2467 : decode cL_law_ 2467 = .ok (.iload 4, 2) := by decide +kernel
theorem dL_law__2469 : decode cL_law_ 2469 = .ok (.iconst 2, 1) := by decide +kernel
theorem dL_law__2470 : decode cL_law_ 2470 = .ok (.iadd, 1) := by decide +kernel
theorem dL_law__2471 : decode cL_law_ 2471 = .ok (.iaload, 1) := by decide +kernel
theorem dL_law__2472 : decode cL_law_ 2472 = .ok (.ifCond .eq 7, 3) := by decide +kernel
theorem dL_law__2475 : decode cL_law_ 2475 = .ok (.iconst 1, 1) := by decide +kernel
theorem dL_law__2476 : decode cL_law_ 2476 = .ok (.goto 4, 3) := by decide +kernel
theorem dL_law__2479 : decode cL_law_ 2479 = .ok (.iconst 0, 1) := by decide +kernel
theorem dL_law__2480 : decode cL_law_ 2480 = .ok (.invokevirtual 274, 3) := by decide +kernel
theorem dL_law__2483 : decode cL_law_ 2483 = .ok (.istore 6, 2) := by decide +kernel
theorem dL_law__2485 : decode cL_law_ 2485 = .ok (.aload_n 2, 1) := by decide +kernel
theorem dL_law__2486 : decode cL_law_ 2486 = .ok (.invokevirtual 136, 3) := by decide +kernel
theorem dL_law__2489 : decode cL_law_ 2489 = .ok (.iload 5, 2) := by decide +kernel
theorem dL_law__2491 : decode cL_law_ 2491 = .ok (.if_icmp .eq 5, 3) := by decide +kernel
theorem dL_law__2496 : decode cL_law_ 2496 = .ok (.iload 5, 2) := by decide +kernel
theorem dL_law__2498 : decode cL_law_ 2498 = .ok (.ifCond .ne 15, 3) := by decide +kernel
theorem dL_law__2501 : decode cL_law_ 2501 = .ok (.aload_n 3, 1) := by decide +kernel
theorem dL_law__2502 : decode cL_law_ 2502 = .ok (.iconst 0, 1) := by decide +kernel
theorem dL_law__2503 : decode cL_law_ 2503 = .ok (.laload, 1) := by decide +kernel
theorem dL_law__2504 : decode cL_law_ 2504 = .ok (.iload 6, 2) := by decide +kernel
theorem dL_law__2506 : decode cL_law_ 2506 = .ok (.i2l, 1) := by decide +kernel
theorem dL_law__2507 : decode cL_law_ 2507 = .ok (.lcmp, 1) := by decide +kernel
theorem dL_law__2508 : decode cL_law_ 2508 = .ok (.ifCond .eq 5, 3) := by decide +kernel
theorem dL_law__2513 : decode cL_law_ 2513 = .ok (.goto 242, 3) := by decide +kernel
theorem dL_law__2516 : decode cL_law_ 2516 = .ok (.aload_n 1, 1) := by decide +kernel
theorem dL_law__2517 : decode cL_law_ 2517 = .ok (.aload_n 0, 1) := by decide +kernel
theorem dL_law__2518 : decode cL_law_ 2518 = .ok (.iload 4, 2) := by decide +kernel
theorem dL_law__2520 : decode cL_law_ 2520 = .ok (.iconst 1, 1) := by decide +kernel
theorem dL_law__2521 : decode cL_law_ 2521 = .ok (.iadd, 1) := by decide +kernel
theorem dL_law__2522 : decode cL_law_ 2522 = .ok (.iaload, 1) := by decide +kernel
theorem dL_law__2523 : decode cL_law_ 2523 = .ok (.aload_n 0, 1) := by decide +kernel
