/-! ===== the law's bytes ===== -/
theorem dL_law_2375 : decode cL_law 2375 = .ok (.aload_n 3, 1) := by decide +kernel
theorem dL_law_2376 : decode cL_law 2376 = .ok (.iconst 0, 1) := by decide +kernel
theorem dL_law_2377 : decode cL_law 2377 = .ok (.laload, 1) := by decide +kernel
theorem dL_law_2378 : decode cL_law 2378 = .ok (.iload 7, 2) := by decide +kernel
theorem dL_law_2380 : decode cL_law 2380 = .ok (.i2l, 1) := by decide +kernel
theorem dL_law_2381 : decode cL_law 2381 = .ok (.lcmp, 1) := by decide +kernel
theorem dL_law_2382 : decode cL_law 2382 = .ok (.ifCond .eq 5, 3) := by decide +kernel
theorem dL_law_2387 : decode cL_law 2387 = .ok (.goto 954, 3) := by decide +kernel
theorem dL_law_2390 : decode cL_law 2390 = .ok (.aload_n 1, 1) := by decide +kernel
theorem dL_law_2391 : decode cL_law 2391 = .ok (.aload_n 3, 1) := by decide +kernel
theorem dL_law_2392 : decode cL_law 2392 = .ok (.invokestatic 305, 3) := by decide +kernel
theorem dL_law_2395 : decode cL_law 2395 = .ok (.istore 6, 2) := by decide +kernel
theorem dL_law_2397 : decode cL_law 2397 = .ok (.aload_n 2, 1) := by decide +kernel
theorem dL_law_2398 : decode cL_law 2398 = .ok (.invokevirtual 308, 3) := by decide +kernel
theorem dL_law_2401 : decode cL_law 2401 = .ok (.istore 7, 2) := by decide +kernel
theorem dL_law_2403 : decode cL_law 2403 = .ok (.aload_n 2, 1) := by decide +kernel
theorem dL_law_2404 : decode cL_law 2404 = .ok (.invokevirtual 189, 3) := by decide +kernel
theorem dL_law_2407 : decode cL_law 2407 = .ok (.iload 6, 2) := by decide +kernel
theorem dL_law_2409 : decode cL_law 2409 = .ok (.if_icmp .eq 5, 3) := by decide +kernel
theorem dL_law_2414 : decode cL_law 2414 = .ok (.iload 6, 2) := by decide +kernel
theorem dL_law_2416 : decode cL_law 2416 = .ok (.ifCond .ne 15, 3) := by decide +kernel
theorem dL_law_2419 : decode cL_law 2419 = .ok (.aload_n 3, 1) := by decide +kernel
theorem dL_law_2420 : decode cL_law 2420 = .ok (.iconst 0, 1) := by decide +kernel
theorem dL_law_2421 : decode cL_law 2421 = .ok (.laload, 1) := by decide +kernel
theorem dL_law_2422 : decode cL_law 2422 = .ok (.iload 7, 2) := by decide +kernel
theorem dL_law_2424 : decode cL_law 2424 = .ok (.i2l, 1) := by decide +kernel
theorem dL_law_2425 : decode cL_law 2425 = .ok (.lcmp, 1) := by decide +kernel
theorem dL_law_2426 : decode cL_law 2426 = .ok (.ifCond .eq 5, 3) := by decide +kernel
theorem dL_law_2431 : decode cL_law 2431 = .ok (.goto 910, 3) := by decide +kernel
theorem dL_law_2434 : decode cL_law 2434 = .ok (.aload_n 1, 1) := by decide +kernel
theorem dL_law_2435 : decode cL_law 2435 = .ok (.aload_n 3, 1) := by decide +kernel
theorem dL_law_2436 : decode cL_law 2436 = .ok (.invokestatic 309, 3) := by decide +kernel
theorem dL_law_2439 : decode cL_law 2439 = .ok (.istore 6, 2) := by decide +kernel
theorem dL_law_2441 : decode cL_law 2441 = .ok (.aload_n 2, 1) := by decide +kernel
theorem dL_law_2442 : decode cL_law 2442 = .ok (.invokevirtual 311, 3) := by decide +kernel
theorem dL_law_2445 : decode cL_law 2445 = .ok (.istore 7, 2) := by decide +kernel
theorem dL_law_2447 : decode cL_law 2447 = .ok (.aload_n 2, 1) := by decide +kernel
theorem dL_law_2448 : decode cL_law 2448 = .ok (.invokevirtual 189, 3) := by decide +kernel
theorem dL_law_2451 : decode cL_law 2451 = .ok (.iload 6, 2) := by decide +kernel
theorem dL_law_2453 : decode cL_law 2453 = .ok (.if_icmp .eq 5, 3) := by decide +kernel
theorem dL_law_2458 : decode cL_law 2458 = .ok (.iload 6, 2) := by decide +kernel
theorem dL_law_2460 : decode cL_law 2460 = .ok (.ifCond .ne 15, 3) := by decide +kernel
theorem dL_law_2463 : decode cL_law 2463 = .ok (.aload_n 3, 1) := by decide +kernel
theorem dL_law_2464 : decode cL_law 2464 = .ok (.iconst 0, 1) := by decide +kernel
theorem dL_law_2465 : decode cL_law 2465 = .ok (.laload, 1) := by decide +kernel
theorem dL_law_2466 : decode cL_law 2466 = .ok (.iload 7, 2) := by decide +kernel
theorem dL_law_2468 : decode cL_law 2468 = .ok (.i2l, 1) := by decide +kernel
theorem dL_law_2469 : decode cL_law 2469 = .ok (.lcmp, 1) := by decide +kernel
theorem dL_law_2470 : decode cL_law 2470 = .ok (.ifCond .eq 5, 3) := by decide +kernel
theorem dL_law_2475 : decode cL_law 2475 = .ok (.goto 866, 3) := by decide +kernel
theorem dL_law_2478 : decode cL_law 2478 = .ok (.aload_n 1, 1) := by decide +kernel
theorem dL_law_2479 : decode cL_law 2479 = .ok (.aload_n 0, 1) := by decide +kernel
theorem dL_law_2480 : decode cL_law 2480 = .ok (.iload 5, 2) := by decide +kernel
theorem dL_law_2482 : decode cL_law 2482 = .ok (.iconst 1, 1) := by decide +kernel
theorem dL_law_2483 : decode cL_law 2483 = .ok (.iadd, 1) := by decide +kernel
theorem dL_law_2484 : decode cL_law 2484 = .ok (.iaload, 1) := by decide +kernel
theorem dL_law_2485 : decode cL_law 2485 = .ok (.i2c, 1) := by decide +kernel
theorem dL_law_2486 : decode cL_law 2486 = .ok (.aload_n 3, 1) := by decide +kernel
theorem dL_law_2487 : decode cL_law 2487 = .ok (.invokestatic 312, 3) := by decide +kernel
theorem dL_law_2490 : decode cL_law 2490 = .ok (.istore 6, 2) := by decide +kernel
theorem dL_law_2492 : decode cL_law 2492 = .ok (.aload_n 2, 1) := by decide +kernel
theorem dL_law_2493 : decode cL_law 2493 = .ok (.aload_n 0, 1) := by decide +kernel
theorem dL_law_2494 : decode cL_law 2494 = .ok (.iload 5, 2) := by decide +kernel
theorem dL_law_2496 : decode cL_law 2496 = .ok (.iconst 1, 1) := by decide +kernel
theorem dL_law_2497 : decode cL_law 2497 = .ok (.iadd, 1) := by decide +kernel
theorem dL_law_2498 : decode cL_law 2498 = .ok (.iaload, 1) := by decide +kernel
theorem dL_law_2499 : decode cL_law 2499 = .ok (.i2c, 1) := by decide +kernel
theorem dL_law_2500 : decode cL_law 2500 = .ok (.invokevirtual 315, 3) := by decide +kernel
theorem dL_law_2503 : decode cL_law 2503 = .ok (.istore 7, 2) := by decide +kernel
theorem dL_law_2505 : decode cL_law 2505 = .ok (.aload_n 2, 1) := by decide +kernel
theorem dL_law_2506 : decode cL_law 2506 = .ok (.invokevirtual 189, 3) := by decide +kernel
theorem dL_law_2509 : decode cL_law 2509 = .ok (.iload 6, 2) := by decide +kernel
theorem dL_law_2511 : decode cL_law 2511 = .ok (.if_icmp .eq 5, 3) := by decide +kernel
theorem dL_law_2516 : decode cL_law 2516 = .ok (.iload 6, 2) := by decide +kernel
theorem dL_law_2518 : decode cL_law 2518 = .ok (.ifCond .ne 22, 3) := by decide +kernel
theorem dL_law_2521 : decode cL_law 2521 = .ok (.aload_n 3, 1) := by decide +kernel
theorem dL_law_2522 : decode cL_law 2522 = .ok (.iconst 0, 1) := by decide +kernel
theorem dL_law_2523 : decode cL_law 2523 = .ok (.laload, 1) := by decide +kernel
theorem dL_law_2524 : decode cL_law 2524 = .ok (.iload 7, 2) := by decide +kernel
theorem dL_law_2526 : decode cL_law 2526 = .ok (.ifCond .eq 7, 3) := by decide +kernel
theorem dL_law_2529 : decode cL_law 2529 = .ok (.lconst 1, 1) := by decide +kernel
theorem dL_law_2530 : decode cL_law 2530 = .ok (.goto 4, 3) := by decide +kernel
theorem dL_law_2533 : decode cL_law 2533 = .ok (.lconst 0, 1) := by decide +kernel
theorem dL_law_2534 : decode cL_law 2534 = .ok (.lcmp, 1) := by decide +kernel
theorem dL_law_2535 : decode cL_law 2535 = .ok (.ifCond .eq 5, 3) := by decide +kernel
theorem dL_law_2540 : decode cL_law 2540 = .ok (.goto 801, 3) := by decide +kernel
theorem dL_law_2543 : decode cL_law 2543 = .ok (.aload_n 1, 1) := by decide +kernel
theorem dL_law_2544 : decode cL_law 2544 = .ok (.aload_n 0, 1) := by decide +kernel
theorem dL_law_2545 : decode cL_law 2545 = .ok (.iload 5, 2) := by decide +kernel
theorem dL_law_2547 : decode cL_law 2547 = .ok (.iconst 1, 1) := by decide +kernel
theorem dL_law_2548 : decode cL_law 2548 = .ok (.iadd, 1) := by decide +kernel
theorem dL_law_2549 : decode cL_law 2549 = .ok (.iaload, 1) := by decide +kernel
theorem dL_law_2550 : decode cL_law 2550 = .ok (.i2c, 1) := by decide +kernel
theorem dL_law_2551 : decode cL_law 2551 = .ok (.aload_n 3, 1) := by decide +kernel
theorem dL_law_2552 : decode cL_law 2552 = .ok (.invokestatic 316, 3) := by decide +kernel
theorem dL_law_2555 : decode cL_law 2555 = .ok (.istore 6, 2) := by decide +kernel
theorem dL_law_2557 : decode cL_law 2557 = .ok (.aload_n 2, 1) := by decide +kernel
theorem dL_law_2558 : decode cL_law 2558 = .ok (.aload_n 0, 1) := by decide +kernel
theorem dL_law_2559 : decode cL_law 2559 = .ok (.iload 5, 2) := by decide +kernel
theorem dL_law_2561 : decode cL_law 2561 = .ok (.iconst 1, 1) := by decide +kernel
