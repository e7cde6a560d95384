theorem dL_law_2457 : decode cL_law 2457 = .ok (.ireturn, 1) := by decide +kernel
theorem dL_law_2458 : decode cL_law 2458 = .ok (.goto 485, 3) := by decide +kernel
theorem dL_law_2461 : decode cL_law 2461 = .ok (.aload_n 1, 1) := by decide +kernel
theorem dL_law_2462 : decode cL_law 2462 = .ok (.aload 4, 2) := by decide +kernel
theorem dL_law_2464 : decode cL_law 2464 = .ok (.invokestatic 310, 3) := by decide +kernel
theorem dL_law_2467 : decode cL_law 2467 = .ok (.istore 6, 2) := by decide +kernel
theorem dL_law_2469 : decode cL_law 2469 = .ok (.aload_n 2, 1) := by decide +kernel
theorem dL_law_2470 : decode cL_law 2470 = .ok (.invokevirtual 312, 3) := by decide +kernel
theorem dL_law_2473 : decode cL_law 2473 = .ok (.fstore 7, 2) := by decide +kernel
theorem dL_law_2475 : decode cL_law 2475 = .ok (.aload_n 2, 1) := by decide +kernel
theorem dL_law_2476 : decode cL_law 2476 = .ok (.invokevirtual 167, 3) := by decide +kernel
theorem dL_law_2479 : decode cL_law 2479 = .ok (.iload 6, 2) := by decide +kernel
theorem dL_law_2481 : decode cL_law 2481 = .ok (.if_icmp .eq 5, 3) := by decide +kernel
theorem dL_law_2484 : decode cL_law 2484 = .ok (.iconst 0, 1) := by decide +kernel
theorem dL_law_2485 : decode cL_law 2485 = .ok (.ireturn, 1) := by decide +kernel
theorem dL_law_2486 : decode cL_law 2486 = .ok (.iload 6, 2) := by decide +kernel
theorem dL_law_2488 : decode cL_law 2488 = .ok (.ifCond .ne 36, 3) := by decide +kernel
theorem dL_law_2491 : decode cL_law 2491 = .ok (.aload 4, 2) := by decide +kernel
theorem dL_law_2493 : decode cL_law 2493 = .ok (.iconst 0, 1) := by decide +kernel
theorem dL_law_2494 : decode cL_law 2494 = .ok (.daload, 1) := by decide +kernel
theorem dL_law_2495 : decode cL_law 2495 = .ok (.fload 7, 2) := by decide +kernel
theorem dL_law_2497 : decode cL_law 2497 = .ok (.f2d, 1) := by decide +kernel
theorem dL_law_2498 : decode cL_law 2498 = .ok (.dcmp .l, 1) := by decide +kernel
theorem dL_law_2499 : decode cL_law 2499 = .ok (.ifCond .eq 25, 3) := by decide +kernel
theorem dL_law_2502 : decode cL_law 2502 = .ok (.aload 4, 2) := by decide +kernel
theorem dL_law_2504 : decode cL_law 2504 = .ok (.iconst 0, 1) := by decide +kernel
theorem dL_law_2505 : decode cL_law 2505 = .ok (.daload, 1) := by decide +kernel
theorem dL_law_2506 : decode cL_law 2506 = .ok (.aload 4, 2) := by decide +kernel
theorem dL_law_2508 : decode cL_law 2508 = .ok (.iconst 0, 1) := by decide +kernel
theorem dL_law_2509 : decode cL_law 2509 = .ok (.daload, 1) := by decide +kernel
theorem dL_law_2510 : decode cL_law 2510 = .ok (.dcmp .l, 1) := by decide +kernel
theorem dL_law_2511 : decode cL_law 2511 = .ok (.ifCond .eq 11, 3) := by decide +kernel
theorem dL_law_2514 : decode cL_law 2514 = .ok (.fload 7, 2) := by decide +kernel
theorem dL_law_2516 : decode cL_law 2516 = .ok (.fload 7, 2) := by decide +kernel
theorem dL_law_2518 : decode cL_law 2518 = .ok (.fcmp .l, 1) := by decide +kernel
theorem dL_law_2519 : decode cL_law 2519 = .ok (.ifCond .ne 5, 3) := by decide +kernel
theorem dL_law_2522 : decode cL_law 2522 = .ok (.iconst 0, 1) := by decide +kernel
theorem dL_law_2523 : decode cL_law 2523 = .ok (.ireturn, 1) := by decide +kernel
theorem dL_law_2524 : decode cL_law 2524 = .ok (.goto 419, 3) := by decide +kernel
theorem dL_law_2527 : decode cL_law 2527 = .ok (.aload_n 1, 1) := by decide +kernel
theorem dL_law_2528 : decode cL_law 2528 = .ok (.invokevirtual 313, 3) := by decide +kernel
theorem dL_law_2531 : decode cL_law 2531 = .ok (.aload_n 2, 1) := by decide +kernel
theorem dL_law_2532 : decode cL_law 2532 = .ok (.invokevirtual 317, 3) := by decide +kernel
theorem dL_law_2535 : decode cL_law 2535 = .ok (.if_icmp .eq 408, 3) := by decide +kernel
theorem dL_law_2538 : decode cL_law 2538 = .ok (.iconst 0, 1) := by decide +kernel
theorem dL_law_2539 : decode cL_law 2539 = .ok (.ireturn, 1) := by decide +kernel
theorem dL_law_2540 : decode cL_law 2540 = .ok (.aload_n 1, 1) := by decide +kernel
theorem dL_law_2541 : decode cL_law 2541 = .ok (.aload_n 0, 1) := by decide +kernel
theorem dL_law_2542 : decode cL_law 2542 = .ok (.iload 5, 2) := by decide +kernel
theorem dL_law_2544 : decode cL_law 2544 = .ok (.iconst 1, 1) := by decide +kernel
theorem dL_law_2545 : decode cL_law 2545 = .ok (.iadd, 1) := by decide +kernel
theorem dL_law_2546 : decode cL_law 2546 = .ok (.iaload, 1) := by decide +kernel
theorem dL_law_2547 : decode cL_law 2547 = .ok (.aload_n 3, 1) := by decide +kernel
theorem dL_law_2548 : decode cL_law 2548 = .ok (.invokestatic 318, 3) := by decide +kernel
theorem dL_law_2551 : decode cL_law 2551 = .ok (.istore 6, 2) := by decide +kernel
theorem dL_law_2553 : decode cL_law 2553 = .ok (.aload_n 2, 1) := by decide +kernel
theorem dL_law_2554 : decode cL_law 2554 = .ok (.aload_n 0, 1) := by decide +kernel
theorem dL_law_2555 : decode cL_law 2555 = .ok (.iload 5, 2) := by decide +kernel
theorem dL_law_2557 : decode cL_law 2557 = .ok (.iconst 1, 1) := by decide +kernel
theorem dL_law_2558 : decode cL_law 2558 = .ok (.iadd, 1) := by decide +kernel
theorem dL_law_2559 : decode cL_law 2559 = .ok (.iaload, 1) := by decide +kernel
theorem dL_law_2560 : decode cL_law 2560 = .ok (.invokevirtual 320, 3) := by decide +kernel
theorem dL_law_2563 : decode cL_law 2563 = .ok (.istore 7, 2) := by decide +kernel
theorem dL_law_2565 : decode cL_law 2565 = .ok (.aload_n 2, 1) := by decide +kernel
theorem dL_law_2566 : decode cL_law 2566 = .ok (.invokevirtual 167, 3) := by decide +kernel
theorem dL_law_2569 : decode cL_law 2569 = .ok (.iload 6, 2) := by decide +kernel
theorem dL_law_2571 : decode cL_law 2571 = .ok (.if_icmp .eq 5, 3) := by decide +kernel
theorem dL_law_2574 : decode cL_law 2574 = .ok (.iconst 0, 1) := by decide +kernel
theorem dL_law_2575 : decode cL_law 2575 = .ok (.ireturn, 1) := by decide +kernel
theorem dL_law_2576 : decode cL_law 2576 = .ok (.iload 6, 2) := by decide +kernel
theorem dL_law_2578 : decode cL_law 2578 = .ok (.ifCond .ne 15, 3) := by decide +kernel
theorem dL_law_2581 : decode cL_law 2581 = .ok (.aload_n 3, 1) := by decide +kernel
theorem dL_law_2582 : decode cL_law 2582 = .ok (.iconst 0, 1) := by decide +kernel
theorem dL_law_2583 : decode cL_law 2583 = .ok (.laload, 1) := by decide +kernel
theorem dL_law_2584 : decode cL_law 2584 = .ok (.iload 7, 2) := by decide +kernel
theorem dL_law_2586 : decode cL_law 2586 = .ok (.i2l, 1) := by decide +kernel
theorem dL_law_2587 : decode cL_law 2587 = .ok (.lcmp, 1) := by decide +kernel
theorem dL_law_2588 : decode cL_law 2588 = .ok (.ifCond .eq 5, 3) := by decide +kernel
theorem dL_law_2591 : decode cL_law 2591 = .ok (.iconst 0, 1) := by decide +kernel
theorem dL_law_2592 : decode cL_law 2592 = .ok (.ireturn, 1) := by decide +kernel
theorem dL_law_2593 : decode cL_law 2593 = .ok (.goto 350, 3) := by decide +kernel
theorem dL_law_2596 : decode cL_law 2596 = .ok (.aload_n 1, 1) := by decide +kernel
theorem dL_law_2597 : decode cL_law 2597 = .ok (.aload_n 0, 1) := by decide +kernel
theorem dL_law_2598 : decode cL_law 2598 = .ok (.iload 5, 2) := by decide +kernel
theorem dL_law_2600 : decode cL_law 2600 = .ok (.iconst 1, 1) := by decide +kernel
theorem dL_law_2601 : decode cL_law 2601 = .ok (.iadd, 1) := by decide +kernel
theorem dL_law_2602 : decode cL_law 2602 = .ok (.iaload, 1) := by decide +kernel
theorem dL_law_2603 : decode cL_law 2603 = .ok (.aload_n 3, 1) := by decide +kernel
theorem dL_law_2604 : decode cL_law 2604 = .ok (.invokestatic 321, 3) := by decide +kernel
theorem dL_law_2607 : decode cL_law 2607 = .ok (.istore 6, 2) := by decide +kernel
theorem dL_law_2609 : decode cL_law 2609 = .ok (.aload_n 2, 1) := by decide +kernel
theorem dL_law_2610 : decode cL_law 2610 = .ok (.aload_n 0, 1) := by decide +kernel
theorem dL_law_2611 : decode cL_law 2611 = .ok (.iload 5, 2) := by decide +kernel
theorem dL_law_2613 : decode cL_law 2613 = .ok (.iconst 1, 1) := by decide +kernel
theorem dL_law_2614 : decode cL_law 2614 = .ok (.iadd, 1) := by decide +kernel
theorem dL_law_2615 : decode cL_law 2615 = .ok (.iaload, 1) := by decide +kernel
theorem dL_law_2616 : decode cL_law 2616 = .ok (.invokevirtual 323, 3) := by decide +kernel
theorem dL_law_2619 : decode cL_law 2619 = .ok (.istore 7, 2) := by decide +kernel
theorem dL_law_2621 : decode cL_law 2621 = .ok (.aload_n 2, 1) := by decide +kernel
theorem dL_law_2622 : decode cL_law 2622 = .ok (.invokevirtual 167, 3) := by decide +kernel
theorem dL_law_2625 : decode cL_law 2625 = .ok (.iload 6, 2) := by decide +kernel
theorem dL_law_2627 : decode cL_law 2627 = .ok (.if_icmp .eq 5, 3) := by decide +kernel
theorem dL_law_2630 : decode cL_law 2630 = .ok (.iconst 0, 1) := by decide +kernel
theorem dL_law_2631 : decode cL_law 2631 = .ok (.ireturn, 1) := by decide +kernel
theorem dL_law_2632 : decode cL_law 2632 = .ok (.iload 6, 2) := by decide +kernel
theorem dL_law_2634 : decode cL_law 2634 = .ok (.ifCond .ne 15, 3) := by decide +kernel
theorem dL_law_2637 : decode cL_law 2637 = .ok (.aload_n 3, 1) := by decide +kernel
theorem dL_law_2638 : decode cL_law 2638 = .ok (.iconst 0, 1) := by decide +kernel
theorem dL_law_2639 : decode cL_law 2639 = .ok (.laload, 1) := by decide +kernel
theorem dL_law_2640 : decode cL_law 2640 = .ok (.iload 7, 2) := by decide +kernel
theorem dL_law_2642 : decode cL_law 2642 = .ok (.i2l, 1) := by decide +kernel
theorem dL_law_2643 : decode cL_law 2643 = .ok (.lcmp, 1) := by decide +kernel
theorem dL_law_2644 : decode cL_law 2644 = .ok (.ifCond .eq 5, 3) := by decide +kernel
theorem dL_law_2647 : decode cL_law 2647 = .ok (.iconst 0, 1) := by decide +kernel
theorem dL_law_2648 : decode cL_law 2648 = .ok (.ireturn, 1) := by decide +kernel
theorem dL_law_2649 : decode cL_law 2649 = .ok (.goto 294, 3) := by decide +kernel
theorem dL_law_2652 : decode cL_law 2652 = .ok (.aload_n 1, 1) := by decide +kernel
theorem dL_law_2653 : decode cL_law 2653 = .ok (.aload_n 0, 1) := by decide +kernel
theorem dL_law_2654 : decode cL_law 2654 = .ok (.iload 5, 2) := by decide +kernel
theorem dL_law_2656 : decode cL_law 2656 = .ok (.iconst 1, 1) := by decide +kernel
theorem dL_law_2657 : decode cL_law 2657 = .ok (.iadd, 1) := by decide +kernel
theorem dL_law_2658 : decode cL_law 2658 = .ok (.iaload, 1) := by decide +kernel
theorem dL_law_2659 : decode cL_law 2659 = .ok (.i2c, 1) := by decide +kernel
theorem dL_law_2660 : decode cL_law 2660 = .ok (.aload_n 3, 1) := by decide +kernel
theorem dL_law_2661 : decode cL_law 2661 = .ok (.invokestatic 324, 3) := by decide +kernel
theorem dL_law_2664 : decode cL_law 2664 = .ok (.istore 6, 2) := by decide +kernel
theorem dL_law_2666 : decode cL_law 2666 = .ok (.aload_n 2, 1) := by decide +kernel
theorem dL_law_2667 : decode cL_law 2667 = .ok (.aload_n 0, 1) := by decide +kernel
theorem dL_law_2668 : decode cL_law 2668 = .ok (.iload 5, 2) := by decide +kernel
theorem dL_law_2670 : decode cL_law 2670 = .ok (.iconst 1, 1) := by decide +kernel
theorem dL_law_2671 : decode cL_law 2671 = .ok (.iadd, 1) := by decide +kernel
theorem dL_law_2672 : decode cL_law 2672 = .ok (.iaload, 1) := by decide +kernel
theorem dL_law_2673 : decode cL_law 2673 = .ok (.i2c, 1) := by decide +kernel
theorem dL_law_2674 : decode cL_law 2674 = .ok (.invokevirtual 327, 3) := by decide +kernel
theorem dL_law_2677 : decode cL_law 2677 = .ok (.istore 7, 2) := by decide +kernel
theorem dL_law_2679 : decode cL_law 2679 = .ok (.aload_n 2, 1) := by decide +kernel
theorem dL_law_2680 : decode cL_law 2680 = .ok (.invokevirtual 167, 3) := by decide +kernel
theorem dL_law_2683 : decode cL_law 2683 = .ok (.iload 6, 2) := by decide +kernel
theorem dL_law_2685 : decode cL_law 2685 = .ok (.if_icmp .eq 5, 3) := by decide +kernel
theorem dL_law_2688 : decode cL_law 2688 = .ok (.iconst 0, 1) := by decide +kernel
