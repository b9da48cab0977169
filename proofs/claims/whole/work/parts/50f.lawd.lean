theorem dL_law__2445 : decode cL_law_ 2445 = .ok (.iload 6, 2) := by decide +kernel
theorem dL_law__2447 : decode cL_law_ 2447 = .ok (.i2l, 1) := by decide +kernel
theorem dL_law__2448 : decode cL_law_ 2448 = .ok (.lcmp, 1) := by decide +kernel
theorem dL_law__2449 : decode cL_law_ 2449 = .ok (.ifCond .eq 5, 3) := by decide +kernel
theorem dL_law__2452 : decode cL_law_ 2452 = .ok (.iconst 0, 1) := by decide +kernel
theorem dL_law__2453 : decode cL_law_ 2453 = .ok (.ireturn, 1) := by decide +kernel
theorem dL_law__2454 : decode cL_law_ 2454 = .ok (.goto 289, 3) := by decide +kernel
theorem dL_law__2457 : decode cL_law_ 2457 = .ok (.aload_n 1, 1) := by decide +kernel
theorem dL_law__2458 : decode cL_law_ 2458 = .ok (.aload_n 0, 1) := by decide +kernel
theorem dL_law__2459 : decode cL_law_ 2459 = .ok (.iload 4, 2) := by decide +kernel
theorem dL_law__2461 : decode cL_law_ 2461 = .ok (.iconst 1, 1) := by decide +kernel
theorem dL_law__2462 : decode cL_law_ 2462 = .ok (.iadd, 1) := by decide +kernel
theorem dL_law__2463 : decode cL_law_ 2463 = .ok (.iaload, 1) := by decide +kernel
theorem dL_law__2464 : decode cL_law_ 2464 = .ok (.aload_n 0, 1) := by decide +kernel
theorem dL_law__2465 : decode cL_law_ 2465 = .ok (.iload 4, 2) := by decide +kernel
theorem dL_law__2467 : decode cL_law_ 2467 = .ok (.iconst 2, 1) := by decide +kernel
theorem dL_law__2468 : decode cL_law_ 2468 = .ok (.iadd, 1) := by decide +kernel
theorem dL_law__2469 : decode cL_law_ 2469 = .ok (.iaload, 1) := by decide +kernel
theorem dL_law__2470 : decode cL_law_ 2470 = .ok (.aload_n 0, 1) := by decide +kernel
theorem dL_law__2471 : decode cL_law_ 2471 = .ok (.iload 4, 2) := by decide +kernel
theorem dL_law__2473 : decode cL_law_ 2473 = .ok (.iconst 3, 1) := by decide +kernel
theorem dL_law__2474 : decode cL_law_ 2474 = .ok (.iadd, 1) := by decide +kernel
theorem dL_law__2475 : decode cL_law_ 2475 = .ok (.iaload, 1) := by decide +kernel
theorem dL_law__2476 : decode cL_law_ 2476 = .ok (.aload_n 0, 1) := by decide +kernel
theorem dL_law__2477 : decode cL_law_ 2477 = .ok (.iload 4, 2) := by decide +kernel
theorem dL_law__2479 : decode cL_law_ 2479 = .ok (.iconst 4, 1) := by decide +kernel
theorem dL_law__2480 : decode cL_law_ 2480 = .ok (.iadd, 1) := by decide +kernel
theorem dL_law__2481 : decode cL_law_ 2481 = .ok (.iaload, 1) := by decide +kernel
theorem dL_law__2482 : decode cL_law_ 2482 = .ok (.aload_n 3, 1) := by decide +kernel
theorem dL_law__2483 : decode cL_law_ 2483 = .ok (.invokestatic 244, 3) := by decide +kernel
theorem dL_law__2486 : decode cL_law_ 2486 = .ok (.istore 5, 2) := by decide +kernel
theorem dL_law__2488 : decode cL_law_ 2488 = .ok (.aload_n 2, 1) := by decide +kernel
theorem dL_law__2489 : decode cL_law_ 2489 = .ok (.aload_n 0, 1) := by decide +kernel
theorem dL_law__2490 : decode cL_law_ 2490 = .ok (.iload 4, 2) := by decide +kernel
theorem dL_law__2492 : decode cL_law_ 2492 = .ok (.iconst 1, 1) := by decide +kernel
theorem dL_law__2493 : decode cL_law_ 2493 = .ok (.iadd, 1) := by decide +kernel
theorem dL_law__2494 : decode cL_law_ 2494 = .ok (.iaload, 1) := by decide +kernel
theorem dL_law__2495 : decode cL_law_ 2495 = .ok (.aload_n 0, 1) := by decide +kernel
theorem dL_law__2496 : decode cL_law_ 2496 = .ok (.iload 4, 2) := by decide +kernel
theorem dL_law__2498 : decode cL_law_ 2498 = .ok (.iconst 2, 1) := by decide +kernel
theorem dL_law__2499 : decode cL_law_ 2499 = .ok (.iadd, 1) := by decide +kernel
theorem dL_law__2500 : decode cL_law_ 2500 = .ok (.iaload, 1) := by decide +kernel
theorem dL_law__2501 : decode cL_law_ 2501 = .ok (.aload_n 0, 1) := by decide +kernel
theorem dL_law__2502 : decode cL_law_ 2502 = .ok (.iload 4, 2) := by decide +kernel
theorem dL_law__2504 : decode cL_law_ 2504 = .ok (.iconst 3, 1) := by decide +kernel
theorem dL_law__2505 : decode cL_law_ 2505 = .ok (.iadd, 1) := by decide +kernel
theorem dL_law__2506 : decode cL_law_ 2506 = .ok (.iaload, 1) := by decide +kernel
theorem dL_law__2507 : decode cL_law_ 2507 = .ok (.aload_n 0, 1) := by decide +kernel
theorem dL_law__2508 : decode cL_law_ 2508 = .ok (.iload 4, 2) := by decide +kernel
theorem dL_law__2510 : decode cL_law_ 2510 = .ok (.iconst 4, 1) := by decide +kernel
theorem dL_law__2511 : decode cL_law_ 2511 = .ok (.iadd, 1) := by decide +kernel
theorem dL_law__2512 : decode cL_law_ 2512 = .ok (.iaload, 1) := by decide +kernel
theorem dL_law__2513 : decode cL_law_ 2513 = .ok (.invokevirtual 246, 3) := by decide +kernel
theorem dL_law__2516 : decode cL_law_ 2516 = .ok (.istore 6, 2) := by decide +kernel
theorem dL_law__2518 : decode cL_law_ 2518 = .ok (.aload_n 2, 1) := by decide +kernel
theorem dL_law__2519 : decode cL_law_ 2519 = .ok (.invokevirtual 134, 3) := by decide +kernel
theorem dL_law__2522 : decode cL_law_ 2522 = .ok (.iload 5, 2) := by decide +kernel
theorem dL_law__2524 : decode cL_law_ 2524 = .ok (.if_icmp .eq 5, 3) := by decide +kernel
theorem dL_law__2527 : decode cL_law_ 2527 = .ok (.iconst 0, 1) := by decide +kernel
theorem dL_law__2528 : decode cL_law_ 2528 = .ok (.ireturn, 1) := by decide +kernel
theorem dL_law__2529 : decode cL_law_ 2529 = .ok (.iload 5, 2) := by decide +kernel
theorem dL_law__2531 : decode cL_law_ 2531 = .ok (.ifCond .ne 15, 3) := by decide +kernel
theorem dL_law__2534 : decode cL_law_ 2534 = .ok (.aload_n 3, 1) := by decide +kernel
theorem dL_law__2535 : decode cL_law_ 2535 = .ok (.iconst 0, 1) := by decide +kernel
theorem dL_law__2536 : decode cL_law_ 2536 = .ok (.laload, 1) := by decide +kernel
theorem dL_law__2537 : decode cL_law_ 2537 = .ok (.iload 6, 2) := by decide +kernel
theorem dL_law__2539 : decode cL_law_ 2539 = .ok (.i2l, 1) := by decide +kernel
theorem dL_law__2540 : decode cL_law_ 2540 = .ok (.lcmp, 1) := by decide +kernel
theorem dL_law__2541 : decode cL_law_ 2541 = .ok (.ifCond .eq 5, 3) := by decide +kernel
theorem dL_law__2544 : decode cL_law_ 2544 = .ok (.iconst 0, 1) := by decide +kernel
theorem dL_law__2545 : decode cL_law_ 2545 = .ok (.ireturn, 1) := by decide +kernel
theorem dL_law__2546 : decode cL_law_ 2546 = .ok (.goto 197, 3) := by decide +kernel
theorem dL_law__2549 : decode cL_law_ 2549 = .ok (.aload_n 1, 1) := by decide +kernel
theorem dL_law__2550 : decode cL_law_ 2550 = .ok (.aload_n 0, 1) := by decide +kernel
theorem dL_law__2551 : decode cL_law_ 2551 = .ok (.iload 4, 2) := by decide +kernel
theorem dL_law__2553 : decode cL_law_ 2553 = .ok (.iconst 1, 1) := by decide +kernel
theorem dL_law__2554 : decode cL_law_ 2554 = .ok (.iadd, 1) := by decide +kernel
theorem dL_law__2555 : decode cL_law_ 2555 = .ok (.iaload, 1) := by decide +kernel
theorem dL_law__2556 : decode cL_law_ 2556 = .ok (.aload_n 0, 1) := by decide +kernel
theorem dL_law__2557 : decode cL_law_ 2557 = .ok (.iload 4, 2) := by decide +kernel
theorem dL_law__2559 : decode cL_law_ 2559 = .ok (.iconst 2, 1) := by decide +kernel
theorem dL_law__2560 : decode cL_law_ 2560 = .ok (.iadd, 1) := by decide +kernel
theorem dL_law__2561 : decode cL_law_ 2561 = .ok (.iaload, 1) := by decide +kernel
theorem dL_law__2562 : decode cL_law_ 2562 = .ok (.aload_n 0, 1) := by decide +kernel
theorem dL_law__2563 : decode cL_law_ 2563 = .ok (.iload 4, 2) := by decide +kernel
theorem dL_law__2565 : decode cL_law_ 2565 = .ok (.iconst 3, 1) := by decide +kernel
theorem dL_law__2566 : decode cL_law_ 2566 = .ok (.iadd, 1) := by decide +kernel
theorem dL_law__2567 : decode cL_law_ 2567 = .ok (.iaload, 1) := by decide +kernel
theorem dL_law__2568 : decode cL_law_ 2568 = .ok (.aload_n 0, 1) := by decide +kernel
theorem dL_law__2569 : decode cL_law_ 2569 = .ok (.iload 4, 2) := by decide +kernel
theorem dL_law__2571 : decode cL_law_ 2571 = .ok (.iconst 4, 1) := by decide +kernel
theorem dL_law__2572 : decode cL_law_ 2572 = .ok (.iadd, 1) := by decide +kernel
theorem dL_law__2573 : decode cL_law_ 2573 = .ok (.iaload, 1) := by decide +kernel
theorem dL_law__2574 : decode cL_law_ 2574 = .ok (.aload_n 0, 1) := by decide +kernel
theorem dL_law__2575 : decode cL_law_ 2575 = .ok (.iload 4, 2) := by decide +kernel
theorem dL_law__2577 : decode cL_law_ 2577 = .ok (.iconst 5, 1) := by decide +kernel
theorem dL_law__2578 : decode cL_law_ 2578 = .ok (.iadd, 1) := by decide +kernel
theorem dL_law__2579 : decode cL_law_ 2579 = .ok (.iaload, 1) := by decide +kernel
theorem dL_law__2580 : decode cL_law_ 2580 = .ok (.aload_n 0, 1) := by decide +kernel
theorem dL_law__2581 : decode cL_law_ 2581 = .ok (.iload 4, 2) := by decide +kernel
theorem dL_law__2583 : decode cL_law_ 2583 = .ok (.bipush 6, 2) := by decide +kernel
theorem dL_law__2585 : decode cL_law_ 2585 = .ok (.iadd, 1) := by decide +kernel
theorem dL_law__2586 : decode cL_law_ 2586 = .ok (.iaload, 1) := by decide +kernel
theorem dL_law__2587 : decode cL_law_ 2587 = .ok (.aload_n 3, 1) := by decide +kernel
theorem dL_law__2588 : decode cL_law_ 2588 = .ok (.invokestatic 247, 3) := by decide +kernel
theorem dL_law__2591 : decode cL_law_ 2591 = .ok (.istore 5, 2) := by decide +kernel
theorem dL_law__2593 : decode cL_law_ 2593 = .ok (.aload_n 2, 1) := by decide +kernel
theorem dL_law__2594 : decode cL_law_ 2594 = .ok (.aload_n 0, 1) := by decide +kernel
theorem dL_law__2595 : decode cL_law_ 2595 = .ok (.iload 4, 2) := by decide +kernel
theorem dL_law__2597 : decode cL_law_ 2597 = .ok (.iconst 1, 1) := by decide +kernel
theorem dL_law__2598 : decode cL_law_ 2598 = .ok (.iadd, 1) := by decide +kernel
theorem dL_law__2599 : decode cL_law_ 2599 = .ok (.iaload, 1) := by decide +kernel
theorem dL_law__2600 : decode cL_law_ 2600 = .ok (.aload_n 0, 1) := by decide +kernel
theorem dL_law__2601 : decode cL_law_ 2601 = .ok (.iload 4, 2) := by decide +kernel
theorem dL_law__2603 : decode cL_law_ 2603 = .ok (.iconst 2, 1) := by decide +kernel
theorem dL_law__2604 : decode cL_law_ 2604 = .ok (.iadd, 1) := by decide +kernel
theorem dL_law__2605 : decode cL_law_ 2605 = .ok (.iaload, 1) := by decide +kernel
theorem dL_law__2606 : decode cL_law_ 2606 = .ok (.aload_n 0, 1) := by decide +kernel
theorem dL_law__2607 : decode cL_law_ 2607 = .ok (.iload 4, 2) := by decide +kernel
theorem dL_law__2609 : decode cL_law_ 2609 = .ok (.iconst 3, 1) := by decide +kernel
theorem dL_law__2610 : decode cL_law_ 2610 = .ok (.iadd, 1) := by decide +kernel
theorem dL_law__2611 : decode cL_law_ 2611 = .ok (.iaload, 1) := by decide +kernel
theorem dL_law__2612 : decode cL_law_ 2612 = .ok (.aload_n 0, 1) := by decide +kernel
theorem dL_law__2613 : decode cL_law_ 2613 = .ok (.iload 4, 2) := by decide +kernel
theorem dL_law__2615 : decode cL_law_ 2615 = .ok (.iconst 4, 1) := by decide +kernel
theorem dL_law__2616 : decode cL_law_ 2616 = .ok (.iadd, 1) := by decide +kernel
theorem dL_law__2617 : decode cL_law_ 2617 = .ok (.iaload, 1) := by decide +kernel
theorem dL_law__2618 : decode cL_law_ 2618 = .ok (.aload_n 0, 1) := by decide +kernel
theorem dL_law__2619 : decode cL_law_ 2619 = .ok (.iload 4, 2) := by decide +kernel
theorem dL_law__2621 : decode cL_law_ 2621 = .ok (.iconst 5, 1) := by decide +kernel
theorem dL_law__2622 : decode cL_law_ 2622 = .ok (.iadd, 1) := by decide +kernel
theorem dL_law__2623 : decode cL_law_ 2623 = .ok (.iaload, 1) := by decide +kernel
theorem dL_law__2624 : decode cL_law_ 2624 = .ok (.aload_n 0, 1) := by decide +kernel
theorem dL_law__2625 : decode cL_law_ 2625 = .ok (.iload 4, 2) := by decide +kernel
theorem dL_law__2627 : decode cL_law_ 2627 = .ok (.bipush 6, 2) := by decide +kernel
theorem dL_law__2629 : decode cL_law_ 2629 = .ok (.iadd, 1) := by decide +kernel
theorem dL_law__2630 : decode cL_law_ 2630 = .ok (.iaload, 1) := by decide +kernel
theorem dL_law__2631 : decode cL_law_ 2631 = .ok (.invokevirtual 250, 3) := by decide +kernel
theorem dL_law__2634 : decode cL_law_ 2634 = .ok (.istore 6, 2) := by decide +kernel
theorem dL_law__2636 : decode cL_law_ 2636 = .ok (.aload_n 2, 1) := by decide +kernel
theorem dL_law__2637 : decode cL_law_ 2637 = .ok (.invokevirtual 134, 3) := by decide +kernel
theorem dL_law__2640 : decode cL_law_ 2640 = .ok (.iload 5, 2) := by decide +kernel
theorem dL_law__2642 : decode cL_law_ 2642 = .ok (.if_icmp .eq 5, 3) := by decide +kernel
theorem dL_law__2645 : decode cL_law_ 2645 = .ok (.iconst 0, 1) := by decide +kernel
theorem dL_law__2646 : decode cL_law_ 2646 = .ok (.ireturn, 1) := by decide +kernel
theorem dL_law__2647 : decode cL_law_ 2647 = .ok (.iload 5, 2) := by decide +kernel
theorem dL_law__2649 : decode cL_law_ 2649 = .ok (.ifCond .ne 15, 3) := by decide +kernel
theorem dL_law__2652 : decode cL_law_ 2652 = .ok (.aload_n 3, 1) := by decide +kernel
theorem dL_law__2653 : decode cL_law_ 2653 = .ok (.iconst 0, 1) := by decide +kernel
theorem dL_law__2654 : decode cL_law_ 2654 = .ok (.laload, 1) := by decide +kernel
theorem dL_law__2655 : decode cL_law_ 2655 = .ok (.iload 6, 2) := by decide +kernel
theorem dL_law__2657 : decode cL_law_ 2657 = .ok (.i2l, 1) := by decide +kernel
theorem dL_law__2658 : decode cL_law_ 2658 = .ok (.lcmp, 1) := by decide +kernel
theorem dL_law__2659 : decode cL_law_ 2659 = .ok (.ifCond .eq 5, 3) := by decide +kernel
theorem dL_law__2662 : decode cL_law_ 2662 = .ok (.iconst 0, 1) := by decide +kernel
theorem dL_law__2663 : decode cL_law_ 2663 = .ok (.ireturn, 1) := by decide +kernel
theorem dL_law__2664 : decode cL_law_ 2664 = .ok (.goto 79, 3) := by decide +kernel
theorem dL_law__2667 : decode cL_law_ 2667 = .ok (.aload_n 1, 1) := by decide +kernel
theorem dL_law__2668 : decode cL_law_ 2668 = .ok (.invokevirtual 251, 3) := by decide +kernel
theorem dL_law__2671 : decode cL_law_ 2671 = .ok (.aload_n 2, 1) := by decide +kernel
theorem dL_law__2672 : decode cL_law_ 2672 = .ok (.invokevirtual 254, 3) := by decide +kernel
theorem dL_law__2675 : decode cL_law_ 2675 = .ok (.if_icmp .eq 68, 3) := by decide +kernel
theorem dL_law__2678 : decode cL_law_ 2678 = .ok (.iconst 0, 1) := by decide +kernel
theorem dL_law__2679 : decode cL_law_ 2679 = .ok (.ireturn, 1) := by decide +kernel
theorem dL_law__2680 : decode cL_law_ 2680 = .ok (.aload_n 1, 1) := by decide +kernel
theorem dL_law__2681 : decode cL_law_ 2681 = .ok (.invokevirtual 255, 3) := by decide +kernel
theorem dL_law__2684 : decode cL_law_ 2684 = .ok (.aload_n 2, 1) := by decide +kernel
theorem dL_law__2685 : decode cL_law_ 2685 = .ok (.invokevirtual 258, 3) := by decide +kernel
theorem dL_law__2688 : decode cL_law_ 2688 = .ok (.if_icmp .eq 55, 3) := by decide +kernel
theorem dL_law__2691 : decode cL_law_ 2691 = .ok (.iconst 0, 1) := by decide +kernel
theorem dL_law__2692 : decode cL_law_ 2692 = .ok (.ireturn, 1) := by decide +kernel
theorem dL_law__2693 : decode cL_law_ 2693 = .ok (.aload_n 1, 1) := by decide +kernel
theorem dL_law__2694 : decode cL_law_ 2694 = .ok (.aload_n 0, 1) := by decide +kernel
theorem dL_law__2695 : decode cL_law_ 2695 = .ok (.iload 4, 2) := by decide +kernel
theorem dL_law__2697 : decode cL_law_ 2697 = .ok (.iconst 1, 1) := by decide +kernel
theorem dL_law__2698 : decode cL_law_ 2698 = .ok (.iadd, 1) := by decide +kernel
theorem dL_law__2699 : decode cL_law_ 2699 = .ok (.iaload, 1) := by decide +kernel
theorem dL_law__2700 : decode cL_law_ 2700 = .ok (.invokevirtual 259, 3) := by decide +kernel
theorem dL_law__2703 : decode cL_law_ 2703 = .ok (.aload_n 2, 1) := by decide +kernel
theorem dL_law__2704 : decode cL_law_ 2704 = .ok (.aload_n 0, 1) := by decide +kernel
theorem dL_law__2705 : decode cL_law_ 2705 = .ok (.iload 4, 2) := by decide +kernel
theorem dL_law__2707 : decode cL_law_ 2707 = .ok (.iconst 1, 1) := by decide +kernel
theorem dL_law__2708 : decode cL_law_ 2708 = .ok (.iadd, 1) := by decide +kernel
theorem dL_law__2709 : decode cL_law_ 2709 = .ok (.iaload, 1) := by decide +kernel
theorem dL_law__2710 : decode cL_law_ 2710 = .ok (.invokevirtual 262, 3) := by decide +kernel
theorem dL_law__2713 : decode cL_law_ 2713 = .ok (.if_icmp .eq 30, 3) := by decide +kernel
theorem dL_law__2716 : decode cL_law_ 2716 = .ok (.iconst 0, 1) := by decide +kernel
theorem dL_law__2717 : decode cL_law_ 2717 = .ok (.ireturn, 1) := by decide +kernel
theorem dL_law__2718 : decode cL_law_ 2718 = .ok (.aload_n 1, 1) := by decide +kernel
theorem dL_law__2719 : decode cL_law_ 2719 = .ok (.aload_n 0, 1) := by decide +kernel
theorem dL_law__2720 : decode cL_law_ 2720 = .ok (.iload 4, 2) := by decide +kernel
theorem dL_law__2722 : decode cL_law_ 2722 = .ok (.iconst 1, 1) := by decide +kernel
theorem dL_law__2723 : decode cL_law_ 2723 = .ok (.iadd, 1) := by decide +kernel
theorem dL_law__2724 : decode cL_law_ 2724 = .ok (.iaload, 1) := by decide +kernel
theorem dL_law__2725 : decode cL_law_ 2725 = .ok (.invokevirtual 263, 3) := by decide +kernel
theorem dL_law__2728 : decode cL_law_ 2728 = .ok (.aload_n 2, 1) := by decide +kernel
theorem dL_law__2729 : decode cL_law_ 2729 = .ok (.aload_n 0, 1) := by decide +kernel
theorem dL_law__2730 : decode cL_law_ 2730 = .ok (.iload 4, 2) := by decide +kernel
theorem dL_law__2732 : decode cL_law_ 2732 = .ok (.iconst 1, 1) := by decide +kernel
theorem dL_law__2733 : decode cL_law_ 2733 = .ok (.iadd, 1) := by decide +kernel
theorem dL_law__2734 : decode cL_law_ 2734 = .ok (.iaload, 1) := by decide +kernel
theorem dL_law__2735 : decode cL_law_ 2735 = .ok (.invokevirtual 266, 3) := by decide +kernel
theorem dL_law__2738 : decode cL_law_ 2738 = .ok (.if_icmp .eq 5, 3) := by decide +kernel
theorem dL_law__2741 : decode cL_law_ 2741 = .ok (.iconst 0, 1) := by decide +kernel
theorem dL_law__2742 : decode cL_law_ 2742 = .ok (.ireturn, 1) := by decide +kernel
theorem dL_law__2743 : decode cL_law_ 2743 = .ok (.iinc 4 9, 3) := by decide +kernel
theorem dL_law__2746 : decode cL_law_ 2746 = .ok (.goto (-2723), 3) := by decide +kernel
theorem dL_law__2749 : decode cL_law_ 2749 = .ok (.iconst 1, 1) := by decide +kernel
theorem dL_law__2750 : decode cL_law_ 2750 = .ok (.ireturn, 1) := by decide +kernel
