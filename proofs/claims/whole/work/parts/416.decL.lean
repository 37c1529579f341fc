theorem dL_law__2429 : decode cL_law_ 2429 = .ok (.iload 4, 2) := by decide +kernel
theorem dL_law__2431 : decode cL_law_ 2431 = .ok (.iconst 1, 1) := by decide +kernel
theorem dL_law__2432 : decode cL_law_ 2432 = .ok (.iadd, 1) := by decide +kernel
theorem dL_law__2433 : decode cL_law_ 2433 = .ok (.iaload, 1) := by decide +kernel
theorem dL_law__2434 : decode cL_law_ 2434 = .ok (.aload_n 0, 1) := by decide +kernel
theorem dL_law__2435 : decode cL_law_ 2435 = .ok (.iload 4, 2) := by decide +kernel
theorem dL_law__2437 : decode cL_law_ 2437 = .ok (.iconst 2, 1) := by decide +kernel
theorem dL_law__2438 : decode cL_law_ 2438 = .ok (.iadd, 1) := by decide +kernel
theorem dL_law__2439 : decode cL_law_ 2439 = .ok (.iaload, 1) := by decide +kernel
theorem dL_law__2440 : decode cL_law_ 2440 = .ok (.aload_n 3, 1) := by decide +kernel
theorem dL_law__2441 : decode cL_law_ 2441 = .ok (.invokestatic 237, 3) := by decide +kernel
theorem dL_law__2444 : decode cL_law_ 2444 = .ok (.istore 5, 2) := by decide +kernel
theorem dL_law__2446 : decode cL_law_ 2446 = .ok (.aload_n 2, 1) := by decide +kernel
theorem dL_law__2447 : decode cL_law_ 2447 = .ok (.aload_n 0, 1) := by decide +kernel
theorem dL_law__2448 : decode cL_law_ 2448 = .ok (.iload 4, 2) := by decide +kernel
theorem dL_law__2450 : decode cL_law_ 2450 = .ok (.iconst 1, 1) := by decide +kernel
theorem dL_law__2451 : decode cL_law_ 2451 = .ok (.iadd, 1) := by decide +kernel
theorem dL_law__2452 : decode cL_law_ 2452 = .ok (.iaload, 1) := by decide +kernel
theorem dL_law__2453 : decode cL_law_ 2453 = .ok (.aload_n 0, 1) := by decide +kernel
theorem dL_law__2454 : decode cL_law_ 2454 = .ok (.iload 4, 2) := by decide +kernel
theorem dL_law__2456 : decode cL_law_ 2456 = .ok (.iconst 2, 1) := by decide +kernel
theorem dL_law__2457 : decode cL_law_ 2457 = .ok (.iadd, 1) := by decide +kernel
theorem dL_law__2458 : decode cL_law_ 2458 = .ok (.iaload, 1) := by decide +kernel
theorem dL_law__2459 : decode cL_law_ 2459 = .ok (.invokevirtual 239, 3) := by decide +kernel
theorem dL_law__2462 : decode cL_law_ 2462 = .ok (.istore 6, 2) := by decide +kernel
theorem dL_law__2464 : decode cL_law_ 2464 = .ok (.aload_n 2, 1) := by decide +kernel
theorem dL_law__2465 : decode cL_law_ 2465 = .ok (.invokevirtual 134, 3) := by decide +kernel
theorem dL_law__2468 : decode cL_law_ 2468 = .ok (.iload 5, 2) := by decide +kernel
theorem dL_law__2470 : decode cL_law_ 2470 = .ok (.if_icmp .eq 5, 3) := by decide +kernel
theorem dL_law__2473 : decode cL_law_ 2473 = .ok (.iconst 0, 1) := by decide +kernel
theorem dL_law__2474 : decode cL_law_ 2474 = .ok (.ireturn, 1) := by decide +kernel
theorem dL_law__2475 : decode cL_law_ 2475 = .ok (.iload 5, 2) := by decide +kernel
theorem dL_law__2477 : decode cL_law_ 2477 = .ok (.ifCond .ne 15, 3) := by decide +kernel
theorem dL_law__2480 : decode cL_law_ 2480 = .ok (.aload_n 3, 1) := by decide +kernel
theorem dL_law__2481 : decode cL_law_ 2481 = .ok (.iconst 0, 1) := by decide +kernel
theorem dL_law__2482 : decode cL_law_ 2482 = .ok (.laload, 1) := by decide +kernel
theorem dL_law__2483 : decode cL_law_ 2483 = .ok (.iload 6, 2) := by decide +kernel
theorem dL_law__2485 : decode cL_law_ 2485 = .ok (.i2l, 1) := by decide +kernel
theorem dL_law__2486 : decode cL_law_ 2486 = .ok (.lcmp, 1) := by decide +kernel
theorem dL_law__2487 : decode cL_law_ 2487 = .ok (.ifCond .eq 5, 3) := by decide +kernel
theorem dL_law__2490 : decode cL_law_ 2490 = .ok (.iconst 0, 1) := by decide +kernel
theorem dL_law__2491 : decode cL_law_ 2491 = .ok (.ireturn, 1) := by decide +kernel
theorem dL_law__2492 : decode cL_law_ 2492 = .ok (.goto 315, 3) := by decide +kernel
theorem dL_law__2495 : decode cL_law_ 2495 = .ok (.aload_n 1, 1) := by decide +kernel
theorem dL_law__2496 : decode cL_law_ 2496 = .ok (.aload_n 0, 1) := by decide +kernel
theorem dL_law__2497 : decode cL_law_ 2497 = .ok (.iload 4, 2) := by decide +kernel
theorem dL_law__2499 : decode cL_law_ 2499 = .ok (.iconst 1, 1) := by decide +kernel
theorem dL_law__2500 : decode cL_law_ 2500 = .ok (.iadd, 1) := by decide +kernel
theorem dL_law__2501 : decode cL_law_ 2501 = .ok (.iaload, 1) := by decide +kernel
theorem dL_law__2502 : decode cL_law_ 2502 = .ok (.aload_n 0, 1) := by decide +kernel
theorem dL_law__2503 : decode cL_law_ 2503 = .ok (.iload 4, 2) := by decide +kernel
theorem dL_law__2505 : decode cL_law_ 2505 = .ok (.iconst 2, 1) := by decide +kernel
theorem dL_law__2506 : decode cL_law_ 2506 = .ok (.iadd, 1) := by decide +kernel
theorem dL_law__2507 : decode cL_law_ 2507 = .ok (.iaload, 1) := by decide +kernel
theorem dL_law__2508 : decode cL_law_ 2508 = .ok (.aload_n 0, 1) := by decide +kernel
theorem dL_law__2509 : decode cL_law_ 2509 = .ok (.iload 4, 2) := by decide +kernel
theorem dL_law__2511 : decode cL_law_ 2511 = .ok (.iconst 3, 1) := by decide +kernel
theorem dL_law__2512 : decode cL_law_ 2512 = .ok (.iadd, 1) := by decide +kernel
theorem dL_law__2513 : decode cL_law_ 2513 = .ok (.iaload, 1) := by decide +kernel
theorem dL_law__2514 : decode cL_law_ 2514 = .ok (.aload_n 0, 1) := by decide +kernel
theorem dL_law__2515 : decode cL_law_ 2515 = .ok (.iload 4, 2) := by decide +kernel
theorem dL_law__2517 : decode cL_law_ 2517 = .ok (.iconst 4, 1) := by decide +kernel
theorem dL_law__2518 : decode cL_law_ 2518 = .ok (.iadd, 1) := by decide +kernel
theorem dL_law__2519 : decode cL_law_ 2519 = .ok (.iaload, 1) := by decide +kernel
theorem dL_law__2520 : decode cL_law_ 2520 = .ok (.aload_n 0, 1) := by decide +kernel
theorem dL_law__2521 : decode cL_law_ 2521 = .ok (.iload 4, 2) := by decide +kernel
theorem dL_law__2523 : decode cL_law_ 2523 = .ok (.iconst 5, 1) := by decide +kernel
theorem dL_law__2524 : decode cL_law_ 2524 = .ok (.iadd, 1) := by decide +kernel
theorem dL_law__2525 : decode cL_law_ 2525 = .ok (.iaload, 1) := by decide +kernel
theorem dL_law__2526 : decode cL_law_ 2526 = .ok (.aload_n 3, 1) := by decide +kernel
theorem dL_law__2527 : decode cL_law_ 2527 = .ok (.invokestatic 240, 3) := by decide +kernel
theorem dL_law__2530 : decode cL_law_ 2530 = .ok (.istore 5, 2) := by decide +kernel
theorem dL_law__2532 : decode cL_law_ 2532 = .ok (.aload_n 2, 1) := by decide +kernel
theorem dL_law__2533 : decode cL_law_ 2533 = .ok (.aload_n 0, 1) := by decide +kernel
theorem dL_law__2534 : decode cL_law_ 2534 = .ok (.iload 4, 2) := by decide +kernel
theorem dL_law__2536 : decode cL_law_ 2536 = .ok (.iconst 1, 1) := by decide +kernel
theorem dL_law__2537 : decode cL_law_ 2537 = .ok (.iadd, 1) := by decide +kernel
theorem dL_law__2538 : decode cL_law_ 2538 = .ok (.iaload, 1) := by decide +kernel
theorem dL_law__2539 : decode cL_law_ 2539 = .ok (.aload_n 0, 1) := by decide +kernel
theorem dL_law__2540 : decode cL_law_ 2540 = .ok (.iload 4, 2) := by decide +kernel
theorem dL_law__2542 : decode cL_law_ 2542 = .ok (.iconst 2, 1) := by decide +kernel
theorem dL_law__2543 : decode cL_law_ 2543 = .ok (.iadd, 1) := by decide +kernel
theorem dL_law__2544 : decode cL_law_ 2544 = .ok (.iaload, 1) := by decide +kernel
theorem dL_law__2545 : decode cL_law_ 2545 = .ok (.aload_n 0, 1) := by decide +kernel
theorem dL_law__2546 : decode cL_law_ 2546 = .ok (.iload 4, 2) := by decide +kernel
theorem dL_law__2548 : decode cL_law_ 2548 = .ok (.iconst 3, 1) := by decide +kernel
theorem dL_law__2549 : decode cL_law_ 2549 = .ok (.iadd, 1) := by decide +kernel
theorem dL_law__2550 : decode cL_law_ 2550 = .ok (.iaload, 1) := by decide +kernel
theorem dL_law__2551 : decode cL_law_ 2551 = .ok (.aload_n 0, 1) := by decide +kernel
theorem dL_law__2552 : decode cL_law_ 2552 = .ok (.iload 4, 2) := by decide +kernel
theorem dL_law__2554 : decode cL_law_ 2554 = .ok (.iconst 4, 1) := by decide +kernel
theorem dL_law__2555 : decode cL_law_ 2555 = .ok (.iadd, 1) := by decide +kernel
theorem dL_law__2556 : decode cL_law_ 2556 = .ok (.iaload, 1) := by decide +kernel
theorem dL_law__2557 : decode cL_law_ 2557 = .ok (.aload_n 0, 1) := by decide +kernel
theorem dL_law__2558 : decode cL_law_ 2558 = .ok (.iload 4, 2) := by decide +kernel
theorem dL_law__2560 : decode cL_law_ 2560 = .ok (.iconst 5, 1) := by decide +kernel
theorem dL_law__2561 : decode cL_law_ 2561 = .ok (.iadd, 1) := by decide +kernel
theorem dL_law__2562 : decode cL_law_ 2562 = .ok (.iaload, 1) := by decide +kernel
theorem dL_law__2563 : decode cL_law_ 2563 = .ok (.invokevirtual 243, 3) := by decide +kernel
theorem dL_law__2566 : decode cL_law_ 2566 = .ok (.istore 6, 2) := by decide +kernel
theorem dL_law__2568 : decode cL_law_ 2568 = .ok (.aload_n 2, 1) := by decide +kernel
theorem dL_law__2569 : decode cL_law_ 2569 = .ok (.invokevirtual 134, 3) := by decide +kernel
theorem dL_law__2572 : decode cL_law_ 2572 = .ok (.iload 5, 2) := by decide +kernel
theorem dL_law__2574 : decode cL_law_ 2574 = .ok (.if_icmp .eq 5, 3) := by decide +kernel
theorem dL_law__2577 : decode cL_law_ 2577 = .ok (.iconst 0, 1) := by decide +kernel
theorem dL_law__2578 : decode cL_law_ 2578 = .ok (.ireturn, 1) := by decide +kernel
theorem dL_law__2579 : decode cL_law_ 2579 = .ok (.iload 5, 2) := by decide +kernel
theorem dL_law__2581 : decode cL_law_ 2581 = .ok (.ifCond .ne 15, 3) := by decide +kernel
theorem dL_law__2584 : decode cL_law_ 2584 = .ok (.aload_n 3, 1) := by decide +kernel
theorem dL_law__2585 : decode cL_law_ 2585 = .ok (.iconst 0, 1) := by decide +kernel
theorem dL_law__2586 : decode cL_law_ 2586 = .ok (.laload, 1) := by decide +kernel
theorem dL_law__2587 : decode cL_law_ 2587 = .ok (.iload 6, 2) := by decide +kernel
theorem dL_law__2589 : decode cL_law_ 2589 = .ok (.i2l, 1) := by decide +kernel
theorem dL_law__2590 : decode cL_law_ 2590 = .ok (.lcmp, 1) := by decide +kernel
theorem dL_law__2591 : decode cL_law_ 2591 = .ok (.ifCond .eq 5, 3) := by decide +kernel
theorem dL_law__2594 : decode cL_law_ 2594 = .ok (.iconst 0, 1) := by decide +kernel
theorem dL_law__2595 : decode cL_law_ 2595 = .ok (.ireturn, 1) := by decide +kernel
theorem dL_law__2596 : decode cL_law_ 2596 = .ok (.goto 211, 3) := by decide +kernel
theorem dL_law__2599 : decode cL_law_ 2599 = .ok (.aload_n 1, 1) := by decide +kernel
theorem dL_law__2600 : decode cL_law_ 2600 = .ok (.aload_n 0, 1) := by decide +kernel
theorem dL_law__2601 : decode cL_law_ 2601 = .ok (.iload 4, 2) := by decide +kernel
theorem dL_law__2603 : decode cL_law_ 2603 = .ok (.iconst 1, 1) := by decide +kernel
theorem dL_law__2604 : decode cL_law_ 2604 = .ok (.iadd, 1) := by decide +kernel
theorem dL_law__2605 : decode cL_law_ 2605 = .ok (.iaload, 1) := by decide +kernel
theorem dL_law__2606 : decode cL_law_ 2606 = .ok (.aload_n 0, 1) := by decide +kernel
theorem dL_law__2607 : decode cL_law_ 2607 = .ok (.iload 4, 2) := by decide +kernel
theorem dL_law__2609 : decode cL_law_ 2609 = .ok (.iconst 2, 1) := by decide +kernel
theorem dL_law__2610 : decode cL_law_ 2610 = .ok (.iadd, 1) := by decide +kernel
theorem dL_law__2611 : decode cL_law_ 2611 = .ok (.iaload, 1) := by decide +kernel
theorem dL_law__2612 : decode cL_law_ 2612 = .ok (.aload_n 0, 1) := by decide +kernel
theorem dL_law__2613 : decode cL_law_ 2613 = .ok (.iload 4, 2) := by decide +kernel
theorem dL_law__2615 : decode cL_law_ 2615 = .ok (.iconst 3, 1) := by decide +kernel
theorem dL_law__2616 : decode cL_law_ 2616 = .ok (.iadd, 1) := by decide +kernel
theorem dL_law__2617 : decode cL_law_ 2617 = .ok (.iaload, 1) := by decide +kernel
theorem dL_law__2618 : decode cL_law_ 2618 = .ok (.aload_n 0, 1) := by decide +kernel
theorem dL_law__2619 : decode cL_law_ 2619 = .ok (.iload 4, 2) := by decide +kernel
theorem dL_law__2621 : decode cL_law_ 2621 = .ok (.iconst 4, 1) := by decide +kernel
theorem dL_law__2622 : decode cL_law_ 2622 = .ok (.iadd, 1) := by decide +kernel
theorem dL_law__2623 : decode cL_law_ 2623 = .ok (.iaload, 1) := by decide +kernel
theorem dL_law__2624 : decode cL_law_ 2624 = .ok (.aload_n 0, 1) := by decide +kernel
theorem dL_law__2625 : decode cL_law_ 2625 = .ok (.iload 4, 2) := by decide +kernel
theorem dL_law__2627 : decode cL_law_ 2627 = .ok (.iconst 5, 1) := by decide +kernel
theorem dL_law__2628 : decode cL_law_ 2628 = .ok (.iadd, 1) := by decide +kernel
theorem dL_law__2629 : decode cL_law_ 2629 = .ok (.iaload, 1) := by decide +kernel
theorem dL_law__2630 : decode cL_law_ 2630 = .ok (.aload_n 0, 1) := by decide +kernel
theorem dL_law__2631 : decode cL_law_ 2631 = .ok (.iload 4, 2) := by decide +kernel
theorem dL_law__2633 : decode cL_law_ 2633 = .ok (.bipush 6, 2) := by decide +kernel
theorem dL_law__2635 : decode cL_law_ 2635 = .ok (.iadd, 1) := by decide +kernel
theorem dL_law__2636 : decode cL_law_ 2636 = .ok (.iaload, 1) := by decide +kernel
theorem dL_law__2637 : decode cL_law_ 2637 = .ok (.aload_n 0, 1) := by decide +kernel
theorem dL_law__2638 : decode cL_law_ 2638 = .ok (.iload 4, 2) := by decide +kernel
theorem dL_law__2640 : decode cL_law_ 2640 = .ok (.bipush 7, 2) := by decide +kernel
theorem dL_law__2642 : decode cL_law_ 2642 = .ok (.iadd, 1) := by decide +kernel
theorem dL_law__2643 : decode cL_law_ 2643 = .ok (.iaload, 1) := by decide +kernel
theorem dL_law__2644 : decode cL_law_ 2644 = .ok (.aload_n 3, 1) := by decide +kernel
theorem dL_law__2645 : decode cL_law_ 2645 = .ok (.invokestatic 244, 3) := by decide +kernel
theorem dL_law__2648 : decode cL_law_ 2648 = .ok (.istore 5, 2) := by decide +kernel
theorem dL_law__2650 : decode cL_law_ 2650 = .ok (.aload_n 2, 1) := by decide +kernel
theorem dL_law__2651 : decode cL_law_ 2651 = .ok (.aload_n 0, 1) := by decide +kernel
theorem dL_law__2652 : decode cL_law_ 2652 = .ok (.iload 4, 2) := by decide +kernel
theorem dL_law__2654 : decode cL_law_ 2654 = .ok (.iconst 1, 1) := by decide +kernel
theorem dL_law__2655 : decode cL_law_ 2655 = .ok (.iadd, 1) := by decide +kernel
theorem dL_law__2656 : decode cL_law_ 2656 = .ok (.iaload, 1) := by decide +kernel
theorem dL_law__2657 : decode cL_law_ 2657 = .ok (.aload_n 0, 1) := by decide +kernel
theorem dL_law__2658 : decode cL_law_ 2658 = .ok (.iload 4, 2) := by decide +kernel
theorem dL_law__2660 : decode cL_law_ 2660 = .ok (.iconst 2, 1) := by decide +kernel
theorem dL_law__2661 : decode cL_law_ 2661 = .ok (.iadd, 1) := by decide +kernel
theorem dL_law__2662 : decode cL_law_ 2662 = .ok (.iaload, 1) := by decide +kernel
theorem dL_law__2663 : decode cL_law_ 2663 = .ok (.aload_n 0, 1) := by decide +kernel
theorem dL_law__2664 : decode cL_law_ 2664 = .ok (.iload 4, 2) := by decide +kernel
theorem dL_law__2666 : decode cL_law_ 2666 = .ok (.iconst 3, 1) := by decide +kernel
theorem dL_law__2667 : decode cL_law_ 2667 = .ok (.iadd, 1) := by decide +kernel
theorem dL_law__2668 : decode cL_law_ 2668 = .ok (.iaload, 1) := by decide +kernel
theorem dL_law__2669 : decode cL_law_ 2669 = .ok (.aload_n 0, 1) := by decide +kernel
theorem dL_law__2670 : decode cL_law_ 2670 = .ok (.iload 4, 2) := by decide +kernel
theorem dL_law__2672 : decode cL_law_ 2672 = .ok (.iconst 4, 1) := by decide +kernel
theorem dL_law__2673 : decode cL_law_ 2673 = .ok (.iadd, 1) := by decide +kernel
theorem dL_law__2674 : decode cL_law_ 2674 = .ok (.iaload, 1) := by decide +kernel
theorem dL_law__2675 : decode cL_law_ 2675 = .ok (.aload_n 0, 1) := by decide +kernel
theorem dL_law__2676 : decode cL_law_ 2676 = .ok (.iload 4, 2) := by decide +kernel
theorem dL_law__2678 : decode cL_law_ 2678 = .ok (.iconst 5, 1) := by decide +kernel
theorem dL_law__2679 : decode cL_law_ 2679 = .ok (.iadd, 1) := by decide +kernel
theorem dL_law__2680 : decode cL_law_ 2680 = .ok (.iaload, 1) := by decide +kernel
theorem dL_law__2681 : decode cL_law_ 2681 = .ok (.aload_n 0, 1) := by decide +kernel
theorem dL_law__2682 : decode cL_law_ 2682 = .ok (.iload 4, 2) := by decide +kernel
theorem dL_law__2684 : decode cL_law_ 2684 = .ok (.bipush 6, 2) := by decide +kernel
theorem dL_law__2686 : decode cL_law_ 2686 = .ok (.iadd, 1) := by decide +kernel
theorem dL_law__2687 : decode cL_law_ 2687 = .ok (.iaload, 1) := by decide +kernel
theorem dL_law__2688 : decode cL_law_ 2688 = .ok (.aload_n 0, 1) := by decide +kernel
theorem dL_law__2689 : decode cL_law_ 2689 = .ok (.iload 4, 2) := by decide +kernel
theorem dL_law__2691 : decode cL_law_ 2691 = .ok (.bipush 7, 2) := by decide +kernel
theorem dL_law__2693 : decode cL_law_ 2693 = .ok (.iadd, 1) := by decide +kernel
theorem dL_law__2694 : decode cL_law_ 2694 = .ok (.iaload, 1) := by decide +kernel
theorem dL_law__2695 : decode cL_law_ 2695 = .ok (.invokevirtual 247, 3) := by decide +kernel
theorem dL_law__2698 : decode cL_law_ 2698 = .ok (.istore 6, 2) := by decide +kernel
theorem dL_law__2700 : decode cL_law_ 2700 = .ok (.aload_n 2, 1) := by decide +kernel
theorem dL_law__2701 : decode cL_law_ 2701 = .ok (.invokevirtual 134, 3) := by decide +kernel
theorem dL_law__2704 : decode cL_law_ 2704 = .ok (.iload 5, 2) := by decide +kernel
theorem dL_law__2706 : decode cL_law_ 2706 = .ok (.if_icmp .eq 5, 3) := by decide +kernel
theorem dL_law__2709 : decode cL_law_ 2709 = .ok (.iconst 0, 1) := by decide +kernel
theorem dL_law__2710 : decode cL_law_ 2710 = .ok (.ireturn, 1) := by decide +kernel
theorem dL_law__2711 : decode cL_law_ 2711 = .ok (.iload 5, 2) := by decide +kernel
theorem dL_law__2713 : decode cL_law_ 2713 = .ok (.ifCond .ne 15, 3) := by decide +kernel
theorem dL_law__2716 : decode cL_law_ 2716 = .ok (.aload_n 3, 1) := by decide +kernel
theorem dL_law__2717 : decode cL_law_ 2717 = .ok (.iconst 0, 1) := by decide +kernel
theorem dL_law__2718 : decode cL_law_ 2718 = .ok (.laload, 1) := by decide +kernel
theorem dL_law__2719 : decode cL_law_ 2719 = .ok (.iload 6, 2) := by decide +kernel
theorem dL_law__2721 : decode cL_law_ 2721 = .ok (.i2l, 1) := by decide +kernel
theorem dL_law__2722 : decode cL_law_ 2722 = .ok (.lcmp, 1) := by decide +kernel
theorem dL_law__2723 : decode cL_law_ 2723 = .ok (.ifCond .eq 5, 3) := by decide +kernel
theorem dL_law__2726 : decode cL_law_ 2726 = .ok (.iconst 0, 1) := by decide +kernel
theorem dL_law__2727 : decode cL_law_ 2727 = .ok (.ireturn, 1) := by decide +kernel
theorem dL_law__2728 : decode cL_law_ 2728 = .ok (.goto 79, 3) := by decide +kernel
theorem dL_law__2731 : decode cL_law_ 2731 = .ok (.aload_n 1, 1) := by decide +kernel
theorem dL_law__2732 : decode cL_law_ 2732 = .ok (.invokevirtual 248, 3) := by decide +kernel
theorem dL_law__2735 : decode cL_law_ 2735 = .ok (.aload_n 2, 1) := by decide +kernel
theorem dL_law__2736 : decode cL_law_ 2736 = .ok (.invokevirtual 251, 3) := by decide +kernel
theorem dL_law__2739 : decode cL_law_ 2739 = .ok (.if_icmp .eq 68, 3) := by decide +kernel
theorem dL_law__2742 : decode cL_law_ 2742 = .ok (.iconst 0, 1) := by decide +kernel
theorem dL_law__2743 : decode cL_law_ 2743 = .ok (.ireturn, 1) := by decide +kernel
theorem dL_law__2744 : decode cL_law_ 2744 = .ok (.aload_n 1, 1) := by decide +kernel
theorem dL_law__2745 : decode cL_law_ 2745 = .ok (.invokevirtual 252, 3) := by decide +kernel
theorem dL_law__2748 : decode cL_law_ 2748 = .ok (.aload_n 2, 1) := by decide +kernel
theorem dL_law__2749 : decode cL_law_ 2749 = .ok (.invokevirtual 255, 3) := by decide +kernel
theorem dL_law__2752 : decode cL_law_ 2752 = .ok (.if_icmp .eq 55, 3) := by decide +kernel
theorem dL_law__2755 : decode cL_law_ 2755 = .ok (.iconst 0, 1) := by decide +kernel
theorem dL_law__2756 : decode cL_law_ 2756 = .ok (.ireturn, 1) := by decide +kernel
theorem dL_law__2757 : decode cL_law_ 2757 = .ok (.aload_n 1, 1) := by decide +kernel
theorem dL_law__2758 : decode cL_law_ 2758 = .ok (.aload_n 0, 1) := by decide +kernel
theorem dL_law__2759 : decode cL_law_ 2759 = .ok (.iload 4, 2) := by decide +kernel
theorem dL_law__2761 : decode cL_law_ 2761 = .ok (.iconst 1, 1) := by decide +kernel
theorem dL_law__2762 : decode cL_law_ 2762 = .ok (.iadd, 1) := by decide +kernel
theorem dL_law__2763 : decode cL_law_ 2763 = .ok (.iaload, 1) := by decide +kernel
theorem dL_law__2764 : decode cL_law_ 2764 = .ok (.invokevirtual 256, 3) := by decide +kernel
theorem dL_law__2767 : decode cL_law_ 2767 = .ok (.aload_n 2, 1) := by decide +kernel
theorem dL_law__2768 : decode cL_law_ 2768 = .ok (.aload_n 0, 1) := by decide +kernel
theorem dL_law__2769 : decode cL_law_ 2769 = .ok (.iload 4, 2) := by decide +kernel
theorem dL_law__2771 : decode cL_law_ 2771 = .ok (.iconst 1, 1) := by decide +kernel
theorem dL_law__2772 : decode cL_law_ 2772 = .ok (.iadd, 1) := by decide +kernel
theorem dL_law__2773 : decode cL_law_ 2773 = .ok (.iaload, 1) := by decide +kernel
theorem dL_law__2774 : decode cL_law_ 2774 = .ok (.invokevirtual 259, 3) := by decide +kernel
theorem dL_law__2777 : decode cL_law_ 2777 = .ok (.if_icmp .eq 30, 3) := by decide +kernel
theorem dL_law__2780 : decode cL_law_ 2780 = .ok (.iconst 0, 1) := by decide +kernel
theorem dL_law__2781 : decode cL_law_ 2781 = .ok (.ireturn, 1) := by decide +kernel
theorem dL_law__2782 : decode cL_law_ 2782 = .ok (.aload_n 1, 1) := by decide +kernel
theorem dL_law__2783 : decode cL_law_ 2783 = .ok (.aload_n 0, 1) := by decide +kernel
theorem dL_law__2784 : decode cL_law_ 2784 = .ok (.iload 4, 2) := by decide +kernel
theorem dL_law__2786 : decode cL_law_ 2786 = .ok (.iconst 1, 1) := by decide +kernel
theorem dL_law__2787 : decode cL_law_ 2787 = .ok (.iadd, 1) := by decide +kernel
theorem dL_law__2788 : decode cL_law_ 2788 = .ok (.iaload, 1) := by decide +kernel
