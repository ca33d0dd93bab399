/-! the law, its bytes -/
theorem dL_law__2524 : decode cL_law_ 2524 = .ok (.iload 4, 2) := by decide +kernel
theorem dL_law__2526 : decode cL_law_ 2526 = .ok (.iconst 2, 1) := by decide +kernel
theorem dL_law__2527 : decode cL_law_ 2527 = .ok (.iadd, 1) := by decide +kernel
theorem dL_law__2528 : decode cL_law_ 2528 = .ok (.iaload, 1) := by decide +kernel
theorem dL_law__2529 : decode cL_law_ 2529 = .ok (.ifCond .eq 7, 3) := by decide +kernel
theorem dL_law__2532 : decode cL_law_ 2532 = .ok (.iconst 1, 1) := by decide +kernel
theorem dL_law__2533 : decode cL_law_ 2533 = .ok (.goto 4, 3) := by decide +kernel
theorem dL_law__2536 : decode cL_law_ 2536 = .ok (.iconst 0, 1) := by decide +kernel
theorem dL_law__2537 : decode cL_law_ 2537 = .ok (.aload_n 3, 1) := by decide +kernel
theorem dL_law__2538 : decode cL_law_ 2538 = .ok (.invokestatic 275, 3) := by decide +kernel
theorem dL_law__2541 : decode cL_law_ 2541 = .ok (.istore 5, 2) := by decide +kernel
theorem dL_law__2543 : decode cL_law_ 2543 = .ok (.aload_n 2, 1) := by decide +kernel
theorem dL_law__2544 : decode cL_law_ 2544 = .ok (.aload_n 0, 1) := by decide +kernel
theorem dL_law__2545 : decode cL_law_ 2545 = .ok (.iload 4, 2) := by decide +kernel
theorem dL_law__2547 : decode cL_law_ 2547 = .ok (.iconst 1, 1) := by decide +kernel
theorem dL_law__2548 : decode cL_law_ 2548 = .ok (.iadd, 1) := by decide +kernel
theorem dL_law__2549 : decode cL_law_ 2549 = .ok (.iaload, 1) := by decide +kernel
theorem dL_law__2550 : decode cL_law_ 2550 = .ok (.aload_n 0, 1) := by decide +kernel
theorem dL_law__2551 : decode cL_law_ 2551 = .ok (.iload 4, 2) := by decide +kernel
theorem dL_law__2553 : decode cL_law_ 2553 = .ok (.iconst 2, 1) := by decide +kernel
theorem dL_law__2554 : decode cL_law_ 2554 = .ok (.iadd, 1) := by decide +kernel
theorem dL_law__2555 : decode cL_law_ 2555 = .ok (.iaload, 1) := by decide +kernel
theorem dL_law__2556 : decode cL_law_ 2556 = .ok (.ifCond .eq 7, 3) := by decide +kernel
theorem dL_law__2559 : decode cL_law_ 2559 = .ok (.iconst 1, 1) := by decide +kernel
theorem dL_law__2560 : decode cL_law_ 2560 = .ok (.goto 4, 3) := by decide +kernel
theorem dL_law__2563 : decode cL_law_ 2563 = .ok (.iconst 0, 1) := by decide +kernel
theorem dL_law__2564 : decode cL_law_ 2564 = .ok (.invokevirtual 277, 3) := by decide +kernel
theorem dL_law__2567 : decode cL_law_ 2567 = .ok (.istore 6, 2) := by decide +kernel
theorem dL_law__2569 : decode cL_law_ 2569 = .ok (.aload_n 2, 1) := by decide +kernel
theorem dL_law__2570 : decode cL_law_ 2570 = .ok (.invokevirtual 136, 3) := by decide +kernel
theorem dL_law__2573 : decode cL_law_ 2573 = .ok (.iload 5, 2) := by decide +kernel
theorem dL_law__2575 : decode cL_law_ 2575 = .ok (.if_icmp .eq 5, 3) := by decide +kernel
theorem dL_law__2580 : decode cL_law_ 2580 = .ok (.iload 5, 2) := by decide +kernel
theorem dL_law__2582 : decode cL_law_ 2582 = .ok (.ifCond .ne 15, 3) := by decide +kernel
theorem dL_law__2585 : decode cL_law_ 2585 = .ok (.aload_n 3, 1) := by decide +kernel
theorem dL_law__2586 : decode cL_law_ 2586 = .ok (.iconst 0, 1) := by decide +kernel
theorem dL_law__2587 : decode cL_law_ 2587 = .ok (.laload, 1) := by decide +kernel
theorem dL_law__2588 : decode cL_law_ 2588 = .ok (.iload 6, 2) := by decide +kernel
theorem dL_law__2590 : decode cL_law_ 2590 = .ok (.i2l, 1) := by decide +kernel
theorem dL_law__2591 : decode cL_law_ 2591 = .ok (.lcmp, 1) := by decide +kernel
theorem dL_law__2592 : decode cL_law_ 2592 = .ok (.ifCond .eq 5, 3) := by decide +kernel
theorem dL_law__2597 : decode cL_law_ 2597 = .ok (.goto 158, 3) := by decide +kernel
theorem dL_law__2600 : decode cL_law_ 2600 = .ok (.aload_n 1, 1) := by decide +kernel
theorem dL_law__2601 : decode cL_law_ 2601 = .ok (.aload_n 0, 1) := by decide +kernel
theorem dL_law__2602 : decode cL_law_ 2602 = .ok (.iload 4, 2) := by decide +kernel
theorem dL_law__2604 : decode cL_law_ 2604 = .ok (.iconst 1, 1) := by decide +kernel
theorem dL_law__2605 : decode cL_law_ 2605 = .ok (.iadd, 1) := by decide +kernel
theorem dL_law__2606 : decode cL_law_ 2606 = .ok (.iaload, 1) := by decide +kernel
theorem dL_law__2607 : decode cL_law_ 2607 = .ok (.aload_n 0, 1) := by decide +kernel
theorem dL_law__2608 : decode cL_law_ 2608 = .ok (.iload 4, 2) := by decide +kernel
theorem dL_law__2610 : decode cL_law_ 2610 = .ok (.iconst 2, 1) := by decide +kernel
theorem dL_law__2611 : decode cL_law_ 2611 = .ok (.iadd, 1) := by decide +kernel
theorem dL_law__2612 : decode cL_law_ 2612 = .ok (.iaload, 1) := by decide +kernel
theorem dL_law__2613 : decode cL_law_ 2613 = .ok (.aload_n 3, 1) := by decide +kernel
theorem dL_law__2614 : decode cL_law_ 2614 = .ok (.invokestatic 278, 3) := by decide +kernel
theorem dL_law__2617 : decode cL_law_ 2617 = .ok (.istore 5, 2) := by decide +kernel
theorem dL_law__2619 : decode cL_law_ 2619 = .ok (.aload_n 2, 1) := by decide +kernel
theorem dL_law__2620 : decode cL_law_ 2620 = .ok (.aload_n 0, 1) := by decide +kernel
theorem dL_law__2621 : decode cL_law_ 2621 = .ok (.iload 4, 2) := by decide +kernel
theorem dL_law__2623 : decode cL_law_ 2623 = .ok (.iconst 1, 1) := by decide +kernel
theorem dL_law__2624 : decode cL_law_ 2624 = .ok (.iadd, 1) := by decide +kernel
theorem dL_law__2625 : decode cL_law_ 2625 = .ok (.iaload, 1) := by decide +kernel
theorem dL_law__2626 : decode cL_law_ 2626 = .ok (.aload_n 0, 1) := by decide +kernel
theorem dL_law__2627 : decode cL_law_ 2627 = .ok (.iload 4, 2) := by decide +kernel
theorem dL_law__2629 : decode cL_law_ 2629 = .ok (.iconst 2, 1) := by decide +kernel
theorem dL_law__2630 : decode cL_law_ 2630 = .ok (.iadd, 1) := by decide +kernel
theorem dL_law__2631 : decode cL_law_ 2631 = .ok (.iaload, 1) := by decide +kernel
theorem dL_law__2632 : decode cL_law_ 2632 = .ok (.invokevirtual 280, 3) := by decide +kernel
theorem dL_law__2635 : decode cL_law_ 2635 = .ok (.istore 6, 2) := by decide +kernel
theorem dL_law__2637 : decode cL_law_ 2637 = .ok (.aload_n 2, 1) := by decide +kernel
theorem dL_law__2638 : decode cL_law_ 2638 = .ok (.invokevirtual 136, 3) := by decide +kernel
theorem dL_law__2641 : decode cL_law_ 2641 = .ok (.iload 5, 2) := by decide +kernel
theorem dL_law__2643 : decode cL_law_ 2643 = .ok (.if_icmp .eq 5, 3) := by decide +kernel
theorem dL_law__2648 : decode cL_law_ 2648 = .ok (.iload 5, 2) := by decide +kernel
theorem dL_law__2650 : decode cL_law_ 2650 = .ok (.ifCond .ne 15, 3) := by decide +kernel
theorem dL_law__2653 : decode cL_law_ 2653 = .ok (.aload_n 3, 1) := by decide +kernel
theorem dL_law__2654 : decode cL_law_ 2654 = .ok (.iconst 0, 1) := by decide +kernel
theorem dL_law__2655 : decode cL_law_ 2655 = .ok (.laload, 1) := by decide +kernel
theorem dL_law__2656 : decode cL_law_ 2656 = .ok (.iload 6, 2) := by decide +kernel
theorem dL_law__2658 : decode cL_law_ 2658 = .ok (.i2l, 1) := by decide +kernel
theorem dL_law__2659 : decode cL_law_ 2659 = .ok (.lcmp, 1) := by decide +kernel
theorem dL_law__2660 : decode cL_law_ 2660 = .ok (.ifCond .eq 5, 3) := by decide +kernel
theorem dL_law__2665 : decode cL_law_ 2665 = .ok (.goto 90, 3) := by decide +kernel
theorem dL_law__2668 : decode cL_law_ 2668 = .ok (.aload_n 1, 1) := by decide +kernel
theorem dL_law__2669 : decode cL_law_ 2669 = .ok (.aload_n 0, 1) := by decide +kernel
theorem dL_law__2670 : decode cL_law_ 2670 = .ok (.iload 4, 2) := by decide +kernel
theorem dL_law__2672 : decode cL_law_ 2672 = .ok (.iconst 1, 1) := by decide +kernel
theorem dL_law__2673 : decode cL_law_ 2673 = .ok (.iadd, 1) := by decide +kernel
theorem dL_law__2674 : decode cL_law_ 2674 = .ok (.iaload, 1) := by decide +kernel
theorem dL_law__2675 : decode cL_law_ 2675 = .ok (.invokevirtual 281, 3) := by decide +kernel
theorem dL_law__2678 : decode cL_law_ 2678 = .ok (.aload_n 2, 1) := by decide +kernel
theorem dL_law__2679 : decode cL_law_ 2679 = .ok (.aload_n 0, 1) := by decide +kernel
theorem dL_law__2680 : decode cL_law_ 2680 = .ok (.iload 4, 2) := by decide +kernel
theorem dL_law__2682 : decode cL_law_ 2682 = .ok (.iconst 1, 1) := by decide +kernel
theorem dL_law__2683 : decode cL_law_ 2683 = .ok (.iadd, 1) := by decide +kernel
theorem dL_law__2684 : decode cL_law_ 2684 = .ok (.iaload, 1) := by decide +kernel
theorem dL_law__2685 : decode cL_law_ 2685 = .ok (.invokevirtual 284, 3) := by decide +kernel
theorem dL_law__2688 : decode cL_law_ 2688 = .ok (.if_icmp .eq 67, 3) := by decide +kernel
theorem dL_law__2693 : decode cL_law_ 2693 = .ok (.aload_n 1, 1) := by decide +kernel
theorem dL_law__2694 : decode cL_law_ 2694 = .ok (.invokevirtual 285, 3) := by decide +kernel
theorem dL_law__2697 : decode cL_law_ 2697 = .ok (.aload_n 2, 1) := by decide +kernel
theorem dL_law__2698 : decode cL_law_ 2698 = .ok (.invokevirtual 288, 3) := by decide +kernel
theorem dL_law__2701 : decode cL_law_ 2701 = .ok (.if_icmp .eq 54, 3) := by decide +kernel
theorem dL_law__2706 : decode cL_law_ 2706 = .ok (.aload_n 1, 1) := by decide +kernel
theorem dL_law__2707 : decode cL_law_ 2707 = .ok (.invokevirtual 289, 3) := by decide +kernel
theorem dL_law__2710 : decode cL_law_ 2710 = .ok (.aload_n 2, 1) := by decide +kernel
theorem dL_law__2711 : decode cL_law_ 2711 = .ok (.invokevirtual 292, 3) := by decide +kernel
theorem dL_law__2714 : decode cL_law_ 2714 = .ok (.goto 41, 3) := by decide +kernel
theorem dL_law__2717 : decode cL_law_ 2717 = .ok (.aload_n 1, 1) := by decide +kernel
theorem dL_law__2718 : decode cL_law_ 2718 = .ok (.invokevirtual 293, 3) := by decide +kernel
theorem dL_law__2721 : decode cL_law_ 2721 = .ok (.aload_n 2, 1) := by decide +kernel
theorem dL_law__2722 : decode cL_law_ 2722 = .ok (.invokevirtual 296, 3) := by decide +kernel
theorem dL_law__2725 : decode cL_law_ 2725 = .ok (.if_icmp .eq 30, 3) := by decide +kernel
theorem dL_law__2730 : decode cL_law_ 2730 = .ok (.aload_n 1, 1) := by decide +kernel
theorem dL_law__2731 : decode cL_law_ 2731 = .ok (.aload_n 0, 1) := by decide +kernel
theorem dL_law__2732 : decode cL_law_ 2732 = .ok (.iload 4, 2) := by decide +kernel
theorem dL_law__2734 : decode cL_law_ 2734 = .ok (.iconst 1, 1) := by decide +kernel
theorem dL_law__2735 : decode cL_law_ 2735 = .ok (.iadd, 1) := by decide +kernel
theorem dL_law__2736 : decode cL_law_ 2736 = .ok (.iaload, 1) := by decide +kernel
theorem dL_law__2737 : decode cL_law_ 2737 = .ok (.invokevirtual 297, 3) := by decide +kernel
theorem dL_law__2740 : decode cL_law_ 2740 = .ok (.aload_n 2, 1) := by decide +kernel
theorem dL_law__2741 : decode cL_law_ 2741 = .ok (.aload_n 0, 1) := by decide +kernel
theorem dL_law__2742 : decode cL_law_ 2742 = .ok (.iload 4, 2) := by decide +kernel
theorem dL_law__2744 : decode cL_law_ 2744 = .ok (.iconst 1, 1) := by decide +kernel
theorem dL_law__2745 : decode cL_law_ 2745 = .ok (.iadd, 1) := by decide +kernel
theorem dL_law__2746 : decode cL_law_ 2746 = .ok (.iaload, 1) := by decide +kernel
theorem dL_law__2747 : decode cL_law_ 2747 = .ok (.invokevirtual 300, 3) := by decide +kernel
theorem dL_law__2750 : decode cL_law_ 2750 = .ok (.if_icmp .eq 5, 3) := by decide +kernel
theorem dL_law__2755 : decode cL_law_ 2755 = .ok (.iinc 4 6, 3) := by decide +kernel
theorem dL_law__2758 : decode cL_law_ 2758 = .ok (.goto (-2735), 3) := by decide +kernel
theorem dL_law__2761 : decode cL_law_ 2761 = .ok (.iconst 1, 1) := by decide +kernel
theorem dL_law__2762 : decode cL_law_ 2762 = .ok (.ireturn, 1) := by decide +kernel
