/-! the law's instructions -/
theorem dL_law_2548 : decode cL_law 2548 = .ok (.iaload, 1) := by decide +kernel
theorem dL_law_2549 : decode cL_law 2549 = .ok (.invokevirtual 309, 3) := by decide +kernel
theorem dL_law_2552 : decode cL_law 2552 = .ok (.istore 7, 2) := by decide +kernel
theorem dL_law_2554 : decode cL_law 2554 = .ok (.aload_n 2, 1) := by decide +kernel
theorem dL_law_2555 : decode cL_law 2555 = .ok (.invokevirtual 166, 3) := by decide +kernel
theorem dL_law_2558 : decode cL_law 2558 = .ok (.iload 6, 2) := by decide +kernel
theorem dL_law_2560 : decode cL_law 2560 = .ok (.if_icmp .eq 5, 3) := by decide +kernel
theorem dL_law_2563 : decode cL_law 2563 = .ok (.iconst 0, 1) := by decide +kernel
theorem dL_law_2564 : decode cL_law 2564 = .ok (.ireturn, 1) := by decide +kernel
theorem dL_law_2565 : decode cL_law 2565 = .ok (.iload 6, 2) := by decide +kernel
theorem dL_law_2567 : decode cL_law 2567 = .ok (.ifCond .ne 15, 3) := by decide +kernel
theorem dL_law_2570 : decode cL_law 2570 = .ok (.aload_n 3, 1) := by decide +kernel
theorem dL_law_2571 : decode cL_law 2571 = .ok (.iconst 0, 1) := by decide +kernel
theorem dL_law_2572 : decode cL_law 2572 = .ok (.laload, 1) := by decide +kernel
theorem dL_law_2573 : decode cL_law 2573 = .ok (.iload 7, 2) := by decide +kernel
theorem dL_law_2575 : decode cL_law 2575 = .ok (.i2l, 1) := by decide +kernel
theorem dL_law_2576 : decode cL_law 2576 = .ok (.lcmp, 1) := by decide +kernel
theorem dL_law_2577 : decode cL_law 2577 = .ok (.ifCond .eq 5, 3) := by decide +kernel
theorem dL_law_2580 : decode cL_law 2580 = .ok (.iconst 0, 1) := by decide +kernel
theorem dL_law_2581 : decode cL_law 2581 = .ok (.ireturn, 1) := by decide +kernel
theorem dL_law_2582 : decode cL_law 2582 = .ok (.goto 320, 3) := by decide +kernel
theorem dL_law_2585 : decode cL_law 2585 = .ok (.aload_n 1, 1) := by decide +kernel
theorem dL_law_2586 : decode cL_law 2586 = .ok (.invokevirtual 310, 3) := by decide +kernel
theorem dL_law_2589 : decode cL_law 2589 = .ok (.aload_n 2, 1) := by decide +kernel
theorem dL_law_2590 : decode cL_law 2590 = .ok (.invokevirtual 314, 3) := by decide +kernel
theorem dL_law_2593 : decode cL_law 2593 = .ok (.if_icmp .eq 309, 3) := by decide +kernel
theorem dL_law_2596 : decode cL_law 2596 = .ok (.iconst 0, 1) := by decide +kernel
theorem dL_law_2597 : decode cL_law 2597 = .ok (.ireturn, 1) := by decide +kernel
theorem dL_law_2598 : decode cL_law 2598 = .ok (.aload_n 1, 1) := by decide +kernel
theorem dL_law_2599 : decode cL_law 2599 = .ok (.aload_n 0, 1) := by decide +kernel
theorem dL_law_2600 : decode cL_law 2600 = .ok (.iload 5, 2) := by decide +kernel
theorem dL_law_2602 : decode cL_law 2602 = .ok (.iconst 1, 1) := by decide +kernel
theorem dL_law_2603 : decode cL_law 2603 = .ok (.iadd, 1) := by decide +kernel
theorem dL_law_2604 : decode cL_law 2604 = .ok (.iaload, 1) := by decide +kernel
theorem dL_law_2605 : decode cL_law 2605 = .ok (.i2c, 1) := by decide +kernel
theorem dL_law_2606 : decode cL_law 2606 = .ok (.aload_n 3, 1) := by decide +kernel
theorem dL_law_2607 : decode cL_law 2607 = .ok (.invokestatic 315, 3) := by decide +kernel
theorem dL_law_2610 : decode cL_law 2610 = .ok (.istore 6, 2) := by decide +kernel
theorem dL_law_2612 : decode cL_law 2612 = .ok (.aload_n 2, 1) := by decide +kernel
theorem dL_law_2613 : decode cL_law 2613 = .ok (.aload_n 0, 1) := by decide +kernel
theorem dL_law_2614 : decode cL_law 2614 = .ok (.iload 5, 2) := by decide +kernel
theorem dL_law_2616 : decode cL_law 2616 = .ok (.iconst 1, 1) := by decide +kernel
theorem dL_law_2617 : decode cL_law 2617 = .ok (.iadd, 1) := by decide +kernel
theorem dL_law_2618 : decode cL_law 2618 = .ok (.iaload, 1) := by decide +kernel
theorem dL_law_2619 : decode cL_law 2619 = .ok (.i2c, 1) := by decide +kernel
theorem dL_law_2620 : decode cL_law 2620 = .ok (.invokevirtual 318, 3) := by decide +kernel
theorem dL_law_2623 : decode cL_law 2623 = .ok (.istore 7, 2) := by decide +kernel
theorem dL_law_2625 : decode cL_law 2625 = .ok (.aload_n 2, 1) := by decide +kernel
theorem dL_law_2626 : decode cL_law 2626 = .ok (.invokevirtual 166, 3) := by decide +kernel
theorem dL_law_2629 : decode cL_law 2629 = .ok (.iload 6, 2) := by decide +kernel
theorem dL_law_2631 : decode cL_law 2631 = .ok (.if_icmp .eq 5, 3) := by decide +kernel
theorem dL_law_2634 : decode cL_law 2634 = .ok (.iconst 0, 1) := by decide +kernel
theorem dL_law_2635 : decode cL_law 2635 = .ok (.ireturn, 1) := by decide +kernel
theorem dL_law_2636 : decode cL_law 2636 = .ok (.iload 6, 2) := by decide +kernel
theorem dL_law_2638 : decode cL_law 2638 = .ok (.ifCond .ne 15, 3) := by decide +kernel
theorem dL_law_2641 : decode cL_law 2641 = .ok (.aload_n 3, 1) := by decide +kernel
theorem dL_law_2642 : decode cL_law 2642 = .ok (.iconst 0, 1) := by decide +kernel
theorem dL_law_2643 : decode cL_law 2643 = .ok (.laload, 1) := by decide +kernel
theorem dL_law_2644 : decode cL_law 2644 = .ok (.iload 7, 2) := by decide +kernel
theorem dL_law_2646 : decode cL_law 2646 = .ok (.i2l, 1) := by decide +kernel
theorem dL_law_2647 : decode cL_law 2647 = .ok (.lcmp, 1) := by decide +kernel
theorem dL_law_2648 : decode cL_law 2648 = .ok (.ifCond .eq 5, 3) := by decide +kernel
theorem dL_law_2651 : decode cL_law 2651 = .ok (.iconst 0, 1) := by decide +kernel
theorem dL_law_2652 : decode cL_law 2652 = .ok (.ireturn, 1) := by decide +kernel
theorem dL_law_2653 : decode cL_law 2653 = .ok (.goto 249, 3) := by decide +kernel
theorem dL_law_2656 : decode cL_law 2656 = .ok (.aload_n 1, 1) := by decide +kernel
theorem dL_law_2657 : decode cL_law 2657 = .ok (.aload_n 3, 1) := by decide +kernel
theorem dL_law_2658 : decode cL_law 2658 = .ok (.invokestatic 319, 3) := by decide +kernel
theorem dL_law_2661 : decode cL_law 2661 = .ok (.istore 6, 2) := by decide +kernel
theorem dL_law_2663 : decode cL_law 2663 = .ok (.aload_n 2, 1) := by decide +kernel
theorem dL_law_2664 : decode cL_law 2664 = .ok (.invokevirtual 321, 3) := by decide +kernel
theorem dL_law_2667 : decode cL_law 2667 = .ok (.istore 7, 2) := by decide +kernel
theorem dL_law_2669 : decode cL_law 2669 = .ok (.aload_n 2, 1) := by decide +kernel
theorem dL_law_2670 : decode cL_law 2670 = .ok (.invokevirtual 166, 3) := by decide +kernel
theorem dL_law_2673 : decode cL_law 2673 = .ok (.iload 6, 2) := by decide +kernel
theorem dL_law_2675 : decode cL_law 2675 = .ok (.if_icmp .eq 5, 3) := by decide +kernel
theorem dL_law_2678 : decode cL_law 2678 = .ok (.iconst 0, 1) := by decide +kernel
theorem dL_law_2679 : decode cL_law 2679 = .ok (.ireturn, 1) := by decide +kernel
theorem dL_law_2680 : decode cL_law 2680 = .ok (.iload 6, 2) := by decide +kernel
theorem dL_law_2682 : decode cL_law 2682 = .ok (.ifCond .ne 15, 3) := by decide +kernel
theorem dL_law_2685 : decode cL_law 2685 = .ok (.aload_n 3, 1) := by decide +kernel
theorem dL_law_2686 : decode cL_law 2686 = .ok (.iconst 0, 1) := by decide +kernel
theorem dL_law_2687 : decode cL_law 2687 = .ok (.laload, 1) := by decide +kernel
theorem dL_law_2688 : decode cL_law 2688 = .ok (.iload 7, 2) := by decide +kernel
theorem dL_law_2690 : decode cL_law 2690 = .ok (.i2l, 1) := by decide +kernel
theorem dL_law_2691 : decode cL_law 2691 = .ok (.lcmp, 1) := by decide +kernel
theorem dL_law_2692 : decode cL_law 2692 = .ok (.ifCond .eq 5, 3) := by decide +kernel
theorem dL_law_2695 : decode cL_law 2695 = .ok (.iconst 0, 1) := by decide +kernel
theorem dL_law_2696 : decode cL_law 2696 = .ok (.ireturn, 1) := by decide +kernel
theorem dL_law_2697 : decode cL_law 2697 = .ok (.goto 205, 3) := by decide +kernel
theorem dL_law_2700 : decode cL_law 2700 = .ok (.aload_n 1, 1) := by decide +kernel
theorem dL_law_2701 : decode cL_law 2701 = .ok (.aload_n 3, 1) := by decide +kernel
theorem dL_law_2702 : decode cL_law 2702 = .ok (.invokestatic 322, 3) := by decide +kernel
theorem dL_law_2705 : decode cL_law 2705 = .ok (.istore 6, 2) := by decide +kernel
theorem dL_law_2707 : decode cL_law 2707 = .ok (.aload_n 2, 1) := by decide +kernel
theorem dL_law_2708 : decode cL_law 2708 = .ok (.invokevirtual 324, 3) := by decide +kernel
theorem dL_law_2711 : decode cL_law 2711 = .ok (.istore 7, 2) := by decide +kernel
theorem dL_law_2713 : decode cL_law 2713 = .ok (.aload_n 2, 1) := by decide +kernel
theorem dL_law_2714 : decode cL_law 2714 = .ok (.invokevirtual 166, 3) := by decide +kernel
theorem dL_law_2717 : decode cL_law 2717 = .ok (.iload 6, 2) := by decide +kernel
theorem dL_law_2719 : decode cL_law 2719 = .ok (.if_icmp .eq 5, 3) := by decide +kernel
theorem dL_law_2722 : decode cL_law 2722 = .ok (.iconst 0, 1) := by decide +kernel
theorem dL_law_2723 : decode cL_law 2723 = .ok (.ireturn, 1) := by decide +kernel
theorem dL_law_2724 : decode cL_law 2724 = .ok (.iload 6, 2) := by decide +kernel
theorem dL_law_2726 : decode cL_law 2726 = .ok (.ifCond .ne 15, 3) := by decide +kernel
theorem dL_law_2729 : decode cL_law 2729 = .ok (.aload_n 3, 1) := by decide +kernel
theorem dL_law_2730 : decode cL_law 2730 = .ok (.iconst 0, 1) := by decide +kernel
theorem dL_law_2731 : decode cL_law 2731 = .ok (.laload, 1) := by decide +kernel
theorem dL_law_2732 : decode cL_law 2732 = .ok (.iload 7, 2) := by decide +kernel
theorem dL_law_2734 : decode cL_law 2734 = .ok (.i2l, 1) := by decide +kernel
theorem dL_law_2735 : decode cL_law 2735 = .ok (.lcmp, 1) := by decide +kernel
theorem dL_law_2736 : decode cL_law 2736 = .ok (.ifCond .eq 5, 3) := by decide +kernel
theorem dL_law_2739 : decode cL_law 2739 = .ok (.iconst 0, 1) := by decide +kernel
theorem dL_law_2740 : decode cL_law 2740 = .ok (.ireturn, 1) := by decide +kernel
theorem dL_law_2741 : decode cL_law 2741 = .ok (.goto 161, 3) := by decide +kernel
theorem dL_law_2744 : decode cL_law 2744 = .ok (.aload_n 1, 1) := by decide +kernel
theorem dL_law_2745 : decode cL_law 2745 = .ok (.aload_n 3, 1) := by decide +kernel
theorem dL_law_2746 : decode cL_law 2746 = .ok (.invokestatic 325, 3) := by decide +kernel
theorem dL_law_2749 : decode cL_law 2749 = .ok (.istore 6, 2) := by decide +kernel
theorem dL_law_2751 : decode cL_law 2751 = .ok (.aload_n 2, 1) := by decide +kernel
theorem dL_law_2752 : decode cL_law 2752 = .ok (.invokevirtual 327, 3) := by decide +kernel
theorem dL_law_2755 : decode cL_law 2755 = .ok (.istore 7, 2) := by decide +kernel
theorem dL_law_2757 : decode cL_law 2757 = .ok (.aload_n 2, 1) := by decide +kernel
theorem dL_law_2758 : decode cL_law 2758 = .ok (.invokevirtual 166, 3) := by decide +kernel
theorem dL_law_2761 : decode cL_law 2761 = .ok (.iload 6, 2) := by decide +kernel
theorem dL_law_2763 : decode cL_law 2763 = .ok (.if_icmp .eq 5, 3) := by decide +kernel
theorem dL_law_2766 : decode cL_law 2766 = .ok (.iconst 0, 1) := by decide +kernel
theorem dL_law_2767 : decode cL_law 2767 = .ok (.ireturn, 1) := by decide +kernel
theorem dL_law_2768 : decode cL_law 2768 = .ok (.iload 6, 2) := by decide +kernel
theorem dL_law_2770 : decode cL_law 2770 = .ok (.ifCond .ne 15, 3) := by decide +kernel
theorem dL_law_2773 : decode cL_law 2773 = .ok (.aload_n 3, 1) := by decide +kernel
theorem dL_law_2774 : decode cL_law 2774 = .ok (.iconst 0, 1) := by decide +kernel
theorem dL_law_2775 : decode cL_law 2775 = .ok (.laload, 1) := by decide +kernel
theorem dL_law_2776 : decode cL_law 2776 = .ok (.iload 7, 2) := by decide +kernel
theorem dL_law_2778 : decode cL_law 2778 = .ok (.i2l, 1) := by decide +kernel
theorem dL_law_2779 : decode cL_law 2779 = .ok (.lcmp, 1) := by decide +kernel
theorem dL_law_2780 : decode cL_law 2780 = .ok (.ifCond .eq 5, 3) := by decide +kernel
theorem dL_law_2783 : decode cL_law 2783 = .ok (.iconst 0, 1) := by decide +kernel
theorem dL_law_2784 : decode cL_law 2784 = .ok (.ireturn, 1) := by decide +kernel
theorem dL_law_2785 : decode cL_law 2785 = .ok (.goto 117, 3) := by decide +kernel
theorem dL_law_2788 : decode cL_law 2788 = .ok (.aload_n 1, 1) := by decide +kernel
theorem dL_law_2789 : decode cL_law 2789 = .ok (.aload_n 3, 1) := by decide +kernel
theorem dL_law_2790 : decode cL_law 2790 = .ok (.invokestatic 328, 3) := by decide +kernel
theorem dL_law_2793 : decode cL_law 2793 = .ok (.istore 6, 2) := by decide +kernel
theorem dL_law_2795 : decode cL_law 2795 = .ok (.aload_n 2, 1) := by decide +kernel
theorem dL_law_2796 : decode cL_law 2796 = .ok (.invokevirtual 330, 3) := by decide +kernel
theorem dL_law_2799 : decode cL_law 2799 = .ok (.istore 7, 2) := by decide +kernel
theorem dL_law_2801 : decode cL_law 2801 = .ok (.aload_n 2, 1) := by decide +kernel
theorem dL_law_2802 : decode cL_law 2802 = .ok (.invokevirtual 166, 3) := by decide +kernel
theorem dL_law_2805 : decode cL_law 2805 = .ok (.iload 6, 2) := by decide +kernel
theorem dL_law_2807 : decode cL_law 2807 = .ok (.if_icmp .eq 5, 3) := by decide +kernel
theorem dL_law_2810 : decode cL_law 2810 = .ok (.iconst 0, 1) := by decide +kernel
theorem dL_law_2811 : decode cL_law 2811 = .ok (.ireturn, 1) := by decide +kernel
theorem dL_law_2812 : decode cL_law 2812 = .ok (.iload 6, 2) := by decide +kernel
theorem dL_law_2814 : decode cL_law 2814 = .ok (.ifCond .ne 15, 3) := by decide +kernel
theorem dL_law_2817 : decode cL_law 2817 = .ok (.aload_n 3, 1) := by decide +kernel
theorem dL_law_2818 : decode cL_law 2818 = .ok (.iconst 0, 1) := by decide +kernel
theorem dL_law_2819 : decode cL_law 2819 = .ok (.laload, 1) := by decide +kernel
theorem dL_law_2820 : decode cL_law 2820 = .ok (.iload 7, 2) := by decide +kernel
theorem dL_law_2822 : decode cL_law 2822 = .ok (.i2l, 1) := by decide +kernel
theorem dL_law_2823 : decode cL_law 2823 = .ok (.lcmp, 1) := by decide +kernel
theorem dL_law_2824 : decode cL_law 2824 = .ok (.ifCond .eq 5, 3) := by decide +kernel
theorem dL_law_2827 : decode cL_law 2827 = .ok (.iconst 0, 1) := by decide +kernel
theorem dL_law_2828 : decode cL_law 2828 = .ok (.ireturn, 1) := by decide +kernel
theorem dL_law_2829 : decode cL_law 2829 = .ok (.goto 73, 3) := by decide +kernel
theorem dL_law_2832 : decode cL_law 2832 = .ok (.aload_n 1, 1) := by decide +kernel
theorem dL_law_2833 : decode cL_law 2833 = .ok (.invokevirtual 331, 3) := by decide +kernel
theorem dL_law_2836 : decode cL_law 2836 = .ok (.aload_n 2, 1) := by decide +kernel
theorem dL_law_2837 : decode cL_law 2837 = .ok (.invokevirtual 334, 3) := by decide +kernel
theorem dL_law_2840 : decode cL_law 2840 = .ok (.if_icmp .eq 62, 3) := by decide +kernel
theorem dL_law_2843 : decode cL_law 2843 = .ok (.iconst 0, 1) := by decide +kernel
theorem dL_law_2844 : decode cL_law 2844 = .ok (.ireturn, 1) := by decide +kernel
theorem dL_law_2845 : decode cL_law 2845 = .ok (.aload_n 1, 1) := by decide +kernel
theorem dL_law_2846 : decode cL_law 2846 = .ok (.invokevirtual 335, 3) := by decide +kernel
theorem dL_law_2849 : decode cL_law 2849 = .ok (.aload_n 2, 1) := by decide +kernel
theorem dL_law_2850 : decode cL_law 2850 = .ok (.invokevirtual 338, 3) := by decide +kernel
theorem dL_law_2853 : decode cL_law 2853 = .ok (.if_icmp .eq 49, 3) := by decide +kernel
theorem dL_law_2856 : decode cL_law 2856 = .ok (.iconst 0, 1) := by decide +kernel
theorem dL_law_2857 : decode cL_law 2857 = .ok (.ireturn, 1) := by decide +kernel
theorem dL_law_2858 : decode cL_law 2858 = .ok (.aload_n 1, 1) := by decide +kernel
theorem dL_law_2859 : decode cL_law 2859 = .ok (.aload_n 3, 1) := by decide +kernel
theorem dL_law_2860 : decode cL_law 2860 = .ok (.invokestatic 339, 3) := by decide +kernel
theorem dL_law_2863 : decode cL_law 2863 = .ok (.istore 6, 2) := by decide +kernel
theorem dL_law_2865 : decode cL_law 2865 = .ok (.aload_n 2, 1) := by decide +kernel
theorem dL_law_2866 : decode cL_law 2866 = .ok (.invokevirtual 341, 3) := by decide +kernel
theorem dL_law_2869 : decode cL_law 2869 = .ok (.istore 7, 2) := by decide +kernel
theorem dL_law_2871 : decode cL_law 2871 = .ok (.aload_n 2, 1) := by decide +kernel
theorem dL_law_2872 : decode cL_law 2872 = .ok (.invokevirtual 166, 3) := by decide +kernel
theorem dL_law_2875 : decode cL_law 2875 = .ok (.iload 6, 2) := by decide +kernel
theorem dL_law_2877 : decode cL_law 2877 = .ok (.if_icmp .eq 5, 3) := by decide +kernel
theorem dL_law_2880 : decode cL_law 2880 = .ok (.iconst 0, 1) := by decide +kernel
theorem dL_law_2881 : decode cL_law 2881 = .ok (.ireturn, 1) := by decide +kernel
theorem dL_law_2882 : decode cL_law 2882 = .ok (.iload 6, 2) := by decide +kernel
theorem dL_law_2884 : decode cL_law 2884 = .ok (.ifCond .ne 15, 3) := by decide +kernel
theorem dL_law_2887 : decode cL_law 2887 = .ok (.aload_n 3, 1) := by decide +kernel
theorem dL_law_2888 : decode cL_law 2888 = .ok (.iconst 0, 1) := by decide +kernel
theorem dL_law_2889 : decode cL_law 2889 = .ok (.laload, 1) := by decide +kernel
theorem dL_law_2890 : decode cL_law 2890 = .ok (.iload 7, 2) := by decide +kernel
theorem dL_law_2892 : decode cL_law 2892 = .ok (.i2l, 1) := by decide +kernel
theorem dL_law_2893 : decode cL_law 2893 = .ok (.lcmp, 1) := by decide +kernel
theorem dL_law_2894 : decode cL_law 2894 = .ok (.ifCond .eq 5, 3) := by decide +kernel
theorem dL_law_2897 : decode cL_law 2897 = .ok (.iconst 0, 1) := by decide +kernel
theorem dL_law_2898 : decode cL_law 2898 = .ok (.ireturn, 1) := by decide +kernel
theorem dL_law_2899 : decode cL_law 2899 = .ok (.goto 3, 3) := by decide +kernel
theorem dL_law_2902 : decode cL_law 2902 = .ok (.iinc 5 4, 3) := by decide +kernel
theorem dL_law_2905 : decode cL_law 2905 = .ok (.goto (-2877), 3) := by decide +kernel
theorem dL_law_2908 : decode cL_law 2908 = .ok (.iconst 1, 1) := by decide +kernel
theorem dL_law_2909 : decode cL_law 2909 = .ok (.ireturn, 1) := by decide +kernel
