/-! decode rows of the law -/
theorem dL_law_2595 : decode cL_law 2595 = .ok (.laload, 1) := by decide +kernel
theorem dL_law_2596 : decode cL_law 2596 = .ok (.iload 7, 2) := by decide +kernel
theorem dL_law_2598 : decode cL_law 2598 = .ok (.i2l, 1) := by decide +kernel
theorem dL_law_2599 : decode cL_law 2599 = .ok (.lcmp, 1) := by decide +kernel
theorem dL_law_2600 : decode cL_law 2600 = .ok (.ifCond .eq 5, 3) := by decide +kernel
theorem dL_law_2605 : decode cL_law 2605 = .ok (.goto 434, 3) := by decide +kernel
theorem dL_law_2608 : decode cL_law 2608 = .ok (.aload_n 1, 1) := by decide +kernel
theorem dL_law_2609 : decode cL_law 2609 = .ok (.aload_n 0, 1) := by decide +kernel
theorem dL_law_2610 : decode cL_law 2610 = .ok (.iload 5, 2) := by decide +kernel
theorem dL_law_2612 : decode cL_law 2612 = .ok (.iconst 1, 1) := by decide +kernel
theorem dL_law_2613 : decode cL_law 2613 = .ok (.iadd, 1) := by decide +kernel
theorem dL_law_2614 : decode cL_law 2614 = .ok (.iaload, 1) := by decide +kernel
theorem dL_law_2615 : decode cL_law 2615 = .ok (.aload_n 3, 1) := by decide +kernel
theorem dL_law_2616 : decode cL_law 2616 = .ok (.invokestatic 332, 3) := by decide +kernel
theorem dL_law_2619 : decode cL_law 2619 = .ok (.istore 6, 2) := by decide +kernel
theorem dL_law_2621 : decode cL_law 2621 = .ok (.aload_n 2, 1) := by decide +kernel
theorem dL_law_2622 : decode cL_law 2622 = .ok (.aload_n 0, 1) := by decide +kernel
theorem dL_law_2623 : decode cL_law 2623 = .ok (.iload 5, 2) := by decide +kernel
theorem dL_law_2625 : decode cL_law 2625 = .ok (.iconst 1, 1) := by decide +kernel
theorem dL_law_2626 : decode cL_law 2626 = .ok (.iadd, 1) := by decide +kernel
theorem dL_law_2627 : decode cL_law 2627 = .ok (.iaload, 1) := by decide +kernel
theorem dL_law_2628 : decode cL_law 2628 = .ok (.invokevirtual 334, 3) := by decide +kernel
theorem dL_law_2631 : decode cL_law 2631 = .ok (.istore 7, 2) := by decide +kernel
theorem dL_law_2633 : decode cL_law 2633 = .ok (.aload_n 2, 1) := by decide +kernel
theorem dL_law_2634 : decode cL_law 2634 = .ok (.invokevirtual 179, 3) := by decide +kernel
theorem dL_law_2637 : decode cL_law 2637 = .ok (.iload 6, 2) := by decide +kernel
theorem dL_law_2639 : decode cL_law 2639 = .ok (.if_icmp .eq 5, 3) := by decide +kernel
theorem dL_law_2644 : decode cL_law 2644 = .ok (.iload 6, 2) := by decide +kernel
theorem dL_law_2646 : decode cL_law 2646 = .ok (.ifCond .ne 15, 3) := by decide +kernel
theorem dL_law_2649 : decode cL_law 2649 = .ok (.aload_n 3, 1) := by decide +kernel
theorem dL_law_2650 : decode cL_law 2650 = .ok (.iconst 0, 1) := by decide +kernel
theorem dL_law_2651 : decode cL_law 2651 = .ok (.laload, 1) := by decide +kernel
theorem dL_law_2652 : decode cL_law 2652 = .ok (.iload 7, 2) := by decide +kernel
theorem dL_law_2654 : decode cL_law 2654 = .ok (.i2l, 1) := by decide +kernel
theorem dL_law_2655 : decode cL_law 2655 = .ok (.lcmp, 1) := by decide +kernel
theorem dL_law_2656 : decode cL_law 2656 = .ok (.ifCond .eq 5, 3) := by decide +kernel
theorem dL_law_2661 : decode cL_law 2661 = .ok (.goto 378, 3) := by decide +kernel
theorem dL_law_2664 : decode cL_law 2664 = .ok (.aload_n 1, 1) := by decide +kernel
theorem dL_law_2665 : decode cL_law 2665 = .ok (.invokevirtual 335, 3) := by decide +kernel
theorem dL_law_2668 : decode cL_law 2668 = .ok (.aload_n 2, 1) := by decide +kernel
theorem dL_law_2669 : decode cL_law 2669 = .ok (.invokevirtual 338, 3) := by decide +kernel
theorem dL_law_2672 : decode cL_law 2672 = .ok (.if_icmp .eq 367, 3) := by decide +kernel
theorem dL_law_2677 : decode cL_law 2677 = .ok (.aload_n 1, 1) := by decide +kernel
theorem dL_law_2678 : decode cL_law 2678 = .ok (.aload_n 0, 1) := by decide +kernel
theorem dL_law_2679 : decode cL_law 2679 = .ok (.iload 5, 2) := by decide +kernel
theorem dL_law_2681 : decode cL_law 2681 = .ok (.iconst 1, 1) := by decide +kernel
theorem dL_law_2682 : decode cL_law 2682 = .ok (.iadd, 1) := by decide +kernel
theorem dL_law_2683 : decode cL_law 2683 = .ok (.iaload, 1) := by decide +kernel
theorem dL_law_2684 : decode cL_law 2684 = .ok (.aload_n 0, 1) := by decide +kernel
theorem dL_law_2685 : decode cL_law 2685 = .ok (.iload 5, 2) := by decide +kernel
theorem dL_law_2687 : decode cL_law 2687 = .ok (.iconst 2, 1) := by decide +kernel
theorem dL_law_2688 : decode cL_law 2688 = .ok (.iadd, 1) := by decide +kernel
theorem dL_law_2689 : decode cL_law 2689 = .ok (.iaload, 1) := by decide +kernel
theorem dL_law_2690 : decode cL_law 2690 = .ok (.aload_n 3, 1) := by decide +kernel
theorem dL_law_2691 : decode cL_law 2691 = .ok (.invokestatic 339, 3) := by decide +kernel
theorem dL_law_2694 : decode cL_law 2694 = .ok (.istore 6, 2) := by decide +kernel
theorem dL_law_2696 : decode cL_law 2696 = .ok (.aload_n 2, 1) := by decide +kernel
theorem dL_law_2697 : decode cL_law 2697 = .ok (.aload_n 0, 1) := by decide +kernel
theorem dL_law_2698 : decode cL_law 2698 = .ok (.iload 5, 2) := by decide +kernel
theorem dL_law_2700 : decode cL_law 2700 = .ok (.iconst 1, 1) := by decide +kernel
theorem dL_law_2701 : decode cL_law 2701 = .ok (.iadd, 1) := by decide +kernel
theorem dL_law_2702 : decode cL_law 2702 = .ok (.iaload, 1) := by decide +kernel
theorem dL_law_2703 : decode cL_law 2703 = .ok (.aload_n 0, 1) := by decide +kernel
theorem dL_law_2704 : decode cL_law 2704 = .ok (.iload 5, 2) := by decide +kernel
theorem dL_law_2706 : decode cL_law 2706 = .ok (.iconst 2, 1) := by decide +kernel
theorem dL_law_2707 : decode cL_law 2707 = .ok (.iadd, 1) := by decide +kernel
theorem dL_law_2708 : decode cL_law 2708 = .ok (.iaload, 1) := by decide +kernel
theorem dL_law_2709 : decode cL_law 2709 = .ok (.invokevirtual 341, 3) := by decide +kernel
theorem dL_law_2712 : decode cL_law 2712 = .ok (.istore 7, 2) := by decide +kernel
theorem dL_law_2714 : decode cL_law 2714 = .ok (.aload_n 2, 1) := by decide +kernel
theorem dL_law_2715 : decode cL_law 2715 = .ok (.invokevirtual 179, 3) := by decide +kernel
theorem dL_law_2718 : decode cL_law 2718 = .ok (.iload 6, 2) := by decide +kernel
theorem dL_law_2720 : decode cL_law 2720 = .ok (.if_icmp .eq 5, 3) := by decide +kernel
theorem dL_law_2725 : decode cL_law 2725 = .ok (.iload 6, 2) := by decide +kernel
theorem dL_law_2727 : decode cL_law 2727 = .ok (.ifCond .ne 15, 3) := by decide +kernel
theorem dL_law_2730 : decode cL_law 2730 = .ok (.aload_n 3, 1) := by decide +kernel
theorem dL_law_2731 : decode cL_law 2731 = .ok (.iconst 0, 1) := by decide +kernel
theorem dL_law_2732 : decode cL_law 2732 = .ok (.laload, 1) := by decide +kernel
theorem dL_law_2733 : decode cL_law 2733 = .ok (.iload 7, 2) := by decide +kernel
theorem dL_law_2735 : decode cL_law 2735 = .ok (.i2l, 1) := by decide +kernel
theorem dL_law_2736 : decode cL_law 2736 = .ok (.lcmp, 1) := by decide +kernel
theorem dL_law_2737 : decode cL_law 2737 = .ok (.ifCond .eq 5, 3) := by decide +kernel
theorem dL_law_2742 : decode cL_law 2742 = .ok (.goto 297, 3) := by decide +kernel
theorem dL_law_2745 : decode cL_law 2745 = .ok (.aload_n 1, 1) := by decide +kernel
theorem dL_law_2746 : decode cL_law 2746 = .ok (.aload_n 0, 1) := by decide +kernel
theorem dL_law_2747 : decode cL_law 2747 = .ok (.iload 5, 2) := by decide +kernel
theorem dL_law_2749 : decode cL_law 2749 = .ok (.iconst 1, 1) := by decide +kernel
theorem dL_law_2750 : decode cL_law 2750 = .ok (.iadd, 1) := by decide +kernel
theorem dL_law_2751 : decode cL_law 2751 = .ok (.iaload, 1) := by decide +kernel
theorem dL_law_2752 : decode cL_law 2752 = .ok (.aload_n 3, 1) := by decide +kernel
theorem dL_law_2753 : decode cL_law 2753 = .ok (.invokestatic 342, 3) := by decide +kernel
theorem dL_law_2756 : decode cL_law 2756 = .ok (.istore 6, 2) := by decide +kernel
theorem dL_law_2758 : decode cL_law 2758 = .ok (.aload_n 2, 1) := by decide +kernel
theorem dL_law_2759 : decode cL_law 2759 = .ok (.aload_n 0, 1) := by decide +kernel
theorem dL_law_2760 : decode cL_law 2760 = .ok (.iload 5, 2) := by decide +kernel
theorem dL_law_2762 : decode cL_law 2762 = .ok (.iconst 1, 1) := by decide +kernel
theorem dL_law_2763 : decode cL_law 2763 = .ok (.iadd, 1) := by decide +kernel
theorem dL_law_2764 : decode cL_law 2764 = .ok (.iaload, 1) := by decide +kernel
theorem dL_law_2765 : decode cL_law 2765 = .ok (.invokevirtual 344, 3) := by decide +kernel
theorem dL_law_2768 : decode cL_law 2768 = .ok (.istore 7, 2) := by decide +kernel
theorem dL_law_2770 : decode cL_law 2770 = .ok (.aload_n 2, 1) := by decide +kernel
theorem dL_law_2771 : decode cL_law 2771 = .ok (.invokevirtual 179, 3) := by decide +kernel
theorem dL_law_2774 : decode cL_law 2774 = .ok (.iload 6, 2) := by decide +kernel
theorem dL_law_2776 : decode cL_law 2776 = .ok (.if_icmp .eq 5, 3) := by decide +kernel
theorem dL_law_2781 : decode cL_law 2781 = .ok (.iload 6, 2) := by decide +kernel
theorem dL_law_2783 : decode cL_law 2783 = .ok (.ifCond .ne 15, 3) := by decide +kernel
theorem dL_law_2786 : decode cL_law 2786 = .ok (.aload_n 3, 1) := by decide +kernel
theorem dL_law_2787 : decode cL_law 2787 = .ok (.iconst 0, 1) := by decide +kernel
theorem dL_law_2788 : decode cL_law 2788 = .ok (.laload, 1) := by decide +kernel
theorem dL_law_2789 : decode cL_law 2789 = .ok (.iload 7, 2) := by decide +kernel
theorem dL_law_2791 : decode cL_law 2791 = .ok (.i2l, 1) := by decide +kernel
theorem dL_law_2792 : decode cL_law 2792 = .ok (.lcmp, 1) := by decide +kernel
theorem dL_law_2793 : decode cL_law 2793 = .ok (.ifCond .eq 5, 3) := by decide +kernel
theorem dL_law_2798 : decode cL_law 2798 = .ok (.goto 241, 3) := by decide +kernel
theorem dL_law_2801 : decode cL_law 2801 = .ok (.aload_n 1, 1) := by decide +kernel
theorem dL_law_2802 : decode cL_law 2802 = .ok (.aload_n 0, 1) := by decide +kernel
theorem dL_law_2803 : decode cL_law 2803 = .ok (.iload 5, 2) := by decide +kernel
theorem dL_law_2805 : decode cL_law 2805 = .ok (.iconst 1, 1) := by decide +kernel
theorem dL_law_2806 : decode cL_law 2806 = .ok (.iadd, 1) := by decide +kernel
theorem dL_law_2807 : decode cL_law 2807 = .ok (.iaload, 1) := by decide +kernel
theorem dL_law_2808 : decode cL_law 2808 = .ok (.aload_n 3, 1) := by decide +kernel
theorem dL_law_2809 : decode cL_law 2809 = .ok (.invokestatic 345, 3) := by decide +kernel
theorem dL_law_2812 : decode cL_law 2812 = .ok (.istore 6, 2) := by decide +kernel
theorem dL_law_2814 : decode cL_law 2814 = .ok (.aload_n 2, 1) := by decide +kernel
theorem dL_law_2815 : decode cL_law 2815 = .ok (.aload_n 0, 1) := by decide +kernel
theorem dL_law_2816 : decode cL_law 2816 = .ok (.iload 5, 2) := by decide +kernel
theorem dL_law_2818 : decode cL_law 2818 = .ok (.iconst 1, 1) := by decide +kernel
theorem dL_law_2819 : decode cL_law 2819 = .ok (.iadd, 1) := by decide +kernel
theorem dL_law_2820 : decode cL_law 2820 = .ok (.iaload, 1) := by decide +kernel
theorem dL_law_2821 : decode cL_law 2821 = .ok (.invokevirtual 347, 3) := by decide +kernel
theorem dL_law_2824 : decode cL_law 2824 = .ok (.istore 7, 2) := by decide +kernel
theorem dL_law_2826 : decode cL_law 2826 = .ok (.aload_n 2, 1) := by decide +kernel
theorem dL_law_2827 : decode cL_law 2827 = .ok (.invokevirtual 179, 3) := by decide +kernel
theorem dL_law_2830 : decode cL_law 2830 = .ok (.iload 6, 2) := by decide +kernel
theorem dL_law_2832 : decode cL_law 2832 = .ok (.if_icmp .eq 5, 3) := by decide +kernel
theorem dL_law_2837 : decode cL_law 2837 = .ok (.iload 6, 2) := by decide +kernel
theorem dL_law_2839 : decode cL_law 2839 = .ok (.ifCond .ne 15, 3) := by decide +kernel
theorem dL_law_2842 : decode cL_law 2842 = .ok (.aload_n 3, 1) := by decide +kernel
theorem dL_law_2843 : decode cL_law 2843 = .ok (.iconst 0, 1) := by decide +kernel
theorem dL_law_2844 : decode cL_law 2844 = .ok (.laload, 1) := by decide +kernel
theorem dL_law_2845 : decode cL_law 2845 = .ok (.iload 7, 2) := by decide +kernel
theorem dL_law_2847 : decode cL_law 2847 = .ok (.i2l, 1) := by decide +kernel
theorem dL_law_2848 : decode cL_law 2848 = .ok (.lcmp, 1) := by decide +kernel
theorem dL_law_2849 : decode cL_law 2849 = .ok (.ifCond .eq 5, 3) := by decide +kernel
theorem dL_law_2854 : decode cL_law 2854 = .ok (.goto 185, 3) := by decide +kernel
theorem dL_law_2857 : decode cL_law 2857 = .ok (.aload_n 1, 1) := by decide +kernel
theorem dL_law_2858 : decode cL_law 2858 = .ok (.aload_n 3, 1) := by decide +kernel
theorem dL_law_2859 : decode cL_law 2859 = .ok (.invokestatic 348, 3) := by decide +kernel
theorem dL_law_2862 : decode cL_law 2862 = .ok (.istore 6, 2) := by decide +kernel
theorem dL_law_2864 : decode cL_law 2864 = .ok (.aload_n 2, 1) := by decide +kernel
theorem dL_law_2865 : decode cL_law 2865 = .ok (.invokevirtual 351, 3) := by decide +kernel
theorem dL_law_2868 : decode cL_law 2868 = .ok (.istore 7, 2) := by decide +kernel
theorem dL_law_2870 : decode cL_law 2870 = .ok (.aload_n 2, 1) := by decide +kernel
theorem dL_law_2871 : decode cL_law 2871 = .ok (.invokevirtual 179, 3) := by decide +kernel
theorem dL_law_2874 : decode cL_law 2874 = .ok (.iload 6, 2) := by decide +kernel
theorem dL_law_2876 : decode cL_law 2876 = .ok (.if_icmp .eq 5, 3) := by decide +kernel
theorem dL_law_2881 : decode cL_law 2881 = .ok (.iload 6, 2) := by decide +kernel
theorem dL_law_2883 : decode cL_law 2883 = .ok (.ifCond .ne 15, 3) := by decide +kernel
theorem dL_law_2886 : decode cL_law 2886 = .ok (.aload_n 3, 1) := by decide +kernel
theorem dL_law_2887 : decode cL_law 2887 = .ok (.iconst 0, 1) := by decide +kernel
theorem dL_law_2888 : decode cL_law 2888 = .ok (.laload, 1) := by decide +kernel
theorem dL_law_2889 : decode cL_law 2889 = .ok (.iload 7, 2) := by decide +kernel
theorem dL_law_2891 : decode cL_law 2891 = .ok (.i2l, 1) := by decide +kernel
theorem dL_law_2892 : decode cL_law 2892 = .ok (.lcmp, 1) := by decide +kernel
theorem dL_law_2893 : decode cL_law 2893 = .ok (.ifCond .eq 5, 3) := by decide +kernel
theorem dL_law_2898 : decode cL_law 2898 = .ok (.goto 141, 3) := by decide +kernel
theorem dL_law_2901 : decode cL_law 2901 = .ok (.aload_n 1, 1) := by decide +kernel
theorem dL_law_2902 : decode cL_law 2902 = .ok (.aload_n 0, 1) := by decide +kernel
theorem dL_law_2903 : decode cL_law 2903 = .ok (.iload 5, 2) := by decide +kernel
theorem dL_law_2905 : decode cL_law 2905 = .ok (.iconst 1, 1) := by decide +kernel
theorem dL_law_2906 : decode cL_law 2906 = .ok (.iadd, 1) := by decide +kernel
theorem dL_law_2907 : decode cL_law 2907 = .ok (.iaload, 1) := by decide +kernel
theorem dL_law_2908 : decode cL_law 2908 = .ok (.aload_n 3, 1) := by decide +kernel
theorem dL_law_2909 : decode cL_law 2909 = .ok (.invokestatic 352, 3) := by decide +kernel
theorem dL_law_2912 : decode cL_law 2912 = .ok (.istore 6, 2) := by decide +kernel
theorem dL_law_2914 : decode cL_law 2914 = .ok (.aload_n 2, 1) := by decide +kernel
theorem dL_law_2915 : decode cL_law 2915 = .ok (.aload_n 0, 1) := by decide +kernel
theorem dL_law_2916 : decode cL_law 2916 = .ok (.iload 5, 2) := by decide +kernel
theorem dL_law_2918 : decode cL_law 2918 = .ok (.iconst 1, 1) := by decide +kernel
theorem dL_law_2919 : decode cL_law 2919 = .ok (.iadd, 1) := by decide +kernel
theorem dL_law_2920 : decode cL_law 2920 = .ok (.iaload, 1) := by decide +kernel
theorem dL_law_2921 : decode cL_law 2921 = .ok (.invokevirtual 354, 3) := by decide +kernel
theorem dL_law_2924 : decode cL_law 2924 = .ok (.istore 7, 2) := by decide +kernel
theorem dL_law_2926 : decode cL_law 2926 = .ok (.aload_n 2, 1) := by decide +kernel
theorem dL_law_2927 : decode cL_law 2927 = .ok (.invokevirtual 179, 3) := by decide +kernel
theorem dL_law_2930 : decode cL_law 2930 = .ok (.iload 6, 2) := by decide +kernel
theorem dL_law_2932 : decode cL_law 2932 = .ok (.if_icmp .eq 5, 3) := by decide +kernel
theorem dL_law_2937 : decode cL_law 2937 = .ok (.iload 6, 2) := by decide +kernel
theorem dL_law_2939 : decode cL_law 2939 = .ok (.ifCond .ne 15, 3) := by decide +kernel
theorem dL_law_2942 : decode cL_law 2942 = .ok (.aload_n 3, 1) := by decide +kernel
theorem dL_law_2943 : decode cL_law 2943 = .ok (.iconst 0, 1) := by decide +kernel
theorem dL_law_2944 : decode cL_law 2944 = .ok (.laload, 1) := by decide +kernel
theorem dL_law_2945 : decode cL_law 2945 = .ok (.iload 7, 2) := by decide +kernel
theorem dL_law_2947 : decode cL_law 2947 = .ok (.i2l, 1) := by decide +kernel
theorem dL_law_2948 : decode cL_law 2948 = .ok (.lcmp, 1) := by decide +kernel
theorem dL_law_2949 : decode cL_law 2949 = .ok (.ifCond .eq 5, 3) := by decide +kernel
theorem dL_law_2954 : decode cL_law 2954 = .ok (.goto 85, 3) := by decide +kernel
theorem dL_law_2957 : decode cL_law 2957 = .ok (.aload_n 1, 1) := by decide +kernel
theorem dL_law_2958 : decode cL_law 2958 = .ok (.aload_n 0, 1) := by decide +kernel
theorem dL_law_2959 : decode cL_law 2959 = .ok (.iload 5, 2) := by decide +kernel
theorem dL_law_2961 : decode cL_law 2961 = .ok (.iconst 1, 1) := by decide +kernel
theorem dL_law_2962 : decode cL_law 2962 = .ok (.iadd, 1) := by decide +kernel
theorem dL_law_2963 : decode cL_law 2963 = .ok (.iaload, 1) := by decide +kernel
theorem dL_law_2964 : decode cL_law 2964 = .ok (.invokevirtual 355, 3) := by decide +kernel
theorem dL_law_2967 : decode cL_law 2967 = .ok (.aload_n 2, 1) := by decide +kernel
theorem dL_law_2968 : decode cL_law 2968 = .ok (.aload_n 0, 1) := by decide +kernel
theorem dL_law_2969 : decode cL_law 2969 = .ok (.iload 5, 2) := by decide +kernel
theorem dL_law_2971 : decode cL_law 2971 = .ok (.iconst 1, 1) := by decide +kernel
theorem dL_law_2972 : decode cL_law 2972 = .ok (.iadd, 1) := by decide +kernel
theorem dL_law_2973 : decode cL_law 2973 = .ok (.iaload, 1) := by decide +kernel
theorem dL_law_2974 : decode cL_law 2974 = .ok (.invokevirtual 358, 3) := by decide +kernel
theorem dL_law_2977 : decode cL_law 2977 = .ok (.if_icmp .eq 62, 3) := by decide +kernel
theorem dL_law_2982 : decode cL_law 2982 = .ok (.aload_n 1, 1) := by decide +kernel
theorem dL_law_2983 : decode cL_law 2983 = .ok (.invokevirtual 359, 3) := by decide +kernel
theorem dL_law_2986 : decode cL_law 2986 = .ok (.aload_n 2, 1) := by decide +kernel
theorem dL_law_2987 : decode cL_law 2987 = .ok (.invokevirtual 362, 3) := by decide +kernel
theorem dL_law_2990 : decode cL_law 2990 = .ok (.if_icmp .eq 49, 3) := by decide +kernel
theorem dL_law_2995 : decode cL_law 2995 = .ok (.aload_n 1, 1) := by decide +kernel
theorem dL_law_2996 : decode cL_law 2996 = .ok (.aload_n 3, 1) := by decide +kernel
theorem dL_law_2997 : decode cL_law 2997 = .ok (.invokestatic 363, 3) := by decide +kernel
theorem dL_law_3000 : decode cL_law 3000 = .ok (.istore 6, 2) := by decide +kernel
theorem dL_law_3002 : decode cL_law 3002 = .ok (.aload_n 2, 1) := by decide +kernel
theorem dL_law_3003 : decode cL_law 3003 = .ok (.invokevirtual 365, 3) := by decide +kernel
theorem dL_law_3006 : decode cL_law 3006 = .ok (.istore 7, 2) := by decide +kernel
theorem dL_law_3008 : decode cL_law 3008 = .ok (.aload_n 2, 1) := by decide +kernel
theorem dL_law_3009 : decode cL_law 3009 = .ok (.invokevirtual 179, 3) := by decide +kernel
theorem dL_law_3012 : decode cL_law 3012 = .ok (.iload 6, 2) := by decide +kernel
theorem dL_law_3014 : decode cL_law 3014 = .ok (.if_icmp .eq 5, 3) := by decide +kernel
theorem dL_law_3019 : decode cL_law 3019 = .ok (.iload 6, 2) := by decide +kernel
theorem dL_law_3021 : decode cL_law 3021 = .ok (.ifCond .ne 15, 3) := by decide +kernel
theorem dL_law_3024 : decode cL_law 3024 = .ok (.aload_n 3, 1) := by decide +kernel
theorem dL_law_3025 : decode cL_law 3025 = .ok (.iconst 0, 1) := by decide +kernel
theorem dL_law_3026 : decode cL_law 3026 = .ok (.laload, 1) := by decide +kernel
theorem dL_law_3027 : decode cL_law 3027 = .ok (.iload 7, 2) := by decide +kernel
theorem dL_law_3029 : decode cL_law 3029 = .ok (.i2l, 1) := by decide +kernel
theorem dL_law_3030 : decode cL_law 3030 = .ok (.lcmp, 1) := by decide +kernel
theorem dL_law_3031 : decode cL_law 3031 = .ok (.ifCond .eq 5, 3) := by decide +kernel
theorem dL_law_3036 : decode cL_law 3036 = .ok (.goto 3, 3) := by decide +kernel
theorem dL_law_3039 : decode cL_law 3039 = .ok (.iinc 5 6, 3) := by decide +kernel
theorem dL_law_3042 : decode cL_law 3042 = .ok (.goto (-3014), 3) := by decide +kernel
theorem dL_law_3045 : decode cL_law 3045 = .ok (.iconst 1, 1) := by decide +kernel
theorem dL_law_3046 : decode cL_law 3046 = .ok (.ireturn, 1) := by decide +kernel
