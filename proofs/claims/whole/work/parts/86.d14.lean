/-! ===== the law's bytes ===== -/
theorem dL_law_2769 : decode cL_law 2769 = .ok (.aload 4, 2) := by decide +kernel
theorem dL_law_2771 : decode cL_law 2771 = .ok (.iconst 0, 1) := by decide +kernel
theorem dL_law_2772 : decode cL_law 2772 = .ok (.daload, 1) := by decide +kernel
theorem dL_law_2773 : decode cL_law 2773 = .ok (.dcmp .l, 1) := by decide +kernel
theorem dL_law_2774 : decode cL_law 2774 = .ok (.ifCond .eq 11, 3) := by decide +kernel
theorem dL_law_2777 : decode cL_law 2777 = .ok (.dload 7, 2) := by decide +kernel
theorem dL_law_2779 : decode cL_law 2779 = .ok (.dload 7, 2) := by decide +kernel
theorem dL_law_2781 : decode cL_law 2781 = .ok (.dcmp .l, 1) := by decide +kernel
theorem dL_law_2782 : decode cL_law 2782 = .ok (.ifCond .ne 5, 3) := by decide +kernel
theorem dL_law_2787 : decode cL_law 2787 = .ok (.goto 554, 3) := by decide +kernel
theorem dL_law_2790 : decode cL_law 2790 = .ok (.aload_n 1, 1) := by decide +kernel
theorem dL_law_2791 : decode cL_law 2791 = .ok (.aload 4, 2) := by decide +kernel
theorem dL_law_2793 : decode cL_law 2793 = .ok (.invokestatic 347, 3) := by decide +kernel
theorem dL_law_2796 : decode cL_law 2796 = .ok (.istore 6, 2) := by decide +kernel
theorem dL_law_2798 : decode cL_law 2798 = .ok (.aload_n 2, 1) := by decide +kernel
theorem dL_law_2799 : decode cL_law 2799 = .ok (.invokevirtual 349, 3) := by decide +kernel
theorem dL_law_2802 : decode cL_law 2802 = .ok (.fstore 7, 2) := by decide +kernel
theorem dL_law_2804 : decode cL_law 2804 = .ok (.aload_n 2, 1) := by decide +kernel
theorem dL_law_2805 : decode cL_law 2805 = .ok (.invokevirtual 189, 3) := by decide +kernel
theorem dL_law_2808 : decode cL_law 2808 = .ok (.iload 6, 2) := by decide +kernel
theorem dL_law_2810 : decode cL_law 2810 = .ok (.if_icmp .eq 5, 3) := by decide +kernel
theorem dL_law_2815 : decode cL_law 2815 = .ok (.iload 6, 2) := by decide +kernel
theorem dL_law_2817 : decode cL_law 2817 = .ok (.ifCond .ne 36, 3) := by decide +kernel
theorem dL_law_2820 : decode cL_law 2820 = .ok (.aload 4, 2) := by decide +kernel
theorem dL_law_2822 : decode cL_law 2822 = .ok (.iconst 0, 1) := by decide +kernel
theorem dL_law_2823 : decode cL_law 2823 = .ok (.daload, 1) := by decide +kernel
theorem dL_law_2824 : decode cL_law 2824 = .ok (.fload 7, 2) := by decide +kernel
theorem dL_law_2826 : decode cL_law 2826 = .ok (.f2d, 1) := by decide +kernel
theorem dL_law_2827 : decode cL_law 2827 = .ok (.dcmp .l, 1) := by decide +kernel
theorem dL_law_2828 : decode cL_law 2828 = .ok (.ifCond .eq 25, 3) := by decide +kernel
theorem dL_law_2831 : decode cL_law 2831 = .ok (.aload 4, 2) := by decide +kernel
theorem dL_law_2833 : decode cL_law 2833 = .ok (.iconst 0, 1) := by decide +kernel
theorem dL_law_2834 : decode cL_law 2834 = .ok (.daload, 1) := by decide +kernel
theorem dL_law_2835 : decode cL_law 2835 = .ok (.aload 4, 2) := by decide +kernel
theorem dL_law_2837 : decode cL_law 2837 = .ok (.iconst 0, 1) := by decide +kernel
theorem dL_law_2838 : decode cL_law 2838 = .ok (.daload, 1) := by decide +kernel
theorem dL_law_2839 : decode cL_law 2839 = .ok (.dcmp .l, 1) := by decide +kernel
theorem dL_law_2840 : decode cL_law 2840 = .ok (.ifCond .eq 11, 3) := by decide +kernel
theorem dL_law_2843 : decode cL_law 2843 = .ok (.fload 7, 2) := by decide +kernel
theorem dL_law_2845 : decode cL_law 2845 = .ok (.fload 7, 2) := by decide +kernel
theorem dL_law_2847 : decode cL_law 2847 = .ok (.fcmp .l, 1) := by decide +kernel
theorem dL_law_2848 : decode cL_law 2848 = .ok (.ifCond .ne 5, 3) := by decide +kernel
theorem dL_law_2853 : decode cL_law 2853 = .ok (.goto 488, 3) := by decide +kernel
theorem dL_law_2856 : decode cL_law 2856 = .ok (.aload_n 1, 1) := by decide +kernel
theorem dL_law_2857 : decode cL_law 2857 = .ok (.invokevirtual 350, 3) := by decide +kernel
theorem dL_law_2860 : decode cL_law 2860 = .ok (.aload_n 2, 1) := by decide +kernel
theorem dL_law_2861 : decode cL_law 2861 = .ok (.invokevirtual 354, 3) := by decide +kernel
theorem dL_law_2864 : decode cL_law 2864 = .ok (.if_icmp .eq 477, 3) := by decide +kernel
theorem dL_law_2869 : decode cL_law 2869 = .ok (.aload_n 1, 1) := by decide +kernel
theorem dL_law_2870 : decode cL_law 2870 = .ok (.aload_n 0, 1) := by decide +kernel
theorem dL_law_2871 : decode cL_law 2871 = .ok (.iload 5, 2) := by decide +kernel
theorem dL_law_2873 : decode cL_law 2873 = .ok (.iconst 1, 1) := by decide +kernel
theorem dL_law_2874 : decode cL_law 2874 = .ok (.iadd, 1) := by decide +kernel
theorem dL_law_2875 : decode cL_law 2875 = .ok (.iaload, 1) := by decide +kernel
theorem dL_law_2876 : decode cL_law 2876 = .ok (.aload_n 3, 1) := by decide +kernel
theorem dL_law_2877 : decode cL_law 2877 = .ok (.invokestatic 355, 3) := by decide +kernel
theorem dL_law_2880 : decode cL_law 2880 = .ok (.istore 6, 2) := by decide +kernel
theorem dL_law_2882 : decode cL_law 2882 = .ok (.aload_n 2, 1) := by decide +kernel
theorem dL_law_2883 : decode cL_law 2883 = .ok (.aload_n 0, 1) := by decide +kernel
theorem dL_law_2884 : decode cL_law 2884 = .ok (.iload 5, 2) := by decide +kernel
theorem dL_law_2886 : decode cL_law 2886 = .ok (.iconst 1, 1) := by decide +kernel
theorem dL_law_2887 : decode cL_law 2887 = .ok (.iadd, 1) := by decide +kernel
theorem dL_law_2888 : decode cL_law 2888 = .ok (.iaload, 1) := by decide +kernel
theorem dL_law_2889 : decode cL_law 2889 = .ok (.invokevirtual 357, 3) := by decide +kernel
theorem dL_law_2892 : decode cL_law 2892 = .ok (.istore 7, 2) := by decide +kernel
theorem dL_law_2894 : decode cL_law 2894 = .ok (.aload_n 2, 1) := by decide +kernel
theorem dL_law_2895 : decode cL_law 2895 = .ok (.invokevirtual 189, 3) := by decide +kernel
theorem dL_law_2898 : decode cL_law 2898 = .ok (.iload 6, 2) := by decide +kernel
theorem dL_law_2900 : decode cL_law 2900 = .ok (.if_icmp .eq 5, 3) := by decide +kernel
theorem dL_law_2905 : decode cL_law 2905 = .ok (.iload 6, 2) := by decide +kernel
theorem dL_law_2907 : decode cL_law 2907 = .ok (.ifCond .ne 15, 3) := by decide +kernel
theorem dL_law_2910 : decode cL_law 2910 = .ok (.aload_n 3, 1) := by decide +kernel
theorem dL_law_2911 : decode cL_law 2911 = .ok (.iconst 0, 1) := by decide +kernel
theorem dL_law_2912 : decode cL_law 2912 = .ok (.laload, 1) := by decide +kernel
theorem dL_law_2913 : decode cL_law 2913 = .ok (.iload 7, 2) := by decide +kernel
theorem dL_law_2915 : decode cL_law 2915 = .ok (.i2l, 1) := by decide +kernel
theorem dL_law_2916 : decode cL_law 2916 = .ok (.lcmp, 1) := by decide +kernel
theorem dL_law_2917 : decode cL_law 2917 = .ok (.ifCond .eq 5, 3) := by decide +kernel
theorem dL_law_2922 : decode cL_law 2922 = .ok (.goto 419, 3) := by decide +kernel
theorem dL_law_2925 : decode cL_law 2925 = .ok (.aload_n 1, 1) := by decide +kernel
theorem dL_law_2926 : decode cL_law 2926 = .ok (.aload_n 0, 1) := by decide +kernel
theorem dL_law_2927 : decode cL_law 2927 = .ok (.iload 5, 2) := by decide +kernel
theorem dL_law_2929 : decode cL_law 2929 = .ok (.iconst 1, 1) := by decide +kernel
theorem dL_law_2930 : decode cL_law 2930 = .ok (.iadd, 1) := by decide +kernel
theorem dL_law_2931 : decode cL_law 2931 = .ok (.iaload, 1) := by decide +kernel
theorem dL_law_2932 : decode cL_law 2932 = .ok (.aload_n 3, 1) := by decide +kernel
theorem dL_law_2933 : decode cL_law 2933 = .ok (.invokestatic 358, 3) := by decide +kernel
theorem dL_law_2936 : decode cL_law 2936 = .ok (.istore 6, 2) := by decide +kernel
theorem dL_law_2938 : decode cL_law 2938 = .ok (.aload_n 2, 1) := by decide +kernel
theorem dL_law_2939 : decode cL_law 2939 = .ok (.aload_n 0, 1) := by decide +kernel
theorem dL_law_2940 : decode cL_law 2940 = .ok (.iload 5, 2) := by decide +kernel
theorem dL_law_2942 : decode cL_law 2942 = .ok (.iconst 1, 1) := by decide +kernel
theorem dL_law_2943 : decode cL_law 2943 = .ok (.iadd, 1) := by decide +kernel
theorem dL_law_2944 : decode cL_law 2944 = .ok (.iaload, 1) := by decide +kernel
theorem dL_law_2945 : decode cL_law 2945 = .ok (.invokevirtual 360, 3) := by decide +kernel
theorem dL_law_2948 : decode cL_law 2948 = .ok (.istore 7, 2) := by decide +kernel
theorem dL_law_2950 : decode cL_law 2950 = .ok (.aload_n 2, 1) := by decide +kernel
theorem dL_law_2951 : decode cL_law 2951 = .ok (.invokevirtual 189, 3) := by decide +kernel
theorem dL_law_2954 : decode cL_law 2954 = .ok (.iload 6, 2) := by decide +kernel
theorem dL_law_2956 : decode cL_law 2956 = .ok (.if_icmp .eq 5, 3) := by decide +kernel
