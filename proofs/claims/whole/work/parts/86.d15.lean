/-! ===== the law's bytes ===== -/
theorem dL_law_2961 : decode cL_law 2961 = .ok (.iload 6, 2) := by decide +kernel
theorem dL_law_2963 : decode cL_law 2963 = .ok (.ifCond .ne 15, 3) := by decide +kernel
theorem dL_law_2966 : decode cL_law 2966 = .ok (.aload_n 3, 1) := by decide +kernel
theorem dL_law_2967 : decode cL_law 2967 = .ok (.iconst 0, 1) := by decide +kernel
theorem dL_law_2968 : decode cL_law 2968 = .ok (.laload, 1) := by decide +kernel
theorem dL_law_2969 : decode cL_law 2969 = .ok (.iload 7, 2) := by decide +kernel
theorem dL_law_2971 : decode cL_law 2971 = .ok (.i2l, 1) := by decide +kernel
theorem dL_law_2972 : decode cL_law 2972 = .ok (.lcmp, 1) := by decide +kernel
theorem dL_law_2973 : decode cL_law 2973 = .ok (.ifCond .eq 5, 3) := by decide +kernel
theorem dL_law_2978 : decode cL_law 2978 = .ok (.goto 363, 3) := by decide +kernel
theorem dL_law_2981 : decode cL_law 2981 = .ok (.aload_n 1, 1) := by decide +kernel
theorem dL_law_2982 : decode cL_law 2982 = .ok (.aload_n 0, 1) := by decide +kernel
theorem dL_law_2983 : decode cL_law 2983 = .ok (.iload 5, 2) := by decide +kernel
theorem dL_law_2985 : decode cL_law 2985 = .ok (.iconst 1, 1) := by decide +kernel
theorem dL_law_2986 : decode cL_law 2986 = .ok (.iadd, 1) := by decide +kernel
theorem dL_law_2987 : decode cL_law 2987 = .ok (.iaload, 1) := by decide +kernel
theorem dL_law_2988 : decode cL_law 2988 = .ok (.aload_n 3, 1) := by decide +kernel
theorem dL_law_2989 : decode cL_law 2989 = .ok (.invokestatic 361, 3) := by decide +kernel
theorem dL_law_2992 : decode cL_law 2992 = .ok (.istore 6, 2) := by decide +kernel
theorem dL_law_2994 : decode cL_law 2994 = .ok (.aload_n 2, 1) := by decide +kernel
theorem dL_law_2995 : decode cL_law 2995 = .ok (.aload_n 0, 1) := by decide +kernel
theorem dL_law_2996 : decode cL_law 2996 = .ok (.iload 5, 2) := by decide +kernel
theorem dL_law_2998 : decode cL_law 2998 = .ok (.iconst 1, 1) := by decide +kernel
theorem dL_law_2999 : decode cL_law 2999 = .ok (.iadd, 1) := by decide +kernel
theorem dL_law_3000 : decode cL_law 3000 = .ok (.iaload, 1) := by decide +kernel
theorem dL_law_3001 : decode cL_law 3001 = .ok (.invokevirtual 363, 3) := by decide +kernel
theorem dL_law_3004 : decode cL_law 3004 = .ok (.istore 7, 2) := by decide +kernel
theorem dL_law_3006 : decode cL_law 3006 = .ok (.aload_n 2, 1) := by decide +kernel
theorem dL_law_3007 : decode cL_law 3007 = .ok (.invokevirtual 189, 3) := by decide +kernel
theorem dL_law_3010 : decode cL_law 3010 = .ok (.iload 6, 2) := by decide +kernel
theorem dL_law_3012 : decode cL_law 3012 = .ok (.if_icmp .eq 5, 3) := by decide +kernel
theorem dL_law_3017 : decode cL_law 3017 = .ok (.iload 6, 2) := by decide +kernel
theorem dL_law_3019 : decode cL_law 3019 = .ok (.ifCond .ne 15, 3) := by decide +kernel
theorem dL_law_3022 : decode cL_law 3022 = .ok (.aload_n 3, 1) := by decide +kernel
theorem dL_law_3023 : decode cL_law 3023 = .ok (.iconst 0, 1) := by decide +kernel
theorem dL_law_3024 : decode cL_law 3024 = .ok (.laload, 1) := by decide +kernel
theorem dL_law_3025 : decode cL_law 3025 = .ok (.iload 7, 2) := by decide +kernel
theorem dL_law_3027 : decode cL_law 3027 = .ok (.i2l, 1) := by decide +kernel
theorem dL_law_3028 : decode cL_law 3028 = .ok (.lcmp, 1) := by decide +kernel
theorem dL_law_3029 : decode cL_law 3029 = .ok (.ifCond .eq 5, 3) := by decide +kernel
theorem dL_law_3034 : decode cL_law 3034 = .ok (.goto 307, 3) := by decide +kernel
theorem dL_law_3037 : decode cL_law 3037 = .ok (.aload_n 1, 1) := by decide +kernel
theorem dL_law_3038 : decode cL_law 3038 = .ok (.aload_n 0, 1) := by decide +kernel
theorem dL_law_3039 : decode cL_law 3039 = .ok (.iload 5, 2) := by decide +kernel
theorem dL_law_3041 : decode cL_law 3041 = .ok (.iconst 1, 1) := by decide +kernel
theorem dL_law_3042 : decode cL_law 3042 = .ok (.iadd, 1) := by decide +kernel
theorem dL_law_3043 : decode cL_law 3043 = .ok (.iaload, 1) := by decide +kernel
theorem dL_law_3044 : decode cL_law 3044 = .ok (.i2c, 1) := by decide +kernel
theorem dL_law_3045 : decode cL_law 3045 = .ok (.aload_n 3, 1) := by decide +kernel
theorem dL_law_3046 : decode cL_law 3046 = .ok (.invokestatic 364, 3) := by decide +kernel
theorem dL_law_3049 : decode cL_law 3049 = .ok (.istore 6, 2) := by decide +kernel
theorem dL_law_3051 : decode cL_law 3051 = .ok (.aload_n 2, 1) := by decide +kernel
theorem dL_law_3052 : decode cL_law 3052 = .ok (.aload_n 0, 1) := by decide +kernel
theorem dL_law_3053 : decode cL_law 3053 = .ok (.iload 5, 2) := by decide +kernel
theorem dL_law_3055 : decode cL_law 3055 = .ok (.iconst 1, 1) := by decide +kernel
theorem dL_law_3056 : decode cL_law 3056 = .ok (.iadd, 1) := by decide +kernel
theorem dL_law_3057 : decode cL_law 3057 = .ok (.iaload, 1) := by decide +kernel
theorem dL_law_3058 : decode cL_law 3058 = .ok (.i2c, 1) := by decide +kernel
theorem dL_law_3059 : decode cL_law 3059 = .ok (.invokevirtual 366, 3) := by decide +kernel
theorem dL_law_3062 : decode cL_law 3062 = .ok (.istore 7, 2) := by decide +kernel
theorem dL_law_3064 : decode cL_law 3064 = .ok (.aload_n 2, 1) := by decide +kernel
theorem dL_law_3065 : decode cL_law 3065 = .ok (.invokevirtual 189, 3) := by decide +kernel
theorem dL_law_3068 : decode cL_law 3068 = .ok (.iload 6, 2) := by decide +kernel
theorem dL_law_3070 : decode cL_law 3070 = .ok (.if_icmp .eq 5, 3) := by decide +kernel
theorem dL_law_3075 : decode cL_law 3075 = .ok (.iload 6, 2) := by decide +kernel
theorem dL_law_3077 : decode cL_law 3077 = .ok (.ifCond .ne 15, 3) := by decide +kernel
theorem dL_law_3080 : decode cL_law 3080 = .ok (.aload_n 3, 1) := by decide +kernel
theorem dL_law_3081 : decode cL_law 3081 = .ok (.iconst 0, 1) := by decide +kernel
theorem dL_law_3082 : decode cL_law 3082 = .ok (.laload, 1) := by decide +kernel
theorem dL_law_3083 : decode cL_law 3083 = .ok (.iload 7, 2) := by decide +kernel
theorem dL_law_3085 : decode cL_law 3085 = .ok (.i2l, 1) := by decide +kernel
theorem dL_law_3086 : decode cL_law 3086 = .ok (.lcmp, 1) := by decide +kernel
theorem dL_law_3087 : decode cL_law 3087 = .ok (.ifCond .eq 5, 3) := by decide +kernel
theorem dL_law_3092 : decode cL_law 3092 = .ok (.goto 249, 3) := by decide +kernel
theorem dL_law_3095 : decode cL_law 3095 = .ok (.aload_n 1, 1) := by decide +kernel
theorem dL_law_3096 : decode cL_law 3096 = .ok (.aload_n 3, 1) := by decide +kernel
theorem dL_law_3097 : decode cL_law 3097 = .ok (.invokestatic 367, 3) := by decide +kernel
theorem dL_law_3100 : decode cL_law 3100 = .ok (.istore 6, 2) := by decide +kernel
theorem dL_law_3102 : decode cL_law 3102 = .ok (.aload_n 2, 1) := by decide +kernel
theorem dL_law_3103 : decode cL_law 3103 = .ok (.invokevirtual 369, 3) := by decide +kernel
theorem dL_law_3106 : decode cL_law 3106 = .ok (.istore 7, 2) := by decide +kernel
theorem dL_law_3108 : decode cL_law 3108 = .ok (.aload_n 2, 1) := by decide +kernel
theorem dL_law_3109 : decode cL_law 3109 = .ok (.invokevirtual 189, 3) := by decide +kernel
theorem dL_law_3112 : decode cL_law 3112 = .ok (.iload 6, 2) := by decide +kernel
theorem dL_law_3114 : decode cL_law 3114 = .ok (.if_icmp .eq 5, 3) := by decide +kernel
theorem dL_law_3119 : decode cL_law 3119 = .ok (.iload 6, 2) := by decide +kernel
theorem dL_law_3121 : decode cL_law 3121 = .ok (.ifCond .ne 15, 3) := by decide +kernel
theorem dL_law_3124 : decode cL_law 3124 = .ok (.aload_n 3, 1) := by decide +kernel
theorem dL_law_3125 : decode cL_law 3125 = .ok (.iconst 0, 1) := by decide +kernel
theorem dL_law_3126 : decode cL_law 3126 = .ok (.laload, 1) := by decide +kernel
theorem dL_law_3127 : decode cL_law 3127 = .ok (.iload 7, 2) := by decide +kernel
theorem dL_law_3129 : decode cL_law 3129 = .ok (.i2l, 1) := by decide +kernel
theorem dL_law_3130 : decode cL_law 3130 = .ok (.lcmp, 1) := by decide +kernel
theorem dL_law_3131 : decode cL_law 3131 = .ok (.ifCond .eq 5, 3) := by decide +kernel
theorem dL_law_3136 : decode cL_law 3136 = .ok (.goto 205, 3) := by decide +kernel
theorem dL_law_3139 : decode cL_law 3139 = .ok (.aload_n 1, 1) := by decide +kernel
theorem dL_law_3140 : decode cL_law 3140 = .ok (.aload_n 3, 1) := by decide +kernel
theorem dL_law_3141 : decode cL_law 3141 = .ok (.invokestatic 370, 3) := by decide +kernel
theorem dL_law_3144 : decode cL_law 3144 = .ok (.istore 6, 2) := by decide +kernel
theorem dL_law_3146 : decode cL_law 3146 = .ok (.aload_n 2, 1) := by decide +kernel
