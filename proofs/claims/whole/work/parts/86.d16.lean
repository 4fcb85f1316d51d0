/-! ===== the law's bytes ===== -/
theorem dL_law_3147 : decode cL_law 3147 = .ok (.invokevirtual 372, 3) := by decide +kernel
theorem dL_law_3150 : decode cL_law 3150 = .ok (.istore 7, 2) := by decide +kernel
theorem dL_law_3152 : decode cL_law 3152 = .ok (.aload_n 2, 1) := by decide +kernel
theorem dL_law_3153 : decode cL_law 3153 = .ok (.invokevirtual 189, 3) := by decide +kernel
theorem dL_law_3156 : decode cL_law 3156 = .ok (.iload 6, 2) := by decide +kernel
theorem dL_law_3158 : decode cL_law 3158 = .ok (.if_icmp .eq 5, 3) := by decide +kernel
theorem dL_law_3163 : decode cL_law 3163 = .ok (.iload 6, 2) := by decide +kernel
theorem dL_law_3165 : decode cL_law 3165 = .ok (.ifCond .ne 15, 3) := by decide +kernel
theorem dL_law_3168 : decode cL_law 3168 = .ok (.aload_n 3, 1) := by decide +kernel
theorem dL_law_3169 : decode cL_law 3169 = .ok (.iconst 0, 1) := by decide +kernel
theorem dL_law_3170 : decode cL_law 3170 = .ok (.laload, 1) := by decide +kernel
theorem dL_law_3171 : decode cL_law 3171 = .ok (.iload 7, 2) := by decide +kernel
theorem dL_law_3173 : decode cL_law 3173 = .ok (.i2l, 1) := by decide +kernel
theorem dL_law_3174 : decode cL_law 3174 = .ok (.lcmp, 1) := by decide +kernel
theorem dL_law_3175 : decode cL_law 3175 = .ok (.ifCond .eq 5, 3) := by decide +kernel
theorem dL_law_3180 : decode cL_law 3180 = .ok (.goto 161, 3) := by decide +kernel
theorem dL_law_3183 : decode cL_law 3183 = .ok (.aload_n 1, 1) := by decide +kernel
theorem dL_law_3184 : decode cL_law 3184 = .ok (.aload_n 3, 1) := by decide +kernel
theorem dL_law_3185 : decode cL_law 3185 = .ok (.invokestatic 373, 3) := by decide +kernel
theorem dL_law_3188 : decode cL_law 3188 = .ok (.istore 6, 2) := by decide +kernel
theorem dL_law_3190 : decode cL_law 3190 = .ok (.aload_n 2, 1) := by decide +kernel
theorem dL_law_3191 : decode cL_law 3191 = .ok (.invokevirtual 375, 3) := by decide +kernel
theorem dL_law_3194 : decode cL_law 3194 = .ok (.istore 7, 2) := by decide +kernel
theorem dL_law_3196 : decode cL_law 3196 = .ok (.aload_n 2, 1) := by decide +kernel
theorem dL_law_3197 : decode cL_law 3197 = .ok (.invokevirtual 189, 3) := by decide +kernel
theorem dL_law_3200 : decode cL_law 3200 = .ok (.iload 6, 2) := by decide +kernel
theorem dL_law_3202 : decode cL_law 3202 = .ok (.if_icmp .eq 5, 3) := by decide +kernel
theorem dL_law_3207 : decode cL_law 3207 = .ok (.iload 6, 2) := by decide +kernel
theorem dL_law_3209 : decode cL_law 3209 = .ok (.ifCond .ne 15, 3) := by decide +kernel
theorem dL_law_3212 : decode cL_law 3212 = .ok (.aload_n 3, 1) := by decide +kernel
theorem dL_law_3213 : decode cL_law 3213 = .ok (.iconst 0, 1) := by decide +kernel
theorem dL_law_3214 : decode cL_law 3214 = .ok (.laload, 1) := by decide +kernel
theorem dL_law_3215 : decode cL_law 3215 = .ok (.iload 7, 2) := by decide +kernel
theorem dL_law_3217 : decode cL_law 3217 = .ok (.i2l, 1) := by decide +kernel
theorem dL_law_3218 : decode cL_law 3218 = .ok (.lcmp, 1) := by decide +kernel
theorem dL_law_3219 : decode cL_law 3219 = .ok (.ifCond .eq 5, 3) := by decide +kernel
theorem dL_law_3224 : decode cL_law 3224 = .ok (.goto 117, 3) := by decide +kernel
theorem dL_law_3227 : decode cL_law 3227 = .ok (.aload_n 1, 1) := by decide +kernel
theorem dL_law_3228 : decode cL_law 3228 = .ok (.invokevirtual 376, 3) := by decide +kernel
theorem dL_law_3231 : decode cL_law 3231 = .ok (.aload_n 2, 1) := by decide +kernel
theorem dL_law_3232 : decode cL_law 3232 = .ok (.invokevirtual 379, 3) := by decide +kernel
theorem dL_law_3235 : decode cL_law 3235 = .ok (.if_icmp .eq 106, 3) := by decide +kernel
theorem dL_law_3240 : decode cL_law 3240 = .ok (.aload_n 1, 1) := by decide +kernel
theorem dL_law_3241 : decode cL_law 3241 = .ok (.aload_n 3, 1) := by decide +kernel
theorem dL_law_3242 : decode cL_law 3242 = .ok (.invokestatic 380, 3) := by decide +kernel
theorem dL_law_3245 : decode cL_law 3245 = .ok (.istore 6, 2) := by decide +kernel
theorem dL_law_3247 : decode cL_law 3247 = .ok (.aload_n 2, 1) := by decide +kernel
theorem dL_law_3248 : decode cL_law 3248 = .ok (.invokevirtual 382, 3) := by decide +kernel
theorem dL_law_3251 : decode cL_law 3251 = .ok (.istore 7, 2) := by decide +kernel
theorem dL_law_3253 : decode cL_law 3253 = .ok (.aload_n 2, 1) := by decide +kernel
theorem dL_law_3254 : decode cL_law 3254 = .ok (.invokevirtual 189, 3) := by decide +kernel
theorem dL_law_3257 : decode cL_law 3257 = .ok (.iload 6, 2) := by decide +kernel
theorem dL_law_3259 : decode cL_law 3259 = .ok (.if_icmp .eq 5, 3) := by decide +kernel
theorem dL_law_3264 : decode cL_law 3264 = .ok (.iload 6, 2) := by decide +kernel
theorem dL_law_3266 : decode cL_law 3266 = .ok (.ifCond .ne 15, 3) := by decide +kernel
theorem dL_law_3269 : decode cL_law 3269 = .ok (.aload_n 3, 1) := by decide +kernel
theorem dL_law_3270 : decode cL_law 3270 = .ok (.iconst 0, 1) := by decide +kernel
theorem dL_law_3271 : decode cL_law 3271 = .ok (.laload, 1) := by decide +kernel
theorem dL_law_3272 : decode cL_law 3272 = .ok (.iload 7, 2) := by decide +kernel
theorem dL_law_3274 : decode cL_law 3274 = .ok (.i2l, 1) := by decide +kernel
theorem dL_law_3275 : decode cL_law 3275 = .ok (.lcmp, 1) := by decide +kernel
theorem dL_law_3276 : decode cL_law 3276 = .ok (.ifCond .eq 5, 3) := by decide +kernel
theorem dL_law_3281 : decode cL_law 3281 = .ok (.goto 60, 3) := by decide +kernel
theorem dL_law_3284 : decode cL_law 3284 = .ok (.aload_n 1, 1) := by decide +kernel
theorem dL_law_3285 : decode cL_law 3285 = .ok (.invokevirtual 383, 3) := by decide +kernel
theorem dL_law_3288 : decode cL_law 3288 = .ok (.aload_n 2, 1) := by decide +kernel
theorem dL_law_3289 : decode cL_law 3289 = .ok (.invokevirtual 386, 3) := by decide +kernel
theorem dL_law_3292 : decode cL_law 3292 = .ok (.if_icmp .eq 49, 3) := by decide +kernel
theorem dL_law_3297 : decode cL_law 3297 = .ok (.aload_n 1, 1) := by decide +kernel
theorem dL_law_3298 : decode cL_law 3298 = .ok (.aload_n 3, 1) := by decide +kernel
theorem dL_law_3299 : decode cL_law 3299 = .ok (.invokestatic 387, 3) := by decide +kernel
theorem dL_law_3302 : decode cL_law 3302 = .ok (.istore 6, 2) := by decide +kernel
theorem dL_law_3304 : decode cL_law 3304 = .ok (.aload_n 2, 1) := by decide +kernel
theorem dL_law_3305 : decode cL_law 3305 = .ok (.invokevirtual 389, 3) := by decide +kernel
theorem dL_law_3308 : decode cL_law 3308 = .ok (.istore 7, 2) := by decide +kernel
theorem dL_law_3310 : decode cL_law 3310 = .ok (.aload_n 2, 1) := by decide +kernel
theorem dL_law_3311 : decode cL_law 3311 = .ok (.invokevirtual 189, 3) := by decide +kernel
theorem dL_law_3314 : decode cL_law 3314 = .ok (.iload 6, 2) := by decide +kernel
theorem dL_law_3316 : decode cL_law 3316 = .ok (.if_icmp .eq 5, 3) := by decide +kernel
theorem dL_law_3321 : decode cL_law 3321 = .ok (.iload 6, 2) := by decide +kernel
theorem dL_law_3323 : decode cL_law 3323 = .ok (.ifCond .ne 15, 3) := by decide +kernel
theorem dL_law_3326 : decode cL_law 3326 = .ok (.aload_n 3, 1) := by decide +kernel
theorem dL_law_3327 : decode cL_law 3327 = .ok (.iconst 0, 1) := by decide +kernel
theorem dL_law_3328 : decode cL_law 3328 = .ok (.laload, 1) := by decide +kernel
theorem dL_law_3329 : decode cL_law 3329 = .ok (.iload 7, 2) := by decide +kernel
theorem dL_law_3331 : decode cL_law 3331 = .ok (.i2l, 1) := by decide +kernel
theorem dL_law_3332 : decode cL_law 3332 = .ok (.lcmp, 1) := by decide +kernel
theorem dL_law_3333 : decode cL_law 3333 = .ok (.ifCond .eq 5, 3) := by decide +kernel
theorem dL_law_3338 : decode cL_law 3338 = .ok (.goto 3, 3) := by decide +kernel
theorem dL_law_3341 : decode cL_law 3341 = .ok (.iinc 5 3, 3) := by decide +kernel
theorem dL_law_3344 : decode cL_law 3344 = .ok (.goto (-3316), 3) := by decide +kernel
theorem dL_law_3347 : decode cL_law 3347 = .ok (.iconst 1, 1) := by decide +kernel
theorem dL_law_3348 : decode cL_law 3348 = .ok (.ireturn, 1) := by decide +kernel
