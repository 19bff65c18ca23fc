theorem dL_law_2937 : decode cL_law 2937 = .ok (.aload_n 1, 1) := by decide +kernel
theorem dL_law_2938 : decode cL_law 2938 = .ok (.aload_n 3, 1) := by decide +kernel
theorem dL_law_2939 : decode cL_law 2939 = .ok (.invokestatic 354, 3) := by decide +kernel
theorem dL_law_2942 : decode cL_law 2942 = .ok (.istore 6, 2) := by decide +kernel
theorem dL_law_2944 : decode cL_law 2944 = .ok (.aload_n 2, 1) := by decide +kernel
theorem dL_law_2945 : decode cL_law 2945 = .ok (.invokevirtual 356, 3) := by decide +kernel
theorem dL_law_2948 : decode cL_law 2948 = .ok (.istore 7, 2) := by decide +kernel
theorem dL_law_2950 : decode cL_law 2950 = .ok (.aload_n 2, 1) := by decide +kernel
theorem dL_law_2951 : decode cL_law 2951 = .ok (.invokevirtual 204, 3) := by decide +kernel
theorem dL_law_2954 : decode cL_law 2954 = .ok (.iload 6, 2) := by decide +kernel
theorem dL_law_2956 : decode cL_law 2956 = .ok (.if_icmp .eq 5, 3) := by decide +kernel
theorem dL_law_2961 : decode cL_law 2961 = .ok (.iload 6, 2) := by decide +kernel
theorem dL_law_2963 : decode cL_law 2963 = .ok (.ifCond .ne 15, 3) := by decide +kernel
theorem dL_law_2978 : decode cL_law 2978 = .ok (.goto 997, 3) := by decide +kernel
theorem dL_law_2981 : decode cL_law 2981 = .ok (.aload_n 1, 1) := by decide +kernel
theorem dL_law_2982 : decode cL_law 2982 = .ok (.aload_n 0, 1) := by decide +kernel
theorem dL_law_2983 : decode cL_law 2983 = .ok (.iload 5, 2) := by decide +kernel
theorem dL_law_2985 : decode cL_law 2985 = .ok (.iconst 1, 1) := by decide +kernel
theorem dL_law_2986 : decode cL_law 2986 = .ok (.iadd, 1) := by decide +kernel
theorem dL_law_2987 : decode cL_law 2987 = .ok (.iaload, 1) := by decide +kernel
theorem dL_law_2988 : decode cL_law 2988 = .ok (.aload_n 3, 1) := by decide +kernel
theorem dL_law_2989 : decode cL_law 2989 = .ok (.invokestatic 357, 3) := by decide +kernel
theorem dL_law_2992 : decode cL_law 2992 = .ok (.istore 6, 2) := by decide +kernel
theorem dL_law_2994 : decode cL_law 2994 = .ok (.aload_n 2, 1) := by decide +kernel
theorem dL_law_2995 : decode cL_law 2995 = .ok (.aload_n 0, 1) := by decide +kernel
theorem dL_law_2996 : decode cL_law 2996 = .ok (.iload 5, 2) := by decide +kernel
theorem dL_law_2998 : decode cL_law 2998 = .ok (.iconst 1, 1) := by decide +kernel
theorem dL_law_2999 : decode cL_law 2999 = .ok (.iadd, 1) := by decide +kernel
theorem dL_law_3000 : decode cL_law 3000 = .ok (.iaload, 1) := by decide +kernel
theorem dL_law_3001 : decode cL_law 3001 = .ok (.invokevirtual 359, 3) := by decide +kernel
theorem dL_law_3004 : decode cL_law 3004 = .ok (.istore 7, 2) := by decide +kernel
theorem dL_law_3006 : decode cL_law 3006 = .ok (.aload_n 2, 1) := by decide +kernel
theorem dL_law_3007 : decode cL_law 3007 = .ok (.invokevirtual 204, 3) := by decide +kernel
theorem dL_law_3010 : decode cL_law 3010 = .ok (.iload 6, 2) := by decide +kernel
theorem dL_law_3012 : decode cL_law 3012 = .ok (.if_icmp .eq 5, 3) := by decide +kernel
theorem dL_law_3017 : decode cL_law 3017 = .ok (.iload 6, 2) := by decide +kernel
theorem dL_law_3019 : decode cL_law 3019 = .ok (.ifCond .ne 15, 3) := by decide +kernel
theorem dL_law_3034 : decode cL_law 3034 = .ok (.goto 941, 3) := by decide +kernel
theorem dL_law_3037 : decode cL_law 3037 = .ok (.aload_n 1, 1) := by decide +kernel
theorem dL_law_3038 : decode cL_law 3038 = .ok (.aload_n 0, 1) := by decide +kernel
theorem dL_law_3039 : decode cL_law 3039 = .ok (.iload 5, 2) := by decide +kernel
theorem dL_law_3041 : decode cL_law 3041 = .ok (.iconst 1, 1) := by decide +kernel
theorem dL_law_3042 : decode cL_law 3042 = .ok (.iadd, 1) := by decide +kernel
theorem dL_law_3043 : decode cL_law 3043 = .ok (.iaload, 1) := by decide +kernel
theorem dL_law_3044 : decode cL_law 3044 = .ok (.aload_n 0, 1) := by decide +kernel
theorem dL_law_3045 : decode cL_law 3045 = .ok (.iload 5, 2) := by decide +kernel
theorem dL_law_3047 : decode cL_law 3047 = .ok (.iconst 2, 1) := by decide +kernel
theorem dL_law_3048 : decode cL_law 3048 = .ok (.iadd, 1) := by decide +kernel
theorem dL_law_3049 : decode cL_law 3049 = .ok (.iaload, 1) := by decide +kernel
theorem dL_law_3050 : decode cL_law 3050 = .ok (.aload_n 3, 1) := by decide +kernel
theorem dL_law_3051 : decode cL_law 3051 = .ok (.invokestatic 360, 3) := by decide +kernel
theorem dL_law_3054 : decode cL_law 3054 = .ok (.istore 6, 2) := by decide +kernel
theorem dL_law_3056 : decode cL_law 3056 = .ok (.aload_n 2, 1) := by decide +kernel
theorem dL_law_3057 : decode cL_law 3057 = .ok (.aload_n 0, 1) := by decide +kernel
theorem dL_law_3058 : decode cL_law 3058 = .ok (.iload 5, 2) := by decide +kernel
theorem dL_law_3060 : decode cL_law 3060 = .ok (.iconst 1, 1) := by decide +kernel
theorem dL_law_3061 : decode cL_law 3061 = .ok (.iadd, 1) := by decide +kernel
theorem dL_law_3062 : decode cL_law 3062 = .ok (.iaload, 1) := by decide +kernel
theorem dL_law_3063 : decode cL_law 3063 = .ok (.aload_n 0, 1) := by decide +kernel
theorem dL_law_3064 : decode cL_law 3064 = .ok (.iload 5, 2) := by decide +kernel
theorem dL_law_3066 : decode cL_law 3066 = .ok (.iconst 2, 1) := by decide +kernel
theorem dL_law_3067 : decode cL_law 3067 = .ok (.iadd, 1) := by decide +kernel
theorem dL_law_3068 : decode cL_law 3068 = .ok (.iaload, 1) := by decide +kernel
theorem dL_law_3069 : decode cL_law 3069 = .ok (.invokevirtual 362, 3) := by decide +kernel
theorem dL_law_3072 : decode cL_law 3072 = .ok (.istore 7, 2) := by decide +kernel
theorem dL_law_3074 : decode cL_law 3074 = .ok (.aload_n 2, 1) := by decide +kernel
theorem dL_law_3075 : decode cL_law 3075 = .ok (.invokevirtual 204, 3) := by decide +kernel
theorem dL_law_3078 : decode cL_law 3078 = .ok (.iload 6, 2) := by decide +kernel
theorem dL_law_3080 : decode cL_law 3080 = .ok (.if_icmp .eq 5, 3) := by decide +kernel
theorem dL_law_3085 : decode cL_law 3085 = .ok (.iload 6, 2) := by decide +kernel
theorem dL_law_3087 : decode cL_law 3087 = .ok (.ifCond .ne 15, 3) := by decide +kernel
theorem dL_law_3102 : decode cL_law 3102 = .ok (.goto 873, 3) := by decide +kernel
theorem dL_law_3105 : decode cL_law 3105 = .ok (.aload_n 1, 1) := by decide +kernel
theorem dL_law_3106 : decode cL_law 3106 = .ok (.aload_n 0, 1) := by decide +kernel
theorem dL_law_3107 : decode cL_law 3107 = .ok (.iload 5, 2) := by decide +kernel
theorem dL_law_3109 : decode cL_law 3109 = .ok (.iconst 1, 1) := by decide +kernel
theorem dL_law_3110 : decode cL_law 3110 = .ok (.iadd, 1) := by decide +kernel
theorem dL_law_3111 : decode cL_law 3111 = .ok (.iaload, 1) := by decide +kernel
theorem dL_law_3112 : decode cL_law 3112 = .ok (.aload_n 0, 1) := by decide +kernel
theorem dL_law_3113 : decode cL_law 3113 = .ok (.iload 5, 2) := by decide +kernel
theorem dL_law_3115 : decode cL_law 3115 = .ok (.iconst 2, 1) := by decide +kernel
theorem dL_law_3116 : decode cL_law 3116 = .ok (.iadd, 1) := by decide +kernel
theorem dL_law_3117 : decode cL_law 3117 = .ok (.iaload, 1) := by decide +kernel
theorem dL_law_3118 : decode cL_law 3118 = .ok (.aload_n 0, 1) := by decide +kernel
theorem dL_law_3119 : decode cL_law 3119 = .ok (.iload 5, 2) := by decide +kernel
theorem dL_law_3121 : decode cL_law 3121 = .ok (.iconst 3, 1) := by decide +kernel
theorem dL_law_3122 : decode cL_law 3122 = .ok (.iadd, 1) := by decide +kernel
theorem dL_law_3123 : decode cL_law 3123 = .ok (.iaload, 1) := by decide +kernel
theorem dL_law_3124 : decode cL_law 3124 = .ok (.aload_n 3, 1) := by decide +kernel
theorem dL_law_3125 : decode cL_law 3125 = .ok (.invokestatic 363, 3) := by decide +kernel
theorem dL_law_3128 : decode cL_law 3128 = .ok (.istore 6, 2) := by decide +kernel
theorem dL_law_3130 : decode cL_law 3130 = .ok (.aload_n 2, 1) := by decide +kernel
theorem dL_law_3131 : decode cL_law 3131 = .ok (.aload_n 0, 1) := by decide +kernel
theorem dL_law_3132 : decode cL_law 3132 = .ok (.iload 5, 2) := by decide +kernel
theorem dL_law_3134 : decode cL_law 3134 = .ok (.iconst 1, 1) := by decide +kernel
theorem dL_law_3135 : decode cL_law 3135 = .ok (.iadd, 1) := by decide +kernel
theorem dL_law_3136 : decode cL_law 3136 = .ok (.iaload, 1) := by decide +kernel
theorem dL_law_3137 : decode cL_law 3137 = .ok (.aload_n 0, 1) := by decide +kernel
theorem dL_law_3138 : decode cL_law 3138 = .ok (.iload 5, 2) := by decide +kernel
theorem dL_law_3140 : decode cL_law 3140 = .ok (.iconst 2, 1) := by decide +kernel
theorem dL_law_3141 : decode cL_law 3141 = .ok (.iadd, 1) := by decide +kernel
theorem dL_law_3142 : decode cL_law 3142 = .ok (.iaload, 1) := by decide +kernel
theorem dL_law_3143 : decode cL_law 3143 = .ok (.aload_n 0, 1) := by decide +kernel
theorem dL_law_3144 : decode cL_law 3144 = .ok (.iload 5, 2) := by decide +kernel
theorem dL_law_3146 : decode cL_law 3146 = .ok (.iconst 3, 1) := by decide +kernel
theorem dL_law_3147 : decode cL_law 3147 = .ok (.iadd, 1) := by decide +kernel
theorem dL_law_3148 : decode cL_law 3148 = .ok (.iaload, 1) := by decide +kernel
theorem dL_law_3149 : decode cL_law 3149 = .ok (.invokevirtual 365, 3) := by decide +kernel
theorem dL_law_3152 : decode cL_law 3152 = .ok (.lstore 7, 2) := by decide +kernel
theorem dL_law_3154 : decode cL_law 3154 = .ok (.aload_n 2, 1) := by decide +kernel
theorem dL_law_3155 : decode cL_law 3155 = .ok (.invokevirtual 204, 3) := by decide +kernel
theorem dL_law_3158 : decode cL_law 3158 = .ok (.iload 6, 2) := by decide +kernel
theorem dL_law_3160 : decode cL_law 3160 = .ok (.if_icmp .eq 5, 3) := by decide +kernel
theorem dL_law_3165 : decode cL_law 3165 = .ok (.iload 6, 2) := by decide +kernel
theorem dL_law_3167 : decode cL_law 3167 = .ok (.ifCond .ne 14, 3) := by decide +kernel
theorem dL_law_3181 : decode cL_law 3181 = .ok (.goto 794, 3) := by decide +kernel
theorem dL_law_3184 : decode cL_law 3184 = .ok (.aload_n 1, 1) := by decide +kernel
theorem dL_law_3185 : decode cL_law 3185 = .ok (.aload_n 0, 1) := by decide +kernel
theorem dL_law_3186 : decode cL_law 3186 = .ok (.iload 5, 2) := by decide +kernel
theorem dL_law_3188 : decode cL_law 3188 = .ok (.iconst 1, 1) := by decide +kernel
theorem dL_law_3189 : decode cL_law 3189 = .ok (.iadd, 1) := by decide +kernel
theorem dL_law_3190 : decode cL_law 3190 = .ok (.iaload, 1) := by decide +kernel
theorem dL_law_3191 : decode cL_law 3191 = .ok (.aload_n 3, 1) := by decide +kernel
theorem dL_law_3192 : decode cL_law 3192 = .ok (.invokestatic 366, 3) := by decide +kernel
theorem dL_law_3195 : decode cL_law 3195 = .ok (.istore 6, 2) := by decide +kernel
theorem dL_law_3197 : decode cL_law 3197 = .ok (.aload_n 2, 1) := by decide +kernel
theorem dL_law_3198 : decode cL_law 3198 = .ok (.aload_n 0, 1) := by decide +kernel
theorem dL_law_3199 : decode cL_law 3199 = .ok (.iload 5, 2) := by decide +kernel
theorem dL_law_3201 : decode cL_law 3201 = .ok (.iconst 1, 1) := by decide +kernel
theorem dL_law_3202 : decode cL_law 3202 = .ok (.iadd, 1) := by decide +kernel
theorem dL_law_3203 : decode cL_law 3203 = .ok (.iaload, 1) := by decide +kernel
theorem dL_law_3204 : decode cL_law 3204 = .ok (.invokevirtual 368, 3) := by decide +kernel
theorem dL_law_3207 : decode cL_law 3207 = .ok (.istore 7, 2) := by decide +kernel
theorem dL_law_3209 : decode cL_law 3209 = .ok (.aload_n 2, 1) := by decide +kernel
theorem dL_law_3210 : decode cL_law 3210 = .ok (.invokevirtual 204, 3) := by decide +kernel
theorem dL_law_3213 : decode cL_law 3213 = .ok (.iload 6, 2) := by decide +kernel
theorem dL_law_3215 : decode cL_law 3215 = .ok (.if_icmp .eq 5, 3) := by decide +kernel
theorem dL_law_3220 : decode cL_law 3220 = .ok (.iload 6, 2) := by decide +kernel
theorem dL_law_3222 : decode cL_law 3222 = .ok (.ifCond .ne 15, 3) := by decide +kernel
theorem dL_law_3237 : decode cL_law 3237 = .ok (.goto 738, 3) := by decide +kernel
theorem dL_law_3240 : decode cL_law 3240 = .ok (.aload_n 1, 1) := by decide +kernel
theorem dL_law_3241 : decode cL_law 3241 = .ok (.aload_n 0, 1) := by decide +kernel
theorem dL_law_3242 : decode cL_law 3242 = .ok (.iload 5, 2) := by decide +kernel
theorem dL_law_3244 : decode cL_law 3244 = .ok (.iconst 1, 1) := by decide +kernel
theorem dL_law_3245 : decode cL_law 3245 = .ok (.iadd, 1) := by decide +kernel
theorem dL_law_3246 : decode cL_law 3246 = .ok (.iaload, 1) := by decide +kernel
theorem dL_law_3247 : decode cL_law 3247 = .ok (.aload_n 3, 1) := by decide +kernel
theorem dL_law_3248 : decode cL_law 3248 = .ok (.invokestatic 369, 3) := by decide +kernel
theorem dL_law_3251 : decode cL_law 3251 = .ok (.istore 6, 2) := by decide +kernel
theorem dL_law_3253 : decode cL_law 3253 = .ok (.aload_n 2, 1) := by decide +kernel
theorem dL_law_3254 : decode cL_law 3254 = .ok (.aload_n 0, 1) := by decide +kernel
theorem dL_law_3255 : decode cL_law 3255 = .ok (.iload 5, 2) := by decide +kernel
theorem dL_law_3257 : decode cL_law 3257 = .ok (.iconst 1, 1) := by decide +kernel
theorem dL_law_3258 : decode cL_law 3258 = .ok (.iadd, 1) := by decide +kernel
theorem dL_law_3259 : decode cL_law 3259 = .ok (.iaload, 1) := by decide +kernel
theorem dL_law_3260 : decode cL_law 3260 = .ok (.invokevirtual 371, 3) := by decide +kernel
theorem dL_law_3263 : decode cL_law 3263 = .ok (.istore 7, 2) := by decide +kernel
theorem dL_law_3265 : decode cL_law 3265 = .ok (.aload_n 2, 1) := by decide +kernel
theorem dL_law_3266 : decode cL_law 3266 = .ok (.invokevirtual 204, 3) := by decide +kernel
theorem dL_law_3269 : decode cL_law 3269 = .ok (.iload 6, 2) := by decide +kernel
theorem dL_law_3271 : decode cL_law 3271 = .ok (.if_icmp .eq 5, 3) := by decide +kernel
theorem dL_law_3276 : decode cL_law 3276 = .ok (.iload 6, 2) := by decide +kernel
theorem dL_law_3278 : decode cL_law 3278 = .ok (.ifCond .ne 15, 3) := by decide +kernel
theorem dL_law_3293 : decode cL_law 3293 = .ok (.goto 682, 3) := by decide +kernel
theorem dL_law_3296 : decode cL_law 3296 = .ok (.aload_n 1, 1) := by decide +kernel
theorem dL_law_3297 : decode cL_law 3297 = .ok (.aload_n 0, 1) := by decide +kernel
theorem dL_law_3298 : decode cL_law 3298 = .ok (.iload 5, 2) := by decide +kernel
theorem dL_law_3300 : decode cL_law 3300 = .ok (.iconst 1, 1) := by decide +kernel
theorem dL_law_3301 : decode cL_law 3301 = .ok (.iadd, 1) := by decide +kernel
theorem dL_law_3302 : decode cL_law 3302 = .ok (.iaload, 1) := by decide +kernel
theorem dL_law_3303 : decode cL_law 3303 = .ok (.aload_n 0, 1) := by decide +kernel
theorem dL_law_3304 : decode cL_law 3304 = .ok (.iload 5, 2) := by decide +kernel
theorem dL_law_3306 : decode cL_law 3306 = .ok (.iconst 2, 1) := by decide +kernel
theorem dL_law_3307 : decode cL_law 3307 = .ok (.iadd, 1) := by decide +kernel
theorem dL_law_3308 : decode cL_law 3308 = .ok (.iaload, 1) := by decide +kernel
theorem dL_law_3309 : decode cL_law 3309 = .ok (.ifCond .eq 7, 3) := by decide +kernel
theorem dL_law_3312 : decode cL_law 3312 = .ok (.iconst 1, 1) := by decide +kernel
theorem dL_law_3313 : decode cL_law 3313 = .ok (.goto 4, 3) := by decide +kernel
theorem dL_law_3316 : decode cL_law 3316 = .ok (.iconst 0, 1) := by decide +kernel
theorem dL_law_3317 : decode cL_law 3317 = .ok (.aload_n 3, 1) := by decide +kernel
theorem dL_law_3318 : decode cL_law 3318 = .ok (.invokestatic 372, 3) := by decide +kernel
theorem dL_law_3321 : decode cL_law 3321 = .ok (.istore 6, 2) := by decide +kernel
theorem dL_law_3323 : decode cL_law 3323 = .ok (.aload_n 2, 1) := by decide +kernel
theorem dL_law_3324 : decode cL_law 3324 = .ok (.aload_n 0, 1) := by decide +kernel
theorem dL_law_3325 : decode cL_law 3325 = .ok (.iload 5, 2) := by decide +kernel
theorem dL_law_3327 : decode cL_law 3327 = .ok (.iconst 1, 1) := by decide +kernel
theorem dL_law_3328 : decode cL_law 3328 = .ok (.iadd, 1) := by decide +kernel
theorem dL_law_3329 : decode cL_law 3329 = .ok (.iaload, 1) := by decide +kernel
theorem dL_law_3330 : decode cL_law 3330 = .ok (.aload_n 0, 1) := by decide +kernel
theorem dL_law_3331 : decode cL_law 3331 = .ok (.iload 5, 2) := by decide +kernel
theorem dL_law_3333 : decode cL_law 3333 = .ok (.iconst 2, 1) := by decide +kernel
theorem dL_law_3334 : decode cL_law 3334 = .ok (.iadd, 1) := by decide +kernel
theorem dL_law_3335 : decode cL_law 3335 = .ok (.iaload, 1) := by decide +kernel
theorem dL_law_3336 : decode cL_law 3336 = .ok (.ifCond .eq 7, 3) := by decide +kernel
theorem dL_law_3339 : decode cL_law 3339 = .ok (.iconst 1, 1) := by decide +kernel
theorem dL_law_3340 : decode cL_law 3340 = .ok (.goto 4, 3) := by decide +kernel
theorem dL_law_3343 : decode cL_law 3343 = .ok (.iconst 0, 1) := by decide +kernel
theorem dL_law_3344 : decode cL_law 3344 = .ok (.invokevirtual 375, 3) := by decide +kernel
theorem dL_law_3347 : decode cL_law 3347 = .ok (.istore 7, 2) := by decide +kernel
theorem dL_law_3349 : decode cL_law 3349 = .ok (.aload_n 2, 1) := by decide +kernel
theorem dL_law_3350 : decode cL_law 3350 = .ok (.invokevirtual 204, 3) := by decide +kernel
theorem dL_law_3353 : decode cL_law 3353 = .ok (.iload 6, 2) := by decide +kernel
theorem dL_law_3355 : decode cL_law 3355 = .ok (.if_icmp .eq 5, 3) := by decide +kernel
theorem dL_law_3360 : decode cL_law 3360 = .ok (.iload 6, 2) := by decide +kernel
theorem dL_law_3362 : decode cL_law 3362 = .ok (.ifCond .ne 22, 3) := by decide +kernel
theorem dL_law_3384 : decode cL_law 3384 = .ok (.goto 591, 3) := by decide +kernel
theorem dL_law_3387 : decode cL_law 3387 = .ok (.aload_n 1, 1) := by decide +kernel
theorem dL_law_3388 : decode cL_law 3388 = .ok (.aload_n 0, 1) := by decide +kernel
theorem dL_law_3389 : decode cL_law 3389 = .ok (.iload 5, 2) := by decide +kernel
theorem dL_law_3391 : decode cL_law 3391 = .ok (.iconst 1, 1) := by decide +kernel
theorem dL_law_3392 : decode cL_law 3392 = .ok (.iadd, 1) := by decide +kernel
theorem dL_law_3393 : decode cL_law 3393 = .ok (.iaload, 1) := by decide +kernel
theorem dL_law_3394 : decode cL_law 3394 = .ok (.aload_n 0, 1) := by decide +kernel
theorem dL_law_3395 : decode cL_law 3395 = .ok (.iload 5, 2) := by decide +kernel
theorem dL_law_3397 : decode cL_law 3397 = .ok (.iconst 2, 1) := by decide +kernel
theorem dL_law_3398 : decode cL_law 3398 = .ok (.iadd, 1) := by decide +kernel
theorem dL_law_3399 : decode cL_law 3399 = .ok (.iaload, 1) := by decide +kernel
theorem dL_law_3400 : decode cL_law 3400 = .ok (.aload_n 3, 1) := by decide +kernel
theorem dL_law_3401 : decode cL_law 3401 = .ok (.invokestatic 376, 3) := by decide +kernel
theorem dL_law_3404 : decode cL_law 3404 = .ok (.istore 6, 2) := by decide +kernel
theorem dL_law_3406 : decode cL_law 3406 = .ok (.aload_n 2, 1) := by decide +kernel
theorem dL_law_3407 : decode cL_law 3407 = .ok (.aload_n 0, 1) := by decide +kernel
theorem dL_law_3408 : decode cL_law 3408 = .ok (.iload 5, 2) := by decide +kernel
theorem dL_law_3410 : decode cL_law 3410 = .ok (.iconst 1, 1) := by decide +kernel
theorem dL_law_3411 : decode cL_law 3411 = .ok (.iadd, 1) := by decide +kernel
theorem dL_law_3412 : decode cL_law 3412 = .ok (.iaload, 1) := by decide +kernel
theorem dL_law_3413 : decode cL_law 3413 = .ok (.aload_n 0, 1) := by decide +kernel
theorem dL_law_3414 : decode cL_law 3414 = .ok (.iload 5, 2) := by decide +kernel
theorem dL_law_3416 : decode cL_law 3416 = .ok (.iconst 2, 1) := by decide +kernel
theorem dL_law_3417 : decode cL_law 3417 = .ok (.iadd, 1) := by decide +kernel
theorem dL_law_3418 : decode cL_law 3418 = .ok (.iaload, 1) := by decide +kernel
theorem dL_law_3419 : decode cL_law 3419 = .ok (.invokevirtual 378, 3) := by decide +kernel
theorem dL_law_3422 : decode cL_law 3422 = .ok (.istore 7, 2) := by decide +kernel
theorem dL_law_3424 : decode cL_law 3424 = .ok (.aload_n 2, 1) := by decide +kernel
theorem dL_law_3425 : decode cL_law 3425 = .ok (.invokevirtual 204, 3) := by decide +kernel
theorem dL_law_3428 : decode cL_law 3428 = .ok (.iload 6, 2) := by decide +kernel
theorem dL_law_3430 : decode cL_law 3430 = .ok (.if_icmp .eq 5, 3) := by decide +kernel
theorem dL_law_3435 : decode cL_law 3435 = .ok (.iload 6, 2) := by decide +kernel
theorem dL_law_3437 : decode cL_law 3437 = .ok (.ifCond .ne 15, 3) := by decide +kernel
theorem dL_law_3452 : decode cL_law 3452 = .ok (.goto 523, 3) := by decide +kernel
set_option maxHeartbeats 4000000 in
set_option maxRecDepth 100000 in
theorem p_a47 {p : Program} {e : Env} {s : State} {m : MethodId} {below : List Frame} {meth : Method} {c : Code} (l : Launch) (hst : l.stackTraces = false) {b : Nat} {xs : Nat → Int32} (hx : p.tables.exec = Jvm.exec) (hb : c.code = code) (hr : meth.sig.returnType = ret) (hml : c.maxLocals = 9) (hown : s.vm.findClass RL = some m.cls) (hts : ∀ w ∈ lw_tbl, w.before #[Value.ref b] s = true) (hlocks : meth.locks = false) (hX0 : va_X b 6 xs s s.heap) (hbl : b < s.heap.size) (hX : xT (fun q => s.heap.size ≤ q) s) (hN1 : va_Nc xIAE xIOB s) (hN2 : va_Nc xISE xIOB s) {D : va_G} {cI cJ cZ cMic cSrc cSt cAI cAJ cD : ClassId} {ad am : Nat → Nat} {N : Nat} {S : Nat → va_E} {ls : Array Slot} {H : Heap} {locs : List Loc} (hK : va_K D vwCl (CT cI cJ cZ cMic cSrc cSt cAI cAJ ++ [(cD, .double)]) s) (hN : 1586 ≤ N) (F : FR cI cJ cZ cMic cSrc cSt cAI cAJ ad S) (G : lG D ad N cI cJ cZ am (fun q => s.heap.size ≤ q) s.heap H locs S mS0) (hl : lv_has ls 9 [(5, .int 0), (4, .ref (am 99)), (3, .ref (am 98)), (2, .ref (am 0)), (1, .ref (ad 0)), (0, .ref b)]) : W p l e room_1 s m #[Value.ref b] below meth c H locs 1605 82603 (lw_Z below #[Value.ref b] s) (F0 m 2937 ls []) := by
  obtain ⟨hS0, hS1, hS2, hS3, hS4, hS5, hS6, hS432, hS478, hS480, hS656, hS658⟩ := F
  have E : cE p c cL_law s m #[Value.ref b] lw_tbl D RL (CT cI cJ cZ cMic cSrc cSt cAI cAJ ++ [(cD, .double)]) := ⟨hx, hb, hts, hown, hK⟩
  have hKm : va_K D vwCl (MT cI cJ cZ) s := hK.sub [0, 1, 2] rfl
  have hKb : ∀ t : State, s.vm.Alike t.vm → va_K D vwCl (CT cI cJ cZ cMic cSrc cSt cAI cAJ ++ [(cD, .double)]) t := fun t h => va_K.moved h hK
  have hA : ∀ q : Nat, s.heap.size ≤ q → s.heap.size ≤ q := fun _ h => h
  refine lv_aload_n hx hb dL_law_2937 rfl (lv_at hl 4 rfl) ?_
  refine lv_aload_n hx hb dL_law_2938 rfl (lv_at hl 2 rfl) ?_
  refine l_w (As := [.ref (ad 0), .ref (am 98)]) (rest := []) E G hA hX hN1 hN2 (fun _ _ h _ _ k => va_Nc.moved h k) rfl hml (w_writeMap l hst D _ ad N S (sc := 478) (Nat.lt_of_lt_of_le (by decide) hN) hS0 rfl (Nat.lt_of_lt_of_le (by decide) hN) hS478 rfl (am 98)) (vx_cwSW 2 hts (glA (L := [Cond.methodLink RL 354 yL_writeMap, Cond.static yL_writeMap, Cond.initialized RL]) (gl_in [(7, 39), (7, 40), (1, 0)] (by decide +kernel) (by decide +kernel)) ⟨(t_of [Cond.codeWith yL_writeMap cL_writeMap 3 (some .int) [(0, 8, 11, 21)]] [(7, 41)] (by decide +kernel) _ List.mem_cons_self), List.all_eq_true.mp (by decide +kernel : [Cond.codeWith yL_writeMap cL_writeMap 3 (some .int) [(0, 8, 11, 21)]].all goodWord = true) _ List.mem_cons_self⟩) rfl rfl rfl (by decide +kernel) ⟨Nat.le_of_ble_eq_true rfl, Nat.le_of_ble_eq_true rfl⟩) rfl hl.1 rfl (lv_room (Nat.le_of_ble_eq_true rfl)) dL_law_2939 ⟨Nat.le_of_ble_eq_true rfl, Nat.le_of_ble_eq_true rfl⟩ (fun r S1 H locs hq G => ?_)
  obtain ⟨hq1, hq2⟩ := hq
  rw [hq2] at G
  refine lv_to (y := 1) hq1 ?_
  refine lv_istore (lv' := [(6, .int 1), (5, .int 0), (4, .ref (am 99)), (3, .ref (am 98)), (2, .ref (am 0)), (1, .ref (ad 0)), (0, .ref b)]) hx hb dL_law_2942 hl (by decide) rfl (fun ls hl => ?_)
  refine lv_aload_n hx hb dL_law_2944 rfl (lv_at hl 4 rfl) ?_
  refine l_mi (As := []) (rest := []) E G hA hKm hKb hX.2.2.2.2 hml (n_writeMap l D cI cJ cZ am mS0 rfl (fun _ => rfl)) (cwV 0 hts (glM (L := [Cond.methodLink RL 356 yX12_writeMap, Cond.instanceMethod yX12_writeMap, Cond.selects RX12 yX12_writeMap yX12_writeMap, Cond.initialized RX12]) (gl_in [(10, 124), (10, 125), (10, 126), (1, 14)] (by decide +kernel) (by decide +kernel)) ⟨(t_of [Cond.code yX12_writeMap cX12_writeMap 4 (some .int)] [(10, 127)] (by decide +kernel) _ List.mem_cons_self), List.all_eq_true.mp (by decide +kernel : [Cond.code yX12_writeMap cX12_writeMap 4 (some .int)].all goodWord = true) _ List.mem_cons_self⟩) rfl rfl rfl (by decide +kernel) ⟨Nat.le_of_ble_eq_true rfl, Nat.le_of_ble_eq_true rfl⟩) rfl hl.1 rfl (lv_room (Nat.le_of_ble_eq_true rfl)) dL_law_2945 ⟨Nat.le_of_ble_eq_true rfl, Nat.le_of_ble_eq_true rfl⟩ (fun r1 S1 H locs hq G => ?_)
  obtain ⟨hq1, hq2⟩ := hq
  rw [hq2] at G
  refine lv_to (y := 0) hq1 ?_
  refine lv_istore (lv' := [(7, .int 0), (6, .int 1), (5, .int 0), (4, .ref (am 99)), (3, .ref (am 98)), (2, .ref (am 0)), (1, .ref (ad 0)), (0, .ref b)]) hx hb dL_law_2948 hl (by decide) rfl (fun ls hl => ?_)
  refine lv_aload_n hx hb dL_law_2950 rfl (lv_at hl 5 rfl) ?_
  refine l_mi (As := []) (rest := []) E G hA hKm hKb hX.2.2.2.2 hml (m_thrown l D cI cJ cZ am (mi mS0 0 1)) (cwV 0 hts (glM (L := [Cond.methodLink RL 204 yX12_thrown, Cond.instanceMethod yX12_thrown, Cond.selects RX12 yX12_thrown yX12_thrown, Cond.initialized RX12]) (gl_in [(8, 65), (8, 66), (8, 67), (1, 14)] (by decide +kernel) (by decide +kernel)) ⟨(t_of [Cond.code yX12_thrown cX12_thrown 1 (some .int)] [(8, 68)] (by decide +kernel) _ List.mem_cons_self), List.all_eq_true.mp (by decide +kernel : [Cond.code yX12_thrown cX12_thrown 1 (some .int)].all goodWord = true) _ List.mem_cons_self⟩) rfl rfl rfl (by decide +kernel) ⟨Nat.le_of_ble_eq_true rfl, Nat.le_of_ble_eq_true rfl⟩) rfl hl.1 rfl (lv_room (Nat.le_of_ble_eq_true rfl)) dL_law_2951 ⟨Nat.le_of_ble_eq_true rfl, Nat.le_of_ble_eq_true rfl⟩ (fun r2 S1 H locs hq G => ?_)
  obtain ⟨hq1, hq2⟩ := hq
  rw [hq2] at G
  refine lv_to (y := 1) hq1 ?_
  refine lv_iload hx hb dL_law_2954 (lv_at hl 1 rfl) ?_
  refine lv_icmp_eq (tgt := 2961) hx hb dL_law_2956 (by decide) (fun c3 => ?_) (fun c3 => absurd (by decide +kernel) c3)
  refine lv_iload hx hb dL_law_2961 (lv_at hl 1 rfl) ?_
  refine lv_if_ne (tgt := 2978) hx hb dL_law_2963 (by decide) (fun c4 => ?_) (fun c4 => absurd c4 (by decide +kernel))
  refine lv_goto (tgt := 3975) hx hb dL_law_2978 (by decide) ?_
  refine lv_iinc (v := 6) (lv' := [(5, .int 6), (7, .int 0), (6, .int 1), (4, .ref (am 99)), (3, .ref (am 98)), (2, .ref (am 0)), (1, .ref (ad 0)), (0, .ref b)]) hx hb dL_law_3975 hl (k := 2) rfl (by decide +kernel) (by decide) rfl (fun ls hl => ?_)
  refine lv_goto (tgt := 28) hx hb dL_law_3978 (by decide) ?_
  refine lv_iload hx hb dL_law_28 (lv_at hl 0 rfl) ?_
  refine lv_aload_n hx hb dL_law_30 rfl (lv_at hl 7 rfl) ?_
  refine va_slen hx hb hX0 hbl (Nat.not_le.mpr hbl) G.2.2 dL_law_31 ?_
  refine lv_to (y := 6) (by decide) ?_
  refine lv_bipush (v := 6) hx hb dL_law_32 (by decide) ?_
  refine lv_isub hx hb dL_law_34 ?_
  refine lv_to (y := 0) (by decide +kernel) ?_
  refine lv_icmp_gt (tgt := 3981) hx hb dL_law_35 (by decide) (fun c5 => ?_) (fun c5 => absurd (by decide +kernel) c5)
  refine lv_iconst (v := 1) hx hb dL_law_3981 (by decide) ?_
  refine va_forget G.2.2.2.2 ?_
  refine W.widen (k := 600002) (n := 7302232) (Nat.le_of_ble_eq_true rfl) (Nat.le_of_ble_eq_true rfl) ?_
  exact lw_ret (d0 := s.drawn) (Drawn.sameBut.refl s.drawn lw_cs) hx hb hr hlocks dL_law_3982
set_option maxHeartbeats 4000000 in
set_option maxRecDepth 100000 in
theorem p_a48 {p : Program} {e : Env} {s : State} {m : MethodId} {below : List Frame} {meth : Method} {c : Code} (l : Launch) (hst : l.stackTraces = false) {b : Nat} {xs : Nat → Int32} (hx : p.tables.exec = Jvm.exec) (hb : c.code = code) (hr : meth.sig.returnType = ret) (hml : c.maxLocals = 9) (hown : s.vm.findClass RL = some m.cls) (hts : ∀ w ∈ lw_tbl, w.before #[Value.ref b] s = true) (hlocks : meth.locks = false) (hX0 : va_X b 6 xs s s.heap) (hbl : b < s.heap.size) (hX : xT (fun q => s.heap.size ≤ q) s) (hN1 : va_Nc xIAE xIOB s) (hN2 : va_Nc xISE xIOB s) {D : va_G} {cI cJ cZ cMic cSrc cSt cAI cAJ cD : ClassId} {ad am : Nat → Nat} {N : Nat} {S : Nat → va_E} {ls : Array Slot} {H : Heap} {locs : List Loc} (hK : va_K D vwCl (CT cI cJ cZ cMic cSrc cSt cAI cAJ ++ [(cD, .double)]) s) (hN : 1586 ≤ N) (F : FR cI cJ cZ cMic cSrc cSt cAI cAJ ad S) (G : lG D ad N cI cJ cZ am (fun q => s.heap.size ≤ q) s.heap H locs S mS0) (hl : lv_has ls 9 [(5, .int 0), (4, .ref (am 99)), (3, .ref (am 98)), (2, .ref (am 0)), (1, .ref (ad 0)), (0, .ref b)]) : W p l e room_1 s m #[Value.ref b] below meth c H locs 1605 82603 (lw_Z below #[Value.ref b] s) (F0 m 2981 ls []) := by
  obtain ⟨hS0, hS1, hS2, hS3, hS4, hS5, hS6, hS432, hS478, hS480, hS656, hS658⟩ := F
  have E : cE p c cL_law s m #[Value.ref b] lw_tbl D RL (CT cI cJ cZ cMic cSrc cSt cAI cAJ ++ [(cD, .double)]) := ⟨hx, hb, hts, hown, hK⟩
  have hKm : va_K D vwCl (MT cI cJ cZ) s := hK.sub [0, 1, 2] rfl
  have hKb : ∀ t : State, s.vm.Alike t.vm → va_K D vwCl (CT cI cJ cZ cMic cSrc cSt cAI cAJ ++ [(cD, .double)]) t := fun t h => va_K.moved h hK
  have hA : ∀ q : Nat, s.heap.size ≤ q → s.heap.size ≤ q := fun _ h => h
  refine lv_aload_n hx hb dL_law_2981 rfl (lv_at hl 4 rfl) ?_
  refine lv_aload_n hx hb dL_law_2982 rfl (lv_at hl 5 rfl) ?_
  refine lv_iload hx hb dL_law_2983 (lv_at hl 0 rfl) ?_
  refine lv_iconst (v := 1) hx hb dL_law_2985 (by decide) ?_
  refine lv_iadd hx hb dL_law_2986 ?_
  refine lv_to (y := 1) (by decide +kernel) ?_
  refine va_sld hx hb hX0 hbl (Nat.not_le.mpr hbl) G.2.2 (i := 1) (vp_in_nI (n := 1) (N := 6) (by decide) (by decide)) dL_law_2987 ?_
  refine lv_to (y := xs 1) (congrArg xs (by decide)) ?_
  refine lv_aload_n hx hb dL_law_2988 rfl (lv_at hl 2 rfl) ?_
  refine l_w (As := [.ref (ad 0), .int (xs 1), .ref (am 98)]) (rest := []) E G hA hX hN1 hN2 (fun _ _ h _ _ k => va_Nc.moved h k) rfl hml (w_mapByte l hst D _ ad N S cI cJ cZ cMic cSrc cSt cAI cAJ hN rfl rfl hS0 (xs 1) (am 98)) (vx_cwSW 3 hts (glA (L := [Cond.methodLink RL 357 yL_mapByte, Cond.static yL_mapByte, Cond.initialized RL]) (gl_in [(7, 59), (7, 60), (1, 0)] (by decide +kernel) (by decide +kernel)) ⟨(t_of [Cond.codeWith yL_mapByte cL_mapByte 4 (some .int) [(0, 9, 12, 13)]] [(7, 61)] (by decide +kernel) _ List.mem_cons_self), List.all_eq_true.mp (by decide +kernel : [Cond.codeWith yL_mapByte cL_mapByte 4 (some .int) [(0, 9, 12, 13)]].all goodWord = true) _ List.mem_cons_self⟩) rfl rfl rfl (by decide +kernel) ⟨Nat.le_of_ble_eq_true rfl, Nat.le_of_ble_eq_true rfl⟩) rfl hl.1 rfl (lv_room (Nat.le_of_ble_eq_true rfl)) dL_law_2989 ⟨Nat.le_of_ble_eq_true rfl, Nat.le_of_ble_eq_true rfl⟩ (fun r S1 H locs hq G => ?_)
  obtain ⟨hq1, hq2⟩ := hq
  rw [hq2] at G
  refine lv_to (y := 1) hq1 ?_
  refine lv_istore (lv' := [(6, .int 1), (5, .int 0), (4, .ref (am 99)), (3, .ref (am 98)), (2, .ref (am 0)), (1, .ref (ad 0)), (0, .ref b)]) hx hb dL_law_2992 hl (by decide) rfl (fun ls hl => ?_)
  refine lv_aload_n hx hb dL_law_2994 rfl (lv_at hl 4 rfl) ?_
  refine lv_aload_n hx hb dL_law_2995 rfl (lv_at hl 6 rfl) ?_
  refine lv_iload hx hb dL_law_2996 (lv_at hl 1 rfl) ?_
  refine lv_iconst (v := 1) hx hb dL_law_2998 (by decide) ?_
  refine lv_iadd hx hb dL_law_2999 ?_
  refine lv_to (y := 1) (by decide +kernel) ?_
  refine va_sld hx hb hX0 hbl (Nat.not_le.mpr hbl) G.2.2 (i := 1) (vp_in_nI (n := 1) (N := 6) (by decide) (by decide)) dL_law_3000 ?_
  refine lv_to (y := xs 1) (congrArg xs (by decide)) ?_
  refine l_mi (As := [.int (xs 1)]) (rest := []) E G hA hKm hKb hX.2.2.2.2 hml (n_mapByte l D cI cJ cZ am mS0 (xs 1) rfl) (cwV 1 hts (glM (L := [Cond.methodLink RL 359 yX12_mapByte, Cond.instanceMethod yX12_mapByte, Cond.selects RX12 yX12_mapByte yX12_mapByte, Cond.initialized RX12]) (gl_in [(10, 129), (10, 130), (10, 131), (1, 14)] (by decide +kernel) (by decide +kernel)) ⟨(t_of [Cond.code yX12_mapByte cX12_mapByte 2 (some .int)] [(10, 132)] (by decide +kernel) _ List.mem_cons_self), List.all_eq_true.mp (by decide +kernel : [Cond.code yX12_mapByte cX12_mapByte 2 (some .int)].all goodWord = true) _ List.mem_cons_self⟩) rfl rfl rfl (by decide +kernel) ⟨Nat.le_of_ble_eq_true rfl, Nat.le_of_ble_eq_true rfl⟩) rfl hl.1 rfl (lv_room (Nat.le_of_ble_eq_true rfl)) dL_law_3001 ⟨Nat.le_of_ble_eq_true rfl, Nat.le_of_ble_eq_true rfl⟩ (fun r1 S1 H locs hq G => ?_)
  obtain ⟨hq1, hq2⟩ := hq
  rw [hq2] at G
  refine lv_to (y := 0) hq1 ?_
  refine lv_istore (lv' := [(7, .int 0), (6, .int 1), (5, .int 0), (4, .ref (am 99)), (3, .ref (am 98)), (2, .ref (am 0)), (1, .ref (ad 0)), (0, .ref b)]) hx hb dL_law_3004 hl (by decide) rfl (fun ls hl => ?_)
  refine lv_aload_n hx hb dL_law_3006 rfl (lv_at hl 5 rfl) ?_
  refine l_mi (As := []) (rest := []) E G hA hKm hKb hX.2.2.2.2 hml (m_thrown l D cI cJ cZ am (mi mS0 0 1)) (cwV 0 hts (glM (L := [Cond.methodLink RL 204 yX12_thrown, Cond.instanceMethod yX12_thrown, Cond.selects RX12 yX12_thrown yX12_thrown, Cond.initialized RX12]) (gl_in [(8, 65), (8, 66), (8, 67), (1, 14)] (by decide +kernel) (by decide +kernel)) ⟨(t_of [Cond.code yX12_thrown cX12_thrown 1 (some .int)] [(8, 68)] (by decide +kernel) _ List.mem_cons_self), List.all_eq_true.mp (by decide +kernel : [Cond.code yX12_thrown cX12_thrown 1 (some .int)].all goodWord = true) _ List.mem_cons_self⟩) rfl rfl rfl (by decide +kernel) ⟨Nat.le_of_ble_eq_true rfl, Nat.le_of_ble_eq_true rfl⟩) rfl hl.1 rfl (lv_room (Nat.le_of_ble_eq_true rfl)) dL_law_3007 ⟨Nat.le_of_ble_eq_true rfl, Nat.le_of_ble_eq_true rfl⟩ (fun r2 S1 H locs hq G => ?_)
  obtain ⟨hq1, hq2⟩ := hq
  rw [hq2] at G
  refine lv_to (y := 1) hq1 ?_
  refine lv_iload hx hb dL_law_3010 (lv_at hl 1 rfl) ?_
  refine lv_icmp_eq (tgt := 3017) hx hb dL_law_3012 (by decide) (fun c3 => ?_) (fun c3 => absurd (by decide +kernel) c3)
  refine lv_iload hx hb dL_law_3017 (lv_at hl 1 rfl) ?_
  refine lv_if_ne (tgt := 3034) hx hb dL_law_3019 (by decide) (fun c4 => ?_) (fun c4 => absurd c4 (by decide +kernel))
  refine lv_goto (tgt := 3975) hx hb dL_law_3034 (by decide) ?_
  refine lv_iinc (v := 6) (lv' := [(5, .int 6), (7, .int 0), (6, .int 1), (4, .ref (am 99)), (3, .ref (am 98)), (2, .ref (am 0)), (1, .ref (ad 0)), (0, .ref b)]) hx hb dL_law_3975 hl (k := 2) rfl (by decide +kernel) (by decide) rfl (fun ls hl => ?_)
  refine lv_goto (tgt := 28) hx hb dL_law_3978 (by decide) ?_
  refine lv_iload hx hb dL_law_28 (lv_at hl 0 rfl) ?_
  refine lv_aload_n hx hb dL_law_30 rfl (lv_at hl 7 rfl) ?_
  refine va_slen hx hb hX0 hbl (Nat.not_le.mpr hbl) G.2.2 dL_law_31 ?_
  refine lv_to (y := 6) (by decide) ?_
  refine lv_bipush (v := 6) hx hb dL_law_32 (by decide) ?_
  refine lv_isub hx hb dL_law_34 ?_
  refine lv_to (y := 0) (by decide +kernel) ?_
  refine lv_icmp_gt (tgt := 3981) hx hb dL_law_35 (by decide) (fun c5 => ?_) (fun c5 => absurd (by decide +kernel) c5)
  refine lv_iconst (v := 1) hx hb dL_law_3981 (by decide) ?_
  refine va_forget G.2.2.2.2 ?_
  refine W.widen (k := 600002) (n := 7302232) (Nat.le_of_ble_eq_true rfl) (Nat.le_of_ble_eq_true rfl) ?_
  exact lw_ret (d0 := s.drawn) (Drawn.sameBut.refl s.drawn lw_cs) hx hb hr hlocks dL_law_3982
set_option maxHeartbeats 4000000 in
set_option maxRecDepth 100000 in
theorem p_a49 {p : Program} {e : Env} {s : State} {m : MethodId} {below : List Frame} {meth : Method} {c : Code} (l : Launch) (hst : l.stackTraces = false) {b : Nat} {xs : Nat → Int32} (hx : p.tables.exec = Jvm.exec) (hb : c.code = code) (hr : meth.sig.returnType = ret) (hml : c.maxLocals = 9) (hown : s.vm.findClass RL = some m.cls) (hts : ∀ w ∈ lw_tbl, w.before #[Value.ref b] s = true) (hlocks : meth.locks = false) (hX0 : va_X b 6 xs s s.heap) (hbl : b < s.heap.size) (hX : xT (fun q => s.heap.size ≤ q) s) (hN1 : va_Nc xIAE xIOB s) (hN2 : va_Nc xISE xIOB s) {D : va_G} {cI cJ cZ cMic cSrc cSt cAI cAJ cD : ClassId} {ad am : Nat → Nat} {N : Nat} {S : Nat → va_E} {ls : Array Slot} {H : Heap} {locs : List Loc} (hK : va_K D vwCl (CT cI cJ cZ cMic cSrc cSt cAI cAJ ++ [(cD, .double)]) s) (hN : 1586 ≤ N) (F : FR cI cJ cZ cMic cSrc cSt cAI cAJ ad S) (G : lG D ad N cI cJ cZ am (fun q => s.heap.size ≤ q) s.heap H locs S mS0) (hl : lv_has ls 9 [(5, .int 0), (4, .ref (am 99)), (3, .ref (am 98)), (2, .ref (am 0)), (1, .ref (ad 0)), (0, .ref b)]) : W p l e room_1 s m #[Value.ref b] below meth c H locs 1605 82603 (lw_Z below #[Value.ref b] s) (F0 m 3037 ls []) := by
  obtain ⟨hS0, hS1, hS2, hS3, hS4, hS5, hS6, hS432, hS478, hS480, hS656, hS658⟩ := F
  have E : cE p c cL_law s m #[Value.ref b] lw_tbl D RL (CT cI cJ cZ cMic cSrc cSt cAI cAJ ++ [(cD, .double)]) := ⟨hx, hb, hts, hown, hK⟩
  have hKm : va_K D vwCl (MT cI cJ cZ) s := hK.sub [0, 1, 2] rfl
  have hKb : ∀ t : State, s.vm.Alike t.vm → va_K D vwCl (CT cI cJ cZ cMic cSrc cSt cAI cAJ ++ [(cD, .double)]) t := fun t h => va_K.moved h hK
  have hA : ∀ q : Nat, s.heap.size ≤ q → s.heap.size ≤ q := fun _ h => h
  refine lv_aload_n hx hb dL_law_3037 rfl (lv_at hl 4 rfl) ?_
  refine lv_aload_n hx hb dL_law_3038 rfl (lv_at hl 5 rfl) ?_
  refine lv_iload hx hb dL_law_3039 (lv_at hl 0 rfl) ?_
  refine lv_iconst (v := 1) hx hb dL_law_3041 (by decide) ?_
  refine lv_iadd hx hb dL_law_3042 ?_
  refine lv_to (y := 1) (by decide +kernel) ?_
  refine va_sld hx hb hX0 hbl (Nat.not_le.mpr hbl) G.2.2 (i := 1) (vp_in_nI (n := 1) (N := 6) (by decide) (by decide)) dL_law_3043 ?_
  refine lv_to (y := xs 1) (congrArg xs (by decide)) ?_
  refine lv_aload_n hx hb dL_law_3044 rfl (lv_at hl 5 rfl) ?_
  refine lv_iload hx hb dL_law_3045 (lv_at hl 0 rfl) ?_
  refine lv_iconst (v := 2) hx hb dL_law_3047 (by decide) ?_
  refine lv_iadd hx hb dL_law_3048 ?_
  refine lv_to (y := 2) (by decide +kernel) ?_
  refine va_sld hx hb hX0 hbl (Nat.not_le.mpr hbl) G.2.2 (i := 2) (vp_in_nI (n := 2) (N := 6) (by decide) (by decide)) dL_law_3049 ?_
  refine lv_to (y := xs 2) (congrArg xs (by decide)) ?_
  refine lv_aload_n hx hb dL_law_3050 rfl (lv_at hl 2 rfl) ?_
  refine l_w (As := [.ref (ad 0), .int (xs 1), .int (xs 2), .ref (am 98)]) (rest := []) E G hA hX hN1 hN2 (fun _ _ h _ _ k => va_Nc.moved h k) rfl hml (w_pointBest l hst D _ ad N S (sc := 478) (Nat.lt_of_lt_of_le (by decide) hN) hS0 rfl (Nat.lt_of_lt_of_le (by decide) hN) hS478 rfl (xs 1) (xs 2) (am 98)) (vx_cwSW 4 hts (glA (L := [Cond.methodLink RL 360 yL_pointBest, Cond.static yL_pointBest, Cond.initialized RL]) (gl_in [(7, 66), (7, 67), (1, 0)] (by decide +kernel) (by decide +kernel)) ⟨(t_of [Cond.codeWith yL_pointBest cL_pointBest 5 (some .int) [(0, 10, 13, 21), (0, 10, 17, 13), (0, 10, 21, 15)]] [(7, 68)] (by decide +kernel) _ List.mem_cons_self), List.all_eq_true.mp (by decide +kernel : [Cond.codeWith yL_pointBest cL_pointBest 5 (some .int) [(0, 10, 13, 21), (0, 10, 17, 13), (0, 10, 21, 15)]].all goodWord = true) _ List.mem_cons_self⟩) rfl rfl rfl (by decide +kernel) ⟨Nat.le_of_ble_eq_true rfl, Nat.le_of_ble_eq_true rfl⟩) rfl hl.1 rfl (lv_room (Nat.le_of_ble_eq_true rfl)) dL_law_3051 ⟨Nat.le_of_ble_eq_true rfl, Nat.le_of_ble_eq_true rfl⟩ (fun r S1 H locs hq G => ?_)
  obtain ⟨hq1, hq2⟩ := hq
  rw [hq2] at G
  refine lv_to (y := 1) hq1 ?_
  refine lv_istore (lv' := [(6, .int 1), (5, .int 0), (4, .ref (am 99)), (3, .ref (am 98)), (2, .ref (am 0)), (1, .ref (ad 0)), (0, .ref b)]) hx hb dL_law_3054 hl (by decide) rfl (fun ls hl => ?_)
  refine lv_aload_n hx hb dL_law_3056 rfl (lv_at hl 4 rfl) ?_
  refine lv_aload_n hx hb dL_law_3057 rfl (lv_at hl 6 rfl) ?_
  refine lv_iload hx hb dL_law_3058 (lv_at hl 1 rfl) ?_
  refine lv_iconst (v := 1) hx hb dL_law_3060 (by decide) ?_
  refine lv_iadd hx hb dL_law_3061 ?_
  refine lv_to (y := 1) (by decide +kernel) ?_
  refine va_sld hx hb hX0 hbl (Nat.not_le.mpr hbl) G.2.2 (i := 1) (vp_in_nI (n := 1) (N := 6) (by decide) (by decide)) dL_law_3062 ?_
  refine lv_to (y := xs 1) (congrArg xs (by decide)) ?_
  refine lv_aload_n hx hb dL_law_3063 rfl (lv_at hl 6 rfl) ?_
  refine lv_iload hx hb dL_law_3064 (lv_at hl 1 rfl) ?_
  refine lv_iconst (v := 2) hx hb dL_law_3066 (by decide) ?_
  refine lv_iadd hx hb dL_law_3067 ?_
  refine lv_to (y := 2) (by decide +kernel) ?_
  refine va_sld hx hb hX0 hbl (Nat.not_le.mpr hbl) G.2.2 (i := 2) (vp_in_nI (n := 2) (N := 6) (by decide) (by decide)) dL_law_3068 ?_
  refine lv_to (y := xs 2) (congrArg xs (by decide)) ?_
  refine l_mi (As := [.int (xs 1), .int (xs 2)]) (rest := []) E G hA hKm hKb hX.2.2.2.2 hml (n_pointBest l D cI cJ cZ am mS0 (xs 1) (xs 2) rfl (fun _ => rfl)) (cwV 2 hts (glM (L := [Cond.methodLink RL 362 yX12_pointBest, Cond.instanceMethod yX12_pointBest, Cond.selects RX12 yX12_pointBest yX12_pointBest, Cond.initialized RX12]) (gl_in [(10, 133), (10, 134), (10, 135), (1, 14)] (by decide +kernel) (by decide +kernel)) ⟨(t_of [Cond.code yX12_pointBest cX12_pointBest 3 (some .int)] [(10, 136)] (by decide +kernel) _ List.mem_cons_self), List.all_eq_true.mp (by decide +kernel : [Cond.code yX12_pointBest cX12_pointBest 3 (some .int)].all goodWord = true) _ List.mem_cons_self⟩) rfl rfl rfl (by decide +kernel) ⟨Nat.le_of_ble_eq_true rfl, Nat.le_of_ble_eq_true rfl⟩) rfl hl.1 rfl (lv_room (Nat.le_of_ble_eq_true rfl)) dL_law_3069 ⟨Nat.le_of_ble_eq_true rfl, Nat.le_of_ble_eq_true rfl⟩ (fun r1 S1 H locs hq G => ?_)
  obtain ⟨hq1, hq2⟩ := hq
  rw [hq2] at G
  refine lv_to (y := 0) hq1 ?_
  refine lv_istore (lv' := [(7, .int 0), (6, .int 1), (5, .int 0), (4, .ref (am 99)), (3, .ref (am 98)), (2, .ref (am 0)), (1, .ref (ad 0)), (0, .ref b)]) hx hb dL_law_3072 hl (by decide) rfl (fun ls hl => ?_)
  refine lv_aload_n hx hb dL_law_3074 rfl (lv_at hl 5 rfl) ?_
  refine l_mi (As := []) (rest := []) E G hA hKm hKb hX.2.2.2.2 hml (m_thrown l D cI cJ cZ am (mi mS0 0 1)) (cwV 0 hts (glM (L := [Cond.methodLink RL 204 yX12_thrown, Cond.instanceMethod yX12_thrown, Cond.selects RX12 yX12_thrown yX12_thrown, Cond.initialized RX12]) (gl_in [(8, 65), (8, 66), (8, 67), (1, 14)] (by decide +kernel) (by decide +kernel)) ⟨(t_of [Cond.code yX12_thrown cX12_thrown 1 (some .int)] [(8, 68)] (by decide +kernel) _ List.mem_cons_self), List.all_eq_true.mp (by decide +kernel : [Cond.code yX12_thrown cX12_thrown 1 (some .int)].all goodWord = true) _ List.mem_cons_self⟩) rfl rfl rfl (by decide +kernel) ⟨Nat.le_of_ble_eq_true rfl, Nat.le_of_ble_eq_true rfl⟩) rfl hl.1 rfl (lv_room (Nat.le_of_ble_eq_true rfl)) dL_law_3075 ⟨Nat.le_of_ble_eq_true rfl, Nat.le_of_ble_eq_true rfl⟩ (fun r2 S1 H locs hq G => ?_)
  obtain ⟨hq1, hq2⟩ := hq
  rw [hq2] at G
  refine lv_to (y := 1) hq1 ?_
  refine lv_iload hx hb dL_law_3078 (lv_at hl 1 rfl) ?_
  refine lv_icmp_eq (tgt := 3085) hx hb dL_law_3080 (by decide) (fun c3 => ?_) (fun c3 => absurd (by decide +kernel) c3)
  refine lv_iload hx hb dL_law_3085 (lv_at hl 1 rfl) ?_
  refine lv_if_ne (tgt := 3102) hx hb dL_law_3087 (by decide) (fun c4 => ?_) (fun c4 => absurd c4 (by decide +kernel))
  refine lv_goto (tgt := 3975) hx hb dL_law_3102 (by decide) ?_
  refine lv_iinc (v := 6) (lv' := [(5, .int 6), (7, .int 0), (6, .int 1), (4, .ref (am 99)), (3, .ref (am 98)), (2, .ref (am 0)), (1, .ref (ad 0)), (0, .ref b)]) hx hb dL_law_3975 hl (k := 2) rfl (by decide +kernel) (by decide) rfl (fun ls hl => ?_)
  refine lv_goto (tgt := 28) hx hb dL_law_3978 (by decide) ?_
  refine lv_iload hx hb dL_law_28 (lv_at hl 0 rfl) ?_
  refine lv_aload_n hx hb dL_law_30 rfl (lv_at hl 7 rfl) ?_
  refine va_slen hx hb hX0 hbl (Nat.not_le.mpr hbl) G.2.2 dL_law_31 ?_
  refine lv_to (y := 6) (by decide) ?_
  refine lv_bipush (v := 6) hx hb dL_law_32 (by decide) ?_
  refine lv_isub hx hb dL_law_34 ?_
  refine lv_to (y := 0) (by decide +kernel) ?_
  refine lv_icmp_gt (tgt := 3981) hx hb dL_law_35 (by decide) (fun c5 => ?_) (fun c5 => absurd (by decide +kernel) c5)
  refine lv_iconst (v := 1) hx hb dL_law_3981 (by decide) ?_
  refine va_forget G.2.2.2.2 ?_
  refine W.widen (k := 600002) (n := 7302232) (Nat.le_of_ble_eq_true rfl) (Nat.le_of_ble_eq_true rfl) ?_
  exact lw_ret (d0 := s.drawn) (Drawn.sameBut.refl s.drawn lw_cs) hx hb hr hlocks dL_law_3982
set_option maxHeartbeats 4000000 in
set_option maxRecDepth 100000 in
theorem p_a50 {p : Program} {e : Env} {s : State} {m : MethodId} {below : List Frame} {meth : Method} {c : Code} (l : Launch) (hst : l.stackTraces = false) {b : Nat} {xs : Nat → Int32} (hx : p.tables.exec = Jvm.exec) (hb : c.code = code) (hr : meth.sig.returnType = ret) (hml : c.maxLocals = 9) (hown : s.vm.findClass RL = some m.cls) (hts : ∀ w ∈ lw_tbl, w.before #[Value.ref b] s = true) (hlocks : meth.locks = false) (hX0 : va_X b 6 xs s s.heap) (hbl : b < s.heap.size) (hX : xT (fun q => s.heap.size ≤ q) s) (hN1 : va_Nc xIAE xIOB s) (hN2 : va_Nc xISE xIOB s) {D : va_G} {cI cJ cZ cMic cSrc cSt cAI cAJ cD : ClassId} {ad am : Nat → Nat} {N : Nat} {S : Nat → va_E} {ls : Array Slot} {H : Heap} {locs : List Loc} (hK : va_K D vwCl (CT cI cJ cZ cMic cSrc cSt cAI cAJ ++ [(cD, .double)]) s) (hN : 1586 ≤ N) (F : FR cI cJ cZ cMic cSrc cSt cAI cAJ ad S) (G : lG D ad N cI cJ cZ am (fun q => s.heap.size ≤ q) s.heap H locs S mS0) (hl : lv_has ls 9 [(5, .int 0), (4, .ref (am 99)), (3, .ref (am 98)), (2, .ref (am 0)), (1, .ref (ad 0)), (0, .ref b)]) : W p l e room_1 s m #[Value.ref b] below meth c H locs 1605 82603 (lw_Z below #[Value.ref b] s) (F0 m 3105 ls []) := by
  obtain ⟨hS0, hS1, hS2, hS3, hS4, hS5, hS6, hS432, hS478, hS480, hS656, hS658⟩ := F
  have E : cE p c cL_law s m #[Value.ref b] lw_tbl D RL (CT cI cJ cZ cMic cSrc cSt cAI cAJ ++ [(cD, .double)]) := ⟨hx, hb, hts, hown, hK⟩
  have hKm : va_K D vwCl (MT cI cJ cZ) s := hK.sub [0, 1, 2] rfl
  have hKb : ∀ t : State, s.vm.Alike t.vm → va_K D vwCl (CT cI cJ cZ cMic cSrc cSt cAI cAJ ++ [(cD, .double)]) t := fun t h => va_K.moved h hK
  have hA : ∀ q : Nat, s.heap.size ≤ q → s.heap.size ≤ q := fun _ h => h
  refine lv_aload_n hx hb dL_law_3105 rfl (lv_at hl 4 rfl) ?_
  refine lv_aload_n hx hb dL_law_3106 rfl (lv_at hl 5 rfl) ?_
  refine lv_iload hx hb dL_law_3107 (lv_at hl 0 rfl) ?_
  refine lv_iconst (v := 1) hx hb dL_law_3109 (by decide) ?_
  refine lv_iadd hx hb dL_law_3110 ?_
  refine lv_to (y := 1) (by decide +kernel) ?_
  refine va_sld hx hb hX0 hbl (Nat.not_le.mpr hbl) G.2.2 (i := 1) (vp_in_nI (n := 1) (N := 6) (by decide) (by decide)) dL_law_3111 ?_
  refine lv_to (y := xs 1) (congrArg xs (by decide)) ?_
  refine lv_aload_n hx hb dL_law_3112 rfl (lv_at hl 5 rfl) ?_
  refine lv_iload hx hb dL_law_3113 (lv_at hl 0 rfl) ?_
  refine lv_iconst (v := 2) hx hb dL_law_3115 (by decide) ?_
  refine lv_iadd hx hb dL_law_3116 ?_
  refine lv_to (y := 2) (by decide +kernel) ?_
  refine va_sld hx hb hX0 hbl (Nat.not_le.mpr hbl) G.2.2 (i := 2) (vp_in_nI (n := 2) (N := 6) (by decide) (by decide)) dL_law_3117 ?_
  refine lv_to (y := xs 2) (congrArg xs (by decide)) ?_
  refine lv_aload_n hx hb dL_law_3118 rfl (lv_at hl 5 rfl) ?_
  refine lv_iload hx hb dL_law_3119 (lv_at hl 0 rfl) ?_
  refine lv_iconst (v := 3) hx hb dL_law_3121 (by decide) ?_
  refine lv_iadd hx hb dL_law_3122 ?_
  refine lv_to (y := 3) (by decide +kernel) ?_
  refine va_sld hx hb hX0 hbl (Nat.not_le.mpr hbl) G.2.2 (i := 3) (vp_in_nI (n := 3) (N := 6) (by decide) (by decide)) dL_law_3123 ?_
  refine lv_to (y := xs 3) (congrArg xs (by decide)) ?_
  refine lv_aload_n hx hb dL_law_3124 rfl (lv_at hl 2 rfl) ?_
  refine l_w (As := [.ref (ad 0), .int (xs 1), .int (xs 2), .int (xs 3), .ref (am 98)]) (rest := []) E G hA hX hN1 hN2 (fun _ _ h _ _ k => va_Nc.moved h k) rfl hml (w_pointPower l hst D _ ad N S (sc := 478) (Nat.lt_of_lt_of_le (by decide) hN) hS0 rfl (Nat.lt_of_lt_of_le (by decide) hN) hS478 rfl (xs 1) (xs 2) (xs 3) (am 98)) (vx_cwSW 5 hts (glA (L := [Cond.methodLink RL 363 yL_pointPower, Cond.static yL_pointPower, Cond.initialized RL]) (gl_in [(7, 99), (7, 100), (1, 0)] (by decide +kernel) (by decide +kernel)) ⟨(t_of [Cond.codeWith yL_pointPower cL_pointPower 6 (some .int) [(0, 11, 14, 21), (0, 11, 18, 13), (0, 11, 22, 15)]] [(7, 101)] (by decide +kernel) _ List.mem_cons_self), List.all_eq_true.mp (by decide +kernel : [Cond.codeWith yL_pointPower cL_pointPower 6 (some .int) [(0, 11, 14, 21), (0, 11, 18, 13), (0, 11, 22, 15)]].all goodWord = true) _ List.mem_cons_self⟩) rfl rfl rfl (by decide +kernel) ⟨Nat.le_of_ble_eq_true rfl, Nat.le_of_ble_eq_true rfl⟩) rfl hl.1 rfl (lv_room (Nat.le_of_ble_eq_true rfl)) dL_law_3125 ⟨Nat.le_of_ble_eq_true rfl, Nat.le_of_ble_eq_true rfl⟩ (fun r S1 H locs hq G => ?_)
  obtain ⟨hq1, hq2⟩ := hq
  rw [hq2] at G
  refine lv_to (y := 1) hq1 ?_
  refine lv_istore (lv' := [(6, .int 1), (5, .int 0), (4, .ref (am 99)), (3, .ref (am 98)), (2, .ref (am 0)), (1, .ref (ad 0)), (0, .ref b)]) hx hb dL_law_3128 hl (by decide) rfl (fun ls hl => ?_)
  refine lv_aload_n hx hb dL_law_3130 rfl (lv_at hl 4 rfl) ?_
  refine lv_aload_n hx hb dL_law_3131 rfl (lv_at hl 6 rfl) ?_
  refine lv_iload hx hb dL_law_3132 (lv_at hl 1 rfl) ?_
  refine lv_iconst (v := 1) hx hb dL_law_3134 (by decide) ?_
  refine lv_iadd hx hb dL_law_3135 ?_
  refine lv_to (y := 1) (by decide +kernel) ?_
  refine va_sld hx hb hX0 hbl (Nat.not_le.mpr hbl) G.2.2 (i := 1) (vp_in_nI (n := 1) (N := 6) (by decide) (by decide)) dL_law_3136 ?_
  refine lv_to (y := xs 1) (congrArg xs (by decide)) ?_
  refine lv_aload_n hx hb dL_law_3137 rfl (lv_at hl 6 rfl) ?_
  refine lv_iload hx hb dL_law_3138 (lv_at hl 1 rfl) ?_
  refine lv_iconst (v := 2) hx hb dL_law_3140 (by decide) ?_
  refine lv_iadd hx hb dL_law_3141 ?_
  refine lv_to (y := 2) (by decide +kernel) ?_
  refine va_sld hx hb hX0 hbl (Nat.not_le.mpr hbl) G.2.2 (i := 2) (vp_in_nI (n := 2) (N := 6) (by decide) (by decide)) dL_law_3142 ?_
  refine lv_to (y := xs 2) (congrArg xs (by decide)) ?_
  refine lv_aload_n hx hb dL_law_3143 rfl (lv_at hl 6 rfl) ?_
  refine lv_iload hx hb dL_law_3144 (lv_at hl 1 rfl) ?_
  refine lv_iconst (v := 3) hx hb dL_law_3146 (by decide) ?_
  refine lv_iadd hx hb dL_law_3147 ?_
  refine lv_to (y := 3) (by decide +kernel) ?_
  refine va_sld hx hb hX0 hbl (Nat.not_le.mpr hbl) G.2.2 (i := 3) (vp_in_nI (n := 3) (N := 6) (by decide) (by decide)) dL_law_3148 ?_
  refine lv_to (y := xs 3) (congrArg xs (by decide)) ?_
  refine l_ml (As := [.int (xs 1), .int (xs 2), .int (xs 3)]) (rest := []) E G hA hKm hKb hX.2.2.2.2 hml (n_pointPower l D cI cJ cZ am mS0 (xs 1) (xs 2) (xs 3) rfl (fun _ => rfl)) (cwV 3 hts (glM (L := [Cond.methodLink RL 365 yX12_pointPower, Cond.instanceMethod yX12_pointPower, Cond.selects RX12 yX12_pointPower yX12_pointPower, Cond.initialized RX12]) (gl_in [(10, 141), (10, 142), (10, 143), (1, 14)] (by decide +kernel) (by decide +kernel)) ⟨(t_of [Cond.code yX12_pointPower cX12_pointPower 4 (some .long)] [(10, 144)] (by decide +kernel) _ List.mem_cons_self), List.all_eq_true.mp (by decide +kernel : [Cond.code yX12_pointPower cX12_pointPower 4 (some .long)].all goodWord = true) _ List.mem_cons_self⟩) rfl rfl rfl (by decide +kernel) ⟨Nat.le_of_ble_eq_true rfl, Nat.le_of_ble_eq_true rfl⟩) rfl hl.1 rfl (lv_room (Nat.le_of_ble_eq_true rfl)) dL_law_3149 ⟨Nat.le_of_ble_eq_true rfl, Nat.le_of_ble_eq_true rfl⟩ (fun r1 S1 H locs hq G => ?_)
  obtain ⟨hq1, hq2⟩ := hq
  rw [hq2] at G
  refine lv_lstore (lv' := [(7, .long r1), (6, .int 1), (5, .int 0), (4, .ref (am 99)), (3, .ref (am 98)), (2, .ref (am 0)), (1, .ref (ad 0)), (0, .ref b)]) hx hb dL_law_3152 hl (by decide) rfl (fun ls hl => ?_)
  refine lv_aload_n hx hb dL_law_3154 rfl (lv_at hl 5 rfl) ?_
  refine l_mi (As := []) (rest := []) E G hA hKm hKb hX.2.2.2.2 hml (m_thrown l D cI cJ cZ am (mi mS0 0 1)) (cwV 0 hts (glM (L := [Cond.methodLink RL 204 yX12_thrown, Cond.instanceMethod yX12_thrown, Cond.selects RX12 yX12_thrown yX12_thrown, Cond.initialized RX12]) (gl_in [(8, 65), (8, 66), (8, 67), (1, 14)] (by decide +kernel) (by decide +kernel)) ⟨(t_of [Cond.code yX12_thrown cX12_thrown 1 (some .int)] [(8, 68)] (by decide +kernel) _ List.mem_cons_self), List.all_eq_true.mp (by decide +kernel : [Cond.code yX12_thrown cX12_thrown 1 (some .int)].all goodWord = true) _ List.mem_cons_self⟩) rfl rfl rfl (by decide +kernel) ⟨Nat.le_of_ble_eq_true rfl, Nat.le_of_ble_eq_true rfl⟩) rfl hl.1 rfl (lv_room (Nat.le_of_ble_eq_true rfl)) dL_law_3155 ⟨Nat.le_of_ble_eq_true rfl, Nat.le_of_ble_eq_true rfl⟩ (fun r2 S1 H locs hq G => ?_)
  obtain ⟨hq1, hq2⟩ := hq
  rw [hq2] at G
  refine lv_to (y := 1) hq1 ?_
  refine lv_iload hx hb dL_law_3158 (lv_at hl 1 rfl) ?_
  refine lv_icmp_eq (tgt := 3165) hx hb dL_law_3160 (by decide) (fun c3 => ?_) (fun c3 => absurd (by decide +kernel) c3)
  refine lv_iload hx hb dL_law_3165 (lv_at hl 1 rfl) ?_
  refine lv_if_ne (tgt := 3181) hx hb dL_law_3167 (by decide) (fun c4 => ?_) (fun c4 => absurd c4 (by decide +kernel))
  refine lv_goto (tgt := 3975) hx hb dL_law_3181 (by decide) ?_
  refine lv_iinc (v := 6) (lv' := [(5, .int 6), (7, .long r1), (6, .int 1), (4, .ref (am 99)), (3, .ref (am 98)), (2, .ref (am 0)), (1, .ref (ad 0)), (0, .ref b)]) hx hb dL_law_3975 hl (k := 2) rfl (by decide +kernel) (by decide) rfl (fun ls hl => ?_)
  refine lv_goto (tgt := 28) hx hb dL_law_3978 (by decide) ?_
  refine lv_iload hx hb dL_law_28 (lv_at hl 0 rfl) ?_
  refine lv_aload_n hx hb dL_law_30 rfl (lv_at hl 7 rfl) ?_
  refine va_slen hx hb hX0 hbl (Nat.not_le.mpr hbl) G.2.2 dL_law_31 ?_
  refine lv_to (y := 6) (by decide) ?_
  refine lv_bipush (v := 6) hx hb dL_law_32 (by decide) ?_
  refine lv_isub hx hb dL_law_34 ?_
  refine lv_to (y := 0) (by decide +kernel) ?_
  refine lv_icmp_gt (tgt := 3981) hx hb dL_law_35 (by decide) (fun c5 => ?_) (fun c5 => absurd (by decide +kernel) c5)
  refine lv_iconst (v := 1) hx hb dL_law_3981 (by decide) ?_
  refine va_forget G.2.2.2.2 ?_
  refine W.widen (k := 600002) (n := 7302232) (Nat.le_of_ble_eq_true rfl) (Nat.le_of_ble_eq_true rfl) ?_
  exact lw_ret (d0 := s.drawn) (Drawn.sameBut.refl s.drawn lw_cs) hx hb hr hlocks dL_law_3982
set_option maxHeartbeats 4000000 in
set_option maxRecDepth 100000 in
theorem p_a51 {p : Program} {e : Env} {s : State} {m : MethodId} {below : List Frame} {meth : Method} {c : Code} (l : Launch) (hst : l.stackTraces = false) {b : Nat} {xs : Nat → Int32} (hx : p.tables.exec = Jvm.exec) (hb : c.code = code) (hr : meth.sig.returnType = ret) (hml : c.maxLocals = 9) (hown : s.vm.findClass RL = some m.cls) (hts : ∀ w ∈ lw_tbl, w.before #[Value.ref b] s = true) (hlocks : meth.locks = false) (hX0 : va_X b 6 xs s s.heap) (hbl : b < s.heap.size) (hX : xT (fun q => s.heap.size ≤ q) s) (hN1 : va_Nc xIAE xIOB s) (hN2 : va_Nc xISE xIOB s) {D : va_G} {cI cJ cZ cMic cSrc cSt cAI cAJ cD : ClassId} {ad am : Nat → Nat} {N : Nat} {S : Nat → va_E} {ls : Array Slot} {H : Heap} {locs : List Loc} (hK : va_K D vwCl (CT cI cJ cZ cMic cSrc cSt cAI cAJ ++ [(cD, .double)]) s) (hN : 1586 ≤ N) (F : FR cI cJ cZ cMic cSrc cSt cAI cAJ ad S) (G : lG D ad N cI cJ cZ am (fun q => s.heap.size ≤ q) s.heap H locs S mS0) (hl : lv_has ls 9 [(5, .int 0), (4, .ref (am 99)), (3, .ref (am 98)), (2, .ref (am 0)), (1, .ref (ad 0)), (0, .ref b)]) : W p l e room_1 s m #[Value.ref b] below meth c H locs 1605 82603 (lw_Z below #[Value.ref b] s) (F0 m 3184 ls []) := by
  obtain ⟨hS0, hS1, hS2, hS3, hS4, hS5, hS6, hS432, hS478, hS480, hS656, hS658⟩ := F
  have E : cE p c cL_law s m #[Value.ref b] lw_tbl D RL (CT cI cJ cZ cMic cSrc cSt cAI cAJ ++ [(cD, .double)]) := ⟨hx, hb, hts, hown, hK⟩
  have hKm : va_K D vwCl (MT cI cJ cZ) s := hK.sub [0, 1, 2] rfl
  have hKb : ∀ t : State, s.vm.Alike t.vm → va_K D vwCl (CT cI cJ cZ cMic cSrc cSt cAI cAJ ++ [(cD, .double)]) t := fun t h => va_K.moved h hK
  have hA : ∀ q : Nat, s.heap.size ≤ q → s.heap.size ≤ q := fun _ h => h
  refine lv_aload_n hx hb dL_law_3184 rfl (lv_at hl 4 rfl) ?_
  refine lv_aload_n hx hb dL_law_3185 rfl (lv_at hl 5 rfl) ?_
  refine lv_iload hx hb dL_law_3186 (lv_at hl 0 rfl) ?_
  refine lv_iconst (v := 1) hx hb dL_law_3188 (by decide) ?_
  refine lv_iadd hx hb dL_law_3189 ?_
  refine lv_to (y := 1) (by decide +kernel) ?_
  refine va_sld hx hb hX0 hbl (Nat.not_le.mpr hbl) G.2.2 (i := 1) (vp_in_nI (n := 1) (N := 6) (by decide) (by decide)) dL_law_3190 ?_
  refine lv_to (y := xs 1) (congrArg xs (by decide)) ?_
  refine lv_aload_n hx hb dL_law_3191 rfl (lv_at hl 2 rfl) ?_
  refine l_w (As := [.ref (ad 0), .int (xs 1), .ref (am 98)]) (rest := []) E G hA hX hN1 hN2 (fun _ _ h _ _ k => va_Nc.moved h k) rfl hml (w_bestWithout l hst D _ ad N S (sc := 478) (Nat.lt_of_lt_of_le (by decide) hN) hS0 rfl (Nat.lt_of_lt_of_le (by decide) hN) hS478 rfl (xs 1) (am 98)) (vx_cwSW 3 hts (glA (L := [Cond.methodLink RL 366 yL_bestWithout, Cond.static yL_bestWithout, Cond.initialized RL]) (gl_in [(7, 106), (7, 107), (1, 0)] (by decide +kernel) (by decide +kernel)) ⟨(t_of [Cond.codeWith yL_bestWithout cL_bestWithout 4 (some .int) [(0, 9, 12, 21), (0, 9, 15, 13)]] [(7, 108)] (by decide +kernel) _ List.mem_cons_self), List.all_eq_true.mp (by decide +kernel : [Cond.codeWith yL_bestWithout cL_bestWithout 4 (some .int) [(0, 9, 12, 21), (0, 9, 15, 13)]].all goodWord = true) _ List.mem_cons_self⟩) rfl rfl rfl (by decide +kernel) ⟨Nat.le_of_ble_eq_true rfl, Nat.le_of_ble_eq_true rfl⟩) rfl hl.1 rfl (lv_room (Nat.le_of_ble_eq_true rfl)) dL_law_3192 ⟨Nat.le_of_ble_eq_true rfl, Nat.le_of_ble_eq_true rfl⟩ (fun r S1 H locs hq G => ?_)
  obtain ⟨hq1, hq2⟩ := hq
  rw [hq2] at G
  refine lv_to (y := 1) hq1 ?_
  refine lv_istore (lv' := [(6, .int 1), (5, .int 0), (4, .ref (am 99)), (3, .ref (am 98)), (2, .ref (am 0)), (1, .ref (ad 0)), (0, .ref b)]) hx hb dL_law_3195 hl (by decide) rfl (fun ls hl => ?_)
  refine lv_aload_n hx hb dL_law_3197 rfl (lv_at hl 4 rfl) ?_
  refine lv_aload_n hx hb dL_law_3198 rfl (lv_at hl 6 rfl) ?_
  refine lv_iload hx hb dL_law_3199 (lv_at hl 1 rfl) ?_
  refine lv_iconst (v := 1) hx hb dL_law_3201 (by decide) ?_
  refine lv_iadd hx hb dL_law_3202 ?_
  refine lv_to (y := 1) (by decide +kernel) ?_
  refine va_sld hx hb hX0 hbl (Nat.not_le.mpr hbl) G.2.2 (i := 1) (vp_in_nI (n := 1) (N := 6) (by decide) (by decide)) dL_law_3203 ?_
  refine lv_to (y := xs 1) (congrArg xs (by decide)) ?_
  refine l_mi (As := [.int (xs 1)]) (rest := []) E G hA hKm hKb hX.2.2.2.2 hml (n_bestWithout l D cI cJ cZ am mS0 (xs 1) rfl (fun _ => rfl)) (cwV 1 hts (glM (L := [Cond.methodLink RL 368 yX12_bestWithout, Cond.instanceMethod yX12_bestWithout, Cond.selects RX12 yX12_bestWithout yX12_bestWithout, Cond.initialized RX12]) (gl_in [(10, 145), (10, 146), (10, 147), (1, 14)] (by decide +kernel) (by decide +kernel)) ⟨(t_of [Cond.code yX12_bestWithout cX12_bestWithout 2 (some .int)] [(10, 148)] (by decide +kernel) _ List.mem_cons_self), List.all_eq_true.mp (by decide +kernel : [Cond.code yX12_bestWithout cX12_bestWithout 2 (some .int)].all goodWord = true) _ List.mem_cons_self⟩) rfl rfl rfl (by decide +kernel) ⟨Nat.le_of_ble_eq_true rfl, Nat.le_of_ble_eq_true rfl⟩) rfl hl.1 rfl (lv_room (Nat.le_of_ble_eq_true rfl)) dL_law_3204 ⟨Nat.le_of_ble_eq_true rfl, Nat.le_of_ble_eq_true rfl⟩ (fun r1 S1 H locs hq G => ?_)
  obtain ⟨hq1, hq2⟩ := hq
  rw [hq2] at G
  refine lv_to (y := 0) hq1 ?_
  refine lv_istore (lv' := [(7, .int 0), (6, .int 1), (5, .int 0), (4, .ref (am 99)), (3, .ref (am 98)), (2, .ref (am 0)), (1, .ref (ad 0)), (0, .ref b)]) hx hb dL_law_3207 hl (by decide) rfl (fun ls hl => ?_)
  refine lv_aload_n hx hb dL_law_3209 rfl (lv_at hl 5 rfl) ?_
  refine l_mi (As := []) (rest := []) E G hA hKm hKb hX.2.2.2.2 hml (m_thrown l D cI cJ cZ am (mi mS0 0 1)) (cwV 0 hts (glM (L := [Cond.methodLink RL 204 yX12_thrown, Cond.instanceMethod yX12_thrown, Cond.selects RX12 yX12_thrown yX12_thrown, Cond.initialized RX12]) (gl_in [(8, 65), (8, 66), (8, 67), (1, 14)] (by decide +kernel) (by decide +kernel)) ⟨(t_of [Cond.code yX12_thrown cX12_thrown 1 (some .int)] [(8, 68)] (by decide +kernel) _ List.mem_cons_self), List.all_eq_true.mp (by decide +kernel : [Cond.code yX12_thrown cX12_thrown 1 (some .int)].all goodWord = true) _ List.mem_cons_self⟩) rfl rfl rfl (by decide +kernel) ⟨Nat.le_of_ble_eq_true rfl, Nat.le_of_ble_eq_true rfl⟩) rfl hl.1 rfl (lv_room (Nat.le_of_ble_eq_true rfl)) dL_law_3210 ⟨Nat.le_of_ble_eq_true rfl, Nat.le_of_ble_eq_true rfl⟩ (fun r2 S1 H locs hq G => ?_)
  obtain ⟨hq1, hq2⟩ := hq
  rw [hq2] at G
  refine lv_to (y := 1) hq1 ?_
  refine lv_iload hx hb dL_law_3213 (lv_at hl 1 rfl) ?_
  refine lv_icmp_eq (tgt := 3220) hx hb dL_law_3215 (by decide) (fun c3 => ?_) (fun c3 => absurd (by decide +kernel) c3)
  refine lv_iload hx hb dL_law_3220 (lv_at hl 1 rfl) ?_
  refine lv_if_ne (tgt := 3237) hx hb dL_law_3222 (by decide) (fun c4 => ?_) (fun c4 => absurd c4 (by decide +kernel))
  refine lv_goto (tgt := 3975) hx hb dL_law_3237 (by decide) ?_
  refine lv_iinc (v := 6) (lv' := [(5, .int 6), (7, .int 0), (6, .int 1), (4, .ref (am 99)), (3, .ref (am 98)), (2, .ref (am 0)), (1, .ref (ad 0)), (0, .ref b)]) hx hb dL_law_3975 hl (k := 2) rfl (by decide +kernel) (by decide) rfl (fun ls hl => ?_)
  refine lv_goto (tgt := 28) hx hb dL_law_3978 (by decide) ?_
  refine lv_iload hx hb dL_law_28 (lv_at hl 0 rfl) ?_
  refine lv_aload_n hx hb dL_law_30 rfl (lv_at hl 7 rfl) ?_
  refine va_slen hx hb hX0 hbl (Nat.not_le.mpr hbl) G.2.2 dL_law_31 ?_
  refine lv_to (y := 6) (by decide) ?_
  refine lv_bipush (v := 6) hx hb dL_law_32 (by decide) ?_
  refine lv_isub hx hb dL_law_34 ?_
  refine lv_to (y := 0) (by decide +kernel) ?_
  refine lv_icmp_gt (tgt := 3981) hx hb dL_law_35 (by decide) (fun c5 => ?_) (fun c5 => absurd (by decide +kernel) c5)
  refine lv_iconst (v := 1) hx hb dL_law_3981 (by decide) ?_
  refine va_forget G.2.2.2.2 ?_
  refine W.widen (k := 600002) (n := 7302232) (Nat.le_of_ble_eq_true rfl) (Nat.le_of_ble_eq_true rfl) ?_
  exact lw_ret (d0 := s.drawn) (Drawn.sameBut.refl s.drawn lw_cs) hx hb hr hlocks dL_law_3982
set_option maxHeartbeats 4000000 in
set_option maxRecDepth 100000 in
theorem p_a52 {p : Program} {e : Env} {s : State} {m : MethodId} {below : List Frame} {meth : Method} {c : Code} (l : Launch) (hst : l.stackTraces = false) {b : Nat} {xs : Nat → Int32} (hx : p.tables.exec = Jvm.exec) (hb : c.code = code) (hr : meth.sig.returnType = ret) (hml : c.maxLocals = 9) (hown : s.vm.findClass RL = some m.cls) (hts : ∀ w ∈ lw_tbl, w.before #[Value.ref b] s = true) (hlocks : meth.locks = false) (hX0 : va_X b 6 xs s s.heap) (hbl : b < s.heap.size) (hX : xT (fun q => s.heap.size ≤ q) s) (hN1 : va_Nc xIAE xIOB s) (hN2 : va_Nc xISE xIOB s) {D : va_G} {cI cJ cZ cMic cSrc cSt cAI cAJ cD : ClassId} {ad am : Nat → Nat} {N : Nat} {S : Nat → va_E} {ls : Array Slot} {H : Heap} {locs : List Loc} (hK : va_K D vwCl (CT cI cJ cZ cMic cSrc cSt cAI cAJ ++ [(cD, .double)]) s) (hN : 1586 ≤ N) (F : FR cI cJ cZ cMic cSrc cSt cAI cAJ ad S) (G : lG D ad N cI cJ cZ am (fun q => s.heap.size ≤ q) s.heap H locs S mS0) (hl : lv_has ls 9 [(5, .int 0), (4, .ref (am 99)), (3, .ref (am 98)), (2, .ref (am 0)), (1, .ref (ad 0)), (0, .ref b)]) : W p l e room_1 s m #[Value.ref b] below meth c H locs 1605 82603 (lw_Z below #[Value.ref b] s) (F0 m 3240 ls []) := by
  obtain ⟨hS0, hS1, hS2, hS3, hS4, hS5, hS6, hS432, hS478, hS480, hS656, hS658⟩ := F
  have E : cE p c cL_law s m #[Value.ref b] lw_tbl D RL (CT cI cJ cZ cMic cSrc cSt cAI cAJ ++ [(cD, .double)]) := ⟨hx, hb, hts, hown, hK⟩
  have hKm : va_K D vwCl (MT cI cJ cZ) s := hK.sub [0, 1, 2] rfl
  have hKb : ∀ t : State, s.vm.Alike t.vm → va_K D vwCl (CT cI cJ cZ cMic cSrc cSt cAI cAJ ++ [(cD, .double)]) t := fun t h => va_K.moved h hK
  have hA : ∀ q : Nat, s.heap.size ≤ q → s.heap.size ≤ q := fun _ h => h
  refine lv_aload_n hx hb dL_law_3240 rfl (lv_at hl 4 rfl) ?_
  refine lv_aload_n hx hb dL_law_3241 rfl (lv_at hl 5 rfl) ?_
  refine lv_iload hx hb dL_law_3242 (lv_at hl 0 rfl) ?_
  refine lv_iconst (v := 1) hx hb dL_law_3244 (by decide) ?_
  refine lv_iadd hx hb dL_law_3245 ?_
  refine lv_to (y := 1) (by decide +kernel) ?_
  refine va_sld hx hb hX0 hbl (Nat.not_le.mpr hbl) G.2.2 (i := 1) (vp_in_nI (n := 1) (N := 6) (by decide) (by decide)) dL_law_3246 ?_
  refine lv_to (y := xs 1) (congrArg xs (by decide)) ?_
  refine lv_aload_n hx hb dL_law_3247 rfl (lv_at hl 2 rfl) ?_
  refine l_w (As := [.ref (ad 0), .int (xs 1), .ref (am 98)]) (rest := []) E G hA hX hN1 hN2 (fun _ _ h _ _ k => va_Nc.moved h k) rfl hml (w_bestIfOff l hst D _ ad N S (sc := 478) (Nat.lt_of_lt_of_le (by decide) hN) hS0 rfl (Nat.lt_of_lt_of_le (by decide) hN) hS478 rfl (xs 1) (am 98)) (vx_cwSW 3 hts (glA (L := [Cond.methodLink RL 369 yL_bestIfOff, Cond.static yL_bestIfOff, Cond.initialized RL]) (gl_in [(7, 113), (7, 114), (1, 0)] (by decide +kernel) (by decide +kernel)) ⟨(t_of [Cond.codeWith yL_bestIfOff cL_bestIfOff 4 (some .int) [(0, 9, 12, 21), (0, 9, 15, 13)]] [(7, 115)] (by decide +kernel) _ List.mem_cons_self), List.all_eq_true.mp (by decide +kernel : [Cond.codeWith yL_bestIfOff cL_bestIfOff 4 (some .int) [(0, 9, 12, 21), (0, 9, 15, 13)]].all goodWord = true) _ List.mem_cons_self⟩) rfl rfl rfl (by decide +kernel) ⟨Nat.le_of_ble_eq_true rfl, Nat.le_of_ble_eq_true rfl⟩) rfl hl.1 rfl (lv_room (Nat.le_of_ble_eq_true rfl)) dL_law_3248 ⟨Nat.le_of_ble_eq_true rfl, Nat.le_of_ble_eq_true rfl⟩ (fun r S1 H locs hq G => ?_)
  obtain ⟨hq1, hq2⟩ := hq
  rw [hq2] at G
  refine lv_to (y := 1) hq1 ?_
  refine lv_istore (lv' := [(6, .int 1), (5, .int 0), (4, .ref (am 99)), (3, .ref (am 98)), (2, .ref (am 0)), (1, .ref (ad 0)), (0, .ref b)]) hx hb dL_law_3251 hl (by decide) rfl (fun ls hl => ?_)
  refine lv_aload_n hx hb dL_law_3253 rfl (lv_at hl 4 rfl) ?_
  refine lv_aload_n hx hb dL_law_3254 rfl (lv_at hl 6 rfl) ?_
  refine lv_iload hx hb dL_law_3255 (lv_at hl 1 rfl) ?_
  refine lv_iconst (v := 1) hx hb dL_law_3257 (by decide) ?_
  refine lv_iadd hx hb dL_law_3258 ?_
  refine lv_to (y := 1) (by decide +kernel) ?_
  refine va_sld hx hb hX0 hbl (Nat.not_le.mpr hbl) G.2.2 (i := 1) (vp_in_nI (n := 1) (N := 6) (by decide) (by decide)) dL_law_3259 ?_
  refine lv_to (y := xs 1) (congrArg xs (by decide)) ?_
  refine l_mi (As := [.int (xs 1)]) (rest := []) E G hA hKm hKb hX.2.2.2.2 hml (n_bestIfOff l D cI cJ cZ am mS0 (xs 1) rfl (fun _ => rfl)) (cwV 1 hts (glM (L := [Cond.methodLink RL 371 yX12_bestIfOff, Cond.instanceMethod yX12_bestIfOff, Cond.selects RX12 yX12_bestIfOff yX12_bestIfOff, Cond.initialized RX12]) (gl_in [(10, 149), (10, 150), (10, 151), (1, 14)] (by decide +kernel) (by decide +kernel)) ⟨(t_of [Cond.code yX12_bestIfOff cX12_bestIfOff 2 (some .int)] [(10, 152)] (by decide +kernel) _ List.mem_cons_self), List.all_eq_true.mp (by decide +kernel : [Cond.code yX12_bestIfOff cX12_bestIfOff 2 (some .int)].all goodWord = true) _ List.mem_cons_self⟩) rfl rfl rfl (by decide +kernel) ⟨Nat.le_of_ble_eq_true rfl, Nat.le_of_ble_eq_true rfl⟩) rfl hl.1 rfl (lv_room (Nat.le_of_ble_eq_true rfl)) dL_law_3260 ⟨Nat.le_of_ble_eq_true rfl, Nat.le_of_ble_eq_true rfl⟩ (fun r1 S1 H locs hq G => ?_)
  obtain ⟨hq1, hq2⟩ := hq
  rw [hq2] at G
  refine lv_to (y := 0) hq1 ?_
  refine lv_istore (lv' := [(7, .int 0), (6, .int 1), (5, .int 0), (4, .ref (am 99)), (3, .ref (am 98)), (2, .ref (am 0)), (1, .ref (ad 0)), (0, .ref b)]) hx hb dL_law_3263 hl (by decide) rfl (fun ls hl => ?_)
  refine lv_aload_n hx hb dL_law_3265 rfl (lv_at hl 5 rfl) ?_
  refine l_mi (As := []) (rest := []) E G hA hKm hKb hX.2.2.2.2 hml (m_thrown l D cI cJ cZ am (mi mS0 0 1)) (cwV 0 hts (glM (L := [Cond.methodLink RL 204 yX12_thrown, Cond.instanceMethod yX12_thrown, Cond.selects RX12 yX12_thrown yX12_thrown, Cond.initialized RX12]) (gl_in [(8, 65), (8, 66), (8, 67), (1, 14)] (by decide +kernel) (by decide +kernel)) ⟨(t_of [Cond.code yX12_thrown cX12_thrown 1 (some .int)] [(8, 68)] (by decide +kernel) _ List.mem_cons_self), List.all_eq_true.mp (by decide +kernel : [Cond.code yX12_thrown cX12_thrown 1 (some .int)].all goodWord = true) _ List.mem_cons_self⟩) rfl rfl rfl (by decide +kernel) ⟨Nat.le_of_ble_eq_true rfl, Nat.le_of_ble_eq_true rfl⟩) rfl hl.1 rfl (lv_room (Nat.le_of_ble_eq_true rfl)) dL_law_3266 ⟨Nat.le_of_ble_eq_true rfl, Nat.le_of_ble_eq_true rfl⟩ (fun r2 S1 H locs hq G => ?_)
  obtain ⟨hq1, hq2⟩ := hq
  rw [hq2] at G
  refine lv_to (y := 1) hq1 ?_
  refine lv_iload hx hb dL_law_3269 (lv_at hl 1 rfl) ?_
  refine lv_icmp_eq (tgt := 3276) hx hb dL_law_3271 (by decide) (fun c3 => ?_) (fun c3 => absurd (by decide +kernel) c3)
  refine lv_iload hx hb dL_law_3276 (lv_at hl 1 rfl) ?_
  refine lv_if_ne (tgt := 3293) hx hb dL_law_3278 (by decide) (fun c4 => ?_) (fun c4 => absurd c4 (by decide +kernel))
  refine lv_goto (tgt := 3975) hx hb dL_law_3293 (by decide) ?_
  refine lv_iinc (v := 6) (lv' := [(5, .int 6), (7, .int 0), (6, .int 1), (4, .ref (am 99)), (3, .ref (am 98)), (2, .ref (am 0)), (1, .ref (ad 0)), (0, .ref b)]) hx hb dL_law_3975 hl (k := 2) rfl (by decide +kernel) (by decide) rfl (fun ls hl => ?_)
  refine lv_goto (tgt := 28) hx hb dL_law_3978 (by decide) ?_
  refine lv_iload hx hb dL_law_28 (lv_at hl 0 rfl) ?_
  refine lv_aload_n hx hb dL_law_30 rfl (lv_at hl 7 rfl) ?_
  refine va_slen hx hb hX0 hbl (Nat.not_le.mpr hbl) G.2.2 dL_law_31 ?_
  refine lv_to (y := 6) (by decide) ?_
  refine lv_bipush (v := 6) hx hb dL_law_32 (by decide) ?_
  refine lv_isub hx hb dL_law_34 ?_
  refine lv_to (y := 0) (by decide +kernel) ?_
  refine lv_icmp_gt (tgt := 3981) hx hb dL_law_35 (by decide) (fun c5 => ?_) (fun c5 => absurd (by decide +kernel) c5)
  refine lv_iconst (v := 1) hx hb dL_law_3981 (by decide) ?_
  refine va_forget G.2.2.2.2 ?_
  refine W.widen (k := 600002) (n := 7302232) (Nat.le_of_ble_eq_true rfl) (Nat.le_of_ble_eq_true rfl) ?_
  exact lw_ret (d0 := s.drawn) (Drawn.sameBut.refl s.drawn lw_cs) hx hb hr hlocks dL_law_3982
set_option maxHeartbeats 4000000 in
set_option maxRecDepth 100000 in
theorem p_a53 {p : Program} {e : Env} {s : State} {m : MethodId} {below : List Frame} {meth : Method} {c : Code} (l : Launch) (hst : l.stackTraces = false) {b : Nat} {xs : Nat → Int32} (hx : p.tables.exec = Jvm.exec) (hb : c.code = code) (hr : meth.sig.returnType = ret) (hml : c.maxLocals = 9) (hown : s.vm.findClass RL = some m.cls) (hts : ∀ w ∈ lw_tbl, w.before #[Value.ref b] s = true) (hlocks : meth.locks = false) (hX0 : va_X b 6 xs s s.heap) (hbl : b < s.heap.size) (hX : xT (fun q => s.heap.size ≤ q) s) (hN1 : va_Nc xIAE xIOB s) (hN2 : va_Nc xISE xIOB s) {D : va_G} {cI cJ cZ cMic cSrc cSt cAI cAJ cD : ClassId} {ad am : Nat → Nat} {N : Nat} {S : Nat → va_E} {ls : Array Slot} {H : Heap} {locs : List Loc} (hK : va_K D vwCl (CT cI cJ cZ cMic cSrc cSt cAI cAJ ++ [(cD, .double)]) s) (hN : 1586 ≤ N) (F : FR cI cJ cZ cMic cSrc cSt cAI cAJ ad S) (G : lG D ad N cI cJ cZ am (fun q => s.heap.size ≤ q) s.heap H locs S mS0) (hl : lv_has ls 9 [(5, .int 0), (4, .ref (am 99)), (3, .ref (am 98)), (2, .ref (am 0)), (1, .ref (ad 0)), (0, .ref b)]) : W p l e room_1 s m #[Value.ref b] below meth c H locs 1605 82603 (lw_Z below #[Value.ref b] s) (F0 m 3296 ls []) := by
  obtain ⟨hS0, hS1, hS2, hS3, hS4, hS5, hS6, hS432, hS478, hS480, hS656, hS658⟩ := F
  have E : cE p c cL_law s m #[Value.ref b] lw_tbl D RL (CT cI cJ cZ cMic cSrc cSt cAI cAJ ++ [(cD, .double)]) := ⟨hx, hb, hts, hown, hK⟩
  have hKm : va_K D vwCl (MT cI cJ cZ) s := hK.sub [0, 1, 2] rfl
  have hKb : ∀ t : State, s.vm.Alike t.vm → va_K D vwCl (CT cI cJ cZ cMic cSrc cSt cAI cAJ ++ [(cD, .double)]) t := fun t h => va_K.moved h hK
  have hA : ∀ q : Nat, s.heap.size ≤ q → s.heap.size ≤ q := fun _ h => h
  refine lv_aload_n hx hb dL_law_3296 rfl (lv_at hl 4 rfl) ?_
  refine lv_aload_n hx hb dL_law_3297 rfl (lv_at hl 5 rfl) ?_
  refine lv_iload hx hb dL_law_3298 (lv_at hl 0 rfl) ?_
  refine lv_iconst (v := 1) hx hb dL_law_3300 (by decide) ?_
  refine lv_iadd hx hb dL_law_3301 ?_
  refine lv_to (y := 1) (by decide +kernel) ?_
  refine va_sld hx hb hX0 hbl (Nat.not_le.mpr hbl) G.2.2 (i := 1) (vp_in_nI (n := 1) (N := 6) (by decide) (by decide)) dL_law_3302 ?_
  refine lv_to (y := xs 1) (congrArg xs (by decide)) ?_
  refine lv_aload_n hx hb dL_law_3303 rfl (lv_at hl 5 rfl) ?_
  refine lv_iload hx hb dL_law_3304 (lv_at hl 0 rfl) ?_
  refine lv_iconst (v := 2) hx hb dL_law_3306 (by decide) ?_
  refine lv_iadd hx hb dL_law_3307 ?_
  refine lv_to (y := 2) (by decide +kernel) ?_
  refine va_sld hx hb hX0 hbl (Nat.not_le.mpr hbl) G.2.2 (i := 2) (vp_in_nI (n := 2) (N := 6) (by decide) (by decide)) dL_law_3308 ?_
  refine lv_to (y := xs 2) (congrArg xs (by decide)) ?_
  refine lv_if_eq (tgt := 3316) hx hb dL_law_3309 (by decide) (fun c1 => ?_) (fun c1 => ?_)
  · refine lv_iconst (v := 0) hx hb dL_law_3316 (by decide) ?_
    refine lv_aload_n hx hb dL_law_3317 rfl (lv_at hl 2 rfl) ?_
    refine l_w (As := [.ref (ad 0), .int (xs 1), .int 0, .ref (am 98)]) (rest := []) E G hA hX hN1 hN2 (fun _ _ h _ _ k => va_Nc.moved h k) rfl hml (w_mute l hst D _ ad N S (sc := 478) (Nat.lt_of_lt_of_le (by decide) hN) hS0 rfl (Nat.lt_of_lt_of_le (by decide) hN) hS478 rfl (xs 1) 0 (am 98)) (vx_cwSW 4 hts (glA (L := [Cond.methodLink RL 372 yL_mute, Cond.static yL_mute, Cond.initialized RL]) (gl_in [(7, 120), (7, 121), (1, 0)] (by decide +kernel) (by decide +kernel)) ⟨(t_of [Cond.codeWith yL_mute cL_mute 5 (some .int) [(0, 17, 20, 21), (0, 17, 24, 13)]] [(7, 122)] (by decide +kernel) _ List.mem_cons_self), List.all_eq_true.mp (by decide +kernel : [Cond.codeWith yL_mute cL_mute 5 (some .int) [(0, 17, 20, 21), (0, 17, 24, 13)]].all goodWord = true) _ List.mem_cons_self⟩) rfl rfl rfl (by decide +kernel) ⟨Nat.le_of_ble_eq_true rfl, Nat.le_of_ble_eq_true rfl⟩) rfl hl.1 rfl (lv_room (Nat.le_of_ble_eq_true rfl)) dL_law_3318 ⟨Nat.le_of_ble_eq_true rfl, Nat.le_of_ble_eq_true rfl⟩ (fun r S1 H locs hq G => ?_)
    obtain ⟨hq1, hq2⟩ := hq
    rw [hq2] at G
    refine lv_to (y := 1) hq1 ?_
    refine lv_istore (lv' := [(6, .int 1), (5, .int 0), (4, .ref (am 99)), (3, .ref (am 98)), (2, .ref (am 0)), (1, .ref (ad 0)), (0, .ref b)]) hx hb dL_law_3321 hl (by decide) rfl (fun ls hl => ?_)
    refine lv_aload_n hx hb dL_law_3323 rfl (lv_at hl 4 rfl) ?_
    refine lv_aload_n hx hb dL_law_3324 rfl (lv_at hl 6 rfl) ?_
    refine lv_iload hx hb dL_law_3325 (lv_at hl 1 rfl) ?_
    refine lv_iconst (v := 1) hx hb dL_law_3327 (by decide) ?_
    refine lv_iadd hx hb dL_law_3328 ?_
    refine lv_to (y := 1) (by decide +kernel) ?_
    refine va_sld hx hb hX0 hbl (Nat.not_le.mpr hbl) G.2.2 (i := 1) (vp_in_nI (n := 1) (N := 6) (by decide) (by decide)) dL_law_3329 ?_
    refine lv_to (y := xs 1) (congrArg xs (by decide)) ?_
    refine lv_aload_n hx hb dL_law_3330 rfl (lv_at hl 6 rfl) ?_
    refine lv_iload hx hb dL_law_3331 (lv_at hl 1 rfl) ?_
    refine lv_iconst (v := 2) hx hb dL_law_3333 (by decide) ?_
    refine lv_iadd hx hb dL_law_3334 ?_
    refine lv_to (y := 2) (by decide +kernel) ?_
    refine va_sld hx hb hX0 hbl (Nat.not_le.mpr hbl) G.2.2 (i := 2) (vp_in_nI (n := 2) (N := 6) (by decide) (by decide)) dL_law_3335 ?_
    refine lv_to (y := xs 2) (congrArg xs (by decide)) ?_
    refine lv_if_eq (tgt := 3343) hx hb dL_law_3336 (by decide) (fun c2 => ?_) (fun c2 => ?_)
    · refine lv_iconst (v := 0) hx hb dL_law_3343 (by decide) ?_
      refine l_mi (As := [.int (xs 1), .int 0]) (rest := []) E G hA hKm hKb hX.2.2.2.2 hml (n_mute l D cI cJ cZ am mS0 (xs 1) 0 rfl (fun _ => rfl)) (cwV 2 hts (glM (L := [Cond.methodLink RL 375 yX12_mute, Cond.instanceMethod yX12_mute, Cond.selects RX12 yX12_mute yX12_mute, Cond.initialized RX12]) (gl_in [(10, 153), (10, 154), (10, 155), (1, 14)] (by decide +kernel) (by decide +kernel)) ⟨(t_of [Cond.code yX12_mute cX12_mute 3 (some .boolean)] [(10, 156)] (by decide +kernel) _ List.mem_cons_self), List.all_eq_true.mp (by decide +kernel : [Cond.code yX12_mute cX12_mute 3 (some .boolean)].all goodWord = true) _ List.mem_cons_self⟩) rfl rfl rfl (by decide +kernel) ⟨Nat.le_of_ble_eq_true rfl, Nat.le_of_ble_eq_true rfl⟩) rfl hl.1 rfl (lv_room (Nat.le_of_ble_eq_true rfl)) dL_law_3344 ⟨Nat.le_of_ble_eq_true rfl, Nat.le_of_ble_eq_true rfl⟩ (fun r3 S1 H locs hq G => ?_)
      obtain ⟨hq1, hq2⟩ := hq
      rw [hq2] at G
      refine lv_to (y := 0) hq1 ?_
      refine lv_istore (lv' := [(7, .int 0), (6, .int 1), (5, .int 0), (4, .ref (am 99)), (3, .ref (am 98)), (2, .ref (am 0)), (1, .ref (ad 0)), (0, .ref b)]) hx hb dL_law_3347 hl (by decide) rfl (fun ls hl => ?_)
      refine lv_aload_n hx hb dL_law_3349 rfl (lv_at hl 5 rfl) ?_
      refine l_mi (As := []) (rest := []) E G hA hKm hKb hX.2.2.2.2 hml (m_thrown l D cI cJ cZ am (mi mS0 0 1)) (cwV 0 hts (glM (L := [Cond.methodLink RL 204 yX12_thrown, Cond.instanceMethod yX12_thrown, Cond.selects RX12 yX12_thrown yX12_thrown, Cond.initialized RX12]) (gl_in [(8, 65), (8, 66), (8, 67), (1, 14)] (by decide +kernel) (by decide +kernel)) ⟨(t_of [Cond.code yX12_thrown cX12_thrown 1 (some .int)] [(8, 68)] (by decide +kernel) _ List.mem_cons_self), List.all_eq_true.mp (by decide +kernel : [Cond.code yX12_thrown cX12_thrown 1 (some .int)].all goodWord = true) _ List.mem_cons_self⟩) rfl rfl rfl (by decide +kernel) ⟨Nat.le_of_ble_eq_true rfl, Nat.le_of_ble_eq_true rfl⟩) rfl hl.1 rfl (lv_room (Nat.le_of_ble_eq_true rfl)) dL_law_3350 ⟨Nat.le_of_ble_eq_true rfl, Nat.le_of_ble_eq_true rfl⟩ (fun r4 S1 H locs hq G => ?_)
      obtain ⟨hq1, hq2⟩ := hq
      rw [hq2] at G
      refine lv_to (y := 1) hq1 ?_
      refine lv_iload hx hb dL_law_3353 (lv_at hl 1 rfl) ?_
      refine lv_icmp_eq (tgt := 3360) hx hb dL_law_3355 (by decide) (fun c5 => ?_) (fun c5 => absurd (by decide +kernel) c5)
      refine lv_iload hx hb dL_law_3360 (lv_at hl 1 rfl) ?_
      refine lv_if_ne (tgt := 3384) hx hb dL_law_3362 (by decide) (fun c6 => ?_) (fun c6 => absurd c6 (by decide +kernel))
      refine lv_goto (tgt := 3975) hx hb dL_law_3384 (by decide) ?_
      refine lv_iinc (v := 6) (lv' := [(5, .int 6), (7, .int 0), (6, .int 1), (4, .ref (am 99)), (3, .ref (am 98)), (2, .ref (am 0)), (1, .ref (ad 0)), (0, .ref b)]) hx hb dL_law_3975 hl (k := 2) rfl (by decide +kernel) (by decide) rfl (fun ls hl => ?_)
      refine lv_goto (tgt := 28) hx hb dL_law_3978 (by decide) ?_
      refine lv_iload hx hb dL_law_28 (lv_at hl 0 rfl) ?_
      refine lv_aload_n hx hb dL_law_30 rfl (lv_at hl 7 rfl) ?_
      refine va_slen hx hb hX0 hbl (Nat.not_le.mpr hbl) G.2.2 dL_law_31 ?_
      refine lv_to (y := 6) (by decide) ?_
      refine lv_bipush (v := 6) hx hb dL_law_32 (by decide) ?_
      refine lv_isub hx hb dL_law_34 ?_
      refine lv_to (y := 0) (by decide +kernel) ?_
      refine lv_icmp_gt (tgt := 3981) hx hb dL_law_35 (by decide) (fun c7 => ?_) (fun c7 => absurd (by decide +kernel) c7)
      refine lv_iconst (v := 1) hx hb dL_law_3981 (by decide) ?_
      refine va_forget G.2.2.2.2 ?_
      refine W.widen (k := 600002) (n := 7302232) (Nat.le_of_ble_eq_true rfl) (Nat.le_of_ble_eq_true rfl) ?_
      exact lw_ret (d0 := s.drawn) (Drawn.sameBut.refl s.drawn lw_cs) hx hb hr hlocks dL_law_3982
    · refine lv_iconst (v := 1) hx hb dL_law_3339 (by decide) ?_
      refine lv_goto (tgt := 3344) hx hb dL_law_3340 (by decide) ?_
      refine l_mi (As := [.int (xs 1), .int 1]) (rest := []) E G hA hKm hKb hX.2.2.2.2 hml (n_mute l D cI cJ cZ am mS0 (xs 1) 1 rfl (fun _ => rfl)) (cwV 2 hts (glM (L := [Cond.methodLink RL 375 yX12_mute, Cond.instanceMethod yX12_mute, Cond.selects RX12 yX12_mute yX12_mute, Cond.initialized RX12]) (gl_in [(10, 153), (10, 154), (10, 155), (1, 14)] (by decide +kernel) (by decide +kernel)) ⟨(t_of [Cond.code yX12_mute cX12_mute 3 (some .boolean)] [(10, 156)] (by decide +kernel) _ List.mem_cons_self), List.all_eq_true.mp (by decide +kernel : [Cond.code yX12_mute cX12_mute 3 (some .boolean)].all goodWord = true) _ List.mem_cons_self⟩) rfl rfl rfl (by decide +kernel) ⟨Nat.le_of_ble_eq_true rfl, Nat.le_of_ble_eq_true rfl⟩) rfl hl.1 rfl (lv_room (Nat.le_of_ble_eq_true rfl)) dL_law_3344 ⟨Nat.le_of_ble_eq_true rfl, Nat.le_of_ble_eq_true rfl⟩ (fun r8 S1 H locs hq G => ?_)
      obtain ⟨hq1, hq2⟩ := hq
      rw [hq2] at G
      refine lv_to (y := 0) hq1 ?_
      refine lv_istore (lv' := [(7, .int 0), (6, .int 1), (5, .int 0), (4, .ref (am 99)), (3, .ref (am 98)), (2, .ref (am 0)), (1, .ref (ad 0)), (0, .ref b)]) hx hb dL_law_3347 hl (by decide) rfl (fun ls hl => ?_)
      refine lv_aload_n hx hb dL_law_3349 rfl (lv_at hl 5 rfl) ?_
      refine l_mi (As := []) (rest := []) E G hA hKm hKb hX.2.2.2.2 hml (m_thrown l D cI cJ cZ am (mi mS0 0 1)) (cwV 0 hts (glM (L := [Cond.methodLink RL 204 yX12_thrown, Cond.instanceMethod yX12_thrown, Cond.selects RX12 yX12_thrown yX12_thrown, Cond.initialized RX12]) (gl_in [(8, 65), (8, 66), (8, 67), (1, 14)] (by decide +kernel) (by decide +kernel)) ⟨(t_of [Cond.code yX12_thrown cX12_thrown 1 (some .int)] [(8, 68)] (by decide +kernel) _ List.mem_cons_self), List.all_eq_true.mp (by decide +kernel : [Cond.code yX12_thrown cX12_thrown 1 (some .int)].all goodWord = true) _ List.mem_cons_self⟩) rfl rfl rfl (by decide +kernel) ⟨Nat.le_of_ble_eq_true rfl, Nat.le_of_ble_eq_true rfl⟩) rfl hl.1 rfl (lv_room (Nat.le_of_ble_eq_true rfl)) dL_law_3350 ⟨Nat.le_of_ble_eq_true rfl, Nat.le_of_ble_eq_true rfl⟩ (fun r9 S1 H locs hq G => ?_)
      obtain ⟨hq1, hq2⟩ := hq
      rw [hq2] at G
      refine lv_to (y := 1) hq1 ?_
      refine lv_iload hx hb dL_law_3353 (lv_at hl 1 rfl) ?_
      refine lv_icmp_eq (tgt := 3360) hx hb dL_law_3355 (by decide) (fun c10 => ?_) (fun c10 => absurd (by decide +kernel) c10)
      refine lv_iload hx hb dL_law_3360 (lv_at hl 1 rfl) ?_
      refine lv_if_ne (tgt := 3384) hx hb dL_law_3362 (by decide) (fun c11 => ?_) (fun c11 => absurd c11 (by decide +kernel))
      refine lv_goto (tgt := 3975) hx hb dL_law_3384 (by decide) ?_
      refine lv_iinc (v := 6) (lv' := [(5, .int 6), (7, .int 0), (6, .int 1), (4, .ref (am 99)), (3, .ref (am 98)), (2, .ref (am 0)), (1, .ref (ad 0)), (0, .ref b)]) hx hb dL_law_3975 hl (k := 2) rfl (by decide +kernel) (by decide) rfl (fun ls hl => ?_)
      refine lv_goto (tgt := 28) hx hb dL_law_3978 (by decide) ?_
      refine lv_iload hx hb dL_law_28 (lv_at hl 0 rfl) ?_
      refine lv_aload_n hx hb dL_law_30 rfl (lv_at hl 7 rfl) ?_
      refine va_slen hx hb hX0 hbl (Nat.not_le.mpr hbl) G.2.2 dL_law_31 ?_
      refine lv_to (y := 6) (by decide) ?_
      refine lv_bipush (v := 6) hx hb dL_law_32 (by decide) ?_
      refine lv_isub hx hb dL_law_34 ?_
      refine lv_to (y := 0) (by decide +kernel) ?_
      refine lv_icmp_gt (tgt := 3981) hx hb dL_law_35 (by decide) (fun c12 => ?_) (fun c12 => absurd (by decide +kernel) c12)
      refine lv_iconst (v := 1) hx hb dL_law_3981 (by decide) ?_
      refine va_forget G.2.2.2.2 ?_
      refine W.widen (k := 600002) (n := 7302232) (Nat.le_of_ble_eq_true rfl) (Nat.le_of_ble_eq_true rfl) ?_
      exact lw_ret (d0 := s.drawn) (Drawn.sameBut.refl s.drawn lw_cs) hx hb hr hlocks dL_law_3982
  · refine lv_iconst (v := 1) hx hb dL_law_3312 (by decide) ?_
    refine lv_goto (tgt := 3317) hx hb dL_law_3313 (by decide) ?_
    refine lv_aload_n hx hb dL_law_3317 rfl (lv_at hl 2 rfl) ?_
    refine l_w (As := [.ref (ad 0), .int (xs 1), .int 1, .ref (am 98)]) (rest := []) E G hA hX hN1 hN2 (fun _ _ h _ _ k => va_Nc.moved h k) rfl hml (w_mute l hst D _ ad N S (sc := 478) (Nat.lt_of_lt_of_le (by decide) hN) hS0 rfl (Nat.lt_of_lt_of_le (by decide) hN) hS478 rfl (xs 1) 1 (am 98)) (vx_cwSW 4 hts (glA (L := [Cond.methodLink RL 372 yL_mute, Cond.static yL_mute, Cond.initialized RL]) (gl_in [(7, 120), (7, 121), (1, 0)] (by decide +kernel) (by decide +kernel)) ⟨(t_of [Cond.codeWith yL_mute cL_mute 5 (some .int) [(0, 17, 20, 21), (0, 17, 24, 13)]] [(7, 122)] (by decide +kernel) _ List.mem_cons_self), List.all_eq_true.mp (by decide +kernel : [Cond.codeWith yL_mute cL_mute 5 (some .int) [(0, 17, 20, 21), (0, 17, 24, 13)]].all goodWord = true) _ List.mem_cons_self⟩) rfl rfl rfl (by decide +kernel) ⟨Nat.le_of_ble_eq_true rfl, Nat.le_of_ble_eq_true rfl⟩) rfl hl.1 rfl (lv_room (Nat.le_of_ble_eq_true rfl)) dL_law_3318 ⟨Nat.le_of_ble_eq_true rfl, Nat.le_of_ble_eq_true rfl⟩ (fun r S1 H locs hq G => ?_)
    obtain ⟨hq1, hq2⟩ := hq
    rw [hq2] at G
    refine lv_to (y := 1) hq1 ?_
    refine lv_istore (lv' := [(6, .int 1), (5, .int 0), (4, .ref (am 99)), (3, .ref (am 98)), (2, .ref (am 0)), (1, .ref (ad 0)), (0, .ref b)]) hx hb dL_law_3321 hl (by decide) rfl (fun ls hl => ?_)
    refine lv_aload_n hx hb dL_law_3323 rfl (lv_at hl 4 rfl) ?_
    refine lv_aload_n hx hb dL_law_3324 rfl (lv_at hl 6 rfl) ?_
    refine lv_iload hx hb dL_law_3325 (lv_at hl 1 rfl) ?_
    refine lv_iconst (v := 1) hx hb dL_law_3327 (by decide) ?_
    refine lv_iadd hx hb dL_law_3328 ?_
    refine lv_to (y := 1) (by decide +kernel) ?_
    refine va_sld hx hb hX0 hbl (Nat.not_le.mpr hbl) G.2.2 (i := 1) (vp_in_nI (n := 1) (N := 6) (by decide) (by decide)) dL_law_3329 ?_
    refine lv_to (y := xs 1) (congrArg xs (by decide)) ?_
    refine lv_aload_n hx hb dL_law_3330 rfl (lv_at hl 6 rfl) ?_
    refine lv_iload hx hb dL_law_3331 (lv_at hl 1 rfl) ?_
    refine lv_iconst (v := 2) hx hb dL_law_3333 (by decide) ?_
    refine lv_iadd hx hb dL_law_3334 ?_
    refine lv_to (y := 2) (by decide +kernel) ?_
    refine va_sld hx hb hX0 hbl (Nat.not_le.mpr hbl) G.2.2 (i := 2) (vp_in_nI (n := 2) (N := 6) (by decide) (by decide)) dL_law_3335 ?_
    refine lv_to (y := xs 2) (congrArg xs (by decide)) ?_
    refine lv_if_eq (tgt := 3343) hx hb dL_law_3336 (by decide) (fun c13 => ?_) (fun c13 => ?_)
    · refine lv_iconst (v := 0) hx hb dL_law_3343 (by decide) ?_
      refine l_mi (As := [.int (xs 1), .int 0]) (rest := []) E G hA hKm hKb hX.2.2.2.2 hml (n_mute l D cI cJ cZ am mS0 (xs 1) 0 rfl (fun _ => rfl)) (cwV 2 hts (glM (L := [Cond.methodLink RL 375 yX12_mute, Cond.instanceMethod yX12_mute, Cond.selects RX12 yX12_mute yX12_mute, Cond.initialized RX12]) (gl_in [(10, 153), (10, 154), (10, 155), (1, 14)] (by decide +kernel) (by decide +kernel)) ⟨(t_of [Cond.code yX12_mute cX12_mute 3 (some .boolean)] [(10, 156)] (by decide +kernel) _ List.mem_cons_self), List.all_eq_true.mp (by decide +kernel : [Cond.code yX12_mute cX12_mute 3 (some .boolean)].all goodWord = true) _ List.mem_cons_self⟩) rfl rfl rfl (by decide +kernel) ⟨Nat.le_of_ble_eq_true rfl, Nat.le_of_ble_eq_true rfl⟩) rfl hl.1 rfl (lv_room (Nat.le_of_ble_eq_true rfl)) dL_law_3344 ⟨Nat.le_of_ble_eq_true rfl, Nat.le_of_ble_eq_true rfl⟩ (fun r14 S1 H locs hq G => ?_)
      obtain ⟨hq1, hq2⟩ := hq
      rw [hq2] at G
      refine lv_to (y := 0) hq1 ?_
      refine lv_istore (lv' := [(7, .int 0), (6, .int 1), (5, .int 0), (4, .ref (am 99)), (3, .ref (am 98)), (2, .ref (am 0)), (1, .ref (ad 0)), (0, .ref b)]) hx hb dL_law_3347 hl (by decide) rfl (fun ls hl => ?_)
      refine lv_aload_n hx hb dL_law_3349 rfl (lv_at hl 5 rfl) ?_
      refine l_mi (As := []) (rest := []) E G hA hKm hKb hX.2.2.2.2 hml (m_thrown l D cI cJ cZ am (mi mS0 0 1)) (cwV 0 hts (glM (L := [Cond.methodLink RL 204 yX12_thrown, Cond.instanceMethod yX12_thrown, Cond.selects RX12 yX12_thrown yX12_thrown, Cond.initialized RX12]) (gl_in [(8, 65), (8, 66), (8, 67), (1, 14)] (by decide +kernel) (by decide +kernel)) ⟨(t_of [Cond.code yX12_thrown cX12_thrown 1 (some .int)] [(8, 68)] (by decide +kernel) _ List.mem_cons_self), List.all_eq_true.mp (by decide +kernel : [Cond.code yX12_thrown cX12_thrown 1 (some .int)].all goodWord = true) _ List.mem_cons_self⟩) rfl rfl rfl (by decide +kernel) ⟨Nat.le_of_ble_eq_true rfl, Nat.le_of_ble_eq_true rfl⟩) rfl hl.1 rfl (lv_room (Nat.le_of_ble_eq_true rfl)) dL_law_3350 ⟨Nat.le_of_ble_eq_true rfl, Nat.le_of_ble_eq_true rfl⟩ (fun r15 S1 H locs hq G => ?_)
      obtain ⟨hq1, hq2⟩ := hq
      rw [hq2] at G
      refine lv_to (y := 1) hq1 ?_
      refine lv_iload hx hb dL_law_3353 (lv_at hl 1 rfl) ?_
      refine lv_icmp_eq (tgt := 3360) hx hb dL_law_3355 (by decide) (fun c16 => ?_) (fun c16 => absurd (by decide +kernel) c16)
      refine lv_iload hx hb dL_law_3360 (lv_at hl 1 rfl) ?_
      refine lv_if_ne (tgt := 3384) hx hb dL_law_3362 (by decide) (fun c17 => ?_) (fun c17 => absurd c17 (by decide +kernel))
      refine lv_goto (tgt := 3975) hx hb dL_law_3384 (by decide) ?_
      refine lv_iinc (v := 6) (lv' := [(5, .int 6), (7, .int 0), (6, .int 1), (4, .ref (am 99)), (3, .ref (am 98)), (2, .ref (am 0)), (1, .ref (ad 0)), (0, .ref b)]) hx hb dL_law_3975 hl (k := 2) rfl (by decide +kernel) (by decide) rfl (fun ls hl => ?_)
      refine lv_goto (tgt := 28) hx hb dL_law_3978 (by decide) ?_
      refine lv_iload hx hb dL_law_28 (lv_at hl 0 rfl) ?_
      refine lv_aload_n hx hb dL_law_30 rfl (lv_at hl 7 rfl) ?_
      refine va_slen hx hb hX0 hbl (Nat.not_le.mpr hbl) G.2.2 dL_law_31 ?_
      refine lv_to (y := 6) (by decide) ?_
      refine lv_bipush (v := 6) hx hb dL_law_32 (by decide) ?_
      refine lv_isub hx hb dL_law_34 ?_
      refine lv_to (y := 0) (by decide +kernel) ?_
      refine lv_icmp_gt (tgt := 3981) hx hb dL_law_35 (by decide) (fun c18 => ?_) (fun c18 => absurd (by decide +kernel) c18)
      refine lv_iconst (v := 1) hx hb dL_law_3981 (by decide) ?_
      refine va_forget G.2.2.2.2 ?_
      refine W.widen (k := 600002) (n := 7302232) (Nat.le_of_ble_eq_true rfl) (Nat.le_of_ble_eq_true rfl) ?_
      exact lw_ret (d0 := s.drawn) (Drawn.sameBut.refl s.drawn lw_cs) hx hb hr hlocks dL_law_3982
    · refine lv_iconst (v := 1) hx hb dL_law_3339 (by decide) ?_
      refine lv_goto (tgt := 3344) hx hb dL_law_3340 (by decide) ?_
      refine l_mi (As := [.int (xs 1), .int 1]) (rest := []) E G hA hKm hKb hX.2.2.2.2 hml (n_mute l D cI cJ cZ am mS0 (xs 1) 1 rfl (fun _ => rfl)) (cwV 2 hts (glM (L := [Cond.methodLink RL 375 yX12_mute, Cond.instanceMethod yX12_mute, Cond.selects RX12 yX12_mute yX12_mute, Cond.initialized RX12]) (gl_in [(10, 153), (10, 154), (10, 155), (1, 14)] (by decide +kernel) (by decide +kernel)) ⟨(t_of [Cond.code yX12_mute cX12_mute 3 (some .boolean)] [(10, 156)] (by decide +kernel) _ List.mem_cons_self), List.all_eq_true.mp (by decide +kernel : [Cond.code yX12_mute cX12_mute 3 (some .boolean)].all goodWord = true) _ List.mem_cons_self⟩) rfl rfl rfl (by decide +kernel) ⟨Nat.le_of_ble_eq_true rfl, Nat.le_of_ble_eq_true rfl⟩) rfl hl.1 rfl (lv_room (Nat.le_of_ble_eq_true rfl)) dL_law_3344 ⟨Nat.le_of_ble_eq_true rfl, Nat.le_of_ble_eq_true rfl⟩ (fun r19 S1 H locs hq G => ?_)
      obtain ⟨hq1, hq2⟩ := hq
      rw [hq2] at G
      refine lv_to (y := 0) hq1 ?_
      refine lv_istore (lv' := [(7, .int 0), (6, .int 1), (5, .int 0), (4, .ref (am 99)), (3, .ref (am 98)), (2, .ref (am 0)), (1, .ref (ad 0)), (0, .ref b)]) hx hb dL_law_3347 hl (by decide) rfl (fun ls hl => ?_)
      refine lv_aload_n hx hb dL_law_3349 rfl (lv_at hl 5 rfl) ?_
      refine l_mi (As := []) (rest := []) E G hA hKm hKb hX.2.2.2.2 hml (m_thrown l D cI cJ cZ am (mi mS0 0 1)) (cwV 0 hts (glM (L := [Cond.methodLink RL 204 yX12_thrown, Cond.instanceMethod yX12_thrown, Cond.selects RX12 yX12_thrown yX12_thrown, Cond.initialized RX12]) (gl_in [(8, 65), (8, 66), (8, 67), (1, 14)] (by decide +kernel) (by decide +kernel)) ⟨(t_of [Cond.code yX12_thrown cX12_thrown 1 (some .int)] [(8, 68)] (by decide +kernel) _ List.mem_cons_self), List.all_eq_true.mp (by decide +kernel : [Cond.code yX12_thrown cX12_thrown 1 (some .int)].all goodWord = true) _ List.mem_cons_self⟩) rfl rfl rfl (by decide +kernel) ⟨Nat.le_of_ble_eq_true rfl, Nat.le_of_ble_eq_true rfl⟩) rfl hl.1 rfl (lv_room (Nat.le_of_ble_eq_true rfl)) dL_law_3350 ⟨Nat.le_of_ble_eq_true rfl, Nat.le_of_ble_eq_true rfl⟩ (fun r20 S1 H locs hq G => ?_)
      obtain ⟨hq1, hq2⟩ := hq
      rw [hq2] at G
      refine lv_to (y := 1) hq1 ?_
      refine lv_iload hx hb dL_law_3353 (lv_at hl 1 rfl) ?_
      refine lv_icmp_eq (tgt := 3360) hx hb dL_law_3355 (by decide) (fun c21 => ?_) (fun c21 => absurd (by decide +kernel) c21)
      refine lv_iload hx hb dL_law_3360 (lv_at hl 1 rfl) ?_
      refine lv_if_ne (tgt := 3384) hx hb dL_law_3362 (by decide) (fun c22 => ?_) (fun c22 => absurd c22 (by decide +kernel))
      refine lv_goto (tgt := 3975) hx hb dL_law_3384 (by decide) ?_
      refine lv_iinc (v := 6) (lv' := [(5, .int 6), (7, .int 0), (6, .int 1), (4, .ref (am 99)), (3, .ref (am 98)), (2, .ref (am 0)), (1, .ref (ad 0)), (0, .ref b)]) hx hb dL_law_3975 hl (k := 2) rfl (by decide +kernel) (by decide) rfl (fun ls hl => ?_)
      refine lv_goto (tgt := 28) hx hb dL_law_3978 (by decide) ?_
      refine lv_iload hx hb dL_law_28 (lv_at hl 0 rfl) ?_
      refine lv_aload_n hx hb dL_law_30 rfl (lv_at hl 7 rfl) ?_
      refine va_slen hx hb hX0 hbl (Nat.not_le.mpr hbl) G.2.2 dL_law_31 ?_
      refine lv_to (y := 6) (by decide) ?_
      refine lv_bipush (v := 6) hx hb dL_law_32 (by decide) ?_
      refine lv_isub hx hb dL_law_34 ?_
      refine lv_to (y := 0) (by decide +kernel) ?_
      refine lv_icmp_gt (tgt := 3981) hx hb dL_law_35 (by decide) (fun c23 => ?_) (fun c23 => absurd (by decide +kernel) c23)
      refine lv_iconst (v := 1) hx hb dL_law_3981 (by decide) ?_
      refine va_forget G.2.2.2.2 ?_
      refine W.widen (k := 600002) (n := 7302232) (Nat.le_of_ble_eq_true rfl) (Nat.le_of_ble_eq_true rfl) ?_
      exact lw_ret (d0 := s.drawn) (Drawn.sameBut.refl s.drawn lw_cs) hx hb hr hlocks dL_law_3982
set_option maxHeartbeats 4000000 in
set_option maxRecDepth 100000 in
theorem p_a54 {p : Program} {e : Env} {s : State} {m : MethodId} {below : List Frame} {meth : Method} {c : Code} (l : Launch) (hst : l.stackTraces = false) {b : Nat} {xs : Nat → Int32} (hx : p.tables.exec = Jvm.exec) (hb : c.code = code) (hr : meth.sig.returnType = ret) (hml : c.maxLocals = 9) (hown : s.vm.findClass RL = some m.cls) (hts : ∀ w ∈ lw_tbl, w.before #[Value.ref b] s = true) (hlocks : meth.locks = false) (hX0 : va_X b 6 xs s s.heap) (hbl : b < s.heap.size) (hX : xT (fun q => s.heap.size ≤ q) s) (hN1 : va_Nc xIAE xIOB s) (hN2 : va_Nc xISE xIOB s) {D : va_G} {cI cJ cZ cMic cSrc cSt cAI cAJ cD : ClassId} {ad am : Nat → Nat} {N : Nat} {S : Nat → va_E} {ls : Array Slot} {H : Heap} {locs : List Loc} (hK : va_K D vwCl (CT cI cJ cZ cMic cSrc cSt cAI cAJ ++ [(cD, .double)]) s) (hN : 1586 ≤ N) (F : FR cI cJ cZ cMic cSrc cSt cAI cAJ ad S) (G : lG D ad N cI cJ cZ am (fun q => s.heap.size ≤ q) s.heap H locs S mS0) (hl : lv_has ls 9 [(5, .int 0), (4, .ref (am 99)), (3, .ref (am 98)), (2, .ref (am 0)), (1, .ref (ad 0)), (0, .ref b)]) : W p l e room_1 s m #[Value.ref b] below meth c H locs 1605 82603 (lw_Z below #[Value.ref b] s) (F0 m 3387 ls []) := by
  obtain ⟨hS0, hS1, hS2, hS3, hS4, hS5, hS6, hS432, hS478, hS480, hS656, hS658⟩ := F
  have E : cE p c cL_law s m #[Value.ref b] lw_tbl D RL (CT cI cJ cZ cMic cSrc cSt cAI cAJ ++ [(cD, .double)]) := ⟨hx, hb, hts, hown, hK⟩
  have hKm : va_K D vwCl (MT cI cJ cZ) s := hK.sub [0, 1, 2] rfl
  have hKb : ∀ t : State, s.vm.Alike t.vm → va_K D vwCl (CT cI cJ cZ cMic cSrc cSt cAI cAJ ++ [(cD, .double)]) t := fun t h => va_K.moved h hK
  have hA : ∀ q : Nat, s.heap.size ≤ q → s.heap.size ≤ q := fun _ h => h
  refine lv_aload_n hx hb dL_law_3387 rfl (lv_at hl 4 rfl) ?_
  refine lv_aload_n hx hb dL_law_3388 rfl (lv_at hl 5 rfl) ?_
  refine lv_iload hx hb dL_law_3389 (lv_at hl 0 rfl) ?_
  refine lv_iconst (v := 1) hx hb dL_law_3391 (by decide) ?_
  refine lv_iadd hx hb dL_law_3392 ?_
  refine lv_to (y := 1) (by decide +kernel) ?_
  refine va_sld hx hb hX0 hbl (Nat.not_le.mpr hbl) G.2.2 (i := 1) (vp_in_nI (n := 1) (N := 6) (by decide) (by decide)) dL_law_3393 ?_
  refine lv_to (y := xs 1) (congrArg xs (by decide)) ?_
  refine lv_aload_n hx hb dL_law_3394 rfl (lv_at hl 5 rfl) ?_
  refine lv_iload hx hb dL_law_3395 (lv_at hl 0 rfl) ?_
  refine lv_iconst (v := 2) hx hb dL_law_3397 (by decide) ?_
  refine lv_iadd hx hb dL_law_3398 ?_
  refine lv_to (y := 2) (by decide +kernel) ?_
  refine va_sld hx hb hX0 hbl (Nat.not_le.mpr hbl) G.2.2 (i := 2) (vp_in_nI (n := 2) (N := 6) (by decide) (by decide)) dL_law_3399 ?_
  refine lv_to (y := xs 2) (congrArg xs (by decide)) ?_
  refine lv_aload_n hx hb dL_law_3400 rfl (lv_at hl 2 rfl) ?_
  refine l_w (As := [.ref (ad 0), .int (xs 1), .int (xs 2), .ref (am 98)]) (rest := []) E G hA hX hN1 hN2 (fun _ _ h _ _ k => va_Nc.moved h k) rfl hml (w_setWeight l hst D _ ad N S (sc := 478) (Nat.lt_of_lt_of_le (by decide) hN) hS0 rfl (Nat.lt_of_lt_of_le (by decide) hN) hS478 rfl (xs 1) (xs 2) (am 98)) (vx_cwSW 4 hts (glA (L := [Cond.methodLink RL 376 yL_setWeight, Cond.static yL_setWeight, Cond.initialized RL]) (gl_in [(7, 131), (7, 132), (1, 0)] (by decide +kernel) (by decide +kernel)) ⟨(t_of [Cond.codeWith yL_setWeight cL_setWeight 5 (some .int) [(0, 10, 13, 21), (0, 10, 17, 13), (0, 10, 21, 15)]] [(7, 133)] (by decide +kernel) _ List.mem_cons_self), List.all_eq_true.mp (by decide +kernel : [Cond.codeWith yL_setWeight cL_setWeight 5 (some .int) [(0, 10, 13, 21), (0, 10, 17, 13), (0, 10, 21, 15)]].all goodWord = true) _ List.mem_cons_self⟩) rfl rfl rfl (by decide +kernel) ⟨Nat.le_of_ble_eq_true rfl, Nat.le_of_ble_eq_true rfl⟩) rfl hl.1 rfl (lv_room (Nat.le_of_ble_eq_true rfl)) dL_law_3401 ⟨Nat.le_of_ble_eq_true rfl, Nat.le_of_ble_eq_true rfl⟩ (fun r S1 H locs hq G => ?_)
  obtain ⟨hq1, hq2⟩ := hq
  rw [hq2] at G
  refine lv_to (y := 1) hq1 ?_
  refine lv_istore (lv' := [(6, .int 1), (5, .int 0), (4, .ref (am 99)), (3, .ref (am 98)), (2, .ref (am 0)), (1, .ref (ad 0)), (0, .ref b)]) hx hb dL_law_3404 hl (by decide) rfl (fun ls hl => ?_)
  refine lv_aload_n hx hb dL_law_3406 rfl (lv_at hl 4 rfl) ?_
  refine lv_aload_n hx hb dL_law_3407 rfl (lv_at hl 6 rfl) ?_
  refine lv_iload hx hb dL_law_3408 (lv_at hl 1 rfl) ?_
  refine lv_iconst (v := 1) hx hb dL_law_3410 (by decide) ?_
  refine lv_iadd hx hb dL_law_3411 ?_
  refine lv_to (y := 1) (by decide +kernel) ?_
  refine va_sld hx hb hX0 hbl (Nat.not_le.mpr hbl) G.2.2 (i := 1) (vp_in_nI (n := 1) (N := 6) (by decide) (by decide)) dL_law_3412 ?_
  refine lv_to (y := xs 1) (congrArg xs (by decide)) ?_
  refine lv_aload_n hx hb dL_law_3413 rfl (lv_at hl 6 rfl) ?_
  refine lv_iload hx hb dL_law_3414 (lv_at hl 1 rfl) ?_
  refine lv_iconst (v := 2) hx hb dL_law_3416 (by decide) ?_
  refine lv_iadd hx hb dL_law_3417 ?_
  refine lv_to (y := 2) (by decide +kernel) ?_
  refine va_sld hx hb hX0 hbl (Nat.not_le.mpr hbl) G.2.2 (i := 2) (vp_in_nI (n := 2) (N := 6) (by decide) (by decide)) dL_law_3418 ?_
  refine lv_to (y := xs 2) (congrArg xs (by decide)) ?_
  refine l_mi (As := [.int (xs 1), .int (xs 2)]) (rest := []) E G hA hKm hKb hX.2.2.2.2 hml (n_setWeight l D cI cJ cZ am mS0 (xs 1) (xs 2) rfl (fun _ => rfl)) (cwV 2 hts (glM (L := [Cond.methodLink RL 378 yX12_setWeight, Cond.instanceMethod yX12_setWeight, Cond.selects RX12 yX12_setWeight yX12_setWeight, Cond.initialized RX12]) (gl_in [(10, 165), (10, 166), (10, 167), (1, 14)] (by decide +kernel) (by decide +kernel)) ⟨(t_of [Cond.code yX12_setWeight cX12_setWeight 3 (some .int)] [(10, 168)] (by decide +kernel) _ List.mem_cons_self), List.all_eq_true.mp (by decide +kernel : [Cond.code yX12_setWeight cX12_setWeight 3 (some .int)].all goodWord = true) _ List.mem_cons_self⟩) rfl rfl rfl (by decide +kernel) ⟨Nat.le_of_ble_eq_true rfl, Nat.le_of_ble_eq_true rfl⟩) rfl hl.1 rfl (lv_room (Nat.le_of_ble_eq_true rfl)) dL_law_3419 ⟨Nat.le_of_ble_eq_true rfl, Nat.le_of_ble_eq_true rfl⟩ (fun r1 S1 H locs hq G => ?_)
  obtain ⟨hq1, hq2⟩ := hq
  rw [hq2] at G
  refine lv_to (y := 0) hq1 ?_
  refine lv_istore (lv' := [(7, .int 0), (6, .int 1), (5, .int 0), (4, .ref (am 99)), (3, .ref (am 98)), (2, .ref (am 0)), (1, .ref (ad 0)), (0, .ref b)]) hx hb dL_law_3422 hl (by decide) rfl (fun ls hl => ?_)
  refine lv_aload_n hx hb dL_law_3424 rfl (lv_at hl 5 rfl) ?_
  refine l_mi (As := []) (rest := []) E G hA hKm hKb hX.2.2.2.2 hml (m_thrown l D cI cJ cZ am (mi mS0 0 1)) (cwV 0 hts (glM (L := [Cond.methodLink RL 204 yX12_thrown, Cond.instanceMethod yX12_thrown, Cond.selects RX12 yX12_thrown yX12_thrown, Cond.initialized RX12]) (gl_in [(8, 65), (8, 66), (8, 67), (1, 14)] (by decide +kernel) (by decide +kernel)) ⟨(t_of [Cond.code yX12_thrown cX12_thrown 1 (some .int)] [(8, 68)] (by decide +kernel) _ List.mem_cons_self), List.all_eq_true.mp (by decide +kernel : [Cond.code yX12_thrown cX12_thrown 1 (some .int)].all goodWord = true) _ List.mem_cons_self⟩) rfl rfl rfl (by decide +kernel) ⟨Nat.le_of_ble_eq_true rfl, Nat.le_of_ble_eq_true rfl⟩) rfl hl.1 rfl (lv_room (Nat.le_of_ble_eq_true rfl)) dL_law_3425 ⟨Nat.le_of_ble_eq_true rfl, Nat.le_of_ble_eq_true rfl⟩ (fun r2 S1 H locs hq G => ?_)
  obtain ⟨hq1, hq2⟩ := hq
  rw [hq2] at G
  refine lv_to (y := 1) hq1 ?_
  refine lv_iload hx hb dL_law_3428 (lv_at hl 1 rfl) ?_
  refine lv_icmp_eq (tgt := 3435) hx hb dL_law_3430 (by decide) (fun c3 => ?_) (fun c3 => absurd (by decide +kernel) c3)
  refine lv_iload hx hb dL_law_3435 (lv_at hl 1 rfl) ?_
  refine lv_if_ne (tgt := 3452) hx hb dL_law_3437 (by decide) (fun c4 => ?_) (fun c4 => absurd c4 (by decide +kernel))
  refine lv_goto (tgt := 3975) hx hb dL_law_3452 (by decide) ?_
  refine lv_iinc (v := 6) (lv' := [(5, .int 6), (7, .int 0), (6, .int 1), (4, .ref (am 99)), (3, .ref (am 98)), (2, .ref (am 0)), (1, .ref (ad 0)), (0, .ref b)]) hx hb dL_law_3975 hl (k := 2) rfl (by decide +kernel) (by decide) rfl (fun ls hl => ?_)
  refine lv_goto (tgt := 28) hx hb dL_law_3978 (by decide) ?_
  refine lv_iload hx hb dL_law_28 (lv_at hl 0 rfl) ?_
  refine lv_aload_n hx hb dL_law_30 rfl (lv_at hl 7 rfl) ?_
  refine va_slen hx hb hX0 hbl (Nat.not_le.mpr hbl) G.2.2 dL_law_31 ?_
  refine lv_to (y := 6) (by decide) ?_
  refine lv_bipush (v := 6) hx hb dL_law_32 (by decide) ?_
  refine lv_isub hx hb dL_law_34 ?_
  refine lv_to (y := 0) (by decide +kernel) ?_
  refine lv_icmp_gt (tgt := 3981) hx hb dL_law_35 (by decide) (fun c5 => ?_) (fun c5 => absurd (by decide +kernel) c5)
  refine lv_iconst (v := 1) hx hb dL_law_3981 (by decide) ?_
  refine va_forget G.2.2.2.2 ?_
  refine W.widen (k := 600002) (n := 7302232) (Nat.le_of_ble_eq_true rfl) (Nat.le_of_ble_eq_true rfl) ?_
  exact lw_ret (d0 := s.drawn) (Drawn.sameBut.refl s.drawn lw_cs) hx hb hr hlocks dL_law_3982
