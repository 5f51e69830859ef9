theorem dX7_prime_21 : decode cX7_prime 21 = .ok (.istore_n 3, 1) := by decide +kernel
theorem dX7_prime_22 : decode cX7_prime 22 = .ok (.iload_n 2, 1) := by decide +kernel
theorem dX7_prime_23 : decode cX7_prime 23 = .ok (.ifCond .le 25, 3) := by decide +kernel
theorem dX7_prime_26 : decode cX7_prime 26 = .ok (.iinc 3 1, 3) := by decide +kernel
theorem dX7_prime_29 : decode cX7_prime 29 = .ok (.iload_n 2, 1) := by decide +kernel
theorem dX7_prime_30 : decode cX7_prime 30 = .ok (.aload_n 0, 1) := by decide +kernel
theorem dX7_prime_31 : decode cX7_prime 31 = .ok (.iload_n 3, 1) := by decide +kernel
theorem dX7_prime_32 : decode cX7_prime 32 = .ok (.invokevirtual 116, 3) := by decide +kernel
theorem dX7_prime_35 : decode cX7_prime 35 = .ok (.ifCond .eq 7, 3) := by decide +kernel
theorem dX7_prime_38 : decode cX7_prime 38 = .ok (.iconst 1, 1) := by decide +kernel
theorem dX7_prime_39 : decode cX7_prime 39 = .ok (.goto 4, 3) := by decide +kernel
theorem dX7_prime_42 : decode cX7_prime 42 = .ok (.iconst 0, 1) := by decide +kernel
theorem dX7_prime_43 : decode cX7_prime 43 = .ok (.isub, 1) := by decide +kernel
theorem dX7_prime_44 : decode cX7_prime 44 = .ok (.istore_n 2, 1) := by decide +kernel
theorem dX7_prime_45 : decode cX7_prime 45 = .ok (.goto (-23), 3) := by decide +kernel
theorem dX7_prime_48 : decode cX7_prime 48 = .ok (.iload_n 3, 1) := by decide +kernel
theorem dX7_prime_49 : decode cX7_prime 49 = .ok (.ireturn, 1) := by decide +kernel
set_option maxRecDepth 20000 in
theorem ggX7_leastFactor_X7_in : GoodIn wsX7_leastFactor wsX7_in := goodIn_r _ [6] (by decide +kernel) (by decide +kernel)
set_option maxRecDepth 20000 in
theorem gX7_leastFactor_X7_in : GoodIn wsX7_leastFactor (va_wsS RX7 67 yX7_in wsX7_in) := goodIn_app (goodIn_of _ (by decide +kernel)) ggX7_leastFactor_X7_in
set_option maxRecDepth 20000 in
theorem ggX7_leastFactor_X7_goes : GoodIn wsX7_leastFactor wsX7_goes := goodIn_r _ [10, 11, 12, 13, 14, 15, 16, 17, 18, 19, 20, 21, 22, 23] (by decide +kernel) (by decide +kernel)
set_option maxRecDepth 20000 in
theorem gX7_leastFactor_X7_goes : GoodIn wsX7_leastFactor (wsV RX7 74 RX7 yX7_goes wsX7_goes) := goodIn_app (goodIn_of _ (by decide +kernel)) ggX7_leastFactor_X7_goes
theorem dX7_leastFactor_0 : decode cX7_leastFactor 0 = .ok (.aload_n 0, 1) := by decide +kernel
theorem dX7_leastFactor_1 : decode cX7_leastFactor 1 = .ok (.iload_n 1, 1) := by decide +kernel
theorem dX7_leastFactor_2 : decode cX7_leastFactor 2 = .ok (.iconst 2, 1) := by decide +kernel
theorem dX7_leastFactor_3 : decode cX7_leastFactor 3 = .ok (.ldc 34, 2) := by decide +kernel
theorem dX7_leastFactor_5 : decode cX7_leastFactor 5 = .ok (.invokestatic 67, 3) := by decide +kernel
theorem dX7_leastFactor_8 : decode cX7_leastFactor 8 = .ok (.iconst 1, 1) := by decide +kernel
theorem dX7_leastFactor_9 : decode cX7_leastFactor 9 = .ok (.invokevirtual 74, 3) := by decide +kernel
theorem dX7_leastFactor_12 : decode cX7_leastFactor 12 = .ok (.ifCond .eq 12, 3) := by decide +kernel
theorem dX7_leastFactor_15 : decode cX7_leastFactor 15 = .ok (.aload_n 0, 1) := by decide +kernel
theorem dX7_leastFactor_16 : decode cX7_leastFactor 16 = .ok (.getfield 22, 3) := by decide +kernel
theorem dX7_leastFactor_19 : decode cX7_leastFactor 19 = .ok (.iload_n 1, 1) := by decide +kernel
theorem dX7_leastFactor_20 : decode cX7_leastFactor 20 = .ok (.iaload, 1) := by decide +kernel
theorem dX7_leastFactor_21 : decode cX7_leastFactor 21 = .ok (.goto 4, 3) := by decide +kernel
theorem dX7_leastFactor_24 : decode cX7_leastFactor 24 = .ok (.iconst 0, 1) := by decide +kernel
theorem dX7_leastFactor_25 : decode cX7_leastFactor 25 = .ok (.ireturn, 1) := by decide +kernel
set_option maxRecDepth 20000 in
theorem ggX7_withLeast_X7_in : GoodIn wsX7_withLeast wsX7_in := goodIn_r _ [6] (by decide +kernel) (by decide +kernel)
set_option maxRecDepth 20000 in
theorem gX7_withLeast_X7_in : GoodIn wsX7_withLeast (va_wsS RX7 67 yX7_in wsX7_in) := goodIn_app (goodIn_of _ (by decide +kernel)) ggX7_withLeast_X7_in
set_option maxRecDepth 20000 in
theorem ggX7_withLeast_X7_goes : GoodIn wsX7_withLeast wsX7_goes := goodIn_r _ [10, 11, 12, 13, 14, 15, 16, 17, 18, 19, 20, 21, 22, 23] (by decide +kernel) (by decide +kernel)
set_option maxRecDepth 20000 in
theorem gX7_withLeast_X7_goes : GoodIn wsX7_withLeast (wsV RX7 74 RX7 yX7_goes wsX7_goes) := goodIn_app (goodIn_of _ (by decide +kernel)) ggX7_withLeast_X7_goes
theorem dX7_withLeast_0 : decode cX7_withLeast 0 = .ok (.aload_n 0, 1) := by decide +kernel
theorem dX7_withLeast_1 : decode cX7_withLeast 1 = .ok (.iload_n 1, 1) := by decide +kernel
theorem dX7_withLeast_2 : decode cX7_withLeast 2 = .ok (.iconst 1, 1) := by decide +kernel
theorem dX7_withLeast_3 : decode cX7_withLeast 3 = .ok (.ldc 34, 2) := by decide +kernel
theorem dX7_withLeast_5 : decode cX7_withLeast 5 = .ok (.invokestatic 67, 3) := by decide +kernel
theorem dX7_withLeast_8 : decode cX7_withLeast 8 = .ok (.ifCond .eq 17, 3) := by decide +kernel
theorem dX7_withLeast_11 : decode cX7_withLeast 11 = .ok (.iload_n 2, 1) := by decide +kernel
theorem dX7_withLeast_12 : decode cX7_withLeast 12 = .ok (.iconst 2, 1) := by decide +kernel
theorem dX7_withLeast_13 : decode cX7_withLeast 13 = .ok (.ldc 34, 2) := by decide +kernel
theorem dX7_withLeast_15 : decode cX7_withLeast 15 = .ok (.invokestatic 67, 3) := by decide +kernel
theorem dX7_withLeast_18 : decode cX7_withLeast 18 = .ok (.ifCond .eq 7, 3) := by decide +kernel
theorem dX7_withLeast_21 : decode cX7_withLeast 21 = .ok (.iconst 1, 1) := by decide +kernel
theorem dX7_withLeast_22 : decode cX7_withLeast 22 = .ok (.goto 4, 3) := by decide +kernel
theorem dX7_withLeast_25 : decode cX7_withLeast 25 = .ok (.iconst 0, 1) := by decide +kernel
theorem dX7_withLeast_26 : decode cX7_withLeast 26 = .ok (.iconst 1, 1) := by decide +kernel
theorem dX7_withLeast_27 : decode cX7_withLeast 27 = .ok (.invokevirtual 74, 3) := by decide +kernel
theorem dX7_withLeast_30 : decode cX7_withLeast 30 = .ok (.ifCond .ne 5, 3) := by decide +kernel
theorem dX7_withLeast_33 : decode cX7_withLeast 33 = .ok (.iconst 0, 1) := by decide +kernel
theorem dX7_withLeast_34 : decode cX7_withLeast 34 = .ok (.ireturn, 1) := by decide +kernel
theorem dX7_withLeast_35 : decode cX7_withLeast 35 = .ok (.iconst 0, 1) := by decide +kernel
theorem dX7_withLeast_36 : decode cX7_withLeast 36 = .ok (.istore_n 3, 1) := by decide +kernel
theorem dX7_withLeast_37 : decode cX7_withLeast 37 = .ok (.iconst 2, 1) := by decide +kernel
theorem dX7_withLeast_38 : decode cX7_withLeast 38 = .ok (.istore 4, 2) := by decide +kernel
theorem dX7_withLeast_40 : decode cX7_withLeast 40 = .ok (.iload 4, 2) := by decide +kernel
theorem dX7_withLeast_42 : decode cX7_withLeast 42 = .ok (.iload_n 1, 1) := by decide +kernel
theorem dX7_withLeast_43 : decode cX7_withLeast 43 = .ok (.if_icmp .gt 28, 3) := by decide +kernel
theorem dX7_withLeast_46 : decode cX7_withLeast 46 = .ok (.iload_n 3, 1) := by decide +kernel
theorem dX7_withLeast_47 : decode cX7_withLeast 47 = .ok (.aload_n 0, 1) := by decide +kernel
theorem dX7_withLeast_48 : decode cX7_withLeast 48 = .ok (.getfield 22, 3) := by decide +kernel
theorem dX7_withLeast_51 : decode cX7_withLeast 51 = .ok (.iload 4, 2) := by decide +kernel
theorem dX7_withLeast_53 : decode cX7_withLeast 53 = .ok (.iaload, 1) := by decide +kernel
theorem dX7_withLeast_54 : decode cX7_withLeast 54 = .ok (.iload_n 2, 1) := by decide +kernel
theorem dX7_withLeast_55 : decode cX7_withLeast 55 = .ok (.if_icmp .ne 7, 3) := by decide +kernel
theorem dX7_withLeast_58 : decode cX7_withLeast 58 = .ok (.iconst 1, 1) := by decide +kernel
theorem dX7_withLeast_59 : decode cX7_withLeast 59 = .ok (.goto 4, 3) := by decide +kernel
theorem dX7_withLeast_62 : decode cX7_withLeast 62 = .ok (.iconst 0, 1) := by decide +kernel
theorem dX7_withLeast_63 : decode cX7_withLeast 63 = .ok (.iadd, 1) := by decide +kernel
theorem dX7_withLeast_64 : decode cX7_withLeast 64 = .ok (.istore_n 3, 1) := by decide +kernel
theorem dX7_withLeast_65 : decode cX7_withLeast 65 = .ok (.iinc 4 1, 3) := by decide +kernel
theorem dX7_withLeast_68 : decode cX7_withLeast 68 = .ok (.goto (-28), 3) := by decide +kernel
theorem dX7_withLeast_71 : decode cX7_withLeast 71 = .ok (.iload_n 3, 1) := by decide +kernel
theorem dX7_withLeast_72 : decode cX7_withLeast 72 = .ok (.ireturn, 1) := by decide +kernel
set_option maxRecDepth 20000 in
theorem ggX7_twoFactors_X7_in : GoodIn wsX7_twoFactors wsX7_in := goodIn_r _ [6] (by decide +kernel) (by decide +kernel)
set_option maxRecDepth 20000 in
theorem gX7_twoFactors_X7_in : GoodIn wsX7_twoFactors (va_wsS RX7 67 yX7_in wsX7_in) := goodIn_app (goodIn_of _ (by decide +kernel)) ggX7_twoFactors_X7_in
set_option maxRecDepth 20000 in
theorem ggX7_twoFactors_X7_goes : GoodIn wsX7_twoFactors wsX7_goes := goodIn_r _ [10, 11, 16, 17, 18, 19, 20, 21, 22, 23, 24, 25, 26, 27] (by decide +kernel) (by decide +kernel)
set_option maxRecDepth 20000 in
theorem gX7_twoFactors_X7_goes : GoodIn wsX7_twoFactors (wsV RX7 74 RX7 yX7_goes wsX7_goes) := goodIn_app (goodIn_of _ (by decide +kernel)) ggX7_twoFactors_X7_goes
set_option maxRecDepth 20000 in
theorem ggX7_twoFactors_X7_isPrime : GoodIn wsX7_twoFactors wsX7_isPrime := goodIn_r _ [15, 2, 16, 17, 18, 19, 20, 21, 22, 23, 24, 25, 26, 27] (by decide +kernel) (by decide +kernel)
set_option maxRecDepth 20000 in
theorem gX7_twoFactors_X7_isPrime : GoodIn wsX7_twoFactors (wsV RX7 116 RX7 yX7_isPrime wsX7_isPrime) := goodIn_app (goodIn_of _ (by decide +kernel)) ggX7_twoFactors_X7_isPrime
theorem dX7_twoFactors_0 : decode cX7_twoFactors 0 = .ok (.aload_n 0, 1) := by decide +kernel
theorem dX7_twoFactors_1 : decode cX7_twoFactors 1 = .ok (.iload_n 1, 1) := by decide +kernel
theorem dX7_twoFactors_2 : decode cX7_twoFactors 2 = .ok (.iconst 0, 1) := by decide +kernel
theorem dX7_twoFactors_3 : decode cX7_twoFactors 3 = .ok (.ldc 34, 2) := by decide +kernel
theorem dX7_twoFactors_5 : decode cX7_twoFactors 5 = .ok (.invokestatic 67, 3) := by decide +kernel
theorem dX7_twoFactors_8 : decode cX7_twoFactors 8 = .ok (.iconst 1, 1) := by decide +kernel
theorem dX7_twoFactors_9 : decode cX7_twoFactors 9 = .ok (.invokevirtual 74, 3) := by decide +kernel
theorem dX7_twoFactors_12 : decode cX7_twoFactors 12 = .ok (.ifCond .ne 5, 3) := by decide +kernel
theorem dX7_twoFactors_15 : decode cX7_twoFactors 15 = .ok (.iconst 0, 1) := by decide +kernel
theorem dX7_twoFactors_16 : decode cX7_twoFactors 16 = .ok (.ireturn, 1) := by decide +kernel
theorem dX7_twoFactors_17 : decode cX7_twoFactors 17 = .ok (.iconst 0, 1) := by decide +kernel
theorem dX7_twoFactors_18 : decode cX7_twoFactors 18 = .ok (.istore_n 2, 1) := by decide +kernel
theorem dX7_twoFactors_19 : decode cX7_twoFactors 19 = .ok (.iconst 4, 1) := by decide +kernel
theorem dX7_twoFactors_20 : decode cX7_twoFactors 20 = .ok (.istore_n 3, 1) := by decide +kernel
theorem dX7_twoFactors_21 : decode cX7_twoFactors 21 = .ok (.iload_n 3, 1) := by decide +kernel
theorem dX7_twoFactors_22 : decode cX7_twoFactors 22 = .ok (.iload_n 1, 1) := by decide +kernel
theorem dX7_twoFactors_23 : decode cX7_twoFactors 23 = .ok (.if_icmp .gt 40, 3) := by decide +kernel
theorem dX7_twoFactors_26 : decode cX7_twoFactors 26 = .ok (.iload_n 2, 1) := by decide +kernel
theorem dX7_twoFactors_27 : decode cX7_twoFactors 27 = .ok (.aload_n 0, 1) := by decide +kernel
theorem dX7_twoFactors_28 : decode cX7_twoFactors 28 = .ok (.iload_n 3, 1) := by decide +kernel
theorem dX7_twoFactors_29 : decode cX7_twoFactors 29 = .ok (.invokevirtual 116, 3) := by decide +kernel
theorem dX7_twoFactors_32 : decode cX7_twoFactors 32 = .ok (.ifCond .ne 22, 3) := by decide +kernel
theorem dX7_twoFactors_35 : decode cX7_twoFactors 35 = .ok (.aload_n 0, 1) := by decide +kernel
theorem dX7_twoFactors_36 : decode cX7_twoFactors 36 = .ok (.iload_n 3, 1) := by decide +kernel
theorem dX7_twoFactors_37 : decode cX7_twoFactors 37 = .ok (.aload_n 0, 1) := by decide +kernel
theorem dX7_twoFactors_38 : decode cX7_twoFactors 38 = .ok (.getfield 22, 3) := by decide +kernel
theorem dX7_twoFactors_41 : decode cX7_twoFactors 41 = .ok (.iload_n 3, 1) := by decide +kernel
theorem dX7_twoFactors_42 : decode cX7_twoFactors 42 = .ok (.iaload, 1) := by decide +kernel
theorem dX7_twoFactors_43 : decode cX7_twoFactors 43 = .ok (.idiv, 1) := by decide +kernel
theorem dX7_twoFactors_44 : decode cX7_twoFactors 44 = .ok (.invokevirtual 116, 3) := by decide +kernel
theorem dX7_twoFactors_47 : decode cX7_twoFactors 47 = .ok (.ifCond .eq 7, 3) := by decide +kernel
theorem dX7_twoFactors_50 : decode cX7_twoFactors 50 = .ok (.iconst 1, 1) := by decide +kernel
theorem dX7_twoFactors_51 : decode cX7_twoFactors 51 = .ok (.goto 4, 3) := by decide +kernel
theorem dX7_twoFactors_54 : decode cX7_twoFactors 54 = .ok (.iconst 0, 1) := by decide +kernel
theorem dX7_twoFactors_55 : decode cX7_twoFactors 55 = .ok (.iadd, 1) := by decide +kernel
theorem dX7_twoFactors_56 : decode cX7_twoFactors 56 = .ok (.istore_n 2, 1) := by decide +kernel
theorem dX7_twoFactors_57 : decode cX7_twoFactors 57 = .ok (.iinc 3 1, 3) := by decide +kernel
theorem dX7_twoFactors_60 : decode cX7_twoFactors 60 = .ok (.goto (-39), 3) := by decide +kernel
theorem dX7_twoFactors_63 : decode cX7_twoFactors 63 = .ok (.iload_n 2, 1) := by decide +kernel
theorem dX7_twoFactors_64 : decode cX7_twoFactors 64 = .ok (.ireturn, 1) := by decide +kernel
theorem dX7_isStruck_0 : decode cX7_isStruck 0 = .ok (.iconst 0, 1) := by decide +kernel
theorem dX7_isStruck_1 : decode cX7_isStruck 1 = .ok (.istore_n 2, 1) := by decide +kernel
theorem dX7_isStruck_2 : decode cX7_isStruck 2 = .ok (.iconst 0, 1) := by decide +kernel
theorem dX7_isStruck_3 : decode cX7_isStruck 3 = .ok (.istore_n 3, 1) := by decide +kernel
theorem dX7_isStruck_4 : decode cX7_isStruck 4 = .ok (.iload_n 3, 1) := by decide +kernel
theorem dX7_isStruck_5 : decode cX7_isStruck 5 = .ok (.aload_n 0, 1) := by decide +kernel
theorem dX7_isStruck_6 : decode cX7_isStruck 6 = .ok (.getfield 7, 3) := by decide +kernel
theorem dX7_isStruck_9 : decode cX7_isStruck 9 = .ok (.sipush 715, 3) := by decide +kernel
theorem dX7_isStruck_12 : decode cX7_isStruck 12 = .ok (.iaload, 1) := by decide +kernel
theorem dX7_isStruck_13 : decode cX7_isStruck 13 = .ok (.if_icmp .ge 43, 3) := by decide +kernel
theorem dX7_isStruck_16 : decode cX7_isStruck 16 = .ok (.iload_n 2, 1) := by decide +kernel
theorem dX7_isStruck_17 : decode cX7_isStruck 17 = .ok (.ifCond .ne 27, 3) := by decide +kernel
theorem dX7_isStruck_20 : decode cX7_isStruck 20 = .ok (.aload_n 0, 1) := by decide +kernel
theorem dX7_isStruck_21 : decode cX7_isStruck 21 = .ok (.getfield 25, 3) := by decide +kernel
theorem dX7_isStruck_24 : decode cX7_isStruck 24 = .ok (.iload_n 3, 1) := by decide +kernel
theorem dX7_isStruck_25 : decode cX7_isStruck 25 = .ok (.iaload, 1) := by decide +kernel
theorem dX7_isStruck_26 : decode cX7_isStruck 26 = .ok (.iload_n 1, 1) := by decide +kernel
theorem dX7_isStruck_27 : decode cX7_isStruck 27 = .ok (.if_icmp .ne 21, 3) := by decide +kernel
theorem dX7_isStruck_30 : decode cX7_isStruck 30 = .ok (.aload_n 0, 1) := by decide +kernel
theorem dX7_isStruck_31 : decode cX7_isStruck 31 = .ok (.getfield 7, 3) := by decide +kernel
theorem dX7_isStruck_34 : decode cX7_isStruck 34 = .ok (.sipush 716, 3) := by decide +kernel
theorem dX7_isStruck_37 : decode cX7_isStruck 37 = .ok (.iload_n 3, 1) := by decide +kernel
theorem dX7_isStruck_38 : decode cX7_isStruck 38 = .ok (.iadd, 1) := by decide +kernel
theorem dX7_isStruck_39 : decode cX7_isStruck 39 = .ok (.iaload, 1) := by decide +kernel
theorem dX7_isStruck_40 : decode cX7_isStruck 40 = .ok (.iconst 1, 1) := by decide +kernel
theorem dX7_isStruck_41 : decode cX7_isStruck 41 = .ok (.if_icmp .ne 7, 3) := by decide +kernel
theorem dX7_isStruck_44 : decode cX7_isStruck 44 = .ok (.iconst 1, 1) := by decide +kernel
theorem dX7_isStruck_45 : decode cX7_isStruck 45 = .ok (.goto 4, 3) := by decide +kernel
theorem dX7_isStruck_48 : decode cX7_isStruck 48 = .ok (.iconst 0, 1) := by decide +kernel
theorem dX7_isStruck_49 : decode cX7_isStruck 49 = .ok (.istore_n 2, 1) := by decide +kernel
theorem dX7_isStruck_50 : decode cX7_isStruck 50 = .ok (.iinc 3 1, 3) := by decide +kernel
theorem dX7_isStruck_53 : decode cX7_isStruck 53 = .ok (.goto (-49), 3) := by decide +kernel
theorem dX7_isStruck_56 : decode cX7_isStruck 56 = .ok (.iload_n 2, 1) := by decide +kernel
theorem dX7_isStruck_57 : decode cX7_isStruck 57 = .ok (.ireturn, 1) := by decide +kernel
set_option maxRecDepth 20000 in
theorem ggX7_tries_X7_bounds : GoodIn wsX7_tries wsX7_bounds := goodIn_r _ [7, 2, 48, 49, 50, 51, 52, 53, 54, 55, 56, 57, 58, 59] (by decide +kernel) (by decide +kernel)
set_option maxRecDepth 20000 in
theorem gX7_tries_X7_bounds : GoodIn wsX7_tries (wsV RX7 78 RX7 yX7_bounds wsX7_bounds) := goodIn_app (goodIn_of _ (by decide +kernel)) ggX7_tries_X7_bounds
set_option maxRecDepth 20000 in
theorem ggX7_tries_X7_next : GoodIn wsX7_tries wsX7_next := goodIn_r _ [11, 2, 12, 48, 49, 50, 51, 52, 53, 54, 55, 56, 57, 58, 59] (by decide +kernel) (by decide +kernel)
set_option maxRecDepth 20000 in
theorem gX7_tries_X7_next : GoodIn wsX7_tries (wsV RX7 54 RX7 yX7_next wsX7_next) := goodIn_app (goodIn_of _ (by decide +kernel)) ggX7_tries_X7_next
set_option maxRecDepth 20000 in
theorem ggX7_tries_X7_comes : GoodIn wsX7_tries wsX7_comes := goodIn_r _ [16, 2, 48, 49, 50, 51, 52, 53, 54, 55, 56, 57, 58, 59] (by decide +kernel) (by decide +kernel)
set_option maxRecDepth 20000 in
theorem gX7_tries_X7_comes : GoodIn wsX7_tries (wsV RX7 58 RX7 yX7_comes wsX7_comes) := goodIn_app (goodIn_of _ (by decide +kernel)) ggX7_tries_X7_comes
set_option maxRecDepth 20000 in
theorem ggX7_tries_X7_strikesTo : GoodIn wsX7_tries wsX7_strikesTo := goodIn_r _ [20, 8, 9, 10, 6, 11, 2, 12, 13, 14, 15, 16, 48, 49, 50, 51, 52, 53, 54, 55, 56, 57, 58, 59] (by decide +kernel) (by decide +kernel)
set_option maxRecDepth 20000 in
theorem gX7_tries_X7_strikesTo : GoodIn wsX7_tries (wsV RX7 113 RX7 yX7_strikesTo wsX7_strikesTo) := goodIn_app (goodIn_of _ (by decide +kernel)) ggX7_tries_X7_strikesTo
set_option maxRecDepth 20000 in
theorem ggX7_tries_X7_leftIn : GoodIn wsX7_tries wsX7_leftIn := goodIn_r _ [24, 2, 25, 26, 27, 6, 28, 29, 12, 30, 31, 32, 33, 48, 49, 50, 51, 52, 53, 54, 55, 56, 57, 58, 59] (by decide +kernel) (by decide +kernel)
set_option maxRecDepth 20000 in
theorem gX7_tries_X7_leftIn : GoodIn wsX7_tries (wsV RX7 100 RX7 yX7_leftIn wsX7_leftIn) := goodIn_app (goodIn_of _ (by decide +kernel)) ggX7_tries_X7_leftIn
set_option maxRecDepth 20000 in
theorem ggX7_tries_X7_placeOf : GoodIn wsX7_tries wsX7_placeOf := goodIn_r _ [37, 38, 39, 40, 41, 42, 6, 43, 2, 48, 49, 50, 51, 52, 53, 54, 55, 56, 57, 58, 59] (by decide +kernel) (by decide +kernel)
set_option maxRecDepth 20000 in
theorem gX7_tries_X7_placeOf : GoodIn wsX7_tries (wsV RX7 107 RX7 yX7_placeOf wsX7_placeOf) := goodIn_app (goodIn_of _ (by decide +kernel)) ggX7_tries_X7_placeOf
set_option maxRecDepth 20000 in
theorem ggX7_tries_X7_isStruck : GoodIn wsX7_tries wsX7_isStruck := goodIn_r _ [47, 2, 12, 48, 49, 50, 51, 52, 53, 54, 55, 56, 57, 58, 59] (by decide +kernel) (by decide +kernel)
set_option maxRecDepth 20000 in
theorem gX7_tries_X7_isStruck : GoodIn wsX7_tries (wsV RX7 119 RX7 yX7_isStruck wsX7_isStruck) := goodIn_app (goodIn_of _ (by decide +kernel)) ggX7_tries_X7_isStruck
theorem dX7_tries_0 : decode cX7_tries 0 = .ok (.iload_n 1, 1) := by decide +kernel
theorem dX7_tries_1 : decode cX7_tries 1 = .ok (.ldc 21, 2) := by decide +kernel
theorem dX7_tries_3 : decode cX7_tries 3 = .ok (.irem, 1) := by decide +kernel
theorem dX7_tries_4 : decode cX7_tries 4 = .ok (.istore_n 2, 1) := by decide +kernel
theorem dX7_tries_5 : decode cX7_tries 5 = .ok (.iload_n 2, 1) := by decide +kernel
theorem dX7_tries_6 : decode cX7_tries 6 = .ok (.ifCond .ne 7, 3) := by decide +kernel
theorem dX7_tries_9 : decode cX7_tries 9 = .ok (.iconst 1, 1) := by decide +kernel
theorem dX7_tries_10 : decode cX7_tries 10 = .ok (.goto 4, 3) := by decide +kernel
theorem dX7_tries_13 : decode cX7_tries 13 = .ok (.iconst 0, 1) := by decide +kernel
theorem dX7_tries_14 : decode cX7_tries 14 = .ok (.istore_n 3, 1) := by decide +kernel
theorem dX7_tries_15 : decode cX7_tries 15 = .ok (.iload_n 1, 1) := by decide +kernel
theorem dX7_tries_16 : decode cX7_tries 16 = .ok (.ldc 21, 2) := by decide +kernel
theorem dX7_tries_18 : decode cX7_tries 18 = .ok (.idiv, 1) := by decide +kernel
theorem dX7_tries_19 : decode cX7_tries 19 = .ok (.tableswitch 206 1 9 #[49, 72, 72, 116, 126, 152, 168, 184, 200], 49) := by decide +kernel
theorem dX7_tries_68 : decode cX7_tries 68 = .ok (.iload_n 2, 1) := by decide +kernel
theorem dX7_tries_69 : decode cX7_tries 69 = .ok (.ifCond .le 7, 3) := by decide +kernel
theorem dX7_tries_72 : decode cX7_tries 72 = .ok (.iconst 1, 1) := by decide +kernel
theorem dX7_tries_73 : decode cX7_tries 73 = .ok (.goto 4, 3) := by decide +kernel
theorem dX7_tries_76 : decode cX7_tries 76 = .ok (.iconst 0, 1) := by decide +kernel
theorem dX7_tries_77 : decode cX7_tries 77 = .ok (.istore_n 3, 1) := by decide +kernel
theorem dX7_tries_78 : decode cX7_tries 78 = .ok (.iload_n 3, 1) := by decide +kernel
theorem dX7_tries_79 : decode cX7_tries 79 = .ok (.ifCond .eq 10, 3) := by decide +kernel
theorem dX7_tries_82 : decode cX7_tries 82 = .ok (.aload_n 0, 1) := by decide +kernel
theorem dX7_tries_83 : decode cX7_tries 83 = .ok (.bipush 17, 2) := by decide +kernel
theorem dX7_tries_85 : decode cX7_tries 85 = .ok (.iload_n 2, 1) := by decide +kernel
theorem dX7_tries_86 : decode cX7_tries 86 = .ok (.invokevirtual 78, 3) := by decide +kernel
theorem dX7_tries_89 : decode cX7_tries 89 = .ok (.iload_n 3, 1) := by decide +kernel
theorem dX7_tries_90 : decode cX7_tries 90 = .ok (.ireturn, 1) := by decide +kernel
theorem dX7_tries_91 : decode cX7_tries 91 = .ok (.iload_n 3, 1) := by decide +kernel
theorem dX7_tries_92 : decode cX7_tries 92 = .ok (.ifCond .eq 16, 3) := by decide +kernel
theorem dX7_tries_95 : decode cX7_tries 95 = .ok (.aload_n 0, 1) := by decide +kernel
theorem dX7_tries_96 : decode cX7_tries 96 = .ok (.bipush 17, 2) := by decide +kernel
theorem dX7_tries_98 : decode cX7_tries 98 = .ok (.invokevirtual 54, 3) := by decide +kernel
theorem dX7_tries_101 : decode cX7_tries 101 = .ok (.ifCond .le 7, 3) := by decide +kernel
theorem dX7_tries_104 : decode cX7_tries 104 = .ok (.iconst 1, 1) := by decide +kernel
theorem dX7_tries_105 : decode cX7_tries 105 = .ok (.goto 4, 3) := by decide +kernel
theorem dX7_tries_108 : decode cX7_tries 108 = .ok (.iconst 0, 1) := by decide +kernel
theorem dX7_tries_109 : decode cX7_tries 109 = .ok (.istore_n 3, 1) := by decide +kernel
theorem dX7_tries_110 : decode cX7_tries 110 = .ok (.iload_n 3, 1) := by decide +kernel
theorem dX7_tries_111 : decode cX7_tries 111 = .ok (.ifCond .eq 22, 3) := by decide +kernel
theorem dX7_tries_114 : decode cX7_tries 114 = .ok (.aload_n 0, 1) := by decide +kernel
theorem dX7_tries_115 : decode cX7_tries 115 = .ok (.bipush 17, 2) := by decide +kernel
theorem dX7_tries_117 : decode cX7_tries 117 = .ok (.iload_n 1, 1) := by decide +kernel
theorem dX7_tries_118 : decode cX7_tries 118 = .ok (.ldc 21, 2) := by decide +kernel
theorem dX7_tries_120 : decode cX7_tries 120 = .ok (.idiv, 1) := by decide +kernel
theorem dX7_tries_121 : decode cX7_tries 121 = .ok (.iconst 2, 1) := by decide +kernel
theorem dX7_tries_122 : decode cX7_tries 122 = .ok (.if_icmp .ne 7, 3) := by decide +kernel
theorem dX7_tries_125 : decode cX7_tries 125 = .ok (.iconst 1, 1) := by decide +kernel
theorem dX7_tries_126 : decode cX7_tries 126 = .ok (.goto 4, 3) := by decide +kernel
theorem dX7_tries_129 : decode cX7_tries 129 = .ok (.iconst 0, 1) := by decide +kernel
theorem dX7_tries_130 : decode cX7_tries 130 = .ok (.invokevirtual 58, 3) := by decide +kernel
theorem dX7_tries_133 : decode cX7_tries 133 = .ok (.iload_n 3, 1) := by decide +kernel
theorem dX7_tries_134 : decode cX7_tries 134 = .ok (.ireturn, 1) := by decide +kernel
theorem dX7_tries_135 : decode cX7_tries 135 = .ok (.aload_n 0, 1) := by decide +kernel
theorem dX7_tries_136 : decode cX7_tries 136 = .ok (.bipush 17, 2) := by decide +kernel
theorem dX7_tries_138 : decode cX7_tries 138 = .ok (.iload_n 2, 1) := by decide +kernel
theorem dX7_tries_139 : decode cX7_tries 139 = .ok (.invokevirtual 113, 3) := by decide +kernel
theorem dX7_tries_142 : decode cX7_tries 142 = .ok (.pop, 1) := by decide +kernel
theorem dX7_tries_143 : decode cX7_tries 143 = .ok (.iconst 1, 1) := by decide +kernel
theorem dX7_tries_144 : decode cX7_tries 144 = .ok (.ireturn, 1) := by decide +kernel
theorem dX7_tries_145 : decode cX7_tries 145 = .ok (.aload_n 0, 1) := by decide +kernel
theorem dX7_tries_146 : decode cX7_tries 146 = .ok (.getfield 7, 3) := by decide +kernel
theorem dX7_tries_149 : decode cX7_tries 149 = .ok (.sipush 715, 3) := by decide +kernel
theorem dX7_tries_152 : decode cX7_tries 152 = .ok (.iload_n 3, 1) := by decide +kernel
theorem dX7_tries_153 : decode cX7_tries 153 = .ok (.ifCond .eq 7, 3) := by decide +kernel
theorem dX7_tries_156 : decode cX7_tries 156 = .ok (.iconst 0, 1) := by decide +kernel
theorem dX7_tries_157 : decode cX7_tries 157 = .ok (.goto 11, 3) := by decide +kernel
theorem dX7_tries_160 : decode cX7_tries 160 = .ok (.aload_n 0, 1) := by decide +kernel
theorem dX7_tries_161 : decode cX7_tries 161 = .ok (.getfield 7, 3) := by decide +kernel
theorem dX7_tries_164 : decode cX7_tries 164 = .ok (.sipush 715, 3) := by decide +kernel
theorem dX7_tries_167 : decode cX7_tries 167 = .ok (.iaload, 1) := by decide +kernel
theorem dX7_tries_168 : decode cX7_tries 168 = .ok (.iastore, 1) := by decide +kernel
theorem dX7_tries_169 : decode cX7_tries 169 = .ok (.iload_n 3, 1) := by decide +kernel
theorem dX7_tries_170 : decode cX7_tries 170 = .ok (.ireturn, 1) := by decide +kernel
theorem dX7_tries_171 : decode cX7_tries 171 = .ok (.aload_n 0, 1) := by decide +kernel
theorem dX7_tries_172 : decode cX7_tries 172 = .ok (.bipush 17, 2) := by decide +kernel
theorem dX7_tries_174 : decode cX7_tries 174 = .ok (.invokevirtual 100, 3) := by decide +kernel
theorem dX7_tries_177 : decode cX7_tries 177 = .ok (.iload_n 2, 1) := by decide +kernel
theorem dX7_tries_178 : decode cX7_tries 178 = .ok (.if_icmp .lt 7, 3) := by decide +kernel
theorem dX7_tries_181 : decode cX7_tries 181 = .ok (.iconst 1, 1) := by decide +kernel
theorem dX7_tries_182 : decode cX7_tries 182 = .ok (.goto 4, 3) := by decide +kernel
theorem dX7_tries_185 : decode cX7_tries 185 = .ok (.iconst 0, 1) := by decide +kernel
theorem dX7_tries_186 : decode cX7_tries 186 = .ok (.ireturn, 1) := by decide +kernel
theorem dX7_tries_187 : decode cX7_tries 187 = .ok (.aload_n 0, 1) := by decide +kernel
theorem dX7_tries_188 : decode cX7_tries 188 = .ok (.bipush 17, 2) := by decide +kernel
theorem dX7_tries_190 : decode cX7_tries 190 = .ok (.invokevirtual 100, 3) := by decide +kernel
theorem dX7_tries_193 : decode cX7_tries 193 = .ok (.iload_n 2, 1) := by decide +kernel
theorem dX7_tries_194 : decode cX7_tries 194 = .ok (.if_icmp .gt 7, 3) := by decide +kernel
theorem dX7_tries_197 : decode cX7_tries 197 = .ok (.iconst 1, 1) := by decide +kernel
theorem dX7_tries_198 : decode cX7_tries 198 = .ok (.goto 4, 3) := by decide +kernel
theorem dX7_tries_201 : decode cX7_tries 201 = .ok (.iconst 0, 1) := by decide +kernel
theorem dX7_tries_202 : decode cX7_tries 202 = .ok (.ireturn, 1) := by decide +kernel
theorem dX7_tries_203 : decode cX7_tries 203 = .ok (.aload_n 0, 1) := by decide +kernel
theorem dX7_tries_204 : decode cX7_tries 204 = .ok (.bipush 17, 2) := by decide +kernel
theorem dX7_tries_206 : decode cX7_tries 206 = .ok (.iload_n 2, 1) := by decide +kernel
theorem dX7_tries_207 : decode cX7_tries 207 = .ok (.invokevirtual 107, 3) := by decide +kernel
theorem dX7_tries_210 : decode cX7_tries 210 = .ok (.ifCond .lt 7, 3) := by decide +kernel
theorem dX7_tries_213 : decode cX7_tries 213 = .ok (.iconst 1, 1) := by decide +kernel
theorem dX7_tries_214 : decode cX7_tries 214 = .ok (.goto 4, 3) := by decide +kernel
theorem dX7_tries_217 : decode cX7_tries 217 = .ok (.iconst 0, 1) := by decide +kernel
theorem dX7_tries_218 : decode cX7_tries 218 = .ok (.ireturn, 1) := by decide +kernel
theorem dX7_tries_219 : decode cX7_tries 219 = .ok (.aload_n 0, 1) := by decide +kernel
theorem dX7_tries_220 : decode cX7_tries 220 = .ok (.iload_n 2, 1) := by decide +kernel
theorem dX7_tries_221 : decode cX7_tries 221 = .ok (.invokevirtual 119, 3) := by decide +kernel
theorem dX7_tries_224 : decode cX7_tries 224 = .ok (.ireturn, 1) := by decide +kernel
theorem dX7_tries_225 : decode cX7_tries 225 = .ok (.iconst 0, 1) := by decide +kernel
theorem dX7_tries_226 : decode cX7_tries 226 = .ok (.ireturn, 1) := by decide +kernel
set_option maxRecDepth 20000 in
theorem ggX7_runScript_X7_in : GoodIn wsX7_runScript wsX7_in := goodIn_r _ [7] (by decide +kernel) (by decide +kernel)
set_option maxRecDepth 20000 in
theorem gX7_runScript_X7_in : GoodIn wsX7_runScript (va_wsS RX7 67 yX7_in wsX7_in) := goodIn_app (goodIn_of _ (by decide +kernel)) ggX7_runScript_X7_in
set_option maxRecDepth 20000 in
theorem ggX7_runScript_X7_goes : GoodIn wsX7_runScript wsX7_goes := goodIn_r _ [11, 12, 67, 68, 69, 70, 71, 72, 73, 74, 75, 76, 77, 78] (by decide +kernel) (by decide +kernel)
set_option maxRecDepth 20000 in
theorem gX7_runScript_X7_goes : GoodIn wsX7_runScript (wsV RX7 74 RX7 yX7_goes wsX7_goes) := goodIn_app (goodIn_of _ (by decide +kernel)) ggX7_runScript_X7_goes
set_option maxRecDepth 20000 in
theorem ggX7_runScript_X7_copies : GoodIn wsX7_runScript wsX7_copies := goodIn_r _ [16, 17, 67, 68, 69, 70, 71, 72, 73, 74, 75, 76, 77, 78] (by decide +kernel) (by decide +kernel)
set_option maxRecDepth 20000 in
theorem gX7_runScript_X7_copies : GoodIn wsX7_runScript (wsV RX7 42 RX7 yX7_copies wsX7_copies) := goodIn_app (goodIn_of _ (by decide +kernel)) ggX7_runScript_X7_copies
set_option maxRecDepth 20000 in
theorem ggX7_runScript_X7_tries : GoodIn wsX7_runScript wsX7_tries := goodIn_r _ [21, 22, 17, 23, 24, 25, 6, 26, 27, 28, 29, 30, 31, 32, 33, 34, 35, 36, 37, 38, 39, 40, 41, 42, 43, 44, 45, 46, 47, 48, 49, 50, 51, 52, 53, 54, 55, 56, 57, 58, 59, 60, 61, 62, 63, 64, 65, 66, 67, 68, 69, 70, 71, 72, 73, 74, 75, 76, 77, 78] (by decide +kernel) (by decide +kernel)
set_option maxRecDepth 20000 in
theorem gX7_runScript_X7_tries : GoodIn wsX7_runScript (wsV RX7 128 RX7 yX7_tries wsX7_tries) := goodIn_app (goodIn_of _ (by decide +kernel)) ggX7_runScript_X7_tries
theorem dX7_runScript_0 : decode cX7_runScript 0 = .ok (.iload_n 1, 1) := by decide +kernel
theorem dX7_runScript_1 : decode cX7_runScript 1 = .ok (.iconst 1, 1) := by decide +kernel
theorem dX7_runScript_2 : decode cX7_runScript 2 = .ok (.if_icmp .ne 9, 3) := by decide +kernel
theorem dX7_runScript_5 : decode cX7_runScript 5 = .ok (.ldc2_w 122, 3) := by decide +kernel
theorem dX7_runScript_8 : decode cX7_runScript 8 = .ok (.goto 17, 3) := by decide +kernel
theorem dX7_runScript_11 : decode cX7_runScript 11 = .ok (.iload_n 1, 1) := by decide +kernel
theorem dX7_runScript_12 : decode cX7_runScript 12 = .ok (.iconst 2, 1) := by decide +kernel
theorem dX7_runScript_13 : decode cX7_runScript 13 = .ok (.if_icmp .ne 9, 3) := by decide +kernel
theorem dX7_runScript_16 : decode cX7_runScript 16 = .ok (.ldc2_w 124, 3) := by decide +kernel
theorem dX7_runScript_19 : decode cX7_runScript 19 = .ok (.goto 6, 3) := by decide +kernel
theorem dX7_runScript_22 : decode cX7_runScript 22 = .ok (.ldc2_w 126, 3) := by decide +kernel
theorem dX7_runScript_25 : decode cX7_runScript 25 = .ok (.lstore 4, 2) := by decide +kernel
theorem dX7_runScript_27 : decode cX7_runScript 27 = .ok (.aload_n 0, 1) := by decide +kernel
theorem dX7_runScript_28 : decode cX7_runScript 28 = .ok (.iload_n 1, 1) := by decide +kernel
theorem dX7_runScript_29 : decode cX7_runScript 29 = .ok (.iconst 1, 1) := by decide +kernel
theorem dX7_runScript_30 : decode cX7_runScript 30 = .ok (.iconst 3, 1) := by decide +kernel
theorem dX7_runScript_31 : decode cX7_runScript 31 = .ok (.invokestatic 67, 3) := by decide +kernel
theorem dX7_runScript_34 : decode cX7_runScript 34 = .ok (.ifCond .eq 20, 3) := by decide +kernel
theorem dX7_runScript_37 : decode cX7_runScript 37 = .ok (.lload_n 2, 1) := by decide +kernel
theorem dX7_runScript_38 : decode cX7_runScript 38 = .ok (.lconst 0, 1) := by decide +kernel
theorem dX7_runScript_39 : decode cX7_runScript 39 = .ok (.lcmp, 1) := by decide +kernel
theorem dX7_runScript_40 : decode cX7_runScript 40 = .ok (.ifCond .lt 14, 3) := by decide +kernel
theorem dX7_runScript_43 : decode cX7_runScript 43 = .ok (.lload_n 2, 1) := by decide +kernel
theorem dX7_runScript_44 : decode cX7_runScript 44 = .ok (.lload 4, 2) := by decide +kernel
theorem dX7_runScript_46 : decode cX7_runScript 46 = .ok (.lcmp, 1) := by decide +kernel
theorem dX7_runScript_47 : decode cX7_runScript 47 = .ok (.ifCond .ge 7, 3) := by decide +kernel
theorem dX7_runScript_50 : decode cX7_runScript 50 = .ok (.iconst 1, 1) := by decide +kernel
theorem dX7_runScript_51 : decode cX7_runScript 51 = .ok (.goto 4, 3) := by decide +kernel
theorem dX7_runScript_54 : decode cX7_runScript 54 = .ok (.iconst 0, 1) := by decide +kernel
theorem dX7_runScript_55 : decode cX7_runScript 55 = .ok (.iconst 1, 1) := by decide +kernel
theorem dX7_runScript_56 : decode cX7_runScript 56 = .ok (.invokevirtual 74, 3) := by decide +kernel
theorem dX7_runScript_59 : decode cX7_runScript 59 = .ok (.ifCond .ne 5, 3) := by decide +kernel
theorem dX7_runScript_62 : decode cX7_runScript 62 = .ok (.iconst 0, 1) := by decide +kernel
theorem dX7_runScript_63 : decode cX7_runScript 63 = .ok (.ireturn, 1) := by decide +kernel
theorem dX7_runScript_64 : decode cX7_runScript 64 = .ok (.aload_n 0, 1) := by decide +kernel
theorem dX7_runScript_65 : decode cX7_runScript 65 = .ok (.iconst 0, 1) := by decide +kernel
theorem dX7_runScript_66 : decode cX7_runScript 66 = .ok (.bipush 17, 2) := by decide +kernel
theorem dX7_runScript_68 : decode cX7_runScript 68 = .ok (.invokevirtual 42, 3) := by decide +kernel
theorem dX7_runScript_71 : decode cX7_runScript 71 = .ok (.iconst 0, 1) := by decide +kernel
theorem dX7_runScript_72 : decode cX7_runScript 72 = .ok (.istore 6, 2) := by decide +kernel
theorem dX7_runScript_74 : decode cX7_runScript 74 = .ok (.iload 6, 2) := by decide +kernel
theorem dX7_runScript_76 : decode cX7_runScript 76 = .ok (.iload_n 1, 1) := by decide +kernel
theorem dX7_runScript_77 : decode cX7_runScript 77 = .ok (.if_icmp .ge 55, 3) := by decide +kernel
theorem dX7_runScript_80 : decode cX7_runScript 80 = .ok (.lload_n 2, 1) := by decide +kernel
theorem dX7_runScript_81 : decode cX7_runScript 81 = .ok (.lstore 7, 2) := by decide +kernel
theorem dX7_runScript_83 : decode cX7_runScript 83 = .ok (.iload 6, 2) := by decide +kernel
theorem dX7_runScript_85 : decode cX7_runScript 85 = .ok (.iconst 1, 1) := by decide +kernel
theorem dX7_runScript_86 : decode cX7_runScript 86 = .ok (.iadd, 1) := by decide +kernel
theorem dX7_runScript_87 : decode cX7_runScript 87 = .ok (.istore 9, 2) := by decide +kernel
theorem dX7_runScript_89 : decode cX7_runScript 89 = .ok (.iload 9, 2) := by decide +kernel
theorem dX7_runScript_91 : decode cX7_runScript 91 = .ok (.iload_n 1, 1) := by decide +kernel
theorem dX7_runScript_92 : decode cX7_runScript 92 = .ok (.if_icmp .ge 17, 3) := by decide +kernel
theorem dX7_runScript_95 : decode cX7_runScript 95 = .ok (.lload 7, 2) := by decide +kernel
theorem dX7_runScript_97 : decode cX7_runScript 97 = .ok (.ldc2_w 122, 3) := by decide +kernel
theorem dX7_runScript_100 : decode cX7_runScript 100 = .ok (.ldiv, 1) := by decide +kernel
theorem dX7_runScript_101 : decode cX7_runScript 101 = .ok (.lstore 7, 2) := by decide +kernel
theorem dX7_runScript_103 : decode cX7_runScript 103 = .ok (.iinc 9 1, 3) := by decide +kernel
theorem dX7_runScript_106 : decode cX7_runScript 106 = .ok (.goto (-17), 3) := by decide +kernel
theorem dX7_runScript_109 : decode cX7_runScript 109 = .ok (.aload_n 0, 1) := by decide +kernel
theorem dX7_runScript_110 : decode cX7_runScript 110 = .ok (.lload 7, 2) := by decide +kernel
theorem dX7_runScript_112 : decode cX7_runScript 112 = .ok (.ldc2_w 122, 3) := by decide +kernel
theorem dX7_runScript_115 : decode cX7_runScript 115 = .ok (.lrem, 1) := by decide +kernel
theorem dX7_runScript_116 : decode cX7_runScript 116 = .ok (.l2i, 1) := by decide +kernel
theorem dX7_runScript_117 : decode cX7_runScript 117 = .ok (.invokevirtual 128, 3) := by decide +kernel
theorem dX7_runScript_120 : decode cX7_runScript 120 = .ok (.ifCond .ne 6, 3) := by decide +kernel
theorem dX7_runScript_123 : decode cX7_runScript 123 = .ok (.iload 6, 2) := by decide +kernel
theorem dX7_runScript_125 : decode cX7_runScript 125 = .ok (.ireturn, 1) := by decide +kernel
theorem dX7_runScript_126 : decode cX7_runScript 126 = .ok (.iinc 6 1, 3) := by decide +kernel
theorem dX7_runScript_129 : decode cX7_runScript 129 = .ok (.goto (-55), 3) := by decide +kernel
theorem dX7_runScript_132 : decode cX7_runScript 132 = .ok (.iconst (-1), 1) := by decide +kernel
theorem dX7_runScript_133 : decode cX7_runScript 133 = .ok (.ireturn, 1) := by decide +kernel
set_option maxRecDepth 20000 in
theorem ggX7_simulate_X7_in : GoodIn wsX7_simulate wsX7_in := goodIn_r _ [7] (by decide +kernel) (by decide +kernel)
set_option maxRecDepth 20000 in
theorem gX7_simulate_X7_in : GoodIn wsX7_simulate (va_wsS RX7 67 yX7_in wsX7_in) := goodIn_app (goodIn_of _ (by decide +kernel)) ggX7_simulate_X7_in
set_option maxRecDepth 20000 in
theorem ggX7_simulate_X7_goes : GoodIn wsX7_simulate wsX7_goes := goodIn_r _ [11, 12, 43, 44, 45, 46, 47, 48, 49, 50, 51, 52, 53, 54] (by decide +kernel) (by decide +kernel)
set_option maxRecDepth 20000 in
theorem gX7_simulate_X7_goes : GoodIn wsX7_simulate (wsV RX7 74 RX7 yX7_goes wsX7_goes) := goodIn_app (goodIn_of _ (by decide +kernel)) ggX7_simulate_X7_goes
set_option maxRecDepth 20000 in
theorem ggX7_simulate_X7_copies : GoodIn wsX7_simulate wsX7_copies := goodIn_r _ [16, 3, 43, 44, 45, 46, 47, 48, 49, 50, 51, 52, 53, 54] (by decide +kernel) (by decide +kernel)
set_option maxRecDepth 20000 in
theorem gX7_simulate_X7_copies : GoodIn wsX7_simulate (wsV RX7 42 RX7 yX7_copies wsX7_copies) := goodIn_app (goodIn_of _ (by decide +kernel)) ggX7_simulate_X7_copies
set_option maxRecDepth 20000 in
theorem ggX7_simulate_X7_bounds : GoodIn wsX7_simulate wsX7_bounds := goodIn_r _ [20, 3, 43, 44, 45, 46, 47, 48, 49, 50, 51, 52, 53, 54] (by decide +kernel) (by decide +kernel)
set_option maxRecDepth 20000 in
theorem gX7_simulate_X7_bounds : GoodIn wsX7_simulate (wsV RX7 78 RX7 yX7_bounds wsX7_bounds) := goodIn_app (goodIn_of _ (by decide +kernel)) ggX7_simulate_X7_bounds
set_option maxRecDepth 20000 in
theorem ggX7_simulate_X7_next : GoodIn wsX7_simulate wsX7_next := goodIn_r _ [24, 3, 25, 43, 44, 45, 46, 47, 48, 49, 50, 51, 52, 53, 54] (by decide +kernel) (by decide +kernel)
set_option maxRecDepth 20000 in
theorem gX7_simulate_X7_next : GoodIn wsX7_simulate (wsV RX7 54 RX7 yX7_next wsX7_next) := goodIn_app (goodIn_of _ (by decide +kernel)) ggX7_simulate_X7_next
set_option maxRecDepth 20000 in
theorem ggX7_simulate_X7_comes : GoodIn wsX7_simulate wsX7_comes := goodIn_r _ [29, 3, 43, 44, 45, 46, 47, 48, 49, 50, 51, 52, 53, 54] (by decide +kernel) (by decide +kernel)
set_option maxRecDepth 20000 in
theorem gX7_simulate_X7_comes : GoodIn wsX7_simulate (wsV RX7 58 RX7 yX7_comes wsX7_comes) := goodIn_app (goodIn_of _ (by decide +kernel)) ggX7_simulate_X7_comes
set_option maxRecDepth 20000 in
theorem ggX7_simulate_X7_leftIn : GoodIn wsX7_simulate wsX7_leftIn := goodIn_r _ [33, 3, 34, 35, 36, 6, 37, 38, 25, 39, 40, 41, 42, 43, 44, 45, 46, 47, 48, 49, 50, 51, 52, 53, 54] (by decide +kernel) (by decide +kernel)
set_option maxRecDepth 20000 in
theorem gX7_simulate_X7_leftIn : GoodIn wsX7_simulate (wsV RX7 100 RX7 yX7_leftIn wsX7_leftIn) := goodIn_app (goodIn_of _ (by decide +kernel)) ggX7_simulate_X7_leftIn
theorem dX7_simulate_0 : decode cX7_simulate 0 = .ok (.aload_n 0, 1) := by decide +kernel
theorem dX7_simulate_1 : decode cX7_simulate 1 = .ok (.iload_n 3, 1) := by decide +kernel
theorem dX7_simulate_2 : decode cX7_simulate 2 = .ok (.iconst 1, 1) := by decide +kernel
theorem dX7_simulate_3 : decode cX7_simulate 3 = .ok (.bipush 60, 2) := by decide +kernel
theorem dX7_simulate_5 : decode cX7_simulate 5 = .ok (.invokestatic 67, 3) := by decide +kernel
theorem dX7_simulate_8 : decode cX7_simulate 8 = .ok (.iconst 1, 1) := by decide +kernel
theorem dX7_simulate_9 : decode cX7_simulate 9 = .ok (.invokevirtual 74, 3) := by decide +kernel
theorem dX7_simulate_12 : decode cX7_simulate 12 = .ok (.ifCond .ne 5, 3) := by decide +kernel
theorem dX7_simulate_15 : decode cX7_simulate 15 = .ok (.iconst 0, 1) := by decide +kernel
theorem dX7_simulate_16 : decode cX7_simulate 16 = .ok (.ireturn, 1) := by decide +kernel
theorem dX7_simulate_17 : decode cX7_simulate 17 = .ok (.aload_n 0, 1) := by decide +kernel
theorem dX7_simulate_18 : decode cX7_simulate 18 = .ok (.iconst 0, 1) := by decide +kernel
theorem dX7_simulate_19 : decode cX7_simulate 19 = .ok (.bipush 17, 2) := by decide +kernel
theorem dX7_simulate_21 : decode cX7_simulate 21 = .ok (.invokevirtual 42, 3) := by decide +kernel
theorem dX7_simulate_24 : decode cX7_simulate 24 = .ok (.lload_n 1, 1) := by decide +kernel
theorem dX7_simulate_25 : decode cX7_simulate 25 = .ok (.lstore 4, 2) := by decide +kernel
theorem dX7_simulate_27 : decode cX7_simulate 27 = .ok (.iconst 0, 1) := by decide +kernel
theorem dX7_simulate_28 : decode cX7_simulate 28 = .ok (.istore 6, 2) := by decide +kernel
theorem dX7_simulate_30 : decode cX7_simulate 30 = .ok (.iload 6, 2) := by decide +kernel
theorem dX7_simulate_32 : decode cX7_simulate 32 = .ok (.iload_n 3, 1) := by decide +kernel
theorem dX7_simulate_33 : decode cX7_simulate 33 = .ok (.if_icmp .ge 107, 3) := by decide +kernel
theorem dX7_simulate_36 : decode cX7_simulate 36 = .ok (.lload 4, 2) := by decide +kernel
theorem dX7_simulate_38 : decode cX7_simulate 38 = .ok (.ldc2_w 131, 3) := by decide +kernel
theorem dX7_simulate_41 : decode cX7_simulate 41 = .ok (.lmul, 1) := by decide +kernel
theorem dX7_simulate_42 : decode cX7_simulate 42 = .ok (.ldc2_w 133, 3) := by decide +kernel
theorem dX7_simulate_45 : decode cX7_simulate 45 = .ok (.ladd, 1) := by decide +kernel
theorem dX7_simulate_46 : decode cX7_simulate 46 = .ok (.lstore 4, 2) := by decide +kernel
theorem dX7_simulate_48 : decode cX7_simulate 48 = .ok (.lload 4, 2) := by decide +kernel
theorem dX7_simulate_50 : decode cX7_simulate 50 = .ok (.bipush 33, 2) := by decide +kernel
theorem dX7_simulate_52 : decode cX7_simulate 52 = .ok (.lushr, 1) := by decide +kernel
theorem dX7_simulate_53 : decode cX7_simulate 53 = .ok (.l2i, 1) := by decide +kernel
theorem dX7_simulate_54 : decode cX7_simulate 54 = .ok (.istore 7, 2) := by decide +kernel
theorem dX7_simulate_56 : decode cX7_simulate 56 = .ok (.iload 7, 2) := by decide +kernel
theorem dX7_simulate_58 : decode cX7_simulate 58 = .ok (.bipush 8, 2) := by decide +kernel
theorem dX7_simulate_60 : decode cX7_simulate 60 = .ok (.irem, 1) := by decide +kernel
theorem dX7_simulate_61 : decode cX7_simulate 61 = .ok (.ifCond .ne 23, 3) := by decide +kernel
theorem dX7_simulate_64 : decode cX7_simulate 64 = .ok (.aload_n 0, 1) := by decide +kernel
theorem dX7_simulate_65 : decode cX7_simulate 65 = .ok (.bipush 17, 2) := by decide +kernel
theorem dX7_simulate_67 : decode cX7_simulate 67 = .ok (.iconst 1, 1) := by decide +kernel
theorem dX7_simulate_68 : decode cX7_simulate 68 = .ok (.iload 7, 2) := by decide +kernel
theorem dX7_simulate_70 : decode cX7_simulate 70 = .ok (.bipush 8, 2) := by decide +kernel
theorem dX7_simulate_72 : decode cX7_simulate 72 = .ok (.idiv, 1) := by decide +kernel
theorem dX7_simulate_73 : decode cX7_simulate 73 = .ok (.sipush 3000, 3) := by decide +kernel
theorem dX7_simulate_76 : decode cX7_simulate 76 = .ok (.irem, 1) := by decide +kernel
theorem dX7_simulate_77 : decode cX7_simulate 77 = .ok (.iadd, 1) := by decide +kernel
theorem dX7_simulate_78 : decode cX7_simulate 78 = .ok (.invokevirtual 78, 3) := by decide +kernel
theorem dX7_simulate_81 : decode cX7_simulate 81 = .ok (.goto 53, 3) := by decide +kernel
theorem dX7_simulate_84 : decode cX7_simulate 84 = .ok (.iload 7, 2) := by decide +kernel
theorem dX7_simulate_86 : decode cX7_simulate 86 = .ok (.bipush 8, 2) := by decide +kernel
theorem dX7_simulate_88 : decode cX7_simulate 88 = .ok (.irem, 1) := by decide +kernel
theorem dX7_simulate_89 : decode cX7_simulate 89 = .ok (.iconst 1, 1) := by decide +kernel
theorem dX7_simulate_90 : decode cX7_simulate 90 = .ok (.if_icmp .ne 15, 3) := by decide +kernel
theorem dX7_simulate_93 : decode cX7_simulate 93 = .ok (.aload_n 0, 1) := by decide +kernel
theorem dX7_simulate_94 : decode cX7_simulate 94 = .ok (.getfield 7, 3) := by decide +kernel
theorem dX7_simulate_97 : decode cX7_simulate 97 = .ok (.sipush 715, 3) := by decide +kernel
theorem dX7_simulate_100 : decode cX7_simulate 100 = .ok (.iconst 0, 1) := by decide +kernel
theorem dX7_simulate_101 : decode cX7_simulate 101 = .ok (.iastore, 1) := by decide +kernel
theorem dX7_simulate_102 : decode cX7_simulate 102 = .ok (.goto 32, 3) := by decide +kernel
theorem dX7_simulate_105 : decode cX7_simulate 105 = .ok (.aload_n 0, 1) := by decide +kernel
theorem dX7_simulate_106 : decode cX7_simulate 106 = .ok (.bipush 17, 2) := by decide +kernel
theorem dX7_simulate_108 : decode cX7_simulate 108 = .ok (.invokevirtual 54, 3) := by decide +kernel
theorem dX7_simulate_111 : decode cX7_simulate 111 = .ok (.ifCond .le 23, 3) := by decide +kernel
theorem dX7_simulate_114 : decode cX7_simulate 114 = .ok (.aload_n 0, 1) := by decide +kernel
theorem dX7_simulate_115 : decode cX7_simulate 115 = .ok (.bipush 17, 2) := by decide +kernel
theorem dX7_simulate_117 : decode cX7_simulate 117 = .ok (.iload 7, 2) := by decide +kernel
theorem dX7_simulate_119 : decode cX7_simulate 119 = .ok (.bipush 8, 2) := by decide +kernel
theorem dX7_simulate_121 : decode cX7_simulate 121 = .ok (.irem, 1) := by decide +kernel
theorem dX7_simulate_122 : decode cX7_simulate 122 = .ok (.iconst 4, 1) := by decide +kernel
theorem dX7_simulate_123 : decode cX7_simulate 123 = .ok (.if_icmp .ge 7, 3) := by decide +kernel
theorem dX7_simulate_126 : decode cX7_simulate 126 = .ok (.iconst 0, 1) := by decide +kernel
theorem dX7_simulate_127 : decode cX7_simulate 127 = .ok (.goto 4, 3) := by decide +kernel
theorem dX7_simulate_130 : decode cX7_simulate 130 = .ok (.iconst 1, 1) := by decide +kernel
theorem dX7_simulate_131 : decode cX7_simulate 131 = .ok (.invokevirtual 58, 3) := by decide +kernel
theorem dX7_simulate_134 : decode cX7_simulate 134 = .ok (.iinc 6 1, 3) := by decide +kernel
theorem dX7_simulate_137 : decode cX7_simulate 137 = .ok (.goto (-107), 3) := by decide +kernel
theorem dX7_simulate_140 : decode cX7_simulate 140 = .ok (.aload_n 0, 1) := by decide +kernel
theorem dX7_simulate_141 : decode cX7_simulate 141 = .ok (.bipush 17, 2) := by decide +kernel
theorem dX7_simulate_143 : decode cX7_simulate 143 = .ok (.invokevirtual 100, 3) := by decide +kernel
theorem dX7_simulate_146 : decode cX7_simulate 146 = .ok (.ireturn, 1) := by decide +kernel
set_option maxRecDepth 20000 in
theorem ggX7_save_X7_in : GoodIn wsX7_save wsX7_in := goodIn_r _ [6] (by decide +kernel) (by decide +kernel)
set_option maxRecDepth 20000 in
theorem gX7_save_X7_in : GoodIn wsX7_save (va_wsS RX7 67 yX7_in wsX7_in) := goodIn_app (goodIn_of _ (by decide +kernel)) ggX7_save_X7_in
set_option maxRecDepth 20000 in
theorem ggX7_save_X7_goes : GoodIn wsX7_save wsX7_goes := goodIn_r _ [10, 11, 16, 17, 18, 19, 20, 21, 22, 23, 24, 25, 26, 27] (by decide +kernel) (by decide +kernel)
set_option maxRecDepth 20000 in
theorem gX7_save_X7_goes : GoodIn wsX7_save (wsV RX7 74 RX7 yX7_goes wsX7_goes) := goodIn_app (goodIn_of _ (by decide +kernel)) ggX7_save_X7_goes
set_option maxRecDepth 20000 in
theorem ggX7_save_X7_copies : GoodIn wsX7_save wsX7_copies := goodIn_r _ [15, 2, 16, 17, 18, 19, 20, 21, 22, 23, 24, 25, 26, 27] (by decide +kernel) (by decide +kernel)
set_option maxRecDepth 20000 in
theorem gX7_save_X7_copies : GoodIn wsX7_save (wsV RX7 42 RX7 yX7_copies wsX7_copies) := goodIn_app (goodIn_of _ (by decide +kernel)) ggX7_save_X7_copies
theorem dX7_save_0 : decode cX7_save 0 = .ok (.aload_n 0, 1) := by decide +kernel
theorem dX7_save_1 : decode cX7_save 1 = .ok (.iload_n 1, 1) := by decide +kernel
theorem dX7_save_2 : decode cX7_save 2 = .ok (.iconst 0, 1) := by decide +kernel
theorem dX7_save_3 : decode cX7_save 3 = .ok (.iconst 1, 1) := by decide +kernel
theorem dX7_save_4 : decode cX7_save 4 = .ok (.invokestatic 67, 3) := by decide +kernel
theorem dX7_save_7 : decode cX7_save 7 = .ok (.iconst 1, 1) := by decide +kernel
theorem dX7_save_8 : decode cX7_save 8 = .ok (.invokevirtual 74, 3) := by decide +kernel
theorem dX7_save_11 : decode cX7_save 11 = .ok (.ifCond .ne 5, 3) := by decide +kernel
theorem dX7_save_14 : decode cX7_save 14 = .ok (.iconst 0, 1) := by decide +kernel
theorem dX7_save_15 : decode cX7_save 15 = .ok (.ireturn, 1) := by decide +kernel
theorem dX7_save_16 : decode cX7_save 16 = .ok (.aload_n 0, 1) := by decide +kernel
theorem dX7_save_17 : decode cX7_save 17 = .ok (.iconst 0, 1) := by decide +kernel
theorem dX7_save_18 : decode cX7_save 18 = .ok (.bipush 15, 2) := by decide +kernel
theorem dX7_save_20 : decode cX7_save 20 = .ok (.iload_n 1, 1) := by decide +kernel
theorem dX7_save_21 : decode cX7_save 21 = .ok (.iadd, 1) := by decide +kernel
theorem dX7_save_22 : decode cX7_save 22 = .ok (.invokevirtual 42, 3) := by decide +kernel
theorem dX7_save_25 : decode cX7_save 25 = .ok (.aload_n 0, 1) := by decide +kernel
theorem dX7_save_26 : decode cX7_save 26 = .ok (.getfield 13, 3) := by decide +kernel
theorem dX7_save_29 : decode cX7_save 29 = .ok (.iload_n 1, 1) := by decide +kernel
theorem dX7_save_30 : decode cX7_save 30 = .ok (.iconst 1, 1) := by decide +kernel
theorem dX7_save_31 : decode cX7_save 31 = .ok (.bastore, 1) := by decide +kernel
theorem dX7_save_32 : decode cX7_save 32 = .ok (.aload_n 0, 1) := by decide +kernel
theorem dX7_save_33 : decode cX7_save 33 = .ok (.getfield 7, 3) := by decide +kernel
theorem dX7_save_36 : decode cX7_save 36 = .ok (.iconst 0, 1) := by decide +kernel
theorem dX7_save_37 : decode cX7_save 37 = .ok (.iaload, 1) := by decide +kernel
theorem dX7_save_38 : decode cX7_save 38 = .ok (.ireturn, 1) := by decide +kernel
set_option maxRecDepth 20000 in
theorem ggX7_restore_X7_in : GoodIn wsX7_restore wsX7_in := goodIn_r _ [7] (by decide +kernel) (by decide +kernel)
set_option maxRecDepth 20000 in
theorem gX7_restore_X7_in : GoodIn wsX7_restore (va_wsS RX7 67 yX7_in wsX7_in) := goodIn_app (goodIn_of _ (by decide +kernel)) ggX7_restore_X7_in
set_option maxRecDepth 20000 in
theorem ggX7_restore_X7_goes : GoodIn wsX7_restore wsX7_goes := goodIn_r _ [11, 12, 17, 18, 19, 20, 21, 22, 23, 24, 25, 26, 27, 28] (by decide +kernel) (by decide +kernel)
set_option maxRecDepth 20000 in
theorem gX7_restore_X7_goes : GoodIn wsX7_restore (wsV RX7 74 RX7 yX7_goes wsX7_goes) := goodIn_app (goodIn_of _ (by decide +kernel)) ggX7_restore_X7_goes
set_option maxRecDepth 20000 in
theorem ggX7_restore_X7_copies : GoodIn wsX7_restore wsX7_copies := goodIn_r _ [16, 3, 17, 18, 19, 20, 21, 22, 23, 24, 25, 26, 27, 28] (by decide +kernel) (by decide +kernel)
set_option maxRecDepth 20000 in
theorem gX7_restore_X7_copies : GoodIn wsX7_restore (wsV RX7 42 RX7 yX7_copies wsX7_copies) := goodIn_app (goodIn_of _ (by decide +kernel)) ggX7_restore_X7_copies
theorem dX7_restore_0 : decode cX7_restore 0 = .ok (.iload_n 1, 1) := by decide +kernel
theorem dX7_restore_1 : decode cX7_restore 1 = .ok (.iconst 0, 1) := by decide +kernel
theorem dX7_restore_2 : decode cX7_restore 2 = .ok (.iconst 1, 1) := by decide +kernel
theorem dX7_restore_3 : decode cX7_restore 3 = .ok (.invokestatic 67, 3) := by decide +kernel
theorem dX7_restore_6 : decode cX7_restore 6 = .ok (.istore_n 2, 1) := by decide +kernel
theorem dX7_restore_7 : decode cX7_restore 7 = .ok (.aload_n 0, 1) := by decide +kernel
theorem dX7_restore_8 : decode cX7_restore 8 = .ok (.iload_n 2, 1) := by decide +kernel
theorem dX7_restore_9 : decode cX7_restore 9 = .ok (.iload_n 2, 1) := by decide +kernel
theorem dX7_restore_10 : decode cX7_restore 10 = .ok (.ifCond .eq 16, 3) := by decide +kernel
theorem dX7_restore_13 : decode cX7_restore 13 = .ok (.aload_n 0, 1) := by decide +kernel
theorem dX7_restore_14 : decode cX7_restore 14 = .ok (.getfield 13, 3) := by decide +kernel
theorem dX7_restore_17 : decode cX7_restore 17 = .ok (.iload_n 1, 1) := by decide +kernel
theorem dX7_restore_18 : decode cX7_restore 18 = .ok (.baload, 1) := by decide +kernel
theorem dX7_restore_19 : decode cX7_restore 19 = .ok (.ifCond .eq 7, 3) := by decide +kernel
theorem dX7_restore_22 : decode cX7_restore 22 = .ok (.iconst 1, 1) := by decide +kernel
theorem dX7_restore_23 : decode cX7_restore 23 = .ok (.goto 4, 3) := by decide +kernel
theorem dX7_restore_26 : decode cX7_restore 26 = .ok (.iconst 0, 1) := by decide +kernel
theorem dX7_restore_27 : decode cX7_restore 27 = .ok (.invokevirtual 74, 3) := by decide +kernel
theorem dX7_restore_30 : decode cX7_restore 30 = .ok (.ifCond .ne 5, 3) := by decide +kernel
theorem dX7_restore_33 : decode cX7_restore 33 = .ok (.iconst 0, 1) := by decide +kernel
theorem dX7_restore_34 : decode cX7_restore 34 = .ok (.ireturn, 1) := by decide +kernel
theorem dX7_restore_35 : decode cX7_restore 35 = .ok (.aload_n 0, 1) := by decide +kernel
theorem dX7_restore_36 : decode cX7_restore 36 = .ok (.bipush 15, 2) := by decide +kernel
theorem dX7_restore_38 : decode cX7_restore 38 = .ok (.iload_n 1, 1) := by decide +kernel
theorem dX7_restore_39 : decode cX7_restore 39 = .ok (.iadd, 1) := by decide +kernel
theorem dX7_restore_40 : decode cX7_restore 40 = .ok (.iconst 0, 1) := by decide +kernel
theorem dX7_restore_41 : decode cX7_restore 41 = .ok (.invokevirtual 42, 3) := by decide +kernel
theorem dX7_restore_44 : decode cX7_restore 44 = .ok (.aload_n 0, 1) := by decide +kernel
theorem dX7_restore_45 : decode cX7_restore 45 = .ok (.iconst 0, 1) := by decide +kernel
theorem dX7_restore_46 : decode cX7_restore 46 = .ok (.putfield 39, 3) := by decide +kernel
theorem dX7_restore_49 : decode cX7_restore 49 = .ok (.aload_n 0, 1) := by decide +kernel
theorem dX7_restore_50 : decode cX7_restore 50 = .ok (.getfield 7, 3) := by decide +kernel
theorem dX7_restore_53 : decode cX7_restore 53 = .ok (.iconst 0, 1) := by decide +kernel
theorem dX7_restore_54 : decode cX7_restore 54 = .ok (.iaload, 1) := by decide +kernel
theorem dX7_restore_55 : decode cX7_restore 55 = .ok (.ireturn, 1) := by decide +kernel
theorem dJ13_bitCount_95d88_0 : decode cJ13_bitCount_95d88 0 = .ok (.lload_n 0, 1) := by decide +kernel
theorem dJ13_bitCount_95d88_1 : decode cJ13_bitCount_95d88 1 = .ok (.lload_n 0, 1) := by decide +kernel
theorem dJ13_bitCount_95d88_2 : decode cJ13_bitCount_95d88 2 = .ok (.iconst 1, 1) := by decide +kernel
theorem dJ13_bitCount_95d88_3 : decode cJ13_bitCount_95d88 3 = .ok (.lushr, 1) := by decide +kernel
theorem dJ13_bitCount_95d88_4 : decode cJ13_bitCount_95d88 4 = .ok (.ldc2_w 314, 3) := by decide +kernel
theorem dJ13_bitCount_95d88_7 : decode cJ13_bitCount_95d88 7 = .ok (.land, 1) := by decide +kernel
theorem dJ13_bitCount_95d88_8 : decode cJ13_bitCount_95d88 8 = .ok (.lsub, 1) := by decide +kernel
theorem dJ13_bitCount_95d88_9 : decode cJ13_bitCount_95d88 9 = .ok (.lstore_n 0, 1) := by decide +kernel
theorem dJ13_bitCount_95d88_10 : decode cJ13_bitCount_95d88 10 = .ok (.lload_n 0, 1) := by decide +kernel
theorem dJ13_bitCount_95d88_11 : decode cJ13_bitCount_95d88 11 = .ok (.ldc2_w 316, 3) := by decide +kernel
theorem dJ13_bitCount_95d88_14 : decode cJ13_bitCount_95d88 14 = .ok (.land, 1) := by decide +kernel
theorem dJ13_bitCount_95d88_15 : decode cJ13_bitCount_95d88 15 = .ok (.lload_n 0, 1) := by decide +kernel
theorem dJ13_bitCount_95d88_16 : decode cJ13_bitCount_95d88 16 = .ok (.iconst 2, 1) := by decide +kernel
theorem dJ13_bitCount_95d88_17 : decode cJ13_bitCount_95d88 17 = .ok (.lushr, 1) := by decide +kernel
theorem dJ13_bitCount_95d88_18 : decode cJ13_bitCount_95d88 18 = .ok (.ldc2_w 316, 3) := by decide +kernel
theorem dJ13_bitCount_95d88_21 : decode cJ13_bitCount_95d88 21 = .ok (.land, 1) := by decide +kernel
theorem dJ13_bitCount_95d88_22 : decode cJ13_bitCount_95d88 22 = .ok (.ladd, 1) := by decide +kernel
theorem dJ13_bitCount_95d88_23 : decode cJ13_bitCount_95d88 23 = .ok (.lstore_n 0, 1) := by decide +kernel
theorem dJ13_bitCount_95d88_24 : decode cJ13_bitCount_95d88 24 = .ok (.lload_n 0, 1) := by decide +kernel
theorem dJ13_bitCount_95d88_25 : decode cJ13_bitCount_95d88 25 = .ok (.lload_n 0, 1) := by decide +kernel
theorem dJ13_bitCount_95d88_26 : decode cJ13_bitCount_95d88 26 = .ok (.iconst 4, 1) := by decide +kernel
theorem dJ13_bitCount_95d88_27 : decode cJ13_bitCount_95d88 27 = .ok (.lushr, 1) := by decide +kernel
theorem dJ13_bitCount_95d88_28 : decode cJ13_bitCount_95d88 28 = .ok (.ladd, 1) := by decide +kernel
theorem dJ13_bitCount_95d88_29 : decode cJ13_bitCount_95d88 29 = .ok (.ldc2_w 318, 3) := by decide +kernel
theorem dJ13_bitCount_95d88_32 : decode cJ13_bitCount_95d88 32 = .ok (.land, 1) := by decide +kernel
theorem dJ13_bitCount_95d88_33 : decode cJ13_bitCount_95d88 33 = .ok (.lstore_n 0, 1) := by decide +kernel
theorem dJ13_bitCount_95d88_34 : decode cJ13_bitCount_95d88 34 = .ok (.lload_n 0, 1) := by decide +kernel
theorem dJ13_bitCount_95d88_35 : decode cJ13_bitCount_95d88 35 = .ok (.lload_n 0, 1) := by decide +kernel
theorem dJ13_bitCount_95d88_36 : decode cJ13_bitCount_95d88 36 = .ok (.bipush 8, 2) := by decide +kernel
theorem dJ13_bitCount_95d88_38 : decode cJ13_bitCount_95d88 38 = .ok (.lushr, 1) := by decide +kernel
theorem dJ13_bitCount_95d88_39 : decode cJ13_bitCount_95d88 39 = .ok (.ladd, 1) := by decide +kernel
theorem dJ13_bitCount_95d88_40 : decode cJ13_bitCount_95d88 40 = .ok (.lstore_n 0, 1) := by decide +kernel
theorem dJ13_bitCount_95d88_41 : decode cJ13_bitCount_95d88 41 = .ok (.lload_n 0, 1) := by decide +kernel
theorem dJ13_bitCount_95d88_42 : decode cJ13_bitCount_95d88 42 = .ok (.lload_n 0, 1) := by decide +kernel
theorem dJ13_bitCount_95d88_43 : decode cJ13_bitCount_95d88 43 = .ok (.bipush 16, 2) := by decide +kernel
theorem dJ13_bitCount_95d88_45 : decode cJ13_bitCount_95d88 45 = .ok (.lushr, 1) := by decide +kernel
theorem dJ13_bitCount_95d88_46 : decode cJ13_bitCount_95d88 46 = .ok (.ladd, 1) := by decide +kernel
theorem dJ13_bitCount_95d88_47 : decode cJ13_bitCount_95d88 47 = .ok (.lstore_n 0, 1) := by decide +kernel
theorem dJ13_bitCount_95d88_48 : decode cJ13_bitCount_95d88 48 = .ok (.lload_n 0, 1) := by decide +kernel
theorem dJ13_bitCount_95d88_49 : decode cJ13_bitCount_95d88 49 = .ok (.lload_n 0, 1) := by decide +kernel
theorem dJ13_bitCount_95d88_50 : decode cJ13_bitCount_95d88 50 = .ok (.bipush 32, 2) := by decide +kernel
theorem dJ13_bitCount_95d88_52 : decode cJ13_bitCount_95d88 52 = .ok (.lushr, 1) := by decide +kernel
theorem dJ13_bitCount_95d88_53 : decode cJ13_bitCount_95d88 53 = .ok (.ladd, 1) := by decide +kernel
theorem dJ13_bitCount_95d88_54 : decode cJ13_bitCount_95d88 54 = .ok (.lstore_n 0, 1) := by decide +kernel
theorem dJ13_bitCount_95d88_55 : decode cJ13_bitCount_95d88 55 = .ok (.lload_n 0, 1) := by decide +kernel
theorem dJ13_bitCount_95d88_56 : decode cJ13_bitCount_95d88 56 = .ok (.l2i, 1) := by decide +kernel
theorem dJ13_bitCount_95d88_57 : decode cJ13_bitCount_95d88 57 = .ok (.bipush 127, 2) := by decide +kernel
theorem dJ13_bitCount_95d88_59 : decode cJ13_bitCount_95d88 59 = .ok (.iand, 1) := by decide +kernel
theorem dJ13_bitCount_95d88_60 : decode cJ13_bitCount_95d88 60 = .ok (.ireturn, 1) := by decide +kernel
theorem dJ9_max_7cf53_0 : decode cJ9_max_7cf53 0 = .ok (.iload_n 0, 1) := by decide +kernel
theorem dJ9_max_7cf53_1 : decode cJ9_max_7cf53 1 = .ok (.iload_n 1, 1) := by decide +kernel
theorem dJ9_max_7cf53_2 : decode cJ9_max_7cf53 2 = .ok (.if_icmp .lt 7, 3) := by decide +kernel
theorem dJ9_max_7cf53_5 : decode cJ9_max_7cf53 5 = .ok (.iload_n 0, 1) := by decide +kernel
theorem dJ9_max_7cf53_6 : decode cJ9_max_7cf53 6 = .ok (.goto 4, 3) := by decide +kernel
theorem dJ9_max_7cf53_9 : decode cJ9_max_7cf53 9 = .ok (.iload_n 1, 1) := by decide +kernel
theorem dJ9_max_7cf53_10 : decode cJ9_max_7cf53 10 = .ok (.ireturn, 1) := by decide +kernel
theorem dJ9_min_7cf53_0 : decode cJ9_min_7cf53 0 = .ok (.iload_n 0, 1) := by decide +kernel
theorem dJ9_min_7cf53_1 : decode cJ9_min_7cf53 1 = .ok (.iload_n 1, 1) := by decide +kernel
theorem dJ9_min_7cf53_2 : decode cJ9_min_7cf53 2 = .ok (.if_icmp .gt 7, 3) := by decide +kernel
theorem dJ9_min_7cf53_5 : decode cJ9_min_7cf53 5 = .ok (.iload_n 0, 1) := by decide +kernel
theorem dJ9_min_7cf53_6 : decode cJ9_min_7cf53 6 = .ok (.goto 4, 3) := by decide +kernel
theorem dJ9_min_7cf53_9 : decode cJ9_min_7cf53 9 = .ok (.iload_n 1, 1) := by decide +kernel
theorem dJ9_min_7cf53_10 : decode cJ9_min_7cf53 10 = .ok (.ireturn, 1) := by decide +kernel
set_option maxRecDepth 20000 in
theorem ggJ0_length_8abf5_J0_coder_7d493 : GoodIn wsJ0_length_8abf5 wsJ0_coder_7d493 := goodIn_r _ [6, 7, 8] (by decide +kernel) (by decide +kernel)
set_option maxRecDepth 20000 in
theorem gJ0_length_8abf5_J0_coder_7d493 : GoodIn wsJ0_length_8abf5 (wsV RJ0 335 RJ0 yJ0_coder_7d493 wsJ0_coder_7d493) := goodIn_app (goodIn_of _ (by decide +kernel)) ggJ0_length_8abf5_J0_coder_7d493
theorem dJ0_length_8abf5_0 : decode cJ0_length_8abf5 0 = .ok (.aload_n 0, 1) := by decide +kernel
theorem dJ0_length_8abf5_1 : decode cJ0_length_8abf5 1 = .ok (.getfield 9, 3) := by decide +kernel
theorem dJ0_length_8abf5_4 : decode cJ0_length_8abf5 4 = .ok (.arraylength, 1) := by decide +kernel
theorem dJ0_length_8abf5_5 : decode cJ0_length_8abf5 5 = .ok (.aload_n 0, 1) := by decide +kernel
theorem dJ0_length_8abf5_6 : decode cJ0_length_8abf5 6 = .ok (.invokevirtual 335, 3) := by decide +kernel
theorem dJ0_length_8abf5_9 : decode cJ0_length_8abf5 9 = .ok (.ishr, 1) := by decide +kernel
theorem dJ0_length_8abf5_10 : decode cJ0_length_8abf5 10 = .ok (.ireturn, 1) := by decide +kernel
set_option maxRecDepth 20000 in
theorem ggJ0_charAt_5068e_J0_isLatin1_aae02 : GoodIn wsJ0_charAt_5068e wsJ0_isLatin1_aae02 := goodIn_r _ [6, 7, 8] (by decide +kernel) (by decide +kernel)
set_option maxRecDepth 20000 in
theorem gJ0_charAt_5068e_J0_isLatin1_aae02 : GoodIn wsJ0_charAt_5068e (wsV RJ0 492 RJ0 yJ0_isLatin1_aae02 wsJ0_isLatin1_aae02) := goodIn_app (goodIn_of _ (by decide +kernel)) ggJ0_charAt_5068e_J0_isLatin1_aae02
set_option maxRecDepth 20000 in
theorem ggJ0_charAt_5068e_J1_charAt_3b067 : GoodIn wsJ0_charAt_5068e wsJ1_charAt_3b067 := goodIn_r _ [12, 13, 14, 5, 15, 16, 17, 18, 19, 20] (by decide +kernel) (by decide +kernel)
set_option maxRecDepth 20000 in
theorem gJ0_charAt_5068e_J1_charAt_3b067 : GoodIn wsJ0_charAt_5068e (va_wsS RJ0 495 yJ1_charAt_3b067 wsJ1_charAt_3b067) := goodIn_app (goodIn_of _ (by decide +kernel)) ggJ0_charAt_5068e_J1_charAt_3b067
set_option maxRecDepth 20000 in
theorem ggJ0_charAt_5068e_J2_charAt_3b067 : GoodIn wsJ0_charAt_5068e wsJ2_charAt_3b067 := goodIn_r _ [24, 25, 26, 23, 27, 28, 29, 30, 31, 14, 5, 15, 16, 17, 18, 19, 20, 32, 33, 34, 35, 36, 37] (by decide +kernel) (by decide +kernel)
set_option maxRecDepth 20000 in
theorem gJ0_charAt_5068e_J2_charAt_3b067 : GoodIn wsJ0_charAt_5068e (va_wsS RJ0 498 yJ2_charAt_3b067 wsJ2_charAt_3b067) := goodIn_app (goodIn_of _ (by decide +kernel)) ggJ0_charAt_5068e_J2_charAt_3b067
theorem dJ0_charAt_5068e_0 : decode cJ0_charAt_5068e 0 = .ok (.aload_n 0, 1) := by decide +kernel
theorem dJ0_charAt_5068e_1 : decode cJ0_charAt_5068e 1 = .ok (.invokevirtual 492, 3) := by decide +kernel
theorem dJ0_charAt_5068e_4 : decode cJ0_charAt_5068e 4 = .ok (.ifCond .eq 12, 3) := by decide +kernel
theorem dJ0_charAt_5068e_7 : decode cJ0_charAt_5068e 7 = .ok (.aload_n 0, 1) := by decide +kernel
theorem dJ0_charAt_5068e_8 : decode cJ0_charAt_5068e 8 = .ok (.getfield 9, 3) := by decide +kernel
theorem dJ0_charAt_5068e_11 : decode cJ0_charAt_5068e 11 = .ok (.iload_n 1, 1) := by decide +kernel
theorem dJ0_charAt_5068e_12 : decode cJ0_charAt_5068e 12 = .ok (.invokestatic 495, 3) := by decide +kernel
theorem dJ0_charAt_5068e_15 : decode cJ0_charAt_5068e 15 = .ok (.ireturn, 1) := by decide +kernel
theorem dJ0_charAt_5068e_16 : decode cJ0_charAt_5068e 16 = .ok (.aload_n 0, 1) := by decide +kernel
theorem dJ0_charAt_5068e_17 : decode cJ0_charAt_5068e 17 = .ok (.getfield 9, 3) := by decide +kernel
theorem dJ0_charAt_5068e_20 : decode cJ0_charAt_5068e 20 = .ok (.iload_n 1, 1) := by decide +kernel
theorem dJ0_charAt_5068e_21 : decode cJ0_charAt_5068e 21 = .ok (.invokestatic 498, 3) := by decide +kernel
theorem dJ0_charAt_5068e_24 : decode cJ0_charAt_5068e 24 = .ok (.ireturn, 1) := by decide +kernel
theorem dJ0_coder_7d493_0 : decode cJ0_coder_7d493 0 = .ok (.getstatic 38, 3) := by decide +kernel
theorem dJ0_coder_7d493_3 : decode cJ0_coder_7d493 3 = .ok (.ifCond .eq 10, 3) := by decide +kernel
theorem dJ0_coder_7d493_6 : decode cJ0_coder_7d493 6 = .ok (.aload_n 0, 1) := by decide +kernel
theorem dJ0_coder_7d493_7 : decode cJ0_coder_7d493 7 = .ok (.getfield 15, 3) := by decide +kernel
theorem dJ0_coder_7d493_10 : decode cJ0_coder_7d493 10 = .ok (.goto 4, 3) := by decide +kernel
theorem dJ0_coder_7d493_13 : decode cJ0_coder_7d493 13 = .ok (.iconst 1, 1) := by decide +kernel
theorem dJ0_coder_7d493_14 : decode cJ0_coder_7d493 14 = .ok (.ireturn, 1) := by decide +kernel
theorem dJ0_isLatin1_aae02_0 : decode cJ0_isLatin1_aae02 0 = .ok (.getstatic 38, 3) := by decide +kernel
theorem dJ0_isLatin1_aae02_3 : decode cJ0_isLatin1_aae02 3 = .ok (.ifCond .eq 14, 3) := by decide +kernel
theorem dJ0_isLatin1_aae02_6 : decode cJ0_isLatin1_aae02 6 = .ok (.aload_n 0, 1) := by decide +kernel
theorem dJ0_isLatin1_aae02_7 : decode cJ0_isLatin1_aae02 7 = .ok (.getfield 15, 3) := by decide +kernel
theorem dJ0_isLatin1_aae02_10 : decode cJ0_isLatin1_aae02 10 = .ok (.ifCond .ne 7, 3) := by decide +kernel
theorem dJ0_isLatin1_aae02_13 : decode cJ0_isLatin1_aae02 13 = .ok (.iconst 1, 1) := by decide +kernel
theorem dJ0_isLatin1_aae02_14 : decode cJ0_isLatin1_aae02 14 = .ok (.goto 4, 3) := by decide +kernel
theorem dJ0_isLatin1_aae02_17 : decode cJ0_isLatin1_aae02 17 = .ok (.iconst 0, 1) := by decide +kernel
theorem dJ0_isLatin1_aae02_18 : decode cJ0_isLatin1_aae02 18 = .ok (.ireturn, 1) := by decide +kernel
set_option maxRecDepth 20000 in
theorem ggJ0_checkIndex_df160_J3_checkIndex_8e157 : GoodIn wsJ0_checkIndex_df160 wsJ3_checkIndex_8e157 := goodIn_r _ [5] (by decide +kernel) (by decide +kernel)
set_option maxRecDepth 20000 in
theorem gJ0_checkIndex_df160_J3_checkIndex_8e157 : GoodIn wsJ0_checkIndex_df160 (va_wsS RJ0 1059 yJ3_checkIndex_8e157 wsJ3_checkIndex_8e157) := goodIn_app (goodIn_of _ (by decide +kernel)) ggJ0_checkIndex_df160_J3_checkIndex_8e157
theorem dJ0_checkIndex_df160_0 : decode cJ0_checkIndex_df160 0 = .ok (.iload_n 0, 1) := by decide +kernel
theorem dJ0_checkIndex_df160_1 : decode cJ0_checkIndex_df160 1 = .ok (.iload_n 1, 1) := by decide +kernel
theorem dJ0_checkIndex_df160_2 : decode cJ0_checkIndex_df160 2 = .ok (.getstatic 1053, 3) := by decide +kernel
theorem dJ0_checkIndex_df160_5 : decode cJ0_checkIndex_df160 5 = .ok (.invokestatic 1059, 3) := by decide +kernel
theorem dJ0_checkIndex_df160_8 : decode cJ0_checkIndex_df160 8 = .ok (.pop, 1) := by decide +kernel
theorem dJ0_checkIndex_df160_9 : decode cJ0_checkIndex_df160 9 = .ok (.return_, 1) := by decide +kernel
set_option maxRecDepth 20000 in
theorem ggJ1_charAt_3b067_J0_checkIndex_df160 : GoodIn wsJ1_charAt_3b067 wsJ0_checkIndex_df160 := goodIn_r _ [4, 5, 6, 7, 8, 9] (by decide +kernel) (by decide +kernel)
set_option maxRecDepth 20000 in
theorem gJ1_charAt_3b067_J0_checkIndex_df160 : GoodIn wsJ1_charAt_3b067 (va_wsS RJ1 9 yJ0_checkIndex_df160 wsJ0_checkIndex_df160) := goodIn_app (goodIn_of _ (by decide +kernel)) ggJ1_charAt_3b067_J0_checkIndex_df160
theorem dJ1_charAt_3b067_0 : decode cJ1_charAt_3b067 0 = .ok (.iload_n 1, 1) := by decide +kernel
theorem dJ1_charAt_3b067_1 : decode cJ1_charAt_3b067 1 = .ok (.aload_n 0, 1) := by decide +kernel
theorem dJ1_charAt_3b067_2 : decode cJ1_charAt_3b067 2 = .ok (.arraylength, 1) := by decide +kernel
theorem dJ1_charAt_3b067_3 : decode cJ1_charAt_3b067 3 = .ok (.invokestatic 9, 3) := by decide +kernel
theorem dJ1_charAt_3b067_6 : decode cJ1_charAt_3b067 6 = .ok (.aload_n 0, 1) := by decide +kernel
theorem dJ1_charAt_3b067_7 : decode cJ1_charAt_3b067 7 = .ok (.iload_n 1, 1) := by decide +kernel
theorem dJ1_charAt_3b067_8 : decode cJ1_charAt_3b067 8 = .ok (.baload, 1) := by decide +kernel
theorem dJ1_charAt_3b067_9 : decode cJ1_charAt_3b067 9 = .ok (.sipush 255, 3) := by decide +kernel
theorem dJ1_charAt_3b067_12 : decode cJ1_charAt_3b067 12 = .ok (.iand, 1) := by decide +kernel
theorem dJ1_charAt_3b067_13 : decode cJ1_charAt_3b067 13 = .ok (.i2c, 1) := by decide +kernel
theorem dJ1_charAt_3b067_14 : decode cJ1_charAt_3b067 14 = .ok (.ireturn, 1) := by decide +kernel
set_option maxRecDepth 20000 in
theorem ggJ2_getChar_3b067_J2_length_9d52b : GoodIn wsJ2_getChar_3b067 wsJ2_length_9d52b := goodIn_r _ [7] (by decide +kernel) (by decide +kernel)
set_option maxRecDepth 20000 in
theorem gJ2_getChar_3b067_J2_length_9d52b : GoodIn wsJ2_getChar_3b067 (va_wsS RJ2 48 yJ2_length_9d52b wsJ2_length_9d52b) := goodIn_app (goodIn_of _ (by decide +kernel)) ggJ2_getChar_3b067_J2_length_9d52b
theorem dJ2_getChar_3b067_0 : decode cJ2_getChar_3b067 0 = .ok (.getstatic 44, 3) := by decide +kernel
theorem dJ2_getChar_3b067_3 : decode cJ2_getChar_3b067 3 = .ok (.ifCond .ne 25, 3) := by decide +kernel
theorem dJ2_getChar_3b067_6 : decode cJ2_getChar_3b067 6 = .ok (.iload_n 1, 1) := by decide +kernel
theorem dJ2_getChar_3b067_7 : decode cJ2_getChar_3b067 7 = .ok (.ifCond .lt 11, 3) := by decide +kernel
theorem dJ2_getChar_3b067_10 : decode cJ2_getChar_3b067 10 = .ok (.iload_n 1, 1) := by decide +kernel
theorem dJ2_getChar_3b067_11 : decode cJ2_getChar_3b067 11 = .ok (.aload_n 0, 1) := by decide +kernel
theorem dJ2_getChar_3b067_12 : decode cJ2_getChar_3b067 12 = .ok (.invokestatic 48, 3) := by decide +kernel
theorem dJ2_getChar_3b067_15 : decode cJ2_getChar_3b067 15 = .ok (.if_icmp .lt 13, 3) := by decide +kernel
theorem dJ2_getChar_3b067_18 : decode cJ2_getChar_3b067 18 = .ok (.new 52, 3) := by decide +kernel
theorem dJ2_getChar_3b067_21 : decode cJ2_getChar_3b067 21 = .ok (.dup, 1) := by decide +kernel
theorem dJ2_getChar_3b067_22 : decode cJ2_getChar_3b067 22 = .ok (.ldc 54, 2) := by decide +kernel
theorem dJ2_getChar_3b067_24 : decode cJ2_getChar_3b067 24 = .ok (.invokespecial 56, 3) := by decide +kernel
theorem dJ2_getChar_3b067_27 : decode cJ2_getChar_3b067 27 = .ok (.athrow, 1) := by decide +kernel
theorem dJ2_getChar_3b067_28 : decode cJ2_getChar_3b067 28 = .ok (.iload_n 1, 1) := by decide +kernel
theorem dJ2_getChar_3b067_29 : decode cJ2_getChar_3b067 29 = .ok (.iconst 1, 1) := by decide +kernel
theorem dJ2_getChar_3b067_30 : decode cJ2_getChar_3b067 30 = .ok (.ishl, 1) := by decide +kernel
theorem dJ2_getChar_3b067_31 : decode cJ2_getChar_3b067 31 = .ok (.istore_n 1, 1) := by decide +kernel
theorem dJ2_getChar_3b067_32 : decode cJ2_getChar_3b067 32 = .ok (.aload_n 0, 1) := by decide +kernel
theorem dJ2_getChar_3b067_33 : decode cJ2_getChar_3b067 33 = .ok (.iload_n 1, 1) := by decide +kernel
theorem dJ2_getChar_3b067_34 : decode cJ2_getChar_3b067 34 = .ok (.iinc 1 1, 3) := by decide +kernel
theorem dJ2_getChar_3b067_37 : decode cJ2_getChar_3b067 37 = .ok (.baload, 1) := by decide +kernel
theorem dJ2_getChar_3b067_38 : decode cJ2_getChar_3b067 38 = .ok (.sipush 255, 3) := by decide +kernel
theorem dJ2_getChar_3b067_41 : decode cJ2_getChar_3b067 41 = .ok (.iand, 1) := by decide +kernel
theorem dJ2_getChar_3b067_42 : decode cJ2_getChar_3b067 42 = .ok (.getstatic 59, 3) := by decide +kernel
theorem dJ2_getChar_3b067_45 : decode cJ2_getChar_3b067 45 = .ok (.ishl, 1) := by decide +kernel
theorem dJ2_getChar_3b067_46 : decode cJ2_getChar_3b067 46 = .ok (.aload_n 0, 1) := by decide +kernel
theorem dJ2_getChar_3b067_47 : decode cJ2_getChar_3b067 47 = .ok (.iload_n 1, 1) := by decide +kernel
theorem dJ2_getChar_3b067_48 : decode cJ2_getChar_3b067 48 = .ok (.baload, 1) := by decide +kernel
theorem dJ2_getChar_3b067_49 : decode cJ2_getChar_3b067 49 = .ok (.sipush 255, 3) := by decide +kernel
theorem dJ2_getChar_3b067_52 : decode cJ2_getChar_3b067 52 = .ok (.iand, 1) := by decide +kernel
theorem dJ2_getChar_3b067_53 : decode cJ2_getChar_3b067 53 = .ok (.getstatic 63, 3) := by decide +kernel
theorem dJ2_getChar_3b067_56 : decode cJ2_getChar_3b067 56 = .ok (.ishl, 1) := by decide +kernel
theorem dJ2_getChar_3b067_57 : decode cJ2_getChar_3b067 57 = .ok (.ior, 1) := by decide +kernel
theorem dJ2_getChar_3b067_58 : decode cJ2_getChar_3b067 58 = .ok (.i2c, 1) := by decide +kernel
theorem dJ2_getChar_3b067_59 : decode cJ2_getChar_3b067 59 = .ok (.ireturn, 1) := by decide +kernel
theorem dJ2_length_9d52b_0 : decode cJ2_length_9d52b 0 = .ok (.aload_n 0, 1) := by decide +kernel
theorem dJ2_length_9d52b_1 : decode cJ2_length_9d52b 1 = .ok (.arraylength, 1) := by decide +kernel
theorem dJ2_length_9d52b_2 : decode cJ2_length_9d52b 2 = .ok (.iconst 1, 1) := by decide +kernel
theorem dJ2_length_9d52b_3 : decode cJ2_length_9d52b 3 = .ok (.ishr, 1) := by decide +kernel
theorem dJ2_length_9d52b_4 : decode cJ2_length_9d52b 4 = .ok (.ireturn, 1) := by decide +kernel
set_option maxRecDepth 20000 in
theorem ggJ2_charAt_3b067_J2_checkIndex_2214a : GoodIn wsJ2_charAt_3b067 wsJ2_checkIndex_2214a := goodIn_r _ [4, 5, 6, 3, 7, 8, 9, 10, 11, 12, 13, 14, 15, 16] (by decide +kernel) (by decide +kernel)
set_option maxRecDepth 20000 in
theorem gJ2_charAt_3b067_J2_checkIndex_2214a : GoodIn wsJ2_charAt_3b067 (va_wsS RJ2 67 yJ2_checkIndex_2214a wsJ2_checkIndex_2214a) := goodIn_app (goodIn_of _ (by decide +kernel)) ggJ2_charAt_3b067_J2_checkIndex_2214a
set_option maxRecDepth 20000 in
theorem ggJ2_charAt_3b067_J2_getChar_3b067 : GoodIn wsJ2_charAt_3b067 wsJ2_getChar_3b067 := goodIn_r _ [19, 20, 21, 22, 5, 6, 3, 7] (by decide +kernel) (by decide +kernel)
set_option maxRecDepth 20000 in
theorem gJ2_charAt_3b067_J2_getChar_3b067 : GoodIn wsJ2_charAt_3b067 (va_wsS RJ2 71 yJ2_getChar_3b067 wsJ2_getChar_3b067) := goodIn_app (goodIn_of _ (by decide +kernel)) ggJ2_charAt_3b067_J2_getChar_3b067
theorem dJ2_charAt_3b067_0 : decode cJ2_charAt_3b067 0 = .ok (.iload_n 1, 1) := by decide +kernel
theorem dJ2_charAt_3b067_1 : decode cJ2_charAt_3b067 1 = .ok (.aload_n 0, 1) := by decide +kernel
theorem dJ2_charAt_3b067_2 : decode cJ2_charAt_3b067 2 = .ok (.invokestatic 67, 3) := by decide +kernel
theorem dJ2_charAt_3b067_5 : decode cJ2_charAt_3b067 5 = .ok (.aload_n 0, 1) := by decide +kernel
theorem dJ2_charAt_3b067_6 : decode cJ2_charAt_3b067 6 = .ok (.iload_n 1, 1) := by decide +kernel
theorem dJ2_charAt_3b067_7 : decode cJ2_charAt_3b067 7 = .ok (.invokestatic 71, 3) := by decide +kernel
theorem dJ2_charAt_3b067_10 : decode cJ2_charAt_3b067 10 = .ok (.ireturn, 1) := by decide +kernel
set_option maxRecDepth 20000 in
theorem ggJ2_checkIndex_2214a_J2_length_9d52b : GoodIn wsJ2_checkIndex_2214a wsJ2_length_9d52b := goodIn_r _ [4] (by decide +kernel) (by decide +kernel)
set_option maxRecDepth 20000 in
theorem gJ2_checkIndex_2214a_J2_length_9d52b : GoodIn wsJ2_checkIndex_2214a (va_wsS RJ2 48 yJ2_length_9d52b wsJ2_length_9d52b) := goodIn_app (goodIn_of _ (by decide +kernel)) ggJ2_checkIndex_2214a_J2_length_9d52b
set_option maxRecDepth 20000 in
theorem ggJ2_checkIndex_2214a_J0_checkIndex_df160 : GoodIn wsJ2_checkIndex_2214a wsJ0_checkIndex_df160 := goodIn_r _ [8, 9, 10, 11, 12, 13] (by decide +kernel) (by decide +kernel)
set_option maxRecDepth 20000 in
theorem gJ2_checkIndex_2214a_J0_checkIndex_df160 : GoodIn wsJ2_checkIndex_2214a (va_wsS RJ2 414 yJ0_checkIndex_df160 wsJ0_checkIndex_df160) := goodIn_app (goodIn_of _ (by decide +kernel)) ggJ2_checkIndex_2214a_J0_checkIndex_df160
theorem dJ2_checkIndex_2214a_0 : decode cJ2_checkIndex_2214a 0 = .ok (.iload_n 0, 1) := by decide +kernel
theorem dJ2_checkIndex_2214a_1 : decode cJ2_checkIndex_2214a 1 = .ok (.aload_n 1, 1) := by decide +kernel
theorem dJ2_checkIndex_2214a_2 : decode cJ2_checkIndex_2214a 2 = .ok (.invokestatic 48, 3) := by decide +kernel
theorem dJ2_checkIndex_2214a_5 : decode cJ2_checkIndex_2214a 5 = .ok (.invokestatic 414, 3) := by decide +kernel
theorem dJ2_checkIndex_2214a_8 : decode cJ2_checkIndex_2214a 8 = .ok (.return_, 1) := by decide +kernel
theorem dJ3_checkIndex_8e157_0 : decode cJ3_checkIndex_8e157 0 = .ok (.iload_n 0, 1) := by decide +kernel
theorem dJ3_checkIndex_8e157_1 : decode cJ3_checkIndex_8e157 1 = .ok (.ifCond .lt 8, 3) := by decide +kernel
theorem dJ3_checkIndex_8e157_4 : decode cJ3_checkIndex_8e157 4 = .ok (.iload_n 0, 1) := by decide +kernel
theorem dJ3_checkIndex_8e157_5 : decode cJ3_checkIndex_8e157 5 = .ok (.iload_n 1, 1) := by decide +kernel
theorem dJ3_checkIndex_8e157_6 : decode cJ3_checkIndex_8e157 6 = .ok (.if_icmp .lt 10, 3) := by decide +kernel
theorem dJ3_checkIndex_8e157_9 : decode cJ3_checkIndex_8e157 9 = .ok (.aload_n 2, 1) := by decide +kernel
theorem dJ3_checkIndex_8e157_10 : decode cJ3_checkIndex_8e157 10 = .ok (.iload_n 0, 1) := by decide +kernel
theorem dJ3_checkIndex_8e157_11 : decode cJ3_checkIndex_8e157 11 = .ok (.iload_n 1, 1) := by decide +kernel
theorem dJ3_checkIndex_8e157_12 : decode cJ3_checkIndex_8e157 12 = .ok (.invokestatic 95, 3) := by decide +kernel
theorem dJ3_checkIndex_8e157_15 : decode cJ3_checkIndex_8e157 15 = .ok (.athrow, 1) := by decide +kernel
theorem dJ3_checkIndex_8e157_16 : decode cJ3_checkIndex_8e157 16 = .ok (.iload_n 0, 1) := by decide +kernel
theorem dJ3_checkIndex_8e157_17 : decode cJ3_checkIndex_8e157 17 = .ok (.ireturn, 1) := by decide +kernel
set_option maxRecDepth 20000 in
theorem ggL_append_X6_append : GoodIn wsL_append wsX6_append := goodIn_ca (goodIn_ca (goodIn_r _ [7, 8, 9, 10, 11, 12, 13, 14, 6, 15, 16, 17, 18, 19, 20, 21, 22, 23, 24, 25, 26, 27, 28, 29, 30, 31, 32, 33, 34] (by decide +kernel) (by decide +kernel)) (goodIn_sub (fun _ h => List.mem_cons_of_mem _ (List.mem_append_left _ (List.mem_append_right _ h))) (by decide +kernel))) (goodIn_sub (fun _ h => List.mem_cons_of_mem _ (List.mem_append_right _ h)) (by decide +kernel))
set_option maxRecDepth 20000 in
theorem gL_append_X6_append : GoodIn wsL_append (wsV RL 7 RX6 yX6_append wsX6_append) := goodIn_app (goodIn_of _ (by decide +kernel)) ggL_append_X6_append
theorem dL_append_0 : decode cL_append 0 = .ok (.aload_n 2, 1) := by decide +kernel
theorem dL_append_1 : decode cL_append 1 = .ok (.iconst 0, 1) := by decide +kernel
theorem dL_append_2 : decode cL_append 2 = .ok (.aload_n 0, 1) := by decide +kernel
theorem dL_append_3 : decode cL_append 3 = .ok (.iload_n 1, 1) := by decide +kernel
theorem dL_append_4 : decode cL_append 4 = .ok (.invokevirtual 7, 3) := by decide +kernel
theorem dL_append_7 : decode cL_append 7 = .ok (.i2l, 1) := by decide +kernel
theorem dL_append_8 : decode cL_append 8 = .ok (.lastore, 1) := by decide +kernel
theorem dL_append_9 : decode cL_append 9 = .ok (.goto 9, 3) := by decide +kernel
theorem dL_append_12 : decode cL_append 12 = .ok (.astore_n 3, 1) := by decide +kernel
theorem dL_append_13 : decode cL_append 13 = .ok (.iconst 1, 1) := by decide +kernel
theorem dL_append_14 : decode cL_append 14 = .ok (.ireturn, 1) := by decide +kernel
theorem dL_append_15 : decode cL_append 15 = .ok (.astore_n 3, 1) := by decide +kernel
theorem dL_append_16 : decode cL_append 16 = .ok (.iconst 2, 1) := by decide +kernel
theorem dL_append_17 : decode cL_append 17 = .ok (.ireturn, 1) := by decide +kernel
theorem dL_append_18 : decode cL_append 18 = .ok (.iconst 0, 1) := by decide +kernel
theorem dL_append_19 : decode cL_append 19 = .ok (.ireturn, 1) := by decide +kernel
set_option maxRecDepth 20000 in
theorem ggL_load_X6_load : GoodIn wsL_load wsX6_load := goodIn_ca (goodIn_r _ [6, 7, 8, 9, 10, 11, 12, 13, 14, 15, 16, 17, 18, 19, 20, 21, 22, 23, 24, 25, 26, 27, 28, 29, 30, 31, 32, 33, 34, 35, 36, 37, 38, 39, 40, 41, 42, 43, 44, 45, 46, 47, 48, 49, 50, 51, 52, 53, 54, 55, 56, 57, 58, 59, 60, 61, 62, 63, 64, 65, 66, 67, 68, 69, 70, 71, 72, 73, 74, 75, 76, 77, 78, 79, 80, 81, 82, 83, 84, 85, 86, 87, 88, 89, 90, 91, 92, 93, 94, 95, 96, 97, 5, 98, 99, 100, 101, 102, 103, 104, 105, 106, 107, 108, 109, 110, 111, 112, 113, 114, 115, 116, 117, 118, 119, 120, 121, 122, 123, 124, 125, 126, 127, 128, 129, 130, 131, 132, 133, 134, 135, 136, 137, 138, 139, 140, 141, 142, 143, 144, 145, 146, 147, 148, 149, 150, 151, 152, 153, 154, 155, 156, 157, 158, 159, 160, 161, 162] (by decide +kernel) (by decide +kernel)) (goodIn_sub (fun _ h => List.mem_cons_of_mem _ (List.mem_append_right _ h)) (by decide +kernel))
set_option maxRecDepth 20000 in
theorem gL_load_X6_load : GoodIn wsL_load (wsV RL 17 RX6 yX6_load wsX6_load) := goodIn_app (goodIn_of _ (by decide +kernel)) ggL_load_X6_load
theorem dL_load_0 : decode cL_load 0 = .ok (.aload_n 1, 1) := by decide +kernel
theorem dL_load_1 : decode cL_load 1 = .ok (.iconst 0, 1) := by decide +kernel
theorem dL_load_2 : decode cL_load 2 = .ok (.aload_n 0, 1) := by decide +kernel
theorem dL_load_3 : decode cL_load 3 = .ok (.invokevirtual 17, 3) := by decide +kernel
theorem dL_load_6 : decode cL_load 6 = .ok (.i2l, 1) := by decide +kernel
theorem dL_load_7 : decode cL_load 7 = .ok (.lastore, 1) := by decide +kernel
theorem dL_load_8 : decode cL_load 8 = .ok (.goto 6, 3) := by decide +kernel
theorem dL_load_11 : decode cL_load 11 = .ok (.astore_n 2, 1) := by decide +kernel
theorem dL_load_12 : decode cL_load 12 = .ok (.iconst 1, 1) := by decide +kernel
theorem dL_load_13 : decode cL_load 13 = .ok (.ireturn, 1) := by decide +kernel
theorem dL_load_14 : decode cL_load 14 = .ok (.iconst 0, 1) := by decide +kernel
theorem dL_load_15 : decode cL_load 15 = .ok (.ireturn, 1) := by decide +kernel
set_option maxRecDepth 20000 in
theorem ggL_about_X6_about : GoodIn wsL_about wsX6_about := goodIn_ca (goodIn_r _ [6, 7, 8, 9, 10, 11, 12, 13, 14, 15, 16, 17, 18, 19, 20, 21, 22, 23, 24, 25, 26, 27, 28, 29, 30, 31, 32, 33, 34, 35, 36, 37, 38, 39, 40, 41, 42, 43, 44, 45, 46, 47, 48, 49, 50, 51, 52, 53, 54, 55, 56, 57, 58, 59, 60, 61, 62, 63, 64, 65, 66, 67, 68, 69, 70, 71, 72, 73, 74, 75, 76, 77, 78, 79, 80, 81, 82, 83, 5, 84, 85, 86, 87, 88, 89, 90, 91, 92, 93, 94, 95, 96, 97, 98, 99, 100, 101, 102, 103, 104] (by decide +kernel) (by decide +kernel)) (goodIn_sub (fun _ h => List.mem_cons_of_mem _ (List.mem_append_right _ h)) (by decide +kernel))
set_option maxRecDepth 20000 in
theorem gL_about_X6_about : GoodIn wsL_about (wsV RL 21 RX6 yX6_about wsX6_about) := goodIn_app (goodIn_of _ (by decide +kernel)) ggL_about_X6_about
theorem dL_about_0 : decode cL_about 0 = .ok (.aload_n 2, 1) := by decide +kernel
theorem dL_about_1 : decode cL_about 1 = .ok (.iconst 0, 1) := by decide +kernel
theorem dL_about_2 : decode cL_about 2 = .ok (.aload_n 0, 1) := by decide +kernel
theorem dL_about_3 : decode cL_about 3 = .ok (.iload_n 1, 1) := by decide +kernel
theorem dL_about_4 : decode cL_about 4 = .ok (.invokevirtual 21, 3) := by decide +kernel
theorem dL_about_7 : decode cL_about 7 = .ok (.i2l, 1) := by decide +kernel
theorem dL_about_8 : decode cL_about 8 = .ok (.lastore, 1) := by decide +kernel
theorem dL_about_9 : decode cL_about 9 = .ok (.goto 6, 3) := by decide +kernel
theorem dL_about_12 : decode cL_about 12 = .ok (.astore_n 3, 1) := by decide +kernel
theorem dL_about_13 : decode cL_about 13 = .ok (.iconst 1, 1) := by decide +kernel
theorem dL_about_14 : decode cL_about 14 = .ok (.ireturn, 1) := by decide +kernel
theorem dL_about_15 : decode cL_about 15 = .ok (.iconst 0, 1) := by decide +kernel
theorem dL_about_16 : decode cL_about 16 = .ok (.ireturn, 1) := by decide +kernel
set_option maxRecDepth 20000 in
theorem ggL_quotient_X6_quotient : GoodIn wsL_quotient wsX6_quotient := goodIn_ca (goodIn_r _ [6, 7, 8, 9, 10, 5, 11, 12, 13, 14, 15, 16, 17, 18, 19, 20, 21, 22, 23, 24, 25, 26, 27, 28, 29, 30, 31, 32, 33, 34, 35, 36, 37, 38, 39, 40, 41, 42, 43, 44, 45, 46, 47, 48, 49, 50, 51, 52, 53, 54, 55, 56, 57, 58, 59, 60, 61, 62, 63, 64, 65, 66, 67, 68, 69, 70, 71, 72, 73, 74, 75, 76, 77, 78, 79, 80, 81, 82] (by decide +kernel) (by decide +kernel)) (goodIn_sub (fun _ h => List.mem_cons_of_mem _ (List.mem_append_right _ h)) (by decide +kernel))
set_option maxRecDepth 20000 in
theorem gL_quotient_X6_quotient : GoodIn wsL_quotient (wsV RL 24 RX6 yX6_quotient wsX6_quotient) := goodIn_app (goodIn_of _ (by decide +kernel)) ggL_quotient_X6_quotient
theorem dL_quotient_0 : decode cL_quotient 0 = .ok (.aload_n 2, 1) := by decide +kernel
theorem dL_quotient_1 : decode cL_quotient 1 = .ok (.iconst 0, 1) := by decide +kernel
theorem dL_quotient_2 : decode cL_quotient 2 = .ok (.aload_n 0, 1) := by decide +kernel
theorem dL_quotient_3 : decode cL_quotient 3 = .ok (.iload_n 1, 1) := by decide +kernel
theorem dL_quotient_4 : decode cL_quotient 4 = .ok (.invokevirtual 24, 3) := by decide +kernel
theorem dL_quotient_7 : decode cL_quotient 7 = .ok (.i2l, 1) := by decide +kernel
theorem dL_quotient_8 : decode cL_quotient 8 = .ok (.lastore, 1) := by decide +kernel
theorem dL_quotient_9 : decode cL_quotient 9 = .ok (.goto 6, 3) := by decide +kernel
theorem dL_quotient_12 : decode cL_quotient 12 = .ok (.astore_n 3, 1) := by decide +kernel
theorem dL_quotient_13 : decode cL_quotient 13 = .ok (.iconst 1, 1) := by decide +kernel
theorem dL_quotient_14 : decode cL_quotient 14 = .ok (.ireturn, 1) := by decide +kernel
theorem dL_quotient_15 : decode cL_quotient 15 = .ok (.iconst 0, 1) := by decide +kernel
theorem dL_quotient_16 : decode cL_quotient 16 = .ok (.ireturn, 1) := by decide +kernel
set_option maxRecDepth 20000 in
theorem ggL_left_X6_left : GoodIn wsL_left wsX6_left := goodIn_ca (goodIn_r _ [6, 7, 8, 9, 10, 5, 11, 12, 13, 14, 15, 16, 17, 18, 19, 20, 21, 22, 23, 24, 25, 26, 27, 28, 29, 30, 31, 32, 33, 34, 35, 36, 37, 38, 39, 40, 41, 42, 43, 44, 45, 46, 47, 48, 49, 50, 51, 52, 53, 54, 55, 56, 57, 58, 59, 60, 61, 62, 63, 64, 65, 66, 67, 68, 69, 70, 71, 72, 73, 74, 75, 76, 77, 78, 79, 80, 81, 82, 83, 84, 85, 86, 87, 88, 89, 90, 91] (by decide +kernel) (by decide +kernel)) (goodIn_sub (fun _ h => List.mem_cons_of_mem _ (List.mem_append_right _ h)) (by decide +kernel))
set_option maxRecDepth 20000 in
theorem gL_left_X6_left : GoodIn wsL_left (wsV RL 29 RX6 yX6_left wsX6_left) := goodIn_app (goodIn_of _ (by decide +kernel)) ggL_left_X6_left
theorem dL_left_0 : decode cL_left 0 = .ok (.aload_n 2, 1) := by decide +kernel
theorem dL_left_1 : decode cL_left 1 = .ok (.iconst 0, 1) := by decide +kernel
theorem dL_left_2 : decode cL_left 2 = .ok (.aload_n 0, 1) := by decide +kernel
theorem dL_left_3 : decode cL_left 3 = .ok (.iload_n 1, 1) := by decide +kernel
theorem dL_left_4 : decode cL_left 4 = .ok (.invokevirtual 29, 3) := by decide +kernel
theorem dL_left_7 : decode cL_left 7 = .ok (.i2l, 1) := by decide +kernel
theorem dL_left_8 : decode cL_left 8 = .ok (.lastore, 1) := by decide +kernel
theorem dL_left_9 : decode cL_left 9 = .ok (.goto 6, 3) := by decide +kernel
theorem dL_left_12 : decode cL_left 12 = .ok (.astore_n 3, 1) := by decide +kernel
theorem dL_left_13 : decode cL_left 13 = .ok (.iconst 1, 1) := by decide +kernel
theorem dL_left_14 : decode cL_left 14 = .ok (.ireturn, 1) := by decide +kernel
theorem dL_left_15 : decode cL_left 15 = .ok (.iconst 0, 1) := by decide +kernel
theorem dL_left_16 : decode cL_left 16 = .ok (.ireturn, 1) := by decide +kernel
set_option maxRecDepth 20000 in
theorem ggL_sumLeft_X6_sumLeft : GoodIn wsL_sumLeft wsX6_sumLeft := goodIn_ca (goodIn_r _ [6, 7, 8, 9, 10, 5, 11, 12, 13, 14, 15, 16, 17, 18, 19, 20, 21, 22, 23, 24, 25, 26, 27, 28, 29, 30, 31, 32, 33, 34, 35, 36, 37, 38, 39, 40, 41, 42, 43, 44, 45, 46, 47, 48, 49, 50, 51, 52, 53, 54, 55, 56, 57, 58, 59, 60, 61, 62, 63, 64, 65, 66, 67, 68, 69, 70, 71, 72, 73, 74, 75, 76, 77, 78, 79, 80, 81, 82, 83, 84, 85] (by decide +kernel) (by decide +kernel)) (goodIn_sub (fun _ h => List.mem_cons_of_mem _ (List.mem_append_right _ h)) (by decide +kernel))
set_option maxRecDepth 20000 in
theorem gL_sumLeft_X6_sumLeft : GoodIn wsL_sumLeft (wsV RL 32 RX6 yX6_sumLeft wsX6_sumLeft) := goodIn_app (goodIn_of _ (by decide +kernel)) ggL_sumLeft_X6_sumLeft
theorem dL_sumLeft_0 : decode cL_sumLeft 0 = .ok (.aload_n 2, 1) := by decide +kernel
theorem dL_sumLeft_1 : decode cL_sumLeft 1 = .ok (.iconst 0, 1) := by decide +kernel
theorem dL_sumLeft_2 : decode cL_sumLeft 2 = .ok (.aload_n 0, 1) := by decide +kernel
theorem dL_sumLeft_3 : decode cL_sumLeft 3 = .ok (.iload_n 1, 1) := by decide +kernel
theorem dL_sumLeft_4 : decode cL_sumLeft 4 = .ok (.invokevirtual 32, 3) := by decide +kernel
theorem dL_sumLeft_7 : decode cL_sumLeft 7 = .ok (.lastore, 1) := by decide +kernel
theorem dL_sumLeft_8 : decode cL_sumLeft 8 = .ok (.goto 6, 3) := by decide +kernel
theorem dL_sumLeft_11 : decode cL_sumLeft 11 = .ok (.astore_n 3, 1) := by decide +kernel
theorem dL_sumLeft_12 : decode cL_sumLeft 12 = .ok (.iconst 1, 1) := by decide +kernel
theorem dL_sumLeft_13 : decode cL_sumLeft 13 = .ok (.ireturn, 1) := by decide +kernel
theorem dL_sumLeft_14 : decode cL_sumLeft 14 = .ok (.iconst 0, 1) := by decide +kernel
theorem dL_sumLeft_15 : decode cL_sumLeft 15 = .ok (.ireturn, 1) := by decide +kernel
set_option maxRecDepth 20000 in
theorem ggL_restLeft_X6_restLeft : GoodIn wsL_restLeft wsX6_restLeft := goodIn_ca (goodIn_ca (goodIn_r _ [7, 8, 9, 10, 11, 12, 13, 6, 14, 15, 16, 17, 18, 19, 20, 21, 22, 23, 24, 25, 26, 27, 28, 29, 30, 31, 32, 33, 34, 35, 36, 37, 38, 39, 40, 41, 42, 43, 44, 45, 46, 47, 48, 49, 50, 51, 52, 53, 54, 55, 56, 57, 58, 59, 60, 61, 62, 63, 64, 65, 66, 67, 68, 69, 70, 71, 72, 73, 74, 75, 76, 77, 78, 79, 80, 81, 82, 83, 84, 85, 86, 87, 88, 89, 90, 91] (by decide +kernel) (by decide +kernel)) (goodIn_sub (fun _ h => List.mem_cons_of_mem _ (List.mem_append_left _ (List.mem_append_right _ h))) (by decide +kernel))) (goodIn_sub (fun _ h => List.mem_cons_of_mem _ (List.mem_append_right _ h)) (by decide +kernel))
set_option maxRecDepth 20000 in
theorem gL_restLeft_X6_restLeft : GoodIn wsL_restLeft (wsV RL 36 RX6 yX6_restLeft wsX6_restLeft) := goodIn_app (goodIn_of _ (by decide +kernel)) ggL_restLeft_X6_restLeft
theorem dL_restLeft_0 : decode cL_restLeft 0 = .ok (.aload_n 3, 1) := by decide +kernel
theorem dL_restLeft_1 : decode cL_restLeft 1 = .ok (.iconst 0, 1) := by decide +kernel
theorem dL_restLeft_2 : decode cL_restLeft 2 = .ok (.aload_n 0, 1) := by decide +kernel
theorem dL_restLeft_3 : decode cL_restLeft 3 = .ok (.iload_n 1, 1) := by decide +kernel
theorem dL_restLeft_4 : decode cL_restLeft 4 = .ok (.iload_n 2, 1) := by decide +kernel
theorem dL_restLeft_5 : decode cL_restLeft 5 = .ok (.invokevirtual 36, 3) := by decide +kernel
theorem dL_restLeft_8 : decode cL_restLeft 8 = .ok (.i2l, 1) := by decide +kernel
theorem dL_restLeft_9 : decode cL_restLeft 9 = .ok (.lastore, 1) := by decide +kernel
theorem dL_restLeft_10 : decode cL_restLeft 10 = .ok (.goto 11, 3) := by decide +kernel
theorem dL_restLeft_13 : decode cL_restLeft 13 = .ok (.astore 4, 2) := by decide +kernel
theorem dL_restLeft_15 : decode cL_restLeft 15 = .ok (.iconst 1, 1) := by decide +kernel
theorem dL_restLeft_16 : decode cL_restLeft 16 = .ok (.ireturn, 1) := by decide +kernel
theorem dL_restLeft_17 : decode cL_restLeft 17 = .ok (.astore 4, 2) := by decide +kernel
theorem dL_restLeft_19 : decode cL_restLeft 19 = .ok (.iconst 2, 1) := by decide +kernel
theorem dL_restLeft_20 : decode cL_restLeft 20 = .ok (.ireturn, 1) := by decide +kernel
theorem dL_restLeft_21 : decode cL_restLeft 21 = .ok (.iconst 0, 1) := by decide +kernel
theorem dL_restLeft_22 : decode cL_restLeft 22 = .ok (.ireturn, 1) := by decide +kernel
set_option maxRecDepth 20000 in
theorem ggL_came_X6_came : GoodIn wsL_came wsX6_came := goodIn_ca (goodIn_r _ [6, 7, 8, 9, 10, 11, 12, 13, 14, 15, 16, 17, 18, 19, 20, 21, 22, 23, 24, 25, 26, 27, 28, 29] (by decide +kernel) (by decide +kernel)) (goodIn_sub (fun _ h => List.mem_cons_of_mem _ (List.mem_append_right _ h)) (by decide +kernel))
set_option maxRecDepth 20000 in
theorem gL_came_X6_came : GoodIn wsL_came (wsV RL 40 RX6 yX6_came wsX6_came) := goodIn_app (goodIn_of _ (by decide +kernel)) ggL_came_X6_came
theorem dL_came_0 : decode cL_came 0 = .ok (.aload_n 2, 1) := by decide +kernel
theorem dL_came_1 : decode cL_came 1 = .ok (.iconst 0, 1) := by decide +kernel
theorem dL_came_2 : decode cL_came 2 = .ok (.aload_n 0, 1) := by decide +kernel
theorem dL_came_3 : decode cL_came 3 = .ok (.iload_n 1, 1) := by decide +kernel
theorem dL_came_4 : decode cL_came 4 = .ok (.invokevirtual 40, 3) := by decide +kernel
theorem dL_came_7 : decode cL_came 7 = .ok (.i2l, 1) := by decide +kernel
theorem dL_came_8 : decode cL_came 8 = .ok (.lastore, 1) := by decide +kernel
theorem dL_came_9 : decode cL_came 9 = .ok (.goto 6, 3) := by decide +kernel
theorem dL_came_12 : decode cL_came 12 = .ok (.astore_n 3, 1) := by decide +kernel
theorem dL_came_13 : decode cL_came 13 = .ok (.iconst 1, 1) := by decide +kernel
theorem dL_came_14 : decode cL_came 14 = .ok (.ireturn, 1) := by decide +kernel
theorem dL_came_15 : decode cL_came 15 = .ok (.iconst 0, 1) := by decide +kernel
theorem dL_came_16 : decode cL_came 16 = .ok (.ireturn, 1) := by decide +kernel
set_option maxRecDepth 20000 in
theorem ggL_bound_X6_bound : GoodIn wsL_bound wsX6_bound := goodIn_ca (goodIn_r _ [6, 7, 8, 9, 10, 11, 12, 13, 5, 14, 15, 16, 17, 18, 19, 20, 21, 22, 23, 24, 25, 26, 27, 28, 29, 30, 31, 32, 33, 34, 35, 36, 37, 38, 39, 40, 41, 42, 43, 44, 45, 46, 47, 48, 49, 50, 51, 52, 53, 54, 55, 56, 57, 58, 59, 60] (by decide +kernel) (by decide +kernel)) (goodIn_sub (fun _ h => List.mem_cons_of_mem _ (List.mem_append_right _ h)) (by decide +kernel))
set_option maxRecDepth 20000 in
theorem gL_bound_X6_bound : GoodIn wsL_bound (wsV RL 43 RX6 yX6_bound wsX6_bound) := goodIn_app (goodIn_of _ (by decide +kernel)) ggL_bound_X6_bound
theorem dL_bound_0 : decode cL_bound 0 = .ok (.aload_n 2, 1) := by decide +kernel
theorem dL_bound_1 : decode cL_bound 1 = .ok (.iconst 0, 1) := by decide +kernel
theorem dL_bound_2 : decode cL_bound 2 = .ok (.aload_n 0, 1) := by decide +kernel
theorem dL_bound_3 : decode cL_bound 3 = .ok (.iload_n 1, 1) := by decide +kernel
theorem dL_bound_4 : decode cL_bound 4 = .ok (.invokevirtual 43, 3) := by decide +kernel
theorem dL_bound_7 : decode cL_bound 7 = .ok (.i2l, 1) := by decide +kernel
theorem dL_bound_8 : decode cL_bound 8 = .ok (.lastore, 1) := by decide +kernel
theorem dL_bound_9 : decode cL_bound 9 = .ok (.goto 6, 3) := by decide +kernel
theorem dL_bound_12 : decode cL_bound 12 = .ok (.astore_n 3, 1) := by decide +kernel
theorem dL_bound_13 : decode cL_bound 13 = .ok (.iconst 1, 1) := by decide +kernel
theorem dL_bound_14 : decode cL_bound 14 = .ok (.ireturn, 1) := by decide +kernel
theorem dL_bound_15 : decode cL_bound 15 = .ok (.iconst 0, 1) := by decide +kernel
theorem dL_bound_16 : decode cL_bound 16 = .ok (.ireturn, 1) := by decide +kernel
set_option maxRecDepth 20000 in
theorem ggL_strike_X6_strike : GoodIn wsL_strike wsX6_strike := goodIn_ca (goodIn_r _ [6, 7, 8, 9, 10, 11, 5, 12, 13, 14, 15, 16, 17, 18, 19, 20, 21, 22, 23, 24, 25, 26, 27, 28, 29, 30, 31, 32, 33, 34, 35, 36, 37, 38, 39, 40, 41, 42, 43, 44, 45, 46, 47, 48, 49, 50, 51, 52, 53, 54, 55, 56, 57, 58, 59, 60, 61, 62, 63, 64, 65, 66, 67, 68, 69, 70, 71, 72, 73, 74, 75, 76, 77, 78, 79, 80, 81, 82, 83, 84, 85, 86, 87, 88, 89, 90, 91, 92, 93, 94, 95, 96, 97, 98, 99, 100, 101, 102, 103, 104, 105, 106, 107, 108, 109, 110, 111, 112, 113, 114, 115, 116, 117, 118, 119, 120, 121, 122, 123, 124, 125, 126, 127] (by decide +kernel) (by decide +kernel)) (goodIn_sub (fun _ h => List.mem_cons_of_mem _ (List.mem_append_right _ h)) (by decide +kernel))
set_option maxRecDepth 20000 in
theorem gL_strike_X6_strike : GoodIn wsL_strike (wsV RL 46 RX6 yX6_strike wsX6_strike) := goodIn_app (goodIn_of _ (by decide +kernel)) ggL_strike_X6_strike
theorem dL_strike_0 : decode cL_strike 0 = .ok (.aload_n 1, 1) := by decide +kernel
theorem dL_strike_1 : decode cL_strike 1 = .ok (.iconst 0, 1) := by decide +kernel
theorem dL_strike_2 : decode cL_strike 2 = .ok (.aload_n 0, 1) := by decide +kernel
theorem dL_strike_3 : decode cL_strike 3 = .ok (.invokevirtual 46, 3) := by decide +kernel
theorem dL_strike_6 : decode cL_strike 6 = .ok (.i2l, 1) := by decide +kernel
theorem dL_strike_7 : decode cL_strike 7 = .ok (.lastore, 1) := by decide +kernel
theorem dL_strike_8 : decode cL_strike 8 = .ok (.goto 6, 3) := by decide +kernel
theorem dL_strike_11 : decode cL_strike 11 = .ok (.astore_n 2, 1) := by decide +kernel
theorem dL_strike_12 : decode cL_strike 12 = .ok (.iconst 1, 1) := by decide +kernel
theorem dL_strike_13 : decode cL_strike 13 = .ok (.ireturn, 1) := by decide +kernel
theorem dL_strike_14 : decode cL_strike 14 = .ok (.iconst 0, 1) := by decide +kernel
theorem dL_strike_15 : decode cL_strike 15 = .ok (.ireturn, 1) := by decide +kernel
set_option maxRecDepth 20000 in
theorem ggL_spare_X6_spare : GoodIn wsL_spare wsX6_spare := goodIn_ca (goodIn_r _ [6, 7, 8, 9, 10, 11, 5, 12, 13, 14, 15, 16, 17, 18, 19, 20, 21, 22, 23, 24, 25, 26, 27, 28, 29, 30, 31, 32, 33, 34, 35, 36, 37, 38, 39, 40, 41, 42, 43, 44, 45, 46, 47, 48, 49, 50, 51, 52, 53, 54, 55, 56, 57, 58, 59, 60, 61, 62, 63, 64, 65, 66] (by decide +kernel) (by decide +kernel)) (goodIn_sub (fun _ h => List.mem_cons_of_mem _ (List.mem_append_right _ h)) (by decide +kernel))
set_option maxRecDepth 20000 in
theorem gL_spare_X6_spare : GoodIn wsL_spare (wsV RL 49 RX6 yX6_spare wsX6_spare) := goodIn_app (goodIn_of _ (by decide +kernel)) ggL_spare_X6_spare
theorem dL_spare_0 : decode cL_spare 0 = .ok (.aload_n 1, 1) := by decide +kernel
theorem dL_spare_1 : decode cL_spare 1 = .ok (.iconst 0, 1) := by decide +kernel
theorem dL_spare_2 : decode cL_spare 2 = .ok (.aload_n 0, 1) := by decide +kernel
theorem dL_spare_3 : decode cL_spare 3 = .ok (.invokevirtual 49, 3) := by decide +kernel
theorem dL_spare_6 : decode cL_spare 6 = .ok (.i2l, 1) := by decide +kernel
theorem dL_spare_7 : decode cL_spare 7 = .ok (.lastore, 1) := by decide +kernel
theorem dL_spare_8 : decode cL_spare 8 = .ok (.goto 6, 3) := by decide +kernel
theorem dL_spare_11 : decode cL_spare 11 = .ok (.astore_n 2, 1) := by decide +kernel
theorem dL_spare_12 : decode cL_spare 12 = .ok (.iconst 1, 1) := by decide +kernel
theorem dL_spare_13 : decode cL_spare 13 = .ok (.ireturn, 1) := by decide +kernel
theorem dL_spare_14 : decode cL_spare 14 = .ok (.iconst 0, 1) := by decide +kernel
theorem dL_spare_15 : decode cL_spare 15 = .ok (.ireturn, 1) := by decide +kernel
set_option maxRecDepth 20000 in
theorem ggL_strikeTo_X6_strikeTo : GoodIn wsL_strikeTo wsX6_strikeTo := goodIn_ca (goodIn_r _ [6, 7, 8, 9, 10, 11, 12, 13, 5, 14, 15, 16, 17, 18, 19, 20, 21, 22, 23, 24, 25, 26, 27, 28, 29, 30, 31, 32, 33, 34, 35, 36, 37, 38, 39, 40, 41, 42, 43, 44, 45, 46, 47, 48, 49, 50, 51, 52, 53, 54, 55, 56, 57, 58, 59, 60, 61, 62, 63, 64, 65, 66, 67] (by decide +kernel) (by decide +kernel)) (goodIn_sub (fun _ h => List.mem_cons_of_mem _ (List.mem_append_right _ h)) (by decide +kernel))
set_option maxRecDepth 20000 in
theorem gL_strikeTo_X6_strikeTo : GoodIn wsL_strikeTo (wsV RL 52 RX6 yX6_strikeTo wsX6_strikeTo) := goodIn_app (goodIn_of _ (by decide +kernel)) ggL_strikeTo_X6_strikeTo
theorem dL_strikeTo_0 : decode cL_strikeTo 0 = .ok (.aload_n 2, 1) := by decide +kernel
theorem dL_strikeTo_1 : decode cL_strikeTo 1 = .ok (.iconst 0, 1) := by decide +kernel
theorem dL_strikeTo_2 : decode cL_strikeTo 2 = .ok (.aload_n 0, 1) := by decide +kernel
theorem dL_strikeTo_3 : decode cL_strikeTo 3 = .ok (.iload_n 1, 1) := by decide +kernel
theorem dL_strikeTo_4 : decode cL_strikeTo 4 = .ok (.invokevirtual 52, 3) := by decide +kernel
theorem dL_strikeTo_7 : decode cL_strikeTo 7 = .ok (.i2l, 1) := by decide +kernel
theorem dL_strikeTo_8 : decode cL_strikeTo 8 = .ok (.lastore, 1) := by decide +kernel
theorem dL_strikeTo_9 : decode cL_strikeTo 9 = .ok (.goto 6, 3) := by decide +kernel
theorem dL_strikeTo_12 : decode cL_strikeTo 12 = .ok (.astore_n 3, 1) := by decide +kernel
theorem dL_strikeTo_13 : decode cL_strikeTo 13 = .ok (.iconst 1, 1) := by decide +kernel
theorem dL_strikeTo_14 : decode cL_strikeTo 14 = .ok (.ireturn, 1) := by decide +kernel
theorem dL_strikeTo_15 : decode cL_strikeTo 15 = .ok (.iconst 0, 1) := by decide +kernel
theorem dL_strikeTo_16 : decode cL_strikeTo 16 = .ok (.ireturn, 1) := by decide +kernel
set_option maxRecDepth 20000 in
theorem ggL_undo_X6_undo : GoodIn wsL_undo wsX6_undo := goodIn_ca (goodIn_r _ [6, 7, 8, 9, 10, 11, 12, 13, 14, 15, 16, 17, 18, 19, 20, 21, 22, 23, 24, 25, 26, 27, 28, 29, 5, 30, 31, 32, 33, 34, 35, 36, 37, 38, 39, 40, 41, 42, 43, 44, 45, 46, 47, 48, 49, 50, 51, 52, 53, 54] (by decide +kernel) (by decide +kernel)) (goodIn_sub (fun _ h => List.mem_cons_of_mem _ (List.mem_append_right _ h)) (by decide +kernel))
set_option maxRecDepth 20000 in
theorem gL_undo_X6_undo : GoodIn wsL_undo (wsV RL 55 RX6 yX6_undo wsX6_undo) := goodIn_app (goodIn_of _ (by decide +kernel)) ggL_undo_X6_undo
theorem dL_undo_0 : decode cL_undo 0 = .ok (.aload_n 1, 1) := by decide +kernel
theorem dL_undo_1 : decode cL_undo 1 = .ok (.iconst 0, 1) := by decide +kernel
theorem dL_undo_2 : decode cL_undo 2 = .ok (.aload_n 0, 1) := by decide +kernel
theorem dL_undo_3 : decode cL_undo 3 = .ok (.invokevirtual 55, 3) := by decide +kernel
theorem dL_undo_6 : decode cL_undo 6 = .ok (.i2l, 1) := by decide +kernel
theorem dL_undo_7 : decode cL_undo 7 = .ok (.lastore, 1) := by decide +kernel
theorem dL_undo_8 : decode cL_undo 8 = .ok (.goto 6, 3) := by decide +kernel
theorem dL_undo_11 : decode cL_undo 11 = .ok (.astore_n 2, 1) := by decide +kernel
theorem dL_undo_12 : decode cL_undo 12 = .ok (.iconst 1, 1) := by decide +kernel
theorem dL_undo_13 : decode cL_undo 13 = .ok (.ireturn, 1) := by decide +kernel
theorem dL_undo_14 : decode cL_undo 14 = .ok (.iconst 0, 1) := by decide +kernel
theorem dL_undo_15 : decode cL_undo 15 = .ok (.ireturn, 1) := by decide +kernel
set_option maxRecDepth 20000 in
theorem ggL_wouldStrike_X6_wouldStrike : GoodIn wsL_wouldStrike wsX6_wouldStrike := goodIn_ca (goodIn_r _ [6, 7, 8, 9, 10, 5, 11, 12, 13, 14, 15, 16, 17, 18, 19, 20, 21, 22, 23, 24, 25, 26, 27, 28, 29, 30, 31, 32, 33, 34, 35, 36, 37, 38, 39, 40, 41, 42, 43, 44, 45, 46, 47, 48, 49, 50, 51, 52, 53, 54, 55, 56, 57, 58, 59, 60, 61, 62, 63, 64, 65, 66, 67, 68, 69, 70, 71, 72, 73, 74, 75, 76, 77, 78, 79, 80, 81, 82, 83, 84, 85, 86, 87, 88, 89, 90, 91, 92, 93, 94, 95, 96, 97, 98, 99] (by decide +kernel) (by decide +kernel)) (goodIn_sub (fun _ h => List.mem_cons_of_mem _ (List.mem_append_right _ h)) (by decide +kernel))
set_option maxRecDepth 20000 in
theorem gL_wouldStrike_X6_wouldStrike : GoodIn wsL_wouldStrike (wsV RL 58 RX6 yX6_wouldStrike wsX6_wouldStrike) := goodIn_app (goodIn_of _ (by decide +kernel)) ggL_wouldStrike_X6_wouldStrike
theorem dL_wouldStrike_0 : decode cL_wouldStrike 0 = .ok (.aload_n 2, 1) := by decide +kernel
theorem dL_wouldStrike_1 : decode cL_wouldStrike 1 = .ok (.iconst 0, 1) := by decide +kernel
theorem dL_wouldStrike_2 : decode cL_wouldStrike 2 = .ok (.aload_n 0, 1) := by decide +kernel
theorem dL_wouldStrike_3 : decode cL_wouldStrike 3 = .ok (.iload_n 1, 1) := by decide +kernel
theorem dL_wouldStrike_4 : decode cL_wouldStrike 4 = .ok (.invokevirtual 58, 3) := by decide +kernel
theorem dL_wouldStrike_7 : decode cL_wouldStrike 7 = .ok (.i2l, 1) := by decide +kernel
theorem dL_wouldStrike_8 : decode cL_wouldStrike 8 = .ok (.lastore, 1) := by decide +kernel
theorem dL_wouldStrike_9 : decode cL_wouldStrike 9 = .ok (.goto 6, 3) := by decide +kernel
theorem dL_wouldStrike_12 : decode cL_wouldStrike 12 = .ok (.astore_n 3, 1) := by decide +kernel
theorem dL_wouldStrike_13 : decode cL_wouldStrike 13 = .ok (.iconst 1, 1) := by decide +kernel
theorem dL_wouldStrike_14 : decode cL_wouldStrike 14 = .ok (.ireturn, 1) := by decide +kernel
theorem dL_wouldStrike_15 : decode cL_wouldStrike 15 = .ok (.iconst 0, 1) := by decide +kernel
theorem dL_wouldStrike_16 : decode cL_wouldStrike 16 = .ok (.ireturn, 1) := by decide +kernel
set_option maxRecDepth 20000 in
theorem ggL_primes_X6_primes : GoodIn wsL_primes wsX6_primes := goodIn_ca (goodIn_r _ [6, 7, 8, 9, 5, 10, 11, 12, 13, 14, 15, 16, 17, 18, 19, 20, 21, 22, 23, 24, 25, 26, 27, 28, 29, 30, 31, 32, 33, 34, 35, 36, 37, 38, 39, 40, 41, 42, 43, 44, 45, 46, 47] (by decide +kernel) (by decide +kernel)) (goodIn_sub (fun _ h => List.mem_cons_of_mem _ (List.mem_append_right _ h)) (by decide +kernel))
set_option maxRecDepth 20000 in
theorem gL_primes_X6_primes : GoodIn wsL_primes (wsV RL 61 RX6 yX6_primes wsX6_primes) := goodIn_app (goodIn_of _ (by decide +kernel)) ggL_primes_X6_primes
theorem dL_primes_0 : decode cL_primes 0 = .ok (.aload_n 2, 1) := by decide +kernel
theorem dL_primes_1 : decode cL_primes 1 = .ok (.iconst 0, 1) := by decide +kernel
theorem dL_primes_2 : decode cL_primes 2 = .ok (.aload_n 0, 1) := by decide +kernel
theorem dL_primes_3 : decode cL_primes 3 = .ok (.iload_n 1, 1) := by decide +kernel
theorem dL_primes_4 : decode cL_primes 4 = .ok (.invokevirtual 61, 3) := by decide +kernel
theorem dL_primes_7 : decode cL_primes 7 = .ok (.i2l, 1) := by decide +kernel
theorem dL_primes_8 : decode cL_primes 8 = .ok (.lastore, 1) := by decide +kernel
theorem dL_primes_9 : decode cL_primes 9 = .ok (.goto 6, 3) := by decide +kernel
theorem dL_primes_12 : decode cL_primes 12 = .ok (.astore_n 3, 1) := by decide +kernel
theorem dL_primes_13 : decode cL_primes 13 = .ok (.iconst 1, 1) := by decide +kernel
theorem dL_primes_14 : decode cL_primes 14 = .ok (.ireturn, 1) := by decide +kernel
theorem dL_primes_15 : decode cL_primes 15 = .ok (.iconst 0, 1) := by decide +kernel
theorem dL_primes_16 : decode cL_primes 16 = .ok (.ireturn, 1) := by decide +kernel
set_option maxRecDepth 20000 in
theorem ggL_sumOf_X6_sumOf : GoodIn wsL_sumOf wsX6_sumOf := goodIn_ca (goodIn_r _ [6, 7, 8, 9, 5, 10, 11, 12, 13, 14, 15, 16, 17, 18, 19, 20, 21, 22, 23, 24, 25, 26, 27, 28, 29, 30, 31, 32, 33, 34, 35, 36, 37, 38, 39, 40, 41, 42, 43, 44, 45] (by decide +kernel) (by decide +kernel)) (goodIn_sub (fun _ h => List.mem_cons_of_mem _ (List.mem_append_right _ h)) (by decide +kernel))
set_option maxRecDepth 20000 in
theorem gL_sumOf_X6_sumOf : GoodIn wsL_sumOf (wsV RL 64 RX6 yX6_sumOf wsX6_sumOf) := goodIn_app (goodIn_of _ (by decide +kernel)) ggL_sumOf_X6_sumOf
theorem dL_sumOf_0 : decode cL_sumOf 0 = .ok (.aload_n 2, 1) := by decide +kernel
theorem dL_sumOf_1 : decode cL_sumOf 1 = .ok (.iconst 0, 1) := by decide +kernel
theorem dL_sumOf_2 : decode cL_sumOf 2 = .ok (.aload_n 0, 1) := by decide +kernel
theorem dL_sumOf_3 : decode cL_sumOf 3 = .ok (.iload_n 1, 1) := by decide +kernel
theorem dL_sumOf_4 : decode cL_sumOf 4 = .ok (.invokevirtual 64, 3) := by decide +kernel
theorem dL_sumOf_7 : decode cL_sumOf 7 = .ok (.lastore, 1) := by decide +kernel
theorem dL_sumOf_8 : decode cL_sumOf 8 = .ok (.goto 6, 3) := by decide +kernel
theorem dL_sumOf_11 : decode cL_sumOf 11 = .ok (.astore_n 3, 1) := by decide +kernel
theorem dL_sumOf_12 : decode cL_sumOf 12 = .ok (.iconst 1, 1) := by decide +kernel
theorem dL_sumOf_13 : decode cL_sumOf 13 = .ok (.ireturn, 1) := by decide +kernel
theorem dL_sumOf_14 : decode cL_sumOf 14 = .ok (.iconst 0, 1) := by decide +kernel
theorem dL_sumOf_15 : decode cL_sumOf 15 = .ok (.ireturn, 1) := by decide +kernel
set_option maxRecDepth 20000 in
theorem ggL_inSpan_X6_inSpan : GoodIn wsL_inSpan wsX6_inSpan := goodIn_ca (goodIn_r _ [6, 7, 8, 9, 5, 10, 11, 12, 13, 14, 15, 16, 17, 18, 19, 20, 21, 22, 23, 24, 25, 26, 27, 28, 29, 30, 31, 32, 33, 34, 35, 36, 37, 38, 39, 40, 41, 42, 43, 44, 45, 46, 47] (by decide +kernel) (by decide +kernel)) (goodIn_sub (fun _ h => List.mem_cons_of_mem _ (List.mem_append_right _ h)) (by decide +kernel))
set_option maxRecDepth 20000 in
theorem gL_inSpan_X6_inSpan : GoodIn wsL_inSpan (wsV RL 67 RX6 yX6_inSpan wsX6_inSpan) := goodIn_app (goodIn_of _ (by decide +kernel)) ggL_inSpan_X6_inSpan
theorem dL_inSpan_0 : decode cL_inSpan 0 = .ok (.aload_n 3, 1) := by decide +kernel
theorem dL_inSpan_1 : decode cL_inSpan 1 = .ok (.iconst 0, 1) := by decide +kernel
theorem dL_inSpan_2 : decode cL_inSpan 2 = .ok (.aload_n 0, 1) := by decide +kernel
theorem dL_inSpan_3 : decode cL_inSpan 3 = .ok (.iload_n 1, 1) := by decide +kernel
theorem dL_inSpan_4 : decode cL_inSpan 4 = .ok (.iload_n 2, 1) := by decide +kernel
theorem dL_inSpan_5 : decode cL_inSpan 5 = .ok (.invokevirtual 67, 3) := by decide +kernel
theorem dL_inSpan_8 : decode cL_inSpan 8 = .ok (.i2l, 1) := by decide +kernel
theorem dL_inSpan_9 : decode cL_inSpan 9 = .ok (.lastore, 1) := by decide +kernel
theorem dL_inSpan_10 : decode cL_inSpan 10 = .ok (.goto 7, 3) := by decide +kernel
theorem dL_inSpan_13 : decode cL_inSpan 13 = .ok (.astore 4, 2) := by decide +kernel
theorem dL_inSpan_15 : decode cL_inSpan 15 = .ok (.iconst 1, 1) := by decide +kernel
theorem dL_inSpan_16 : decode cL_inSpan 16 = .ok (.ireturn, 1) := by decide +kernel
theorem dL_inSpan_17 : decode cL_inSpan 17 = .ok (.iconst 0, 1) := by decide +kernel
theorem dL_inSpan_18 : decode cL_inSpan 18 = .ok (.ireturn, 1) := by decide +kernel
set_option maxRecDepth 20000 in
theorem ggL_byRest_X6_byRest : GoodIn wsL_byRest wsX6_byRest := goodIn_ca (goodIn_r _ [6, 7, 8, 9, 10, 11, 5, 12, 13, 14, 15, 16, 17, 18, 19, 20, 21, 22, 23, 24, 25, 26, 27, 28, 29, 30, 31, 32, 33, 34, 35, 36, 37, 38, 39, 40, 41, 42, 43, 44, 45, 46, 47, 48] (by decide +kernel) (by decide +kernel)) (goodIn_sub (fun _ h => List.mem_cons_of_mem _ (List.mem_append_right _ h)) (by decide +kernel))
set_option maxRecDepth 20000 in
theorem gL_byRest_X6_byRest : GoodIn wsL_byRest (wsV RL 70 RX6 yX6_byRest wsX6_byRest) := goodIn_app (goodIn_of _ (by decide +kernel)) ggL_byRest_X6_byRest
theorem dL_byRest_0 : decode cL_byRest 0 = .ok (.aload_n 3, 1) := by decide +kernel
theorem dL_byRest_1 : decode cL_byRest 1 = .ok (.iconst 0, 1) := by decide +kernel
theorem dL_byRest_2 : decode cL_byRest 2 = .ok (.aload_n 0, 1) := by decide +kernel
theorem dL_byRest_3 : decode cL_byRest 3 = .ok (.iload_n 1, 1) := by decide +kernel
theorem dL_byRest_4 : decode cL_byRest 4 = .ok (.iload_n 2, 1) := by decide +kernel
theorem dL_byRest_5 : decode cL_byRest 5 = .ok (.invokevirtual 70, 3) := by decide +kernel
theorem dL_byRest_8 : decode cL_byRest 8 = .ok (.i2l, 1) := by decide +kernel
theorem dL_byRest_9 : decode cL_byRest 9 = .ok (.lastore, 1) := by decide +kernel
theorem dL_byRest_10 : decode cL_byRest 10 = .ok (.goto 7, 3) := by decide +kernel
theorem dL_byRest_13 : decode cL_byRest 13 = .ok (.astore 4, 2) := by decide +kernel
theorem dL_byRest_15 : decode cL_byRest 15 = .ok (.iconst 1, 1) := by decide +kernel
theorem dL_byRest_16 : decode cL_byRest 16 = .ok (.ireturn, 1) := by decide +kernel
theorem dL_byRest_17 : decode cL_byRest 17 = .ok (.iconst 0, 1) := by decide +kernel
theorem dL_byRest_18 : decode cL_byRest 18 = .ok (.ireturn, 1) := by decide +kernel
set_option maxRecDepth 20000 in
theorem ggL_prime_X6_prime : GoodIn wsL_prime wsX6_prime := goodIn_ca (goodIn_r _ [6, 7, 8, 9, 10, 11, 5, 12, 13, 14, 15, 16, 17, 18, 19, 20, 21, 22, 23, 24, 25, 26, 27, 28, 29, 30, 31, 32, 33, 34] (by decide +kernel) (by decide +kernel)) (goodIn_sub (fun _ h => List.mem_cons_of_mem _ (List.mem_append_right _ h)) (by decide +kernel))
set_option maxRecDepth 20000 in
theorem gL_prime_X6_prime : GoodIn wsL_prime (wsV RL 73 RX6 yX6_prime wsX6_prime) := goodIn_app (goodIn_of _ (by decide +kernel)) ggL_prime_X6_prime
theorem dL_prime_0 : decode cL_prime 0 = .ok (.aload_n 2, 1) := by decide +kernel
theorem dL_prime_1 : decode cL_prime 1 = .ok (.iconst 0, 1) := by decide +kernel
theorem dL_prime_2 : decode cL_prime 2 = .ok (.aload_n 0, 1) := by decide +kernel
theorem dL_prime_3 : decode cL_prime 3 = .ok (.iload_n 1, 1) := by decide +kernel
theorem dL_prime_4 : decode cL_prime 4 = .ok (.invokevirtual 73, 3) := by decide +kernel
theorem dL_prime_7 : decode cL_prime 7 = .ok (.i2l, 1) := by decide +kernel
theorem dL_prime_8 : decode cL_prime 8 = .ok (.lastore, 1) := by decide +kernel
theorem dL_prime_9 : decode cL_prime 9 = .ok (.goto 6, 3) := by decide +kernel
theorem dL_prime_12 : decode cL_prime 12 = .ok (.astore_n 3, 1) := by decide +kernel
theorem dL_prime_13 : decode cL_prime 13 = .ok (.iconst 1, 1) := by decide +kernel
theorem dL_prime_14 : decode cL_prime 14 = .ok (.ireturn, 1) := by decide +kernel
theorem dL_prime_15 : decode cL_prime 15 = .ok (.iconst 0, 1) := by decide +kernel
theorem dL_prime_16 : decode cL_prime 16 = .ok (.ireturn, 1) := by decide +kernel
set_option maxRecDepth 20000 in
theorem ggL_leastFactor_X6_leastFactor : GoodIn wsL_leastFactor wsX6_leastFactor := goodIn_ca (goodIn_r _ [6, 7, 8, 5, 9, 10, 11, 12, 13, 14, 15, 16, 17, 18, 19] (by decide +kernel) (by decide +kernel)) (goodIn_sub (fun _ h => List.mem_cons_of_mem _ (List.mem_append_right _ h)) (by decide +kernel))
set_option maxRecDepth 20000 in
theorem gL_leastFactor_X6_leastFactor : GoodIn wsL_leastFactor (wsV RL 76 RX6 yX6_leastFactor wsX6_leastFactor) := goodIn_app (goodIn_of _ (by decide +kernel)) ggL_leastFactor_X6_leastFactor
theorem dL_leastFactor_0 : decode cL_leastFactor 0 = .ok (.aload_n 2, 1) := by decide +kernel
theorem dL_leastFactor_1 : decode cL_leastFactor 1 = .ok (.iconst 0, 1) := by decide +kernel
theorem dL_leastFactor_2 : decode cL_leastFactor 2 = .ok (.aload_n 0, 1) := by decide +kernel
theorem dL_leastFactor_3 : decode cL_leastFactor 3 = .ok (.iload_n 1, 1) := by decide +kernel
theorem dL_leastFactor_4 : decode cL_leastFactor 4 = .ok (.invokevirtual 76, 3) := by decide +kernel
theorem dL_leastFactor_7 : decode cL_leastFactor 7 = .ok (.i2l, 1) := by decide +kernel
theorem dL_leastFactor_8 : decode cL_leastFactor 8 = .ok (.lastore, 1) := by decide +kernel
theorem dL_leastFactor_9 : decode cL_leastFactor 9 = .ok (.goto 6, 3) := by decide +kernel
theorem dL_leastFactor_12 : decode cL_leastFactor 12 = .ok (.astore_n 3, 1) := by decide +kernel
theorem dL_leastFactor_13 : decode cL_leastFactor 13 = .ok (.iconst 1, 1) := by decide +kernel
theorem dL_leastFactor_14 : decode cL_leastFactor 14 = .ok (.ireturn, 1) := by decide +kernel
theorem dL_leastFactor_15 : decode cL_leastFactor 15 = .ok (.iconst 0, 1) := by decide +kernel
theorem dL_leastFactor_16 : decode cL_leastFactor 16 = .ok (.ireturn, 1) := by decide +kernel
set_option maxRecDepth 20000 in
theorem ggL_withLeast_X6_withLeast : GoodIn wsL_withLeast wsX6_withLeast := goodIn_ca (goodIn_r _ [6, 7, 8, 9, 10, 5, 11, 12, 13, 14, 15, 16, 17, 18, 19, 20, 21, 22, 23, 24, 25, 26, 27, 28, 29, 30, 31, 32, 33, 34, 35, 36, 37, 38, 39, 40, 41, 42, 43, 44, 45, 46, 47, 48, 49, 50, 51, 52, 53, 54, 55, 56, 57, 58, 59, 60, 61, 62, 63, 64, 65, 66, 67, 68, 69, 70, 71, 72, 73, 74, 75, 76, 77, 78, 79, 80, 81, 82, 83, 84, 85, 86, 87, 88, 89, 90, 91, 92, 93, 94, 95, 96, 97, 98, 99, 100, 101, 102, 103, 104, 105, 106] (by decide +kernel) (by decide +kernel)) (goodIn_sub (fun _ h => List.mem_cons_of_mem _ (List.mem_append_right _ h)) (by decide +kernel))
set_option maxRecDepth 20000 in
theorem gL_withLeast_X6_withLeast : GoodIn wsL_withLeast (wsV RL 79 RX6 yX6_withLeast wsX6_withLeast) := goodIn_app (goodIn_of _ (by decide +kernel)) ggL_withLeast_X6_withLeast
theorem dL_withLeast_0 : decode cL_withLeast 0 = .ok (.aload_n 3, 1) := by decide +kernel
theorem dL_withLeast_1 : decode cL_withLeast 1 = .ok (.iconst 0, 1) := by decide +kernel
theorem dL_withLeast_2 : decode cL_withLeast 2 = .ok (.aload_n 0, 1) := by decide +kernel
theorem dL_withLeast_3 : decode cL_withLeast 3 = .ok (.iload_n 1, 1) := by decide +kernel
theorem dL_withLeast_4 : decode cL_withLeast 4 = .ok (.iload_n 2, 1) := by decide +kernel
theorem dL_withLeast_5 : decode cL_withLeast 5 = .ok (.invokevirtual 79, 3) := by decide +kernel
theorem dL_withLeast_8 : decode cL_withLeast 8 = .ok (.i2l, 1) := by decide +kernel
theorem dL_withLeast_9 : decode cL_withLeast 9 = .ok (.lastore, 1) := by decide +kernel
theorem dL_withLeast_10 : decode cL_withLeast 10 = .ok (.goto 7, 3) := by decide +kernel
theorem dL_withLeast_13 : decode cL_withLeast 13 = .ok (.astore 4, 2) := by decide +kernel
theorem dL_withLeast_15 : decode cL_withLeast 15 = .ok (.iconst 1, 1) := by decide +kernel
theorem dL_withLeast_16 : decode cL_withLeast 16 = .ok (.ireturn, 1) := by decide +kernel
theorem dL_withLeast_17 : decode cL_withLeast 17 = .ok (.iconst 0, 1) := by decide +kernel
theorem dL_withLeast_18 : decode cL_withLeast 18 = .ok (.ireturn, 1) := by decide +kernel
set_option maxRecDepth 20000 in
theorem ggL_twoFactors_X6_twoFactors : GoodIn wsL_twoFactors wsX6_twoFactors := goodIn_ca (goodIn_r _ [6, 7, 8, 9, 10, 5, 11, 12, 13, 14, 15, 16, 17, 18, 19, 20, 21, 22, 23, 24, 25, 26, 27, 28, 29, 30, 31, 32, 33, 34, 35, 36, 37, 38, 39, 40, 41, 42, 43, 44, 45, 46, 47, 48] (by decide +kernel) (by decide +kernel)) (goodIn_sub (fun _ h => List.mem_cons_of_mem _ (List.mem_append_right _ h)) (by decide +kernel))
set_option maxRecDepth 20000 in
theorem gL_twoFactors_X6_twoFactors : GoodIn wsL_twoFactors (wsV RL 82 RX6 yX6_twoFactors wsX6_twoFactors) := goodIn_app (goodIn_of _ (by decide +kernel)) ggL_twoFactors_X6_twoFactors
theorem dL_twoFactors_0 : decode cL_twoFactors 0 = .ok (.aload_n 2, 1) := by decide +kernel
theorem dL_twoFactors_1 : decode cL_twoFactors 1 = .ok (.iconst 0, 1) := by decide +kernel
theorem dL_twoFactors_2 : decode cL_twoFactors 2 = .ok (.aload_n 0, 1) := by decide +kernel
theorem dL_twoFactors_3 : decode cL_twoFactors 3 = .ok (.iload_n 1, 1) := by decide +kernel
theorem dL_twoFactors_4 : decode cL_twoFactors 4 = .ok (.invokevirtual 82, 3) := by decide +kernel
theorem dL_twoFactors_7 : decode cL_twoFactors 7 = .ok (.i2l, 1) := by decide +kernel
theorem dL_twoFactors_8 : decode cL_twoFactors 8 = .ok (.lastore, 1) := by decide +kernel
theorem dL_twoFactors_9 : decode cL_twoFactors 9 = .ok (.goto 6, 3) := by decide +kernel
theorem dL_twoFactors_12 : decode cL_twoFactors 12 = .ok (.astore_n 3, 1) := by decide +kernel
theorem dL_twoFactors_13 : decode cL_twoFactors 13 = .ok (.iconst 1, 1) := by decide +kernel
theorem dL_twoFactors_14 : decode cL_twoFactors 14 = .ok (.ireturn, 1) := by decide +kernel
theorem dL_twoFactors_15 : decode cL_twoFactors 15 = .ok (.iconst 0, 1) := by decide +kernel
theorem dL_twoFactors_16 : decode cL_twoFactors 16 = .ok (.ireturn, 1) := by decide +kernel
set_option maxRecDepth 20000 in
theorem ggL_runScript_X6_runScript : GoodIn wsL_runScript wsX6_runScript := goodIn_ca (goodIn_r _ [6, 7, 8, 9, 10, 11, 12, 13, 14, 15, 5, 16, 17, 18, 19, 20, 21, 22, 23, 24, 25, 26, 27, 28, 29, 30, 31, 32, 33, 34, 35, 36, 37, 38, 39, 40, 41, 42, 43, 44, 45, 46, 47, 48, 49, 50, 51, 52, 53, 54, 55, 56, 57, 58, 59, 60, 61, 62, 63, 64, 65, 66, 67, 68, 69, 70, 71, 72, 73, 74, 75, 76, 77, 78, 79, 80, 81, 82, 83, 84, 85, 86, 87, 88, 89, 90, 91, 92, 93, 94, 95, 96, 97, 98, 99, 100, 101, 102, 103, 104, 105, 106, 107, 108, 109, 110, 111, 112, 113, 114, 115, 116, 117, 118, 119, 120, 121, 122, 123, 124, 125, 126, 127, 128, 129, 130, 131] (by decide +kernel) (by decide +kernel)) (goodIn_sub (fun _ h => List.mem_cons_of_mem _ (List.mem_append_right _ h)) (by decide +kernel))
set_option maxRecDepth 20000 in
theorem gL_runScript_X6_runScript : GoodIn wsL_runScript (wsV RL 85 RX6 yX6_runScript wsX6_runScript) := goodIn_app (goodIn_of _ (by decide +kernel)) ggL_runScript_X6_runScript
theorem dL_runScript_0 : decode cL_runScript 0 = .ok (.aload 4, 2) := by decide +kernel
theorem dL_runScript_2 : decode cL_runScript 2 = .ok (.iconst 0, 1) := by decide +kernel
theorem dL_runScript_3 : decode cL_runScript 3 = .ok (.aload_n 0, 1) := by decide +kernel
theorem dL_runScript_4 : decode cL_runScript 4 = .ok (.iload_n 1, 1) := by decide +kernel
theorem dL_runScript_5 : decode cL_runScript 5 = .ok (.lload_n 2, 1) := by decide +kernel
theorem dL_runScript_6 : decode cL_runScript 6 = .ok (.invokevirtual 85, 3) := by decide +kernel
theorem dL_runScript_9 : decode cL_runScript 9 = .ok (.i2l, 1) := by decide +kernel
theorem dL_runScript_10 : decode cL_runScript 10 = .ok (.lastore, 1) := by decide +kernel
theorem dL_runScript_11 : decode cL_runScript 11 = .ok (.goto 7, 3) := by decide +kernel
theorem dL_runScript_14 : decode cL_runScript 14 = .ok (.astore 5, 2) := by decide +kernel
theorem dL_runScript_16 : decode cL_runScript 16 = .ok (.iconst 1, 1) := by decide +kernel
theorem dL_runScript_17 : decode cL_runScript 17 = .ok (.ireturn, 1) := by decide +kernel
theorem dL_runScript_18 : decode cL_runScript 18 = .ok (.iconst 0, 1) := by decide +kernel
theorem dL_runScript_19 : decode cL_runScript 19 = .ok (.ireturn, 1) := by decide +kernel
set_option maxRecDepth 20000 in
theorem ggL_simulate_X6_simulate : GoodIn wsL_simulate wsX6_simulate := goodIn_ca (goodIn_r _ [6, 7, 8, 9, 10, 11, 12, 13, 14, 5, 15, 16, 17, 18, 19, 20, 21, 22, 23, 24, 25, 26, 27, 28, 29, 30, 31, 32, 33, 34, 35, 36, 37, 38, 39, 40, 41, 42, 43, 44, 45, 46, 47, 48, 49, 50, 51, 52, 53, 54, 55, 56, 57, 58, 59, 60, 61, 62, 63, 64, 65, 66, 67, 68, 69, 70, 71, 72, 73, 74, 75, 76, 77, 78, 79, 80, 81, 82, 83, 84, 85, 86, 87, 88, 89, 90, 91, 92, 93, 94, 95, 96, 97, 98, 99, 100, 101, 102, 103, 104, 105, 106, 107, 108, 109, 110, 111, 112, 113, 114, 115, 116, 117, 118, 119] (by decide +kernel) (by decide +kernel)) (goodIn_sub (fun _ h => List.mem_cons_of_mem _ (List.mem_append_right _ h)) (by decide +kernel))
set_option maxRecDepth 20000 in
theorem gL_simulate_X6_simulate : GoodIn wsL_simulate (wsV RL 89 RX6 yX6_simulate wsX6_simulate) := goodIn_app (goodIn_of _ (by decide +kernel)) ggL_simulate_X6_simulate
theorem dL_simulate_0 : decode cL_simulate 0 = .ok (.aload 4, 2) := by decide +kernel
theorem dL_simulate_2 : decode cL_simulate 2 = .ok (.iconst 0, 1) := by decide +kernel
theorem dL_simulate_3 : decode cL_simulate 3 = .ok (.aload_n 0, 1) := by decide +kernel
theorem dL_simulate_4 : decode cL_simulate 4 = .ok (.lload_n 1, 1) := by decide +kernel
theorem dL_simulate_5 : decode cL_simulate 5 = .ok (.iload_n 3, 1) := by decide +kernel
theorem dL_simulate_6 : decode cL_simulate 6 = .ok (.invokevirtual 89, 3) := by decide +kernel
theorem dL_simulate_9 : decode cL_simulate 9 = .ok (.i2l, 1) := by decide +kernel
theorem dL_simulate_10 : decode cL_simulate 10 = .ok (.lastore, 1) := by decide +kernel
theorem dL_simulate_11 : decode cL_simulate 11 = .ok (.goto 7, 3) := by decide +kernel
theorem dL_simulate_14 : decode cL_simulate 14 = .ok (.astore 5, 2) := by decide +kernel
theorem dL_simulate_16 : decode cL_simulate 16 = .ok (.iconst 1, 1) := by decide +kernel
theorem dL_simulate_17 : decode cL_simulate 17 = .ok (.ireturn, 1) := by decide +kernel
theorem dL_simulate_18 : decode cL_simulate 18 = .ok (.iconst 0, 1) := by decide +kernel
theorem dL_simulate_19 : decode cL_simulate 19 = .ok (.ireturn, 1) := by decide +kernel
set_option maxRecDepth 20000 in
theorem ggL_save_X6_save : GoodIn wsL_save wsX6_save := goodIn_ca (goodIn_r _ [6, 7, 8, 9, 10, 5, 11, 12, 13, 14, 15, 16, 17, 18, 19, 20, 21, 22, 23, 24, 25, 26, 27, 28, 29, 30, 31, 32, 33, 34, 35, 36, 37, 38, 39, 40, 41, 42, 43] (by decide +kernel) (by decide +kernel)) (goodIn_sub (fun _ h => List.mem_cons_of_mem _ (List.mem_append_right _ h)) (by decide +kernel))
set_option maxRecDepth 20000 in
theorem gL_save_X6_save : GoodIn wsL_save (wsV RL 93 RX6 yX6_save wsX6_save) := goodIn_app (goodIn_of _ (by decide +kernel)) ggL_save_X6_save
theorem dL_save_0 : decode cL_save 0 = .ok (.aload_n 2, 1) := by decide +kernel
theorem dL_save_1 : decode cL_save 1 = .ok (.iconst 0, 1) := by decide +kernel
theorem dL_save_2 : decode cL_save 2 = .ok (.aload_n 0, 1) := by decide +kernel
theorem dL_save_3 : decode cL_save 3 = .ok (.iload_n 1, 1) := by decide +kernel
theorem dL_save_4 : decode cL_save 4 = .ok (.invokevirtual 93, 3) := by decide +kernel
theorem dL_save_7 : decode cL_save 7 = .ok (.i2l, 1) := by decide +kernel
theorem dL_save_8 : decode cL_save 8 = .ok (.lastore, 1) := by decide +kernel
theorem dL_save_9 : decode cL_save 9 = .ok (.goto 6, 3) := by decide +kernel
theorem dL_save_12 : decode cL_save 12 = .ok (.astore_n 3, 1) := by decide +kernel
theorem dL_save_13 : decode cL_save 13 = .ok (.iconst 1, 1) := by decide +kernel
theorem dL_save_14 : decode cL_save 14 = .ok (.ireturn, 1) := by decide +kernel
theorem dL_save_15 : decode cL_save 15 = .ok (.iconst 0, 1) := by decide +kernel
theorem dL_save_16 : decode cL_save 16 = .ok (.ireturn, 1) := by decide +kernel
set_option maxRecDepth 20000 in
theorem ggL_restore_X6_restore : GoodIn wsL_restore wsX6_restore := goodIn_ca (goodIn_ca (goodIn_r _ [7, 8, 9, 10, 11, 12, 13, 6, 14, 15, 16, 17, 18, 19, 20, 21, 22, 23, 24, 25, 26, 27, 28, 29, 30, 31, 32, 33, 34, 35, 36, 37, 38, 39, 40, 41, 42, 43, 44, 45, 46, 47, 48, 49, 50, 51, 52, 53, 54, 55, 56, 57, 58, 59] (by decide +kernel) (by decide +kernel)) (goodIn_sub (fun _ h => List.mem_cons_of_mem _ (List.mem_append_left _ (List.mem_append_right _ h))) (by decide +kernel))) (goodIn_sub (fun _ h => List.mem_cons_of_mem _ (List.mem_append_right _ h)) (by decide +kernel))
set_option maxRecDepth 20000 in
theorem gL_restore_X6_restore : GoodIn wsL_restore (wsV RL 96 RX6 yX6_restore wsX6_restore) := goodIn_app (goodIn_of _ (by decide +kernel)) ggL_restore_X6_restore
theorem dL_restore_0 : decode cL_restore 0 = .ok (.aload_n 2, 1) := by decide +kernel
theorem dL_restore_1 : decode cL_restore 1 = .ok (.iconst 0, 1) := by decide +kernel
theorem dL_restore_2 : decode cL_restore 2 = .ok (.aload_n 0, 1) := by decide +kernel
theorem dL_restore_3 : decode cL_restore 3 = .ok (.iload_n 1, 1) := by decide +kernel
theorem dL_restore_4 : decode cL_restore 4 = .ok (.invokevirtual 96, 3) := by decide +kernel
theorem dL_restore_7 : decode cL_restore 7 = .ok (.i2l, 1) := by decide +kernel
theorem dL_restore_8 : decode cL_restore 8 = .ok (.lastore, 1) := by decide +kernel
theorem dL_restore_9 : decode cL_restore 9 = .ok (.goto 9, 3) := by decide +kernel
theorem dL_restore_12 : decode cL_restore 12 = .ok (.astore_n 3, 1) := by decide +kernel
theorem dL_restore_13 : decode cL_restore 13 = .ok (.iconst 1, 1) := by decide +kernel
theorem dL_restore_14 : decode cL_restore 14 = .ok (.ireturn, 1) := by decide +kernel
theorem dL_restore_15 : decode cL_restore 15 = .ok (.astore_n 3, 1) := by decide +kernel
theorem dL_restore_16 : decode cL_restore 16 = .ok (.iconst 2, 1) := by decide +kernel
theorem dL_restore_17 : decode cL_restore 17 = .ok (.ireturn, 1) := by decide +kernel
theorem dL_restore_18 : decode cL_restore 18 = .ok (.iconst 0, 1) := by decide +kernel
theorem dL_restore_19 : decode cL_restore 19 = .ok (.ireturn, 1) := by decide +kernel
set_option maxRecDepth 20000 in
theorem ggL_law_X6_init : GoodIn wsL_law wsX6_init := goodIn_r _ [10, 11, 12, 13, 14, 15, 16, 17, 18, 19, 20, 21, 22, 23, 24, 25, 26, 27, 28, 29, 30, 31, 32, 33, 34, 35, 36, 37, 38, 39, 40, 41, 42, 43, 44, 45, 46, 47, 48, 49, 6, 50, 51, 52, 53, 54, 55, 56, 57, 58, 59, 60, 61, 62, 63, 64, 65, 66, 67, 68, 69, 70, 71, 72, 73, 74, 75, 76, 839, 840, 841, 842, 843, 844, 845, 822, 823, 824, 825, 826, 846, 847, 848, 849, 850, 851, 852, 853, 854, 855, 856, 857, 858, 859, 860, 861] (by decide +kernel) (by decide +kernel)
set_option maxRecDepth 20000 in
theorem gL_law_X6_init : GoodIn wsL_law (wsX6_init) := ggL_law_X6_init
set_option maxRecDepth 20000 in
theorem ggL_law_X7_init : GoodIn wsL_law wsX7_init := goodIn_r _ [79, 80, 12, 13, 47, 81, 82, 83, 34, 84, 85, 86, 87, 88, 89, 90, 827, 828, 829, 830, 831, 832, 833, 834, 835, 836, 837, 838] (by decide +kernel) (by decide +kernel)
set_option maxRecDepth 20000 in
theorem gL_law_X7_init : GoodIn wsL_law (wsX7_init) := ggL_law_X7_init
set_option maxRecDepth 20000 in
theorem ggL_law_L_append : GoodIn wsL_law wsL_append := goodIn_ca (goodIn_ca (goodIn_r _ [94, 95, 96, 97, 98, 99, 2, 100, 101, 102, 103, 104, 17, 105, 106, 107, 108, 109, 110, 16, 111, 112, 35, 822, 823, 824, 825, 826, 839, 840, 841, 842, 843, 844, 845] (by decide +kernel) (by decide +kernel)) (goodIn_sub (fun _ h => List.mem_append_left _ (List.mem_append_left _ (List.mem_append_right _ h))) (by decide +kernel))) (goodIn_sub (fun _ h => List.mem_append_left _ (List.mem_append_right _ h)) (by decide +kernel))
set_option maxRecDepth 20000 in
theorem gL_law_L_append : GoodIn wsL_law (va_wsS RL 103 yL_append wsL_append) := goodIn_app (goodIn_of _ (by decide +kernel)) ggL_law_L_append
set_option maxRecDepth 20000 in
theorem ggL_law_X7_append : GoodIn wsL_law wsX7_append := goodIn_r _ [116, 117, 84, 118, 119, 5, 120, 121, 122, 123, 124, 125, 827, 828, 829, 830, 831, 832, 833, 834, 835, 836, 837, 838] (by decide +kernel) (by decide +kernel)
set_option maxRecDepth 20000 in
theorem gL_law_X7_append : GoodIn wsL_law (wsV RL 108 RX7 yX7_append wsX7_append) := goodIn_app (goodIn_of _ (by decide +kernel)) ggL_law_X7_append
set_option maxRecDepth 20000 in
theorem ggL_law_X7_thrown : GoodIn wsL_law wsX7_thrown := goodIn_r _ [129, 125, 827, 828, 829, 830, 831, 832, 833, 834, 835, 836, 837, 838] (by decide +kernel) (by decide +kernel)
set_option maxRecDepth 20000 in
theorem gL_law_X7_thrown : GoodIn wsL_law (wsV RL 109 RX7 yX7_thrown wsX7_thrown) := goodIn_app (goodIn_of _ (by decide +kernel)) ggL_law_X7_thrown
set_option maxRecDepth 20000 in
theorem ggL_law_X6_clearText : GoodIn wsL_law wsX6_clearText := goodIn_r _ [133, 17, 822, 823, 824, 825, 826, 839, 840, 841, 842, 843, 844, 845] (by decide +kernel) (by decide +kernel)
set_option maxRecDepth 20000 in
theorem gL_law_X6_clearText : GoodIn wsL_law (wsV RL 112 RX6 yX6_clearText wsX6_clearText) := goodIn_app (goodIn_of _ (by decide +kernel)) ggL_law_X6_clearText
set_option maxRecDepth 20000 in
theorem ggL_law_X7_clearText : GoodIn wsL_law wsX7_clearText := goodIn_r _ [137, 125, 117, 827, 828, 829, 830, 831, 832, 833, 834, 835, 836, 837, 838] (by decide +kernel) (by decide +kernel)
set_option maxRecDepth 20000 in
theorem gL_law_X7_clearText : GoodIn wsL_law (wsV RL 115 RX7 yX7_clearText wsX7_clearText) := goodIn_app (goodIn_of _ (by decide +kernel)) ggL_law_X7_clearText
set_option maxRecDepth 20000 in
theorem ggL_law_X6_errorPosition : GoodIn wsL_law wsX6_errorPosition := goodIn_r _ [141, 17, 142, 143, 144, 16, 145, 146, 147, 148, 149, 150, 151, 152, 153, 154, 155, 156, 112, 35, 157, 158, 159, 160, 161, 162, 163, 164, 165, 166, 167, 168, 169, 170, 171, 172, 173, 174, 175, 176, 177, 178, 179, 180, 181, 182, 183, 184, 185, 186, 187, 188, 189, 190, 191, 192, 193, 194, 195, 196, 197, 198, 199, 200, 201, 202, 203, 204, 205, 206, 207, 208, 209, 210, 211, 212, 213, 214, 215, 216, 217, 218, 219, 220, 221, 222, 223, 106, 2, 107, 822, 823, 824, 825, 826, 839, 840, 841, 842, 843, 844, 845] (by decide +kernel) (by decide +kernel)
set_option maxRecDepth 20000 in
theorem gL_law_X6_errorPosition : GoodIn wsL_law (wsV RL 116 RX6 yX6_errorPosition wsX6_errorPosition) := goodIn_app (goodIn_of _ (by decide +kernel)) ggL_law_X6_errorPosition
set_option maxRecDepth 20000 in
theorem ggL_law_X7_errorPosition : GoodIn wsL_law wsX7_errorPosition := goodIn_r _ [227, 125, 228, 229, 230, 5, 231, 117, 232, 233, 234, 235, 84, 236, 237, 238, 118, 119, 120, 239, 240, 241, 242, 81, 243, 244, 245, 246, 247, 248, 249, 250, 251, 87, 252, 253, 254, 255, 827, 828, 829, 830, 831, 832, 833, 834, 835, 836, 837, 838] (by decide +kernel) (by decide +kernel)
set_option maxRecDepth 20000 in
theorem gL_law_X7_errorPosition : GoodIn wsL_law (wsV RL 119 RX7 yX7_errorPosition wsX7_errorPosition) := goodIn_app (goodIn_of _ (by decide +kernel)) ggL_law_X7_errorPosition
set_option maxRecDepth 20000 in
theorem ggL_law_L_load : GoodIn wsL_law wsL_load := goodIn_ca (goodIn_r _ [258, 96, 259, 260, 261, 2, 262, 103, 104, 17, 25, 21, 142, 143, 144, 16, 145, 146, 147, 148, 149, 150, 151, 152, 153, 154, 155, 156, 112, 35, 157, 158, 159, 160, 161, 162, 163, 164, 165, 166, 167, 168, 169, 170, 171, 172, 173, 174, 175, 176, 177, 178, 179, 180, 181, 182, 183, 184, 185, 186, 187, 188, 189, 190, 191, 192, 193, 194, 195, 196, 197, 198, 199, 200, 201, 202, 203, 204, 205, 206, 207, 208, 209, 210, 211, 212, 213, 214, 215, 216, 217, 218, 219, 220, 221, 222, 223, 106, 107, 263, 264, 265, 24, 266, 267, 66, 268, 52, 53, 20, 54, 55, 56, 57, 58, 59, 60, 61, 62, 269, 270, 271, 272, 273, 274, 275, 276, 277, 278, 279, 280, 281, 282, 283, 284, 285, 286, 287, 288, 289, 290, 822, 823, 824, 825, 826, 839, 840, 841, 842, 843, 844, 845, 851, 852, 853, 854, 855, 846, 847, 848, 849, 850] (by decide +kernel) (by decide +kernel)) (goodIn_sub (fun _ h => List.mem_append_left _ (List.mem_append_right _ h)) (by decide +kernel))
set_option maxRecDepth 20000 in
theorem gL_law_L_load : GoodIn wsL_law (va_wsS RL 120 yL_load wsL_load) := goodIn_app (goodIn_of _ (by decide +kernel)) ggL_law_L_load
set_option maxRecDepth 20000 in
theorem ggL_law_X7_load : GoodIn wsL_law wsX7_load := goodIn_r _ [294, 295, 83, 243, 228, 229, 230, 5, 231, 117, 232, 233, 234, 235, 84, 236, 237, 238, 118, 119, 120, 239, 240, 241, 242, 81, 244, 245, 246, 247, 248, 249, 250, 251, 87, 252, 253, 254, 255, 121, 122, 123, 124, 125, 827, 828, 829, 830, 831, 832, 833, 834, 835, 836, 837, 838] (by decide +kernel) (by decide +kernel)
set_option maxRecDepth 20000 in
theorem gL_law_X7_load : GoodIn wsL_law (wsV RL 123 RX7 yX7_load wsX7_load) := goodIn_app (goodIn_of _ (by decide +kernel)) ggL_law_X7_load
set_option maxRecDepth 20000 in
theorem ggL_law_L_about : GoodIn wsL_law wsL_about := goodIn_ca (goodIn_r _ [298, 95, 299, 300, 301, 2, 302, 101, 102, 21, 303, 304, 305, 20, 306, 62, 43, 59, 60, 307, 308, 309, 42, 310, 311, 312, 313, 163, 164, 165, 314, 315, 316, 317, 48, 50, 318, 49, 319, 320, 321, 322, 323, 324, 325, 326, 61, 287, 288, 289, 290, 327, 328, 329, 330, 331, 332, 333, 334, 335, 336, 337, 338, 339, 340, 341, 342, 343, 344, 345, 346, 347, 348, 349, 350, 351, 352, 353, 354, 355, 356, 357, 358, 106, 107, 359, 284, 285, 286, 360, 822, 823, 824, 825, 826, 846, 847, 848, 849, 850, 857, 858, 859, 860, 861] (by decide +kernel) (by decide +kernel)) (goodIn_sub (fun _ h => List.mem_append_left _ (List.mem_append_left _ (List.mem_append_right _ h))) (by decide +kernel))
set_option maxRecDepth 20000 in
theorem gL_law_L_about : GoodIn wsL_law (va_wsS RL 124 yL_about wsL_about) := goodIn_app (goodIn_of _ (by decide +kernel)) ggL_law_L_about
set_option maxRecDepth 20000 in
theorem ggL_law_X7_about : GoodIn wsL_law wsX7_about := goodIn_r _ [364, 81, 365, 87, 118, 119, 5, 120, 121, 122, 123, 124, 125, 366, 367, 368, 369, 89, 370, 371, 372, 373, 374, 375, 376, 377, 378, 379, 380, 381, 88, 382, 383, 384, 385, 248, 249, 250, 251, 827, 828, 829, 830, 831, 832, 833, 834, 835, 836, 837, 838] (by decide +kernel) (by decide +kernel)
set_option maxRecDepth 20000 in
theorem gL_law_X7_about : GoodIn wsL_law (wsV RL 126 RX7 yX7_about wsX7_about) := goodIn_app (goodIn_of _ (by decide +kernel)) ggL_law_X7_about
set_option maxRecDepth 20000 in
theorem ggL_law_L_quotient : GoodIn wsL_law wsL_quotient := goodIn_ca (goodIn_r _ [388, 389, 390, 391, 392, 2, 393, 21, 394, 395, 396, 397, 398, 399, 303, 304, 305, 20, 306, 62, 43, 59, 60, 307, 308, 309, 42, 310, 311, 312, 313, 163, 164, 165, 314, 315, 316, 317, 48, 50, 318, 49, 319, 320, 321, 322, 323, 324, 325, 326, 61, 287, 288, 289, 290, 327, 328, 329, 330, 331, 332, 333, 334, 335, 336, 337, 338, 400, 822, 823, 824, 825, 826, 857, 858, 859, 860, 861, 846, 847, 848, 849, 850] (by decide +kernel) (by decide +kernel)) (goodIn_sub (fun _ h => List.mem_append_right _ h) (by decide +kernel))
set_option maxRecDepth 20000 in
theorem gL_law_L_quotient : GoodIn wsL_law (va_wsS RL 127 yL_quotient wsL_quotient) := goodIn_app (goodIn_of _ (by decide +kernel)) ggL_law_L_quotient
set_option maxRecDepth 20000 in
theorem ggL_law_X7_quotient : GoodIn wsL_law wsX7_quotient := goodIn_r _ [404, 89, 405, 406, 407, 5, 408, 365, 366, 367, 368, 369, 81, 118, 119, 120, 121, 122, 123, 124, 125, 827, 828, 829, 830, 831, 832, 833, 834, 835, 836, 837, 838] (by decide +kernel) (by decide +kernel)
set_option maxRecDepth 20000 in
theorem gL_law_X7_quotient : GoodIn wsL_law (wsV RL 129 RX7 yX7_quotient wsX7_quotient) := goodIn_app (goodIn_of _ (by decide +kernel)) ggL_law_X7_quotient
set_option maxRecDepth 20000 in
theorem ggL_law_X6_quotientOf : GoodIn wsL_law wsX6_quotientOf := goodIn_r _ [412, 21, 303, 304, 305, 20, 306, 62, 43, 59, 60, 307, 308, 309, 42, 310, 311, 312, 313, 163, 164, 165, 314, 315, 316, 317, 48, 50, 318, 49, 319, 320, 321, 322, 323, 324, 325, 326, 61, 287, 288, 289, 290, 327, 328, 329, 330, 331, 332, 333, 334, 335, 336, 337, 338, 413, 822, 823, 824, 825, 826, 846, 847, 848, 849, 850, 857, 858, 859, 860, 861] (by decide +kernel) (by decide +kernel)
set_option maxRecDepth 20000 in
theorem gL_law_X6_quotientOf : GoodIn wsL_law (wsV RL 130 RX6 yX6_quotientOf wsX6_quotientOf) := goodIn_app (goodIn_of _ (by decide +kernel)) ggL_law_X6_quotientOf
set_option maxRecDepth 20000 in
theorem ggL_law_X7_quotientOf : GoodIn wsL_law wsX7_quotientOf := goodIn_r _ [417, 125, 418, 419, 420, 5, 421, 365, 89, 366, 367, 368, 369, 81, 827, 828, 829, 830, 831, 832, 833, 834, 835, 836, 837, 838] (by decide +kernel) (by decide +kernel)
set_option maxRecDepth 20000 in
theorem gL_law_X7_quotientOf : GoodIn wsL_law (wsV RL 133 RX7 yX7_quotientOf wsX7_quotientOf) := goodIn_app (goodIn_of _ (by decide +kernel)) ggL_law_X7_quotientOf
set_option maxRecDepth 20000 in
theorem ggL_law_L_left : GoodIn wsL_law wsL_left := goodIn_ca (goodIn_r _ [424, 389, 425, 426, 427, 2, 428, 21, 394, 395, 396, 397, 398, 399, 303, 304, 305, 20, 306, 62, 43, 59, 60, 307, 308, 309, 42, 310, 311, 312, 313, 163, 164, 165, 314, 315, 316, 317, 48, 50, 318, 49, 319, 320, 321, 322, 323, 324, 325, 326, 61, 287, 288, 289, 290, 327, 328, 329, 330, 331, 332, 333, 334, 335, 336, 337, 338, 429, 352, 353, 354, 355, 356, 357, 358, 106, 107, 822, 823, 824, 825, 826, 857, 858, 859, 860, 861, 846, 847, 848, 849, 850] (by decide +kernel) (by decide +kernel)) (goodIn_sub (fun _ h => List.mem_append_right _ h) (by decide +kernel))
set_option maxRecDepth 20000 in
theorem gL_law_L_left : GoodIn wsL_law (va_wsS RL 134 yL_left wsL_left) := goodIn_app (goodIn_of _ (by decide +kernel)) ggL_law_L_left
set_option maxRecDepth 20000 in
theorem ggL_law_X7_left : GoodIn wsL_law wsX7_left := goodIn_r _ [433, 89, 405, 406, 407, 5, 408, 365, 366, 367, 368, 369, 81, 118, 119, 120, 121, 122, 123, 124, 125, 378, 379, 380, 381, 88, 87, 382, 383, 384, 385, 827, 828, 829, 830, 831, 832, 833, 834, 835, 836, 837, 838] (by decide +kernel) (by decide +kernel)
set_option maxRecDepth 20000 in
theorem gL_law_X7_left : GoodIn wsL_law (wsV RL 136 RX7 yX7_left wsX7_left) := goodIn_app (goodIn_of _ (by decide +kernel)) ggL_law_X7_left
set_option maxRecDepth 20000 in
theorem ggL_law_L_sumLeft : GoodIn wsL_law wsL_sumLeft := goodIn_ca (goodIn_r _ [436, 389, 437, 438, 439, 2, 440, 21, 394, 395, 396, 397, 398, 399, 303, 304, 305, 20, 306, 62, 43, 59, 60, 307, 308, 309, 42, 310, 311, 312, 313, 163, 164, 165, 314, 315, 316, 317, 48, 50, 318, 49, 319, 320, 321, 322, 323, 324, 325, 326, 61, 287, 288, 289, 290, 327, 328, 329, 330, 331, 332, 333, 334, 335, 336, 337, 338, 441, 442, 443, 444, 822, 823, 824, 825, 826, 857, 858, 859, 860, 861, 846, 847, 848, 849, 850] (by decide +kernel) (by decide +kernel)) (goodIn_sub (fun _ h => List.mem_append_right _ h) (by decide +kernel))
set_option maxRecDepth 20000 in
theorem gL_law_L_sumLeft : GoodIn wsL_law (va_wsS RL 137 yL_sumLeft wsL_sumLeft) := goodIn_app (goodIn_of _ (by decide +kernel)) ggL_law_L_sumLeft
set_option maxRecDepth 20000 in
theorem ggL_law_X7_sumLeft : GoodIn wsL_law wsX7_sumLeft := goodIn_r _ [448, 89, 88, 405, 406, 407, 5, 408, 365, 366, 367, 368, 369, 81, 118, 119, 120, 121, 122, 123, 124, 125, 378, 379, 380, 381, 87, 827, 828, 829, 830, 831, 832, 833, 834, 835, 836, 837, 838] (by decide +kernel) (by decide +kernel)
set_option maxRecDepth 20000 in
theorem gL_law_X7_sumLeft : GoodIn wsL_law (wsV RL 139 RX7 yX7_sumLeft wsX7_sumLeft) := goodIn_app (goodIn_of _ (by decide +kernel)) ggL_law_X7_sumLeft
set_option maxRecDepth 20000 in
theorem ggL_law_L_restLeft : GoodIn wsL_law wsL_restLeft := goodIn_ca (goodIn_ca (goodIn_r _ [451, 389, 95, 452, 453, 454, 2, 455, 101, 102, 21, 394, 395, 396, 397, 398, 399, 303, 304, 305, 20, 306, 62, 43, 59, 60, 307, 308, 309, 42, 310, 311, 312, 313, 163, 164, 165, 314, 315, 316, 317, 48, 50, 318, 49, 319, 320, 321, 322, 323, 324, 325, 326, 61, 287, 288, 289, 290, 327, 328, 329, 330, 331, 332, 333, 334, 335, 336, 337, 338, 105, 106, 107, 456, 356, 357, 358, 822, 823, 824, 825, 826, 857, 858, 859, 860, 861, 846, 847, 848, 849, 850] (by decide +kernel) (by decide +kernel)) (goodIn_sub (fun _ h => List.mem_append_left _ (List.mem_append_left _ (List.mem_append_right _ h))) (by decide +kernel))) (goodIn_sub (fun _ h => List.mem_append_right _ h) (by decide +kernel))
set_option maxRecDepth 20000 in
theorem gL_law_L_restLeft : GoodIn wsL_law (va_wsS RL 140 yL_restLeft wsL_restLeft) := goodIn_app (goodIn_of _ (by decide +kernel)) ggL_law_L_restLeft
set_option maxRecDepth 20000 in
theorem ggL_law_X7_restLeft : GoodIn wsL_law wsX7_restLeft := goodIn_r _ [460, 89, 88, 405, 406, 407, 5, 408, 365, 366, 367, 368, 369, 81, 118, 119, 120, 121, 122, 123, 124, 125, 378, 379, 380, 381, 87, 827, 828, 829, 830, 831, 832, 833, 834, 835, 836, 837, 838] (by decide +kernel) (by decide +kernel)
set_option maxRecDepth 20000 in
theorem gL_law_X7_restLeft : GoodIn wsL_law (wsV RL 143 RX7 yX7_restLeft wsX7_restLeft) := goodIn_app (goodIn_of _ (by decide +kernel)) ggL_law_X7_restLeft
set_option maxRecDepth 20000 in
theorem ggL_law_L_came : GoodIn wsL_law wsL_came := goodIn_ca (goodIn_r _ [463, 95, 464, 465, 466, 2, 467, 101, 102, 21, 360, 288, 289, 20, 290, 468, 324, 325, 326, 61, 822, 823, 824, 825, 826, 846, 847, 848, 849, 850] (by decide +kernel) (by decide +kernel)) (goodIn_sub (fun _ h => List.mem_append_left _ (List.mem_append_left _ (List.mem_append_right _ h))) (by decide +kernel))
set_option maxRecDepth 20000 in
theorem gL_law_L_came : GoodIn wsL_law (va_wsS RL 144 yL_came wsL_came) := goodIn_app (goodIn_of _ (by decide +kernel)) ggL_law_L_came
set_option maxRecDepth 20000 in
theorem ggL_law_X7_came : GoodIn wsL_law wsX7_came := goodIn_r _ [472, 81, 87, 121, 122, 123, 5, 124, 125, 827, 828, 829, 830, 831, 832, 833, 834, 835, 836, 837, 838] (by decide +kernel) (by decide +kernel)
set_option maxRecDepth 20000 in
theorem gL_law_X7_came : GoodIn wsL_law (wsV RL 146 RX7 yX7_came wsX7_came) := goodIn_app (goodIn_of _ (by decide +kernel)) ggL_law_X7_came
set_option maxRecDepth 20000 in
theorem ggL_law_L_bound : GoodIn wsL_law wsL_bound := goodIn_ca (goodIn_r _ [475, 95, 476, 477, 478, 2, 479, 101, 102, 480, 25, 21, 105, 106, 107, 481, 482, 483, 24, 484, 485, 267, 486, 487, 164, 488, 489, 490, 491, 492, 66, 67, 68, 268, 52, 53, 20, 54, 55, 56, 57, 58, 59, 60, 61, 62, 822, 823, 824, 825, 826, 846, 847, 848, 849, 850, 851, 852, 853, 854, 855] (by decide +kernel) (by decide +kernel)) (goodIn_sub (fun _ h => List.mem_append_left _ (List.mem_append_left _ (List.mem_append_right _ h))) (by decide +kernel))
set_option maxRecDepth 20000 in
theorem gL_law_L_bound : GoodIn wsL_law (va_wsS RL 147 yL_bound wsL_bound) := goodIn_app (goodIn_of _ (by decide +kernel)) ggL_law_L_bound
set_option maxRecDepth 20000 in
theorem ggL_law_X7_bound : GoodIn wsL_law wsX7_bound := goodIn_r _ [496, 90, 81, 118, 119, 5, 120, 121, 122, 123, 124, 125, 497, 498, 499, 500, 295, 501, 502, 503, 504, 244, 245, 246, 247, 827, 828, 829, 830, 831, 832, 833, 834, 835, 836, 837, 838] (by decide +kernel) (by decide +kernel)
set_option maxRecDepth 20000 in
theorem gL_law_X7_bound : GoodIn wsL_law (wsV RL 149 RX7 yX7_bound wsX7_bound) := goodIn_app (goodIn_of _ (by decide +kernel)) ggL_law_X7_bound
set_option maxRecDepth 20000 in
theorem ggL_law_L_strike : GoodIn wsL_law wsL_strike := goodIn_ca (goodIn_r _ [507, 96, 508, 509, 510, 2, 511, 25, 21, 512, 513, 514, 515, 103, 104, 359, 284, 285, 20, 286, 60, 59, 287, 288, 289, 290, 481, 482, 483, 24, 484, 485, 267, 486, 487, 164, 488, 489, 490, 491, 492, 66, 67, 68, 106, 107, 346, 347, 348, 349, 350, 304, 305, 306, 62, 43, 307, 308, 309, 42, 310, 311, 312, 313, 163, 165, 314, 315, 316, 317, 48, 50, 318, 49, 319, 320, 321, 322, 323, 324, 325, 326, 61, 327, 328, 329, 330, 331, 332, 333, 334, 335, 336, 337, 338, 351, 352, 353, 354, 355, 356, 357, 358, 279, 280, 281, 282, 283, 822, 823, 824, 825, 826, 846, 847, 848, 849, 850, 851, 852, 853, 854, 855, 857, 858, 859, 860, 861] (by decide +kernel) (by decide +kernel)) (goodIn_sub (fun _ h => List.mem_append_left _ (List.mem_append_right _ h)) (by decide +kernel))
set_option maxRecDepth 20000 in
theorem gL_law_L_strike : GoodIn wsL_law (va_wsS RL 150 yL_strike wsL_strike) := goodIn_app (goodIn_of _ (by decide +kernel)) ggL_law_L_strike
set_option maxRecDepth 20000 in
theorem ggL_law_X7_strike : GoodIn wsL_law wsX7_strike := goodIn_r _ [519, 81, 248, 249, 250, 5, 251, 87, 121, 122, 123, 124, 125, 497, 498, 499, 500, 295, 501, 502, 503, 504, 378, 379, 380, 381, 88, 382, 383, 384, 385, 252, 253, 254, 255, 827, 828, 829, 830, 831, 832, 833, 834, 835, 836, 837, 838] (by decide +kernel) (by decide +kernel)
set_option maxRecDepth 20000 in
theorem gL_law_X7_strike : GoodIn wsL_law (wsV RL 152 RX7 yX7_strike wsX7_strike) := goodIn_app (goodIn_of _ (by decide +kernel)) ggL_law_X7_strike
set_option maxRecDepth 20000 in
theorem ggL_law_L_spare : GoodIn wsL_law wsL_spare := goodIn_ca (goodIn_r _ [522, 96, 523, 524, 525, 2, 526, 25, 21, 512, 513, 514, 515, 103, 104, 359, 284, 285, 20, 286, 60, 59, 287, 288, 289, 290, 481, 482, 483, 24, 484, 485, 267, 486, 487, 164, 488, 489, 490, 491, 492, 66, 67, 68, 106, 107, 279, 280, 281, 282, 61, 283, 822, 823, 824, 825, 826, 846, 847, 848, 849, 850, 851, 852, 853, 854, 855] (by decide +kernel) (by decide +kernel)) (goodIn_sub (fun _ h => List.mem_append_left _ (List.mem_append_right _ h)) (by decide +kernel))
set_option maxRecDepth 20000 in
theorem gL_law_L_spare : GoodIn wsL_law (va_wsS RL 153 yL_spare wsL_spare) := goodIn_app (goodIn_of _ (by decide +kernel)) ggL_law_L_spare
set_option maxRecDepth 20000 in
theorem ggL_law_X7_spare : GoodIn wsL_law wsX7_spare := goodIn_r _ [530, 87, 81, 248, 249, 250, 5, 251, 121, 122, 123, 124, 125, 497, 498, 499, 500, 295, 501, 502, 503, 504, 252, 253, 254, 255, 827, 828, 829, 830, 831, 832, 833, 834, 835, 836, 837, 838] (by decide +kernel) (by decide +kernel)
set_option maxRecDepth 20000 in
theorem gL_law_X7_spare : GoodIn wsL_law (wsV RL 155 RX7 yX7_spare wsX7_spare) := goodIn_app (goodIn_of _ (by decide +kernel)) ggL_law_X7_spare
set_option maxRecDepth 20000 in
theorem ggL_law_L_strikeTo : GoodIn wsL_law wsL_strikeTo := goodIn_ca (goodIn_r _ [533, 95, 534, 535, 536, 2, 537, 101, 102, 480, 25, 21, 105, 106, 107, 481, 482, 483, 24, 484, 485, 267, 486, 487, 164, 488, 489, 490, 491, 492, 66, 67, 68, 538, 539, 540, 20, 541, 283, 284, 285, 286, 60, 59, 287, 288, 289, 290, 542, 280, 281, 282, 61, 822, 823, 824, 825, 826, 851, 852, 853, 854, 855, 846, 847, 848, 849, 850] (by decide +kernel) (by decide +kernel)) (goodIn_sub (fun _ h => List.mem_append_left _ (List.mem_append_left _ (List.mem_append_right _ h))) (by decide +kernel))
set_option maxRecDepth 20000 in
theorem gL_law_L_strikeTo : GoodIn wsL_law (va_wsS RL 156 yL_strikeTo wsL_strikeTo) := goodIn_app (goodIn_of _ (by decide +kernel)) ggL_law_L_strikeTo
set_option maxRecDepth 20000 in
theorem ggL_law_X7_strikeTo : GoodIn wsL_law wsX7_strikeTo := goodIn_r _ [546, 90, 118, 119, 5, 120, 121, 122, 123, 124, 125, 497, 498, 499, 500, 295, 501, 502, 503, 504, 81, 547, 548, 549, 550, 248, 249, 250, 251, 87, 252, 253, 254, 255, 827, 828, 829, 830, 831, 832, 833, 834, 835, 836, 837, 838] (by decide +kernel) (by decide +kernel)
set_option maxRecDepth 20000 in
theorem gL_law_X7_strikeTo : GoodIn wsL_law (wsV RL 158 RX7 yX7_strikeTo wsX7_strikeTo) := goodIn_app (goodIn_of _ (by decide +kernel)) ggL_law_X7_strikeTo
set_option maxRecDepth 20000 in
theorem ggL_law_X6_again : GoodIn wsL_law wsX6_again := goodIn_r _ [554, 25, 21, 481, 482, 483, 24, 484, 485, 267, 486, 487, 164, 488, 489, 490, 491, 492, 66, 67, 68, 106, 2, 107, 268, 52, 53, 20, 54, 55, 56, 57, 58, 59, 60, 61, 62, 822, 823, 824, 825, 826, 846, 847, 848, 849, 850, 851, 852, 853, 854, 855] (by decide +kernel) (by decide +kernel)
set_option maxRecDepth 20000 in
theorem gL_law_X6_again : GoodIn wsL_law (wsV RL 159 RX6 yX6_again wsX6_again) := goodIn_app (goodIn_of _ (by decide +kernel)) ggL_law_X6_again
set_option maxRecDepth 20000 in
theorem ggL_law_X7_again : GoodIn wsL_law wsX7_again := goodIn_r _ [558, 125, 81, 497, 498, 499, 5, 500, 295, 501, 502, 503, 504, 827, 828, 829, 830, 831, 832, 833, 834, 835, 836, 837, 838] (by decide +kernel) (by decide +kernel)
set_option maxRecDepth 20000 in
theorem gL_law_X7_again : GoodIn wsL_law (wsV RL 162 RX7 yX7_again wsX7_again) := goodIn_app (goodIn_of _ (by decide +kernel)) ggL_law_X7_again
set_option maxRecDepth 20000 in
theorem ggL_law_L_undo : GoodIn wsL_law wsL_undo := goodIn_ca (goodIn_r _ [561, 96, 562, 563, 564, 2, 565, 103, 104, 25, 21, 566, 567, 568, 24, 569, 485, 267, 570, 163, 164, 165, 571, 572, 573, 574, 66, 67, 68, 106, 107, 575, 56, 57, 20, 58, 59, 60, 61, 62, 822, 823, 824, 825, 826, 851, 852, 853, 854, 855, 846, 847, 848, 849, 850] (by decide +kernel) (by decide +kernel)) (goodIn_sub (fun _ h => List.mem_append_left _ (List.mem_append_right _ h)) (by decide +kernel))
set_option maxRecDepth 20000 in
theorem gL_law_L_undo : GoodIn wsL_law (va_wsS RL 163 yL_undo wsL_undo) := goodIn_app (goodIn_of _ (by decide +kernel)) ggL_law_L_undo
set_option maxRecDepth 20000 in
theorem ggL_law_X7_undo : GoodIn wsL_law wsX7_undo := goodIn_r _ [579, 295, 121, 122, 123, 5, 124, 125, 501, 502, 503, 504, 81, 827, 828, 829, 830, 831, 832, 833, 834, 835, 836, 837, 838] (by decide +kernel) (by decide +kernel)
set_option maxRecDepth 20000 in
theorem gL_law_X7_undo : GoodIn wsL_law (wsV RL 165 RX7 yX7_undo wsX7_undo) := goodIn_app (goodIn_of _ (by decide +kernel)) ggL_law_X7_undo
set_option maxRecDepth 20000 in
theorem ggL_law_L_wouldStrike : GoodIn wsL_law wsL_wouldStrike := goodIn_ca (goodIn_r _ [582, 389, 583, 584, 585, 2, 586, 21, 394, 395, 396, 397, 398, 399, 303, 304, 305, 20, 306, 62, 43, 59, 60, 307, 308, 309, 42, 310, 311, 312, 313, 163, 164, 165, 314, 315, 316, 317, 48, 50, 318, 49, 319, 320, 321, 322, 323, 324, 325, 326, 61, 287, 288, 289, 290, 327, 328, 329, 330, 331, 332, 333, 334, 335, 336, 337, 338, 359, 284, 285, 286, 587, 588, 589, 590, 591, 352, 353, 354, 355, 356, 357, 358, 106, 107, 822, 823, 824, 825, 826, 857, 858, 859, 860, 861, 846, 847, 848, 849, 850] (by decide +kernel) (by decide +kernel)) (goodIn_sub (fun _ h => List.mem_append_right _ h) (by decide +kernel))
set_option maxRecDepth 20000 in
theorem gL_law_L_wouldStrike : GoodIn wsL_law (va_wsS RL 166 yL_wouldStrike wsL_wouldStrike) := goodIn_app (goodIn_of _ (by decide +kernel)) ggL_law_L_wouldStrike
set_option maxRecDepth 20000 in
theorem ggL_law_X7_wouldStrike : GoodIn wsL_law wsX7_wouldStrike := goodIn_r _ [595, 89, 405, 406, 407, 5, 408, 365, 366, 367, 368, 369, 81, 118, 119, 120, 121, 122, 123, 124, 125, 378, 379, 380, 381, 88, 87, 248, 249, 250, 251, 382, 383, 384, 385, 827, 828, 829, 830, 831, 832, 833, 834, 835, 836, 837, 838] (by decide +kernel) (by decide +kernel)
set_option maxRecDepth 20000 in
theorem gL_law_X7_wouldStrike : GoodIn wsL_law (wsV RL 168 RX7 yX7_wouldStrike wsX7_wouldStrike) := goodIn_app (goodIn_of _ (by decide +kernel)) ggL_law_X7_wouldStrike
set_option maxRecDepth 20000 in
theorem ggL_law_L_primes : GoodIn wsL_law wsL_primes := goodIn_ca (goodIn_r _ [598, 95, 599, 600, 601, 2, 602, 29, 603, 604, 605, 101, 102, 480, 105, 106, 107, 606, 607, 608, 28, 609, 74, 610, 611, 612, 613, 614, 615, 616, 617, 618, 619, 620, 73, 621, 340, 341, 342, 343, 344, 345, 822, 823, 824, 825, 826, 856] (by decide +kernel) (by decide +kernel)) (goodIn_sub (fun _ h => List.mem_append_left _ (List.mem_append_left _ (List.mem_append_right _ h))) (by decide +kernel))
set_option maxRecDepth 20000 in
theorem gL_law_L_primes : GoodIn wsL_law (va_wsS RL 169 yL_primes wsL_primes) := goodIn_app (goodIn_of _ (by decide +kernel)) ggL_law_L_primes
set_option maxRecDepth 20000 in
theorem ggL_law_X7_primes : GoodIn wsL_law wsX7_primes := goodIn_r _ [625, 90, 118, 119, 5, 120, 121, 122, 123, 124, 125, 626, 627, 628, 629, 86, 827, 828, 829, 830, 831, 832, 833, 834, 835, 836, 837, 838] (by decide +kernel) (by decide +kernel)
set_option maxRecDepth 20000 in
theorem gL_law_X7_primes : GoodIn wsL_law (wsV RL 171 RX7 yX7_primes wsX7_primes) := goodIn_app (goodIn_of _ (by decide +kernel)) ggL_law_X7_primes
set_option maxRecDepth 20000 in
theorem ggL_law_L_sumOf : GoodIn wsL_law wsL_sumOf := goodIn_ca (goodIn_r _ [632, 95, 633, 634, 635, 2, 636, 29, 603, 604, 605, 101, 102, 480, 105, 106, 107, 637, 638, 639, 28, 640, 610, 611, 612, 617, 618, 619, 620, 73, 621, 340, 341, 342, 343, 344, 345, 641, 642, 643, 822, 823, 824, 825, 826, 856] (by decide +kernel) (by decide +kernel)) (goodIn_sub (fun _ h => List.mem_append_left _ (List.mem_append_left _ (List.mem_append_right _ h))) (by decide +kernel))
set_option maxRecDepth 20000 in
theorem gL_law_L_sumOf : GoodIn wsL_law (va_wsS RL 172 yL_sumOf wsL_sumOf) := goodIn_app (goodIn_of _ (by decide +kernel)) ggL_law_L_sumOf
set_option maxRecDepth 20000 in
theorem ggL_law_X7_sumOf : GoodIn wsL_law wsX7_sumOf := goodIn_r _ [647, 90, 118, 119, 5, 120, 121, 122, 123, 124, 125, 626, 627, 628, 629, 86, 827, 828, 829, 830, 831, 832, 833, 834, 835, 836, 837, 838] (by decide +kernel) (by decide +kernel)
set_option maxRecDepth 20000 in
theorem gL_law_X7_sumOf : GoodIn wsL_law (wsV RL 174 RX7 yX7_sumOf wsX7_sumOf) := goodIn_app (goodIn_of _ (by decide +kernel)) ggL_law_X7_sumOf
set_option maxRecDepth 20000 in
theorem ggL_law_L_inSpan : GoodIn wsL_law wsL_inSpan := goodIn_ca (goodIn_r _ [650, 95, 651, 652, 653, 2, 654, 29, 603, 604, 605, 101, 102, 480, 105, 106, 107, 606, 607, 608, 28, 609, 74, 610, 611, 612, 613, 614, 615, 616, 617, 618, 619, 620, 73, 621, 340, 341, 342, 343, 344, 345, 822, 823, 824, 825, 826, 856] (by decide +kernel) (by decide +kernel)) (goodIn_sub (fun _ h => List.mem_append_left _ (List.mem_append_left _ (List.mem_append_right _ h))) (by decide +kernel))
set_option maxRecDepth 20000 in
theorem gL_law_L_inSpan : GoodIn wsL_law (va_wsS RL 175 yL_inSpan wsL_inSpan) := goodIn_app (goodIn_of _ (by decide +kernel)) ggL_law_L_inSpan
set_option maxRecDepth 20000 in
theorem ggL_law_X7_inSpan : GoodIn wsL_law wsX7_inSpan := goodIn_r _ [658, 90, 118, 119, 5, 120, 121, 122, 123, 124, 125, 626, 627, 628, 629, 86, 827, 828, 829, 830, 831, 832, 833, 834, 835, 836, 837, 838] (by decide +kernel) (by decide +kernel)
set_option maxRecDepth 20000 in
theorem gL_law_X7_inSpan : GoodIn wsL_law (wsV RL 177 RX7 yX7_inSpan wsX7_inSpan) := goodIn_app (goodIn_of _ (by decide +kernel)) ggL_law_X7_inSpan
set_option maxRecDepth 20000 in
theorem ggL_law_L_byRest : GoodIn wsL_law wsL_byRest := goodIn_ca (goodIn_r _ [661, 95, 662, 663, 664, 2, 665, 101, 102, 29, 603, 604, 605, 480, 105, 106, 107, 666, 667, 668, 28, 669, 670, 671, 613, 614, 615, 616, 617, 618, 619, 620, 73, 621, 340, 341, 342, 343, 344, 345, 610, 611, 612, 822, 823, 824, 825, 826, 856] (by decide +kernel) (by decide +kernel)) (goodIn_sub (fun _ h => List.mem_append_left _ (List.mem_append_left _ (List.mem_append_right _ h))) (by decide +kernel))
set_option maxRecDepth 20000 in
theorem gL_law_L_byRest : GoodIn wsL_law (va_wsS RL 178 yL_byRest wsL_byRest) := goodIn_app (goodIn_of _ (by decide +kernel)) ggL_law_L_byRest
set_option maxRecDepth 20000 in
theorem ggL_law_X7_byRest : GoodIn wsL_law wsX7_byRest := goodIn_r _ [675, 90, 118, 119, 5, 120, 121, 122, 123, 124, 125, 626, 627, 628, 629, 86, 827, 828, 829, 830, 831, 832, 833, 834, 835, 836, 837, 838] (by decide +kernel) (by decide +kernel)
set_option maxRecDepth 20000 in
theorem gL_law_X7_byRest : GoodIn wsL_law (wsV RL 180 RX7 yX7_byRest wsX7_byRest) := goodIn_app (goodIn_of _ (by decide +kernel)) ggL_law_X7_byRest
set_option maxRecDepth 20000 in
theorem ggL_law_L_prime : GoodIn wsL_law wsL_prime := goodIn_ca (goodIn_r _ [678, 95, 679, 680, 681, 2, 682, 101, 102, 29, 105, 106, 107, 683, 684, 685, 28, 686, 73, 621, 340, 341, 342, 343, 344, 345, 641, 642, 643, 822, 823, 824, 825, 826, 856] (by decide +kernel) (by decide +kernel)) (goodIn_sub (fun _ h => List.mem_append_left _ (List.mem_append_left _ (List.mem_append_right _ h))) (by decide +kernel))
set_option maxRecDepth 20000 in
theorem gL_law_L_prime : GoodIn wsL_law (va_wsS RL 181 yL_prime wsL_prime) := goodIn_app (goodIn_of _ (by decide +kernel)) ggL_law_L_prime
set_option maxRecDepth 20000 in
theorem ggL_law_X7_prime : GoodIn wsL_law wsX7_prime := goodIn_r _ [690, 118, 119, 5, 120, 121, 122, 123, 124, 125, 626, 627, 628, 629, 86, 827, 828, 829, 830, 831, 832, 833, 834, 835, 836, 837, 838] (by decide +kernel) (by decide +kernel)
set_option maxRecDepth 20000 in
theorem gL_law_X7_prime : GoodIn wsL_law (wsV RL 183 RX7 yX7_prime wsX7_prime) := goodIn_app (goodIn_of _ (by decide +kernel)) ggL_law_X7_prime
set_option maxRecDepth 20000 in
theorem ggL_law_L_leastFactor : GoodIn wsL_law wsL_leastFactor := goodIn_ca (goodIn_r _ [693, 95, 694, 695, 696, 2, 697, 603, 604, 605, 101, 102, 480, 105, 106, 107, 698, 699, 28, 700] (by decide +kernel) (by decide +kernel)) (goodIn_sub (fun _ h => List.mem_append_left _ (List.mem_append_left _ (List.mem_append_right _ h))) (by decide +kernel))
set_option maxRecDepth 20000 in
theorem gL_law_L_leastFactor : GoodIn wsL_law (va_wsS RL 184 yL_leastFactor wsL_leastFactor) := goodIn_app (goodIn_of _ (by decide +kernel)) ggL_law_L_leastFactor
set_option maxRecDepth 20000 in
theorem ggL_law_X7_leastFactor : GoodIn wsL_law wsX7_leastFactor := goodIn_r _ [704, 90, 86, 118, 119, 5, 120, 121, 122, 123, 124, 125, 827, 828, 829, 830, 831, 832, 833, 834, 835, 836, 837, 838] (by decide +kernel) (by decide +kernel)
set_option maxRecDepth 20000 in
theorem gL_law_X7_leastFactor : GoodIn wsL_law (wsV RL 186 RX7 yX7_leastFactor wsX7_leastFactor) := goodIn_app (goodIn_of _ (by decide +kernel)) ggL_law_X7_leastFactor
set_option maxRecDepth 20000 in
theorem ggL_law_L_withLeast : GoodIn wsL_law wsL_withLeast := goodIn_ca (goodIn_r _ [707, 95, 708, 709, 710, 2, 711, 30, 712, 603, 604, 605, 101, 102, 480, 105, 106, 107, 698, 699, 28, 700, 268, 52, 53, 20, 54, 55, 56, 57, 58, 59, 60, 61, 62, 303, 304, 305, 306, 43, 307, 308, 309, 42, 310, 311, 312, 313, 163, 164, 165, 314, 315, 316, 317, 48, 50, 318, 49, 319, 320, 321, 322, 323, 324, 325, 326, 287, 288, 289, 290, 327, 328, 329, 330, 331, 332, 333, 334, 335, 336, 337, 338, 713, 429, 352, 353, 354, 355, 356, 357, 358, 822, 823, 824, 825, 826, 846, 847, 848, 849, 850, 857, 858, 859, 860, 861] (by decide +kernel) (by decide +kernel)) (goodIn_sub (fun _ h => List.mem_append_left _ (List.mem_append_left _ (List.mem_append_right _ h))) (by decide +kernel))
set_option maxRecDepth 20000 in
theorem gL_law_L_withLeast : GoodIn wsL_law (va_wsS RL 187 yL_withLeast wsL_withLeast) := goodIn_app (goodIn_of _ (by decide +kernel)) ggL_law_L_withLeast
set_option maxRecDepth 20000 in
theorem ggL_law_X7_withLeast : GoodIn wsL_law wsX7_withLeast := goodIn_r _ [717, 90, 86, 118, 119, 5, 120, 121, 122, 123, 124, 125, 827, 828, 829, 830, 831, 832, 833, 834, 835, 836, 837, 838] (by decide +kernel) (by decide +kernel)
set_option maxRecDepth 20000 in
theorem gL_law_X7_withLeast : GoodIn wsL_law (wsV RL 189 RX7 yX7_withLeast wsX7_withLeast) := goodIn_app (goodIn_of _ (by decide +kernel)) ggL_law_X7_withLeast
set_option maxRecDepth 20000 in
theorem ggL_law_L_twoFactors : GoodIn wsL_law wsL_twoFactors := goodIn_ca (goodIn_r _ [720, 95, 721, 722, 723, 2, 724, 712, 29, 603, 604, 605, 101, 102, 480, 105, 106, 107, 606, 607, 608, 28, 609, 74, 610, 611, 612, 613, 614, 615, 616, 617, 618, 619, 620, 73, 621, 340, 341, 342, 343, 344, 345, 822, 823, 824, 825, 826, 856] (by decide +kernel) (by decide +kernel)) (goodIn_sub (fun _ h => List.mem_append_left _ (List.mem_append_left _ (List.mem_append_right _ h))) (by decide +kernel))
set_option maxRecDepth 20000 in
theorem gL_law_L_twoFactors : GoodIn wsL_law (va_wsS RL 190 yL_twoFactors wsL_twoFactors) := goodIn_app (goodIn_of _ (by decide +kernel)) ggL_law_L_twoFactors
set_option maxRecDepth 20000 in
theorem ggL_law_X7_twoFactors : GoodIn wsL_law wsX7_twoFactors := goodIn_r _ [728, 90, 86, 118, 119, 5, 120, 121, 122, 123, 124, 125, 626, 627, 628, 629, 827, 828, 829, 830, 831, 832, 833, 834, 835, 836, 837, 838] (by decide +kernel) (by decide +kernel)
set_option maxRecDepth 20000 in
theorem gL_law_X7_twoFactors : GoodIn wsL_law (wsV RL 192 RX7 yX7_twoFactors wsX7_twoFactors) := goodIn_app (goodIn_of _ (by decide +kernel)) ggL_law_X7_twoFactors
set_option maxRecDepth 20000 in
theorem ggL_law_L_runScript : GoodIn wsL_law wsL_runScript := goodIn_ca (goodIn_r _ [731, 95, 732, 733, 734, 2, 735, 101, 102, 736, 30, 21, 737, 738, 105, 106, 107, 739, 740, 741, 20, 742, 59, 60, 61, 55, 56, 57, 58, 62, 743, 744, 745, 746, 268, 52, 53, 54, 279, 280, 281, 282, 283, 284, 285, 286, 287, 288, 289, 290, 538, 539, 540, 541, 542, 346, 347, 348, 349, 350, 304, 305, 306, 43, 307, 308, 309, 42, 310, 311, 312, 313, 163, 164, 165, 314, 315, 316, 317, 48, 50, 318, 49, 319, 320, 321, 322, 323, 324, 325, 326, 327, 328, 329, 330, 331, 332, 333, 334, 335, 336, 337, 338, 351, 352, 353, 354, 355, 356, 357, 358, 303, 413, 747, 748, 749, 750, 822, 823, 824, 825, 826, 846, 847, 848, 849, 850, 857, 858, 859, 860, 861] (by decide +kernel) (by decide +kernel)) (goodIn_sub (fun _ h => List.mem_append_left _ (List.mem_append_left _ (List.mem_append_right _ h))) (by decide +kernel))
set_option maxRecDepth 20000 in
theorem gL_law_L_runScript : GoodIn wsL_law (va_wsS RL 195 yL_runScript wsL_runScript) := goodIn_app (goodIn_of _ (by decide +kernel)) ggL_law_L_runScript
set_option maxRecDepth 20000 in
theorem ggL_law_X7_runScript : GoodIn wsL_law wsX7_runScript := goodIn_r _ [754, 755, 756, 757, 118, 119, 5, 120, 121, 122, 123, 124, 125, 501, 502, 503, 504, 81, 758, 759, 760, 761, 85, 244, 245, 246, 247, 248, 249, 250, 251, 87, 252, 253, 254, 255, 547, 548, 549, 550, 374, 375, 376, 377, 378, 379, 380, 381, 88, 382, 383, 384, 385, 418, 419, 420, 421, 365, 89, 366, 367, 368, 369, 762, 763, 764, 765, 827, 828, 829, 830, 831, 832, 833, 834, 835, 836, 837, 838] (by decide +kernel) (by decide +kernel)
set_option maxRecDepth 20000 in
theorem gL_law_X7_runScript : GoodIn wsL_law (wsV RL 198 RX7 yX7_runScript wsX7_runScript) := goodIn_app (goodIn_of _ (by decide +kernel)) ggL_law_X7_runScript
set_option maxRecDepth 20000 in
theorem ggL_law_L_simulate : GoodIn wsL_law wsL_simulate := goodIn_ca (goodIn_r _ [768, 95, 769, 770, 771, 2, 772, 101, 102, 30, 21, 773, 774, 105, 106, 107, 739, 740, 741, 20, 742, 59, 60, 61, 55, 56, 57, 58, 62, 775, 776, 777, 778, 268, 52, 53, 54, 279, 280, 281, 282, 283, 284, 285, 286, 287, 288, 289, 290, 346, 347, 348, 349, 350, 304, 305, 306, 43, 307, 308, 309, 42, 310, 311, 312, 313, 163, 164, 165, 314, 315, 316, 317, 48, 50, 318, 49, 319, 320, 321, 322, 323, 324, 325, 326, 327, 328, 329, 330, 331, 332, 333, 334, 335, 336, 337, 338, 351, 352, 353, 354, 355, 356, 357, 358, 822, 823, 824, 825, 826, 846, 847, 848, 849, 850, 857, 858, 859, 860, 861] (by decide +kernel) (by decide +kernel)) (goodIn_sub (fun _ h => List.mem_append_left _ (List.mem_append_left _ (List.mem_append_right _ h))) (by decide +kernel))
set_option maxRecDepth 20000 in
theorem gL_law_L_simulate : GoodIn wsL_law (va_wsS RL 199 yL_simulate wsL_simulate) := goodIn_app (goodIn_of _ (by decide +kernel)) ggL_law_L_simulate
set_option maxRecDepth 20000 in
theorem ggL_law_X7_simulate : GoodIn wsL_law wsX7_simulate := goodIn_r _ [782, 783, 784, 81, 118, 119, 5, 120, 121, 122, 123, 124, 125, 501, 502, 503, 504, 244, 245, 246, 247, 248, 249, 250, 251, 87, 252, 253, 254, 255, 374, 375, 376, 377, 378, 379, 380, 381, 88, 382, 383, 384, 385, 827, 828, 829, 830, 831, 832, 833, 834, 835, 836, 837, 838] (by decide +kernel) (by decide +kernel)
set_option maxRecDepth 20000 in
theorem gL_law_X7_simulate : GoodIn wsL_law (wsV RL 202 RX7 yX7_simulate wsX7_simulate) := goodIn_app (goodIn_of _ (by decide +kernel)) ggL_law_X7_simulate
set_option maxRecDepth 20000 in
theorem ggL_law_L_save : GoodIn wsL_law wsL_save := goodIn_ca (goodIn_r _ [787, 389, 788, 789, 790, 2, 791, 25, 21, 792, 793, 794, 398, 399, 105, 106, 107, 795, 796, 797, 24, 798, 489, 490, 491, 492, 66, 67, 68, 822, 823, 824, 825, 826, 846, 847, 848, 849, 850, 851, 852, 853, 854, 855] (by decide +kernel) (by decide +kernel)) (goodIn_sub (fun _ h => List.mem_append_right _ h) (by decide +kernel))
set_option maxRecDepth 20000 in
theorem gL_law_L_save : GoodIn wsL_law (va_wsS RL 203 yL_save wsL_save) := goodIn_app (goodIn_of _ (by decide +kernel)) ggL_law_L_save
set_option maxRecDepth 20000 in
theorem ggL_law_X7_save : GoodIn wsL_law wsX7_save := goodIn_r _ [802, 83, 81, 118, 119, 5, 120, 121, 122, 123, 124, 125, 501, 502, 503, 504, 827, 828, 829, 830, 831, 832, 833, 834, 835, 836, 837, 838] (by decide +kernel) (by decide +kernel)
set_option maxRecDepth 20000 in
theorem gL_law_X7_save : GoodIn wsL_law (wsV RL 205 RX7 yX7_save wsX7_save) := goodIn_app (goodIn_of _ (by decide +kernel)) ggL_law_X7_save
set_option maxRecDepth 20000 in
theorem ggL_law_L_restore : GoodIn wsL_law wsL_restore := goodIn_ca (goodIn_ca (goodIn_r _ [805, 389, 96, 806, 807, 808, 2, 809, 103, 104, 25, 21, 792, 793, 794, 398, 399, 105, 106, 107, 810, 811, 812, 24, 813, 66, 814, 815, 816, 817, 571, 572, 573, 574, 67, 68, 575, 56, 57, 20, 58, 59, 60, 61, 62, 822, 823, 824, 825, 826, 851, 852, 853, 854, 855, 846, 847, 848, 849, 850] (by decide +kernel) (by decide +kernel)) (goodIn_sub (fun _ h => List.mem_append_left _ (List.mem_append_right _ h)) (by decide +kernel))) (goodIn_sub (fun _ h => List.mem_append_right _ h) (by decide +kernel))
set_option maxRecDepth 20000 in
theorem gL_law_L_restore : GoodIn wsL_law (va_wsS RL 206 yL_restore wsL_restore) := goodIn_app (goodIn_of _ (by decide +kernel)) ggL_law_L_restore
set_option maxRecDepth 20000 in
theorem ggL_law_X7_restore : GoodIn wsL_law wsX7_restore := goodIn_r _ [821, 83, 295, 81, 118, 119, 5, 120, 121, 122, 123, 124, 125, 501, 502, 503, 504, 827, 828, 829, 830, 831, 832, 833, 834, 835, 836, 837, 838] (by decide +kernel) (by decide +kernel)
set_option maxRecDepth 20000 in
theorem gL_law_X7_restore : GoodIn wsL_law (wsV RL 208 RX7 yX7_restore wsX7_restore) := goodIn_app (goodIn_of _ (by decide +kernel)) ggL_law_X7_restore
theorem dL_law_0 : decode cL_law 0 = .ok (.new 8, 3) := by decide +kernel
