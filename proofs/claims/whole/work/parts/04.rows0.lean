set_option maxRecDepth 20000 in
theorem ggX0_init_X3_init : GoodIn wsX0_init wsX3_init := goodIn_r _ [9, 10, 2, 3, 11, 12, 13, 14, 15, 29, 30, 31, 32, 33] (by decide +kernel) (by decide +kernel)
set_option maxRecDepth 20000 in
theorem gX0_init_X3_init_n11 : GoodIn wsX0_init (wsX3_init) := ggX0_init_X3_init
set_option maxRecDepth 20000 in
theorem ggX0_init_X0_begin : GoodIn wsX0_init wsX0_begin := goodIn_r _ [20, 21, 22, 23, 19, 24, 25, 26, 27, 28, 34, 35, 36, 37, 38] (by decide +kernel) (by decide +kernel)
set_option maxRecDepth 20000 in
theorem gX0_init_X0_begin : GoodIn wsX0_init (wsV RX0 18 RX0 yX0_begin wsX0_begin) := goodIn_app (goodIn_of _ (by decide +kernel)) ggX0_init_X0_begin
theorem dX0_init_0 : decode cX0_init 0 = .ok (.aload_n 0, 1) := by decide +kernel
theorem dX0_init_1 : decode cX0_init 1 = .ok (.invokespecial 3, 3) := by decide +kernel
theorem dX0_init_4 : decode cX0_init 4 = .ok (.aload_n 0, 1) := by decide +kernel
theorem dX0_init_5 : decode cX0_init 5 = .ok (.new 9, 3) := by decide +kernel
theorem dX0_init_8 : decode cX0_init 8 = .ok (.dup, 1) := by decide +kernel
theorem dX0_init_9 : decode cX0_init 9 = .ok (.invokespecial 11, 3) := by decide +kernel
theorem dX0_init_12 : decode cX0_init 12 = .ok (.putfield 12, 3) := by decide +kernel
theorem dX0_init_15 : decode cX0_init 15 = .ok (.aload_n 0, 1) := by decide +kernel
theorem dX0_init_16 : decode cX0_init 16 = .ok (.bipush 100, 2) := by decide +kernel
theorem dX0_init_18 : decode cX0_init 18 = .ok (.invokevirtual 18, 3) := by decide +kernel
theorem dX0_init_21 : decode cX0_init 21 = .ok (.return_, 1) := by decide +kernel
set_option maxRecDepth 20000 in
theorem ggX0_begin_X0_show : GoodIn wsX0_begin wsX0_show := goodIn_r _ [5, 6, 7, 8, 9, 10, 11, 12, 13, 14] (by decide +kernel) (by decide +kernel)
set_option maxRecDepth 20000 in
theorem gX0_begin_X0_show : GoodIn wsX0_begin (wsV RX0 22 RX0 yX0_show wsX0_show) := goodIn_app (goodIn_of _ (by decide +kernel)) ggX0_begin_X0_show
theorem dX0_begin_0 : decode cX0_begin 0 = .ok (.aload_n 0, 1) := by decide +kernel
theorem dX0_begin_1 : decode cX0_begin 1 = .ok (.iload_n 1, 1) := by decide +kernel
theorem dX0_begin_2 : decode cX0_begin 2 = .ok (.iconst 0, 1) := by decide +kernel
theorem dX0_begin_3 : decode cX0_begin 3 = .ok (.lconst 0, 1) := by decide +kernel
theorem dX0_begin_4 : decode cX0_begin 4 = .ok (.invokevirtual 22, 3) := by decide +kernel
theorem dX0_begin_7 : decode cX0_begin 7 = .ok (.return_, 1) := by decide +kernel
theorem dX0_show_0 : decode cX0_show 0 = .ok (.aload_n 0, 1) := by decide +kernel
theorem dX0_show_1 : decode cX0_show 1 = .ok (.iload_n 1, 1) := by decide +kernel
theorem dX0_show_2 : decode cX0_show 2 = .ok (.putfield 26, 3) := by decide +kernel
theorem dX0_show_5 : decode cX0_show 5 = .ok (.aload_n 0, 1) := by decide +kernel
theorem dX0_show_6 : decode cX0_show 6 = .ok (.iload_n 2, 1) := by decide +kernel
theorem dX0_show_7 : decode cX0_show 7 = .ok (.putfield 30, 3) := by decide +kernel
theorem dX0_show_10 : decode cX0_show 10 = .ok (.aload_n 0, 1) := by decide +kernel
theorem dX0_show_11 : decode cX0_show 11 = .ok (.lload_n 3, 1) := by decide +kernel
theorem dX0_show_12 : decode cX0_show 12 = .ok (.putfield 33, 3) := by decide +kernel
theorem dX0_show_15 : decode cX0_show 15 = .ok (.aload_n 0, 1) := by decide +kernel
theorem dX0_show_16 : decode cX0_show 16 = .ok (.iconst (-1), 1) := by decide +kernel
theorem dX0_show_17 : decode cX0_show 17 = .ok (.putfield 37, 3) := by decide +kernel
theorem dX0_show_20 : decode cX0_show 20 = .ok (.return_, 1) := by decide +kernel
set_option maxRecDepth 20000 in
theorem ggX0_copyOf_X0_show : GoodIn wsX0_copyOf wsX0_show := goodIn_r _ [8, 1, 2, 3, 9, 10, 11, 12, 13, 14] (by decide +kernel) (by decide +kernel)
set_option maxRecDepth 20000 in
theorem gX0_copyOf_X0_show : GoodIn wsX0_copyOf (wsV RX0 22 RX0 yX0_show wsX0_show) := goodIn_app (goodIn_of _ (by decide +kernel)) ggX0_copyOf_X0_show
theorem dX0_copyOf_0 : decode cX0_copyOf 0 = .ok (.aload_n 0, 1) := by decide +kernel
theorem dX0_copyOf_1 : decode cX0_copyOf 1 = .ok (.aload_n 1, 1) := by decide +kernel
theorem dX0_copyOf_2 : decode cX0_copyOf 2 = .ok (.getfield 26, 3) := by decide +kernel
theorem dX0_copyOf_5 : decode cX0_copyOf 5 = .ok (.aload_n 1, 1) := by decide +kernel
theorem dX0_copyOf_6 : decode cX0_copyOf 6 = .ok (.getfield 30, 3) := by decide +kernel
theorem dX0_copyOf_9 : decode cX0_copyOf 9 = .ok (.aload_n 1, 1) := by decide +kernel
theorem dX0_copyOf_10 : decode cX0_copyOf 10 = .ok (.getfield 33, 3) := by decide +kernel
theorem dX0_copyOf_13 : decode cX0_copyOf 13 = .ok (.invokevirtual 22, 3) := by decide +kernel
theorem dX0_copyOf_16 : decode cX0_copyOf 16 = .ok (.return_, 1) := by decide +kernel
set_option maxRecDepth 20000 in
theorem ggX0_tally_X3_begin : GoodIn wsX0_tally wsX3_begin := goodIn_r _ [9, 10, 11, 12, 13, 14, 15, 16, 17, 18, 8, 19, 20, 21, 22, 23, 24, 25, 26, 27, 55, 56, 57, 58, 59] (by decide +kernel) (by decide +kernel)
set_option maxRecDepth 20000 in
theorem gX0_tally_X3_begin : GoodIn wsX0_tally (wsV RX0 40 RX3 yX3_begin wsX3_begin) := goodIn_app (goodIn_of _ (by decide +kernel)) ggX0_tally_X3_begin
set_option maxRecDepth 20000 in
theorem ggX0_tally_X0_hasStruck : GoodIn wsX0_tally wsX0_hasStruck := goodIn_r _ [32, 33, 50, 51, 52, 53, 54] (by decide +kernel) (by decide +kernel)
set_option maxRecDepth 20000 in
theorem gX0_tally_X0_hasStruck : GoodIn wsX0_tally (wsV RX0 41 RX0 yX0_hasStruck wsX0_hasStruck) := goodIn_app (goodIn_of _ (by decide +kernel)) ggX0_tally_X0_hasStruck
set_option maxRecDepth 20000 in
theorem ggX0_tally_X0_primeAt : GoodIn wsX0_tally wsX0_primeAt := goodIn_r _ [37] (by decide +kernel) (by decide +kernel)
set_option maxRecDepth 20000 in
theorem gX0_tally_X0_primeAt : GoodIn wsX0_tally (wsV RX0 45 RX0 yX0_primeAt wsX0_primeAt) := goodIn_app (goodIn_of _ (by decide +kernel)) ggX0_tally_X0_primeAt
set_option maxRecDepth 20000 in
theorem ggX0_tally_X3_remove : GoodIn wsX0_tally wsX3_remove := goodIn_r _ [41, 20, 21, 23, 42, 43, 44, 8, 45, 24, 25, 26, 27, 11, 46, 47, 48, 49, 10, 55, 56, 57, 58, 59] (by decide +kernel) (by decide +kernel)
set_option maxRecDepth 20000 in
theorem gX0_tally_X3_remove : GoodIn wsX0_tally (wsV RX0 49 RX3 yX3_remove wsX3_remove) := goodIn_app (goodIn_of _ (by decide +kernel)) ggX0_tally_X3_remove
theorem dX0_tally_0 : decode cX0_tally 0 = .ok (.aload_n 0, 1) := by decide +kernel
theorem dX0_tally_1 : decode cX0_tally 1 = .ok (.getfield 37, 3) := by decide +kernel
theorem dX0_tally_4 : decode cX0_tally 4 = .ok (.iconst (-1), 1) := by decide +kernel
theorem dX0_tally_5 : decode cX0_tally 5 = .ok (.if_icmp .ne 19, 3) := by decide +kernel
theorem dX0_tally_8 : decode cX0_tally 8 = .ok (.aload_n 0, 1) := by decide +kernel
theorem dX0_tally_9 : decode cX0_tally 9 = .ok (.getfield 12, 3) := by decide +kernel
theorem dX0_tally_12 : decode cX0_tally 12 = .ok (.aload_n 0, 1) := by decide +kernel
theorem dX0_tally_13 : decode cX0_tally 13 = .ok (.getfield 26, 3) := by decide +kernel
theorem dX0_tally_16 : decode cX0_tally 16 = .ok (.invokevirtual 40, 3) := by decide +kernel
theorem dX0_tally_19 : decode cX0_tally 19 = .ok (.aload_n 0, 1) := by decide +kernel
theorem dX0_tally_20 : decode cX0_tally 20 = .ok (.iconst 0, 1) := by decide +kernel
theorem dX0_tally_21 : decode cX0_tally 21 = .ok (.putfield 37, 3) := by decide +kernel
theorem dX0_tally_24 : decode cX0_tally 24 = .ok (.aload_n 0, 1) := by decide +kernel
theorem dX0_tally_25 : decode cX0_tally 25 = .ok (.getfield 37, 3) := by decide +kernel
theorem dX0_tally_28 : decode cX0_tally 28 = .ok (.aload_n 0, 1) := by decide +kernel
theorem dX0_tally_29 : decode cX0_tally 29 = .ok (.getfield 30, 3) := by decide +kernel
theorem dX0_tally_32 : decode cX0_tally 32 = .ok (.if_icmp .ge 42, 3) := by decide +kernel
theorem dX0_tally_35 : decode cX0_tally 35 = .ok (.aload_n 0, 1) := by decide +kernel
theorem dX0_tally_36 : decode cX0_tally 36 = .ok (.aload_n 0, 1) := by decide +kernel
theorem dX0_tally_37 : decode cX0_tally 37 = .ok (.getfield 37, 3) := by decide +kernel
theorem dX0_tally_40 : decode cX0_tally 40 = .ok (.invokevirtual 41, 3) := by decide +kernel
theorem dX0_tally_43 : decode cX0_tally 43 = .ok (.ifCond .eq 18, 3) := by decide +kernel
theorem dX0_tally_46 : decode cX0_tally 46 = .ok (.aload_n 0, 1) := by decide +kernel
theorem dX0_tally_47 : decode cX0_tally 47 = .ok (.getfield 12, 3) := by decide +kernel
theorem dX0_tally_50 : decode cX0_tally 50 = .ok (.aload_n 0, 1) := by decide +kernel
theorem dX0_tally_51 : decode cX0_tally 51 = .ok (.aload_n 0, 1) := by decide +kernel
theorem dX0_tally_52 : decode cX0_tally 52 = .ok (.getfield 37, 3) := by decide +kernel
theorem dX0_tally_55 : decode cX0_tally 55 = .ok (.invokevirtual 45, 3) := by decide +kernel
theorem dX0_tally_58 : decode cX0_tally 58 = .ok (.invokevirtual 49, 3) := by decide +kernel
theorem dX0_tally_61 : decode cX0_tally 61 = .ok (.aload_n 0, 1) := by decide +kernel
theorem dX0_tally_62 : decode cX0_tally 62 = .ok (.dup, 1) := by decide +kernel
theorem dX0_tally_63 : decode cX0_tally 63 = .ok (.getfield 37, 3) := by decide +kernel
theorem dX0_tally_66 : decode cX0_tally 66 = .ok (.iconst 1, 1) := by decide +kernel
theorem dX0_tally_67 : decode cX0_tally 67 = .ok (.iadd, 1) := by decide +kernel
theorem dX0_tally_68 : decode cX0_tally 68 = .ok (.putfield 37, 3) := by decide +kernel
theorem dX0_tally_71 : decode cX0_tally 71 = .ok (.goto (-47), 3) := by decide +kernel
theorem dX0_tally_74 : decode cX0_tally 74 = .ok (.aload_n 0, 1) := by decide +kernel
theorem dX0_tally_75 : decode cX0_tally 75 = .ok (.getfield 12, 3) := by decide +kernel
theorem dX0_tally_78 : decode cX0_tally 78 = .ok (.areturn, 1) := by decide +kernel
set_option maxRecDepth 20000 in
theorem ggX0_countLeft_X0_tally : GoodIn wsX0_countLeft wsX0_tally := goodIn_r _ [5, 6, 7, 8, 9, 10, 11, 12, 13, 14, 15, 16, 17, 18, 19, 20, 21, 22, 23, 24, 25, 26, 27, 28, 29, 30, 31, 32, 33, 34, 35, 4, 36, 37, 38, 39, 40, 41, 42, 43, 44, 45, 46, 47, 48, 49, 50, 51, 52, 53, 65, 66, 67, 68, 69, 70, 71, 72, 73, 74] (by decide +kernel) (by decide +kernel)
set_option maxRecDepth 20000 in
theorem gX0_countLeft_X0_tally : GoodIn wsX0_countLeft (wsV RX0 52 RX0 yX0_tally wsX0_tally) := goodIn_app (goodIn_of _ (by decide +kernel)) ggX0_countLeft_X0_tally
set_option maxRecDepth 20000 in
theorem ggX0_countLeft_X3_countAt : GoodIn wsX0_countLeft wsX3_countAt := goodIn_r _ [57, 58, 59, 60, 13, 61, 28, 29, 30, 31, 32, 16, 62, 63, 64, 70, 71, 72, 73, 74] (by decide +kernel) (by decide +kernel)
set_option maxRecDepth 20000 in
theorem gX0_countLeft_X3_countAt : GoodIn wsX0_countLeft (wsV RX0 55 RX3 yX3_countAt wsX3_countAt) := goodIn_app (goodIn_of _ (by decide +kernel)) ggX0_countLeft_X3_countAt
theorem dX0_countLeft_0 : decode cX0_countLeft 0 = .ok (.aload_n 0, 1) := by decide +kernel
theorem dX0_countLeft_1 : decode cX0_countLeft 1 = .ok (.invokevirtual 52, 3) := by decide +kernel
theorem dX0_countLeft_4 : decode cX0_countLeft 4 = .ok (.iconst 0, 1) := by decide +kernel
theorem dX0_countLeft_5 : decode cX0_countLeft 5 = .ok (.invokevirtual 55, 3) := by decide +kernel
theorem dX0_countLeft_8 : decode cX0_countLeft 8 = .ok (.ireturn, 1) := by decide +kernel
theorem dX0_primeAt_0 : decode cX0_primeAt 0 = .ok (.iload_n 1, 1) := by decide +kernel
theorem dX0_primeAt_1 : decode cX0_primeAt 1 = .ok (.ifCond .lt 9, 3) := by decide +kernel
theorem dX0_primeAt_4 : decode cX0_primeAt 4 = .ok (.iload_n 1, 1) := by decide +kernel
theorem dX0_primeAt_5 : decode cX0_primeAt 5 = .ok (.bipush 40, 2) := by decide +kernel
theorem dX0_primeAt_7 : decode cX0_primeAt 7 = .ok (.if_icmp .lt 7, 3) := by decide +kernel
theorem dX0_primeAt_10 : decode cX0_primeAt 10 = .ok (.iconst (-1), 1) := by decide +kernel
theorem dX0_primeAt_11 : decode cX0_primeAt 11 = .ok (.goto 8, 3) := by decide +kernel
theorem dX0_primeAt_14 : decode cX0_primeAt 14 = .ok (.getstatic 58, 3) := by decide +kernel
theorem dX0_primeAt_17 : decode cX0_primeAt 17 = .ok (.iload_n 1, 1) := by decide +kernel
theorem dX0_primeAt_18 : decode cX0_primeAt 18 = .ok (.iaload, 1) := by decide +kernel
theorem dX0_primeAt_19 : decode cX0_primeAt 19 = .ok (.ireturn, 1) := by decide +kernel
theorem dX0_hasStruck_0 : decode cX0_hasStruck 0 = .ok (.aload_n 0, 1) := by decide +kernel
theorem dX0_hasStruck_1 : decode cX0_hasStruck 1 = .ok (.getfield 33, 3) := by decide +kernel
theorem dX0_hasStruck_4 : decode cX0_hasStruck 4 = .ok (.iload_n 1, 1) := by decide +kernel
theorem dX0_hasStruck_5 : decode cX0_hasStruck 5 = .ok (.lushr, 1) := by decide +kernel
theorem dX0_hasStruck_6 : decode cX0_hasStruck 6 = .ok (.lconst 1, 1) := by decide +kernel
theorem dX0_hasStruck_7 : decode cX0_hasStruck 7 = .ok (.land, 1) := by decide +kernel
theorem dX0_hasStruck_8 : decode cX0_hasStruck 8 = .ok (.lconst 0, 1) := by decide +kernel
theorem dX0_hasStruck_9 : decode cX0_hasStruck 9 = .ok (.lcmp, 1) := by decide +kernel
theorem dX0_hasStruck_10 : decode cX0_hasStruck 10 = .ok (.ifCond .eq 7, 3) := by decide +kernel
theorem dX0_hasStruck_13 : decode cX0_hasStruck 13 = .ok (.iconst 1, 1) := by decide +kernel
theorem dX0_hasStruck_14 : decode cX0_hasStruck 14 = .ok (.goto 4, 3) := by decide +kernel
theorem dX0_hasStruck_17 : decode cX0_hasStruck 17 = .ok (.iconst 0, 1) := by decide +kernel
theorem dX0_hasStruck_18 : decode cX0_hasStruck 18 = .ok (.ireturn, 1) := by decide +kernel
set_option maxRecDepth 20000 in
theorem ggX0_wasStruckBy_X0_primeAt : GoodIn wsX0_wasStruckBy wsX0_primeAt := goodIn_r _ [6] (by decide +kernel) (by decide +kernel)
set_option maxRecDepth 20000 in
theorem gX0_wasStruckBy_X0_primeAt : GoodIn wsX0_wasStruckBy (wsV RX0 45 RX0 yX0_primeAt wsX0_primeAt) := goodIn_app (goodIn_of _ (by decide +kernel)) ggX0_wasStruckBy_X0_primeAt
set_option maxRecDepth 20000 in
theorem ggX0_wasStruckBy_X0_hasStruck : GoodIn wsX0_wasStruckBy wsX0_hasStruck := goodIn_r _ [10, 11, 12, 13, 14, 15, 16] (by decide +kernel) (by decide +kernel)
set_option maxRecDepth 20000 in
theorem gX0_wasStruckBy_X0_hasStruck : GoodIn wsX0_wasStruckBy (wsV RX0 41 RX0 yX0_hasStruck wsX0_hasStruck) := goodIn_app (goodIn_of _ (by decide +kernel)) ggX0_wasStruckBy_X0_hasStruck
theorem dX0_wasStruckBy_0 : decode cX0_wasStruckBy 0 = .ok (.iconst 0, 1) := by decide +kernel
theorem dX0_wasStruckBy_1 : decode cX0_wasStruckBy 1 = .ok (.istore_n 2, 1) := by decide +kernel
theorem dX0_wasStruckBy_2 : decode cX0_wasStruckBy 2 = .ok (.iload_n 2, 1) := by decide +kernel
theorem dX0_wasStruckBy_3 : decode cX0_wasStruckBy 3 = .ok (.aload_n 0, 1) := by decide +kernel
theorem dX0_wasStruckBy_4 : decode cX0_wasStruckBy 4 = .ok (.getfield 30, 3) := by decide +kernel
theorem dX0_wasStruckBy_7 : decode cX0_wasStruckBy 7 = .ok (.if_icmp .ge 24, 3) := by decide +kernel
theorem dX0_wasStruckBy_10 : decode cX0_wasStruckBy 10 = .ok (.aload_n 0, 1) := by decide +kernel
theorem dX0_wasStruckBy_11 : decode cX0_wasStruckBy 11 = .ok (.iload_n 2, 1) := by decide +kernel
theorem dX0_wasStruckBy_12 : decode cX0_wasStruckBy 12 = .ok (.invokevirtual 45, 3) := by decide +kernel
theorem dX0_wasStruckBy_15 : decode cX0_wasStruckBy 15 = .ok (.iload_n 1, 1) := by decide +kernel
theorem dX0_wasStruckBy_16 : decode cX0_wasStruckBy 16 = .ok (.if_icmp .ne 9, 3) := by decide +kernel
theorem dX0_wasStruckBy_19 : decode cX0_wasStruckBy 19 = .ok (.aload_n 0, 1) := by decide +kernel
theorem dX0_wasStruckBy_20 : decode cX0_wasStruckBy 20 = .ok (.iload_n 2, 1) := by decide +kernel
theorem dX0_wasStruckBy_21 : decode cX0_wasStruckBy 21 = .ok (.invokevirtual 41, 3) := by decide +kernel
theorem dX0_wasStruckBy_24 : decode cX0_wasStruckBy 24 = .ok (.ireturn, 1) := by decide +kernel
theorem dX0_wasStruckBy_25 : decode cX0_wasStruckBy 25 = .ok (.iinc 2 1, 3) := by decide +kernel
theorem dX0_wasStruckBy_28 : decode cX0_wasStruckBy 28 = .ok (.goto (-26), 3) := by decide +kernel
theorem dX0_wasStruckBy_31 : decode cX0_wasStruckBy 31 = .ok (.iconst 0, 1) := by decide +kernel
theorem dX0_wasStruckBy_32 : decode cX0_wasStruckBy 32 = .ok (.ireturn, 1) := by decide +kernel
set_option maxRecDepth 20000 in
theorem ggX0_nextPrime_X0_primeAt : GoodIn wsX0_nextPrime wsX0_primeAt := goodIn_r _ [7] (by decide +kernel) (by decide +kernel)
set_option maxRecDepth 20000 in
theorem gX0_nextPrime_X0_primeAt : GoodIn wsX0_nextPrime (wsV RX0 45 RX0 yX0_primeAt wsX0_primeAt) := goodIn_app (goodIn_of _ (by decide +kernel)) ggX0_nextPrime_X0_primeAt
theorem dX0_nextPrime_0 : decode cX0_nextPrime 0 = .ok (.aload_n 0, 1) := by decide +kernel
theorem dX0_nextPrime_1 : decode cX0_nextPrime 1 = .ok (.aload_n 0, 1) := by decide +kernel
theorem dX0_nextPrime_2 : decode cX0_nextPrime 2 = .ok (.getfield 30, 3) := by decide +kernel
theorem dX0_nextPrime_5 : decode cX0_nextPrime 5 = .ok (.invokevirtual 45, 3) := by decide +kernel
theorem dX0_nextPrime_8 : decode cX0_nextPrime 8 = .ok (.istore_n 1, 1) := by decide +kernel
theorem dX0_nextPrime_9 : decode cX0_nextPrime 9 = .ok (.iload_n 1, 1) := by decide +kernel
theorem dX0_nextPrime_10 : decode cX0_nextPrime 10 = .ok (.aload_n 0, 1) := by decide +kernel
theorem dX0_nextPrime_11 : decode cX0_nextPrime 11 = .ok (.getfield 26, 3) := by decide +kernel
theorem dX0_nextPrime_14 : decode cX0_nextPrime 14 = .ok (.if_icmp .le 7, 3) := by decide +kernel
theorem dX0_nextPrime_17 : decode cX0_nextPrime 17 = .ok (.iconst (-1), 1) := by decide +kernel
theorem dX0_nextPrime_18 : decode cX0_nextPrime 18 = .ok (.goto 4, 3) := by decide +kernel
theorem dX0_nextPrime_21 : decode cX0_nextPrime 21 = .ok (.iload_n 1, 1) := by decide +kernel
theorem dX0_nextPrime_22 : decode cX0_nextPrime 22 = .ok (.ireturn, 1) := by decide +kernel
set_option maxRecDepth 20000 in
theorem ggX0_letCome_X0_nextPrime : GoodIn wsX0_letCome wsX0_nextPrime := goodIn_r _ [7, 2, 8, 9, 10, 11, 6, 12, 13, 14, 15, 16, 17] (by decide +kernel) (by decide +kernel)
set_option maxRecDepth 20000 in
theorem gX0_letCome_X0_nextPrime : GoodIn wsX0_letCome (wsV RX0 62 RX0 yX0_nextPrime wsX0_nextPrime) := goodIn_app (goodIn_of _ (by decide +kernel)) ggX0_letCome_X0_nextPrime
theorem dX0_letCome_0 : decode cX0_letCome 0 = .ok (.aload_n 0, 1) := by decide +kernel
theorem dX0_letCome_1 : decode cX0_letCome 1 = .ok (.invokevirtual 62, 3) := by decide +kernel
theorem dX0_letCome_4 : decode cX0_letCome 4 = .ok (.iconst (-1), 1) := by decide +kernel
theorem dX0_letCome_5 : decode cX0_letCome 5 = .ok (.if_icmp .ne 5, 3) := by decide +kernel
theorem dX0_letCome_8 : decode cX0_letCome 8 = .ok (.iconst 0, 1) := by decide +kernel
theorem dX0_letCome_9 : decode cX0_letCome 9 = .ok (.ireturn, 1) := by decide +kernel
theorem dX0_letCome_10 : decode cX0_letCome 10 = .ok (.iload_n 1, 1) := by decide +kernel
theorem dX0_letCome_11 : decode cX0_letCome 11 = .ok (.ifCond .eq 18, 3) := by decide +kernel
theorem dX0_letCome_14 : decode cX0_letCome 14 = .ok (.aload_n 0, 1) := by decide +kernel
theorem dX0_letCome_15 : decode cX0_letCome 15 = .ok (.dup, 1) := by decide +kernel
theorem dX0_letCome_16 : decode cX0_letCome 16 = .ok (.getfield 33, 3) := by decide +kernel
theorem dX0_letCome_19 : decode cX0_letCome 19 = .ok (.lconst 1, 1) := by decide +kernel
theorem dX0_letCome_20 : decode cX0_letCome 20 = .ok (.aload_n 0, 1) := by decide +kernel
theorem dX0_letCome_21 : decode cX0_letCome 21 = .ok (.getfield 30, 3) := by decide +kernel
theorem dX0_letCome_24 : decode cX0_letCome 24 = .ok (.lshl, 1) := by decide +kernel
theorem dX0_letCome_25 : decode cX0_letCome 25 = .ok (.lor, 1) := by decide +kernel
theorem dX0_letCome_26 : decode cX0_letCome 26 = .ok (.putfield 33, 3) := by decide +kernel
theorem dX0_letCome_29 : decode cX0_letCome 29 = .ok (.aload_n 0, 1) := by decide +kernel
theorem dX0_letCome_30 : decode cX0_letCome 30 = .ok (.dup, 1) := by decide +kernel
theorem dX0_letCome_31 : decode cX0_letCome 31 = .ok (.getfield 30, 3) := by decide +kernel
theorem dX0_letCome_34 : decode cX0_letCome 34 = .ok (.iconst 1, 1) := by decide +kernel
theorem dX0_letCome_35 : decode cX0_letCome 35 = .ok (.iadd, 1) := by decide +kernel
theorem dX0_letCome_36 : decode cX0_letCome 36 = .ok (.putfield 30, 3) := by decide +kernel
theorem dX0_letCome_39 : decode cX0_letCome 39 = .ok (.iconst 1, 1) := by decide +kernel
theorem dX0_letCome_40 : decode cX0_letCome 40 = .ok (.ireturn, 1) := by decide +kernel
set_option maxRecDepth 20000 in
theorem ggX0_letStrikeUpTo_X0_nextPrime : GoodIn wsX0_letStrikeUpTo wsX0_nextPrime := goodIn_r _ [5, 6, 7, 8, 9, 10, 4, 11, 17, 18, 19, 20, 21] (by decide +kernel) (by decide +kernel)
set_option maxRecDepth 20000 in
theorem gX0_letStrikeUpTo_X0_nextPrime : GoodIn wsX0_letStrikeUpTo (wsV RX0 62 RX0 yX0_nextPrime wsX0_nextPrime) := goodIn_app (goodIn_of _ (by decide +kernel)) ggX0_letStrikeUpTo_X0_nextPrime
set_option maxRecDepth 20000 in
theorem ggX0_letStrikeUpTo_X0_letCome : GoodIn wsX0_letStrikeUpTo wsX0_letCome := goodIn_r _ [15, 16, 6, 1, 2, 3, 4, 5, 7, 8, 9, 10, 11, 17, 18, 19, 20, 21] (by decide +kernel) (by decide +kernel)
set_option maxRecDepth 20000 in
theorem gX0_letStrikeUpTo_X0_letCome : GoodIn wsX0_letStrikeUpTo (wsV RX0 66 RX0 yX0_letCome wsX0_letCome) := goodIn_app (goodIn_of _ (by decide +kernel)) ggX0_letStrikeUpTo_X0_letCome
theorem dX0_letStrikeUpTo_0 : decode cX0_letStrikeUpTo 0 = .ok (.iconst 0, 1) := by decide +kernel
theorem dX0_letStrikeUpTo_1 : decode cX0_letStrikeUpTo 1 = .ok (.istore_n 2, 1) := by decide +kernel
theorem dX0_letStrikeUpTo_2 : decode cX0_letStrikeUpTo 2 = .ok (.iload_n 2, 1) := by decide +kernel
theorem dX0_letStrikeUpTo_3 : decode cX0_letStrikeUpTo 3 = .ok (.bipush 40, 2) := by decide +kernel
theorem dX0_letStrikeUpTo_5 : decode cX0_letStrikeUpTo 5 = .ok (.if_icmp .ge 25, 3) := by decide +kernel
theorem dX0_letStrikeUpTo_8 : decode cX0_letStrikeUpTo 8 = .ok (.aload_n 0, 1) := by decide +kernel
theorem dX0_letStrikeUpTo_9 : decode cX0_letStrikeUpTo 9 = .ok (.invokevirtual 62, 3) := by decide +kernel
theorem dX0_letStrikeUpTo_12 : decode cX0_letStrikeUpTo 12 = .ok (.iload_n 1, 1) := by decide +kernel
theorem dX0_letStrikeUpTo_13 : decode cX0_letStrikeUpTo 13 = .ok (.if_icmp .gt 17, 3) := by decide +kernel
theorem dX0_letStrikeUpTo_16 : decode cX0_letStrikeUpTo 16 = .ok (.aload_n 0, 1) := by decide +kernel
theorem dX0_letStrikeUpTo_17 : decode cX0_letStrikeUpTo 17 = .ok (.iconst 1, 1) := by decide +kernel
theorem dX0_letStrikeUpTo_18 : decode cX0_letStrikeUpTo 18 = .ok (.invokevirtual 66, 3) := by decide +kernel
theorem dX0_letStrikeUpTo_21 : decode cX0_letStrikeUpTo 21 = .ok (.ifCond .eq 9, 3) := by decide +kernel
theorem dX0_letStrikeUpTo_24 : decode cX0_letStrikeUpTo 24 = .ok (.iinc 2 1, 3) := by decide +kernel
theorem dX0_letStrikeUpTo_27 : decode cX0_letStrikeUpTo 27 = .ok (.goto (-25), 3) := by decide +kernel
theorem dX0_letStrikeUpTo_30 : decode cX0_letStrikeUpTo 30 = .ok (.iload_n 2, 1) := by decide +kernel
theorem dX0_letStrikeUpTo_31 : decode cX0_letStrikeUpTo 31 = .ok (.ireturn, 1) := by decide +kernel
theorem dX1_init_0 : decode cX1_init 0 = .ok (.aload_n 0, 1) := by decide +kernel
theorem dX1_init_1 : decode cX1_init 1 = .ok (.invokespecial 5, 3) := by decide +kernel
theorem dX1_init_4 : decode cX1_init 4 = .ok (.aload_n 0, 1) := by decide +kernel
theorem dX1_init_5 : decode cX1_init 5 = .ok (.sipush 782, 3) := by decide +kernel
theorem dX1_init_8 : decode cX1_init 8 = .ok (.newarray .long, 2) := by decide +kernel
theorem dX1_init_10 : decode cX1_init 10 = .ok (.putfield 11, 3) := by decide +kernel
theorem dX1_init_13 : decode cX1_init 13 = .ok (.iconst 0, 1) := by decide +kernel
theorem dX1_init_14 : decode cX1_init 14 = .ok (.istore_n 1, 1) := by decide +kernel
theorem dX1_init_15 : decode cX1_init 15 = .ok (.iload_n 1, 1) := by decide +kernel
theorem dX1_init_16 : decode cX1_init 16 = .ok (.sipush 782, 3) := by decide +kernel
theorem dX1_init_19 : decode cX1_init 19 = .ok (.if_icmp .ge 18, 3) := by decide +kernel
theorem dX1_init_22 : decode cX1_init 22 = .ok (.aload_n 0, 1) := by decide +kernel
theorem dX1_init_23 : decode cX1_init 23 = .ok (.getfield 11, 3) := by decide +kernel
theorem dX1_init_26 : decode cX1_init 26 = .ok (.iload_n 1, 1) := by decide +kernel
theorem dX1_init_27 : decode cX1_init 27 = .ok (.ldc2_w 15, 3) := by decide +kernel
theorem dX1_init_30 : decode cX1_init 30 = .ok (.lastore, 1) := by decide +kernel
theorem dX1_init_31 : decode cX1_init 31 = .ok (.iinc 1 1, 3) := by decide +kernel
theorem dX1_init_34 : decode cX1_init 34 = .ok (.goto (-19), 3) := by decide +kernel
theorem dX1_init_37 : decode cX1_init 37 = .ok (.aload_n 0, 1) := by decide +kernel
theorem dX1_init_38 : decode cX1_init 38 = .ok (.getfield 11, 3) := by decide +kernel
theorem dX1_init_41 : decode cX1_init 41 = .ok (.iconst 0, 1) := by decide +kernel
theorem dX1_init_42 : decode cX1_init 42 = .ok (.dup2, 1) := by decide +kernel
theorem dX1_init_43 : decode cX1_init 43 = .ok (.laload, 1) := by decide +kernel
theorem dX1_init_44 : decode cX1_init 44 = .ok (.ldc2_w 17, 3) := by decide +kernel
theorem dX1_init_47 : decode cX1_init 47 = .ok (.land, 1) := by decide +kernel
theorem dX1_init_48 : decode cX1_init 48 = .ok (.lastore, 1) := by decide +kernel
theorem dX1_init_49 : decode cX1_init 49 = .ok (.getstatic 19, 3) := by decide +kernel
theorem dX1_init_52 : decode cX1_init 52 = .ok (.astore_n 1, 1) := by decide +kernel
theorem dX1_init_53 : decode cX1_init 53 = .ok (.aload_n 1, 1) := by decide +kernel
theorem dX1_init_54 : decode cX1_init 54 = .ok (.arraylength, 1) := by decide +kernel
theorem dX1_init_55 : decode cX1_init 55 = .ok (.istore_n 2, 1) := by decide +kernel
theorem dX1_init_56 : decode cX1_init 56 = .ok (.iconst 0, 1) := by decide +kernel
theorem dX1_init_57 : decode cX1_init 57 = .ok (.istore_n 3, 1) := by decide +kernel
theorem dX1_init_58 : decode cX1_init 58 = .ok (.iload_n 3, 1) := by decide +kernel
theorem dX1_init_59 : decode cX1_init 59 = .ok (.iload_n 2, 1) := by decide +kernel
theorem dX1_init_60 : decode cX1_init 60 = .ok (.if_icmp .ge 70, 3) := by decide +kernel
theorem dX1_init_63 : decode cX1_init 63 = .ok (.aload_n 1, 1) := by decide +kernel
theorem dX1_init_64 : decode cX1_init 64 = .ok (.iload_n 3, 1) := by decide +kernel
theorem dX1_init_65 : decode cX1_init 65 = .ok (.iaload, 1) := by decide +kernel
theorem dX1_init_66 : decode cX1_init 66 = .ok (.istore 4, 2) := by decide +kernel
theorem dX1_init_68 : decode cX1_init 68 = .ok (.iload 4, 2) := by decide +kernel
theorem dX1_init_70 : decode cX1_init 70 = .ok (.iload 4, 2) := by decide +kernel
theorem dX1_init_72 : decode cX1_init 72 = .ok (.imul, 1) := by decide +kernel
theorem dX1_init_73 : decode cX1_init 73 = .ok (.iconst 2, 1) := by decide +kernel
theorem dX1_init_74 : decode cX1_init 74 = .ok (.idiv, 1) := by decide +kernel
theorem dX1_init_75 : decode cX1_init 75 = .ok (.istore 5, 2) := by decide +kernel
theorem dX1_init_77 : decode cX1_init 77 = .ok (.iload 4, 2) := by decide +kernel
theorem dX1_init_79 : decode cX1_init 79 = .ok (.iconst 2, 1) := by decide +kernel
theorem dX1_init_80 : decode cX1_init 80 = .ok (.if_icmp .le 44, 3) := by decide +kernel
theorem dX1_init_83 : decode cX1_init 83 = .ok (.iload 5, 2) := by decide +kernel
theorem dX1_init_85 : decode cX1_init 85 = .ok (.ldc 23, 2) := by decide +kernel
theorem dX1_init_87 : decode cX1_init 87 = .ok (.if_icmp .ge 37, 3) := by decide +kernel
theorem dX1_init_90 : decode cX1_init 90 = .ok (.aload_n 0, 1) := by decide +kernel
theorem dX1_init_91 : decode cX1_init 91 = .ok (.getfield 11, 3) := by decide +kernel
theorem dX1_init_94 : decode cX1_init 94 = .ok (.iload 5, 2) := by decide +kernel
theorem dX1_init_96 : decode cX1_init 96 = .ok (.bipush 64, 2) := by decide +kernel
theorem dX1_init_98 : decode cX1_init 98 = .ok (.idiv, 1) := by decide +kernel
theorem dX1_init_99 : decode cX1_init 99 = .ok (.dup2, 1) := by decide +kernel
theorem dX1_init_100 : decode cX1_init 100 = .ok (.laload, 1) := by decide +kernel
theorem dX1_init_101 : decode cX1_init 101 = .ok (.lconst 1, 1) := by decide +kernel
theorem dX1_init_102 : decode cX1_init 102 = .ok (.iload 5, 2) := by decide +kernel
theorem dX1_init_104 : decode cX1_init 104 = .ok (.bipush 64, 2) := by decide +kernel
theorem dX1_init_106 : decode cX1_init 106 = .ok (.irem, 1) := by decide +kernel
theorem dX1_init_107 : decode cX1_init 107 = .ok (.lshl, 1) := by decide +kernel
theorem dX1_init_108 : decode cX1_init 108 = .ok (.ldc2_w 15, 3) := by decide +kernel
theorem dX1_init_111 : decode cX1_init 111 = .ok (.lxor, 1) := by decide +kernel
theorem dX1_init_112 : decode cX1_init 112 = .ok (.land, 1) := by decide +kernel
theorem dX1_init_113 : decode cX1_init 113 = .ok (.lastore, 1) := by decide +kernel
theorem dX1_init_114 : decode cX1_init 114 = .ok (.iload 5, 2) := by decide +kernel
theorem dX1_init_116 : decode cX1_init 116 = .ok (.iload 4, 2) := by decide +kernel
theorem dX1_init_118 : decode cX1_init 118 = .ok (.iadd, 1) := by decide +kernel
theorem dX1_init_119 : decode cX1_init 119 = .ok (.istore 5, 2) := by decide +kernel
theorem dX1_init_121 : decode cX1_init 121 = .ok (.goto (-44), 3) := by decide +kernel
theorem dX1_init_124 : decode cX1_init 124 = .ok (.iinc 3 1, 3) := by decide +kernel
theorem dX1_init_127 : decode cX1_init 127 = .ok (.goto (-69), 3) := by decide +kernel
theorem dX1_init_130 : decode cX1_init 130 = .ok (.return_, 1) := by decide +kernel
theorem dX1_leastDividing_0 : decode cX1_leastDividing 0 = .ok (.getstatic 19, 3) := by decide +kernel
theorem dX1_leastDividing_3 : decode cX1_leastDividing 3 = .ok (.astore_n 1, 1) := by decide +kernel
theorem dX1_leastDividing_4 : decode cX1_leastDividing 4 = .ok (.aload_n 1, 1) := by decide +kernel
theorem dX1_leastDividing_5 : decode cX1_leastDividing 5 = .ok (.arraylength, 1) := by decide +kernel
theorem dX1_leastDividing_6 : decode cX1_leastDividing 6 = .ok (.istore_n 2, 1) := by decide +kernel
theorem dX1_leastDividing_7 : decode cX1_leastDividing 7 = .ok (.iconst 0, 1) := by decide +kernel
theorem dX1_leastDividing_8 : decode cX1_leastDividing 8 = .ok (.istore_n 3, 1) := by decide +kernel
theorem dX1_leastDividing_9 : decode cX1_leastDividing 9 = .ok (.iload_n 3, 1) := by decide +kernel
theorem dX1_leastDividing_10 : decode cX1_leastDividing 10 = .ok (.iload_n 2, 1) := by decide +kernel
theorem dX1_leastDividing_11 : decode cX1_leastDividing 11 = .ok (.if_icmp .ge 36, 3) := by decide +kernel
theorem dX1_leastDividing_14 : decode cX1_leastDividing 14 = .ok (.aload_n 1, 1) := by decide +kernel
theorem dX1_leastDividing_15 : decode cX1_leastDividing 15 = .ok (.iload_n 3, 1) := by decide +kernel
theorem dX1_leastDividing_16 : decode cX1_leastDividing 16 = .ok (.iaload, 1) := by decide +kernel
theorem dX1_leastDividing_17 : decode cX1_leastDividing 17 = .ok (.istore 4, 2) := by decide +kernel
theorem dX1_leastDividing_19 : decode cX1_leastDividing 19 = .ok (.iload 4, 2) := by decide +kernel
theorem dX1_leastDividing_21 : decode cX1_leastDividing 21 = .ok (.iload 4, 2) := by decide +kernel
theorem dX1_leastDividing_23 : decode cX1_leastDividing 23 = .ok (.imul, 1) := by decide +kernel
theorem dX1_leastDividing_24 : decode cX1_leastDividing 24 = .ok (.iload_n 0, 1) := by decide +kernel
theorem dX1_leastDividing_25 : decode cX1_leastDividing 25 = .ok (.if_icmp .le 6, 3) := by decide +kernel
theorem dX1_leastDividing_28 : decode cX1_leastDividing 28 = .ok (.goto 19, 3) := by decide +kernel
theorem dX1_leastDividing_31 : decode cX1_leastDividing 31 = .ok (.iload_n 0, 1) := by decide +kernel
theorem dX1_leastDividing_32 : decode cX1_leastDividing 32 = .ok (.iload 4, 2) := by decide +kernel
theorem dX1_leastDividing_34 : decode cX1_leastDividing 34 = .ok (.irem, 1) := by decide +kernel
theorem dX1_leastDividing_35 : decode cX1_leastDividing 35 = .ok (.ifCond .ne 6, 3) := by decide +kernel
theorem dX1_leastDividing_38 : decode cX1_leastDividing 38 = .ok (.iload 4, 2) := by decide +kernel
theorem dX1_leastDividing_40 : decode cX1_leastDividing 40 = .ok (.ireturn, 1) := by decide +kernel
theorem dX1_leastDividing_41 : decode cX1_leastDividing 41 = .ok (.iinc 3 1, 3) := by decide +kernel
theorem dX1_leastDividing_44 : decode cX1_leastDividing 44 = .ok (.goto (-35), 3) := by decide +kernel
theorem dX1_leastDividing_47 : decode cX1_leastDividing 47 = .ok (.iload_n 0, 1) := by decide +kernel
theorem dX1_leastDividing_48 : decode cX1_leastDividing 48 = .ok (.ireturn, 1) := by decide +kernel
set_option maxRecDepth 20000 in
theorem ggX1_countUpTo_X1_countTwo : GoodIn wsX1_countUpTo wsX1_countTwo := goodIn_r _ [5] (by decide +kernel) (by decide +kernel)
set_option maxRecDepth 20000 in
theorem gX1_countUpTo_X1_countTwo : GoodIn wsX1_countUpTo (va_wsS RX1 24 yX1_countTwo wsX1_countTwo) := goodIn_app (goodIn_of _ (by decide +kernel)) ggX1_countUpTo_X1_countTwo
set_option maxRecDepth 20000 in
theorem ggX1_countUpTo_X1_countOdd : GoodIn wsX1_countUpTo wsX1_countOdd := goodIn_r _ [9, 10, 11, 12, 4, 13, 14, 15, 16, 17, 18, 19, 20, 21, 22, 23, 24, 25] (by decide +kernel) (by decide +kernel)
set_option maxRecDepth 20000 in
theorem gX1_countUpTo_X1_countOdd : GoodIn wsX1_countUpTo (wsV RX1 28 RX1 yX1_countOdd wsX1_countOdd) := goodIn_app (goodIn_of _ (by decide +kernel)) ggX1_countUpTo_X1_countOdd
theorem dX1_countUpTo_0 : decode cX1_countUpTo 0 = .ok (.iload_n 1, 1) := by decide +kernel
theorem dX1_countUpTo_1 : decode cX1_countUpTo 1 = .ok (.invokestatic 24, 3) := by decide +kernel
theorem dX1_countUpTo_4 : decode cX1_countUpTo 4 = .ok (.aload_n 0, 1) := by decide +kernel
theorem dX1_countUpTo_5 : decode cX1_countUpTo 5 = .ok (.iload_n 1, 1) := by decide +kernel
theorem dX1_countUpTo_6 : decode cX1_countUpTo 6 = .ok (.ldc2_w 15, 3) := by decide +kernel
theorem dX1_countUpTo_9 : decode cX1_countUpTo 9 = .ok (.invokevirtual 28, 3) := by decide +kernel
theorem dX1_countUpTo_12 : decode cX1_countUpTo 12 = .ok (.iadd, 1) := by decide +kernel
theorem dX1_countUpTo_13 : decode cX1_countUpTo 13 = .ok (.ireturn, 1) := by decide +kernel
set_option maxRecDepth 20000 in
theorem ggX1_countByRest_X1_countOdd : GoodIn wsX1_countByRest wsX1_countOdd := goodIn_r _ [7, 8, 9, 10, 6, 11, 12, 13, 14, 15, 16, 17, 18, 19, 20, 21, 22, 26] (by decide +kernel) (by decide +kernel)
set_option maxRecDepth 20000 in
theorem gX1_countByRest_X1_countOdd : GoodIn wsX1_countByRest (wsV RX1 28 RX1 yX1_countOdd wsX1_countOdd) := goodIn_app (goodIn_of _ (by decide +kernel)) ggX1_countByRest_X1_countOdd
set_option maxRecDepth 20000 in
theorem ggX1_countByRest_X1_countTwo : GoodIn wsX1_countByRest wsX1_countTwo := goodIn_r _ [25] (by decide +kernel) (by decide +kernel)
set_option maxRecDepth 20000 in
theorem gX1_countByRest_X1_countTwo : GoodIn wsX1_countByRest (va_wsS RX1 24 yX1_countTwo wsX1_countTwo) := goodIn_app (goodIn_of _ (by decide +kernel)) ggX1_countByRest_X1_countTwo
theorem dX1_countByRest_0 : decode cX1_countByRest 0 = .ok (.iload_n 2, 1) := by decide +kernel
theorem dX1_countByRest_1 : decode cX1_countByRest 1 = .ok (.tableswitch 50 1 3 #[27, 36, 41], 27) := by decide +kernel
theorem dX1_countByRest_28 : decode cX1_countByRest 28 = .ok (.aload_n 0, 1) := by decide +kernel
theorem dX1_countByRest_29 : decode cX1_countByRest 29 = .ok (.iload_n 1, 1) := by decide +kernel
theorem dX1_countByRest_30 : decode cX1_countByRest 30 = .ok (.ldc2_w 32, 3) := by decide +kernel
theorem dX1_countByRest_33 : decode cX1_countByRest 33 = .ok (.invokevirtual 28, 3) := by decide +kernel
theorem dX1_countByRest_36 : decode cX1_countByRest 36 = .ok (.ireturn, 1) := by decide +kernel
theorem dX1_countByRest_37 : decode cX1_countByRest 37 = .ok (.iload_n 1, 1) := by decide +kernel
theorem dX1_countByRest_38 : decode cX1_countByRest 38 = .ok (.invokestatic 24, 3) := by decide +kernel
theorem dX1_countByRest_41 : decode cX1_countByRest 41 = .ok (.ireturn, 1) := by decide +kernel
theorem dX1_countByRest_42 : decode cX1_countByRest 42 = .ok (.aload_n 0, 1) := by decide +kernel
theorem dX1_countByRest_43 : decode cX1_countByRest 43 = .ok (.iload_n 1, 1) := by decide +kernel
theorem dX1_countByRest_44 : decode cX1_countByRest 44 = .ok (.ldc2_w 34, 3) := by decide +kernel
theorem dX1_countByRest_47 : decode cX1_countByRest 47 = .ok (.invokevirtual 28, 3) := by decide +kernel
theorem dX1_countByRest_50 : decode cX1_countByRest 50 = .ok (.ireturn, 1) := by decide +kernel
theorem dX1_countByRest_51 : decode cX1_countByRest 51 = .ok (.iconst 0, 1) := by decide +kernel
theorem dX1_countByRest_52 : decode cX1_countByRest 52 = .ok (.ireturn, 1) := by decide +kernel
theorem dX1_countTwo_0 : decode cX1_countTwo 0 = .ok (.iload_n 0, 1) := by decide +kernel
theorem dX1_countTwo_1 : decode cX1_countTwo 1 = .ok (.iconst 2, 1) := by decide +kernel
theorem dX1_countTwo_2 : decode cX1_countTwo 2 = .ok (.if_icmp .lt 7, 3) := by decide +kernel
theorem dX1_countTwo_5 : decode cX1_countTwo 5 = .ok (.iconst 1, 1) := by decide +kernel
theorem dX1_countTwo_6 : decode cX1_countTwo 6 = .ok (.goto 4, 3) := by decide +kernel
theorem dX1_countTwo_9 : decode cX1_countTwo 9 = .ok (.iconst 0, 1) := by decide +kernel
theorem dX1_countTwo_10 : decode cX1_countTwo 10 = .ok (.ireturn, 1) := by decide +kernel
set_option maxRecDepth 20000 in
theorem ggX1_countOdd_X1_wordUpTo : GoodIn wsX1_countOdd wsX1_wordUpTo := goodIn_r _ [5, 6, 7, 8, 9, 17] (by decide +kernel) (by decide +kernel)
set_option maxRecDepth 20000 in
theorem gX1_countOdd_X1_wordUpTo : GoodIn wsX1_countOdd (wsV RX1 36 RX1 yX1_wordUpTo wsX1_wordUpTo) := goodIn_app (goodIn_of _ (by decide +kernel)) ggX1_countOdd_X1_wordUpTo
set_option maxRecDepth 20000 in
theorem ggX1_countOdd_J13_bitCount_95d88 : GoodIn wsX1_countOdd wsJ13_bitCount_95d88 := goodIn_r _ [13, 14, 15, 16] (by decide +kernel) (by decide +kernel)
set_option maxRecDepth 20000 in
theorem gX1_countOdd_J13_bitCount_95d88 : GoodIn wsX1_countOdd (va_wsS RX1 40 yJ13_bitCount_95d88 wsJ13_bitCount_95d88) := goodIn_app (goodIn_of _ (by decide +kernel)) ggX1_countOdd_J13_bitCount_95d88
theorem dX1_countOdd_0 : decode cX1_countOdd 0 = .ok (.iconst 0, 1) := by decide +kernel
theorem dX1_countOdd_1 : decode cX1_countOdd 1 = .ok (.istore 4, 2) := by decide +kernel
theorem dX1_countOdd_3 : decode cX1_countOdd 3 = .ok (.iconst 0, 1) := by decide +kernel
theorem dX1_countOdd_4 : decode cX1_countOdd 4 = .ok (.istore 5, 2) := by decide +kernel
theorem dX1_countOdd_6 : decode cX1_countOdd 6 = .ok (.iload 5, 2) := by decide +kernel
theorem dX1_countOdd_8 : decode cX1_countOdd 8 = .ok (.sipush 782, 3) := by decide +kernel
theorem dX1_countOdd_11 : decode cX1_countOdd 11 = .ok (.if_icmp .ge 36, 3) := by decide +kernel
theorem dX1_countOdd_14 : decode cX1_countOdd 14 = .ok (.sipush 128, 3) := by decide +kernel
theorem dX1_countOdd_17 : decode cX1_countOdd 17 = .ok (.iload 5, 2) := by decide +kernel
theorem dX1_countOdd_19 : decode cX1_countOdd 19 = .ok (.imul, 1) := by decide +kernel
theorem dX1_countOdd_20 : decode cX1_countOdd 20 = .ok (.iload_n 1, 1) := by decide +kernel
theorem dX1_countOdd_21 : decode cX1_countOdd 21 = .ok (.if_icmp .ge 26, 3) := by decide +kernel
theorem dX1_countOdd_24 : decode cX1_countOdd 24 = .ok (.iload 4, 2) := by decide +kernel
theorem dX1_countOdd_26 : decode cX1_countOdd 26 = .ok (.aload_n 0, 1) := by decide +kernel
theorem dX1_countOdd_27 : decode cX1_countOdd 27 = .ok (.iload 5, 2) := by decide +kernel
theorem dX1_countOdd_29 : decode cX1_countOdd 29 = .ok (.iload_n 1, 1) := by decide +kernel
theorem dX1_countOdd_30 : decode cX1_countOdd 30 = .ok (.invokevirtual 36, 3) := by decide +kernel
theorem dX1_countOdd_33 : decode cX1_countOdd 33 = .ok (.lload_n 2, 1) := by decide +kernel
theorem dX1_countOdd_34 : decode cX1_countOdd 34 = .ok (.land, 1) := by decide +kernel
theorem dX1_countOdd_35 : decode cX1_countOdd 35 = .ok (.invokestatic 40, 3) := by decide +kernel
theorem dX1_countOdd_38 : decode cX1_countOdd 38 = .ok (.iadd, 1) := by decide +kernel
theorem dX1_countOdd_39 : decode cX1_countOdd 39 = .ok (.istore 4, 2) := by decide +kernel
theorem dX1_countOdd_41 : decode cX1_countOdd 41 = .ok (.iinc 5 1, 3) := by decide +kernel
theorem dX1_countOdd_44 : decode cX1_countOdd 44 = .ok (.goto (-38), 3) := by decide +kernel
theorem dX1_countOdd_47 : decode cX1_countOdd 47 = .ok (.iload 4, 2) := by decide +kernel
theorem dX1_countOdd_49 : decode cX1_countOdd 49 = .ok (.ireturn, 1) := by decide +kernel
set_option maxRecDepth 20000 in
theorem ggX1_sumUpTo_X1_countTwo : GoodIn wsX1_sumUpTo wsX1_countTwo := goodIn_r _ [4] (by decide +kernel) (by decide +kernel)
set_option maxRecDepth 20000 in
theorem gX1_sumUpTo_X1_countTwo : GoodIn wsX1_sumUpTo (va_wsS RX1 24 yX1_countTwo wsX1_countTwo) := goodIn_app (goodIn_of _ (by decide +kernel)) ggX1_sumUpTo_X1_countTwo
set_option maxRecDepth 20000 in
theorem ggX1_sumUpTo_X1_wordUpTo : GoodIn wsX1_sumUpTo wsX1_wordUpTo := goodIn_r _ [8, 9, 10, 11, 12, 23] (by decide +kernel) (by decide +kernel)
set_option maxRecDepth 20000 in
theorem gX1_sumUpTo_X1_wordUpTo : GoodIn wsX1_sumUpTo (wsV RX1 36 RX1 yX1_wordUpTo wsX1_wordUpTo) := goodIn_app (goodIn_of _ (by decide +kernel)) ggX1_sumUpTo_X1_wordUpTo
set_option maxRecDepth 20000 in
theorem ggX1_sumUpTo_J13_bitCount_95d88 : GoodIn wsX1_sumUpTo wsJ13_bitCount_95d88 := goodIn_r _ [16, 17, 18, 19] (by decide +kernel) (by decide +kernel)
set_option maxRecDepth 20000 in
theorem gX1_sumUpTo_J13_bitCount_95d88 : GoodIn wsX1_sumUpTo (va_wsS RX1 40 yJ13_bitCount_95d88 wsJ13_bitCount_95d88) := goodIn_app (goodIn_of _ (by decide +kernel)) ggX1_sumUpTo_J13_bitCount_95d88
set_option maxRecDepth 20000 in
theorem ggX1_sumUpTo_X1_lowestOf : GoodIn wsX1_sumUpTo wsX1_lowestOf := goodIn_r _ [22, 13, 14, 15, 16, 17, 18, 19] (by decide +kernel) (by decide +kernel)
set_option maxRecDepth 20000 in
theorem gX1_sumUpTo_X1_lowestOf : GoodIn wsX1_sumUpTo (va_wsS RX1 46 yX1_lowestOf wsX1_lowestOf) := goodIn_app (goodIn_of _ (by decide +kernel)) ggX1_sumUpTo_X1_lowestOf
theorem dX1_sumUpTo_0 : decode cX1_sumUpTo 0 = .ok (.iconst 2, 1) := by decide +kernel
theorem dX1_sumUpTo_1 : decode cX1_sumUpTo 1 = .ok (.iload_n 1, 1) := by decide +kernel
theorem dX1_sumUpTo_2 : decode cX1_sumUpTo 2 = .ok (.invokestatic 24, 3) := by decide +kernel
theorem dX1_sumUpTo_5 : decode cX1_sumUpTo 5 = .ok (.imul, 1) := by decide +kernel
theorem dX1_sumUpTo_6 : decode cX1_sumUpTo 6 = .ok (.i2l, 1) := by decide +kernel
theorem dX1_sumUpTo_7 : decode cX1_sumUpTo 7 = .ok (.lstore_n 2, 1) := by decide +kernel
theorem dX1_sumUpTo_8 : decode cX1_sumUpTo 8 = .ok (.iconst 0, 1) := by decide +kernel
theorem dX1_sumUpTo_9 : decode cX1_sumUpTo 9 = .ok (.istore 4, 2) := by decide +kernel
theorem dX1_sumUpTo_11 : decode cX1_sumUpTo 11 = .ok (.iload 4, 2) := by decide +kernel
theorem dX1_sumUpTo_13 : decode cX1_sumUpTo 13 = .ok (.sipush 782, 3) := by decide +kernel
theorem dX1_sumUpTo_16 : decode cX1_sumUpTo 16 = .ok (.if_icmp .ge 66, 3) := by decide +kernel
theorem dX1_sumUpTo_19 : decode cX1_sumUpTo 19 = .ok (.sipush 128, 3) := by decide +kernel
theorem dX1_sumUpTo_22 : decode cX1_sumUpTo 22 = .ok (.iload 4, 2) := by decide +kernel
theorem dX1_sumUpTo_24 : decode cX1_sumUpTo 24 = .ok (.imul, 1) := by decide +kernel
theorem dX1_sumUpTo_25 : decode cX1_sumUpTo 25 = .ok (.iload_n 1, 1) := by decide +kernel
theorem dX1_sumUpTo_26 : decode cX1_sumUpTo 26 = .ok (.if_icmp .ge 56, 3) := by decide +kernel
theorem dX1_sumUpTo_29 : decode cX1_sumUpTo 29 = .ok (.aload_n 0, 1) := by decide +kernel
theorem dX1_sumUpTo_30 : decode cX1_sumUpTo 30 = .ok (.iload 4, 2) := by decide +kernel
theorem dX1_sumUpTo_32 : decode cX1_sumUpTo 32 = .ok (.iload_n 1, 1) := by decide +kernel
theorem dX1_sumUpTo_33 : decode cX1_sumUpTo 33 = .ok (.invokevirtual 36, 3) := by decide +kernel
theorem dX1_sumUpTo_36 : decode cX1_sumUpTo 36 = .ok (.lstore 5, 2) := by decide +kernel
theorem dX1_sumUpTo_38 : decode cX1_sumUpTo 38 = .ok (.lload 5, 2) := by decide +kernel
theorem dX1_sumUpTo_40 : decode cX1_sumUpTo 40 = .ok (.invokestatic 40, 3) := by decide +kernel
theorem dX1_sumUpTo_43 : decode cX1_sumUpTo 43 = .ok (.istore 7, 2) := by decide +kernel
theorem dX1_sumUpTo_45 : decode cX1_sumUpTo 45 = .ok (.iload 7, 2) := by decide +kernel
theorem dX1_sumUpTo_47 : decode cX1_sumUpTo 47 = .ok (.ifCond .le 29, 3) := by decide +kernel
theorem dX1_sumUpTo_50 : decode cX1_sumUpTo 50 = .ok (.lload_n 2, 1) := by decide +kernel
theorem dX1_sumUpTo_51 : decode cX1_sumUpTo 51 = .ok (.iload 4, 2) := by decide +kernel
theorem dX1_sumUpTo_53 : decode cX1_sumUpTo 53 = .ok (.lload 5, 2) := by decide +kernel
theorem dX1_sumUpTo_55 : decode cX1_sumUpTo 55 = .ok (.invokestatic 46, 3) := by decide +kernel
theorem dX1_sumUpTo_58 : decode cX1_sumUpTo 58 = .ok (.i2l, 1) := by decide +kernel
theorem dX1_sumUpTo_59 : decode cX1_sumUpTo 59 = .ok (.ladd, 1) := by decide +kernel
theorem dX1_sumUpTo_60 : decode cX1_sumUpTo 60 = .ok (.lstore_n 2, 1) := by decide +kernel
theorem dX1_sumUpTo_61 : decode cX1_sumUpTo 61 = .ok (.lload 5, 2) := by decide +kernel
theorem dX1_sumUpTo_63 : decode cX1_sumUpTo 63 = .ok (.lload 5, 2) := by decide +kernel
theorem dX1_sumUpTo_65 : decode cX1_sumUpTo 65 = .ok (.lconst 1, 1) := by decide +kernel
theorem dX1_sumUpTo_66 : decode cX1_sumUpTo 66 = .ok (.lsub, 1) := by decide +kernel
theorem dX1_sumUpTo_67 : decode cX1_sumUpTo 67 = .ok (.land, 1) := by decide +kernel
theorem dX1_sumUpTo_68 : decode cX1_sumUpTo 68 = .ok (.lstore 5, 2) := by decide +kernel
theorem dX1_sumUpTo_70 : decode cX1_sumUpTo 70 = .ok (.iinc 7 (-1), 3) := by decide +kernel
theorem dX1_sumUpTo_73 : decode cX1_sumUpTo 73 = .ok (.goto (-28), 3) := by decide +kernel
theorem dX1_sumUpTo_76 : decode cX1_sumUpTo 76 = .ok (.iinc 4 1, 3) := by decide +kernel
theorem dX1_sumUpTo_79 : decode cX1_sumUpTo 79 = .ok (.goto (-68), 3) := by decide +kernel
theorem dX1_sumUpTo_82 : decode cX1_sumUpTo 82 = .ok (.lload_n 2, 1) := by decide +kernel
theorem dX1_sumUpTo_83 : decode cX1_sumUpTo 83 = .ok (.lreturn, 1) := by decide +kernel
set_option maxRecDepth 20000 in
theorem ggX1_wordUpTo_X6_outside : GoodIn wsX1_wordUpTo wsX6_outside := goodIn_r _ [4] (by decide +kernel) (by decide +kernel)
set_option maxRecDepth 20000 in
theorem gX1_wordUpTo_X6_outside_n49 : GoodIn wsX1_wordUpTo (wsX6_outside) := ggX1_wordUpTo_X6_outside
theorem dX1_wordUpTo_0 : decode cX1_wordUpTo 0 = .ok (.iload_n 1, 1) := by decide +kernel
theorem dX1_wordUpTo_1 : decode cX1_wordUpTo 1 = .ok (.iconst 0, 1) := by decide +kernel
theorem dX1_wordUpTo_2 : decode cX1_wordUpTo 2 = .ok (.sipush 781, 3) := by decide +kernel
theorem dX1_wordUpTo_5 : decode cX1_wordUpTo 5 = .ok (.invokestatic 49, 3) := by decide +kernel
theorem dX1_wordUpTo_8 : decode cX1_wordUpTo 8 = .ok (.ifCond .eq 5, 3) := by decide +kernel
theorem dX1_wordUpTo_11 : decode cX1_wordUpTo 11 = .ok (.lconst 0, 1) := by decide +kernel
theorem dX1_wordUpTo_12 : decode cX1_wordUpTo 12 = .ok (.lreturn, 1) := by decide +kernel
theorem dX1_wordUpTo_13 : decode cX1_wordUpTo 13 = .ok (.iload_n 2, 1) := by decide +kernel
theorem dX1_wordUpTo_14 : decode cX1_wordUpTo 14 = .ok (.iconst 1, 1) := by decide +kernel
theorem dX1_wordUpTo_15 : decode cX1_wordUpTo 15 = .ok (.iadd, 1) := by decide +kernel
theorem dX1_wordUpTo_16 : decode cX1_wordUpTo 16 = .ok (.iconst 2, 1) := by decide +kernel
theorem dX1_wordUpTo_17 : decode cX1_wordUpTo 17 = .ok (.idiv, 1) := by decide +kernel
theorem dX1_wordUpTo_18 : decode cX1_wordUpTo 18 = .ok (.bipush 64, 2) := by decide +kernel
theorem dX1_wordUpTo_20 : decode cX1_wordUpTo 20 = .ok (.iload_n 1, 1) := by decide +kernel
theorem dX1_wordUpTo_21 : decode cX1_wordUpTo 21 = .ok (.imul, 1) := by decide +kernel
theorem dX1_wordUpTo_22 : decode cX1_wordUpTo 22 = .ok (.isub, 1) := by decide +kernel
theorem dX1_wordUpTo_23 : decode cX1_wordUpTo 23 = .ok (.istore_n 3, 1) := by decide +kernel
theorem dX1_wordUpTo_24 : decode cX1_wordUpTo 24 = .ok (.iload_n 3, 1) := by decide +kernel
theorem dX1_wordUpTo_25 : decode cX1_wordUpTo 25 = .ok (.bipush 64, 2) := by decide +kernel
theorem dX1_wordUpTo_27 : decode cX1_wordUpTo 27 = .ok (.if_icmp .lt 10, 3) := by decide +kernel
theorem dX1_wordUpTo_30 : decode cX1_wordUpTo 30 = .ok (.aload_n 0, 1) := by decide +kernel
theorem dX1_wordUpTo_31 : decode cX1_wordUpTo 31 = .ok (.getfield 11, 3) := by decide +kernel
theorem dX1_wordUpTo_34 : decode cX1_wordUpTo 34 = .ok (.iload_n 1, 1) := by decide +kernel
theorem dX1_wordUpTo_35 : decode cX1_wordUpTo 35 = .ok (.laload, 1) := by decide +kernel
theorem dX1_wordUpTo_36 : decode cX1_wordUpTo 36 = .ok (.lreturn, 1) := by decide +kernel
theorem dX1_wordUpTo_37 : decode cX1_wordUpTo 37 = .ok (.iload_n 3, 1) := by decide +kernel
theorem dX1_wordUpTo_38 : decode cX1_wordUpTo 38 = .ok (.ifCond .gt 7, 3) := by decide +kernel
theorem dX1_wordUpTo_41 : decode cX1_wordUpTo 41 = .ok (.lconst 0, 1) := by decide +kernel
theorem dX1_wordUpTo_42 : decode cX1_wordUpTo 42 = .ok (.goto 15, 3) := by decide +kernel
theorem dX1_wordUpTo_45 : decode cX1_wordUpTo 45 = .ok (.aload_n 0, 1) := by decide +kernel
theorem dX1_wordUpTo_46 : decode cX1_wordUpTo 46 = .ok (.getfield 11, 3) := by decide +kernel
theorem dX1_wordUpTo_49 : decode cX1_wordUpTo 49 = .ok (.iload_n 1, 1) := by decide +kernel
theorem dX1_wordUpTo_50 : decode cX1_wordUpTo 50 = .ok (.laload, 1) := by decide +kernel
theorem dX1_wordUpTo_51 : decode cX1_wordUpTo 51 = .ok (.lconst 1, 1) := by decide +kernel
theorem dX1_wordUpTo_52 : decode cX1_wordUpTo 52 = .ok (.iload_n 3, 1) := by decide +kernel
theorem dX1_wordUpTo_53 : decode cX1_wordUpTo 53 = .ok (.lshl, 1) := by decide +kernel
theorem dX1_wordUpTo_54 : decode cX1_wordUpTo 54 = .ok (.lconst 1, 1) := by decide +kernel
theorem dX1_wordUpTo_55 : decode cX1_wordUpTo 55 = .ok (.lsub, 1) := by decide +kernel
theorem dX1_wordUpTo_56 : decode cX1_wordUpTo 56 = .ok (.land, 1) := by decide +kernel
theorem dX1_wordUpTo_57 : decode cX1_wordUpTo 57 = .ok (.lreturn, 1) := by decide +kernel
set_option maxRecDepth 20000 in
theorem ggX1_lowestOf_J13_bitCount_95d88 : GoodIn wsX1_lowestOf wsJ13_bitCount_95d88 := goodIn_r _ [4, 5, 6, 7] (by decide +kernel) (by decide +kernel)
set_option maxRecDepth 20000 in
theorem gX1_lowestOf_J13_bitCount_95d88 : GoodIn wsX1_lowestOf (va_wsS RX1 40 yJ13_bitCount_95d88 wsJ13_bitCount_95d88) := goodIn_app (goodIn_of _ (by decide +kernel)) ggX1_lowestOf_J13_bitCount_95d88
theorem dX1_lowestOf_0 : decode cX1_lowestOf 0 = .ok (.lload_n 1, 1) := by decide +kernel
theorem dX1_lowestOf_1 : decode cX1_lowestOf 1 = .ok (.lload_n 1, 1) := by decide +kernel
theorem dX1_lowestOf_2 : decode cX1_lowestOf 2 = .ok (.lneg, 1) := by decide +kernel
theorem dX1_lowestOf_3 : decode cX1_lowestOf 3 = .ok (.land, 1) := by decide +kernel
theorem dX1_lowestOf_4 : decode cX1_lowestOf 4 = .ok (.lconst 1, 1) := by decide +kernel
theorem dX1_lowestOf_5 : decode cX1_lowestOf 5 = .ok (.lsub, 1) := by decide +kernel
theorem dX1_lowestOf_6 : decode cX1_lowestOf 6 = .ok (.invokestatic 40, 3) := by decide +kernel
theorem dX1_lowestOf_9 : decode cX1_lowestOf 9 = .ok (.istore_n 3, 1) := by decide +kernel
theorem dX1_lowestOf_10 : decode cX1_lowestOf 10 = .ok (.iconst 2, 1) := by decide +kernel
theorem dX1_lowestOf_11 : decode cX1_lowestOf 11 = .ok (.bipush 64, 2) := by decide +kernel
theorem dX1_lowestOf_13 : decode cX1_lowestOf 13 = .ok (.iload_n 0, 1) := by decide +kernel
theorem dX1_lowestOf_14 : decode cX1_lowestOf 14 = .ok (.imul, 1) := by decide +kernel
theorem dX1_lowestOf_15 : decode cX1_lowestOf 15 = .ok (.iload_n 3, 1) := by decide +kernel
theorem dX1_lowestOf_16 : decode cX1_lowestOf 16 = .ok (.iadd, 1) := by decide +kernel
theorem dX1_lowestOf_17 : decode cX1_lowestOf 17 = .ok (.imul, 1) := by decide +kernel
theorem dX1_lowestOf_18 : decode cX1_lowestOf 18 = .ok (.iconst 1, 1) := by decide +kernel
theorem dX1_lowestOf_19 : decode cX1_lowestOf 19 = .ok (.iadd, 1) := by decide +kernel
theorem dX1_lowestOf_20 : decode cX1_lowestOf 20 = .ok (.ireturn, 1) := by decide +kernel
set_option maxRecDepth 20000 in
theorem ggX1_ofRank_J13_bitCount_95d88 : GoodIn wsX1_ofRank wsJ13_bitCount_95d88 := goodIn_r _ [5, 6, 7, 8] (by decide +kernel) (by decide +kernel)
set_option maxRecDepth 20000 in
theorem gX1_ofRank_J13_bitCount_95d88 : GoodIn wsX1_ofRank (va_wsS RX1 40 yJ13_bitCount_95d88 wsJ13_bitCount_95d88) := goodIn_app (goodIn_of _ (by decide +kernel)) ggX1_ofRank_J13_bitCount_95d88
set_option maxRecDepth 20000 in
theorem ggX1_ofRank_X1_lowestOf : GoodIn wsX1_ofRank wsX1_lowestOf := goodIn_r _ [12, 2, 3, 4, 5, 6, 7, 8] (by decide +kernel) (by decide +kernel)
set_option maxRecDepth 20000 in
theorem gX1_ofRank_X1_lowestOf : GoodIn wsX1_ofRank (va_wsS RX1 46 yX1_lowestOf wsX1_lowestOf) := goodIn_app (goodIn_of _ (by decide +kernel)) ggX1_ofRank_X1_lowestOf
theorem dX1_ofRank_0 : decode cX1_ofRank 0 = .ok (.iload_n 1, 1) := by decide +kernel
theorem dX1_ofRank_1 : decode cX1_ofRank 1 = .ok (.iconst 1, 1) := by decide +kernel
theorem dX1_ofRank_2 : decode cX1_ofRank 2 = .ok (.isub, 1) := by decide +kernel
theorem dX1_ofRank_3 : decode cX1_ofRank 3 = .ok (.istore_n 2, 1) := by decide +kernel
theorem dX1_ofRank_4 : decode cX1_ofRank 4 = .ok (.iload_n 2, 1) := by decide +kernel
theorem dX1_ofRank_5 : decode cX1_ofRank 5 = .ok (.iconst 1, 1) := by decide +kernel
theorem dX1_ofRank_6 : decode cX1_ofRank 6 = .ok (.if_icmp .ge 5, 3) := by decide +kernel
theorem dX1_ofRank_9 : decode cX1_ofRank 9 = .ok (.iconst 2, 1) := by decide +kernel
theorem dX1_ofRank_10 : decode cX1_ofRank 10 = .ok (.ireturn, 1) := by decide +kernel
theorem dX1_ofRank_11 : decode cX1_ofRank 11 = .ok (.iconst 0, 1) := by decide +kernel
theorem dX1_ofRank_12 : decode cX1_ofRank 12 = .ok (.istore_n 3, 1) := by decide +kernel
theorem dX1_ofRank_13 : decode cX1_ofRank 13 = .ok (.iload_n 3, 1) := by decide +kernel
theorem dX1_ofRank_14 : decode cX1_ofRank 14 = .ok (.sipush 782, 3) := by decide +kernel
theorem dX1_ofRank_17 : decode cX1_ofRank 17 = .ok (.if_icmp .ge 62, 3) := by decide +kernel
theorem dX1_ofRank_20 : decode cX1_ofRank 20 = .ok (.aload_n 0, 1) := by decide +kernel
theorem dX1_ofRank_21 : decode cX1_ofRank 21 = .ok (.getfield 11, 3) := by decide +kernel
theorem dX1_ofRank_24 : decode cX1_ofRank 24 = .ok (.iload_n 3, 1) := by decide +kernel
theorem dX1_ofRank_25 : decode cX1_ofRank 25 = .ok (.laload, 1) := by decide +kernel
theorem dX1_ofRank_26 : decode cX1_ofRank 26 = .ok (.lstore 4, 2) := by decide +kernel
theorem dX1_ofRank_28 : decode cX1_ofRank 28 = .ok (.lload 4, 2) := by decide +kernel
theorem dX1_ofRank_30 : decode cX1_ofRank 30 = .ok (.invokestatic 40, 3) := by decide +kernel
theorem dX1_ofRank_33 : decode cX1_ofRank 33 = .ok (.istore 6, 2) := by decide +kernel
theorem dX1_ofRank_35 : decode cX1_ofRank 35 = .ok (.iload_n 2, 1) := by decide +kernel
theorem dX1_ofRank_36 : decode cX1_ofRank 36 = .ok (.iload 6, 2) := by decide +kernel
theorem dX1_ofRank_38 : decode cX1_ofRank 38 = .ok (.if_icmp .gt 30, 3) := by decide +kernel
theorem dX1_ofRank_41 : decode cX1_ofRank 41 = .ok (.iload_n 2, 1) := by decide +kernel
theorem dX1_ofRank_42 : decode cX1_ofRank 42 = .ok (.iconst 1, 1) := by decide +kernel
theorem dX1_ofRank_43 : decode cX1_ofRank 43 = .ok (.if_icmp .le 18, 3) := by decide +kernel
theorem dX1_ofRank_46 : decode cX1_ofRank 46 = .ok (.lload 4, 2) := by decide +kernel
theorem dX1_ofRank_48 : decode cX1_ofRank 48 = .ok (.lload 4, 2) := by decide +kernel
theorem dX1_ofRank_50 : decode cX1_ofRank 50 = .ok (.lconst 1, 1) := by decide +kernel
theorem dX1_ofRank_51 : decode cX1_ofRank 51 = .ok (.lsub, 1) := by decide +kernel
theorem dX1_ofRank_52 : decode cX1_ofRank 52 = .ok (.land, 1) := by decide +kernel
theorem dX1_ofRank_53 : decode cX1_ofRank 53 = .ok (.lstore 4, 2) := by decide +kernel
theorem dX1_ofRank_55 : decode cX1_ofRank 55 = .ok (.iinc 2 (-1), 3) := by decide +kernel
theorem dX1_ofRank_58 : decode cX1_ofRank 58 = .ok (.goto (-17), 3) := by decide +kernel
theorem dX1_ofRank_61 : decode cX1_ofRank 61 = .ok (.iload_n 3, 1) := by decide +kernel
theorem dX1_ofRank_62 : decode cX1_ofRank 62 = .ok (.lload 4, 2) := by decide +kernel
theorem dX1_ofRank_64 : decode cX1_ofRank 64 = .ok (.invokestatic 46, 3) := by decide +kernel
theorem dX1_ofRank_67 : decode cX1_ofRank 67 = .ok (.ireturn, 1) := by decide +kernel
theorem dX1_ofRank_68 : decode cX1_ofRank 68 = .ok (.iload_n 2, 1) := by decide +kernel
theorem dX1_ofRank_69 : decode cX1_ofRank 69 = .ok (.iload 6, 2) := by decide +kernel
theorem dX1_ofRank_71 : decode cX1_ofRank 71 = .ok (.isub, 1) := by decide +kernel
theorem dX1_ofRank_72 : decode cX1_ofRank 72 = .ok (.istore_n 2, 1) := by decide +kernel
theorem dX1_ofRank_73 : decode cX1_ofRank 73 = .ok (.iinc 3 1, 3) := by decide +kernel
theorem dX1_ofRank_76 : decode cX1_ofRank 76 = .ok (.goto (-63), 3) := by decide +kernel
theorem dX1_ofRank_79 : decode cX1_ofRank 79 = .ok (.iconst (-1), 1) := by decide +kernel
theorem dX1_ofRank_80 : decode cX1_ofRank 80 = .ok (.ireturn, 1) := by decide +kernel
theorem dX2_init_0 : decode cX2_init 0 = .ok (.aload_n 0, 1) := by decide +kernel
theorem dX2_init_1 : decode cX2_init 1 = .ok (.invokespecial 3, 3) := by decide +kernel
theorem dX2_init_4 : decode cX2_init 4 = .ok (.aload_n 0, 1) := by decide +kernel
theorem dX2_init_5 : decode cX2_init 5 = .ok (.bipush 16, 2) := by decide +kernel
theorem dX2_init_7 : decode cX2_init 7 = .ok (.newarray .int, 2) := by decide +kernel
theorem dX2_init_9 : decode cX2_init 9 = .ok (.putfield 11, 3) := by decide +kernel
theorem dX2_init_12 : decode cX2_init 12 = .ok (.aload_n 0, 1) := by decide +kernel
theorem dX2_init_13 : decode cX2_init 13 = .ok (.bipush 16, 2) := by decide +kernel
theorem dX2_init_15 : decode cX2_init 15 = .ok (.newarray .int, 2) := by decide +kernel
theorem dX2_init_17 : decode cX2_init 17 = .ok (.putfield 15, 3) := by decide +kernel
theorem dX2_init_20 : decode cX2_init 20 = .ok (.aload_n 0, 1) := by decide +kernel
theorem dX2_init_21 : decode cX2_init 21 = .ok (.bipush 16, 2) := by decide +kernel
theorem dX2_init_23 : decode cX2_init 23 = .ok (.newarray .long, 2) := by decide +kernel
theorem dX2_init_25 : decode cX2_init 25 = .ok (.putfield 18, 3) := by decide +kernel
theorem dX2_init_28 : decode cX2_init 28 = .ok (.return_, 1) := by decide +kernel
theorem dX2_empty_0 : decode cX2_empty 0 = .ok (.aload_n 0, 1) := by decide +kernel
theorem dX2_empty_1 : decode cX2_empty 1 = .ok (.iconst 0, 1) := by decide +kernel
theorem dX2_empty_2 : decode cX2_empty 2 = .ok (.putfield 22, 3) := by decide +kernel
theorem dX2_empty_5 : decode cX2_empty 5 = .ok (.iconst 0, 1) := by decide +kernel
theorem dX2_empty_6 : decode cX2_empty 6 = .ok (.istore_n 1, 1) := by decide +kernel
theorem dX2_empty_7 : decode cX2_empty 7 = .ok (.iload_n 1, 1) := by decide +kernel
theorem dX2_empty_8 : decode cX2_empty 8 = .ok (.iconst 2, 1) := by decide +kernel
theorem dX2_empty_9 : decode cX2_empty 9 = .ok (.if_icmp .ge 19, 3) := by decide +kernel
theorem dX2_empty_12 : decode cX2_empty 12 = .ok (.aload_n 0, 1) := by decide +kernel
theorem dX2_empty_13 : decode cX2_empty 13 = .ok (.getfield 11, 3) := by decide +kernel
theorem dX2_empty_16 : decode cX2_empty 16 = .ok (.bipush 14, 2) := by decide +kernel
theorem dX2_empty_18 : decode cX2_empty 18 = .ok (.iload_n 1, 1) := by decide +kernel
theorem dX2_empty_19 : decode cX2_empty 19 = .ok (.iadd, 1) := by decide +kernel
theorem dX2_empty_20 : decode cX2_empty 20 = .ok (.iconst 0, 1) := by decide +kernel
theorem dX2_empty_21 : decode cX2_empty 21 = .ok (.iastore, 1) := by decide +kernel
theorem dX2_empty_22 : decode cX2_empty 22 = .ok (.iinc 1 1, 3) := by decide +kernel
theorem dX2_empty_25 : decode cX2_empty 25 = .ok (.goto (-18), 3) := by decide +kernel
theorem dX2_empty_28 : decode cX2_empty 28 = .ok (.return_, 1) := by decide +kernel
set_option maxRecDepth 20000 in
theorem ggX2_remember_X2_put : GoodIn wsX2_remember wsX2_put := goodIn_r _ [11, 12, 13, 14, 15, 16, 17, 18, 19, 20, 21, 22, 23, 24, 25, 26, 27] (by decide +kernel) (by decide +kernel)
set_option maxRecDepth 20000 in
theorem gX2_remember_X2_put : GoodIn wsX2_remember (wsV RX2 29 RX2 yX2_put wsX2_put) := goodIn_app (goodIn_of _ (by decide +kernel)) ggX2_remember_X2_put
theorem dX2_remember_0 : decode cX2_remember 0 = .ok (.aload_n 0, 1) := by decide +kernel
theorem dX2_remember_1 : decode cX2_remember 1 = .ok (.aload_n 0, 1) := by decide +kernel
theorem dX2_remember_2 : decode cX2_remember 2 = .ok (.getfield 26, 3) := by decide +kernel
theorem dX2_remember_5 : decode cX2_remember 5 = .ok (.iconst 1, 1) := by decide +kernel
theorem dX2_remember_6 : decode cX2_remember 6 = .ok (.iadd, 1) := by decide +kernel
theorem dX2_remember_7 : decode cX2_remember 7 = .ok (.bipush 14, 2) := by decide +kernel
theorem dX2_remember_9 : decode cX2_remember 9 = .ok (.irem, 1) := by decide +kernel
theorem dX2_remember_10 : decode cX2_remember 10 = .ok (.putfield 26, 3) := by decide +kernel
theorem dX2_remember_13 : decode cX2_remember 13 = .ok (.aload_n 0, 1) := by decide +kernel
theorem dX2_remember_14 : decode cX2_remember 14 = .ok (.aload_n 0, 1) := by decide +kernel
theorem dX2_remember_15 : decode cX2_remember 15 = .ok (.getfield 26, 3) := by decide +kernel
theorem dX2_remember_18 : decode cX2_remember 18 = .ok (.aload_n 1, 1) := by decide +kernel
theorem dX2_remember_19 : decode cX2_remember 19 = .ok (.invokevirtual 29, 3) := by decide +kernel
theorem dX2_remember_22 : decode cX2_remember 22 = .ok (.aload_n 0, 1) := by decide +kernel
theorem dX2_remember_23 : decode cX2_remember 23 = .ok (.aload_n 0, 1) := by decide +kernel
theorem dX2_remember_24 : decode cX2_remember 24 = .ok (.getfield 22, 3) := by decide +kernel
theorem dX2_remember_27 : decode cX2_remember 27 = .ok (.iconst 1, 1) := by decide +kernel
theorem dX2_remember_28 : decode cX2_remember 28 = .ok (.iadd, 1) := by decide +kernel
theorem dX2_remember_29 : decode cX2_remember 29 = .ok (.bipush 14, 2) := by decide +kernel
theorem dX2_remember_31 : decode cX2_remember 31 = .ok (.invokestatic 33, 3) := by decide +kernel
theorem dX2_remember_34 : decode cX2_remember 34 = .ok (.putfield 22, 3) := by decide +kernel
theorem dX2_remember_37 : decode cX2_remember 37 = .ok (.return_, 1) := by decide +kernel
set_option maxRecDepth 20000 in
theorem ggX2_takeBack_X2_show : GoodIn wsX2_takeBack wsX2_show := goodIn_r _ [11, 12, 13, 14, 15, 16, 17, 18, 19, 20, 21, 22, 23, 24, 25, 26, 27, 28, 29, 30, 31, 32, 33, 34, 35, 36] (by decide +kernel) (by decide +kernel)
set_option maxRecDepth 20000 in
theorem gX2_takeBack_X2_show : GoodIn wsX2_takeBack (wsV RX2 39 RX2 yX2_show wsX2_show) := goodIn_app (goodIn_of _ (by decide +kernel)) ggX2_takeBack_X2_show
theorem dX2_takeBack_0 : decode cX2_takeBack 0 = .ok (.aload_n 0, 1) := by decide +kernel
theorem dX2_takeBack_1 : decode cX2_takeBack 1 = .ok (.aload_n 0, 1) := by decide +kernel
theorem dX2_takeBack_2 : decode cX2_takeBack 2 = .ok (.getfield 26, 3) := by decide +kernel
theorem dX2_takeBack_5 : decode cX2_takeBack 5 = .ok (.aload_n 1, 1) := by decide +kernel
theorem dX2_takeBack_6 : decode cX2_takeBack 6 = .ok (.invokevirtual 39, 3) := by decide +kernel
theorem dX2_takeBack_9 : decode cX2_takeBack 9 = .ok (.aload_n 0, 1) := by decide +kernel
theorem dX2_takeBack_10 : decode cX2_takeBack 10 = .ok (.aload_n 0, 1) := by decide +kernel
theorem dX2_takeBack_11 : decode cX2_takeBack 11 = .ok (.getfield 26, 3) := by decide +kernel
theorem dX2_takeBack_14 : decode cX2_takeBack 14 = .ok (.bipush 14, 2) := by decide +kernel
theorem dX2_takeBack_16 : decode cX2_takeBack 16 = .ok (.iadd, 1) := by decide +kernel
theorem dX2_takeBack_17 : decode cX2_takeBack 17 = .ok (.iconst 1, 1) := by decide +kernel
theorem dX2_takeBack_18 : decode cX2_takeBack 18 = .ok (.isub, 1) := by decide +kernel
theorem dX2_takeBack_19 : decode cX2_takeBack 19 = .ok (.bipush 14, 2) := by decide +kernel
theorem dX2_takeBack_21 : decode cX2_takeBack 21 = .ok (.irem, 1) := by decide +kernel
theorem dX2_takeBack_22 : decode cX2_takeBack 22 = .ok (.putfield 26, 3) := by decide +kernel
theorem dX2_takeBack_25 : decode cX2_takeBack 25 = .ok (.aload_n 0, 1) := by decide +kernel
theorem dX2_takeBack_26 : decode cX2_takeBack 26 = .ok (.aload_n 0, 1) := by decide +kernel
theorem dX2_takeBack_27 : decode cX2_takeBack 27 = .ok (.getfield 22, 3) := by decide +kernel
theorem dX2_takeBack_30 : decode cX2_takeBack 30 = .ok (.iconst 1, 1) := by decide +kernel
theorem dX2_takeBack_31 : decode cX2_takeBack 31 = .ok (.isub, 1) := by decide +kernel
theorem dX2_takeBack_32 : decode cX2_takeBack 32 = .ok (.iconst 0, 1) := by decide +kernel
theorem dX2_takeBack_33 : decode cX2_takeBack 33 = .ok (.invokestatic 42, 3) := by decide +kernel
theorem dX2_takeBack_36 : decode cX2_takeBack 36 = .ok (.putfield 22, 3) := by decide +kernel
theorem dX2_takeBack_39 : decode cX2_takeBack 39 = .ok (.return_, 1) := by decide +kernel
set_option maxRecDepth 20000 in
theorem ggX2_keepInSlot_X2_put : GoodIn wsX2_keepInSlot wsX2_put := goodIn_r _ [5, 6, 7, 8, 9, 10, 11, 12, 13, 14, 15, 16, 17, 18, 19, 20, 21] (by decide +kernel) (by decide +kernel)
set_option maxRecDepth 20000 in
theorem gX2_keepInSlot_X2_put : GoodIn wsX2_keepInSlot (wsV RX2 29 RX2 yX2_put wsX2_put) := goodIn_app (goodIn_of _ (by decide +kernel)) ggX2_keepInSlot_X2_put
theorem dX2_keepInSlot_0 : decode cX2_keepInSlot 0 = .ok (.aload_n 0, 1) := by decide +kernel
theorem dX2_keepInSlot_1 : decode cX2_keepInSlot 1 = .ok (.bipush 14, 2) := by decide +kernel
theorem dX2_keepInSlot_3 : decode cX2_keepInSlot 3 = .ok (.iload_n 1, 1) := by decide +kernel
theorem dX2_keepInSlot_4 : decode cX2_keepInSlot 4 = .ok (.iadd, 1) := by decide +kernel
theorem dX2_keepInSlot_5 : decode cX2_keepInSlot 5 = .ok (.aload_n 2, 1) := by decide +kernel
theorem dX2_keepInSlot_6 : decode cX2_keepInSlot 6 = .ok (.invokevirtual 29, 3) := by decide +kernel
theorem dX2_keepInSlot_9 : decode cX2_keepInSlot 9 = .ok (.return_, 1) := by decide +kernel
set_option maxRecDepth 20000 in
theorem ggX2_isKept_X6_outside : GoodIn wsX2_isKept wsX6_outside := goodIn_r _ [4] (by decide +kernel) (by decide +kernel)
set_option maxRecDepth 20000 in
theorem gX2_isKept_X6_outside_n45 : GoodIn wsX2_isKept (wsX6_outside) := ggX2_isKept_X6_outside
theorem dX2_isKept_0 : decode cX2_isKept 0 = .ok (.bipush 14, 2) := by decide +kernel
theorem dX2_isKept_2 : decode cX2_isKept 2 = .ok (.iload_n 1, 1) := by decide +kernel
theorem dX2_isKept_3 : decode cX2_isKept 3 = .ok (.iadd, 1) := by decide +kernel
theorem dX2_isKept_4 : decode cX2_isKept 4 = .ok (.istore_n 2, 1) := by decide +kernel
theorem dX2_isKept_5 : decode cX2_isKept 5 = .ok (.iload_n 2, 1) := by decide +kernel
theorem dX2_isKept_6 : decode cX2_isKept 6 = .ok (.iconst 0, 1) := by decide +kernel
theorem dX2_isKept_7 : decode cX2_isKept 7 = .ok (.bipush 15, 2) := by decide +kernel
theorem dX2_isKept_9 : decode cX2_isKept 9 = .ok (.invokestatic 45, 3) := by decide +kernel
theorem dX2_isKept_12 : decode cX2_isKept 12 = .ok (.ifCond .ne 16, 3) := by decide +kernel
theorem dX2_isKept_15 : decode cX2_isKept 15 = .ok (.aload_n 0, 1) := by decide +kernel
theorem dX2_isKept_16 : decode cX2_isKept 16 = .ok (.getfield 11, 3) := by decide +kernel
theorem dX2_isKept_19 : decode cX2_isKept 19 = .ok (.iload_n 2, 1) := by decide +kernel
theorem dX2_isKept_20 : decode cX2_isKept 20 = .ok (.iaload, 1) := by decide +kernel
theorem dX2_isKept_21 : decode cX2_isKept 21 = .ok (.ifCond .eq 7, 3) := by decide +kernel
theorem dX2_isKept_24 : decode cX2_isKept 24 = .ok (.iconst 1, 1) := by decide +kernel
theorem dX2_isKept_25 : decode cX2_isKept 25 = .ok (.goto 4, 3) := by decide +kernel
theorem dX2_isKept_28 : decode cX2_isKept 28 = .ok (.iconst 0, 1) := by decide +kernel
theorem dX2_isKept_29 : decode cX2_isKept 29 = .ok (.ireturn, 1) := by decide +kernel
set_option maxRecDepth 20000 in
theorem ggX2_showSlot_X2_show : GoodIn wsX2_showSlot wsX2_show := goodIn_r _ [5, 6, 7, 8, 9, 10, 11, 12, 13, 14, 15, 16, 17, 18, 19, 20, 21, 22, 23, 24, 25, 26, 27, 28, 29, 30] (by decide +kernel) (by decide +kernel)
set_option maxRecDepth 20000 in
theorem gX2_showSlot_X2_show : GoodIn wsX2_showSlot (wsV RX2 39 RX2 yX2_show wsX2_show) := goodIn_app (goodIn_of _ (by decide +kernel)) ggX2_showSlot_X2_show
theorem dX2_showSlot_0 : decode cX2_showSlot 0 = .ok (.aload_n 0, 1) := by decide +kernel
theorem dX2_showSlot_1 : decode cX2_showSlot 1 = .ok (.bipush 14, 2) := by decide +kernel
theorem dX2_showSlot_3 : decode cX2_showSlot 3 = .ok (.iload_n 1, 1) := by decide +kernel
theorem dX2_showSlot_4 : decode cX2_showSlot 4 = .ok (.iadd, 1) := by decide +kernel
theorem dX2_showSlot_5 : decode cX2_showSlot 5 = .ok (.aload_n 2, 1) := by decide +kernel
theorem dX2_showSlot_6 : decode cX2_showSlot 6 = .ok (.invokevirtual 39, 3) := by decide +kernel
theorem dX2_showSlot_9 : decode cX2_showSlot 9 = .ok (.return_, 1) := by decide +kernel
set_option maxRecDepth 20000 in
theorem ggX2_put_X6_outside : GoodIn wsX2_put wsX6_outside := goodIn_r _ [6] (by decide +kernel) (by decide +kernel)
set_option maxRecDepth 20000 in
theorem gX2_put_X6_outside_n45 : GoodIn wsX2_put (wsX6_outside) := ggX2_put_X6_outside
theorem dX2_put_0 : decode cX2_put 0 = .ok (.iload_n 1, 1) := by decide +kernel
theorem dX2_put_1 : decode cX2_put 1 = .ok (.iconst 0, 1) := by decide +kernel
theorem dX2_put_2 : decode cX2_put 2 = .ok (.bipush 15, 2) := by decide +kernel
theorem dX2_put_4 : decode cX2_put 4 = .ok (.invokestatic 45, 3) := by decide +kernel
theorem dX2_put_7 : decode cX2_put 7 = .ok (.ifCond .ne 33, 3) := by decide +kernel
theorem dX2_put_10 : decode cX2_put 10 = .ok (.aload_n 0, 1) := by decide +kernel
theorem dX2_put_11 : decode cX2_put 11 = .ok (.getfield 11, 3) := by decide +kernel
theorem dX2_put_14 : decode cX2_put 14 = .ok (.iload_n 1, 1) := by decide +kernel
theorem dX2_put_15 : decode cX2_put 15 = .ok (.aload_n 2, 1) := by decide +kernel
theorem dX2_put_16 : decode cX2_put 16 = .ok (.getfield 49, 3) := by decide +kernel
theorem dX2_put_19 : decode cX2_put 19 = .ok (.iastore, 1) := by decide +kernel
theorem dX2_put_20 : decode cX2_put 20 = .ok (.aload_n 0, 1) := by decide +kernel
theorem dX2_put_21 : decode cX2_put 21 = .ok (.getfield 15, 3) := by decide +kernel
theorem dX2_put_24 : decode cX2_put 24 = .ok (.iload_n 1, 1) := by decide +kernel
theorem dX2_put_25 : decode cX2_put 25 = .ok (.aload_n 2, 1) := by decide +kernel
theorem dX2_put_26 : decode cX2_put 26 = .ok (.getfield 54, 3) := by decide +kernel
theorem dX2_put_29 : decode cX2_put 29 = .ok (.iastore, 1) := by decide +kernel
theorem dX2_put_30 : decode cX2_put 30 = .ok (.aload_n 0, 1) := by decide +kernel
theorem dX2_put_31 : decode cX2_put 31 = .ok (.getfield 18, 3) := by decide +kernel
theorem dX2_put_34 : decode cX2_put 34 = .ok (.iload_n 1, 1) := by decide +kernel
theorem dX2_put_35 : decode cX2_put 35 = .ok (.aload_n 2, 1) := by decide +kernel
theorem dX2_put_36 : decode cX2_put 36 = .ok (.getfield 57, 3) := by decide +kernel
theorem dX2_put_39 : decode cX2_put 39 = .ok (.lastore, 1) := by decide +kernel
theorem dX2_put_40 : decode cX2_put 40 = .ok (.return_, 1) := by decide +kernel
set_option maxRecDepth 20000 in
theorem ggX2_show_X6_outside : GoodIn wsX2_show wsX6_outside := goodIn_r _ [6] (by decide +kernel) (by decide +kernel)
set_option maxRecDepth 20000 in
theorem gX2_show_X6_outside_n45 : GoodIn wsX2_show (wsX6_outside) := ggX2_show_X6_outside
set_option maxRecDepth 20000 in
theorem ggX2_show_X0_show : GoodIn wsX2_show wsX0_show := goodIn_r _ [11, 12, 13, 14, 15, 21, 22, 23, 24, 25] (by decide +kernel) (by decide +kernel)
set_option maxRecDepth 20000 in
theorem gX2_show_X0_show : GoodIn wsX2_show (wsV RX2 61 RX0 yX0_show wsX0_show) := goodIn_app (goodIn_of _ (by decide +kernel)) ggX2_show_X0_show
theorem dX2_show_0 : decode cX2_show 0 = .ok (.iload_n 1, 1) := by decide +kernel
theorem dX2_show_1 : decode cX2_show 1 = .ok (.iconst 0, 1) := by decide +kernel
theorem dX2_show_2 : decode cX2_show 2 = .ok (.bipush 15, 2) := by decide +kernel
theorem dX2_show_4 : decode cX2_show 4 = .ok (.invokestatic 45, 3) := by decide +kernel
theorem dX2_show_7 : decode cX2_show 7 = .ok (.ifCond .ne 25, 3) := by decide +kernel
theorem dX2_show_10 : decode cX2_show 10 = .ok (.aload_n 2, 1) := by decide +kernel
theorem dX2_show_11 : decode cX2_show 11 = .ok (.aload_n 0, 1) := by decide +kernel
theorem dX2_show_12 : decode cX2_show 12 = .ok (.getfield 11, 3) := by decide +kernel
theorem dX2_show_15 : decode cX2_show 15 = .ok (.iload_n 1, 1) := by decide +kernel
theorem dX2_show_16 : decode cX2_show 16 = .ok (.iaload, 1) := by decide +kernel
theorem dX2_show_17 : decode cX2_show 17 = .ok (.aload_n 0, 1) := by decide +kernel
theorem dX2_show_18 : decode cX2_show 18 = .ok (.getfield 15, 3) := by decide +kernel
theorem dX2_show_21 : decode cX2_show 21 = .ok (.iload_n 1, 1) := by decide +kernel
theorem dX2_show_22 : decode cX2_show 22 = .ok (.iaload, 1) := by decide +kernel
theorem dX2_show_23 : decode cX2_show 23 = .ok (.aload_n 0, 1) := by decide +kernel
theorem dX2_show_24 : decode cX2_show 24 = .ok (.getfield 18, 3) := by decide +kernel
theorem dX2_show_27 : decode cX2_show 27 = .ok (.iload_n 1, 1) := by decide +kernel
theorem dX2_show_28 : decode cX2_show 28 = .ok (.laload, 1) := by decide +kernel
theorem dX2_show_29 : decode cX2_show 29 = .ok (.invokevirtual 61, 3) := by decide +kernel
theorem dX2_show_32 : decode cX2_show 32 = .ok (.return_, 1) := by decide +kernel
theorem dX3_init_0 : decode cX3_init 0 = .ok (.aload_n 0, 1) := by decide +kernel
theorem dX3_init_1 : decode cX3_init 1 = .ok (.invokespecial 3, 3) := by decide +kernel
theorem dX3_init_4 : decode cX3_init 4 = .ok (.aload_n 0, 1) := by decide +kernel
theorem dX3_init_5 : decode cX3_init 5 = .ok (.sipush 631, 3) := by decide +kernel
theorem dX3_init_8 : decode cX3_init 8 = .ok (.newarray .int, 2) := by decide +kernel
theorem dX3_init_10 : decode cX3_init 10 = .ok (.putfield 11, 3) := by decide +kernel
theorem dX3_init_13 : decode cX3_init 13 = .ok (.aload_n 0, 1) := by decide +kernel
theorem dX3_init_14 : decode cX3_init 14 = .ok (.sipush 2524, 3) := by decide +kernel
theorem dX3_init_17 : decode cX3_init 17 = .ok (.newarray .int, 2) := by decide +kernel
theorem dX3_init_19 : decode cX3_init 19 = .ok (.putfield 15, 3) := by decide +kernel
theorem dX3_init_22 : decode cX3_init 22 = .ok (.aload_n 0, 1) := by decide +kernel
theorem dX3_init_23 : decode cX3_init 23 = .ok (.sipush 631, 3) := by decide +kernel
theorem dX3_init_26 : decode cX3_init 26 = .ok (.newarray .long, 2) := by decide +kernel
theorem dX3_init_28 : decode cX3_init 28 = .ok (.putfield 18, 3) := by decide +kernel
theorem dX3_init_31 : decode cX3_init 31 = .ok (.return_, 1) := by decide +kernel
set_option maxRecDepth 20000 in
theorem ggX3_begin_X3_fill : GoodIn wsX3_begin wsX3_fill := goodIn_r _ [11, 12, 13, 14, 15, 16, 17, 18, 10, 19, 2, 20, 21, 22, 23, 24] (by decide +kernel) (by decide +kernel)
set_option maxRecDepth 20000 in
theorem gX3_begin_X3_fill : GoodIn wsX3_begin (wsV RX3 29 RX3 yX3_fill wsX3_fill) := goodIn_app (goodIn_of _ (by decide +kernel)) ggX3_begin_X3_fill
theorem dX3_begin_0 : decode cX3_begin 0 = .ok (.aload_n 0, 1) := by decide +kernel
theorem dX3_begin_1 : decode cX3_begin 1 = .ok (.iload_n 1, 1) := by decide +kernel
theorem dX3_begin_2 : decode cX3_begin 2 = .ok (.putfield 22, 3) := by decide +kernel
theorem dX3_begin_5 : decode cX3_begin 5 = .ok (.aload_n 0, 1) := by decide +kernel
theorem dX3_begin_6 : decode cX3_begin 6 = .ok (.iconst 0, 1) := by decide +kernel
theorem dX3_begin_7 : decode cX3_begin 7 = .ok (.putfield 26, 3) := by decide +kernel
theorem dX3_begin_10 : decode cX3_begin 10 = .ok (.iconst 1, 1) := by decide +kernel
theorem dX3_begin_11 : decode cX3_begin 11 = .ok (.istore_n 2, 1) := by decide +kernel
theorem dX3_begin_12 : decode cX3_begin 12 = .ok (.aload_n 0, 1) := by decide +kernel
theorem dX3_begin_13 : decode cX3_begin 13 = .ok (.getfield 26, 3) := by decide +kernel
theorem dX3_begin_16 : decode cX3_begin 16 = .ok (.sipush 631, 3) := by decide +kernel
theorem dX3_begin_19 : decode cX3_begin 19 = .ok (.if_icmp .ge 51, 3) := by decide +kernel
theorem dX3_begin_22 : decode cX3_begin 22 = .ok (.iload_n 2, 1) := by decide +kernel
theorem dX3_begin_23 : decode cX3_begin 23 = .ok (.iconst 1, 1) := by decide +kernel
theorem dX3_begin_24 : decode cX3_begin 24 = .ok (.if_icmp .lt 46, 3) := by decide +kernel
theorem dX3_begin_27 : decode cX3_begin 27 = .ok (.iload_n 2, 1) := by decide +kernel
theorem dX3_begin_28 : decode cX3_begin 28 = .ok (.iload_n 1, 1) := by decide +kernel
theorem dX3_begin_29 : decode cX3_begin 29 = .ok (.if_icmp .gt 41, 3) := by decide +kernel
theorem dX3_begin_32 : decode cX3_begin 32 = .ok (.iload_n 1, 1) := by decide +kernel
theorem dX3_begin_33 : decode cX3_begin 33 = .ok (.iload_n 2, 1) := by decide +kernel
theorem dX3_begin_34 : decode cX3_begin 34 = .ok (.idiv, 1) := by decide +kernel
theorem dX3_begin_35 : decode cX3_begin 35 = .ok (.istore_n 3, 1) := by decide +kernel
theorem dX3_begin_36 : decode cX3_begin 36 = .ok (.aload_n 0, 1) := by decide +kernel
theorem dX3_begin_37 : decode cX3_begin 37 = .ok (.dup, 1) := by decide +kernel
theorem dX3_begin_38 : decode cX3_begin 38 = .ok (.getfield 26, 3) := by decide +kernel
theorem dX3_begin_41 : decode cX3_begin 41 = .ok (.iconst 1, 1) := by decide +kernel
theorem dX3_begin_42 : decode cX3_begin 42 = .ok (.iadd, 1) := by decide +kernel
theorem dX3_begin_43 : decode cX3_begin 43 = .ok (.putfield 26, 3) := by decide +kernel
theorem dX3_begin_46 : decode cX3_begin 46 = .ok (.aload_n 0, 1) := by decide +kernel
theorem dX3_begin_47 : decode cX3_begin 47 = .ok (.aload_n 0, 1) := by decide +kernel
theorem dX3_begin_48 : decode cX3_begin 48 = .ok (.getfield 26, 3) := by decide +kernel
theorem dX3_begin_51 : decode cX3_begin 51 = .ok (.iconst 1, 1) := by decide +kernel
theorem dX3_begin_52 : decode cX3_begin 52 = .ok (.isub, 1) := by decide +kernel
theorem dX3_begin_53 : decode cX3_begin 53 = .ok (.iload_n 3, 1) := by decide +kernel
theorem dX3_begin_54 : decode cX3_begin 54 = .ok (.invokevirtual 29, 3) := by decide +kernel
theorem dX3_begin_57 : decode cX3_begin 57 = .ok (.iload_n 1, 1) := by decide +kernel
theorem dX3_begin_58 : decode cX3_begin 58 = .ok (.iconst 1, 1) := by decide +kernel
theorem dX3_begin_59 : decode cX3_begin 59 = .ok (.iload_n 3, 1) := by decide +kernel
theorem dX3_begin_60 : decode cX3_begin 60 = .ok (.invokestatic 33, 3) := by decide +kernel
theorem dX3_begin_63 : decode cX3_begin 63 = .ok (.idiv, 1) := by decide +kernel
theorem dX3_begin_64 : decode cX3_begin 64 = .ok (.iconst 1, 1) := by decide +kernel
theorem dX3_begin_65 : decode cX3_begin 65 = .ok (.iadd, 1) := by decide +kernel
theorem dX3_begin_66 : decode cX3_begin 66 = .ok (.istore_n 2, 1) := by decide +kernel
theorem dX3_begin_67 : decode cX3_begin 67 = .ok (.goto (-55), 3) := by decide +kernel
theorem dX3_begin_70 : decode cX3_begin 70 = .ok (.return_, 1) := by decide +kernel
set_option maxRecDepth 20000 in
theorem ggX3_fill_X3_has : GoodIn wsX3_fill wsX3_has := goodIn_r _ [9, 10, 11, 12, 13, 14, 15] (by decide +kernel) (by decide +kernel)
set_option maxRecDepth 20000 in
theorem gX3_fill_X3_has : GoodIn wsX3_fill (wsV RX3 39 RX3 yX3_has wsX3_has) := goodIn_app (goodIn_of _ (by decide +kernel)) ggX3_fill_X3_has
theorem dX3_fill_0 : decode cX3_fill 0 = .ok (.aload_n 0, 1) := by decide +kernel
theorem dX3_fill_1 : decode cX3_fill 1 = .ok (.iload_n 1, 1) := by decide +kernel
theorem dX3_fill_2 : decode cX3_fill 2 = .ok (.invokevirtual 39, 3) := by decide +kernel
theorem dX3_fill_5 : decode cX3_fill 5 = .ok (.ifCond .ne 4, 3) := by decide +kernel
theorem dX3_fill_8 : decode cX3_fill 8 = .ok (.return_, 1) := by decide +kernel
theorem dX3_fill_9 : decode cX3_fill 9 = .ok (.aload_n 0, 1) := by decide +kernel
theorem dX3_fill_10 : decode cX3_fill 10 = .ok (.getfield 11, 3) := by decide +kernel
theorem dX3_fill_13 : decode cX3_fill 13 = .ok (.iload_n 1, 1) := by decide +kernel
theorem dX3_fill_14 : decode cX3_fill 14 = .ok (.iload_n 2, 1) := by decide +kernel
theorem dX3_fill_15 : decode cX3_fill 15 = .ok (.iastore, 1) := by decide +kernel
theorem dX3_fill_16 : decode cX3_fill 16 = .ok (.aload_n 0, 1) := by decide +kernel
theorem dX3_fill_17 : decode cX3_fill 17 = .ok (.getfield 18, 3) := by decide +kernel
theorem dX3_fill_20 : decode cX3_fill 20 = .ok (.iload_n 1, 1) := by decide +kernel
theorem dX3_fill_21 : decode cX3_fill 21 = .ok (.iload_n 2, 1) := by decide +kernel
theorem dX3_fill_22 : decode cX3_fill 22 = .ok (.i2l, 1) := by decide +kernel
theorem dX3_fill_23 : decode cX3_fill 23 = .ok (.iload_n 2, 1) := by decide +kernel
theorem dX3_fill_24 : decode cX3_fill 24 = .ok (.i2l, 1) := by decide +kernel
theorem dX3_fill_25 : decode cX3_fill 25 = .ok (.lconst 1, 1) := by decide +kernel
theorem dX3_fill_26 : decode cX3_fill 26 = .ok (.ladd, 1) := by decide +kernel
theorem dX3_fill_27 : decode cX3_fill 27 = .ok (.lmul, 1) := by decide +kernel
theorem dX3_fill_28 : decode cX3_fill 28 = .ok (.ldc2_w 43, 3) := by decide +kernel
theorem dX3_fill_31 : decode cX3_fill 31 = .ok (.ldiv, 1) := by decide +kernel
theorem dX3_fill_32 : decode cX3_fill 32 = .ok (.lastore, 1) := by decide +kernel
theorem dX3_fill_33 : decode cX3_fill 33 = .ok (.aload_n 0, 1) := by decide +kernel
theorem dX3_fill_34 : decode cX3_fill 34 = .ok (.getfield 15, 3) := by decide +kernel
theorem dX3_fill_37 : decode cX3_fill 37 = .ok (.iconst 4, 1) := by decide +kernel
theorem dX3_fill_38 : decode cX3_fill 38 = .ok (.iload_n 1, 1) := by decide +kernel
theorem dX3_fill_39 : decode cX3_fill 39 = .ok (.imul, 1) := by decide +kernel
theorem dX3_fill_40 : decode cX3_fill 40 = .ok (.iload_n 2, 1) := by decide +kernel
theorem dX3_fill_41 : decode cX3_fill 41 = .ok (.iconst 4, 1) := by decide +kernel
theorem dX3_fill_42 : decode cX3_fill 42 = .ok (.idiv, 1) := by decide +kernel
theorem dX3_fill_43 : decode cX3_fill 43 = .ok (.iastore, 1) := by decide +kernel
theorem dX3_fill_44 : decode cX3_fill 44 = .ok (.iconst 1, 1) := by decide +kernel
theorem dX3_fill_45 : decode cX3_fill 45 = .ok (.istore_n 3, 1) := by decide +kernel
theorem dX3_fill_46 : decode cX3_fill 46 = .ok (.iload_n 3, 1) := by decide +kernel
theorem dX3_fill_47 : decode cX3_fill 47 = .ok (.iconst 4, 1) := by decide +kernel
theorem dX3_fill_48 : decode cX3_fill 48 = .ok (.if_icmp .ge 26, 3) := by decide +kernel
theorem dX3_fill_51 : decode cX3_fill 51 = .ok (.aload_n 0, 1) := by decide +kernel
theorem dX3_fill_52 : decode cX3_fill 52 = .ok (.getfield 15, 3) := by decide +kernel
theorem dX3_fill_55 : decode cX3_fill 55 = .ok (.iconst 4, 1) := by decide +kernel
theorem dX3_fill_56 : decode cX3_fill 56 = .ok (.iload_n 1, 1) := by decide +kernel
theorem dX3_fill_57 : decode cX3_fill 57 = .ok (.imul, 1) := by decide +kernel
theorem dX3_fill_58 : decode cX3_fill 58 = .ok (.iload_n 3, 1) := by decide +kernel
theorem dX3_fill_59 : decode cX3_fill 59 = .ok (.iadd, 1) := by decide +kernel
theorem dX3_fill_60 : decode cX3_fill 60 = .ok (.iload_n 2, 1) := by decide +kernel
theorem dX3_fill_61 : decode cX3_fill 61 = .ok (.iconst 4, 1) := by decide +kernel
theorem dX3_fill_62 : decode cX3_fill 62 = .ok (.iadd, 1) := by decide +kernel
theorem dX3_fill_63 : decode cX3_fill 63 = .ok (.iload_n 3, 1) := by decide +kernel
theorem dX3_fill_64 : decode cX3_fill 64 = .ok (.isub, 1) := by decide +kernel
theorem dX3_fill_65 : decode cX3_fill 65 = .ok (.iconst 4, 1) := by decide +kernel
theorem dX3_fill_66 : decode cX3_fill 66 = .ok (.idiv, 1) := by decide +kernel
theorem dX3_fill_67 : decode cX3_fill 67 = .ok (.iastore, 1) := by decide +kernel
theorem dX3_fill_68 : decode cX3_fill 68 = .ok (.iinc 3 1, 3) := by decide +kernel
theorem dX3_fill_71 : decode cX3_fill 71 = .ok (.goto (-25), 3) := by decide +kernel
theorem dX3_fill_74 : decode cX3_fill 74 = .ok (.return_, 1) := by decide +kernel
theorem dX3_placeOf_0 : decode cX3_placeOf 0 = .ok (.iload_n 1, 1) := by decide +kernel
theorem dX3_placeOf_1 : decode cX3_placeOf 1 = .ok (.iconst 1, 1) := by decide +kernel
theorem dX3_placeOf_2 : decode cX3_placeOf 2 = .ok (.if_icmp .lt 11, 3) := by decide +kernel
theorem dX3_placeOf_5 : decode cX3_placeOf 5 = .ok (.iload_n 1, 1) := by decide +kernel
theorem dX3_placeOf_6 : decode cX3_placeOf 6 = .ok (.aload_n 0, 1) := by decide +kernel
theorem dX3_placeOf_7 : decode cX3_placeOf 7 = .ok (.getfield 22, 3) := by decide +kernel
theorem dX3_placeOf_10 : decode cX3_placeOf 10 = .ok (.if_icmp .le 5, 3) := by decide +kernel
theorem dX3_placeOf_13 : decode cX3_placeOf 13 = .ok (.iconst (-1), 1) := by decide +kernel
theorem dX3_placeOf_14 : decode cX3_placeOf 14 = .ok (.ireturn, 1) := by decide +kernel
theorem dX3_placeOf_15 : decode cX3_placeOf 15 = .ok (.aload_n 0, 1) := by decide +kernel
theorem dX3_placeOf_16 : decode cX3_placeOf 16 = .ok (.getfield 22, 3) := by decide +kernel
theorem dX3_placeOf_19 : decode cX3_placeOf 19 = .ok (.iload_n 1, 1) := by decide +kernel
theorem dX3_placeOf_20 : decode cX3_placeOf 20 = .ok (.idiv, 1) := by decide +kernel
theorem dX3_placeOf_21 : decode cX3_placeOf 21 = .ok (.istore_n 2, 1) := by decide +kernel
theorem dX3_placeOf_22 : decode cX3_placeOf 22 = .ok (.iload_n 2, 1) := by decide +kernel
theorem dX3_placeOf_23 : decode cX3_placeOf 23 = .ok (.iconst 1, 1) := by decide +kernel
theorem dX3_placeOf_24 : decode cX3_placeOf 24 = .ok (.if_icmp .lt 13, 3) := by decide +kernel
theorem dX3_placeOf_27 : decode cX3_placeOf 27 = .ok (.aload_n 0, 1) := by decide +kernel
theorem dX3_placeOf_28 : decode cX3_placeOf 28 = .ok (.getfield 22, 3) := by decide +kernel
theorem dX3_placeOf_31 : decode cX3_placeOf 31 = .ok (.iload_n 2, 1) := by decide +kernel
theorem dX3_placeOf_32 : decode cX3_placeOf 32 = .ok (.idiv, 1) := by decide +kernel
theorem dX3_placeOf_33 : decode cX3_placeOf 33 = .ok (.iload_n 1, 1) := by decide +kernel
theorem dX3_placeOf_34 : decode cX3_placeOf 34 = .ok (.if_icmp .eq 5, 3) := by decide +kernel
theorem dX3_placeOf_37 : decode cX3_placeOf 37 = .ok (.iconst (-1), 1) := by decide +kernel
theorem dX3_placeOf_38 : decode cX3_placeOf 38 = .ok (.ireturn, 1) := by decide +kernel
theorem dX3_placeOf_39 : decode cX3_placeOf 39 = .ok (.iload_n 1, 1) := by decide +kernel
theorem dX3_placeOf_40 : decode cX3_placeOf 40 = .ok (.iload_n 2, 1) := by decide +kernel
theorem dX3_placeOf_41 : decode cX3_placeOf 41 = .ok (.if_icmp .gt 12, 3) := by decide +kernel
theorem dX3_placeOf_44 : decode cX3_placeOf 44 = .ok (.aload_n 0, 1) := by decide +kernel
theorem dX3_placeOf_45 : decode cX3_placeOf 45 = .ok (.getfield 26, 3) := by decide +kernel
theorem dX3_placeOf_48 : decode cX3_placeOf 48 = .ok (.iload_n 1, 1) := by decide +kernel
theorem dX3_placeOf_49 : decode cX3_placeOf 49 = .ok (.isub, 1) := by decide +kernel
theorem dX3_placeOf_50 : decode cX3_placeOf 50 = .ok (.goto 6, 3) := by decide +kernel
theorem dX3_placeOf_53 : decode cX3_placeOf 53 = .ok (.iload_n 2, 1) := by decide +kernel
theorem dX3_placeOf_54 : decode cX3_placeOf 54 = .ok (.iconst 1, 1) := by decide +kernel
theorem dX3_placeOf_55 : decode cX3_placeOf 55 = .ok (.isub, 1) := by decide +kernel
theorem dX3_placeOf_56 : decode cX3_placeOf 56 = .ok (.ireturn, 1) := by decide +kernel
theorem dX3_has_0 : decode cX3_has 0 = .ok (.iload_n 1, 1) := by decide +kernel
theorem dX3_has_1 : decode cX3_has 1 = .ok (.ifCond .lt 15, 3) := by decide +kernel
theorem dX3_has_4 : decode cX3_has 4 = .ok (.iload_n 1, 1) := by decide +kernel
theorem dX3_has_5 : decode cX3_has 5 = .ok (.aload_n 0, 1) := by decide +kernel
theorem dX3_has_6 : decode cX3_has 6 = .ok (.getfield 26, 3) := by decide +kernel
theorem dX3_has_9 : decode cX3_has 9 = .ok (.if_icmp .ge 7, 3) := by decide +kernel
theorem dX3_has_12 : decode cX3_has 12 = .ok (.iconst 1, 1) := by decide +kernel
theorem dX3_has_13 : decode cX3_has 13 = .ok (.goto 4, 3) := by decide +kernel
theorem dX3_has_16 : decode cX3_has 16 = .ok (.iconst 0, 1) := by decide +kernel
theorem dX3_has_17 : decode cX3_has 17 = .ok (.ireturn, 1) := by decide +kernel
set_option maxRecDepth 20000 in
theorem ggX3_valueAt_X3_has : GoodIn wsX3_valueAt wsX3_has := goodIn_r _ [6, 7, 8, 9, 10, 11, 12] (by decide +kernel) (by decide +kernel)
set_option maxRecDepth 20000 in
theorem gX3_valueAt_X3_has : GoodIn wsX3_valueAt (wsV RX3 39 RX3 yX3_has wsX3_has) := goodIn_app (goodIn_of _ (by decide +kernel)) ggX3_valueAt_X3_has
theorem dX3_valueAt_0 : decode cX3_valueAt 0 = .ok (.aload_n 0, 1) := by decide +kernel
theorem dX3_valueAt_1 : decode cX3_valueAt 1 = .ok (.iload_n 1, 1) := by decide +kernel
theorem dX3_valueAt_2 : decode cX3_valueAt 2 = .ok (.invokevirtual 39, 3) := by decide +kernel
theorem dX3_valueAt_5 : decode cX3_valueAt 5 = .ok (.ifCond .eq 12, 3) := by decide +kernel
theorem dX3_valueAt_8 : decode cX3_valueAt 8 = .ok (.aload_n 0, 1) := by decide +kernel
theorem dX3_valueAt_9 : decode cX3_valueAt 9 = .ok (.getfield 11, 3) := by decide +kernel
theorem dX3_valueAt_12 : decode cX3_valueAt 12 = .ok (.iload_n 1, 1) := by decide +kernel
theorem dX3_valueAt_13 : decode cX3_valueAt 13 = .ok (.iaload, 1) := by decide +kernel
theorem dX3_valueAt_14 : decode cX3_valueAt 14 = .ok (.goto 4, 3) := by decide +kernel
theorem dX3_valueAt_17 : decode cX3_valueAt 17 = .ok (.iconst 0, 1) := by decide +kernel
theorem dX3_valueAt_18 : decode cX3_valueAt 18 = .ok (.ireturn, 1) := by decide +kernel
set_option maxRecDepth 20000 in
theorem ggX3_countAt_X3_restAt : GoodIn wsX3_countAt wsX3_restAt := goodIn_r _ [5, 6, 7, 8, 9, 4, 10, 11, 12, 13, 14, 15, 16, 17, 18, 19] (by decide +kernel) (by decide +kernel)
set_option maxRecDepth 20000 in
theorem gX3_countAt_X3_restAt : GoodIn wsX3_countAt (wsV RX3 45 RX3 yX3_restAt wsX3_restAt) := goodIn_app (goodIn_of _ (by decide +kernel)) ggX3_countAt_X3_restAt
theorem dX3_countAt_0 : decode cX3_countAt 0 = .ok (.iconst 0, 1) := by decide +kernel
theorem dX3_countAt_1 : decode cX3_countAt 1 = .ok (.istore_n 2, 1) := by decide +kernel
theorem dX3_countAt_2 : decode cX3_countAt 2 = .ok (.iconst 0, 1) := by decide +kernel
theorem dX3_countAt_3 : decode cX3_countAt 3 = .ok (.istore_n 3, 1) := by decide +kernel
theorem dX3_countAt_4 : decode cX3_countAt 4 = .ok (.iload_n 3, 1) := by decide +kernel
theorem dX3_countAt_5 : decode cX3_countAt 5 = .ok (.iconst 4, 1) := by decide +kernel
theorem dX3_countAt_6 : decode cX3_countAt 6 = .ok (.if_icmp .ge 18, 3) := by decide +kernel
theorem dX3_countAt_9 : decode cX3_countAt 9 = .ok (.iload_n 2, 1) := by decide +kernel
theorem dX3_countAt_10 : decode cX3_countAt 10 = .ok (.aload_n 0, 1) := by decide +kernel
theorem dX3_countAt_11 : decode cX3_countAt 11 = .ok (.iload_n 1, 1) := by decide +kernel
theorem dX3_countAt_12 : decode cX3_countAt 12 = .ok (.iload_n 3, 1) := by decide +kernel
theorem dX3_countAt_13 : decode cX3_countAt 13 = .ok (.invokevirtual 45, 3) := by decide +kernel
theorem dX3_countAt_16 : decode cX3_countAt 16 = .ok (.iadd, 1) := by decide +kernel
theorem dX3_countAt_17 : decode cX3_countAt 17 = .ok (.istore_n 2, 1) := by decide +kernel
theorem dX3_countAt_18 : decode cX3_countAt 18 = .ok (.iinc 3 1, 3) := by decide +kernel
theorem dX3_countAt_21 : decode cX3_countAt 21 = .ok (.goto (-17), 3) := by decide +kernel
theorem dX3_countAt_24 : decode cX3_countAt 24 = .ok (.iload_n 2, 1) := by decide +kernel
theorem dX3_countAt_25 : decode cX3_countAt 25 = .ok (.ireturn, 1) := by decide +kernel
set_option maxRecDepth 20000 in
theorem ggX3_restAt_X3_has : GoodIn wsX3_restAt wsX3_has := goodIn_r _ [6, 7, 11, 12, 13, 14, 15] (by decide +kernel) (by decide +kernel)
set_option maxRecDepth 20000 in
theorem gX3_restAt_X3_has : GoodIn wsX3_restAt (wsV RX3 39 RX3 yX3_has wsX3_has) := goodIn_app (goodIn_of _ (by decide +kernel)) ggX3_restAt_X3_has
set_option maxRecDepth 20000 in
theorem ggX3_restAt_X6_outside : GoodIn wsX3_restAt wsX6_outside := goodIn_r _ [10] (by decide +kernel) (by decide +kernel)
set_option maxRecDepth 20000 in
theorem gX3_restAt_X6_outside_n48 : GoodIn wsX3_restAt (wsX6_outside) := ggX3_restAt_X6_outside
theorem dX3_restAt_0 : decode cX3_restAt 0 = .ok (.aload_n 0, 1) := by decide +kernel
theorem dX3_restAt_1 : decode cX3_restAt 1 = .ok (.iload_n 1, 1) := by decide +kernel
theorem dX3_restAt_2 : decode cX3_restAt 2 = .ok (.invokevirtual 39, 3) := by decide +kernel
theorem dX3_restAt_5 : decode cX3_restAt 5 = .ok (.ifCond .eq 25, 3) := by decide +kernel
theorem dX3_restAt_8 : decode cX3_restAt 8 = .ok (.iload_n 2, 1) := by decide +kernel
theorem dX3_restAt_9 : decode cX3_restAt 9 = .ok (.iconst 0, 1) := by decide +kernel
theorem dX3_restAt_10 : decode cX3_restAt 10 = .ok (.iconst 3, 1) := by decide +kernel
theorem dX3_restAt_11 : decode cX3_restAt 11 = .ok (.invokestatic 48, 3) := by decide +kernel
theorem dX3_restAt_14 : decode cX3_restAt 14 = .ok (.ifCond .ne 16, 3) := by decide +kernel
theorem dX3_restAt_17 : decode cX3_restAt 17 = .ok (.aload_n 0, 1) := by decide +kernel
theorem dX3_restAt_18 : decode cX3_restAt 18 = .ok (.getfield 15, 3) := by decide +kernel
theorem dX3_restAt_21 : decode cX3_restAt 21 = .ok (.iconst 4, 1) := by decide +kernel
theorem dX3_restAt_22 : decode cX3_restAt 22 = .ok (.iload_n 1, 1) := by decide +kernel
theorem dX3_restAt_23 : decode cX3_restAt 23 = .ok (.imul, 1) := by decide +kernel
theorem dX3_restAt_24 : decode cX3_restAt 24 = .ok (.iload_n 2, 1) := by decide +kernel
theorem dX3_restAt_25 : decode cX3_restAt 25 = .ok (.iadd, 1) := by decide +kernel
theorem dX3_restAt_26 : decode cX3_restAt 26 = .ok (.iaload, 1) := by decide +kernel
theorem dX3_restAt_27 : decode cX3_restAt 27 = .ok (.goto 4, 3) := by decide +kernel
theorem dX3_restAt_30 : decode cX3_restAt 30 = .ok (.iconst 0, 1) := by decide +kernel
theorem dX3_restAt_31 : decode cX3_restAt 31 = .ok (.ireturn, 1) := by decide +kernel
set_option maxRecDepth 20000 in
theorem ggX3_sumAt_X3_has : GoodIn wsX3_sumAt wsX3_has := goodIn_r _ [6, 7, 8, 9, 10, 11, 12] (by decide +kernel) (by decide +kernel)
set_option maxRecDepth 20000 in
theorem gX3_sumAt_X3_has : GoodIn wsX3_sumAt (wsV RX3 39 RX3 yX3_has wsX3_has) := goodIn_app (goodIn_of _ (by decide +kernel)) ggX3_sumAt_X3_has
theorem dX3_sumAt_0 : decode cX3_sumAt 0 = .ok (.aload_n 0, 1) := by decide +kernel
theorem dX3_sumAt_1 : decode cX3_sumAt 1 = .ok (.iload_n 1, 1) := by decide +kernel
theorem dX3_sumAt_2 : decode cX3_sumAt 2 = .ok (.invokevirtual 39, 3) := by decide +kernel
theorem dX3_sumAt_5 : decode cX3_sumAt 5 = .ok (.ifCond .eq 12, 3) := by decide +kernel
theorem dX3_sumAt_8 : decode cX3_sumAt 8 = .ok (.aload_n 0, 1) := by decide +kernel
theorem dX3_sumAt_9 : decode cX3_sumAt 9 = .ok (.getfield 18, 3) := by decide +kernel
theorem dX3_sumAt_12 : decode cX3_sumAt 12 = .ok (.iload_n 1, 1) := by decide +kernel
theorem dX3_sumAt_13 : decode cX3_sumAt 13 = .ok (.laload, 1) := by decide +kernel
theorem dX3_sumAt_14 : decode cX3_sumAt 14 = .ok (.goto 4, 3) := by decide +kernel
theorem dX3_sumAt_17 : decode cX3_sumAt 17 = .ok (.lconst 0, 1) := by decide +kernel
theorem dX3_sumAt_18 : decode cX3_sumAt 18 = .ok (.lreturn, 1) := by decide +kernel
set_option maxRecDepth 20000 in
theorem ggX3_multiplesAt_X3_valueAt : GoodIn wsX3_multiplesAt wsX3_valueAt := goodIn_r _ [5, 6, 7, 8, 9, 4, 10, 11, 29, 30, 31, 32, 33] (by decide +kernel) (by decide +kernel)
set_option maxRecDepth 20000 in
theorem gX3_multiplesAt_X3_valueAt : GoodIn wsX3_multiplesAt (wsV RX3 52 RX3 yX3_valueAt wsX3_valueAt) := goodIn_app (goodIn_of _ (by decide +kernel)) ggX3_multiplesAt_X3_valueAt
set_option maxRecDepth 20000 in
theorem ggX3_multiplesAt_X3_placeOf : GoodIn wsX3_multiplesAt wsX3_placeOf := goodIn_r _ [15, 16, 11, 29, 30, 31, 32, 33] (by decide +kernel) (by decide +kernel)
set_option maxRecDepth 20000 in
theorem gX3_multiplesAt_X3_placeOf : GoodIn wsX3_multiplesAt (wsV RX3 56 RX3 yX3_placeOf wsX3_placeOf) := goodIn_app (goodIn_of _ (by decide +kernel)) ggX3_multiplesAt_X3_placeOf
set_option maxRecDepth 20000 in
theorem ggX3_multiplesAt_X3_countAt : GoodIn wsX3_multiplesAt wsX3_countAt := goodIn_r _ [20, 21, 22, 23, 4, 24, 25, 7, 8, 9, 10, 11, 26, 27, 28, 29, 30, 31, 32, 33] (by decide +kernel) (by decide +kernel)
set_option maxRecDepth 20000 in
theorem gX3_multiplesAt_X3_countAt : GoodIn wsX3_multiplesAt (wsV RX3 59 RX3 yX3_countAt wsX3_countAt) := goodIn_app (goodIn_of _ (by decide +kernel)) ggX3_multiplesAt_X3_countAt
theorem dX3_multiplesAt_0 : decode cX3_multiplesAt 0 = .ok (.iload_n 2, 1) := by decide +kernel
theorem dX3_multiplesAt_1 : decode cX3_multiplesAt 1 = .ok (.iconst 1, 1) := by decide +kernel
theorem dX3_multiplesAt_2 : decode cX3_multiplesAt 2 = .ok (.if_icmp .ge 7, 3) := by decide +kernel
theorem dX3_multiplesAt_5 : decode cX3_multiplesAt 5 = .ok (.iconst 0, 1) := by decide +kernel
theorem dX3_multiplesAt_6 : decode cX3_multiplesAt 6 = .ok (.goto 18, 3) := by decide +kernel
theorem dX3_multiplesAt_9 : decode cX3_multiplesAt 9 = .ok (.aload_n 0, 1) := by decide +kernel
theorem dX3_multiplesAt_10 : decode cX3_multiplesAt 10 = .ok (.aload_n 0, 1) := by decide +kernel
theorem dX3_multiplesAt_11 : decode cX3_multiplesAt 11 = .ok (.aload_n 0, 1) := by decide +kernel
theorem dX3_multiplesAt_12 : decode cX3_multiplesAt 12 = .ok (.iload_n 1, 1) := by decide +kernel
theorem dX3_multiplesAt_13 : decode cX3_multiplesAt 13 = .ok (.invokevirtual 52, 3) := by decide +kernel
theorem dX3_multiplesAt_16 : decode cX3_multiplesAt 16 = .ok (.iload_n 2, 1) := by decide +kernel
theorem dX3_multiplesAt_17 : decode cX3_multiplesAt 17 = .ok (.idiv, 1) := by decide +kernel
theorem dX3_multiplesAt_18 : decode cX3_multiplesAt 18 = .ok (.invokevirtual 56, 3) := by decide +kernel
theorem dX3_multiplesAt_21 : decode cX3_multiplesAt 21 = .ok (.invokevirtual 59, 3) := by decide +kernel
theorem dX3_multiplesAt_24 : decode cX3_multiplesAt 24 = .ok (.ireturn, 1) := by decide +kernel
set_option maxRecDepth 20000 in
theorem ggX3_remove_X3_valueAt : GoodIn wsX3_remove wsX3_valueAt := goodIn_r _ [8, 1, 9, 10, 11, 7, 12, 13, 19, 20, 21, 22, 23] (by decide +kernel) (by decide +kernel)
set_option maxRecDepth 20000 in
theorem gX3_remove_X3_valueAt : GoodIn wsX3_remove (wsV RX3 52 RX3 yX3_valueAt wsX3_valueAt) := goodIn_app (goodIn_of _ (by decide +kernel)) ggX3_remove_X3_valueAt
set_option maxRecDepth 20000 in
theorem ggX3_remove_X3_placeOf : GoodIn wsX3_remove wsX3_placeOf := goodIn_r _ [17, 18, 13, 19, 20, 21, 22, 23] (by decide +kernel) (by decide +kernel)
set_option maxRecDepth 20000 in
theorem gX3_remove_X3_placeOf : GoodIn wsX3_remove (wsV RX3 56 RX3 yX3_placeOf wsX3_placeOf) := goodIn_app (goodIn_of _ (by decide +kernel)) ggX3_remove_X3_placeOf
set_option maxRecDepth 20000 in
theorem ggX3_remove_X3_has : GoodIn wsX3_remove wsX3_has := goodIn_r _ [12, 13, 19, 20, 21, 22, 23] (by decide +kernel) (by decide +kernel)
set_option maxRecDepth 20000 in
theorem gX3_remove_X3_has : GoodIn wsX3_remove (wsV RX3 39 RX3 yX3_has wsX3_has) := goodIn_app (goodIn_of _ (by decide +kernel)) ggX3_remove_X3_has
theorem dX3_remove_0 : decode cX3_remove 0 = .ok (.iload_n 1, 1) := by decide +kernel
theorem dX3_remove_1 : decode cX3_remove 1 = .ok (.iconst 2, 1) := by decide +kernel
theorem dX3_remove_2 : decode cX3_remove 2 = .ok (.if_icmp .ge 4, 3) := by decide +kernel
theorem dX3_remove_5 : decode cX3_remove 5 = .ok (.return_, 1) := by decide +kernel
theorem dX3_remove_6 : decode cX3_remove 6 = .ok (.iconst 0, 1) := by decide +kernel
theorem dX3_remove_7 : decode cX3_remove 7 = .ok (.istore_n 2, 1) := by decide +kernel
theorem dX3_remove_8 : decode cX3_remove 8 = .ok (.iload_n 2, 1) := by decide +kernel
theorem dX3_remove_9 : decode cX3_remove 9 = .ok (.sipush 631, 3) := by decide +kernel
theorem dX3_remove_12 : decode cX3_remove 12 = .ok (.if_icmp .ge 102, 3) := by decide +kernel
theorem dX3_remove_15 : decode cX3_remove 15 = .ok (.aload_n 0, 1) := by decide +kernel
theorem dX3_remove_16 : decode cX3_remove 16 = .ok (.iload_n 2, 1) := by decide +kernel
theorem dX3_remove_17 : decode cX3_remove 17 = .ok (.invokevirtual 52, 3) := by decide +kernel
theorem dX3_remove_20 : decode cX3_remove 20 = .ok (.iload_n 1, 1) := by decide +kernel
theorem dX3_remove_21 : decode cX3_remove 21 = .ok (.if_icmp .lt 93, 3) := by decide +kernel
theorem dX3_remove_24 : decode cX3_remove 24 = .ok (.aload_n 0, 1) := by decide +kernel
theorem dX3_remove_25 : decode cX3_remove 25 = .ok (.aload_n 0, 1) := by decide +kernel
theorem dX3_remove_26 : decode cX3_remove 26 = .ok (.getfield 11, 3) := by decide +kernel
theorem dX3_remove_29 : decode cX3_remove 29 = .ok (.iload_n 2, 1) := by decide +kernel
theorem dX3_remove_30 : decode cX3_remove 30 = .ok (.iaload, 1) := by decide +kernel
theorem dX3_remove_31 : decode cX3_remove 31 = .ok (.iload_n 1, 1) := by decide +kernel
theorem dX3_remove_32 : decode cX3_remove 32 = .ok (.idiv, 1) := by decide +kernel
theorem dX3_remove_33 : decode cX3_remove 33 = .ok (.invokevirtual 56, 3) := by decide +kernel
theorem dX3_remove_36 : decode cX3_remove 36 = .ok (.istore_n 3, 1) := by decide +kernel
theorem dX3_remove_37 : decode cX3_remove 37 = .ok (.aload_n 0, 1) := by decide +kernel
theorem dX3_remove_38 : decode cX3_remove 38 = .ok (.iload_n 3, 1) := by decide +kernel
theorem dX3_remove_39 : decode cX3_remove 39 = .ok (.invokevirtual 39, 3) := by decide +kernel
theorem dX3_remove_42 : decode cX3_remove 42 = .ok (.ifCond .ne 4, 3) := by decide +kernel
theorem dX3_remove_45 : decode cX3_remove 45 = .ok (.return_, 1) := by decide +kernel
theorem dX3_remove_46 : decode cX3_remove 46 = .ok (.aload_n 0, 1) := by decide +kernel
theorem dX3_remove_47 : decode cX3_remove 47 = .ok (.getfield 18, 3) := by decide +kernel
theorem dX3_remove_50 : decode cX3_remove 50 = .ok (.iload_n 2, 1) := by decide +kernel
theorem dX3_remove_51 : decode cX3_remove 51 = .ok (.dup2, 1) := by decide +kernel
theorem dX3_remove_52 : decode cX3_remove 52 = .ok (.laload, 1) := by decide +kernel
theorem dX3_remove_53 : decode cX3_remove 53 = .ok (.iload_n 1, 1) := by decide +kernel
theorem dX3_remove_54 : decode cX3_remove 54 = .ok (.i2l, 1) := by decide +kernel
theorem dX3_remove_55 : decode cX3_remove 55 = .ok (.aload_n 0, 1) := by decide +kernel
theorem dX3_remove_56 : decode cX3_remove 56 = .ok (.getfield 18, 3) := by decide +kernel
theorem dX3_remove_59 : decode cX3_remove 59 = .ok (.iload_n 3, 1) := by decide +kernel
theorem dX3_remove_60 : decode cX3_remove 60 = .ok (.laload, 1) := by decide +kernel
theorem dX3_remove_61 : decode cX3_remove 61 = .ok (.lmul, 1) := by decide +kernel
theorem dX3_remove_62 : decode cX3_remove 62 = .ok (.lsub, 1) := by decide +kernel
theorem dX3_remove_63 : decode cX3_remove 63 = .ok (.lastore, 1) := by decide +kernel
theorem dX3_remove_64 : decode cX3_remove 64 = .ok (.iconst 0, 1) := by decide +kernel
theorem dX3_remove_65 : decode cX3_remove 65 = .ok (.istore 4, 2) := by decide +kernel
theorem dX3_remove_67 : decode cX3_remove 67 = .ok (.iload 4, 2) := by decide +kernel
theorem dX3_remove_69 : decode cX3_remove 69 = .ok (.iconst 4, 1) := by decide +kernel
theorem dX3_remove_70 : decode cX3_remove 70 = .ok (.if_icmp .ge 38, 3) := by decide +kernel
theorem dX3_remove_73 : decode cX3_remove 73 = .ok (.aload_n 0, 1) := by decide +kernel
theorem dX3_remove_74 : decode cX3_remove 74 = .ok (.getfield 15, 3) := by decide +kernel
theorem dX3_remove_77 : decode cX3_remove 77 = .ok (.iconst 4, 1) := by decide +kernel
theorem dX3_remove_78 : decode cX3_remove 78 = .ok (.iload_n 2, 1) := by decide +kernel
theorem dX3_remove_79 : decode cX3_remove 79 = .ok (.imul, 1) := by decide +kernel
theorem dX3_remove_80 : decode cX3_remove 80 = .ok (.iload_n 1, 1) := by decide +kernel
theorem dX3_remove_81 : decode cX3_remove 81 = .ok (.iload 4, 2) := by decide +kernel
theorem dX3_remove_83 : decode cX3_remove 83 = .ok (.imul, 1) := by decide +kernel
theorem dX3_remove_84 : decode cX3_remove 84 = .ok (.iconst 3, 1) := by decide +kernel
theorem dX3_remove_85 : decode cX3_remove 85 = .ok (.iand, 1) := by decide +kernel
theorem dX3_remove_86 : decode cX3_remove 86 = .ok (.iadd, 1) := by decide +kernel
theorem dX3_remove_87 : decode cX3_remove 87 = .ok (.dup2, 1) := by decide +kernel
theorem dX3_remove_88 : decode cX3_remove 88 = .ok (.iaload, 1) := by decide +kernel
theorem dX3_remove_89 : decode cX3_remove 89 = .ok (.aload_n 0, 1) := by decide +kernel
theorem dX3_remove_90 : decode cX3_remove 90 = .ok (.getfield 15, 3) := by decide +kernel
theorem dX3_remove_93 : decode cX3_remove 93 = .ok (.iconst 4, 1) := by decide +kernel
theorem dX3_remove_94 : decode cX3_remove 94 = .ok (.iload_n 3, 1) := by decide +kernel
theorem dX3_remove_95 : decode cX3_remove 95 = .ok (.imul, 1) := by decide +kernel
theorem dX3_remove_96 : decode cX3_remove 96 = .ok (.iload 4, 2) := by decide +kernel
theorem dX3_remove_98 : decode cX3_remove 98 = .ok (.iadd, 1) := by decide +kernel
theorem dX3_remove_99 : decode cX3_remove 99 = .ok (.iaload, 1) := by decide +kernel
theorem dX3_remove_100 : decode cX3_remove 100 = .ok (.isub, 1) := by decide +kernel
theorem dX3_remove_101 : decode cX3_remove 101 = .ok (.iastore, 1) := by decide +kernel
theorem dX3_remove_102 : decode cX3_remove 102 = .ok (.iinc 4 1, 3) := by decide +kernel
theorem dX3_remove_105 : decode cX3_remove 105 = .ok (.goto (-38), 3) := by decide +kernel
theorem dX3_remove_108 : decode cX3_remove 108 = .ok (.iinc 2 1, 3) := by decide +kernel
theorem dX3_remove_111 : decode cX3_remove 111 = .ok (.goto (-103), 3) := by decide +kernel
theorem dX3_remove_114 : decode cX3_remove 114 = .ok (.return_, 1) := by decide +kernel
theorem dX4_init_0 : decode cX4_init 0 = .ok (.aload_n 0, 1) := by decide +kernel
theorem dX4_init_1 : decode cX4_init 1 = .ok (.invokespecial 3, 3) := by decide +kernel
theorem dX4_init_4 : decode cX4_init 4 = .ok (.aload_n 0, 1) := by decide +kernel
theorem dX4_init_5 : decode cX4_init 5 = .ok (.bipush 60, 2) := by decide +kernel
theorem dX4_init_7 : decode cX4_init 7 = .ok (.newarray .char, 2) := by decide +kernel
theorem dX4_init_9 : decode cX4_init 9 = .ok (.putfield 9, 3) := by decide +kernel
theorem dX4_init_12 : decode cX4_init 12 = .ok (.return_, 1) := by decide +kernel
theorem dX4_add_0 : decode cX4_add 0 = .ok (.aload_n 0, 1) := by decide +kernel
theorem dX4_add_1 : decode cX4_add 1 = .ok (.getfield 15, 3) := by decide +kernel
theorem dX4_add_4 : decode cX4_add 4 = .ok (.aload_n 0, 1) := by decide +kernel
theorem dX4_add_5 : decode cX4_add 5 = .ok (.getfield 9, 3) := by decide +kernel
theorem dX4_add_8 : decode cX4_add 8 = .ok (.arraylength, 1) := by decide +kernel
theorem dX4_add_9 : decode cX4_add 9 = .ok (.if_icmp .ge 23, 3) := by decide +kernel
theorem dX4_add_12 : decode cX4_add 12 = .ok (.aload_n 0, 1) := by decide +kernel
theorem dX4_add_13 : decode cX4_add 13 = .ok (.getfield 9, 3) := by decide +kernel
theorem dX4_add_16 : decode cX4_add 16 = .ok (.aload_n 0, 1) := by decide +kernel
theorem dX4_add_17 : decode cX4_add 17 = .ok (.getfield 15, 3) := by decide +kernel
theorem dX4_add_20 : decode cX4_add 20 = .ok (.iload_n 1, 1) := by decide +kernel
theorem dX4_add_21 : decode cX4_add 21 = .ok (.castore, 1) := by decide +kernel
theorem dX4_add_22 : decode cX4_add 22 = .ok (.aload_n 0, 1) := by decide +kernel
theorem dX4_add_23 : decode cX4_add 23 = .ok (.dup, 1) := by decide +kernel
theorem dX4_add_24 : decode cX4_add 24 = .ok (.getfield 15, 3) := by decide +kernel
theorem dX4_add_27 : decode cX4_add 27 = .ok (.iconst 1, 1) := by decide +kernel
theorem dX4_add_28 : decode cX4_add 28 = .ok (.iadd, 1) := by decide +kernel
theorem dX4_add_29 : decode cX4_add 29 = .ok (.putfield 15, 3) := by decide +kernel
theorem dX4_add_32 : decode cX4_add 32 = .ok (.return_, 1) := by decide +kernel
set_option maxRecDepth 20000 in
theorem ggX4_findFault_X4_rewind : GoodIn wsX4_findFault wsX4_rewind := goodIn_r _ [6, 7, 8, 1, 85, 86, 87, 88, 89, 90, 91] (by decide +kernel) (by decide +kernel)
set_option maxRecDepth 20000 in
theorem gX4_findFault_X4_rewind : GoodIn wsX4_findFault (wsV RX4 19 RX4 yX4_rewind wsX4_rewind) := goodIn_app (goodIn_of _ (by decide +kernel)) ggX4_findFault_X4_rewind
set_option maxRecDepth 20000 in
theorem ggX4_findFault_X4_readWord : GoodIn wsX4_findFault wsX4_readWord := goodIn_r _ [12, 8, 7, 1, 13, 14, 15, 16, 17, 5, 18, 19, 20, 21, 22, 23, 24, 25, 26, 27, 28, 29, 30, 31, 32, 33, 34, 35, 36, 37, 38, 39, 40, 41, 42, 43, 44, 45, 46, 47, 48, 49, 50, 51, 52, 53, 54, 55, 56, 57, 58, 59, 60, 61, 62, 63, 64, 65, 66, 67, 68, 69, 70, 71, 72, 73, 74, 75, 76, 77, 78, 79, 80, 81, 82, 83, 84, 85, 86, 87, 88, 89, 90, 91] (by decide +kernel) (by decide +kernel)
set_option maxRecDepth 20000 in
theorem gX4_findFault_X4_readWord : GoodIn wsX4_findFault (wsV RX4 22 RX4 yX4_readWord wsX4_readWord) := goodIn_app (goodIn_of _ (by decide +kernel)) ggX4_findFault_X4_readWord
theorem dX4_findFault_0 : decode cX4_findFault 0 = .ok (.aload_n 0, 1) := by decide +kernel
theorem dX4_findFault_1 : decode cX4_findFault 1 = .ok (.invokevirtual 19, 3) := by decide +kernel
theorem dX4_findFault_4 : decode cX4_findFault 4 = .ok (.iconst 1, 1) := by decide +kernel
theorem dX4_findFault_5 : decode cX4_findFault 5 = .ok (.istore_n 1, 1) := by decide +kernel
theorem dX4_findFault_6 : decode cX4_findFault 6 = .ok (.iconst 0, 1) := by decide +kernel
theorem dX4_findFault_7 : decode cX4_findFault 7 = .ok (.istore_n 2, 1) := by decide +kernel
theorem dX4_findFault_8 : decode cX4_findFault 8 = .ok (.iload_n 2, 1) := by decide +kernel
theorem dX4_findFault_9 : decode cX4_findFault 9 = .ok (.bipush 60, 2) := by decide +kernel
theorem dX4_findFault_11 : decode cX4_findFault 11 = .ok (.if_icmp .ge 18, 3) := by decide +kernel
theorem dX4_findFault_14 : decode cX4_findFault 14 = .ok (.iload_n 1, 1) := by decide +kernel
theorem dX4_findFault_15 : decode cX4_findFault 15 = .ok (.ifCond .eq 14, 3) := by decide +kernel
theorem dX4_findFault_18 : decode cX4_findFault 18 = .ok (.aload_n 0, 1) := by decide +kernel
theorem dX4_findFault_19 : decode cX4_findFault 19 = .ok (.invokevirtual 22, 3) := by decide +kernel
theorem dX4_findFault_22 : decode cX4_findFault 22 = .ok (.istore_n 1, 1) := by decide +kernel
theorem dX4_findFault_23 : decode cX4_findFault 23 = .ok (.iinc 2 1, 3) := by decide +kernel
theorem dX4_findFault_26 : decode cX4_findFault 26 = .ok (.goto (-18), 3) := by decide +kernel
theorem dX4_findFault_29 : decode cX4_findFault 29 = .ok (.aload_n 0, 1) := by decide +kernel
theorem dX4_findFault_30 : decode cX4_findFault 30 = .ok (.getfield 26, 3) := by decide +kernel
theorem dX4_findFault_33 : decode cX4_findFault 33 = .ok (.ireturn, 1) := by decide +kernel
theorem dX4_rewind_0 : decode cX4_rewind 0 = .ok (.aload_n 0, 1) := by decide +kernel
theorem dX4_rewind_1 : decode cX4_rewind 1 = .ok (.iconst 0, 1) := by decide +kernel
theorem dX4_rewind_2 : decode cX4_rewind 2 = .ok (.putfield 29, 3) := by decide +kernel
theorem dX4_rewind_5 : decode cX4_rewind 5 = .ok (.aload_n 0, 1) := by decide +kernel
theorem dX4_rewind_6 : decode cX4_rewind 6 = .ok (.iconst 1, 1) := by decide +kernel
theorem dX4_rewind_7 : decode cX4_rewind 7 = .ok (.putfield 32, 3) := by decide +kernel
theorem dX4_rewind_10 : decode cX4_rewind 10 = .ok (.aload_n 0, 1) := by decide +kernel
theorem dX4_rewind_11 : decode cX4_rewind 11 = .ok (.iconst (-1), 1) := by decide +kernel
theorem dX4_rewind_12 : decode cX4_rewind 12 = .ok (.putfield 26, 3) := by decide +kernel
theorem dX4_rewind_15 : decode cX4_rewind 15 = .ok (.return_, 1) := by decide +kernel
set_option maxRecDepth 20000 in
theorem ggX4_readWord_X4_readSpelling : GoodIn wsX4_readWord wsX4_readSpelling := goodIn_r _ [10, 11, 12, 13, 14, 15, 2, 16, 17, 18, 9, 19, 4, 5, 20, 21, 22, 23, 24, 25, 26, 27, 28, 29, 30, 31, 32, 33, 34, 35, 36, 37, 38, 39, 40, 41, 42, 43, 44, 45, 46, 47, 48, 49, 50, 51, 52, 53, 54, 55, 56, 57, 58, 59, 60, 61, 62, 63, 64, 65, 66, 67, 68, 77, 78, 79, 80, 81, 82, 83] (by decide +kernel) (by decide +kernel)
set_option maxRecDepth 20000 in
theorem gX4_readWord_X4_readSpelling : GoodIn wsX4_readWord (wsV RX4 36 RX4 yX4_readSpelling wsX4_readSpelling) := goodIn_app (goodIn_of _ (by decide +kernel)) ggX4_readWord_X4_readSpelling
set_option maxRecDepth 20000 in
theorem ggX4_readWord_X4_readNumber : GoodIn wsX4_readWord wsX4_readNumber := goodIn_r _ [72, 73, 11, 2, 4, 5, 74, 75, 76, 77, 78, 79, 80, 81, 82, 83] (by decide +kernel) (by decide +kernel)
set_option maxRecDepth 20000 in
theorem gX4_readWord_X4_readNumber : GoodIn wsX4_readWord (wsV RX4 39 RX4 yX4_readNumber wsX4_readNumber) := goodIn_app (goodIn_of _ (by decide +kernel)) ggX4_readWord_X4_readNumber
theorem dX4_readWord_0 : decode cX4_readWord 0 = .ok (.aload_n 0, 1) := by decide +kernel
theorem dX4_readWord_1 : decode cX4_readWord 1 = .ok (.getfield 32, 3) := by decide +kernel
theorem dX4_readWord_4 : decode cX4_readWord 4 = .ok (.ifCond .ne 5, 3) := by decide +kernel
theorem dX4_readWord_7 : decode cX4_readWord 7 = .ok (.iconst 0, 1) := by decide +kernel
theorem dX4_readWord_8 : decode cX4_readWord 8 = .ok (.ireturn, 1) := by decide +kernel
theorem dX4_readWord_9 : decode cX4_readWord 9 = .ok (.aload_n 0, 1) := by decide +kernel
theorem dX4_readWord_10 : decode cX4_readWord 10 = .ok (.iconst 0, 1) := by decide +kernel
theorem dX4_readWord_11 : decode cX4_readWord 11 = .ok (.putfield 32, 3) := by decide +kernel
theorem dX4_readWord_14 : decode cX4_readWord 14 = .ok (.aload_n 0, 1) := by decide +kernel
theorem dX4_readWord_15 : decode cX4_readWord 15 = .ok (.invokevirtual 36, 3) := by decide +kernel
theorem dX4_readWord_18 : decode cX4_readWord 18 = .ok (.ifCond .eq 10, 3) := by decide +kernel
theorem dX4_readWord_21 : decode cX4_readWord 21 = .ok (.aload_n 0, 1) := by decide +kernel
theorem dX4_readWord_22 : decode cX4_readWord 22 = .ok (.invokevirtual 39, 3) := by decide +kernel
theorem dX4_readWord_25 : decode cX4_readWord 25 = .ok (.ifCond .ne 13, 3) := by decide +kernel
theorem dX4_readWord_28 : decode cX4_readWord 28 = .ok (.aload_n 0, 1) := by decide +kernel
theorem dX4_readWord_29 : decode cX4_readWord 29 = .ok (.aload_n 0, 1) := by decide +kernel
theorem dX4_readWord_30 : decode cX4_readWord 30 = .ok (.getfield 29, 3) := by decide +kernel
theorem dX4_readWord_33 : decode cX4_readWord 33 = .ok (.putfield 26, 3) := by decide +kernel
theorem dX4_readWord_36 : decode cX4_readWord 36 = .ok (.iconst 0, 1) := by decide +kernel
theorem dX4_readWord_37 : decode cX4_readWord 37 = .ok (.ireturn, 1) := by decide +kernel
theorem dX4_readWord_38 : decode cX4_readWord 38 = .ok (.aload_n 0, 1) := by decide +kernel
theorem dX4_readWord_39 : decode cX4_readWord 39 = .ok (.getfield 29, 3) := by decide +kernel
theorem dX4_readWord_42 : decode cX4_readWord 42 = .ok (.aload_n 0, 1) := by decide +kernel
theorem dX4_readWord_43 : decode cX4_readWord 43 = .ok (.getfield 15, 3) := by decide +kernel
theorem dX4_readWord_46 : decode cX4_readWord 46 = .ok (.if_icmp .ge 42, 3) := by decide +kernel
theorem dX4_readWord_49 : decode cX4_readWord 49 = .ok (.aload_n 0, 1) := by decide +kernel
theorem dX4_readWord_50 : decode cX4_readWord 50 = .ok (.getfield 9, 3) := by decide +kernel
theorem dX4_readWord_53 : decode cX4_readWord 53 = .ok (.aload_n 0, 1) := by decide +kernel
theorem dX4_readWord_54 : decode cX4_readWord 54 = .ok (.getfield 29, 3) := by decide +kernel
theorem dX4_readWord_57 : decode cX4_readWord 57 = .ok (.caload, 1) := by decide +kernel
theorem dX4_readWord_58 : decode cX4_readWord 58 = .ok (.bipush 44, 2) := by decide +kernel
theorem dX4_readWord_60 : decode cX4_readWord 60 = .ok (.if_icmp .eq 13, 3) := by decide +kernel
theorem dX4_readWord_63 : decode cX4_readWord 63 = .ok (.aload_n 0, 1) := by decide +kernel
theorem dX4_readWord_64 : decode cX4_readWord 64 = .ok (.aload_n 0, 1) := by decide +kernel
theorem dX4_readWord_65 : decode cX4_readWord 65 = .ok (.getfield 29, 3) := by decide +kernel
theorem dX4_readWord_68 : decode cX4_readWord 68 = .ok (.putfield 26, 3) := by decide +kernel
theorem dX4_readWord_71 : decode cX4_readWord 71 = .ok (.iconst 0, 1) := by decide +kernel
theorem dX4_readWord_72 : decode cX4_readWord 72 = .ok (.ireturn, 1) := by decide +kernel
theorem dX4_readWord_73 : decode cX4_readWord 73 = .ok (.aload_n 0, 1) := by decide +kernel
theorem dX4_readWord_74 : decode cX4_readWord 74 = .ok (.dup, 1) := by decide +kernel
theorem dX4_readWord_75 : decode cX4_readWord 75 = .ok (.getfield 29, 3) := by decide +kernel
theorem dX4_readWord_78 : decode cX4_readWord 78 = .ok (.iconst 1, 1) := by decide +kernel
theorem dX4_readWord_79 : decode cX4_readWord 79 = .ok (.iadd, 1) := by decide +kernel
theorem dX4_readWord_80 : decode cX4_readWord 80 = .ok (.putfield 29, 3) := by decide +kernel
theorem dX4_readWord_83 : decode cX4_readWord 83 = .ok (.aload_n 0, 1) := by decide +kernel
theorem dX4_readWord_84 : decode cX4_readWord 84 = .ok (.iconst 1, 1) := by decide +kernel
theorem dX4_readWord_85 : decode cX4_readWord 85 = .ok (.putfield 32, 3) := by decide +kernel
theorem dX4_readWord_88 : decode cX4_readWord 88 = .ok (.iconst 1, 1) := by decide +kernel
theorem dX4_readWord_89 : decode cX4_readWord 89 = .ok (.ireturn, 1) := by decide +kernel
set_option maxRecDepth 20000 in
theorem ggX4_readSpelling_X4_countSameSigns : GoodIn wsX4_readSpelling wsX4_countSameSigns := goodIn_r _ [11, 6, 12, 13, 14, 15, 16, 17, 18, 19, 20, 21, 22, 23, 24, 25, 26, 27, 28, 29, 30, 31, 32, 33, 34, 35, 36, 37, 38, 39, 40, 41, 42, 43, 44, 45, 46, 47, 48, 49, 50, 51, 52, 53, 54, 55, 56, 57, 58, 59, 60, 61, 62, 63, 64, 65, 66, 67, 68, 69] (by decide +kernel) (by decide +kernel)
set_option maxRecDepth 20000 in
theorem gX4_readSpelling_X4_countSameSigns : GoodIn wsX4_readSpelling (wsV RX4 56 RX4 yX4_countSameSigns wsX4_countSameSigns) := goodIn_app (goodIn_of _ (by decide +kernel)) ggX4_readSpelling_X4_countSameSigns
set_option maxRecDepth 20000 in
theorem ggX4_readSpelling_J0_length_8abf5 : GoodIn wsX4_readSpelling wsJ0_length_8abf5 := goodIn_r _ [18, 19, 20, 21, 22, 17, 23, 24, 25] (by decide +kernel) (by decide +kernel)
set_option maxRecDepth 20000 in
theorem gX4_readSpelling_J0_length_8abf5 : GoodIn wsX4_readSpelling (wsV RX4 60 RJ0 yJ0_length_8abf5 wsJ0_length_8abf5) := goodIn_app (goodIn_of _ (by decide +kernel)) ggX4_readSpelling_J0_length_8abf5
theorem dX4_readSpelling_0 : decode cX4_readSpelling 0 = .ok (.aload_n 0, 1) := by decide +kernel
theorem dX4_readSpelling_1 : decode cX4_readSpelling 1 = .ok (.aconst_null, 1) := by decide +kernel
theorem dX4_readSpelling_2 : decode cX4_readSpelling 2 = .ok (.putfield 42, 3) := by decide +kernel
theorem dX4_readSpelling_5 : decode cX4_readSpelling 5 = .ok (.iconst 0, 1) := by decide +kernel
theorem dX4_readSpelling_6 : decode cX4_readSpelling 6 = .ok (.istore_n 1, 1) := by decide +kernel
theorem dX4_readSpelling_7 : decode cX4_readSpelling 7 = .ok (.getstatic 46, 3) := by decide +kernel
theorem dX4_readSpelling_10 : decode cX4_readSpelling 10 = .ok (.astore_n 2, 1) := by decide +kernel
theorem dX4_readSpelling_11 : decode cX4_readSpelling 11 = .ok (.aload_n 2, 1) := by decide +kernel
theorem dX4_readSpelling_12 : decode cX4_readSpelling 12 = .ok (.arraylength, 1) := by decide +kernel
theorem dX4_readSpelling_13 : decode cX4_readSpelling 13 = .ok (.istore_n 3, 1) := by decide +kernel
theorem dX4_readSpelling_14 : decode cX4_readSpelling 14 = .ok (.iconst 0, 1) := by decide +kernel
theorem dX4_readSpelling_15 : decode cX4_readSpelling 15 = .ok (.istore 4, 2) := by decide +kernel
theorem dX4_readSpelling_17 : decode cX4_readSpelling 17 = .ok (.iload 4, 2) := by decide +kernel
theorem dX4_readSpelling_19 : decode cX4_readSpelling 19 = .ok (.iload_n 3, 1) := by decide +kernel
theorem dX4_readSpelling_20 : decode cX4_readSpelling 20 = .ok (.if_icmp .ge 52, 3) := by decide +kernel
theorem dX4_readSpelling_23 : decode cX4_readSpelling 23 = .ok (.aload_n 2, 1) := by decide +kernel
theorem dX4_readSpelling_24 : decode cX4_readSpelling 24 = .ok (.iload 4, 2) := by decide +kernel
theorem dX4_readSpelling_26 : decode cX4_readSpelling 26 = .ok (.aaload, 1) := by decide +kernel
theorem dX4_readSpelling_27 : decode cX4_readSpelling 27 = .ok (.astore 5, 2) := by decide +kernel
theorem dX4_readSpelling_29 : decode cX4_readSpelling 29 = .ok (.aload_n 0, 1) := by decide +kernel
theorem dX4_readSpelling_30 : decode cX4_readSpelling 30 = .ok (.aload 5, 2) := by decide +kernel
theorem dX4_readSpelling_32 : decode cX4_readSpelling 32 = .ok (.getfield 50, 3) := by decide +kernel
theorem dX4_readSpelling_35 : decode cX4_readSpelling 35 = .ok (.invokevirtual 56, 3) := by decide +kernel
theorem dX4_readSpelling_38 : decode cX4_readSpelling 38 = .ok (.istore 6, 2) := by decide +kernel
theorem dX4_readSpelling_40 : decode cX4_readSpelling 40 = .ok (.iload 6, 2) := by decide +kernel
theorem dX4_readSpelling_42 : decode cX4_readSpelling 42 = .ok (.aload 5, 2) := by decide +kernel
theorem dX4_readSpelling_44 : decode cX4_readSpelling 44 = .ok (.getfield 50, 3) := by decide +kernel
theorem dX4_readSpelling_47 : decode cX4_readSpelling 47 = .ok (.invokevirtual 60, 3) := by decide +kernel
theorem dX4_readSpelling_50 : decode cX4_readSpelling 50 = .ok (.if_icmp .ne 9, 3) := by decide +kernel
theorem dX4_readSpelling_53 : decode cX4_readSpelling 53 = .ok (.aload_n 0, 1) := by decide +kernel
theorem dX4_readSpelling_54 : decode cX4_readSpelling 54 = .ok (.aload 5, 2) := by decide +kernel
theorem dX4_readSpelling_56 : decode cX4_readSpelling 56 = .ok (.putfield 42, 3) := by decide +kernel
theorem dX4_readSpelling_59 : decode cX4_readSpelling 59 = .ok (.iload_n 1, 1) := by decide +kernel
theorem dX4_readSpelling_60 : decode cX4_readSpelling 60 = .ok (.iload 6, 2) := by decide +kernel
theorem dX4_readSpelling_62 : decode cX4_readSpelling 62 = .ok (.invokestatic 65, 3) := by decide +kernel
theorem dX4_readSpelling_65 : decode cX4_readSpelling 65 = .ok (.istore_n 1, 1) := by decide +kernel
theorem dX4_readSpelling_66 : decode cX4_readSpelling 66 = .ok (.iinc 4 1, 3) := by decide +kernel
theorem dX4_readSpelling_69 : decode cX4_readSpelling 69 = .ok (.goto (-52), 3) := by decide +kernel
theorem dX4_readSpelling_72 : decode cX4_readSpelling 72 = .ok (.aload_n 0, 1) := by decide +kernel
theorem dX4_readSpelling_73 : decode cX4_readSpelling 73 = .ok (.dup, 1) := by decide +kernel
theorem dX4_readSpelling_74 : decode cX4_readSpelling 74 = .ok (.getfield 29, 3) := by decide +kernel
theorem dX4_readSpelling_77 : decode cX4_readSpelling 77 = .ok (.iload_n 1, 1) := by decide +kernel
theorem dX4_readSpelling_78 : decode cX4_readSpelling 78 = .ok (.iadd, 1) := by decide +kernel
theorem dX4_readSpelling_79 : decode cX4_readSpelling 79 = .ok (.putfield 29, 3) := by decide +kernel
theorem dX4_readSpelling_82 : decode cX4_readSpelling 82 = .ok (.aload_n 0, 1) := by decide +kernel
theorem dX4_readSpelling_83 : decode cX4_readSpelling 83 = .ok (.getfield 42, 3) := by decide +kernel
theorem dX4_readSpelling_86 : decode cX4_readSpelling 86 = .ok (.ifnull 7, 3) := by decide +kernel
theorem dX4_readSpelling_89 : decode cX4_readSpelling 89 = .ok (.iconst 1, 1) := by decide +kernel
theorem dX4_readSpelling_90 : decode cX4_readSpelling 90 = .ok (.goto 4, 3) := by decide +kernel
theorem dX4_readSpelling_93 : decode cX4_readSpelling 93 = .ok (.iconst 0, 1) := by decide +kernel
theorem dX4_readSpelling_94 : decode cX4_readSpelling 94 = .ok (.ireturn, 1) := by decide +kernel
set_option maxRecDepth 20000 in
theorem ggX4_countSameSigns_J0_length_8abf5 : GoodIn wsX4_countSameSigns wsJ0_length_8abf5 := goodIn_r _ [8, 9, 10, 11, 12, 7, 13, 14, 15] (by decide +kernel) (by decide +kernel)
set_option maxRecDepth 20000 in
theorem gX4_countSameSigns_J0_length_8abf5 : GoodIn wsX4_countSameSigns (wsV RX4 60 RJ0 yJ0_length_8abf5 wsJ0_length_8abf5) := goodIn_app (goodIn_of _ (by decide +kernel)) ggX4_countSameSigns_J0_length_8abf5
set_option maxRecDepth 20000 in
theorem ggX4_countSameSigns_J0_charAt_5068e : GoodIn wsX4_countSameSigns wsJ0_charAt_5068e := goodIn_r _ [19, 9, 20, 21, 22, 7, 23, 14, 15, 24, 25, 26, 27, 28, 29, 30, 31, 32, 33, 34, 35, 36, 37, 38, 39, 40, 41, 42, 43, 44, 45, 46, 47, 48, 49, 50, 51, 52] (by decide +kernel) (by decide +kernel)
set_option maxRecDepth 20000 in
theorem gX4_countSameSigns_J0_charAt_5068e : GoodIn wsX4_countSameSigns (wsV RX4 71 RJ0 yJ0_charAt_5068e wsJ0_charAt_5068e) := goodIn_app (goodIn_of _ (by decide +kernel)) ggX4_countSameSigns_J0_charAt_5068e
theorem dX4_countSameSigns_0 : decode cX4_countSameSigns 0 = .ok (.iconst 0, 1) := by decide +kernel
theorem dX4_countSameSigns_1 : decode cX4_countSameSigns 1 = .ok (.istore_n 2, 1) := by decide +kernel
theorem dX4_countSameSigns_2 : decode cX4_countSameSigns 2 = .ok (.iload_n 2, 1) := by decide +kernel
theorem dX4_countSameSigns_3 : decode cX4_countSameSigns 3 = .ok (.aload_n 1, 1) := by decide +kernel
theorem dX4_countSameSigns_4 : decode cX4_countSameSigns 4 = .ok (.invokevirtual 60, 3) := by decide +kernel
theorem dX4_countSameSigns_7 : decode cX4_countSameSigns 7 = .ok (.if_icmp .ge 41, 3) := by decide +kernel
theorem dX4_countSameSigns_10 : decode cX4_countSameSigns 10 = .ok (.aload_n 0, 1) := by decide +kernel
theorem dX4_countSameSigns_11 : decode cX4_countSameSigns 11 = .ok (.getfield 29, 3) := by decide +kernel
theorem dX4_countSameSigns_14 : decode cX4_countSameSigns 14 = .ok (.iload_n 2, 1) := by decide +kernel
theorem dX4_countSameSigns_15 : decode cX4_countSameSigns 15 = .ok (.iadd, 1) := by decide +kernel
theorem dX4_countSameSigns_16 : decode cX4_countSameSigns 16 = .ok (.aload_n 0, 1) := by decide +kernel
theorem dX4_countSameSigns_17 : decode cX4_countSameSigns 17 = .ok (.getfield 15, 3) := by decide +kernel
theorem dX4_countSameSigns_20 : decode cX4_countSameSigns 20 = .ok (.if_icmp .ge 28, 3) := by decide +kernel
theorem dX4_countSameSigns_23 : decode cX4_countSameSigns 23 = .ok (.aload_n 0, 1) := by decide +kernel
theorem dX4_countSameSigns_24 : decode cX4_countSameSigns 24 = .ok (.getfield 9, 3) := by decide +kernel
theorem dX4_countSameSigns_27 : decode cX4_countSameSigns 27 = .ok (.aload_n 0, 1) := by decide +kernel
theorem dX4_countSameSigns_28 : decode cX4_countSameSigns 28 = .ok (.getfield 29, 3) := by decide +kernel
theorem dX4_countSameSigns_31 : decode cX4_countSameSigns 31 = .ok (.iload_n 2, 1) := by decide +kernel
theorem dX4_countSameSigns_32 : decode cX4_countSameSigns 32 = .ok (.iadd, 1) := by decide +kernel
theorem dX4_countSameSigns_33 : decode cX4_countSameSigns 33 = .ok (.caload, 1) := by decide +kernel
theorem dX4_countSameSigns_34 : decode cX4_countSameSigns 34 = .ok (.aload_n 1, 1) := by decide +kernel
theorem dX4_countSameSigns_35 : decode cX4_countSameSigns 35 = .ok (.iload_n 2, 1) := by decide +kernel
theorem dX4_countSameSigns_36 : decode cX4_countSameSigns 36 = .ok (.invokevirtual 71, 3) := by decide +kernel
theorem dX4_countSameSigns_39 : decode cX4_countSameSigns 39 = .ok (.if_icmp .ne 9, 3) := by decide +kernel
theorem dX4_countSameSigns_42 : decode cX4_countSameSigns 42 = .ok (.iinc 2 1, 3) := by decide +kernel
theorem dX4_countSameSigns_45 : decode cX4_countSameSigns 45 = .ok (.goto (-43), 3) := by decide +kernel
theorem dX4_countSameSigns_48 : decode cX4_countSameSigns 48 = .ok (.iload_n 2, 1) := by decide +kernel
theorem dX4_countSameSigns_49 : decode cX4_countSameSigns 49 = .ok (.ireturn, 1) := by decide +kernel
set_option maxRecDepth 20000 in
theorem ggX4_readNumber_X6_outside : GoodIn wsX4_readNumber wsX6_outside := goodIn_r _ [8] (by decide +kernel) (by decide +kernel)
set_option maxRecDepth 20000 in
theorem gX4_readNumber_X6_outside_n84 : GoodIn wsX4_readNumber (wsX6_outside) := ggX4_readNumber_X6_outside
theorem dX4_readNumber_0 : decode cX4_readNumber 0 = .ok (.aload_n 0, 1) := by decide +kernel
theorem dX4_readNumber_1 : decode cX4_readNumber 1 = .ok (.iconst 0, 1) := by decide +kernel
theorem dX4_readNumber_2 : decode cX4_readNumber 2 = .ok (.putfield 75, 3) := by decide +kernel
theorem dX4_readNumber_5 : decode cX4_readNumber 5 = .ok (.aload_n 0, 1) := by decide +kernel
theorem dX4_readNumber_6 : decode cX4_readNumber 6 = .ok (.getfield 42, 3) := by decide +kernel
theorem dX4_readNumber_9 : decode cX4_readNumber 9 = .ok (.ifnonnull 5, 3) := by decide +kernel
theorem dX4_readNumber_12 : decode cX4_readNumber 12 = .ok (.iconst 0, 1) := by decide +kernel
theorem dX4_readNumber_13 : decode cX4_readNumber 13 = .ok (.ireturn, 1) := by decide +kernel
theorem dX4_readNumber_14 : decode cX4_readNumber 14 = .ok (.aload_n 0, 1) := by decide +kernel
theorem dX4_readNumber_15 : decode cX4_readNumber 15 = .ok (.getfield 29, 3) := by decide +kernel
theorem dX4_readNumber_18 : decode cX4_readNumber 18 = .ok (.aload_n 0, 1) := by decide +kernel
theorem dX4_readNumber_19 : decode cX4_readNumber 19 = .ok (.getfield 15, 3) := by decide +kernel
theorem dX4_readNumber_22 : decode cX4_readNumber 22 = .ok (.if_icmp .ge 94, 3) := by decide +kernel
theorem dX4_readNumber_25 : decode cX4_readNumber 25 = .ok (.aload_n 0, 1) := by decide +kernel
theorem dX4_readNumber_26 : decode cX4_readNumber 26 = .ok (.getfield 9, 3) := by decide +kernel
theorem dX4_readNumber_29 : decode cX4_readNumber 29 = .ok (.aload_n 0, 1) := by decide +kernel
theorem dX4_readNumber_30 : decode cX4_readNumber 30 = .ok (.getfield 29, 3) := by decide +kernel
theorem dX4_readNumber_33 : decode cX4_readNumber 33 = .ok (.caload, 1) := by decide +kernel
theorem dX4_readNumber_34 : decode cX4_readNumber 34 = .ok (.bipush 48, 2) := by decide +kernel
theorem dX4_readNumber_36 : decode cX4_readNumber 36 = .ok (.if_icmp .lt 80, 3) := by decide +kernel
theorem dX4_readNumber_39 : decode cX4_readNumber 39 = .ok (.aload_n 0, 1) := by decide +kernel
theorem dX4_readNumber_40 : decode cX4_readNumber 40 = .ok (.getfield 9, 3) := by decide +kernel
theorem dX4_readNumber_43 : decode cX4_readNumber 43 = .ok (.aload_n 0, 1) := by decide +kernel
theorem dX4_readNumber_44 : decode cX4_readNumber 44 = .ok (.getfield 29, 3) := by decide +kernel
theorem dX4_readNumber_47 : decode cX4_readNumber 47 = .ok (.caload, 1) := by decide +kernel
theorem dX4_readNumber_48 : decode cX4_readNumber 48 = .ok (.bipush 57, 2) := by decide +kernel
theorem dX4_readNumber_50 : decode cX4_readNumber 50 = .ok (.if_icmp .gt 66, 3) := by decide +kernel
theorem dX4_readNumber_53 : decode cX4_readNumber 53 = .ok (.bipush 10, 2) := by decide +kernel
theorem dX4_readNumber_55 : decode cX4_readNumber 55 = .ok (.aload_n 0, 1) := by decide +kernel
theorem dX4_readNumber_56 : decode cX4_readNumber 56 = .ok (.getfield 75, 3) := by decide +kernel
theorem dX4_readNumber_59 : decode cX4_readNumber 59 = .ok (.imul, 1) := by decide +kernel
theorem dX4_readNumber_60 : decode cX4_readNumber 60 = .ok (.aload_n 0, 1) := by decide +kernel
theorem dX4_readNumber_61 : decode cX4_readNumber 61 = .ok (.getfield 9, 3) := by decide +kernel
theorem dX4_readNumber_64 : decode cX4_readNumber 64 = .ok (.aload_n 0, 1) := by decide +kernel
theorem dX4_readNumber_65 : decode cX4_readNumber 65 = .ok (.getfield 29, 3) := by decide +kernel
theorem dX4_readNumber_68 : decode cX4_readNumber 68 = .ok (.caload, 1) := by decide +kernel
theorem dX4_readNumber_69 : decode cX4_readNumber 69 = .ok (.bipush 48, 2) := by decide +kernel
theorem dX4_readNumber_71 : decode cX4_readNumber 71 = .ok (.isub, 1) := by decide +kernel
theorem dX4_readNumber_72 : decode cX4_readNumber 72 = .ok (.iadd, 1) := by decide +kernel
theorem dX4_readNumber_73 : decode cX4_readNumber 73 = .ok (.istore_n 1, 1) := by decide +kernel
theorem dX4_readNumber_74 : decode cX4_readNumber 74 = .ok (.iload_n 1, 1) := by decide +kernel
theorem dX4_readNumber_75 : decode cX4_readNumber 75 = .ok (.aload_n 0, 1) := by decide +kernel
theorem dX4_readNumber_76 : decode cX4_readNumber 76 = .ok (.getfield 42, 3) := by decide +kernel
theorem dX4_readNumber_79 : decode cX4_readNumber 79 = .ok (.getfield 78, 3) := by decide +kernel
theorem dX4_readNumber_82 : decode cX4_readNumber 82 = .ok (.aload_n 0, 1) := by decide +kernel
theorem dX4_readNumber_83 : decode cX4_readNumber 83 = .ok (.getfield 42, 3) := by decide +kernel
theorem dX4_readNumber_86 : decode cX4_readNumber 86 = .ok (.getfield 81, 3) := by decide +kernel
theorem dX4_readNumber_89 : decode cX4_readNumber 89 = .ok (.invokestatic 84, 3) := by decide +kernel
theorem dX4_readNumber_92 : decode cX4_readNumber 92 = .ok (.ifCond .eq 6, 3) := by decide +kernel
theorem dX4_readNumber_95 : decode cX4_readNumber 95 = .ok (.goto 21, 3) := by decide +kernel
theorem dX4_readNumber_98 : decode cX4_readNumber 98 = .ok (.aload_n 0, 1) := by decide +kernel
theorem dX4_readNumber_99 : decode cX4_readNumber 99 = .ok (.iload_n 1, 1) := by decide +kernel
theorem dX4_readNumber_100 : decode cX4_readNumber 100 = .ok (.putfield 75, 3) := by decide +kernel
theorem dX4_readNumber_103 : decode cX4_readNumber 103 = .ok (.aload_n 0, 1) := by decide +kernel
theorem dX4_readNumber_104 : decode cX4_readNumber 104 = .ok (.dup, 1) := by decide +kernel
theorem dX4_readNumber_105 : decode cX4_readNumber 105 = .ok (.getfield 29, 3) := by decide +kernel
theorem dX4_readNumber_108 : decode cX4_readNumber 108 = .ok (.iconst 1, 1) := by decide +kernel
theorem dX4_readNumber_109 : decode cX4_readNumber 109 = .ok (.iadd, 1) := by decide +kernel
theorem dX4_readNumber_110 : decode cX4_readNumber 110 = .ok (.putfield 29, 3) := by decide +kernel
theorem dX4_readNumber_113 : decode cX4_readNumber 113 = .ok (.goto (-99), 3) := by decide +kernel
theorem dX4_readNumber_116 : decode cX4_readNumber 116 = .ok (.aload_n 0, 1) := by decide +kernel
theorem dX4_readNumber_117 : decode cX4_readNumber 117 = .ok (.getfield 75, 3) := by decide +kernel
theorem dX4_readNumber_120 : decode cX4_readNumber 120 = .ok (.ifCond .gt 13, 3) := by decide +kernel
theorem dX4_readNumber_123 : decode cX4_readNumber 123 = .ok (.aload_n 0, 1) := by decide +kernel
theorem dX4_readNumber_124 : decode cX4_readNumber 124 = .ok (.getfield 42, 3) := by decide +kernel
theorem dX4_readNumber_127 : decode cX4_readNumber 127 = .ok (.getfield 88, 3) := by decide +kernel
theorem dX4_readNumber_130 : decode cX4_readNumber 130 = .ok (.ifCond .ne 7, 3) := by decide +kernel
theorem dX4_readNumber_133 : decode cX4_readNumber 133 = .ok (.iconst 1, 1) := by decide +kernel
theorem dX4_readNumber_134 : decode cX4_readNumber 134 = .ok (.goto 4, 3) := by decide +kernel
theorem dX4_readNumber_137 : decode cX4_readNumber 137 = .ok (.iconst 0, 1) := by decide +kernel
theorem dX4_readNumber_138 : decode cX4_readNumber 138 = .ok (.ireturn, 1) := by decide +kernel
set_option maxRecDepth 20000 in
theorem ggX6_init_X4_init : GoodIn wsX6_init wsX4_init := goodIn_r _ [22, 23, 2, 3, 24, 25, 68, 69, 70, 71, 72, 73, 74] (by decide +kernel) (by decide +kernel)
set_option maxRecDepth 20000 in
theorem gX6_init_X4_init_n9 : GoodIn wsX6_init (wsX4_init) := ggX6_init_X4_init
set_option maxRecDepth 20000 in
theorem ggX6_init_X0_init : GoodIn wsX6_init wsX0_init := goodIn_r _ [28, 29, 2, 3, 30, 31, 32, 33, 34, 35, 36, 37, 38, 39, 40, 41, 42, 43, 44, 10, 45, 46, 47, 48, 49, 50, 51, 52, 53, 91, 92, 93, 94, 95, 80, 81, 82, 83, 84] (by decide +kernel) (by decide +kernel)
set_option maxRecDepth 20000 in
theorem gX6_init_X0_init : GoodIn wsX6_init (wsX0_init) := ggX6_init_X0_init
set_option maxRecDepth 20000 in
theorem ggX6_init_X2_init : GoodIn wsX6_init wsX2_init := goodIn_r _ [55, 56, 2, 3, 37, 57, 58, 40, 59, 85, 86, 87, 88, 89] (by decide +kernel) (by decide +kernel)
set_option maxRecDepth 20000 in
theorem gX6_init_X2_init_n25 : GoodIn wsX6_init (wsX2_init) := ggX6_init_X2_init
set_option maxRecDepth 20000 in
theorem ggX6_init_X1_init : GoodIn wsX6_init wsX1_init := goodIn_r _ [62, 63, 2, 3, 40, 64, 65, 66, 67, 90] (by decide +kernel) (by decide +kernel)
set_option maxRecDepth 20000 in
theorem gX6_init_X1_init : GoodIn wsX6_init (wsX1_init) := ggX6_init_X1_init
theorem dX6_init_0 : decode cX6_init 0 = .ok (.aload_n 0, 1) := by decide +kernel
theorem dX6_init_1 : decode cX6_init 1 = .ok (.invokespecial 1, 3) := by decide +kernel
theorem dX6_init_4 : decode cX6_init 4 = .ok (.aload_n 0, 1) := by decide +kernel
theorem dX6_init_5 : decode cX6_init 5 = .ok (.new 7, 3) := by decide +kernel
theorem dX6_init_8 : decode cX6_init 8 = .ok (.dup, 1) := by decide +kernel
theorem dX6_init_9 : decode cX6_init 9 = .ok (.invokespecial 9, 3) := by decide +kernel
theorem dX6_init_12 : decode cX6_init 12 = .ok (.putfield 10, 3) := by decide +kernel
theorem dX6_init_15 : decode cX6_init 15 = .ok (.aload_n 0, 1) := by decide +kernel
theorem dX6_init_16 : decode cX6_init 16 = .ok (.new 16, 3) := by decide +kernel
theorem dX6_init_19 : decode cX6_init 19 = .ok (.dup, 1) := by decide +kernel
theorem dX6_init_20 : decode cX6_init 20 = .ok (.invokespecial 18, 3) := by decide +kernel
theorem dX6_init_23 : decode cX6_init 23 = .ok (.putfield 19, 3) := by decide +kernel
theorem dX6_init_26 : decode cX6_init 26 = .ok (.aload_n 0, 1) := by decide +kernel
theorem dX6_init_27 : decode cX6_init 27 = .ok (.new 23, 3) := by decide +kernel
theorem dX6_init_30 : decode cX6_init 30 = .ok (.dup, 1) := by decide +kernel
theorem dX6_init_31 : decode cX6_init 31 = .ok (.invokespecial 25, 3) := by decide +kernel
theorem dX6_init_34 : decode cX6_init 34 = .ok (.putfield 26, 3) := by decide +kernel
theorem dX6_init_37 : decode cX6_init 37 = .ok (.aload_n 0, 1) := by decide +kernel
theorem dX6_init_38 : decode cX6_init 38 = .ok (.new 30, 3) := by decide +kernel
theorem dX6_init_41 : decode cX6_init 41 = .ok (.dup, 1) := by decide +kernel
theorem dX6_init_42 : decode cX6_init 42 = .ok (.invokespecial 32, 3) := by decide +kernel
theorem dX6_init_45 : decode cX6_init 45 = .ok (.putfield 33, 3) := by decide +kernel
theorem dX6_init_48 : decode cX6_init 48 = .ok (.aload_n 0, 1) := by decide +kernel
theorem dX6_init_49 : decode cX6_init 49 = .ok (.new 16, 3) := by decide +kernel
theorem dX6_init_52 : decode cX6_init 52 = .ok (.dup, 1) := by decide +kernel
theorem dX6_init_53 : decode cX6_init 53 = .ok (.invokespecial 18, 3) := by decide +kernel
theorem dX6_init_56 : decode cX6_init 56 = .ok (.putfield 37, 3) := by decide +kernel
