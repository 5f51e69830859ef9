set_option maxRecDepth 20000 in
theorem ggX0_init_X3_init : GoodIn wsX0_init wsX3_init := goodIn_r _ [9, 10, 2, 3, 11, 12, 13, 14, 15, 29, 30, 31, 32, 33] (by decide +kernel) (by decide +kernel)
set_option maxRecDepth 20000 in
theorem gX0_init_X3_init_n11 : GoodIn wsX0_init (wsX3_init) := ggX0_init_X3_init
set_option maxRecDepth 20000 in
theorem ggX0_init_X0_begin : GoodIn wsX0_init wsX0_begin := goodIn_r _ [20, 21, 22, 23, 19, 24, 25, 26, 27, 28, 34, 35, 36, 37, 38] (by decide +kernel) (by decide +kernel)
set_option maxRecDepth 20000 in
theorem gX0_init_X0_begin : GoodIn wsX0_init (wsV RX0 18 RX0 yX0_begin wsX0_begin) := goodIn_app (goodIn_of _ (by decide +kernel)) ggX0_init_X0_begin
theorem dX0_init_0 : decode cX0_init 0 = .ok (.aload_n 0, 1) := by decide +kernel
theorem dX0_init_1 : decode cX0_init 1 = .ok (.invokespecial 3, 3) := by decide +kernel
theorem dX0_init_4 : decode cX0_init 4 = .ok (.aload_n 0, 1) := by decide +kernel
theorem dX0_init_5 : decode cX0_init 5 = .ok (.new 9, 3) := by decide +kernel
theorem dX0_init_8 : decode cX0_init 8 = .ok (.dup, 1) := by decide +kernel
theorem dX0_init_9 : decode cX0_init 9 = .ok (.invokespecial 11, 3) := by decide +kernel
theorem dX0_init_12 : decode cX0_init 12 = .ok (.putfield 12, 3) := by decide +kernel
theorem dX0_init_15 : decode cX0_init 15 = .ok (.aload_n 0, 1) := by decide +kernel
theorem dX0_init_16 : decode cX0_init 16 = .ok (.bipush 100, 2) := by decide +kernel
theorem dX0_init_18 : decode cX0_init 18 = .ok (.invokevirtual 18, 3) := by decide +kernel
theorem dX0_init_21 : decode cX0_init 21 = .ok (.return_, 1) := by decide +kernel
set_option maxRecDepth 20000 in
theorem ggX0_begin_X0_show : GoodIn wsX0_begin wsX0_show := goodIn_r _ [5, 6, 7, 8, 9, 10, 11, 12, 13, 14] (by decide +kernel) (by decide +kernel)
set_option maxRecDepth 20000 in
theorem gX0_begin_X0_show : GoodIn wsX0_begin (wsV RX0 22 RX0 yX0_show wsX0_show) := goodIn_app (goodIn_of _ (by decide +kernel)) ggX0_begin_X0_show
theorem dX0_begin_0 : decode cX0_begin 0 = .ok (.aload_n 0, 1) := by decide +kernel
theorem dX0_begin_1 : decode cX0_begin 1 = .ok (.iload_n 1, 1) := by decide +kernel
theorem dX0_begin_2 : decode cX0_begin 2 = .ok (.iconst 0, 1) := by decide +kernel
theorem dX0_begin_3 : decode cX0_begin 3 = .ok (.lconst 0, 1) := by decide +kernel
theorem dX0_begin_4 : decode cX0_begin 4 = .ok (.invokevirtual 22, 3) := by decide +kernel
theorem dX0_begin_7 : decode cX0_begin 7 = .ok (.return_, 1) := by decide +kernel
theorem dX0_show_0 : decode cX0_show 0 = .ok (.aload_n 0, 1) := by decide +kernel
theorem dX0_show_1 : decode cX0_show 1 = .ok (.iload_n 1, 1) := by decide +kernel
theorem dX0_show_2 : decode cX0_show 2 = .ok (.putfield 26, 3) := by decide +kernel
theorem dX0_show_5 : decode cX0_show 5 = .ok (.aload_n 0, 1) := by decide +kernel
theorem dX0_show_6 : decode cX0_show 6 = .ok (.iload_n 2, 1) := by decide +kernel
theorem dX0_show_7 : decode cX0_show 7 = .ok (.putfield 30, 3) := by decide +kernel
theorem dX0_show_10 : decode cX0_show 10 = .ok (.aload_n 0, 1) := by decide +kernel
theorem dX0_show_11 : decode cX0_show 11 = .ok (.lload_n 3, 1) := by decide +kernel
theorem dX0_show_12 : decode cX0_show 12 = .ok (.putfield 33, 3) := by decide +kernel
theorem dX0_show_15 : decode cX0_show 15 = .ok (.aload_n 0, 1) := by decide +kernel
theorem dX0_show_16 : decode cX0_show 16 = .ok (.iconst (-1), 1) := by decide +kernel
theorem dX0_show_17 : decode cX0_show 17 = .ok (.putfield 37, 3) := by decide +kernel
theorem dX0_show_20 : decode cX0_show 20 = .ok (.return_, 1) := by decide +kernel
set_option maxRecDepth 20000 in
theorem ggX0_tally_X3_begin : GoodIn wsX0_tally wsX3_begin := goodIn_r _ [9, 10, 11, 12, 13, 14, 15, 16, 17, 18, 8, 19, 20, 21, 22, 23, 24, 25, 26, 27, 55, 56, 57, 58, 59] (by decide +kernel) (by decide +kernel)
set_option maxRecDepth 20000 in
theorem gX0_tally_X3_begin : GoodIn wsX0_tally (wsV RX0 40 RX3 yX3_begin wsX3_begin) := goodIn_app (goodIn_of _ (by decide +kernel)) ggX0_tally_X3_begin
set_option maxRecDepth 20000 in
theorem ggX0_tally_X0_hasStruck : GoodIn wsX0_tally wsX0_hasStruck := goodIn_r _ [32, 33, 50, 51, 52, 53, 54] (by decide +kernel) (by decide +kernel)
set_option maxRecDepth 20000 in
theorem gX0_tally_X0_hasStruck : GoodIn wsX0_tally (wsV RX0 41 RX0 yX0_hasStruck wsX0_hasStruck) := goodIn_app (goodIn_of _ (by decide +kernel)) ggX0_tally_X0_hasStruck
set_option maxRecDepth 20000 in
theorem ggX0_tally_X0_primeAt : GoodIn wsX0_tally wsX0_primeAt := goodIn_r _ [37] (by decide +kernel) (by decide +kernel)
set_option maxRecDepth 20000 in
theorem gX0_tally_X0_primeAt : GoodIn wsX0_tally (wsV RX0 45 RX0 yX0_primeAt wsX0_primeAt) := goodIn_app (goodIn_of _ (by decide +kernel)) ggX0_tally_X0_primeAt
set_option maxRecDepth 20000 in
theorem ggX0_tally_X3_remove : GoodIn wsX0_tally wsX3_remove := goodIn_r _ [41, 20, 21, 23, 42, 43, 44, 8, 45, 24, 25, 26, 27, 11, 46, 47, 48, 49, 10, 55, 56, 57, 58, 59] (by decide +kernel) (by decide +kernel)
set_option maxRecDepth 20000 in
theorem gX0_tally_X3_remove : GoodIn wsX0_tally (wsV RX0 49 RX3 yX3_remove wsX3_remove) := goodIn_app (goodIn_of _ (by decide +kernel)) ggX0_tally_X3_remove
theorem dX0_tally_0 : decode cX0_tally 0 = .ok (.aload_n 0, 1) := by decide +kernel
theorem dX0_tally_1 : decode cX0_tally 1 = .ok (.getfield 37, 3) := by decide +kernel
theorem dX0_tally_4 : decode cX0_tally 4 = .ok (.iconst (-1), 1) := by decide +kernel
theorem dX0_tally_5 : decode cX0_tally 5 = .ok (.if_icmp .ne 19, 3) := by decide +kernel
theorem dX0_tally_8 : decode cX0_tally 8 = .ok (.aload_n 0, 1) := by decide +kernel
theorem dX0_tally_9 : decode cX0_tally 9 = .ok (.getfield 12, 3) := by decide +kernel
theorem dX0_tally_12 : decode cX0_tally 12 = .ok (.aload_n 0, 1) := by decide +kernel
theorem dX0_tally_13 : decode cX0_tally 13 = .ok (.getfield 26, 3) := by decide +kernel
theorem dX0_tally_16 : decode cX0_tally 16 = .ok (.invokevirtual 40, 3) := by decide +kernel
theorem dX0_tally_19 : decode cX0_tally 19 = .ok (.aload_n 0, 1) := by decide +kernel
theorem dX0_tally_20 : decode cX0_tally 20 = .ok (.iconst 0, 1) := by decide +kernel
theorem dX0_tally_21 : decode cX0_tally 21 = .ok (.putfield 37, 3) := by decide +kernel
theorem dX0_tally_24 : decode cX0_tally 24 = .ok (.aload_n 0, 1) := by decide +kernel
theorem dX0_tally_25 : decode cX0_tally 25 = .ok (.getfield 37, 3) := by decide +kernel
theorem dX0_tally_28 : decode cX0_tally 28 = .ok (.aload_n 0, 1) := by decide +kernel
theorem dX0_tally_29 : decode cX0_tally 29 = .ok (.getfield 30, 3) := by decide +kernel
theorem dX0_tally_32 : decode cX0_tally 32 = .ok (.if_icmp .ge 42, 3) := by decide +kernel
theorem dX0_tally_35 : decode cX0_tally 35 = .ok (.aload_n 0, 1) := by decide +kernel
theorem dX0_tally_36 : decode cX0_tally 36 = .ok (.aload_n 0, 1) := by decide +kernel
theorem dX0_tally_37 : decode cX0_tally 37 = .ok (.getfield 37, 3) := by decide +kernel
theorem dX0_tally_40 : decode cX0_tally 40 = .ok (.invokevirtual 41, 3) := by decide +kernel
theorem dX0_tally_43 : decode cX0_tally 43 = .ok (.ifCond .eq 18, 3) := by decide +kernel
theorem dX0_tally_46 : decode cX0_tally 46 = .ok (.aload_n 0, 1) := by decide +kernel
theorem dX0_tally_47 : decode cX0_tally 47 = .ok (.getfield 12, 3) := by decide +kernel
theorem dX0_tally_50 : decode cX0_tally 50 = .ok (.aload_n 0, 1) := by decide +kernel
theorem dX0_tally_51 : decode cX0_tally 51 = .ok (.aload_n 0, 1) := by decide +kernel
theorem dX0_tally_52 : decode cX0_tally 52 = .ok (.getfield 37, 3) := by decide +kernel
theorem dX0_tally_55 : decode cX0_tally 55 = .ok (.invokevirtual 45, 3) := by decide +kernel
theorem dX0_tally_58 : decode cX0_tally 58 = .ok (.invokevirtual 49, 3) := by decide +kernel
theorem dX0_tally_61 : decode cX0_tally 61 = .ok (.aload_n 0, 1) := by decide +kernel
theorem dX0_tally_62 : decode cX0_tally 62 = .ok (.dup, 1) := by decide +kernel
theorem dX0_tally_63 : decode cX0_tally 63 = .ok (.getfield 37, 3) := by decide +kernel
theorem dX0_tally_66 : decode cX0_tally 66 = .ok (.iconst 1, 1) := by decide +kernel
theorem dX0_tally_67 : decode cX0_tally 67 = .ok (.iadd, 1) := by decide +kernel
theorem dX0_tally_68 : decode cX0_tally 68 = .ok (.putfield 37, 3) := by decide +kernel
theorem dX0_tally_71 : decode cX0_tally 71 = .ok (.goto (-47), 3) := by decide +kernel
theorem dX0_tally_74 : decode cX0_tally 74 = .ok (.aload_n 0, 1) := by decide +kernel
theorem dX0_tally_75 : decode cX0_tally 75 = .ok (.getfield 12, 3) := by decide +kernel
theorem dX0_tally_78 : decode cX0_tally 78 = .ok (.areturn, 1) := by decide +kernel
set_option maxRecDepth 20000 in
theorem ggX0_countLeft_X0_tally : GoodIn wsX0_countLeft wsX0_tally := goodIn_r _ [5, 6, 7, 8, 9, 10, 11, 12, 13, 14, 15, 16, 17, 18, 19, 20, 21, 22, 23, 24, 25, 26, 27, 28, 29, 30, 31, 32, 33, 34, 35, 4, 36, 37, 38, 39, 40, 41, 42, 43, 44, 45, 46, 47, 48, 49, 50, 51, 52, 53, 65, 66, 67, 68, 69, 70, 71, 72, 73, 74] (by decide +kernel) (by decide +kernel)
set_option maxRecDepth 20000 in
theorem gX0_countLeft_X0_tally : GoodIn wsX0_countLeft (wsV RX0 52 RX0 yX0_tally wsX0_tally) := goodIn_app (goodIn_of _ (by decide +kernel)) ggX0_countLeft_X0_tally
set_option maxRecDepth 20000 in
theorem ggX0_countLeft_X3_countAt : GoodIn wsX0_countLeft wsX3_countAt := goodIn_r _ [57, 58, 59, 60, 13, 61, 28, 29, 30, 31, 32, 16, 62, 63, 64, 70, 71, 72, 73, 74] (by decide +kernel) (by decide +kernel)
set_option maxRecDepth 20000 in
theorem gX0_countLeft_X3_countAt : GoodIn wsX0_countLeft (wsV RX0 55 RX3 yX3_countAt wsX3_countAt) := goodIn_app (goodIn_of _ (by decide +kernel)) ggX0_countLeft_X3_countAt
theorem dX0_countLeft_0 : decode cX0_countLeft 0 = .ok (.aload_n 0, 1) := by decide +kernel
theorem dX0_countLeft_1 : decode cX0_countLeft 1 = .ok (.invokevirtual 52, 3) := by decide +kernel
theorem dX0_countLeft_4 : decode cX0_countLeft 4 = .ok (.iconst 0, 1) := by decide +kernel
theorem dX0_countLeft_5 : decode cX0_countLeft 5 = .ok (.invokevirtual 55, 3) := by decide +kernel
theorem dX0_countLeft_8 : decode cX0_countLeft 8 = .ok (.ireturn, 1) := by decide +kernel
theorem dX0_primeAt_0 : decode cX0_primeAt 0 = .ok (.iload_n 1, 1) := by decide +kernel
theorem dX0_primeAt_1 : decode cX0_primeAt 1 = .ok (.ifCond .lt 9, 3) := by decide +kernel
theorem dX0_primeAt_4 : decode cX0_primeAt 4 = .ok (.iload_n 1, 1) := by decide +kernel
theorem dX0_primeAt_5 : decode cX0_primeAt 5 = .ok (.bipush 40, 2) := by decide +kernel
theorem dX0_primeAt_7 : decode cX0_primeAt 7 = .ok (.if_icmp .lt 7, 3) := by decide +kernel
theorem dX0_primeAt_10 : decode cX0_primeAt 10 = .ok (.iconst (-1), 1) := by decide +kernel
theorem dX0_primeAt_11 : decode cX0_primeAt 11 = .ok (.goto 8, 3) := by decide +kernel
theorem dX0_primeAt_14 : decode cX0_primeAt 14 = .ok (.getstatic 58, 3) := by decide +kernel
theorem dX0_primeAt_17 : decode cX0_primeAt 17 = .ok (.iload_n 1, 1) := by decide +kernel
theorem dX0_primeAt_18 : decode cX0_primeAt 18 = .ok (.iaload, 1) := by decide +kernel
theorem dX0_primeAt_19 : decode cX0_primeAt 19 = .ok (.ireturn, 1) := by decide +kernel
theorem dX0_hasStruck_0 : decode cX0_hasStruck 0 = .ok (.aload_n 0, 1) := by decide +kernel
theorem dX0_hasStruck_1 : decode cX0_hasStruck 1 = .ok (.getfield 33, 3) := by decide +kernel
theorem dX0_hasStruck_4 : decode cX0_hasStruck 4 = .ok (.iload_n 1, 1) := by decide +kernel
theorem dX0_hasStruck_5 : decode cX0_hasStruck 5 = .ok (.lushr, 1) := by decide +kernel
theorem dX0_hasStruck_6 : decode cX0_hasStruck 6 = .ok (.lconst 1, 1) := by decide +kernel
theorem dX0_hasStruck_7 : decode cX0_hasStruck 7 = .ok (.land, 1) := by decide +kernel
theorem dX0_hasStruck_8 : decode cX0_hasStruck 8 = .ok (.lconst 0, 1) := by decide +kernel
theorem dX0_hasStruck_9 : decode cX0_hasStruck 9 = .ok (.lcmp, 1) := by decide +kernel
theorem dX0_hasStruck_10 : decode cX0_hasStruck 10 = .ok (.ifCond .eq 7, 3) := by decide +kernel
theorem dX0_hasStruck_13 : decode cX0_hasStruck 13 = .ok (.iconst 1, 1) := by decide +kernel
theorem dX0_hasStruck_14 : decode cX0_hasStruck 14 = .ok (.goto 4, 3) := by decide +kernel
theorem dX0_hasStruck_17 : decode cX0_hasStruck 17 = .ok (.iconst 0, 1) := by decide +kernel
theorem dX0_hasStruck_18 : decode cX0_hasStruck 18 = .ok (.ireturn, 1) := by decide +kernel
set_option maxRecDepth 20000 in
theorem ggX0_nextPrime_X0_primeAt : GoodIn wsX0_nextPrime wsX0_primeAt := goodIn_r _ [7] (by decide +kernel) (by decide +kernel)
set_option maxRecDepth 20000 in
theorem gX0_nextPrime_X0_primeAt : GoodIn wsX0_nextPrime (wsV RX0 45 RX0 yX0_primeAt wsX0_primeAt) := goodIn_app (goodIn_of _ (by decide +kernel)) ggX0_nextPrime_X0_primeAt
theorem dX0_nextPrime_0 : decode cX0_nextPrime 0 = .ok (.aload_n 0, 1) := by decide +kernel
theorem dX0_nextPrime_1 : decode cX0_nextPrime 1 = .ok (.aload_n 0, 1) := by decide +kernel
theorem dX0_nextPrime_2 : decode cX0_nextPrime 2 = .ok (.getfield 30, 3) := by decide +kernel
theorem dX0_nextPrime_5 : decode cX0_nextPrime 5 = .ok (.invokevirtual 45, 3) := by decide +kernel
theorem dX0_nextPrime_8 : decode cX0_nextPrime 8 = .ok (.istore_n 1, 1) := by decide +kernel
theorem dX0_nextPrime_9 : decode cX0_nextPrime 9 = .ok (.iload_n 1, 1) := by decide +kernel
theorem dX0_nextPrime_10 : decode cX0_nextPrime 10 = .ok (.aload_n 0, 1) := by decide +kernel
theorem dX0_nextPrime_11 : decode cX0_nextPrime 11 = .ok (.getfield 26, 3) := by decide +kernel
theorem dX0_nextPrime_14 : decode cX0_nextPrime 14 = .ok (.if_icmp .le 7, 3) := by decide +kernel
theorem dX0_nextPrime_17 : decode cX0_nextPrime 17 = .ok (.iconst (-1), 1) := by decide +kernel
theorem dX0_nextPrime_18 : decode cX0_nextPrime 18 = .ok (.goto 4, 3) := by decide +kernel
theorem dX0_nextPrime_21 : decode cX0_nextPrime 21 = .ok (.iload_n 1, 1) := by decide +kernel
theorem dX0_nextPrime_22 : decode cX0_nextPrime 22 = .ok (.ireturn, 1) := by decide +kernel
set_option maxRecDepth 20000 in
theorem ggX0_letCome_X0_nextPrime : GoodIn wsX0_letCome wsX0_nextPrime := goodIn_r _ [7, 2, 8, 9, 10, 11, 6, 12, 13, 14, 15, 16, 17] (by decide +kernel) (by decide +kernel)
set_option maxRecDepth 20000 in
theorem gX0_letCome_X0_nextPrime : GoodIn wsX0_letCome (wsV RX0 62 RX0 yX0_nextPrime wsX0_nextPrime) := goodIn_app (goodIn_of _ (by decide +kernel)) ggX0_letCome_X0_nextPrime
theorem dX0_letCome_0 : decode cX0_letCome 0 = .ok (.aload_n 0, 1) := by decide +kernel
theorem dX0_letCome_1 : decode cX0_letCome 1 = .ok (.invokevirtual 62, 3) := by decide +kernel
theorem dX0_letCome_4 : decode cX0_letCome 4 = .ok (.iconst (-1), 1) := by decide +kernel
theorem dX0_letCome_5 : decode cX0_letCome 5 = .ok (.if_icmp .ne 5, 3) := by decide +kernel
theorem dX0_letCome_8 : decode cX0_letCome 8 = .ok (.iconst 0, 1) := by decide +kernel
theorem dX0_letCome_9 : decode cX0_letCome 9 = .ok (.ireturn, 1) := by decide +kernel
theorem dX0_letCome_10 : decode cX0_letCome 10 = .ok (.iload_n 1, 1) := by decide +kernel
theorem dX0_letCome_11 : decode cX0_letCome 11 = .ok (.ifCond .eq 18, 3) := by decide +kernel
theorem dX0_letCome_14 : decode cX0_letCome 14 = .ok (.aload_n 0, 1) := by decide +kernel
theorem dX0_letCome_15 : decode cX0_letCome 15 = .ok (.dup, 1) := by decide +kernel
theorem dX0_letCome_16 : decode cX0_letCome 16 = .ok (.getfield 33, 3) := by decide +kernel
theorem dX0_letCome_19 : decode cX0_letCome 19 = .ok (.lconst 1, 1) := by decide +kernel
theorem dX0_letCome_20 : decode cX0_letCome 20 = .ok (.aload_n 0, 1) := by decide +kernel
theorem dX0_letCome_21 : decode cX0_letCome 21 = .ok (.getfield 30, 3) := by decide +kernel
theorem dX0_letCome_24 : decode cX0_letCome 24 = .ok (.lshl, 1) := by decide +kernel
theorem dX0_letCome_25 : decode cX0_letCome 25 = .ok (.lor, 1) := by decide +kernel
theorem dX0_letCome_26 : decode cX0_letCome 26 = .ok (.putfield 33, 3) := by decide +kernel
theorem dX0_letCome_29 : decode cX0_letCome 29 = .ok (.aload_n 0, 1) := by decide +kernel
theorem dX0_letCome_30 : decode cX0_letCome 30 = .ok (.dup, 1) := by decide +kernel
theorem dX0_letCome_31 : decode cX0_letCome 31 = .ok (.getfield 30, 3) := by decide +kernel
theorem dX0_letCome_34 : decode cX0_letCome 34 = .ok (.iconst 1, 1) := by decide +kernel
theorem dX0_letCome_35 : decode cX0_letCome 35 = .ok (.iadd, 1) := by decide +kernel
theorem dX0_letCome_36 : decode cX0_letCome 36 = .ok (.putfield 30, 3) := by decide +kernel
theorem dX0_letCome_39 : decode cX0_letCome 39 = .ok (.iconst 1, 1) := by decide +kernel
theorem dX0_letCome_40 : decode cX0_letCome 40 = .ok (.ireturn, 1) := by decide +kernel
set_option maxRecDepth 20000 in
theorem ggX0_letStrikeUpTo_X0_nextPrime : GoodIn wsX0_letStrikeUpTo wsX0_nextPrime := goodIn_r _ [5, 6, 7, 8, 9, 10, 4, 11, 17, 18, 19, 20, 21] (by decide +kernel) (by decide +kernel)
set_option maxRecDepth 20000 in
theorem gX0_letStrikeUpTo_X0_nextPrime : GoodIn wsX0_letStrikeUpTo (wsV RX0 62 RX0 yX0_nextPrime wsX0_nextPrime) := goodIn_app (goodIn_of _ (by decide +kernel)) ggX0_letStrikeUpTo_X0_nextPrime
set_option maxRecDepth 20000 in
theorem ggX0_letStrikeUpTo_X0_letCome : GoodIn wsX0_letStrikeUpTo wsX0_letCome := goodIn_r _ [15, 16, 6, 1, 2, 3, 4, 5, 7, 8, 9, 10, 11, 17, 18, 19, 20, 21] (by decide +kernel) (by decide +kernel)
set_option maxRecDepth 20000 in
theorem gX0_letStrikeUpTo_X0_letCome : GoodIn wsX0_letStrikeUpTo (wsV RX0 66 RX0 yX0_letCome wsX0_letCome) := goodIn_app (goodIn_of _ (by decide +kernel)) ggX0_letStrikeUpTo_X0_letCome
theorem dX0_letStrikeUpTo_0 : decode cX0_letStrikeUpTo 0 = .ok (.iconst 0, 1) := by decide +kernel
theorem dX0_letStrikeUpTo_1 : decode cX0_letStrikeUpTo 1 = .ok (.istore_n 2, 1) := by decide +kernel
theorem dX0_letStrikeUpTo_2 : decode cX0_letStrikeUpTo 2 = .ok (.iload_n 2, 1) := by decide +kernel
theorem dX0_letStrikeUpTo_3 : decode cX0_letStrikeUpTo 3 = .ok (.bipush 40, 2) := by decide +kernel
theorem dX0_letStrikeUpTo_5 : decode cX0_letStrikeUpTo 5 = .ok (.if_icmp .ge 25, 3) := by decide +kernel
theorem dX0_letStrikeUpTo_8 : decode cX0_letStrikeUpTo 8 = .ok (.aload_n 0, 1) := by decide +kernel
theorem dX0_letStrikeUpTo_9 : decode cX0_letStrikeUpTo 9 = .ok (.invokevirtual 62, 3) := by decide +kernel
theorem dX0_letStrikeUpTo_12 : decode cX0_letStrikeUpTo 12 = .ok (.iload_n 1, 1) := by decide +kernel
theorem dX0_letStrikeUpTo_13 : decode cX0_letStrikeUpTo 13 = .ok (.if_icmp .gt 17, 3) := by decide +kernel
theorem dX0_letStrikeUpTo_16 : decode cX0_letStrikeUpTo 16 = .ok (.aload_n 0, 1) := by decide +kernel
theorem dX0_letStrikeUpTo_17 : decode cX0_letStrikeUpTo 17 = .ok (.iconst 1, 1) := by decide +kernel
theorem dX0_letStrikeUpTo_18 : decode cX0_letStrikeUpTo 18 = .ok (.invokevirtual 66, 3) := by decide +kernel
theorem dX0_letStrikeUpTo_21 : decode cX0_letStrikeUpTo 21 = .ok (.ifCond .eq 9, 3) := by decide +kernel
theorem dX0_letStrikeUpTo_24 : decode cX0_letStrikeUpTo 24 = .ok (.iinc 2 1, 3) := by decide +kernel
theorem dX0_letStrikeUpTo_27 : decode cX0_letStrikeUpTo 27 = .ok (.goto (-25), 3) := by decide +kernel
theorem dX0_letStrikeUpTo_30 : decode cX0_letStrikeUpTo 30 = .ok (.iload_n 2, 1) := by decide +kernel
theorem dX0_letStrikeUpTo_31 : decode cX0_letStrikeUpTo 31 = .ok (.ireturn, 1) := by decide +kernel
theorem dX1_init_0 : decode cX1_init 0 = .ok (.aload_n 0, 1) := by decide +kernel
theorem dX1_init_1 : decode cX1_init 1 = .ok (.invokespecial 5, 3) := by decide +kernel
theorem dX1_init_4 : decode cX1_init 4 = .ok (.aload_n 0, 1) := by decide +kernel
theorem dX1_init_5 : decode cX1_init 5 = .ok (.sipush 782, 3) := by decide +kernel
theorem dX1_init_8 : decode cX1_init 8 = .ok (.newarray .long, 2) := by decide +kernel
theorem dX1_init_10 : decode cX1_init 10 = .ok (.putfield 11, 3) := by decide +kernel
theorem dX1_init_13 : decode cX1_init 13 = .ok (.iconst 0, 1) := by decide +kernel
theorem dX1_init_14 : decode cX1_init 14 = .ok (.istore_n 1, 1) := by decide +kernel
theorem dX1_init_15 : decode cX1_init 15 = .ok (.iload_n 1, 1) := by decide +kernel
theorem dX1_init_16 : decode cX1_init 16 = .ok (.sipush 782, 3) := by decide +kernel
theorem dX1_init_19 : decode cX1_init 19 = .ok (.if_icmp .ge 18, 3) := by decide +kernel
theorem dX1_init_22 : decode cX1_init 22 = .ok (.aload_n 0, 1) := by decide +kernel
theorem dX1_init_23 : decode cX1_init 23 = .ok (.getfield 11, 3) := by decide +kernel
theorem dX1_init_26 : decode cX1_init 26 = .ok (.iload_n 1, 1) := by decide +kernel
theorem dX1_init_27 : decode cX1_init 27 = .ok (.ldc2_w 15, 3) := by decide +kernel
theorem dX1_init_30 : decode cX1_init 30 = .ok (.lastore, 1) := by decide +kernel
theorem dX1_init_31 : decode cX1_init 31 = .ok (.iinc 1 1, 3) := by decide +kernel
theorem dX1_init_34 : decode cX1_init 34 = .ok (.goto (-19), 3) := by decide +kernel
theorem dX1_init_37 : decode cX1_init 37 = .ok (.aload_n 0, 1) := by decide +kernel
theorem dX1_init_38 : decode cX1_init 38 = .ok (.getfield 11, 3) := by decide +kernel
theorem dX1_init_41 : decode cX1_init 41 = .ok (.iconst 0, 1) := by decide +kernel
theorem dX1_init_42 : decode cX1_init 42 = .ok (.dup2, 1) := by decide +kernel
theorem dX1_init_43 : decode cX1_init 43 = .ok (.laload, 1) := by decide +kernel
theorem dX1_init_44 : decode cX1_init 44 = .ok (.ldc2_w 17, 3) := by decide +kernel
theorem dX1_init_47 : decode cX1_init 47 = .ok (.land, 1) := by decide +kernel
theorem dX1_init_48 : decode cX1_init 48 = .ok (.lastore, 1) := by decide +kernel
theorem dX1_init_49 : decode cX1_init 49 = .ok (.getstatic 19, 3) := by decide +kernel
theorem dX1_init_52 : decode cX1_init 52 = .ok (.astore_n 1, 1) := by decide +kernel
theorem dX1_init_53 : decode cX1_init 53 = .ok (.aload_n 1, 1) := by decide +kernel
theorem dX1_init_54 : decode cX1_init 54 = .ok (.arraylength, 1) := by decide +kernel
theorem dX1_init_55 : decode cX1_init 55 = .ok (.istore_n 2, 1) := by decide +kernel
theorem dX1_init_56 : decode cX1_init 56 = .ok (.iconst 0, 1) := by decide +kernel
theorem dX1_init_57 : decode cX1_init 57 = .ok (.istore_n 3, 1) := by decide +kernel
theorem dX1_init_58 : decode cX1_init 58 = .ok (.iload_n 3, 1) := by decide +kernel
theorem dX1_init_59 : decode cX1_init 59 = .ok (.iload_n 2, 1) := by decide +kernel
theorem dX1_init_60 : decode cX1_init 60 = .ok (.if_icmp .ge 70, 3) := by decide +kernel
theorem dX1_init_63 : decode cX1_init 63 = .ok (.aload_n 1, 1) := by decide +kernel
theorem dX1_init_64 : decode cX1_init 64 = .ok (.iload_n 3, 1) := by decide +kernel
theorem dX1_init_65 : decode cX1_init 65 = .ok (.iaload, 1) := by decide +kernel
theorem dX1_init_66 : decode cX1_init 66 = .ok (.istore 4, 2) := by decide +kernel
theorem dX1_init_68 : decode cX1_init 68 = .ok (.iload 4, 2) := by decide +kernel
theorem dX1_init_70 : decode cX1_init 70 = .ok (.iload 4, 2) := by decide +kernel
theorem dX1_init_72 : decode cX1_init 72 = .ok (.imul, 1) := by decide +kernel
theorem dX1_init_73 : decode cX1_init 73 = .ok (.iconst 2, 1) := by decide +kernel
theorem dX1_init_74 : decode cX1_init 74 = .ok (.idiv, 1) := by decide +kernel
theorem dX1_init_75 : decode cX1_init 75 = .ok (.istore 5, 2) := by decide +kernel
theorem dX1_init_77 : decode cX1_init 77 = .ok (.iload 4, 2) := by decide +kernel
theorem dX1_init_79 : decode cX1_init 79 = .ok (.iconst 2, 1) := by decide +kernel
theorem dX1_init_80 : decode cX1_init 80 = .ok (.if_icmp .le 44, 3) := by decide +kernel
theorem dX1_init_83 : decode cX1_init 83 = .ok (.iload 5, 2) := by decide +kernel
theorem dX1_init_85 : decode cX1_init 85 = .ok (.ldc 23, 2) := by decide +kernel
theorem dX1_init_87 : decode cX1_init 87 = .ok (.if_icmp .ge 37, 3) := by decide +kernel
theorem dX1_init_90 : decode cX1_init 90 = .ok (.aload_n 0, 1) := by decide +kernel
theorem dX1_init_91 : decode cX1_init 91 = .ok (.getfield 11, 3) := by decide +kernel
theorem dX1_init_94 : decode cX1_init 94 = .ok (.iload 5, 2) := by decide +kernel
theorem dX1_init_96 : decode cX1_init 96 = .ok (.bipush 64, 2) := by decide +kernel
theorem dX1_init_98 : decode cX1_init 98 = .ok (.idiv, 1) := by decide +kernel
theorem dX1_init_99 : decode cX1_init 99 = .ok (.dup2, 1) := by decide +kernel
theorem dX1_init_100 : decode cX1_init 100 = .ok (.laload, 1) := by decide +kernel
theorem dX1_init_101 : decode cX1_init 101 = .ok (.lconst 1, 1) := by decide +kernel
theorem dX1_init_102 : decode cX1_init 102 = .ok (.iload 5, 2) := by decide +kernel
theorem dX1_init_104 : decode cX1_init 104 = .ok (.bipush 64, 2) := by decide +kernel
theorem dX1_init_106 : decode cX1_init 106 = .ok (.irem, 1) := by decide +kernel
theorem dX1_init_107 : decode cX1_init 107 = .ok (.lshl, 1) := by decide +kernel
theorem dX1_init_108 : decode cX1_init 108 = .ok (.ldc2_w 15, 3) := by decide +kernel
theorem dX1_init_111 : decode cX1_init 111 = .ok (.lxor, 1) := by decide +kernel
theorem dX1_init_112 : decode cX1_init 112 = .ok (.land, 1) := by decide +kernel
theorem dX1_init_113 : decode cX1_init 113 = .ok (.lastore, 1) := by decide +kernel
theorem dX1_init_114 : decode cX1_init 114 = .ok (.iload 5, 2) := by decide +kernel
theorem dX1_init_116 : decode cX1_init 116 = .ok (.iload 4, 2) := by decide +kernel
theorem dX1_init_118 : decode cX1_init 118 = .ok (.iadd, 1) := by decide +kernel
theorem dX1_init_119 : decode cX1_init 119 = .ok (.istore 5, 2) := by decide +kernel
theorem dX1_init_121 : decode cX1_init 121 = .ok (.goto (-44), 3) := by decide +kernel
theorem dX1_init_124 : decode cX1_init 124 = .ok (.iinc 3 1, 3) := by decide +kernel
theorem dX1_init_127 : decode cX1_init 127 = .ok (.goto (-69), 3) := by decide +kernel
theorem dX1_init_130 : decode cX1_init 130 = .ok (.return_, 1) := by decide +kernel
theorem dX2_init_0 : decode cX2_init 0 = .ok (.aload_n 0, 1) := by decide +kernel
theorem dX2_init_1 : decode cX2_init 1 = .ok (.invokespecial 3, 3) := by decide +kernel
theorem dX2_init_4 : decode cX2_init 4 = .ok (.aload_n 0, 1) := by decide +kernel
theorem dX2_init_5 : decode cX2_init 5 = .ok (.bipush 16, 2) := by decide +kernel
theorem dX2_init_7 : decode cX2_init 7 = .ok (.newarray .int, 2) := by decide +kernel
theorem dX2_init_9 : decode cX2_init 9 = .ok (.putfield 11, 3) := by decide +kernel
theorem dX2_init_12 : decode cX2_init 12 = .ok (.aload_n 0, 1) := by decide +kernel
theorem dX2_init_13 : decode cX2_init 13 = .ok (.bipush 16, 2) := by decide +kernel
theorem dX2_init_15 : decode cX2_init 15 = .ok (.newarray .int, 2) := by decide +kernel
theorem dX2_init_17 : decode cX2_init 17 = .ok (.putfield 15, 3) := by decide +kernel
theorem dX2_init_20 : decode cX2_init 20 = .ok (.aload_n 0, 1) := by decide +kernel
theorem dX2_init_21 : decode cX2_init 21 = .ok (.bipush 16, 2) := by decide +kernel
theorem dX2_init_23 : decode cX2_init 23 = .ok (.newarray .long, 2) := by decide +kernel
theorem dX2_init_25 : decode cX2_init 25 = .ok (.putfield 18, 3) := by decide +kernel
theorem dX2_init_28 : decode cX2_init 28 = .ok (.return_, 1) := by decide +kernel
set_option maxRecDepth 20000 in
theorem ggX2_remember_X2_put : GoodIn wsX2_remember wsX2_put := goodIn_r _ [11, 12, 13, 14, 15, 16, 17, 18, 19, 20, 21, 22, 23, 24, 25, 26, 27] (by decide +kernel) (by decide +kernel)
set_option maxRecDepth 20000 in
theorem gX2_remember_X2_put : GoodIn wsX2_remember (wsV RX2 29 RX2 yX2_put wsX2_put) := goodIn_app (goodIn_of _ (by decide +kernel)) ggX2_remember_X2_put
theorem dX2_remember_0 : decode cX2_remember 0 = .ok (.aload_n 0, 1) := by decide +kernel
theorem dX2_remember_1 : decode cX2_remember 1 = .ok (.aload_n 0, 1) := by decide +kernel
theorem dX2_remember_2 : decode cX2_remember 2 = .ok (.getfield 26, 3) := by decide +kernel
theorem dX2_remember_5 : decode cX2_remember 5 = .ok (.iconst 1, 1) := by decide +kernel
theorem dX2_remember_6 : decode cX2_remember 6 = .ok (.iadd, 1) := by decide +kernel
theorem dX2_remember_7 : decode cX2_remember 7 = .ok (.bipush 14, 2) := by decide +kernel
theorem dX2_remember_9 : decode cX2_remember 9 = .ok (.irem, 1) := by decide +kernel
theorem dX2_remember_10 : decode cX2_remember 10 = .ok (.putfield 26, 3) := by decide +kernel
theorem dX2_remember_13 : decode cX2_remember 13 = .ok (.aload_n 0, 1) := by decide +kernel
theorem dX2_remember_14 : decode cX2_remember 14 = .ok (.aload_n 0, 1) := by decide +kernel
theorem dX2_remember_15 : decode cX2_remember 15 = .ok (.getfield 26, 3) := by decide +kernel
theorem dX2_remember_18 : decode cX2_remember 18 = .ok (.aload_n 1, 1) := by decide +kernel
theorem dX2_remember_19 : decode cX2_remember 19 = .ok (.invokevirtual 29, 3) := by decide +kernel
theorem dX2_remember_22 : decode cX2_remember 22 = .ok (.aload_n 0, 1) := by decide +kernel
theorem dX2_remember_23 : decode cX2_remember 23 = .ok (.aload_n 0, 1) := by decide +kernel
theorem dX2_remember_24 : decode cX2_remember 24 = .ok (.getfield 22, 3) := by decide +kernel
theorem dX2_remember_27 : decode cX2_remember 27 = .ok (.iconst 1, 1) := by decide +kernel
theorem dX2_remember_28 : decode cX2_remember 28 = .ok (.iadd, 1) := by decide +kernel
theorem dX2_remember_29 : decode cX2_remember 29 = .ok (.bipush 14, 2) := by decide +kernel
theorem dX2_remember_31 : decode cX2_remember 31 = .ok (.invokestatic 33, 3) := by decide +kernel
theorem dX2_remember_34 : decode cX2_remember 34 = .ok (.putfield 22, 3) := by decide +kernel
theorem dX2_remember_37 : decode cX2_remember 37 = .ok (.return_, 1) := by decide +kernel
set_option maxRecDepth 20000 in
theorem ggX2_takeBack_X2_show : GoodIn wsX2_takeBack wsX2_show := goodIn_r _ [11, 12, 13, 14, 15, 16, 17, 18, 19, 20, 21, 22, 23, 24, 25, 26, 27, 28, 29, 30, 31, 32, 33, 34, 35, 36] (by decide +kernel) (by decide +kernel)
set_option maxRecDepth 20000 in
theorem gX2_takeBack_X2_show : GoodIn wsX2_takeBack (wsV RX2 39 RX2 yX2_show wsX2_show) := goodIn_app (goodIn_of _ (by decide +kernel)) ggX2_takeBack_X2_show
theorem dX2_takeBack_0 : decode cX2_takeBack 0 = .ok (.aload_n 0, 1) := by decide +kernel
theorem dX2_takeBack_1 : decode cX2_takeBack 1 = .ok (.aload_n 0, 1) := by decide +kernel
theorem dX2_takeBack_2 : decode cX2_takeBack 2 = .ok (.getfield 26, 3) := by decide +kernel
theorem dX2_takeBack_5 : decode cX2_takeBack 5 = .ok (.aload_n 1, 1) := by decide +kernel
theorem dX2_takeBack_6 : decode cX2_takeBack 6 = .ok (.invokevirtual 39, 3) := by decide +kernel
theorem dX2_takeBack_9 : decode cX2_takeBack 9 = .ok (.aload_n 0, 1) := by decide +kernel
theorem dX2_takeBack_10 : decode cX2_takeBack 10 = .ok (.aload_n 0, 1) := by decide +kernel
theorem dX2_takeBack_11 : decode cX2_takeBack 11 = .ok (.getfield 26, 3) := by decide +kernel
theorem dX2_takeBack_14 : decode cX2_takeBack 14 = .ok (.bipush 14, 2) := by decide +kernel
theorem dX2_takeBack_16 : decode cX2_takeBack 16 = .ok (.iadd, 1) := by decide +kernel
theorem dX2_takeBack_17 : decode cX2_takeBack 17 = .ok (.iconst 1, 1) := by decide +kernel
theorem dX2_takeBack_18 : decode cX2_takeBack 18 = .ok (.isub, 1) := by decide +kernel
theorem dX2_takeBack_19 : decode cX2_takeBack 19 = .ok (.bipush 14, 2) := by decide +kernel
theorem dX2_takeBack_21 : decode cX2_takeBack 21 = .ok (.irem, 1) := by decide +kernel
theorem dX2_takeBack_22 : decode cX2_takeBack 22 = .ok (.putfield 26, 3) := by decide +kernel
theorem dX2_takeBack_25 : decode cX2_takeBack 25 = .ok (.aload_n 0, 1) := by decide +kernel
theorem dX2_takeBack_26 : decode cX2_takeBack 26 = .ok (.aload_n 0, 1) := by decide +kernel
theorem dX2_takeBack_27 : decode cX2_takeBack 27 = .ok (.getfield 22, 3) := by decide +kernel
theorem dX2_takeBack_30 : decode cX2_takeBack 30 = .ok (.iconst 1, 1) := by decide +kernel
theorem dX2_takeBack_31 : decode cX2_takeBack 31 = .ok (.isub, 1) := by decide +kernel
theorem dX2_takeBack_32 : decode cX2_takeBack 32 = .ok (.iconst 0, 1) := by decide +kernel
theorem dX2_takeBack_33 : decode cX2_takeBack 33 = .ok (.invokestatic 42, 3) := by decide +kernel
theorem dX2_takeBack_36 : decode cX2_takeBack 36 = .ok (.putfield 22, 3) := by decide +kernel
theorem dX2_takeBack_39 : decode cX2_takeBack 39 = .ok (.return_, 1) := by decide +kernel
set_option maxRecDepth 20000 in
theorem ggX2_put_X6_outside : GoodIn wsX2_put wsX6_outside := goodIn_r _ [6] (by decide +kernel) (by decide +kernel)
set_option maxRecDepth 20000 in
theorem gX2_put_X6_outside_n45 : GoodIn wsX2_put (wsX6_outside) := ggX2_put_X6_outside
theorem dX2_put_0 : decode cX2_put 0 = .ok (.iload_n 1, 1) := by decide +kernel
theorem dX2_put_1 : decode cX2_put 1 = .ok (.iconst 0, 1) := by decide +kernel
theorem dX2_put_2 : decode cX2_put 2 = .ok (.bipush 15, 2) := by decide +kernel
theorem dX2_put_4 : decode cX2_put 4 = .ok (.invokestatic 45, 3) := by decide +kernel
theorem dX2_put_7 : decode cX2_put 7 = .ok (.ifCond .ne 33, 3) := by decide +kernel
theorem dX2_put_10 : decode cX2_put 10 = .ok (.aload_n 0, 1) := by decide +kernel
theorem dX2_put_11 : decode cX2_put 11 = .ok (.getfield 11, 3) := by decide +kernel
theorem dX2_put_14 : decode cX2_put 14 = .ok (.iload_n 1, 1) := by decide +kernel
theorem dX2_put_15 : decode cX2_put 15 = .ok (.aload_n 2, 1) := by decide +kernel
theorem dX2_put_16 : decode cX2_put 16 = .ok (.getfield 49, 3) := by decide +kernel
theorem dX2_put_19 : decode cX2_put 19 = .ok (.iastore, 1) := by decide +kernel
theorem dX2_put_20 : decode cX2_put 20 = .ok (.aload_n 0, 1) := by decide +kernel
theorem dX2_put_21 : decode cX2_put 21 = .ok (.getfield 15, 3) := by decide +kernel
theorem dX2_put_24 : decode cX2_put 24 = .ok (.iload_n 1, 1) := by decide +kernel
theorem dX2_put_25 : decode cX2_put 25 = .ok (.aload_n 2, 1) := by decide +kernel
theorem dX2_put_26 : decode cX2_put 26 = .ok (.getfield 54, 3) := by decide +kernel
theorem dX2_put_29 : decode cX2_put 29 = .ok (.iastore, 1) := by decide +kernel
theorem dX2_put_30 : decode cX2_put 30 = .ok (.aload_n 0, 1) := by decide +kernel
theorem dX2_put_31 : decode cX2_put 31 = .ok (.getfield 18, 3) := by decide +kernel
theorem dX2_put_34 : decode cX2_put 34 = .ok (.iload_n 1, 1) := by decide +kernel
theorem dX2_put_35 : decode cX2_put 35 = .ok (.aload_n 2, 1) := by decide +kernel
theorem dX2_put_36 : decode cX2_put 36 = .ok (.getfield 57, 3) := by decide +kernel
theorem dX2_put_39 : decode cX2_put 39 = .ok (.lastore, 1) := by decide +kernel
theorem dX2_put_40 : decode cX2_put 40 = .ok (.return_, 1) := by decide +kernel
set_option maxRecDepth 20000 in
theorem ggX2_show_X6_outside : GoodIn wsX2_show wsX6_outside := goodIn_r _ [6] (by decide +kernel) (by decide +kernel)
set_option maxRecDepth 20000 in
theorem gX2_show_X6_outside_n45 : GoodIn wsX2_show (wsX6_outside) := ggX2_show_X6_outside
set_option maxRecDepth 20000 in
theorem ggX2_show_X0_show : GoodIn wsX2_show wsX0_show := goodIn_r _ [11, 12, 13, 14, 15, 21, 22, 23, 24, 25] (by decide +kernel) (by decide +kernel)
set_option maxRecDepth 20000 in
theorem gX2_show_X0_show : GoodIn wsX2_show (wsV RX2 61 RX0 yX0_show wsX0_show) := goodIn_app (goodIn_of _ (by decide +kernel)) ggX2_show_X0_show
theorem dX2_show_0 : decode cX2_show 0 = .ok (.iload_n 1, 1) := by decide +kernel
theorem dX2_show_1 : decode cX2_show 1 = .ok (.iconst 0, 1) := by decide +kernel
theorem dX2_show_2 : decode cX2_show 2 = .ok (.bipush 15, 2) := by decide +kernel
theorem dX2_show_4 : decode cX2_show 4 = .ok (.invokestatic 45, 3) := by decide +kernel
theorem dX2_show_7 : decode cX2_show 7 = .ok (.ifCond .ne 25, 3) := by decide +kernel
theorem dX2_show_10 : decode cX2_show 10 = .ok (.aload_n 2, 1) := by decide +kernel
theorem dX2_show_11 : decode cX2_show 11 = .ok (.aload_n 0, 1) := by decide +kernel
theorem dX2_show_12 : decode cX2_show 12 = .ok (.getfield 11, 3) := by decide +kernel
theorem dX2_show_15 : decode cX2_show 15 = .ok (.iload_n 1, 1) := by decide +kernel
theorem dX2_show_16 : decode cX2_show 16 = .ok (.iaload, 1) := by decide +kernel
theorem dX2_show_17 : decode cX2_show 17 = .ok (.aload_n 0, 1) := by decide +kernel
theorem dX2_show_18 : decode cX2_show 18 = .ok (.getfield 15, 3) := by decide +kernel
theorem dX2_show_21 : decode cX2_show 21 = .ok (.iload_n 1, 1) := by decide +kernel
theorem dX2_show_22 : decode cX2_show 22 = .ok (.iaload, 1) := by decide +kernel
theorem dX2_show_23 : decode cX2_show 23 = .ok (.aload_n 0, 1) := by decide +kernel
theorem dX2_show_24 : decode cX2_show 24 = .ok (.getfield 18, 3) := by decide +kernel
theorem dX2_show_27 : decode cX2_show 27 = .ok (.iload_n 1, 1) := by decide +kernel
theorem dX2_show_28 : decode cX2_show 28 = .ok (.laload, 1) := by decide +kernel
theorem dX2_show_29 : decode cX2_show 29 = .ok (.invokevirtual 61, 3) := by decide +kernel
theorem dX2_show_32 : decode cX2_show 32 = .ok (.return_, 1) := by decide +kernel
theorem dX3_init_0 : decode cX3_init 0 = .ok (.aload_n 0, 1) := by decide +kernel
theorem dX3_init_1 : decode cX3_init 1 = .ok (.invokespecial 3, 3) := by decide +kernel
theorem dX3_init_4 : decode cX3_init 4 = .ok (.aload_n 0, 1) := by decide +kernel
theorem dX3_init_5 : decode cX3_init 5 = .ok (.sipush 631, 3) := by decide +kernel
theorem dX3_init_8 : decode cX3_init 8 = .ok (.newarray .int, 2) := by decide +kernel
theorem dX3_init_10 : decode cX3_init 10 = .ok (.putfield 11, 3) := by decide +kernel
theorem dX3_init_13 : decode cX3_init 13 = .ok (.aload_n 0, 1) := by decide +kernel
theorem dX3_init_14 : decode cX3_init 14 = .ok (.sipush 2524, 3) := by decide +kernel
theorem dX3_init_17 : decode cX3_init 17 = .ok (.newarray .int, 2) := by decide +kernel
theorem dX3_init_19 : decode cX3_init 19 = .ok (.putfield 15, 3) := by decide +kernel
theorem dX3_init_22 : decode cX3_init 22 = .ok (.aload_n 0, 1) := by decide +kernel
theorem dX3_init_23 : decode cX3_init 23 = .ok (.sipush 631, 3) := by decide +kernel
theorem dX3_init_26 : decode cX3_init 26 = .ok (.newarray .long, 2) := by decide +kernel
theorem dX3_init_28 : decode cX3_init 28 = .ok (.putfield 18, 3) := by decide +kernel
theorem dX3_init_31 : decode cX3_init 31 = .ok (.return_, 1) := by decide +kernel
set_option maxRecDepth 20000 in
theorem ggX3_begin_X3_fill : GoodIn wsX3_begin wsX3_fill := goodIn_r _ [11, 12, 13, 14, 15, 16, 17, 18, 10, 19, 2, 20, 21, 22, 23, 24] (by decide +kernel) (by decide +kernel)
set_option maxRecDepth 20000 in
theorem gX3_begin_X3_fill : GoodIn wsX3_begin (wsV RX3 29 RX3 yX3_fill wsX3_fill) := goodIn_app (goodIn_of _ (by decide +kernel)) ggX3_begin_X3_fill
theorem dX3_begin_0 : decode cX3_begin 0 = .ok (.aload_n 0, 1) := by decide +kernel
theorem dX3_begin_1 : decode cX3_begin 1 = .ok (.iload_n 1, 1) := by decide +kernel
theorem dX3_begin_2 : decode cX3_begin 2 = .ok (.putfield 22, 3) := by decide +kernel
theorem dX3_begin_5 : decode cX3_begin 5 = .ok (.aload_n 0, 1) := by decide +kernel
theorem dX3_begin_6 : decode cX3_begin 6 = .ok (.iconst 0, 1) := by decide +kernel
theorem dX3_begin_7 : decode cX3_begin 7 = .ok (.putfield 26, 3) := by decide +kernel
theorem dX3_begin_10 : decode cX3_begin 10 = .ok (.iconst 1, 1) := by decide +kernel
theorem dX3_begin_11 : decode cX3_begin 11 = .ok (.istore_n 2, 1) := by decide +kernel
theorem dX3_begin_12 : decode cX3_begin 12 = .ok (.aload_n 0, 1) := by decide +kernel
theorem dX3_begin_13 : decode cX3_begin 13 = .ok (.getfield 26, 3) := by decide +kernel
theorem dX3_begin_16 : decode cX3_begin 16 = .ok (.sipush 631, 3) := by decide +kernel
theorem dX3_begin_19 : decode cX3_begin 19 = .ok (.if_icmp .ge 51, 3) := by decide +kernel
theorem dX3_begin_22 : decode cX3_begin 22 = .ok (.iload_n 2, 1) := by decide +kernel
theorem dX3_begin_23 : decode cX3_begin 23 = .ok (.iconst 1, 1) := by decide +kernel
theorem dX3_begin_24 : decode cX3_begin 24 = .ok (.if_icmp .lt 46, 3) := by decide +kernel
theorem dX3_begin_27 : decode cX3_begin 27 = .ok (.iload_n 2, 1) := by decide +kernel
theorem dX3_begin_28 : decode cX3_begin 28 = .ok (.iload_n 1, 1) := by decide +kernel
theorem dX3_begin_29 : decode cX3_begin 29 = .ok (.if_icmp .gt 41, 3) := by decide +kernel
theorem dX3_begin_32 : decode cX3_begin 32 = .ok (.iload_n 1, 1) := by decide +kernel
theorem dX3_begin_33 : decode cX3_begin 33 = .ok (.iload_n 2, 1) := by decide +kernel
theorem dX3_begin_34 : decode cX3_begin 34 = .ok (.idiv, 1) := by decide +kernel
theorem dX3_begin_35 : decode cX3_begin 35 = .ok (.istore_n 3, 1) := by decide +kernel
theorem dX3_begin_36 : decode cX3_begin 36 = .ok (.aload_n 0, 1) := by decide +kernel
theorem dX3_begin_37 : decode cX3_begin 37 = .ok (.dup, 1) := by decide +kernel
theorem dX3_begin_38 : decode cX3_begin 38 = .ok (.getfield 26, 3) := by decide +kernel
theorem dX3_begin_41 : decode cX3_begin 41 = .ok (.iconst 1, 1) := by decide +kernel
theorem dX3_begin_42 : decode cX3_begin 42 = .ok (.iadd, 1) := by decide +kernel
theorem dX3_begin_43 : decode cX3_begin 43 = .ok (.putfield 26, 3) := by decide +kernel
theorem dX3_begin_46 : decode cX3_begin 46 = .ok (.aload_n 0, 1) := by decide +kernel
theorem dX3_begin_47 : decode cX3_begin 47 = .ok (.aload_n 0, 1) := by decide +kernel
theorem dX3_begin_48 : decode cX3_begin 48 = .ok (.getfield 26, 3) := by decide +kernel
theorem dX3_begin_51 : decode cX3_begin 51 = .ok (.iconst 1, 1) := by decide +kernel
theorem dX3_begin_52 : decode cX3_begin 52 = .ok (.isub, 1) := by decide +kernel
theorem dX3_begin_53 : decode cX3_begin 53 = .ok (.iload_n 3, 1) := by decide +kernel
theorem dX3_begin_54 : decode cX3_begin 54 = .ok (.invokevirtual 29, 3) := by decide +kernel
theorem dX3_begin_57 : decode cX3_begin 57 = .ok (.iload_n 1, 1) := by decide +kernel
theorem dX3_begin_58 : decode cX3_begin 58 = .ok (.iconst 1, 1) := by decide +kernel
theorem dX3_begin_59 : decode cX3_begin 59 = .ok (.iload_n 3, 1) := by decide +kernel
theorem dX3_begin_60 : decode cX3_begin 60 = .ok (.invokestatic 33, 3) := by decide +kernel
theorem dX3_begin_63 : decode cX3_begin 63 = .ok (.idiv, 1) := by decide +kernel
theorem dX3_begin_64 : decode cX3_begin 64 = .ok (.iconst 1, 1) := by decide +kernel
theorem dX3_begin_65 : decode cX3_begin 65 = .ok (.iadd, 1) := by decide +kernel
theorem dX3_begin_66 : decode cX3_begin 66 = .ok (.istore_n 2, 1) := by decide +kernel
theorem dX3_begin_67 : decode cX3_begin 67 = .ok (.goto (-55), 3) := by decide +kernel
theorem dX3_begin_70 : decode cX3_begin 70 = .ok (.return_, 1) := by decide +kernel
set_option maxRecDepth 20000 in
theorem ggX3_fill_X3_has : GoodIn wsX3_fill wsX3_has := goodIn_r _ [9, 10, 11, 12, 13, 14, 15] (by decide +kernel) (by decide +kernel)
set_option maxRecDepth 20000 in
theorem gX3_fill_X3_has : GoodIn wsX3_fill (wsV RX3 39 RX3 yX3_has wsX3_has) := goodIn_app (goodIn_of _ (by decide +kernel)) ggX3_fill_X3_has
theorem dX3_fill_0 : decode cX3_fill 0 = .ok (.aload_n 0, 1) := by decide +kernel
theorem dX3_fill_1 : decode cX3_fill 1 = .ok (.iload_n 1, 1) := by decide +kernel
theorem dX3_fill_2 : decode cX3_fill 2 = .ok (.invokevirtual 39, 3) := by decide +kernel
theorem dX3_fill_5 : decode cX3_fill 5 = .ok (.ifCond .ne 4, 3) := by decide +kernel
theorem dX3_fill_8 : decode cX3_fill 8 = .ok (.return_, 1) := by decide +kernel
theorem dX3_fill_9 : decode cX3_fill 9 = .ok (.aload_n 0, 1) := by decide +kernel
theorem dX3_fill_10 : decode cX3_fill 10 = .ok (.getfield 11, 3) := by decide +kernel
theorem dX3_fill_13 : decode cX3_fill 13 = .ok (.iload_n 1, 1) := by decide +kernel
theorem dX3_fill_14 : decode cX3_fill 14 = .ok (.iload_n 2, 1) := by decide +kernel
theorem dX3_fill_15 : decode cX3_fill 15 = .ok (.iastore, 1) := by decide +kernel
theorem dX3_fill_16 : decode cX3_fill 16 = .ok (.aload_n 0, 1) := by decide +kernel
theorem dX3_fill_17 : decode cX3_fill 17 = .ok (.getfield 18, 3) := by decide +kernel
theorem dX3_fill_20 : decode cX3_fill 20 = .ok (.iload_n 1, 1) := by decide +kernel
theorem dX3_fill_21 : decode cX3_fill 21 = .ok (.iload_n 2, 1) := by decide +kernel
theorem dX3_fill_22 : decode cX3_fill 22 = .ok (.i2l, 1) := by decide +kernel
theorem dX3_fill_23 : decode cX3_fill 23 = .ok (.iload_n 2, 1) := by decide +kernel
theorem dX3_fill_24 : decode cX3_fill 24 = .ok (.i2l, 1) := by decide +kernel
theorem dX3_fill_25 : decode cX3_fill 25 = .ok (.lconst 1, 1) := by decide +kernel
theorem dX3_fill_26 : decode cX3_fill 26 = .ok (.ladd, 1) := by decide +kernel
theorem dX3_fill_27 : decode cX3_fill 27 = .ok (.lmul, 1) := by decide +kernel
theorem dX3_fill_28 : decode cX3_fill 28 = .ok (.ldc2_w 43, 3) := by decide +kernel
theorem dX3_fill_31 : decode cX3_fill 31 = .ok (.ldiv, 1) := by decide +kernel
theorem dX3_fill_32 : decode cX3_fill 32 = .ok (.lastore, 1) := by decide +kernel
theorem dX3_fill_33 : decode cX3_fill 33 = .ok (.aload_n 0, 1) := by decide +kernel
theorem dX3_fill_34 : decode cX3_fill 34 = .ok (.getfield 15, 3) := by decide +kernel
theorem dX3_fill_37 : decode cX3_fill 37 = .ok (.iconst 4, 1) := by decide +kernel
theorem dX3_fill_38 : decode cX3_fill 38 = .ok (.iload_n 1, 1) := by decide +kernel
theorem dX3_fill_39 : decode cX3_fill 39 = .ok (.imul, 1) := by decide +kernel
theorem dX3_fill_40 : decode cX3_fill 40 = .ok (.iload_n 2, 1) := by decide +kernel
theorem dX3_fill_41 : decode cX3_fill 41 = .ok (.iconst 4, 1) := by decide +kernel
theorem dX3_fill_42 : decode cX3_fill 42 = .ok (.idiv, 1) := by decide +kernel
theorem dX3_fill_43 : decode cX3_fill 43 = .ok (.iastore, 1) := by decide +kernel
theorem dX3_fill_44 : decode cX3_fill 44 = .ok (.iconst 1, 1) := by decide +kernel
theorem dX3_fill_45 : decode cX3_fill 45 = .ok (.istore_n 3, 1) := by decide +kernel
theorem dX3_fill_46 : decode cX3_fill 46 = .ok (.iload_n 3, 1) := by decide +kernel
theorem dX3_fill_47 : decode cX3_fill 47 = .ok (.iconst 4, 1) := by decide +kernel
theorem dX3_fill_48 : decode cX3_fill 48 = .ok (.if_icmp .ge 26, 3) := by decide +kernel
theorem dX3_fill_51 : decode cX3_fill 51 = .ok (.aload_n 0, 1) := by decide +kernel
theorem dX3_fill_52 : decode cX3_fill 52 = .ok (.getfield 15, 3) := by decide +kernel
theorem dX3_fill_55 : decode cX3_fill 55 = .ok (.iconst 4, 1) := by decide +kernel
theorem dX3_fill_56 : decode cX3_fill 56 = .ok (.iload_n 1, 1) := by decide +kernel
theorem dX3_fill_57 : decode cX3_fill 57 = .ok (.imul, 1) := by decide +kernel
theorem dX3_fill_58 : decode cX3_fill 58 = .ok (.iload_n 3, 1) := by decide +kernel
theorem dX3_fill_59 : decode cX3_fill 59 = .ok (.iadd, 1) := by decide +kernel
theorem dX3_fill_60 : decode cX3_fill 60 = .ok (.iload_n 2, 1) := by decide +kernel
theorem dX3_fill_61 : decode cX3_fill 61 = .ok (.iconst 4, 1) := by decide +kernel
theorem dX3_fill_62 : decode cX3_fill 62 = .ok (.iadd, 1) := by decide +kernel
theorem dX3_fill_63 : decode cX3_fill 63 = .ok (.iload_n 3, 1) := by decide +kernel
theorem dX3_fill_64 : decode cX3_fill 64 = .ok (.isub, 1) := by decide +kernel
theorem dX3_fill_65 : decode cX3_fill 65 = .ok (.iconst 4, 1) := by decide +kernel
theorem dX3_fill_66 : decode cX3_fill 66 = .ok (.idiv, 1) := by decide +kernel
theorem dX3_fill_67 : decode cX3_fill 67 = .ok (.iastore, 1) := by decide +kernel
theorem dX3_fill_68 : decode cX3_fill 68 = .ok (.iinc 3 1, 3) := by decide +kernel
theorem dX3_fill_71 : decode cX3_fill 71 = .ok (.goto (-25), 3) := by decide +kernel
theorem dX3_fill_74 : decode cX3_fill 74 = .ok (.return_, 1) := by decide +kernel
theorem dX3_placeOf_0 : decode cX3_placeOf 0 = .ok (.iload_n 1, 1) := by decide +kernel
theorem dX3_placeOf_1 : decode cX3_placeOf 1 = .ok (.iconst 1, 1) := by decide +kernel
theorem dX3_placeOf_2 : decode cX3_placeOf 2 = .ok (.if_icmp .lt 11, 3) := by decide +kernel
theorem dX3_placeOf_5 : decode cX3_placeOf 5 = .ok (.iload_n 1, 1) := by decide +kernel
theorem dX3_placeOf_6 : decode cX3_placeOf 6 = .ok (.aload_n 0, 1) := by decide +kernel
theorem dX3_placeOf_7 : decode cX3_placeOf 7 = .ok (.getfield 22, 3) := by decide +kernel
theorem dX3_placeOf_10 : decode cX3_placeOf 10 = .ok (.if_icmp .le 5, 3) := by decide +kernel
theorem dX3_placeOf_13 : decode cX3_placeOf 13 = .ok (.iconst (-1), 1) := by decide +kernel
theorem dX3_placeOf_14 : decode cX3_placeOf 14 = .ok (.ireturn, 1) := by decide +kernel
theorem dX3_placeOf_15 : decode cX3_placeOf 15 = .ok (.aload_n 0, 1) := by decide +kernel
theorem dX3_placeOf_16 : decode cX3_placeOf 16 = .ok (.getfield 22, 3) := by decide +kernel
theorem dX3_placeOf_19 : decode cX3_placeOf 19 = .ok (.iload_n 1, 1) := by decide +kernel
theorem dX3_placeOf_20 : decode cX3_placeOf 20 = .ok (.idiv, 1) := by decide +kernel
theorem dX3_placeOf_21 : decode cX3_placeOf 21 = .ok (.istore_n 2, 1) := by decide +kernel
theorem dX3_placeOf_22 : decode cX3_placeOf 22 = .ok (.iload_n 2, 1) := by decide +kernel
theorem dX3_placeOf_23 : decode cX3_placeOf 23 = .ok (.iconst 1, 1) := by decide +kernel
theorem dX3_placeOf_24 : decode cX3_placeOf 24 = .ok (.if_icmp .lt 13, 3) := by decide +kernel
theorem dX3_placeOf_27 : decode cX3_placeOf 27 = .ok (.aload_n 0, 1) := by decide +kernel
theorem dX3_placeOf_28 : decode cX3_placeOf 28 = .ok (.getfield 22, 3) := by decide +kernel
theorem dX3_placeOf_31 : decode cX3_placeOf 31 = .ok (.iload_n 2, 1) := by decide +kernel
theorem dX3_placeOf_32 : decode cX3_placeOf 32 = .ok (.idiv, 1) := by decide +kernel
theorem dX3_placeOf_33 : decode cX3_placeOf 33 = .ok (.iload_n 1, 1) := by decide +kernel
theorem dX3_placeOf_34 : decode cX3_placeOf 34 = .ok (.if_icmp .eq 5, 3) := by decide +kernel
theorem dX3_placeOf_37 : decode cX3_placeOf 37 = .ok (.iconst (-1), 1) := by decide +kernel
theorem dX3_placeOf_38 : decode cX3_placeOf 38 = .ok (.ireturn, 1) := by decide +kernel
theorem dX3_placeOf_39 : decode cX3_placeOf 39 = .ok (.iload_n 1, 1) := by decide +kernel
theorem dX3_placeOf_40 : decode cX3_placeOf 40 = .ok (.iload_n 2, 1) := by decide +kernel
theorem dX3_placeOf_41 : decode cX3_placeOf 41 = .ok (.if_icmp .gt 12, 3) := by decide +kernel
theorem dX3_placeOf_44 : decode cX3_placeOf 44 = .ok (.aload_n 0, 1) := by decide +kernel
theorem dX3_placeOf_45 : decode cX3_placeOf 45 = .ok (.getfield 26, 3) := by decide +kernel
theorem dX3_placeOf_48 : decode cX3_placeOf 48 = .ok (.iload_n 1, 1) := by decide +kernel
theorem dX3_placeOf_49 : decode cX3_placeOf 49 = .ok (.isub, 1) := by decide +kernel
theorem dX3_placeOf_50 : decode cX3_placeOf 50 = .ok (.goto 6, 3) := by decide +kernel
theorem dX3_placeOf_53 : decode cX3_placeOf 53 = .ok (.iload_n 2, 1) := by decide +kernel
theorem dX3_placeOf_54 : decode cX3_placeOf 54 = .ok (.iconst 1, 1) := by decide +kernel
theorem dX3_placeOf_55 : decode cX3_placeOf 55 = .ok (.isub, 1) := by decide +kernel
theorem dX3_placeOf_56 : decode cX3_placeOf 56 = .ok (.ireturn, 1) := by decide +kernel
theorem dX3_has_0 : decode cX3_has 0 = .ok (.iload_n 1, 1) := by decide +kernel
theorem dX3_has_1 : decode cX3_has 1 = .ok (.ifCond .lt 15, 3) := by decide +kernel
theorem dX3_has_4 : decode cX3_has 4 = .ok (.iload_n 1, 1) := by decide +kernel
theorem dX3_has_5 : decode cX3_has 5 = .ok (.aload_n 0, 1) := by decide +kernel
theorem dX3_has_6 : decode cX3_has 6 = .ok (.getfield 26, 3) := by decide +kernel
theorem dX3_has_9 : decode cX3_has 9 = .ok (.if_icmp .ge 7, 3) := by decide +kernel
theorem dX3_has_12 : decode cX3_has 12 = .ok (.iconst 1, 1) := by decide +kernel
theorem dX3_has_13 : decode cX3_has 13 = .ok (.goto 4, 3) := by decide +kernel
theorem dX3_has_16 : decode cX3_has 16 = .ok (.iconst 0, 1) := by decide +kernel
theorem dX3_has_17 : decode cX3_has 17 = .ok (.ireturn, 1) := by decide +kernel
set_option maxRecDepth 20000 in
theorem ggX3_valueAt_X3_has : GoodIn wsX3_valueAt wsX3_has := goodIn_r _ [6, 7, 8, 9, 10, 11, 12] (by decide +kernel) (by decide +kernel)
set_option maxRecDepth 20000 in
theorem gX3_valueAt_X3_has : GoodIn wsX3_valueAt (wsV RX3 39 RX3 yX3_has wsX3_has) := goodIn_app (goodIn_of _ (by decide +kernel)) ggX3_valueAt_X3_has
theorem dX3_valueAt_0 : decode cX3_valueAt 0 = .ok (.aload_n 0, 1) := by decide +kernel
theorem dX3_valueAt_1 : decode cX3_valueAt 1 = .ok (.iload_n 1, 1) := by decide +kernel
theorem dX3_valueAt_2 : decode cX3_valueAt 2 = .ok (.invokevirtual 39, 3) := by decide +kernel
theorem dX3_valueAt_5 : decode cX3_valueAt 5 = .ok (.ifCond .eq 12, 3) := by decide +kernel
theorem dX3_valueAt_8 : decode cX3_valueAt 8 = .ok (.aload_n 0, 1) := by decide +kernel
theorem dX3_valueAt_9 : decode cX3_valueAt 9 = .ok (.getfield 11, 3) := by decide +kernel
theorem dX3_valueAt_12 : decode cX3_valueAt 12 = .ok (.iload_n 1, 1) := by decide +kernel
theorem dX3_valueAt_13 : decode cX3_valueAt 13 = .ok (.iaload, 1) := by decide +kernel
theorem dX3_valueAt_14 : decode cX3_valueAt 14 = .ok (.goto 4, 3) := by decide +kernel
theorem dX3_valueAt_17 : decode cX3_valueAt 17 = .ok (.iconst 0, 1) := by decide +kernel
theorem dX3_valueAt_18 : decode cX3_valueAt 18 = .ok (.ireturn, 1) := by decide +kernel
set_option maxRecDepth 20000 in
theorem ggX3_countAt_X3_restAt : GoodIn wsX3_countAt wsX3_restAt := goodIn_r _ [5, 6, 7, 8, 9, 4, 10, 11, 12, 13, 14, 15, 16, 17, 18, 19] (by decide +kernel) (by decide +kernel)
set_option maxRecDepth 20000 in
theorem gX3_countAt_X3_restAt : GoodIn wsX3_countAt (wsV RX3 45 RX3 yX3_restAt wsX3_restAt) := goodIn_app (goodIn_of _ (by decide +kernel)) ggX3_countAt_X3_restAt
theorem dX3_countAt_0 : decode cX3_countAt 0 = .ok (.iconst 0, 1) := by decide +kernel
theorem dX3_countAt_1 : decode cX3_countAt 1 = .ok (.istore_n 2, 1) := by decide +kernel
theorem dX3_countAt_2 : decode cX3_countAt 2 = .ok (.iconst 0, 1) := by decide +kernel
theorem dX3_countAt_3 : decode cX3_countAt 3 = .ok (.istore_n 3, 1) := by decide +kernel
theorem dX3_countAt_4 : decode cX3_countAt 4 = .ok (.iload_n 3, 1) := by decide +kernel
theorem dX3_countAt_5 : decode cX3_countAt 5 = .ok (.iconst 4, 1) := by decide +kernel
theorem dX3_countAt_6 : decode cX3_countAt 6 = .ok (.if_icmp .ge 18, 3) := by decide +kernel
theorem dX3_countAt_9 : decode cX3_countAt 9 = .ok (.iload_n 2, 1) := by decide +kernel
theorem dX3_countAt_10 : decode cX3_countAt 10 = .ok (.aload_n 0, 1) := by decide +kernel
theorem dX3_countAt_11 : decode cX3_countAt 11 = .ok (.iload_n 1, 1) := by decide +kernel
theorem dX3_countAt_12 : decode cX3_countAt 12 = .ok (.iload_n 3, 1) := by decide +kernel
theorem dX3_countAt_13 : decode cX3_countAt 13 = .ok (.invokevirtual 45, 3) := by decide +kernel
theorem dX3_countAt_16 : decode cX3_countAt 16 = .ok (.iadd, 1) := by decide +kernel
theorem dX3_countAt_17 : decode cX3_countAt 17 = .ok (.istore_n 2, 1) := by decide +kernel
theorem dX3_countAt_18 : decode cX3_countAt 18 = .ok (.iinc 3 1, 3) := by decide +kernel
theorem dX3_countAt_21 : decode cX3_countAt 21 = .ok (.goto (-17), 3) := by decide +kernel
theorem dX3_countAt_24 : decode cX3_countAt 24 = .ok (.iload_n 2, 1) := by decide +kernel
theorem dX3_countAt_25 : decode cX3_countAt 25 = .ok (.ireturn, 1) := by decide +kernel
set_option maxRecDepth 20000 in
theorem ggX3_restAt_X3_has : GoodIn wsX3_restAt wsX3_has := goodIn_r _ [6, 7, 11, 12, 13, 14, 15] (by decide +kernel) (by decide +kernel)
set_option maxRecDepth 20000 in
theorem gX3_restAt_X3_has : GoodIn wsX3_restAt (wsV RX3 39 RX3 yX3_has wsX3_has) := goodIn_app (goodIn_of _ (by decide +kernel)) ggX3_restAt_X3_has
set_option maxRecDepth 20000 in
theorem ggX3_restAt_X6_outside : GoodIn wsX3_restAt wsX6_outside := goodIn_r _ [10] (by decide +kernel) (by decide +kernel)
set_option maxRecDepth 20000 in
theorem gX3_restAt_X6_outside_n48 : GoodIn wsX3_restAt (wsX6_outside) := ggX3_restAt_X6_outside
theorem dX3_restAt_0 : decode cX3_restAt 0 = .ok (.aload_n 0, 1) := by decide +kernel
theorem dX3_restAt_1 : decode cX3_restAt 1 = .ok (.iload_n 1, 1) := by decide +kernel
theorem dX3_restAt_2 : decode cX3_restAt 2 = .ok (.invokevirtual 39, 3) := by decide +kernel
theorem dX3_restAt_5 : decode cX3_restAt 5 = .ok (.ifCond .eq 25, 3) := by decide +kernel
theorem dX3_restAt_8 : decode cX3_restAt 8 = .ok (.iload_n 2, 1) := by decide +kernel
theorem dX3_restAt_9 : decode cX3_restAt 9 = .ok (.iconst 0, 1) := by decide +kernel
theorem dX3_restAt_10 : decode cX3_restAt 10 = .ok (.iconst 3, 1) := by decide +kernel
theorem dX3_restAt_11 : decode cX3_restAt 11 = .ok (.invokestatic 48, 3) := by decide +kernel
theorem dX3_restAt_14 : decode cX3_restAt 14 = .ok (.ifCond .ne 16, 3) := by decide +kernel
theorem dX3_restAt_17 : decode cX3_restAt 17 = .ok (.aload_n 0, 1) := by decide +kernel
theorem dX3_restAt_18 : decode cX3_restAt 18 = .ok (.getfield 15, 3) := by decide +kernel
theorem dX3_restAt_21 : decode cX3_restAt 21 = .ok (.iconst 4, 1) := by decide +kernel
theorem dX3_restAt_22 : decode cX3_restAt 22 = .ok (.iload_n 1, 1) := by decide +kernel
theorem dX3_restAt_23 : decode cX3_restAt 23 = .ok (.imul, 1) := by decide +kernel
theorem dX3_restAt_24 : decode cX3_restAt 24 = .ok (.iload_n 2, 1) := by decide +kernel
theorem dX3_restAt_25 : decode cX3_restAt 25 = .ok (.iadd, 1) := by decide +kernel
theorem dX3_restAt_26 : decode cX3_restAt 26 = .ok (.iaload, 1) := by decide +kernel
theorem dX3_restAt_27 : decode cX3_restAt 27 = .ok (.goto 4, 3) := by decide +kernel
theorem dX3_restAt_30 : decode cX3_restAt 30 = .ok (.iconst 0, 1) := by decide +kernel
theorem dX3_restAt_31 : decode cX3_restAt 31 = .ok (.ireturn, 1) := by decide +kernel
set_option maxRecDepth 20000 in
theorem ggX3_sumAt_X3_has : GoodIn wsX3_sumAt wsX3_has := goodIn_r _ [6, 7, 8, 9, 10, 11, 12] (by decide +kernel) (by decide +kernel)
set_option maxRecDepth 20000 in
theorem gX3_sumAt_X3_has : GoodIn wsX3_sumAt (wsV RX3 39 RX3 yX3_has wsX3_has) := goodIn_app (goodIn_of _ (by decide +kernel)) ggX3_sumAt_X3_has
theorem dX3_sumAt_0 : decode cX3_sumAt 0 = .ok (.aload_n 0, 1) := by decide +kernel
theorem dX3_sumAt_1 : decode cX3_sumAt 1 = .ok (.iload_n 1, 1) := by decide +kernel
theorem dX3_sumAt_2 : decode cX3_sumAt 2 = .ok (.invokevirtual 39, 3) := by decide +kernel
theorem dX3_sumAt_5 : decode cX3_sumAt 5 = .ok (.ifCond .eq 12, 3) := by decide +kernel
theorem dX3_sumAt_8 : decode cX3_sumAt 8 = .ok (.aload_n 0, 1) := by decide +kernel
theorem dX3_sumAt_9 : decode cX3_sumAt 9 = .ok (.getfield 18, 3) := by decide +kernel
theorem dX3_sumAt_12 : decode cX3_sumAt 12 = .ok (.iload_n 1, 1) := by decide +kernel
theorem dX3_sumAt_13 : decode cX3_sumAt 13 = .ok (.laload, 1) := by decide +kernel
theorem dX3_sumAt_14 : decode cX3_sumAt 14 = .ok (.goto 4, 3) := by decide +kernel
theorem dX3_sumAt_17 : decode cX3_sumAt 17 = .ok (.lconst 0, 1) := by decide +kernel
theorem dX3_sumAt_18 : decode cX3_sumAt 18 = .ok (.lreturn, 1) := by decide +kernel
set_option maxRecDepth 20000 in
theorem ggX3_multiplesAt_X3_valueAt : GoodIn wsX3_multiplesAt wsX3_valueAt := goodIn_r _ [5, 6, 7, 8, 9, 4, 10, 11, 29, 30, 31, 32, 33] (by decide +kernel) (by decide +kernel)
set_option maxRecDepth 20000 in
theorem gX3_multiplesAt_X3_valueAt : GoodIn wsX3_multiplesAt (wsV RX3 52 RX3 yX3_valueAt wsX3_valueAt) := goodIn_app (goodIn_of _ (by decide +kernel)) ggX3_multiplesAt_X3_valueAt
set_option maxRecDepth 20000 in
theorem ggX3_multiplesAt_X3_placeOf : GoodIn wsX3_multiplesAt wsX3_placeOf := goodIn_r _ [15, 16, 11, 29, 30, 31, 32, 33] (by decide +kernel) (by decide +kernel)
set_option maxRecDepth 20000 in
theorem gX3_multiplesAt_X3_placeOf : GoodIn wsX3_multiplesAt (wsV RX3 56 RX3 yX3_placeOf wsX3_placeOf) := goodIn_app (goodIn_of _ (by decide +kernel)) ggX3_multiplesAt_X3_placeOf
set_option maxRecDepth 20000 in
theorem ggX3_multiplesAt_X3_countAt : GoodIn wsX3_multiplesAt wsX3_countAt := goodIn_r _ [20, 21, 22, 23, 4, 24, 25, 7, 8, 9, 10, 11, 26, 27, 28, 29, 30, 31, 32, 33] (by decide +kernel) (by decide +kernel)
set_option maxRecDepth 20000 in
theorem gX3_multiplesAt_X3_countAt : GoodIn wsX3_multiplesAt (wsV RX3 59 RX3 yX3_countAt wsX3_countAt) := goodIn_app (goodIn_of _ (by decide +kernel)) ggX3_multiplesAt_X3_countAt
theorem dX3_multiplesAt_0 : decode cX3_multiplesAt 0 = .ok (.iload_n 2, 1) := by decide +kernel
theorem dX3_multiplesAt_1 : decode cX3_multiplesAt 1 = .ok (.iconst 1, 1) := by decide +kernel
theorem dX3_multiplesAt_2 : decode cX3_multiplesAt 2 = .ok (.if_icmp .ge 7, 3) := by decide +kernel
theorem dX3_multiplesAt_5 : decode cX3_multiplesAt 5 = .ok (.iconst 0, 1) := by decide +kernel
theorem dX3_multiplesAt_6 : decode cX3_multiplesAt 6 = .ok (.goto 18, 3) := by decide +kernel
theorem dX3_multiplesAt_9 : decode cX3_multiplesAt 9 = .ok (.aload_n 0, 1) := by decide +kernel
theorem dX3_multiplesAt_10 : decode cX3_multiplesAt 10 = .ok (.aload_n 0, 1) := by decide +kernel
theorem dX3_multiplesAt_11 : decode cX3_multiplesAt 11 = .ok (.aload_n 0, 1) := by decide +kernel
theorem dX3_multiplesAt_12 : decode cX3_multiplesAt 12 = .ok (.iload_n 1, 1) := by decide +kernel
theorem dX3_multiplesAt_13 : decode cX3_multiplesAt 13 = .ok (.invokevirtual 52, 3) := by decide +kernel
theorem dX3_multiplesAt_16 : decode cX3_multiplesAt 16 = .ok (.iload_n 2, 1) := by decide +kernel
theorem dX3_multiplesAt_17 : decode cX3_multiplesAt 17 = .ok (.idiv, 1) := by decide +kernel
theorem dX3_multiplesAt_18 : decode cX3_multiplesAt 18 = .ok (.invokevirtual 56, 3) := by decide +kernel
theorem dX3_multiplesAt_21 : decode cX3_multiplesAt 21 = .ok (.invokevirtual 59, 3) := by decide +kernel
theorem dX3_multiplesAt_24 : decode cX3_multiplesAt 24 = .ok (.ireturn, 1) := by decide +kernel
set_option maxRecDepth 20000 in
theorem ggX3_remove_X3_valueAt : GoodIn wsX3_remove wsX3_valueAt := goodIn_r _ [8, 1, 9, 10, 11, 7, 12, 13, 19, 20, 21, 22, 23] (by decide +kernel) (by decide +kernel)
set_option maxRecDepth 20000 in
theorem gX3_remove_X3_valueAt : GoodIn wsX3_remove (wsV RX3 52 RX3 yX3_valueAt wsX3_valueAt) := goodIn_app (goodIn_of _ (by decide +kernel)) ggX3_remove_X3_valueAt
set_option maxRecDepth 20000 in
theorem ggX3_remove_X3_placeOf : GoodIn wsX3_remove wsX3_placeOf := goodIn_r _ [17, 18, 13, 19, 20, 21, 22, 23] (by decide +kernel) (by decide +kernel)
set_option maxRecDepth 20000 in
theorem gX3_remove_X3_placeOf : GoodIn wsX3_remove (wsV RX3 56 RX3 yX3_placeOf wsX3_placeOf) := goodIn_app (goodIn_of _ (by decide +kernel)) ggX3_remove_X3_placeOf
set_option maxRecDepth 20000 in
theorem ggX3_remove_X3_has : GoodIn wsX3_remove wsX3_has := goodIn_r _ [12, 13, 19, 20, 21, 22, 23] (by decide +kernel) (by decide +kernel)
set_option maxRecDepth 20000 in
theorem gX3_remove_X3_has : GoodIn wsX3_remove (wsV RX3 39 RX3 yX3_has wsX3_has) := goodIn_app (goodIn_of _ (by decide +kernel)) ggX3_remove_X3_has
theorem dX3_remove_0 : decode cX3_remove 0 = .ok (.iload_n 1, 1) := by decide +kernel
theorem dX3_remove_1 : decode cX3_remove 1 = .ok (.iconst 2, 1) := by decide +kernel
theorem dX3_remove_2 : decode cX3_remove 2 = .ok (.if_icmp .ge 4, 3) := by decide +kernel
theorem dX3_remove_5 : decode cX3_remove 5 = .ok (.return_, 1) := by decide +kernel
theorem dX3_remove_6 : decode cX3_remove 6 = .ok (.iconst 0, 1) := by decide +kernel
theorem dX3_remove_7 : decode cX3_remove 7 = .ok (.istore_n 2, 1) := by decide +kernel
theorem dX3_remove_8 : decode cX3_remove 8 = .ok (.iload_n 2, 1) := by decide +kernel
theorem dX3_remove_9 : decode cX3_remove 9 = .ok (.sipush 631, 3) := by decide +kernel
theorem dX3_remove_12 : decode cX3_remove 12 = .ok (.if_icmp .ge 102, 3) := by decide +kernel
theorem dX3_remove_15 : decode cX3_remove 15 = .ok (.aload_n 0, 1) := by decide +kernel
theorem dX3_remove_16 : decode cX3_remove 16 = .ok (.iload_n 2, 1) := by decide +kernel
theorem dX3_remove_17 : decode cX3_remove 17 = .ok (.invokevirtual 52, 3) := by decide +kernel
theorem dX3_remove_20 : decode cX3_remove 20 = .ok (.iload_n 1, 1) := by decide +kernel
theorem dX3_remove_21 : decode cX3_remove 21 = .ok (.if_icmp .lt 93, 3) := by decide +kernel
theorem dX3_remove_24 : decode cX3_remove 24 = .ok (.aload_n 0, 1) := by decide +kernel
theorem dX3_remove_25 : decode cX3_remove 25 = .ok (.aload_n 0, 1) := by decide +kernel
theorem dX3_remove_26 : decode cX3_remove 26 = .ok (.getfield 11, 3) := by decide +kernel
theorem dX3_remove_29 : decode cX3_remove 29 = .ok (.iload_n 2, 1) := by decide +kernel
theorem dX3_remove_30 : decode cX3_remove 30 = .ok (.iaload, 1) := by decide +kernel
theorem dX3_remove_31 : decode cX3_remove 31 = .ok (.iload_n 1, 1) := by decide +kernel
theorem dX3_remove_32 : decode cX3_remove 32 = .ok (.idiv, 1) := by decide +kernel
theorem dX3_remove_33 : decode cX3_remove 33 = .ok (.invokevirtual 56, 3) := by decide +kernel
theorem dX3_remove_36 : decode cX3_remove 36 = .ok (.istore_n 3, 1) := by decide +kernel
theorem dX3_remove_37 : decode cX3_remove 37 = .ok (.aload_n 0, 1) := by decide +kernel
theorem dX3_remove_38 : decode cX3_remove 38 = .ok (.iload_n 3, 1) := by decide +kernel
theorem dX3_remove_39 : decode cX3_remove 39 = .ok (.invokevirtual 39, 3) := by decide +kernel
theorem dX3_remove_42 : decode cX3_remove 42 = .ok (.ifCond .ne 4, 3) := by decide +kernel
theorem dX3_remove_45 : decode cX3_remove 45 = .ok (.return_, 1) := by decide +kernel
theorem dX3_remove_46 : decode cX3_remove 46 = .ok (.aload_n 0, 1) := by decide +kernel
theorem dX3_remove_47 : decode cX3_remove 47 = .ok (.getfield 18, 3) := by decide +kernel
theorem dX3_remove_50 : decode cX3_remove 50 = .ok (.iload_n 2, 1) := by decide +kernel
theorem dX3_remove_51 : decode cX3_remove 51 = .ok (.dup2, 1) := by decide +kernel
theorem dX3_remove_52 : decode cX3_remove 52 = .ok (.laload, 1) := by decide +kernel
theorem dX3_remove_53 : decode cX3_remove 53 = .ok (.iload_n 1, 1) := by decide +kernel
theorem dX3_remove_54 : decode cX3_remove 54 = .ok (.i2l, 1) := by decide +kernel
theorem dX3_remove_55 : decode cX3_remove 55 = .ok (.aload_n 0, 1) := by decide +kernel
theorem dX3_remove_56 : decode cX3_remove 56 = .ok (.getfield 18, 3) := by decide +kernel
theorem dX3_remove_59 : decode cX3_remove 59 = .ok (.iload_n 3, 1) := by decide +kernel
theorem dX3_remove_60 : decode cX3_remove 60 = .ok (.laload, 1) := by decide +kernel
theorem dX3_remove_61 : decode cX3_remove 61 = .ok (.lmul, 1) := by decide +kernel
theorem dX3_remove_62 : decode cX3_remove 62 = .ok (.lsub, 1) := by decide +kernel
theorem dX3_remove_63 : decode cX3_remove 63 = .ok (.lastore, 1) := by decide +kernel
theorem dX3_remove_64 : decode cX3_remove 64 = .ok (.iconst 0, 1) := by decide +kernel
theorem dX3_remove_65 : decode cX3_remove 65 = .ok (.istore 4, 2) := by decide +kernel
theorem dX3_remove_67 : decode cX3_remove 67 = .ok (.iload 4, 2) := by decide +kernel
theorem dX3_remove_69 : decode cX3_remove 69 = .ok (.iconst 4, 1) := by decide +kernel
theorem dX3_remove_70 : decode cX3_remove 70 = .ok (.if_icmp .ge 38, 3) := by decide +kernel
theorem dX3_remove_73 : decode cX3_remove 73 = .ok (.aload_n 0, 1) := by decide +kernel
theorem dX3_remove_74 : decode cX3_remove 74 = .ok (.getfield 15, 3) := by decide +kernel
theorem dX3_remove_77 : decode cX3_remove 77 = .ok (.iconst 4, 1) := by decide +kernel
theorem dX3_remove_78 : decode cX3_remove 78 = .ok (.iload_n 2, 1) := by decide +kernel
theorem dX3_remove_79 : decode cX3_remove 79 = .ok (.imul, 1) := by decide +kernel
theorem dX3_remove_80 : decode cX3_remove 80 = .ok (.iload_n 1, 1) := by decide +kernel
theorem dX3_remove_81 : decode cX3_remove 81 = .ok (.iload 4, 2) := by decide +kernel
theorem dX3_remove_83 : decode cX3_remove 83 = .ok (.imul, 1) := by decide +kernel
theorem dX3_remove_84 : decode cX3_remove 84 = .ok (.iconst 3, 1) := by decide +kernel
theorem dX3_remove_85 : decode cX3_remove 85 = .ok (.iand, 1) := by decide +kernel
theorem dX3_remove_86 : decode cX3_remove 86 = .ok (.iadd, 1) := by decide +kernel
theorem dX3_remove_87 : decode cX3_remove 87 = .ok (.dup2, 1) := by decide +kernel
theorem dX3_remove_88 : decode cX3_remove 88 = .ok (.iaload, 1) := by decide +kernel
theorem dX3_remove_89 : decode cX3_remove 89 = .ok (.aload_n 0, 1) := by decide +kernel
theorem dX3_remove_90 : decode cX3_remove 90 = .ok (.getfield 15, 3) := by decide +kernel
theorem dX3_remove_93 : decode cX3_remove 93 = .ok (.iconst 4, 1) := by decide +kernel
theorem dX3_remove_94 : decode cX3_remove 94 = .ok (.iload_n 3, 1) := by decide +kernel
theorem dX3_remove_95 : decode cX3_remove 95 = .ok (.imul, 1) := by decide +kernel
theorem dX3_remove_96 : decode cX3_remove 96 = .ok (.iload 4, 2) := by decide +kernel
theorem dX3_remove_98 : decode cX3_remove 98 = .ok (.iadd, 1) := by decide +kernel
theorem dX3_remove_99 : decode cX3_remove 99 = .ok (.iaload, 1) := by decide +kernel
theorem dX3_remove_100 : decode cX3_remove 100 = .ok (.isub, 1) := by decide +kernel
theorem dX3_remove_101 : decode cX3_remove 101 = .ok (.iastore, 1) := by decide +kernel
theorem dX3_remove_102 : decode cX3_remove 102 = .ok (.iinc 4 1, 3) := by decide +kernel
theorem dX3_remove_105 : decode cX3_remove 105 = .ok (.goto (-38), 3) := by decide +kernel
theorem dX3_remove_108 : decode cX3_remove 108 = .ok (.iinc 2 1, 3) := by decide +kernel
theorem dX3_remove_111 : decode cX3_remove 111 = .ok (.goto (-103), 3) := by decide +kernel
theorem dX3_remove_114 : decode cX3_remove 114 = .ok (.return_, 1) := by decide +kernel
theorem dX4_init_0 : decode cX4_init 0 = .ok (.aload_n 0, 1) := by decide +kernel
theorem dX4_init_1 : decode cX4_init 1 = .ok (.invokespecial 3, 3) := by decide +kernel
theorem dX4_init_4 : decode cX4_init 4 = .ok (.aload_n 0, 1) := by decide +kernel
theorem dX4_init_5 : decode cX4_init 5 = .ok (.bipush 60, 2) := by decide +kernel
theorem dX4_init_7 : decode cX4_init 7 = .ok (.newarray .char, 2) := by decide +kernel
theorem dX4_init_9 : decode cX4_init 9 = .ok (.putfield 9, 3) := by decide +kernel
theorem dX4_init_12 : decode cX4_init 12 = .ok (.return_, 1) := by decide +kernel
set_option maxRecDepth 20000 in
theorem ggX6_init_X4_init : GoodIn wsX6_init wsX4_init := goodIn_r _ [22, 23, 2, 3, 24, 25, 68, 69, 70, 71, 72, 73, 74] (by decide +kernel) (by decide +kernel)
set_option maxRecDepth 20000 in
theorem gX6_init_X4_init_n9 : GoodIn wsX6_init (wsX4_init) := ggX6_init_X4_init
set_option maxRecDepth 20000 in
theorem ggX6_init_X0_init : GoodIn wsX6_init wsX0_init := goodIn_r _ [28, 29, 2, 3, 30, 31, 32, 33, 34, 35, 36, 37, 38, 39, 40, 41, 42, 43, 44, 10, 45, 46, 47, 48, 49, 50, 51, 52, 53, 91, 92, 93, 94, 95, 80, 81, 82, 83, 84] (by decide +kernel) (by decide +kernel)
set_option maxRecDepth 20000 in
theorem gX6_init_X0_init : GoodIn wsX6_init (wsX0_init) := ggX6_init_X0_init
set_option maxRecDepth 20000 in
theorem ggX6_init_X2_init : GoodIn wsX6_init wsX2_init := goodIn_r _ [55, 56, 2, 3, 37, 57, 58, 40, 59, 85, 86, 87, 88, 89] (by decide +kernel) (by decide +kernel)
set_option maxRecDepth 20000 in
theorem gX6_init_X2_init_n25 : GoodIn wsX6_init (wsX2_init) := ggX6_init_X2_init
set_option maxRecDepth 20000 in
theorem ggX6_init_X1_init : GoodIn wsX6_init wsX1_init := goodIn_r _ [62, 63, 2, 3, 40, 64, 65, 66, 67, 90] (by decide +kernel) (by decide +kernel)
set_option maxRecDepth 20000 in
theorem gX6_init_X1_init : GoodIn wsX6_init (wsX1_init) := ggX6_init_X1_init
theorem dX6_init_0 : decode cX6_init 0 = .ok (.aload_n 0, 1) := by decide +kernel
theorem dX6_init_1 : decode cX6_init 1 = .ok (.invokespecial 1, 3) := by decide +kernel
theorem dX6_init_4 : decode cX6_init 4 = .ok (.aload_n 0, 1) := by decide +kernel
theorem dX6_init_5 : decode cX6_init 5 = .ok (.new 7, 3) := by decide +kernel
theorem dX6_init_8 : decode cX6_init 8 = .ok (.dup, 1) := by decide +kernel
theorem dX6_init_9 : decode cX6_init 9 = .ok (.invokespecial 9, 3) := by decide +kernel
theorem dX6_init_12 : decode cX6_init 12 = .ok (.putfield 10, 3) := by decide +kernel
theorem dX6_init_15 : decode cX6_init 15 = .ok (.aload_n 0, 1) := by decide +kernel
theorem dX6_init_16 : decode cX6_init 16 = .ok (.new 16, 3) := by decide +kernel
theorem dX6_init_19 : decode cX6_init 19 = .ok (.dup, 1) := by decide +kernel
theorem dX6_init_20 : decode cX6_init 20 = .ok (.invokespecial 18, 3) := by decide +kernel
theorem dX6_init_23 : decode cX6_init 23 = .ok (.putfield 19, 3) := by decide +kernel
theorem dX6_init_26 : decode cX6_init 26 = .ok (.aload_n 0, 1) := by decide +kernel
theorem dX6_init_27 : decode cX6_init 27 = .ok (.new 23, 3) := by decide +kernel
theorem dX6_init_30 : decode cX6_init 30 = .ok (.dup, 1) := by decide +kernel
theorem dX6_init_31 : decode cX6_init 31 = .ok (.invokespecial 25, 3) := by decide +kernel
theorem dX6_init_34 : decode cX6_init 34 = .ok (.putfield 26, 3) := by decide +kernel
theorem dX6_init_37 : decode cX6_init 37 = .ok (.aload_n 0, 1) := by decide +kernel
theorem dX6_init_38 : decode cX6_init 38 = .ok (.new 30, 3) := by decide +kernel
theorem dX6_init_41 : decode cX6_init 41 = .ok (.dup, 1) := by decide +kernel
theorem dX6_init_42 : decode cX6_init 42 = .ok (.invokespecial 32, 3) := by decide +kernel
theorem dX6_init_45 : decode cX6_init 45 = .ok (.putfield 33, 3) := by decide +kernel
theorem dX6_init_48 : decode cX6_init 48 = .ok (.aload_n 0, 1) := by decide +kernel
theorem dX6_init_49 : decode cX6_init 49 = .ok (.new 16, 3) := by decide +kernel
theorem dX6_init_52 : decode cX6_init 52 = .ok (.dup, 1) := by decide +kernel
theorem dX6_init_53 : decode cX6_init 53 = .ok (.invokespecial 18, 3) := by decide +kernel
theorem dX6_init_56 : decode cX6_init 56 = .ok (.putfield 37, 3) := by decide +kernel
theorem dX6_init_59 : decode cX6_init 59 = .ok (.return_, 1) := by decide +kernel
set_option maxRecDepth 20000 in
theorem ggX6_about_X0_tally : GoodIn wsX6_about wsX0_tally := goodIn_r _ [8, 9, 10, 11, 12, 13, 14, 15, 16, 17, 18, 19, 20, 21, 22, 23, 24, 25, 26, 27, 28, 29, 30, 31, 32, 33, 34, 35, 36, 37, 38, 7, 39, 40, 41, 42, 43, 44, 45, 46, 47, 48, 49, 50, 51, 52, 53, 54, 55, 56, 90, 91, 92, 93, 94, 95, 96, 97, 98, 99] (by decide +kernel) (by decide +kernel)
set_option maxRecDepth 20000 in
theorem gX6_about_X0_tally : GoodIn wsX6_about (wsV RX6 119 RX0 yX0_tally wsX0_tally) := goodIn_app (goodIn_of _ (by decide +kernel)) ggX6_about_X0_tally
set_option maxRecDepth 20000 in
theorem ggX6_about_J13_bitCount_95d88 : GoodIn wsX6_about wsJ13_bitCount_95d88 := goodIn_r _ [60, 61, 62, 63] (by decide +kernel) (by decide +kernel)
set_option maxRecDepth 20000 in
theorem gX6_about_J13_bitCount_95d88 : GoodIn wsX6_about (va_wsS RX6 132 yJ13_bitCount_95d88 wsJ13_bitCount_95d88) := goodIn_app (goodIn_of _ (by decide +kernel)) ggX6_about_J13_bitCount_95d88
set_option maxRecDepth 20000 in
theorem ggX6_about_X0_countLeft : GoodIn wsX6_about wsX0_countLeft := goodIn_r _ [67, 68, 5, 6, 7, 8, 9, 10, 11, 12, 13, 14, 15, 16, 17, 18, 19, 20, 21, 22, 23, 24, 25, 26, 27, 28, 29, 30, 31, 32, 33, 34, 35, 36, 37, 38, 39, 40, 41, 42, 43, 44, 45, 46, 47, 48, 49, 50, 51, 52, 53, 54, 55, 56, 69, 70, 71, 72, 73, 74, 75, 76, 77, 78, 79, 90, 91, 92, 93, 94, 95, 96, 97, 98, 99] (by decide +kernel) (by decide +kernel)
set_option maxRecDepth 20000 in
theorem gX6_about_X0_countLeft : GoodIn wsX6_about (wsV RX6 141 RX0 yX0_countLeft wsX0_countLeft) := goodIn_app (goodIn_of _ (by decide +kernel)) ggX6_about_X0_countLeft
set_option maxRecDepth 20000 in
theorem ggX6_about_X0_nextPrime : GoodIn wsX6_about wsX0_nextPrime := goodIn_r _ [83, 12, 11, 41, 42, 43, 7, 44, 90, 91, 92, 93, 94] (by decide +kernel) (by decide +kernel)
set_option maxRecDepth 20000 in
theorem gX6_about_X0_nextPrime : GoodIn wsX6_about (wsV RX6 144 RX0 yX0_nextPrime wsX0_nextPrime) := goodIn_app (goodIn_of _ (by decide +kernel)) ggX6_about_X0_nextPrime
set_option maxRecDepth 20000 in
theorem ggX6_about_X0_primeAt : GoodIn wsX6_about wsX0_primeAt := goodIn_r _ [44] (by decide +kernel) (by decide +kernel)
set_option maxRecDepth 20000 in
theorem gX6_about_X0_primeAt : GoodIn wsX6_about (wsV RX6 147 RX0 yX0_primeAt wsX0_primeAt) := goodIn_app (goodIn_of _ (by decide +kernel)) ggX6_about_X0_primeAt
theorem dX6_about_0 : decode cX6_about 0 = .ok (.iload_n 1, 1) := by decide +kernel
theorem dX6_about_1 : decode cX6_about 1 = .ok (.tableswitch 125 0 6 #[43, 51, 62, 73, 92, 100, 108], 43) := by decide +kernel
theorem dX6_about_44 : decode cX6_about 44 = .ok (.aload_n 0, 1) := by decide +kernel
theorem dX6_about_45 : decode cX6_about 45 = .ok (.getfield 19, 3) := by decide +kernel
theorem dX6_about_48 : decode cX6_about 48 = .ok (.getfield 103, 3) := by decide +kernel
theorem dX6_about_51 : decode cX6_about 51 = .ok (.ireturn, 1) := by decide +kernel
theorem dX6_about_52 : decode cX6_about 52 = .ok (.aload_n 0, 1) := by decide +kernel
theorem dX6_about_53 : decode cX6_about 53 = .ok (.getfield 19, 3) := by decide +kernel
theorem dX6_about_56 : decode cX6_about 56 = .ok (.invokevirtual 119, 3) := by decide +kernel
theorem dX6_about_59 : decode cX6_about 59 = .ok (.getfield 123, 3) := by decide +kernel
theorem dX6_about_62 : decode cX6_about 62 = .ok (.ireturn, 1) := by decide +kernel
theorem dX6_about_63 : decode cX6_about 63 = .ok (.aload_n 0, 1) := by decide +kernel
theorem dX6_about_64 : decode cX6_about 64 = .ok (.getfield 19, 3) := by decide +kernel
theorem dX6_about_67 : decode cX6_about 67 = .ok (.getfield 128, 3) := by decide +kernel
theorem dX6_about_70 : decode cX6_about 70 = .ok (.invokestatic 132, 3) := by decide +kernel
theorem dX6_about_73 : decode cX6_about 73 = .ok (.ireturn, 1) := by decide +kernel
theorem dX6_about_74 : decode cX6_about 74 = .ok (.aload_n 0, 1) := by decide +kernel
theorem dX6_about_75 : decode cX6_about 75 = .ok (.getfield 19, 3) := by decide +kernel
theorem dX6_about_78 : decode cX6_about 78 = .ok (.getfield 138, 3) := by decide +kernel
theorem dX6_about_81 : decode cX6_about 81 = .ok (.aload_n 0, 1) := by decide +kernel
theorem dX6_about_82 : decode cX6_about 82 = .ok (.getfield 19, 3) := by decide +kernel
theorem dX6_about_85 : decode cX6_about 85 = .ok (.getfield 128, 3) := by decide +kernel
theorem dX6_about_88 : decode cX6_about 88 = .ok (.invokestatic 132, 3) := by decide +kernel
theorem dX6_about_91 : decode cX6_about 91 = .ok (.isub, 1) := by decide +kernel
theorem dX6_about_92 : decode cX6_about 92 = .ok (.ireturn, 1) := by decide +kernel
theorem dX6_about_93 : decode cX6_about 93 = .ok (.aload_n 0, 1) := by decide +kernel
theorem dX6_about_94 : decode cX6_about 94 = .ok (.getfield 19, 3) := by decide +kernel
theorem dX6_about_97 : decode cX6_about 97 = .ok (.invokevirtual 141, 3) := by decide +kernel
theorem dX6_about_100 : decode cX6_about 100 = .ok (.ireturn, 1) := by decide +kernel
theorem dX6_about_101 : decode cX6_about 101 = .ok (.aload_n 0, 1) := by decide +kernel
theorem dX6_about_102 : decode cX6_about 102 = .ok (.getfield 19, 3) := by decide +kernel
theorem dX6_about_105 : decode cX6_about 105 = .ok (.invokevirtual 144, 3) := by decide +kernel
theorem dX6_about_108 : decode cX6_about 108 = .ok (.ireturn, 1) := by decide +kernel
theorem dX6_about_109 : decode cX6_about 109 = .ok (.aload_n 0, 1) := by decide +kernel
theorem dX6_about_110 : decode cX6_about 110 = .ok (.getfield 19, 3) := by decide +kernel
theorem dX6_about_113 : decode cX6_about 113 = .ok (.aload_n 0, 1) := by decide +kernel
theorem dX6_about_114 : decode cX6_about 114 = .ok (.getfield 19, 3) := by decide +kernel
theorem dX6_about_117 : decode cX6_about 117 = .ok (.getfield 138, 3) := by decide +kernel
theorem dX6_about_120 : decode cX6_about 120 = .ok (.iconst 1, 1) := by decide +kernel
theorem dX6_about_121 : decode cX6_about 121 = .ok (.isub, 1) := by decide +kernel
theorem dX6_about_122 : decode cX6_about 122 = .ok (.invokevirtual 147, 3) := by decide +kernel
theorem dX6_about_125 : decode cX6_about 125 = .ok (.ireturn, 1) := by decide +kernel
theorem dX6_about_126 : decode cX6_about 126 = .ok (.new 44, 3) := by decide +kernel
theorem dX6_about_129 : decode cX6_about 129 = .ok (.dup, 1) := by decide +kernel
theorem dX6_about_130 : decode cX6_about 130 = .ok (.ldc 151, 2) := by decide +kernel
theorem dX6_about_132 : decode cX6_about 132 = .ok (.invokespecial 48, 3) := by decide +kernel
theorem dX6_about_135 : decode cX6_about 135 = .ok (.athrow, 1) := by decide +kernel
set_option maxRecDepth 20000 in
theorem ggX6_quotient_X6_checkQuotient : GoodIn wsX6_quotient wsX6_checkQuotient := goodIn_ca (goodIn_r _ [6, 7, 8, 1, 9, 10, 11, 12, 13, 14, 15, 16, 17, 18, 19, 20, 21, 22, 23, 24, 25, 26, 27, 28, 29, 30, 31, 32, 33, 34, 35, 36, 37, 38, 39, 40, 41, 42, 43, 44, 45, 46, 47, 48, 49, 50, 51, 52, 53, 54, 55, 56, 57, 58, 59, 60, 61, 63, 64, 65, 66, 67, 68, 69, 70, 71, 72, 73, 74, 75, 76, 77] (by decide +kernel) (by decide +kernel)) (goodIn_sub (fun _ h => List.mem_cons_of_mem _ (List.mem_append_right _ h)) (by decide +kernel))
set_option maxRecDepth 20000 in
theorem gX6_quotient_X6_checkQuotient : GoodIn wsX6_quotient (wsV RX6 153 RX6 yX6_checkQuotient wsX6_checkQuotient) := goodIn_app (goodIn_of _ (by decide +kernel)) ggX6_quotient_X6_checkQuotient
set_option maxRecDepth 20000 in
theorem ggX6_quotient_X0_tally : GoodIn wsX6_quotient wsX0_tally := goodIn_r _ [13, 14, 15, 16, 17, 18, 19, 20, 21, 22, 23, 24, 25, 26, 27, 28, 29, 30, 31, 32, 33, 34, 35, 36, 37, 38, 39, 40, 41, 42, 43, 12, 44, 45, 46, 47, 48, 49, 50, 51, 52, 53, 54, 55, 56, 57, 58, 59, 60, 61, 73, 74, 75, 76, 77, 68, 69, 70, 71, 72] (by decide +kernel) (by decide +kernel)
set_option maxRecDepth 20000 in
theorem gX6_quotient_X0_tally : GoodIn wsX6_quotient (wsV RX6 119 RX0 yX0_tally wsX0_tally) := goodIn_app (goodIn_of _ (by decide +kernel)) ggX6_quotient_X0_tally
set_option maxRecDepth 20000 in
theorem ggX6_quotient_X3_valueAt : GoodIn wsX6_quotient wsX3_valueAt := goodIn_r _ [57, 33, 37, 38, 39, 21, 40, 24, 68, 69, 70, 71, 72] (by decide +kernel) (by decide +kernel)
set_option maxRecDepth 20000 in
theorem gX6_quotient_X3_valueAt : GoodIn wsX6_quotient (wsV RX6 156 RX3 yX3_valueAt wsX3_valueAt) := goodIn_app (goodIn_of _ (by decide +kernel)) ggX6_quotient_X3_valueAt
theorem dX6_quotient_0 : decode cX6_quotient 0 = .ok (.aload_n 0, 1) := by decide +kernel
theorem dX6_quotient_1 : decode cX6_quotient 1 = .ok (.iload_n 1, 1) := by decide +kernel
theorem dX6_quotient_2 : decode cX6_quotient 2 = .ok (.invokevirtual 153, 3) := by decide +kernel
theorem dX6_quotient_5 : decode cX6_quotient 5 = .ok (.aload_n 0, 1) := by decide +kernel
theorem dX6_quotient_6 : decode cX6_quotient 6 = .ok (.getfield 19, 3) := by decide +kernel
theorem dX6_quotient_9 : decode cX6_quotient 9 = .ok (.invokevirtual 119, 3) := by decide +kernel
theorem dX6_quotient_12 : decode cX6_quotient 12 = .ok (.iload_n 1, 1) := by decide +kernel
theorem dX6_quotient_13 : decode cX6_quotient 13 = .ok (.invokevirtual 156, 3) := by decide +kernel
theorem dX6_quotient_16 : decode cX6_quotient 16 = .ok (.ireturn, 1) := by decide +kernel
set_option maxRecDepth 20000 in
theorem ggX6_quotientOf_X0_tally : GoodIn wsX6_quotientOf wsX0_tally := goodIn_r _ [6, 7, 8, 9, 10, 11, 12, 13, 14, 15, 16, 17, 18, 19, 20, 21, 22, 23, 24, 25, 26, 27, 28, 29, 30, 31, 32, 33, 34, 35, 36, 5, 37, 38, 39, 40, 41, 42, 43, 44, 45, 46, 47, 48, 49, 50, 51, 52, 53, 54, 61, 62, 63, 64, 65, 66, 67, 68, 69, 70] (by decide +kernel) (by decide +kernel)
set_option maxRecDepth 20000 in
theorem gX6_quotientOf_X0_tally : GoodIn wsX6_quotientOf (wsV RX6 119 RX0 yX0_tally wsX0_tally) := goodIn_app (goodIn_of _ (by decide +kernel)) ggX6_quotientOf_X0_tally
set_option maxRecDepth 20000 in
theorem ggX6_quotientOf_X3_placeOf : GoodIn wsX6_quotientOf wsX3_placeOf := goodIn_r _ [54, 16, 17, 66, 67, 68, 69, 70] (by decide +kernel) (by decide +kernel)
set_option maxRecDepth 20000 in
theorem gX6_quotientOf_X3_placeOf : GoodIn wsX6_quotientOf (wsV RX6 159 RX3 yX3_placeOf wsX3_placeOf) := goodIn_app (goodIn_of _ (by decide +kernel)) ggX6_quotientOf_X3_placeOf
theorem dX6_quotientOf_0 : decode cX6_quotientOf 0 = .ok (.aload_n 0, 1) := by decide +kernel
theorem dX6_quotientOf_1 : decode cX6_quotientOf 1 = .ok (.getfield 19, 3) := by decide +kernel
theorem dX6_quotientOf_4 : decode cX6_quotientOf 4 = .ok (.invokevirtual 119, 3) := by decide +kernel
theorem dX6_quotientOf_7 : decode cX6_quotientOf 7 = .ok (.iload_n 1, 1) := by decide +kernel
theorem dX6_quotientOf_8 : decode cX6_quotientOf 8 = .ok (.invokevirtual 159, 3) := by decide +kernel
theorem dX6_quotientOf_11 : decode cX6_quotientOf 11 = .ok (.ireturn, 1) := by decide +kernel
set_option maxRecDepth 20000 in
theorem ggX6_left_X6_checkQuotient : GoodIn wsX6_left wsX6_checkQuotient := goodIn_ca (goodIn_r _ [6, 7, 8, 1, 9, 10, 11, 12, 13, 14, 15, 16, 17, 18, 19, 20, 21, 22, 23, 24, 25, 26, 27, 28, 29, 30, 31, 32, 33, 34, 35, 36, 37, 38, 39, 40, 41, 42, 43, 44, 45, 46, 47, 48, 49, 50, 51, 52, 53, 54, 55, 56, 57, 58, 59, 60, 61, 72, 73, 74, 75, 76, 77, 78, 79, 80, 81, 82, 83, 84, 85, 86] (by decide +kernel) (by decide +kernel)) (goodIn_sub (fun _ h => List.mem_cons_of_mem _ (List.mem_append_right _ h)) (by decide +kernel))
set_option maxRecDepth 20000 in
theorem gX6_left_X6_checkQuotient : GoodIn wsX6_left (wsV RX6 153 RX6 yX6_checkQuotient wsX6_checkQuotient) := goodIn_app (goodIn_of _ (by decide +kernel)) ggX6_left_X6_checkQuotient
set_option maxRecDepth 20000 in
theorem ggX6_left_X0_tally : GoodIn wsX6_left wsX0_tally := goodIn_r _ [13, 14, 15, 16, 17, 18, 19, 20, 21, 22, 23, 24, 25, 26, 27, 28, 29, 30, 31, 32, 33, 34, 35, 36, 37, 38, 39, 40, 41, 42, 43, 12, 44, 45, 46, 47, 48, 49, 50, 51, 52, 53, 54, 55, 56, 57, 58, 59, 60, 61, 82, 83, 84, 85, 86, 77, 78, 79, 80, 81] (by decide +kernel) (by decide +kernel)
set_option maxRecDepth 20000 in
theorem gX6_left_X0_tally : GoodIn wsX6_left (wsV RX6 119 RX0 yX0_tally wsX0_tally) := goodIn_app (goodIn_of _ (by decide +kernel)) ggX6_left_X0_tally
set_option maxRecDepth 20000 in
theorem ggX6_left_X3_countAt : GoodIn wsX6_left wsX3_countAt := goodIn_r _ [65, 66, 67, 68, 21, 69, 36, 37, 38, 39, 40, 24, 70, 5, 71, 77, 78, 79, 80, 81] (by decide +kernel) (by decide +kernel)
set_option maxRecDepth 20000 in
theorem gX6_left_X3_countAt : GoodIn wsX6_left (wsV RX6 162 RX3 yX3_countAt wsX3_countAt) := goodIn_app (goodIn_of _ (by decide +kernel)) ggX6_left_X3_countAt
theorem dX6_left_0 : decode cX6_left 0 = .ok (.aload_n 0, 1) := by decide +kernel
theorem dX6_left_1 : decode cX6_left 1 = .ok (.iload_n 1, 1) := by decide +kernel
theorem dX6_left_2 : decode cX6_left 2 = .ok (.invokevirtual 153, 3) := by decide +kernel
theorem dX6_left_5 : decode cX6_left 5 = .ok (.aload_n 0, 1) := by decide +kernel
theorem dX6_left_6 : decode cX6_left 6 = .ok (.getfield 19, 3) := by decide +kernel
theorem dX6_left_9 : decode cX6_left 9 = .ok (.invokevirtual 119, 3) := by decide +kernel
theorem dX6_left_12 : decode cX6_left 12 = .ok (.iload_n 1, 1) := by decide +kernel
theorem dX6_left_13 : decode cX6_left 13 = .ok (.invokevirtual 162, 3) := by decide +kernel
theorem dX6_left_16 : decode cX6_left 16 = .ok (.ireturn, 1) := by decide +kernel
set_option maxRecDepth 20000 in
theorem ggX6_sumLeft_X6_checkQuotient : GoodIn wsX6_sumLeft wsX6_checkQuotient := goodIn_ca (goodIn_r _ [6, 7, 8, 1, 9, 10, 11, 12, 13, 14, 15, 16, 17, 18, 19, 20, 21, 22, 23, 24, 25, 26, 27, 28, 29, 30, 31, 32, 33, 34, 35, 36, 37, 38, 39, 40, 41, 42, 43, 44, 45, 46, 47, 48, 49, 50, 51, 52, 53, 54, 55, 56, 57, 58, 59, 60, 61, 66, 67, 68, 69, 70, 71, 72, 73, 74, 75, 76, 77, 78, 79, 80] (by decide +kernel) (by decide +kernel)) (goodIn_sub (fun _ h => List.mem_cons_of_mem _ (List.mem_append_right _ h)) (by decide +kernel))
set_option maxRecDepth 20000 in
theorem gX6_sumLeft_X6_checkQuotient : GoodIn wsX6_sumLeft (wsV RX6 153 RX6 yX6_checkQuotient wsX6_checkQuotient) := goodIn_app (goodIn_of _ (by decide +kernel)) ggX6_sumLeft_X6_checkQuotient
set_option maxRecDepth 20000 in
theorem ggX6_sumLeft_X0_tally : GoodIn wsX6_sumLeft wsX0_tally := goodIn_r _ [13, 14, 15, 16, 17, 18, 19, 20, 21, 22, 23, 24, 25, 26, 27, 28, 29, 30, 31, 32, 33, 34, 35, 36, 37, 38, 39, 40, 41, 42, 43, 12, 44, 45, 46, 47, 48, 49, 50, 51, 52, 53, 54, 55, 56, 57, 58, 59, 60, 61, 76, 77, 78, 79, 80, 71, 72, 73, 74, 75] (by decide +kernel) (by decide +kernel)
set_option maxRecDepth 20000 in
theorem gX6_sumLeft_X0_tally : GoodIn wsX6_sumLeft (wsV RX6 119 RX0 yX0_tally wsX0_tally) := goodIn_app (goodIn_of _ (by decide +kernel)) ggX6_sumLeft_X0_tally
set_option maxRecDepth 20000 in
theorem ggX6_sumLeft_X3_sumAt : GoodIn wsX6_sumLeft wsX3_sumAt := goodIn_r _ [65, 34, 37, 38, 39, 21, 40, 24, 71, 72, 73, 74, 75] (by decide +kernel) (by decide +kernel)
set_option maxRecDepth 20000 in
theorem gX6_sumLeft_X3_sumAt : GoodIn wsX6_sumLeft (wsV RX6 165 RX3 yX3_sumAt wsX3_sumAt) := goodIn_app (goodIn_of _ (by decide +kernel)) ggX6_sumLeft_X3_sumAt
theorem dX6_sumLeft_0 : decode cX6_sumLeft 0 = .ok (.aload_n 0, 1) := by decide +kernel
theorem dX6_sumLeft_1 : decode cX6_sumLeft 1 = .ok (.iload_n 1, 1) := by decide +kernel
theorem dX6_sumLeft_2 : decode cX6_sumLeft 2 = .ok (.invokevirtual 153, 3) := by decide +kernel
theorem dX6_sumLeft_5 : decode cX6_sumLeft 5 = .ok (.aload_n 0, 1) := by decide +kernel
theorem dX6_sumLeft_6 : decode cX6_sumLeft 6 = .ok (.getfield 19, 3) := by decide +kernel
theorem dX6_sumLeft_9 : decode cX6_sumLeft 9 = .ok (.invokevirtual 119, 3) := by decide +kernel
theorem dX6_sumLeft_12 : decode cX6_sumLeft 12 = .ok (.iload_n 1, 1) := by decide +kernel
theorem dX6_sumLeft_13 : decode cX6_sumLeft 13 = .ok (.invokevirtual 165, 3) := by decide +kernel
theorem dX6_sumLeft_16 : decode cX6_sumLeft 16 = .ok (.lreturn, 1) := by decide +kernel
set_option maxRecDepth 20000 in
theorem ggX6_restLeft_X6_checkQuotient : GoodIn wsX6_restLeft wsX6_checkQuotient := goodIn_ca (goodIn_r _ [8, 9, 10, 3, 11, 12, 13, 14, 15, 16, 17, 18, 19, 20, 21, 22, 23, 24, 25, 26, 27, 28, 29, 30, 31, 32, 33, 34, 35, 36, 37, 38, 39, 40, 41, 42, 43, 44, 45, 46, 47, 48, 49, 50, 51, 52, 53, 54, 55, 56, 57, 58, 59, 60, 61, 62, 63, 71, 72, 73, 74, 75, 76, 77, 78, 79, 80, 81, 82, 83, 84, 85] (by decide +kernel) (by decide +kernel)) (goodIn_sub (fun _ h => List.mem_cons_of_mem _ (List.mem_append_right _ h)) (by decide +kernel))
set_option maxRecDepth 20000 in
theorem gX6_restLeft_X6_checkQuotient : GoodIn wsX6_restLeft (wsV RX6 153 RX6 yX6_checkQuotient wsX6_checkQuotient) := goodIn_app (goodIn_of _ (by decide +kernel)) ggX6_restLeft_X6_checkQuotient
set_option maxRecDepth 20000 in
theorem ggX6_restLeft_X6_outside : GoodIn wsX6_restLeft wsX6_outside := goodIn_r _ [66] (by decide +kernel) (by decide +kernel)
set_option maxRecDepth 20000 in
theorem gX6_restLeft_X6_outside : GoodIn wsX6_restLeft (va_wsS RX6 40 yX6_outside wsX6_outside) := goodIn_app (goodIn_of _ (by decide +kernel)) ggX6_restLeft_X6_outside
set_option maxRecDepth 20000 in
theorem ggX6_restLeft_X0_tally : GoodIn wsX6_restLeft wsX0_tally := goodIn_r _ [15, 16, 17, 18, 19, 20, 21, 22, 23, 24, 25, 26, 27, 28, 29, 30, 31, 32, 33, 34, 35, 36, 37, 38, 39, 40, 41, 42, 43, 44, 45, 14, 46, 47, 48, 49, 50, 51, 52, 53, 54, 55, 56, 57, 58, 59, 60, 61, 62, 63, 81, 82, 83, 84, 85, 76, 77, 78, 79, 80] (by decide +kernel) (by decide +kernel)
set_option maxRecDepth 20000 in
theorem gX6_restLeft_X0_tally : GoodIn wsX6_restLeft (wsV RX6 119 RX0 yX0_tally wsX0_tally) := goodIn_app (goodIn_of _ (by decide +kernel)) ggX6_restLeft_X0_tally
set_option maxRecDepth 20000 in
theorem ggX6_restLeft_X3_restAt : GoodIn wsX6_restLeft wsX3_restAt := goodIn_r _ [70, 38, 39, 40, 41, 23, 42, 26, 65, 7, 66, 76, 77, 78, 79, 80] (by decide +kernel) (by decide +kernel)
set_option maxRecDepth 20000 in
theorem gX6_restLeft_X3_restAt : GoodIn wsX6_restLeft (wsV RX6 171 RX3 yX3_restAt wsX3_restAt) := goodIn_app (goodIn_of _ (by decide +kernel)) ggX6_restLeft_X3_restAt
theorem dX6_restLeft_0 : decode cX6_restLeft 0 = .ok (.aload_n 0, 1) := by decide +kernel
theorem dX6_restLeft_1 : decode cX6_restLeft 1 = .ok (.iload_n 1, 1) := by decide +kernel
theorem dX6_restLeft_2 : decode cX6_restLeft 2 = .ok (.invokevirtual 153, 3) := by decide +kernel
theorem dX6_restLeft_5 : decode cX6_restLeft 5 = .ok (.iload_n 2, 1) := by decide +kernel
theorem dX6_restLeft_6 : decode cX6_restLeft 6 = .ok (.iconst 0, 1) := by decide +kernel
theorem dX6_restLeft_7 : decode cX6_restLeft 7 = .ok (.iconst 3, 1) := by decide +kernel
theorem dX6_restLeft_8 : decode cX6_restLeft 8 = .ok (.invokestatic 40, 3) := by decide +kernel
theorem dX6_restLeft_11 : decode cX6_restLeft 11 = .ok (.ifCond .eq 13, 3) := by decide +kernel
theorem dX6_restLeft_14 : decode cX6_restLeft 14 = .ok (.new 44, 3) := by decide +kernel
theorem dX6_restLeft_17 : decode cX6_restLeft 17 = .ok (.dup, 1) := by decide +kernel
theorem dX6_restLeft_18 : decode cX6_restLeft 18 = .ok (.ldc 169, 2) := by decide +kernel
theorem dX6_restLeft_20 : decode cX6_restLeft 20 = .ok (.invokespecial 48, 3) := by decide +kernel
theorem dX6_restLeft_23 : decode cX6_restLeft 23 = .ok (.athrow, 1) := by decide +kernel
theorem dX6_restLeft_24 : decode cX6_restLeft 24 = .ok (.aload_n 0, 1) := by decide +kernel
theorem dX6_restLeft_25 : decode cX6_restLeft 25 = .ok (.getfield 19, 3) := by decide +kernel
theorem dX6_restLeft_28 : decode cX6_restLeft 28 = .ok (.invokevirtual 119, 3) := by decide +kernel
theorem dX6_restLeft_31 : decode cX6_restLeft 31 = .ok (.iload_n 1, 1) := by decide +kernel
theorem dX6_restLeft_32 : decode cX6_restLeft 32 = .ok (.iload_n 2, 1) := by decide +kernel
theorem dX6_restLeft_33 : decode cX6_restLeft 33 = .ok (.invokevirtual 171, 3) := by decide +kernel
theorem dX6_restLeft_36 : decode cX6_restLeft 36 = .ok (.ireturn, 1) := by decide +kernel
set_option maxRecDepth 20000 in
theorem ggX6_came_X0_primeAt : GoodIn wsX6_came wsX0_primeAt := goodIn_r _ [8] (by decide +kernel) (by decide +kernel)
set_option maxRecDepth 20000 in
theorem gX6_came_X0_primeAt : GoodIn wsX6_came (wsV RX6 147 RX0 yX0_primeAt wsX0_primeAt) := goodIn_app (goodIn_of _ (by decide +kernel)) ggX6_came_X0_primeAt
set_option maxRecDepth 20000 in
theorem ggX6_came_X0_hasStruck : GoodIn wsX6_came wsX0_hasStruck := goodIn_r _ [12, 13, 19, 20, 21, 22, 23] (by decide +kernel) (by decide +kernel)
set_option maxRecDepth 20000 in
theorem gX6_came_X0_hasStruck : GoodIn wsX6_came (wsV RX6 176 RX0 yX0_hasStruck wsX0_hasStruck) := goodIn_app (goodIn_of _ (by decide +kernel)) ggX6_came_X0_hasStruck
theorem dX6_came_0 : decode cX6_came 0 = .ok (.iload_n 1, 1) := by decide +kernel
theorem dX6_came_1 : decode cX6_came 1 = .ok (.ifCond .ge 13, 3) := by decide +kernel
theorem dX6_came_4 : decode cX6_came 4 = .ok (.new 44, 3) := by decide +kernel
theorem dX6_came_7 : decode cX6_came 7 = .ok (.dup, 1) := by decide +kernel
theorem dX6_came_8 : decode cX6_came 8 = .ok (.ldc 174, 2) := by decide +kernel
theorem dX6_came_10 : decode cX6_came 10 = .ok (.invokespecial 48, 3) := by decide +kernel
theorem dX6_came_13 : decode cX6_came 13 = .ok (.athrow, 1) := by decide +kernel
theorem dX6_came_14 : decode cX6_came 14 = .ok (.iload_n 1, 1) := by decide +kernel
theorem dX6_came_15 : decode cX6_came 15 = .ok (.aload_n 0, 1) := by decide +kernel
theorem dX6_came_16 : decode cX6_came 16 = .ok (.getfield 19, 3) := by decide +kernel
theorem dX6_came_19 : decode cX6_came 19 = .ok (.getfield 138, 3) := by decide +kernel
theorem dX6_came_22 : decode cX6_came 22 = .ok (.if_icmp .lt 5, 3) := by decide +kernel
theorem dX6_came_25 : decode cX6_came 25 = .ok (.iconst 0, 1) := by decide +kernel
theorem dX6_came_26 : decode cX6_came 26 = .ok (.ireturn, 1) := by decide +kernel
theorem dX6_came_27 : decode cX6_came 27 = .ok (.aload_n 0, 1) := by decide +kernel
theorem dX6_came_28 : decode cX6_came 28 = .ok (.getfield 19, 3) := by decide +kernel
theorem dX6_came_31 : decode cX6_came 31 = .ok (.iload_n 1, 1) := by decide +kernel
theorem dX6_came_32 : decode cX6_came 32 = .ok (.invokevirtual 147, 3) := by decide +kernel
theorem dX6_came_35 : decode cX6_came 35 = .ok (.istore_n 2, 1) := by decide +kernel
theorem dX6_came_36 : decode cX6_came 36 = .ok (.aload_n 0, 1) := by decide +kernel
theorem dX6_came_37 : decode cX6_came 37 = .ok (.getfield 19, 3) := by decide +kernel
theorem dX6_came_40 : decode cX6_came 40 = .ok (.iload_n 1, 1) := by decide +kernel
theorem dX6_came_41 : decode cX6_came 41 = .ok (.invokevirtual 176, 3) := by decide +kernel
theorem dX6_came_44 : decode cX6_came 44 = .ok (.ifCond .eq 7, 3) := by decide +kernel
theorem dX6_came_47 : decode cX6_came 47 = .ok (.iload_n 2, 1) := by decide +kernel
theorem dX6_came_48 : decode cX6_came 48 = .ok (.goto 5, 3) := by decide +kernel
theorem dX6_came_51 : decode cX6_came 51 = .ok (.iload_n 2, 1) := by decide +kernel
theorem dX6_came_52 : decode cX6_came 52 = .ok (.ineg, 1) := by decide +kernel
theorem dX6_came_53 : decode cX6_came 53 = .ok (.ireturn, 1) := by decide +kernel
set_option maxRecDepth 20000 in
theorem ggX6_bound_X6_outside : GoodIn wsX6_bound wsX6_outside := goodIn_r _ [9] (by decide +kernel) (by decide +kernel)
set_option maxRecDepth 20000 in
theorem gX6_bound_X6_outside : GoodIn wsX6_bound (va_wsS RX6 40 yX6_outside wsX6_outside) := goodIn_app (goodIn_of _ (by decide +kernel)) ggX6_bound_X6_outside
set_option maxRecDepth 20000 in
theorem ggX6_bound_X2_remember : GoodIn wsX6_bound wsX2_remember := goodIn_r _ [14, 15, 16, 17, 18, 19, 20, 21, 22, 23, 13, 24, 25, 26, 27, 7, 8, 9, 51, 52, 53, 54, 55, 46, 47, 48, 49, 50] (by decide +kernel) (by decide +kernel)
set_option maxRecDepth 20000 in
theorem gX6_bound_X2_remember : GoodIn wsX6_bound (wsV RX6 183 RX2 yX2_remember wsX2_remember) := goodIn_app (goodIn_of _ (by decide +kernel)) ggX6_bound_X2_remember
set_option maxRecDepth 20000 in
theorem ggX6_bound_X0_begin : GoodIn wsX6_bound wsX0_begin := goodIn_r _ [32, 33, 34, 35, 31, 36, 37, 38, 39, 40, 46, 47, 48, 49, 50] (by decide +kernel) (by decide +kernel)
set_option maxRecDepth 20000 in
theorem gX6_bound_X0_begin : GoodIn wsX6_bound (wsV RX6 73 RX0 yX0_begin wsX0_begin) := goodIn_app (goodIn_of _ (by decide +kernel)) ggX6_bound_X0_begin
theorem dX6_bound_0 : decode cX6_bound 0 = .ok (.iload_n 1, 1) := by decide +kernel
theorem dX6_bound_1 : decode cX6_bound 1 = .ok (.iconst 1, 1) := by decide +kernel
theorem dX6_bound_2 : decode cX6_bound 2 = .ok (.ldc 180, 2) := by decide +kernel
theorem dX6_bound_4 : decode cX6_bound 4 = .ok (.invokestatic 40, 3) := by decide +kernel
theorem dX6_bound_7 : decode cX6_bound 7 = .ok (.ifCond .eq 13, 3) := by decide +kernel
theorem dX6_bound_10 : decode cX6_bound 10 = .ok (.new 44, 3) := by decide +kernel
theorem dX6_bound_13 : decode cX6_bound 13 = .ok (.dup, 1) := by decide +kernel
theorem dX6_bound_14 : decode cX6_bound 14 = .ok (.ldc 181, 2) := by decide +kernel
theorem dX6_bound_16 : decode cX6_bound 16 = .ok (.invokespecial 48, 3) := by decide +kernel
theorem dX6_bound_19 : decode cX6_bound 19 = .ok (.athrow, 1) := by decide +kernel
theorem dX6_bound_20 : decode cX6_bound 20 = .ok (.aload_n 0, 1) := by decide +kernel
theorem dX6_bound_21 : decode cX6_bound 21 = .ok (.getfield 26, 3) := by decide +kernel
theorem dX6_bound_24 : decode cX6_bound 24 = .ok (.aload_n 0, 1) := by decide +kernel
theorem dX6_bound_25 : decode cX6_bound 25 = .ok (.getfield 19, 3) := by decide +kernel
theorem dX6_bound_28 : decode cX6_bound 28 = .ok (.invokevirtual 183, 3) := by decide +kernel
theorem dX6_bound_31 : decode cX6_bound 31 = .ok (.aload_n 0, 1) := by decide +kernel
theorem dX6_bound_32 : decode cX6_bound 32 = .ok (.getfield 19, 3) := by decide +kernel
theorem dX6_bound_35 : decode cX6_bound 35 = .ok (.getfield 103, 3) := by decide +kernel
theorem dX6_bound_38 : decode cX6_bound 38 = .ok (.istore_n 2, 1) := by decide +kernel
theorem dX6_bound_39 : decode cX6_bound 39 = .ok (.aload_n 0, 1) := by decide +kernel
theorem dX6_bound_40 : decode cX6_bound 40 = .ok (.getfield 19, 3) := by decide +kernel
theorem dX6_bound_43 : decode cX6_bound 43 = .ok (.iload_n 1, 1) := by decide +kernel
theorem dX6_bound_44 : decode cX6_bound 44 = .ok (.invokevirtual 73, 3) := by decide +kernel
theorem dX6_bound_47 : decode cX6_bound 47 = .ok (.iload_n 2, 1) := by decide +kernel
theorem dX6_bound_48 : decode cX6_bound 48 = .ok (.ireturn, 1) := by decide +kernel
set_option maxRecDepth 20000 in
theorem ggX6_strike_X6_checkNextPrime : GoodIn wsX6_strike wsX6_checkNextPrime := goodIn_ca (goodIn_r _ [7, 8, 9, 2, 10, 11, 12, 13, 14, 15, 16, 17, 18, 19, 20, 103, 104, 105, 106, 107, 108, 109, 110, 111, 112] (by decide +kernel) (by decide +kernel)) (goodIn_sub (fun _ h => List.mem_cons_of_mem _ (List.mem_append_right _ h)) (by decide +kernel))
set_option maxRecDepth 20000 in
theorem gX6_strike_X6_checkNextPrime : GoodIn wsX6_strike (wsV RX6 187 RX6 yX6_checkNextPrime wsX6_checkNextPrime) := goodIn_app (goodIn_of _ (by decide +kernel)) ggX6_strike_X6_checkNextPrime
set_option maxRecDepth 20000 in
theorem ggX6_strike_X2_remember : GoodIn wsX6_strike wsX2_remember := goodIn_r _ [25, 26, 27, 28, 29, 30, 31, 32, 33, 34, 24, 35, 36, 37, 38, 39, 6, 40, 113, 114, 115, 116, 117, 108, 109, 110, 111, 112] (by decide +kernel) (by decide +kernel)
set_option maxRecDepth 20000 in
theorem gX6_strike_X2_remember : GoodIn wsX6_strike (wsV RX6 183 RX2 yX2_remember wsX2_remember) := goodIn_app (goodIn_of _ (by decide +kernel)) ggX6_strike_X2_remember
set_option maxRecDepth 20000 in
theorem ggX6_strike_X0_countLeft : GoodIn wsX6_strike wsX0_countLeft := goodIn_r _ [44, 45, 46, 47, 13, 48, 49, 50, 16, 15, 51, 52, 53, 54, 55, 56, 57, 58, 59, 30, 60, 61, 62, 63, 64, 65, 66, 67, 68, 69, 70, 71, 72, 73, 74, 75, 76, 77, 17, 18, 19, 20, 78, 79, 80, 81, 82, 83, 84, 85, 86, 87, 88, 89, 90, 91, 92, 93, 94, 95, 96, 97, 39, 6, 40, 108, 109, 110, 111, 112, 118, 119, 120, 121, 122] (by decide +kernel) (by decide +kernel)
set_option maxRecDepth 20000 in
theorem gX6_strike_X0_countLeft : GoodIn wsX6_strike (wsV RX6 141 RX0 yX0_countLeft wsX0_countLeft) := goodIn_app (goodIn_of _ (by decide +kernel)) ggX6_strike_X0_countLeft
set_option maxRecDepth 20000 in
theorem ggX6_strike_X0_letCome : GoodIn wsX6_strike wsX0_letCome := goodIn_r _ [101, 77, 15, 102, 11, 12, 13, 14, 16, 17, 18, 19, 20, 108, 109, 110, 111, 112] (by decide +kernel) (by decide +kernel)
set_option maxRecDepth 20000 in
theorem gX6_strike_X0_letCome : GoodIn wsX6_strike (wsV RX6 115 RX0 yX0_letCome wsX0_letCome) := goodIn_app (goodIn_of _ (by decide +kernel)) ggX6_strike_X0_letCome
theorem dX6_strike_0 : decode cX6_strike 0 = .ok (.aload_n 0, 1) := by decide +kernel
theorem dX6_strike_1 : decode cX6_strike 1 = .ok (.invokevirtual 187, 3) := by decide +kernel
theorem dX6_strike_4 : decode cX6_strike 4 = .ok (.aload_n 0, 1) := by decide +kernel
theorem dX6_strike_5 : decode cX6_strike 5 = .ok (.getfield 26, 3) := by decide +kernel
theorem dX6_strike_8 : decode cX6_strike 8 = .ok (.aload_n 0, 1) := by decide +kernel
theorem dX6_strike_9 : decode cX6_strike 9 = .ok (.getfield 19, 3) := by decide +kernel
theorem dX6_strike_12 : decode cX6_strike 12 = .ok (.invokevirtual 183, 3) := by decide +kernel
theorem dX6_strike_15 : decode cX6_strike 15 = .ok (.aload_n 0, 1) := by decide +kernel
theorem dX6_strike_16 : decode cX6_strike 16 = .ok (.getfield 19, 3) := by decide +kernel
theorem dX6_strike_19 : decode cX6_strike 19 = .ok (.invokevirtual 141, 3) := by decide +kernel
theorem dX6_strike_22 : decode cX6_strike 22 = .ok (.istore_n 1, 1) := by decide +kernel
theorem dX6_strike_23 : decode cX6_strike 23 = .ok (.aload_n 0, 1) := by decide +kernel
theorem dX6_strike_24 : decode cX6_strike 24 = .ok (.getfield 19, 3) := by decide +kernel
theorem dX6_strike_27 : decode cX6_strike 27 = .ok (.iconst 1, 1) := by decide +kernel
theorem dX6_strike_28 : decode cX6_strike 28 = .ok (.invokevirtual 115, 3) := by decide +kernel
theorem dX6_strike_31 : decode cX6_strike 31 = .ok (.pop, 1) := by decide +kernel
theorem dX6_strike_32 : decode cX6_strike 32 = .ok (.iload_n 1, 1) := by decide +kernel
theorem dX6_strike_33 : decode cX6_strike 33 = .ok (.aload_n 0, 1) := by decide +kernel
theorem dX6_strike_34 : decode cX6_strike 34 = .ok (.getfield 19, 3) := by decide +kernel
theorem dX6_strike_37 : decode cX6_strike 37 = .ok (.invokevirtual 141, 3) := by decide +kernel
theorem dX6_strike_40 : decode cX6_strike 40 = .ok (.isub, 1) := by decide +kernel
theorem dX6_strike_41 : decode cX6_strike 41 = .ok (.ireturn, 1) := by decide +kernel
set_option maxRecDepth 20000 in
theorem ggX6_spare_X6_checkNextPrime : GoodIn wsX6_spare wsX6_checkNextPrime := goodIn_ca (goodIn_r _ [7, 8, 9, 2, 10, 11, 12, 13, 14, 15, 16, 17, 18, 19, 20, 47, 48, 49, 50, 51, 52, 53, 54, 55, 56] (by decide +kernel) (by decide +kernel)) (goodIn_sub (fun _ h => List.mem_cons_of_mem _ (List.mem_append_right _ h)) (by decide +kernel))
set_option maxRecDepth 20000 in
theorem gX6_spare_X6_checkNextPrime : GoodIn wsX6_spare (wsV RX6 187 RX6 yX6_checkNextPrime wsX6_checkNextPrime) := goodIn_app (goodIn_of _ (by decide +kernel)) ggX6_spare_X6_checkNextPrime
set_option maxRecDepth 20000 in
theorem ggX6_spare_X2_remember : GoodIn wsX6_spare wsX2_remember := goodIn_r _ [25, 26, 27, 28, 29, 30, 31, 32, 33, 34, 24, 35, 36, 37, 38, 39, 6, 40, 57, 58, 59, 60, 61, 52, 53, 54, 55, 56] (by decide +kernel) (by decide +kernel)
set_option maxRecDepth 20000 in
theorem gX6_spare_X2_remember : GoodIn wsX6_spare (wsV RX6 183 RX2 yX2_remember wsX2_remember) := goodIn_app (goodIn_of _ (by decide +kernel)) ggX6_spare_X2_remember
set_option maxRecDepth 20000 in
theorem ggX6_spare_X0_nextPrime : GoodIn wsX6_spare wsX0_nextPrime := goodIn_r _ [14, 15, 16, 17, 18, 19, 13, 20, 52, 53, 54, 55, 56] (by decide +kernel) (by decide +kernel)
set_option maxRecDepth 20000 in
theorem gX6_spare_X0_nextPrime : GoodIn wsX6_spare (wsV RX6 144 RX0 yX0_nextPrime wsX0_nextPrime) := goodIn_app (goodIn_of _ (by decide +kernel)) ggX6_spare_X0_nextPrime
set_option maxRecDepth 20000 in
theorem ggX6_spare_X0_letCome : GoodIn wsX6_spare wsX0_letCome := goodIn_r _ [44, 45, 15, 46, 11, 12, 13, 14, 16, 17, 18, 19, 20, 52, 53, 54, 55, 56] (by decide +kernel) (by decide +kernel)
set_option maxRecDepth 20000 in
theorem gX6_spare_X0_letCome : GoodIn wsX6_spare (wsV RX6 115 RX0 yX0_letCome wsX0_letCome) := goodIn_app (goodIn_of _ (by decide +kernel)) ggX6_spare_X0_letCome
theorem dX6_spare_0 : decode cX6_spare 0 = .ok (.aload_n 0, 1) := by decide +kernel
theorem dX6_spare_1 : decode cX6_spare 1 = .ok (.invokevirtual 187, 3) := by decide +kernel
theorem dX6_spare_4 : decode cX6_spare 4 = .ok (.aload_n 0, 1) := by decide +kernel
theorem dX6_spare_5 : decode cX6_spare 5 = .ok (.getfield 26, 3) := by decide +kernel
theorem dX6_spare_8 : decode cX6_spare 8 = .ok (.aload_n 0, 1) := by decide +kernel
theorem dX6_spare_9 : decode cX6_spare 9 = .ok (.getfield 19, 3) := by decide +kernel
theorem dX6_spare_12 : decode cX6_spare 12 = .ok (.invokevirtual 183, 3) := by decide +kernel
theorem dX6_spare_15 : decode cX6_spare 15 = .ok (.aload_n 0, 1) := by decide +kernel
theorem dX6_spare_16 : decode cX6_spare 16 = .ok (.getfield 19, 3) := by decide +kernel
theorem dX6_spare_19 : decode cX6_spare 19 = .ok (.invokevirtual 144, 3) := by decide +kernel
theorem dX6_spare_22 : decode cX6_spare 22 = .ok (.istore_n 1, 1) := by decide +kernel
theorem dX6_spare_23 : decode cX6_spare 23 = .ok (.aload_n 0, 1) := by decide +kernel
theorem dX6_spare_24 : decode cX6_spare 24 = .ok (.getfield 19, 3) := by decide +kernel
theorem dX6_spare_27 : decode cX6_spare 27 = .ok (.iconst 0, 1) := by decide +kernel
theorem dX6_spare_28 : decode cX6_spare 28 = .ok (.invokevirtual 115, 3) := by decide +kernel
theorem dX6_spare_31 : decode cX6_spare 31 = .ok (.pop, 1) := by decide +kernel
theorem dX6_spare_32 : decode cX6_spare 32 = .ok (.iload_n 1, 1) := by decide +kernel
theorem dX6_spare_33 : decode cX6_spare 33 = .ok (.ireturn, 1) := by decide +kernel
set_option maxRecDepth 20000 in
theorem ggX6_strikeTo_X6_outside : GoodIn wsX6_strikeTo wsX6_outside := goodIn_r _ [9] (by decide +kernel) (by decide +kernel)
set_option maxRecDepth 20000 in
theorem gX6_strikeTo_X6_outside : GoodIn wsX6_strikeTo (va_wsS RX6 40 yX6_outside wsX6_outside) := goodIn_app (goodIn_of _ (by decide +kernel)) ggX6_strikeTo_X6_outside
set_option maxRecDepth 20000 in
theorem ggX6_strikeTo_X2_remember : GoodIn wsX6_strikeTo wsX2_remember := goodIn_r _ [14, 15, 16, 17, 18, 19, 20, 21, 22, 23, 13, 24, 25, 26, 27, 7, 8, 9, 53, 54, 55, 56, 57, 58, 59, 60, 61, 62] (by decide +kernel) (by decide +kernel)
set_option maxRecDepth 20000 in
theorem gX6_strikeTo_X2_remember : GoodIn wsX6_strikeTo (wsV RX6 183 RX2 yX2_remember wsX2_remember) := goodIn_app (goodIn_of _ (by decide +kernel)) ggX6_strikeTo_X2_remember
set_option maxRecDepth 20000 in
theorem ggX6_strikeTo_X0_letStrikeUpTo : GoodIn wsX6_strikeTo wsX0_letStrikeUpTo := goodIn_r _ [32, 33, 34, 35, 31, 36, 37, 38, 39, 40, 41, 42, 43, 44, 45, 46, 47, 58, 59, 60, 61, 62] (by decide +kernel) (by decide +kernel)
set_option maxRecDepth 20000 in
theorem gX6_strikeTo_X0_letStrikeUpTo : GoodIn wsX6_strikeTo (wsV RX6 192 RX0 yX0_letStrikeUpTo wsX0_letStrikeUpTo) := goodIn_app (goodIn_of _ (by decide +kernel)) ggX6_strikeTo_X0_letStrikeUpTo
theorem dX6_strikeTo_0 : decode cX6_strikeTo 0 = .ok (.iload_n 1, 1) := by decide +kernel
theorem dX6_strikeTo_1 : decode cX6_strikeTo 1 = .ok (.iconst 0, 1) := by decide +kernel
theorem dX6_strikeTo_2 : decode cX6_strikeTo 2 = .ok (.ldc 180, 2) := by decide +kernel
theorem dX6_strikeTo_4 : decode cX6_strikeTo 4 = .ok (.invokestatic 40, 3) := by decide +kernel
theorem dX6_strikeTo_7 : decode cX6_strikeTo 7 = .ok (.ifCond .eq 13, 3) := by decide +kernel
theorem dX6_strikeTo_10 : decode cX6_strikeTo 10 = .ok (.new 44, 3) := by decide +kernel
theorem dX6_strikeTo_13 : decode cX6_strikeTo 13 = .ok (.dup, 1) := by decide +kernel
theorem dX6_strikeTo_14 : decode cX6_strikeTo 14 = .ok (.ldc 190, 2) := by decide +kernel
theorem dX6_strikeTo_16 : decode cX6_strikeTo 16 = .ok (.invokespecial 48, 3) := by decide +kernel
theorem dX6_strikeTo_19 : decode cX6_strikeTo 19 = .ok (.athrow, 1) := by decide +kernel
theorem dX6_strikeTo_20 : decode cX6_strikeTo 20 = .ok (.aload_n 0, 1) := by decide +kernel
theorem dX6_strikeTo_21 : decode cX6_strikeTo 21 = .ok (.getfield 26, 3) := by decide +kernel
theorem dX6_strikeTo_24 : decode cX6_strikeTo 24 = .ok (.aload_n 0, 1) := by decide +kernel
theorem dX6_strikeTo_25 : decode cX6_strikeTo 25 = .ok (.getfield 19, 3) := by decide +kernel
theorem dX6_strikeTo_28 : decode cX6_strikeTo 28 = .ok (.invokevirtual 183, 3) := by decide +kernel
theorem dX6_strikeTo_31 : decode cX6_strikeTo 31 = .ok (.aload_n 0, 1) := by decide +kernel
theorem dX6_strikeTo_32 : decode cX6_strikeTo 32 = .ok (.getfield 19, 3) := by decide +kernel
theorem dX6_strikeTo_35 : decode cX6_strikeTo 35 = .ok (.iload_n 1, 1) := by decide +kernel
theorem dX6_strikeTo_36 : decode cX6_strikeTo 36 = .ok (.invokevirtual 192, 3) := by decide +kernel
theorem dX6_strikeTo_39 : decode cX6_strikeTo 39 = .ok (.ireturn, 1) := by decide +kernel
set_option maxRecDepth 20000 in
theorem ggX6_again_X2_remember : GoodIn wsX6_again wsX2_remember := goodIn_r _ [7, 8, 9, 10, 11, 12, 13, 14, 15, 16, 6, 17, 18, 19, 20, 21, 22, 23, 47, 48, 49, 50, 51, 42, 43, 44, 45, 46] (by decide +kernel) (by decide +kernel)
set_option maxRecDepth 20000 in
theorem gX6_again_X2_remember : GoodIn wsX6_again (wsV RX6 183 RX2 yX2_remember wsX2_remember) := goodIn_app (goodIn_of _ (by decide +kernel)) ggX6_again_X2_remember
set_option maxRecDepth 20000 in
theorem ggX6_again_X0_begin : GoodIn wsX6_again wsX0_begin := goodIn_r _ [28, 29, 30, 31, 27, 32, 33, 34, 35, 36, 42, 43, 44, 45, 46] (by decide +kernel) (by decide +kernel)
set_option maxRecDepth 20000 in
theorem gX6_again_X0_begin : GoodIn wsX6_again (wsV RX6 73 RX0 yX0_begin wsX0_begin) := goodIn_app (goodIn_of _ (by decide +kernel)) ggX6_again_X0_begin
theorem dX6_again_0 : decode cX6_again 0 = .ok (.aload_n 0, 1) := by decide +kernel
theorem dX6_again_1 : decode cX6_again 1 = .ok (.getfield 26, 3) := by decide +kernel
theorem dX6_again_4 : decode cX6_again 4 = .ok (.aload_n 0, 1) := by decide +kernel
theorem dX6_again_5 : decode cX6_again 5 = .ok (.getfield 19, 3) := by decide +kernel
theorem dX6_again_8 : decode cX6_again 8 = .ok (.invokevirtual 183, 3) := by decide +kernel
theorem dX6_again_11 : decode cX6_again 11 = .ok (.aload_n 0, 1) := by decide +kernel
theorem dX6_again_12 : decode cX6_again 12 = .ok (.getfield 19, 3) := by decide +kernel
theorem dX6_again_15 : decode cX6_again 15 = .ok (.getfield 138, 3) := by decide +kernel
theorem dX6_again_18 : decode cX6_again 18 = .ok (.istore_n 1, 1) := by decide +kernel
theorem dX6_again_19 : decode cX6_again 19 = .ok (.aload_n 0, 1) := by decide +kernel
theorem dX6_again_20 : decode cX6_again 20 = .ok (.getfield 19, 3) := by decide +kernel
theorem dX6_again_23 : decode cX6_again 23 = .ok (.aload_n 0, 1) := by decide +kernel
theorem dX6_again_24 : decode cX6_again 24 = .ok (.getfield 19, 3) := by decide +kernel
theorem dX6_again_27 : decode cX6_again 27 = .ok (.getfield 103, 3) := by decide +kernel
theorem dX6_again_30 : decode cX6_again 30 = .ok (.invokevirtual 73, 3) := by decide +kernel
theorem dX6_again_33 : decode cX6_again 33 = .ok (.iload_n 1, 1) := by decide +kernel
theorem dX6_again_34 : decode cX6_again 34 = .ok (.ireturn, 1) := by decide +kernel
set_option maxRecDepth 20000 in
theorem ggX6_undo_X2_takeBack : GoodIn wsX6_undo wsX2_takeBack := goodIn_r _ [9, 10, 11, 12, 13, 14, 15, 16, 17, 18, 8, 19, 20, 21, 22, 23, 24, 25, 26, 27, 28, 29, 30, 31, 32, 33, 34, 40, 41, 42, 43, 44, 45, 46, 47, 48, 49] (by decide +kernel) (by decide +kernel)
set_option maxRecDepth 20000 in
theorem gX6_undo_X2_takeBack : GoodIn wsX6_undo (wsV RX6 200 RX2 yX2_takeBack wsX2_takeBack) := goodIn_app (goodIn_of _ (by decide +kernel)) ggX6_undo_X2_takeBack
theorem dX6_undo_0 : decode cX6_undo 0 = .ok (.aload_n 0, 1) := by decide +kernel
theorem dX6_undo_1 : decode cX6_undo 1 = .ok (.getfield 26, 3) := by decide +kernel
theorem dX6_undo_4 : decode cX6_undo 4 = .ok (.getfield 195, 3) := by decide +kernel
theorem dX6_undo_7 : decode cX6_undo 7 = .ok (.ifCond .ne 13, 3) := by decide +kernel
theorem dX6_undo_10 : decode cX6_undo 10 = .ok (.new 55, 3) := by decide +kernel
theorem dX6_undo_13 : decode cX6_undo 13 = .ok (.dup, 1) := by decide +kernel
theorem dX6_undo_14 : decode cX6_undo 14 = .ok (.ldc 198, 2) := by decide +kernel
theorem dX6_undo_16 : decode cX6_undo 16 = .ok (.invokespecial 59, 3) := by decide +kernel
theorem dX6_undo_19 : decode cX6_undo 19 = .ok (.athrow, 1) := by decide +kernel
theorem dX6_undo_20 : decode cX6_undo 20 = .ok (.aload_n 0, 1) := by decide +kernel
theorem dX6_undo_21 : decode cX6_undo 21 = .ok (.getfield 26, 3) := by decide +kernel
theorem dX6_undo_24 : decode cX6_undo 24 = .ok (.aload_n 0, 1) := by decide +kernel
theorem dX6_undo_25 : decode cX6_undo 25 = .ok (.getfield 19, 3) := by decide +kernel
theorem dX6_undo_28 : decode cX6_undo 28 = .ok (.invokevirtual 200, 3) := by decide +kernel
theorem dX6_undo_31 : decode cX6_undo 31 = .ok (.aload_n 0, 1) := by decide +kernel
theorem dX6_undo_32 : decode cX6_undo 32 = .ok (.getfield 26, 3) := by decide +kernel
theorem dX6_undo_35 : decode cX6_undo 35 = .ok (.getfield 195, 3) := by decide +kernel
theorem dX6_undo_38 : decode cX6_undo 38 = .ok (.ireturn, 1) := by decide +kernel
set_option maxRecDepth 20000 in
theorem ggX6_wouldStrike_X6_checkQuotient : GoodIn wsX6_wouldStrike wsX6_checkQuotient := goodIn_ca (goodIn_r _ [6, 7, 8, 1, 9, 10, 11, 12, 13, 14, 15, 16, 17, 18, 19, 20, 21, 22, 23, 24, 25, 26, 27, 28, 29, 30, 31, 32, 33, 34, 35, 36, 37, 38, 39, 40, 41, 42, 43, 44, 45, 46, 47, 48, 49, 50, 51, 52, 53, 54, 55, 56, 57, 58, 59, 60, 61, 80, 81, 82, 83, 84, 85, 86, 87, 88, 89, 90, 91, 92, 93, 94] (by decide +kernel) (by decide +kernel)) (goodIn_sub (fun _ h => List.mem_cons_of_mem _ (List.mem_append_right _ h)) (by decide +kernel))
set_option maxRecDepth 20000 in
theorem gX6_wouldStrike_X6_checkQuotient : GoodIn wsX6_wouldStrike (wsV RX6 153 RX6 yX6_checkQuotient wsX6_checkQuotient) := goodIn_app (goodIn_of _ (by decide +kernel)) ggX6_wouldStrike_X6_checkQuotient
set_option maxRecDepth 20000 in
theorem ggX6_wouldStrike_X0_nextPrime : GoodIn wsX6_wouldStrike wsX0_nextPrime := goodIn_r _ [65, 17, 16, 46, 47, 48, 12, 49, 90, 91, 92, 93, 94] (by decide +kernel) (by decide +kernel)
set_option maxRecDepth 20000 in
theorem gX6_wouldStrike_X0_nextPrime : GoodIn wsX6_wouldStrike (wsV RX6 144 RX0 yX0_nextPrime wsX0_nextPrime) := goodIn_app (goodIn_of _ (by decide +kernel)) ggX6_wouldStrike_X0_nextPrime
set_option maxRecDepth 20000 in
theorem ggX6_wouldStrike_X0_tally : GoodIn wsX6_wouldStrike wsX0_tally := goodIn_r _ [13, 14, 15, 16, 17, 18, 19, 20, 21, 22, 23, 24, 25, 26, 27, 28, 29, 30, 31, 32, 33, 34, 35, 36, 37, 38, 39, 40, 41, 42, 43, 12, 44, 45, 46, 47, 48, 49, 50, 51, 52, 53, 54, 55, 56, 57, 58, 59, 60, 61, 90, 91, 92, 93, 94, 85, 86, 87, 88, 89] (by decide +kernel) (by decide +kernel)
set_option maxRecDepth 20000 in
theorem gX6_wouldStrike_X0_tally : GoodIn wsX6_wouldStrike (wsV RX6 119 RX0 yX0_tally wsX0_tally) := goodIn_app (goodIn_of _ (by decide +kernel)) ggX6_wouldStrike_X0_tally
set_option maxRecDepth 20000 in
theorem ggX6_wouldStrike_X3_multiplesAt : GoodIn wsX6_wouldStrike wsX3_multiplesAt := goodIn_r _ [69, 54, 55, 56, 21, 57, 33, 37, 38, 39, 40, 24, 58, 59, 60, 61, 23, 70, 71, 72, 73, 74, 75, 76, 77, 36, 78, 5, 79, 85, 86, 87, 88, 89] (by decide +kernel) (by decide +kernel)
set_option maxRecDepth 20000 in
theorem gX6_wouldStrike_X3_multiplesAt : GoodIn wsX6_wouldStrike (wsV RX6 203 RX3 yX3_multiplesAt wsX3_multiplesAt) := goodIn_app (goodIn_of _ (by decide +kernel)) ggX6_wouldStrike_X3_multiplesAt
theorem dX6_wouldStrike_0 : decode cX6_wouldStrike 0 = .ok (.aload_n 0, 1) := by decide +kernel
theorem dX6_wouldStrike_1 : decode cX6_wouldStrike 1 = .ok (.iload_n 1, 1) := by decide +kernel
theorem dX6_wouldStrike_2 : decode cX6_wouldStrike 2 = .ok (.invokevirtual 153, 3) := by decide +kernel
theorem dX6_wouldStrike_5 : decode cX6_wouldStrike 5 = .ok (.aload_n 0, 1) := by decide +kernel
theorem dX6_wouldStrike_6 : decode cX6_wouldStrike 6 = .ok (.getfield 19, 3) := by decide +kernel
theorem dX6_wouldStrike_9 : decode cX6_wouldStrike 9 = .ok (.invokevirtual 144, 3) := by decide +kernel
theorem dX6_wouldStrike_12 : decode cX6_wouldStrike 12 = .ok (.istore_n 2, 1) := by decide +kernel
theorem dX6_wouldStrike_13 : decode cX6_wouldStrike 13 = .ok (.iload_n 2, 1) := by decide +kernel
theorem dX6_wouldStrike_14 : decode cX6_wouldStrike 14 = .ok (.iconst (-1), 1) := by decide +kernel
theorem dX6_wouldStrike_15 : decode cX6_wouldStrike 15 = .ok (.if_icmp .ne 7, 3) := by decide +kernel
theorem dX6_wouldStrike_18 : decode cX6_wouldStrike 18 = .ok (.iconst 0, 1) := by decide +kernel
theorem dX6_wouldStrike_19 : decode cX6_wouldStrike 19 = .ok (.goto 15, 3) := by decide +kernel
theorem dX6_wouldStrike_22 : decode cX6_wouldStrike 22 = .ok (.aload_n 0, 1) := by decide +kernel
theorem dX6_wouldStrike_23 : decode cX6_wouldStrike 23 = .ok (.getfield 19, 3) := by decide +kernel
theorem dX6_wouldStrike_26 : decode cX6_wouldStrike 26 = .ok (.invokevirtual 119, 3) := by decide +kernel
theorem dX6_wouldStrike_29 : decode cX6_wouldStrike 29 = .ok (.iload_n 1, 1) := by decide +kernel
theorem dX6_wouldStrike_30 : decode cX6_wouldStrike 30 = .ok (.iload_n 2, 1) := by decide +kernel
theorem dX6_wouldStrike_31 : decode cX6_wouldStrike 31 = .ok (.invokevirtual 203, 3) := by decide +kernel
theorem dX6_wouldStrike_34 : decode cX6_wouldStrike 34 = .ok (.ireturn, 1) := by decide +kernel
theorem dX6_outside_0 : decode cX6_outside 0 = .ok (.iload_n 0, 1) := by decide +kernel
theorem dX6_outside_1 : decode cX6_outside 1 = .ok (.iload_n 1, 1) := by decide +kernel
theorem dX6_outside_2 : decode cX6_outside 2 = .ok (.if_icmp .lt 8, 3) := by decide +kernel
theorem dX6_outside_5 : decode cX6_outside 5 = .ok (.iload_n 0, 1) := by decide +kernel
theorem dX6_outside_6 : decode cX6_outside 6 = .ok (.iload_n 2, 1) := by decide +kernel
theorem dX6_outside_7 : decode cX6_outside 7 = .ok (.if_icmp .le 7, 3) := by decide +kernel
theorem dX6_outside_10 : decode cX6_outside 10 = .ok (.iconst 1, 1) := by decide +kernel
theorem dX6_outside_11 : decode cX6_outside 11 = .ok (.goto 4, 3) := by decide +kernel
theorem dX6_outside_14 : decode cX6_outside 14 = .ok (.iconst 0, 1) := by decide +kernel
theorem dX6_outside_15 : decode cX6_outside 15 = .ok (.ireturn, 1) := by decide +kernel
set_option maxRecDepth 20000 in
theorem ggX6_checkQuotient_X0_tally : GoodIn wsX6_checkQuotient wsX0_tally := goodIn_r _ [8, 9, 10, 11, 12, 13, 14, 15, 16, 17, 18, 19, 20, 21, 22, 23, 24, 25, 26, 27, 28, 29, 30, 31, 32, 33, 34, 35, 36, 37, 38, 7, 39, 40, 41, 42, 43, 44, 45, 46, 47, 48, 49, 50, 51, 52, 53, 54, 55, 56, 67, 68, 69, 70, 71, 62, 63, 64, 65, 66] (by decide +kernel) (by decide +kernel)
set_option maxRecDepth 20000 in
theorem gX6_checkQuotient_X0_tally : GoodIn wsX6_checkQuotient (wsV RX6 119 RX0 yX0_tally wsX0_tally) := goodIn_app (goodIn_of _ (by decide +kernel)) ggX6_checkQuotient_X0_tally
theorem dX6_checkQuotient_0 : decode cX6_checkQuotient 0 = .ok (.iload_n 1, 1) := by decide +kernel
theorem dX6_checkQuotient_1 : decode cX6_checkQuotient 1 = .ok (.ifCond .lt 17, 3) := by decide +kernel
theorem dX6_checkQuotient_4 : decode cX6_checkQuotient 4 = .ok (.iload_n 1, 1) := by decide +kernel
theorem dX6_checkQuotient_5 : decode cX6_checkQuotient 5 = .ok (.aload_n 0, 1) := by decide +kernel
theorem dX6_checkQuotient_6 : decode cX6_checkQuotient 6 = .ok (.getfield 19, 3) := by decide +kernel
theorem dX6_checkQuotient_9 : decode cX6_checkQuotient 9 = .ok (.invokevirtual 119, 3) := by decide +kernel
theorem dX6_checkQuotient_12 : decode cX6_checkQuotient 12 = .ok (.getfield 123, 3) := by decide +kernel
theorem dX6_checkQuotient_15 : decode cX6_checkQuotient 15 = .ok (.if_icmp .lt 14, 3) := by decide +kernel
theorem dX6_checkQuotient_18 : decode cX6_checkQuotient 18 = .ok (.new 279, 3) := by decide +kernel
theorem dX6_checkQuotient_21 : decode cX6_checkQuotient 21 = .ok (.dup, 1) := by decide +kernel
theorem dX6_checkQuotient_22 : decode cX6_checkQuotient 22 = .ok (.ldc_w 281, 3) := by decide +kernel
theorem dX6_checkQuotient_25 : decode cX6_checkQuotient 25 = .ok (.invokespecial 283, 3) := by decide +kernel
theorem dX6_checkQuotient_28 : decode cX6_checkQuotient 28 = .ok (.athrow, 1) := by decide +kernel
theorem dX6_checkQuotient_29 : decode cX6_checkQuotient 29 = .ok (.return_, 1) := by decide +kernel
set_option maxRecDepth 20000 in
theorem ggX6_checkNextPrime_X0_nextPrime : GoodIn wsX6_checkNextPrime wsX0_nextPrime := goodIn_r _ [8, 9, 10, 11, 12, 13, 7, 14, 20, 21, 22, 23, 24] (by decide +kernel) (by decide +kernel)
set_option maxRecDepth 20000 in
theorem gX6_checkNextPrime_X0_nextPrime : GoodIn wsX6_checkNextPrime (wsV RX6 144 RX0 yX0_nextPrime wsX0_nextPrime) := goodIn_app (goodIn_of _ (by decide +kernel)) ggX6_checkNextPrime_X0_nextPrime
theorem dX6_checkNextPrime_0 : decode cX6_checkNextPrime 0 = .ok (.aload_n 0, 1) := by decide +kernel
theorem dX6_checkNextPrime_1 : decode cX6_checkNextPrime 1 = .ok (.getfield 19, 3) := by decide +kernel
theorem dX6_checkNextPrime_4 : decode cX6_checkNextPrime 4 = .ok (.invokevirtual 144, 3) := by decide +kernel
theorem dX6_checkNextPrime_7 : decode cX6_checkNextPrime 7 = .ok (.iconst (-1), 1) := by decide +kernel
theorem dX6_checkNextPrime_8 : decode cX6_checkNextPrime 8 = .ok (.if_icmp .ne 14, 3) := by decide +kernel
theorem dX6_checkNextPrime_11 : decode cX6_checkNextPrime 11 = .ok (.new 55, 3) := by decide +kernel
theorem dX6_checkNextPrime_14 : decode cX6_checkNextPrime 14 = .ok (.dup, 1) := by decide +kernel
theorem dX6_checkNextPrime_15 : decode cX6_checkNextPrime 15 = .ok (.ldc_w 284, 3) := by decide +kernel
theorem dX6_checkNextPrime_18 : decode cX6_checkNextPrime 18 = .ok (.invokespecial 59, 3) := by decide +kernel
theorem dX6_checkNextPrime_21 : decode cX6_checkNextPrime 21 = .ok (.athrow, 1) := by decide +kernel
theorem dX6_checkNextPrime_22 : decode cX6_checkNextPrime 22 = .ok (.return_, 1) := by decide +kernel
theorem dJ13_bitCount_95d88_0 : decode cJ13_bitCount_95d88 0 = .ok (.lload_n 0, 1) := by decide +kernel
theorem dJ13_bitCount_95d88_1 : decode cJ13_bitCount_95d88 1 = .ok (.lload_n 0, 1) := by decide +kernel
theorem dJ13_bitCount_95d88_2 : decode cJ13_bitCount_95d88 2 = .ok (.iconst 1, 1) := by decide +kernel
theorem dJ13_bitCount_95d88_3 : decode cJ13_bitCount_95d88 3 = .ok (.lushr, 1) := by decide +kernel
theorem dJ13_bitCount_95d88_4 : decode cJ13_bitCount_95d88 4 = .ok (.ldc2_w 314, 3) := by decide +kernel
theorem dJ13_bitCount_95d88_7 : decode cJ13_bitCount_95d88 7 = .ok (.land, 1) := by decide +kernel
theorem dJ13_bitCount_95d88_8 : decode cJ13_bitCount_95d88 8 = .ok (.lsub, 1) := by decide +kernel
theorem dJ13_bitCount_95d88_9 : decode cJ13_bitCount_95d88 9 = .ok (.lstore_n 0, 1) := by decide +kernel
theorem dJ13_bitCount_95d88_10 : decode cJ13_bitCount_95d88 10 = .ok (.lload_n 0, 1) := by decide +kernel
theorem dJ13_bitCount_95d88_11 : decode cJ13_bitCount_95d88 11 = .ok (.ldc2_w 316, 3) := by decide +kernel
theorem dJ13_bitCount_95d88_14 : decode cJ13_bitCount_95d88 14 = .ok (.land, 1) := by decide +kernel
theorem dJ13_bitCount_95d88_15 : decode cJ13_bitCount_95d88 15 = .ok (.lload_n 0, 1) := by decide +kernel
theorem dJ13_bitCount_95d88_16 : decode cJ13_bitCount_95d88 16 = .ok (.iconst 2, 1) := by decide +kernel
theorem dJ13_bitCount_95d88_17 : decode cJ13_bitCount_95d88 17 = .ok (.lushr, 1) := by decide +kernel
theorem dJ13_bitCount_95d88_18 : decode cJ13_bitCount_95d88 18 = .ok (.ldc2_w 316, 3) := by decide +kernel
theorem dJ13_bitCount_95d88_21 : decode cJ13_bitCount_95d88 21 = .ok (.land, 1) := by decide +kernel
theorem dJ13_bitCount_95d88_22 : decode cJ13_bitCount_95d88 22 = .ok (.ladd, 1) := by decide +kernel
theorem dJ13_bitCount_95d88_23 : decode cJ13_bitCount_95d88 23 = .ok (.lstore_n 0, 1) := by decide +kernel
theorem dJ13_bitCount_95d88_24 : decode cJ13_bitCount_95d88 24 = .ok (.lload_n 0, 1) := by decide +kernel
theorem dJ13_bitCount_95d88_25 : decode cJ13_bitCount_95d88 25 = .ok (.lload_n 0, 1) := by decide +kernel
theorem dJ13_bitCount_95d88_26 : decode cJ13_bitCount_95d88 26 = .ok (.iconst 4, 1) := by decide +kernel
theorem dJ13_bitCount_95d88_27 : decode cJ13_bitCount_95d88 27 = .ok (.lushr, 1) := by decide +kernel
theorem dJ13_bitCount_95d88_28 : decode cJ13_bitCount_95d88 28 = .ok (.ladd, 1) := by decide +kernel
theorem dJ13_bitCount_95d88_29 : decode cJ13_bitCount_95d88 29 = .ok (.ldc2_w 318, 3) := by decide +kernel
theorem dJ13_bitCount_95d88_32 : decode cJ13_bitCount_95d88 32 = .ok (.land, 1) := by decide +kernel
theorem dJ13_bitCount_95d88_33 : decode cJ13_bitCount_95d88 33 = .ok (.lstore_n 0, 1) := by decide +kernel
theorem dJ13_bitCount_95d88_34 : decode cJ13_bitCount_95d88 34 = .ok (.lload_n 0, 1) := by decide +kernel
theorem dJ13_bitCount_95d88_35 : decode cJ13_bitCount_95d88 35 = .ok (.lload_n 0, 1) := by decide +kernel
theorem dJ13_bitCount_95d88_36 : decode cJ13_bitCount_95d88 36 = .ok (.bipush 8, 2) := by decide +kernel
theorem dJ13_bitCount_95d88_38 : decode cJ13_bitCount_95d88 38 = .ok (.lushr, 1) := by decide +kernel
theorem dJ13_bitCount_95d88_39 : decode cJ13_bitCount_95d88 39 = .ok (.ladd, 1) := by decide +kernel
theorem dJ13_bitCount_95d88_40 : decode cJ13_bitCount_95d88 40 = .ok (.lstore_n 0, 1) := by decide +kernel
theorem dJ13_bitCount_95d88_41 : decode cJ13_bitCount_95d88 41 = .ok (.lload_n 0, 1) := by decide +kernel
theorem dJ13_bitCount_95d88_42 : decode cJ13_bitCount_95d88 42 = .ok (.lload_n 0, 1) := by decide +kernel
theorem dJ13_bitCount_95d88_43 : decode cJ13_bitCount_95d88 43 = .ok (.bipush 16, 2) := by decide +kernel
theorem dJ13_bitCount_95d88_45 : decode cJ13_bitCount_95d88 45 = .ok (.lushr, 1) := by decide +kernel
theorem dJ13_bitCount_95d88_46 : decode cJ13_bitCount_95d88 46 = .ok (.ladd, 1) := by decide +kernel
theorem dJ13_bitCount_95d88_47 : decode cJ13_bitCount_95d88 47 = .ok (.lstore_n 0, 1) := by decide +kernel
theorem dJ13_bitCount_95d88_48 : decode cJ13_bitCount_95d88 48 = .ok (.lload_n 0, 1) := by decide +kernel
theorem dJ13_bitCount_95d88_49 : decode cJ13_bitCount_95d88 49 = .ok (.lload_n 0, 1) := by decide +kernel
theorem dJ13_bitCount_95d88_50 : decode cJ13_bitCount_95d88 50 = .ok (.bipush 32, 2) := by decide +kernel
theorem dJ13_bitCount_95d88_52 : decode cJ13_bitCount_95d88 52 = .ok (.lushr, 1) := by decide +kernel
theorem dJ13_bitCount_95d88_53 : decode cJ13_bitCount_95d88 53 = .ok (.ladd, 1) := by decide +kernel
theorem dJ13_bitCount_95d88_54 : decode cJ13_bitCount_95d88 54 = .ok (.lstore_n 0, 1) := by decide +kernel
theorem dJ13_bitCount_95d88_55 : decode cJ13_bitCount_95d88 55 = .ok (.lload_n 0, 1) := by decide +kernel
theorem dJ13_bitCount_95d88_56 : decode cJ13_bitCount_95d88 56 = .ok (.l2i, 1) := by decide +kernel
theorem dJ13_bitCount_95d88_57 : decode cJ13_bitCount_95d88 57 = .ok (.bipush 127, 2) := by decide +kernel
theorem dJ13_bitCount_95d88_59 : decode cJ13_bitCount_95d88 59 = .ok (.iand, 1) := by decide +kernel
theorem dJ13_bitCount_95d88_60 : decode cJ13_bitCount_95d88 60 = .ok (.ireturn, 1) := by decide +kernel
theorem dJ9_max_7cf53_0 : decode cJ9_max_7cf53 0 = .ok (.iload_n 0, 1) := by decide +kernel
theorem dJ9_max_7cf53_1 : decode cJ9_max_7cf53 1 = .ok (.iload_n 1, 1) := by decide +kernel
theorem dJ9_max_7cf53_2 : decode cJ9_max_7cf53 2 = .ok (.if_icmp .lt 7, 3) := by decide +kernel
theorem dJ9_max_7cf53_5 : decode cJ9_max_7cf53 5 = .ok (.iload_n 0, 1) := by decide +kernel
theorem dJ9_max_7cf53_6 : decode cJ9_max_7cf53 6 = .ok (.goto 4, 3) := by decide +kernel
theorem dJ9_max_7cf53_9 : decode cJ9_max_7cf53 9 = .ok (.iload_n 1, 1) := by decide +kernel
theorem dJ9_max_7cf53_10 : decode cJ9_max_7cf53 10 = .ok (.ireturn, 1) := by decide +kernel
theorem dJ9_min_7cf53_0 : decode cJ9_min_7cf53 0 = .ok (.iload_n 0, 1) := by decide +kernel
theorem dJ9_min_7cf53_1 : decode cJ9_min_7cf53 1 = .ok (.iload_n 1, 1) := by decide +kernel
theorem dJ9_min_7cf53_2 : decode cJ9_min_7cf53 2 = .ok (.if_icmp .gt 7, 3) := by decide +kernel
theorem dJ9_min_7cf53_5 : decode cJ9_min_7cf53 5 = .ok (.iload_n 0, 1) := by decide +kernel
theorem dJ9_min_7cf53_6 : decode cJ9_min_7cf53 6 = .ok (.goto 4, 3) := by decide +kernel
theorem dJ9_min_7cf53_9 : decode cJ9_min_7cf53 9 = .ok (.iload_n 1, 1) := by decide +kernel
theorem dJ9_min_7cf53_10 : decode cJ9_min_7cf53 10 = .ok (.ireturn, 1) := by decide +kernel
theorem dL_cell_0 : decode cL_cell 0 = .ok (.iload_n 1, 1) := by decide +kernel
theorem dL_cell_1 : decode cL_cell 1 = .ok (.aload_n 0, 1) := by decide +kernel
theorem dL_cell_2 : decode cL_cell 2 = .ok (.arraylength, 1) := by decide +kernel
theorem dL_cell_3 : decode cL_cell 3 = .ok (.if_icmp .ge 9, 3) := by decide +kernel
theorem dL_cell_6 : decode cL_cell 6 = .ok (.aload_n 0, 1) := by decide +kernel
theorem dL_cell_7 : decode cL_cell 7 = .ok (.iload_n 1, 1) := by decide +kernel
theorem dL_cell_8 : decode cL_cell 8 = .ok (.iaload, 1) := by decide +kernel
theorem dL_cell_9 : decode cL_cell 9 = .ok (.goto 15, 3) := by decide +kernel
theorem dL_cell_12 : decode cL_cell 12 = .ok (.ldc 7, 2) := by decide +kernel
theorem dL_cell_14 : decode cL_cell 14 = .ok (.iload_n 1, 1) := by decide +kernel
theorem dL_cell_15 : decode cL_cell 15 = .ok (.sipush 4096, 3) := by decide +kernel
theorem dL_cell_18 : decode cL_cell 18 = .ok (.irem, 1) := by decide +kernel
theorem dL_cell_19 : decode cL_cell 19 = .ok (.imul, 1) := by decide +kernel
theorem dL_cell_20 : decode cL_cell 20 = .ok (.sipush 149, 3) := by decide +kernel
theorem dL_cell_23 : decode cL_cell 23 = .ok (.iadd, 1) := by decide +kernel
theorem dL_cell_24 : decode cL_cell 24 = .ok (.ldc 8, 2) := by decide +kernel
theorem dL_cell_26 : decode cL_cell 26 = .ok (.iand, 1) := by decide +kernel
theorem dL_cell_27 : decode cL_cell 27 = .ok (.ireturn, 1) := by decide +kernel
set_option maxRecDepth 20000 in
theorem ggL_bound_X6_bound : GoodIn wsL_bound wsX6_bound := goodIn_ca (goodIn_r _ [7, 8, 9, 10, 11, 12, 13, 14, 6, 15, 16, 17, 18, 19, 20, 21, 22, 23, 24, 25, 26, 27, 28, 29, 30, 31, 32, 33, 34, 35, 36, 37, 38, 39, 40, 41, 42, 43, 44, 45, 46, 47, 48, 49, 50, 51, 52, 53, 54, 55, 56, 57, 58, 59, 60, 61] (by decide +kernel) (by decide +kernel)) (goodIn_sub (fun _ h => List.mem_cons_of_mem _ (List.mem_append_right _ h)) (by decide +kernel))
set_option maxRecDepth 20000 in
theorem gL_bound_X6_bound : GoodIn wsL_bound (wsV RL 9 RX6 yX6_bound wsX6_bound) := goodIn_app (goodIn_of _ (by decide +kernel)) ggL_bound_X6_bound
theorem dL_bound_0 : decode cL_bound 0 = .ok (.aload_n 0, 1) := by decide +kernel
theorem dL_bound_1 : decode cL_bound 1 = .ok (.iload_n 1, 1) := by decide +kernel
theorem dL_bound_2 : decode cL_bound 2 = .ok (.invokevirtual 9, 3) := by decide +kernel
theorem dL_bound_5 : decode cL_bound 5 = .ok (.ireturn, 1) := by decide +kernel
theorem dL_bound_6 : decode cL_bound 6 = .ok (.astore_n 2, 1) := by decide +kernel
theorem dL_bound_7 : decode cL_bound 7 = .ok (.ldc 17, 2) := by decide +kernel
theorem dL_bound_9 : decode cL_bound 9 = .ok (.ireturn, 1) := by decide +kernel
set_option maxRecDepth 20000 in
theorem ggL_strike_X6_strike : GoodIn wsL_strike wsX6_strike := goodIn_ca (goodIn_r _ [7, 8, 9, 10, 11, 12, 6, 13, 14, 15, 16, 17, 18, 19, 20, 21, 22, 23, 24, 25, 26, 27, 28, 29, 30, 31, 32, 33, 34, 35, 36, 37, 38, 39, 40, 41, 42, 43, 44, 45, 46, 47, 48, 49, 50, 51, 52, 53, 54, 55, 56, 57, 58, 59, 60, 61, 62, 63, 64, 65, 66, 67, 68, 69, 70, 71, 72, 73, 74, 75, 76, 77, 78, 79, 80, 81, 82, 83, 84, 85, 86, 87, 88, 89, 90, 91, 92, 93, 94, 95, 96, 97, 98, 99, 100, 101, 102, 103, 104, 105, 106, 107, 108, 109, 110, 111, 112, 113, 114, 115, 116, 117, 118, 119, 120, 121, 122, 123, 124, 125, 126, 127, 128] (by decide +kernel) (by decide +kernel)) (goodIn_sub (fun _ h => List.mem_cons_of_mem _ (List.mem_append_right _ h)) (by decide +kernel))
set_option maxRecDepth 20000 in
theorem gL_strike_X6_strike : GoodIn wsL_strike (wsV RL 18 RX6 yX6_strike wsX6_strike) := goodIn_app (goodIn_of _ (by decide +kernel)) ggL_strike_X6_strike
theorem dL_strike_0 : decode cL_strike 0 = .ok (.aload_n 0, 1) := by decide +kernel
theorem dL_strike_1 : decode cL_strike 1 = .ok (.invokevirtual 18, 3) := by decide +kernel
theorem dL_strike_4 : decode cL_strike 4 = .ok (.ireturn, 1) := by decide +kernel
theorem dL_strike_5 : decode cL_strike 5 = .ok (.astore_n 1, 1) := by decide +kernel
theorem dL_strike_6 : decode cL_strike 6 = .ok (.ldc 17, 2) := by decide +kernel
theorem dL_strike_8 : decode cL_strike 8 = .ok (.ireturn, 1) := by decide +kernel
set_option maxRecDepth 20000 in
theorem ggL_spare_X6_spare : GoodIn wsL_spare wsX6_spare := goodIn_ca (goodIn_r _ [7, 8, 9, 10, 11, 12, 6, 13, 14, 15, 16, 17, 18, 19, 20, 21, 22, 23, 24, 25, 26, 27, 28, 29, 30, 31, 32, 33, 34, 35, 36, 37, 38, 39, 40, 41, 42, 43, 44, 45, 46, 47, 48, 49, 50, 51, 52, 53, 54, 55, 56, 57, 58, 59, 60, 61, 62, 63, 64, 65, 66, 67] (by decide +kernel) (by decide +kernel)) (goodIn_sub (fun _ h => List.mem_cons_of_mem _ (List.mem_append_right _ h)) (by decide +kernel))
set_option maxRecDepth 20000 in
theorem gL_spare_X6_spare : GoodIn wsL_spare (wsV RL 24 RX6 yX6_spare wsX6_spare) := goodIn_app (goodIn_of _ (by decide +kernel)) ggL_spare_X6_spare
theorem dL_spare_0 : decode cL_spare 0 = .ok (.aload_n 0, 1) := by decide +kernel
theorem dL_spare_1 : decode cL_spare 1 = .ok (.invokevirtual 24, 3) := by decide +kernel
theorem dL_spare_4 : decode cL_spare 4 = .ok (.ireturn, 1) := by decide +kernel
theorem dL_spare_5 : decode cL_spare 5 = .ok (.astore_n 1, 1) := by decide +kernel
theorem dL_spare_6 : decode cL_spare 6 = .ok (.ldc 17, 2) := by decide +kernel
theorem dL_spare_8 : decode cL_spare 8 = .ok (.ireturn, 1) := by decide +kernel
set_option maxRecDepth 20000 in
theorem ggL_strikeTo_X6_strikeTo : GoodIn wsL_strikeTo wsX6_strikeTo := goodIn_ca (goodIn_r _ [7, 8, 9, 10, 11, 12, 13, 14, 6, 15, 16, 17, 18, 19, 20, 21, 22, 23, 24, 25, 26, 27, 28, 29, 30, 31, 32, 33, 34, 35, 36, 37, 38, 39, 40, 41, 42, 43, 44, 45, 46, 47, 48, 49, 50, 51, 52, 53, 54, 55, 56, 57, 58, 59, 60, 61, 62, 63, 64, 65, 66, 67, 68] (by decide +kernel) (by decide +kernel)) (goodIn_sub (fun _ h => List.mem_cons_of_mem _ (List.mem_append_right _ h)) (by decide +kernel))
set_option maxRecDepth 20000 in
theorem gL_strikeTo_X6_strikeTo : GoodIn wsL_strikeTo (wsV RL 27 RX6 yX6_strikeTo wsX6_strikeTo) := goodIn_app (goodIn_of _ (by decide +kernel)) ggL_strikeTo_X6_strikeTo
theorem dL_strikeTo_0 : decode cL_strikeTo 0 = .ok (.aload_n 0, 1) := by decide +kernel
theorem dL_strikeTo_1 : decode cL_strikeTo 1 = .ok (.iload_n 1, 1) := by decide +kernel
theorem dL_strikeTo_2 : decode cL_strikeTo 2 = .ok (.invokevirtual 27, 3) := by decide +kernel
theorem dL_strikeTo_5 : decode cL_strikeTo 5 = .ok (.ireturn, 1) := by decide +kernel
theorem dL_strikeTo_6 : decode cL_strikeTo 6 = .ok (.astore_n 2, 1) := by decide +kernel
theorem dL_strikeTo_7 : decode cL_strikeTo 7 = .ok (.ldc 17, 2) := by decide +kernel
theorem dL_strikeTo_9 : decode cL_strikeTo 9 = .ok (.ireturn, 1) := by decide +kernel
set_option maxRecDepth 20000 in
theorem ggL_undo_X6_undo : GoodIn wsL_undo wsX6_undo := goodIn_ca (goodIn_r _ [7, 8, 9, 10, 11, 12, 13, 14, 15, 16, 17, 18, 19, 20, 21, 22, 23, 24, 25, 26, 27, 28, 29, 30, 6, 31, 32, 33, 34, 35, 36, 37, 38, 39, 40, 41, 42, 43, 44, 45, 46, 47, 48, 49, 50, 51, 52, 53, 54, 55] (by decide +kernel) (by decide +kernel)) (goodIn_sub (fun _ h => List.mem_cons_of_mem _ (List.mem_append_right _ h)) (by decide +kernel))
set_option maxRecDepth 20000 in
theorem gL_undo_X6_undo : GoodIn wsL_undo (wsV RL 30 RX6 yX6_undo wsX6_undo) := goodIn_app (goodIn_of _ (by decide +kernel)) ggL_undo_X6_undo
theorem dL_undo_0 : decode cL_undo 0 = .ok (.aload_n 0, 1) := by decide +kernel
theorem dL_undo_1 : decode cL_undo 1 = .ok (.invokevirtual 30, 3) := by decide +kernel
theorem dL_undo_4 : decode cL_undo 4 = .ok (.ireturn, 1) := by decide +kernel
theorem dL_undo_5 : decode cL_undo 5 = .ok (.astore_n 1, 1) := by decide +kernel
theorem dL_undo_6 : decode cL_undo 6 = .ok (.ldc 17, 2) := by decide +kernel
theorem dL_undo_8 : decode cL_undo 8 = .ok (.ireturn, 1) := by decide +kernel
set_option maxRecDepth 20000 in
theorem ggL_about_X6_about : GoodIn wsL_about wsX6_about := goodIn_ca (goodIn_r _ [7, 8, 9, 10, 11, 12, 13, 14, 15, 16, 17, 18, 19, 20, 21, 22, 23, 24, 25, 26, 27, 28, 29, 30, 31, 32, 33, 34, 35, 36, 37, 38, 39, 40, 41, 42, 43, 44, 45, 46, 47, 48, 49, 50, 51, 52, 53, 54, 55, 56, 57, 58, 59, 60, 61, 62, 63, 64, 65, 66, 67, 68, 69, 70, 71, 72, 73, 74, 75, 76, 77, 78, 79, 80, 81, 82, 83, 84, 6, 85, 86, 87, 88, 89, 90, 91, 92, 93, 94, 95, 96, 97, 98, 99, 100, 101, 102, 103, 104, 105] (by decide +kernel) (by decide +kernel)) (goodIn_sub (fun _ h => List.mem_cons_of_mem _ (List.mem_append_right _ h)) (by decide +kernel))
set_option maxRecDepth 20000 in
theorem gL_about_X6_about : GoodIn wsL_about (wsV RL 33 RX6 yX6_about wsX6_about) := goodIn_app (goodIn_of _ (by decide +kernel)) ggL_about_X6_about
theorem dL_about_0 : decode cL_about 0 = .ok (.aload_n 0, 1) := by decide +kernel
theorem dL_about_1 : decode cL_about 1 = .ok (.iload_n 1, 1) := by decide +kernel
theorem dL_about_2 : decode cL_about 2 = .ok (.invokevirtual 33, 3) := by decide +kernel
theorem dL_about_5 : decode cL_about 5 = .ok (.ireturn, 1) := by decide +kernel
theorem dL_about_6 : decode cL_about 6 = .ok (.astore_n 2, 1) := by decide +kernel
theorem dL_about_7 : decode cL_about 7 = .ok (.ldc 17, 2) := by decide +kernel
theorem dL_about_9 : decode cL_about 9 = .ok (.ireturn, 1) := by decide +kernel
set_option maxRecDepth 20000 in
theorem ggL_quotient_X6_quotient : GoodIn wsL_quotient wsX6_quotient := goodIn_ca (goodIn_r _ [7, 8, 9, 10, 11, 6, 12, 13, 14, 15, 16, 17, 18, 19, 20, 21, 22, 23, 24, 25, 26, 27, 28, 29, 30, 31, 32, 33, 34, 35, 36, 37, 38, 39, 40, 41, 42, 43, 44, 45, 46, 47, 48, 49, 50, 51, 52, 53, 54, 55, 56, 57, 58, 59, 60, 61, 62, 63, 64, 65, 66, 67, 68, 69, 70, 71, 72, 73, 74, 75, 76, 77, 78, 79, 80, 81, 82, 83] (by decide +kernel) (by decide +kernel)) (goodIn_sub (fun _ h => List.mem_cons_of_mem _ (List.mem_append_right _ h)) (by decide +kernel))
set_option maxRecDepth 20000 in
theorem gL_quotient_X6_quotient : GoodIn wsL_quotient (wsV RL 36 RX6 yX6_quotient wsX6_quotient) := goodIn_app (goodIn_of _ (by decide +kernel)) ggL_quotient_X6_quotient
theorem dL_quotient_0 : decode cL_quotient 0 = .ok (.aload_n 0, 1) := by decide +kernel
theorem dL_quotient_1 : decode cL_quotient 1 = .ok (.iload_n 1, 1) := by decide +kernel
theorem dL_quotient_2 : decode cL_quotient 2 = .ok (.invokevirtual 36, 3) := by decide +kernel
theorem dL_quotient_5 : decode cL_quotient 5 = .ok (.ireturn, 1) := by decide +kernel
theorem dL_quotient_6 : decode cL_quotient 6 = .ok (.astore_n 2, 1) := by decide +kernel
theorem dL_quotient_7 : decode cL_quotient 7 = .ok (.ldc 17, 2) := by decide +kernel
theorem dL_quotient_9 : decode cL_quotient 9 = .ok (.ireturn, 1) := by decide +kernel
set_option maxRecDepth 20000 in
theorem ggL_left_X6_left : GoodIn wsL_left wsX6_left := goodIn_ca (goodIn_r _ [7, 8, 9, 10, 11, 6, 12, 13, 14, 15, 16, 17, 18, 19, 20, 21, 22, 23, 24, 25, 26, 27, 28, 29, 30, 31, 32, 33, 34, 35, 36, 37, 38, 39, 40, 41, 42, 43, 44, 45, 46, 47, 48, 49, 50, 51, 52, 53, 54, 55, 56, 57, 58, 59, 60, 61, 62, 63, 64, 65, 66, 67, 68, 69, 70, 71, 72, 73, 74, 75, 76, 77, 78, 79, 80, 81, 82, 83, 84, 85, 86, 87, 88, 89, 90, 91, 92] (by decide +kernel) (by decide +kernel)) (goodIn_sub (fun _ h => List.mem_cons_of_mem _ (List.mem_append_right _ h)) (by decide +kernel))
set_option maxRecDepth 20000 in
theorem gL_left_X6_left : GoodIn wsL_left (wsV RL 41 RX6 yX6_left wsX6_left) := goodIn_app (goodIn_of _ (by decide +kernel)) ggL_left_X6_left
theorem dL_left_0 : decode cL_left 0 = .ok (.aload_n 0, 1) := by decide +kernel
theorem dL_left_1 : decode cL_left 1 = .ok (.iload_n 1, 1) := by decide +kernel
theorem dL_left_2 : decode cL_left 2 = .ok (.invokevirtual 41, 3) := by decide +kernel
theorem dL_left_5 : decode cL_left 5 = .ok (.ireturn, 1) := by decide +kernel
theorem dL_left_6 : decode cL_left 6 = .ok (.astore_n 2, 1) := by decide +kernel
theorem dL_left_7 : decode cL_left 7 = .ok (.ldc 17, 2) := by decide +kernel
theorem dL_left_9 : decode cL_left 9 = .ok (.ireturn, 1) := by decide +kernel
set_option maxRecDepth 20000 in
theorem ggL_restLeft_X6_restLeft : GoodIn wsL_restLeft wsX6_restLeft := goodIn_ca (goodIn_ca (goodIn_r _ [9, 10, 11, 12, 13, 14, 15, 8, 16, 17, 18, 19, 20, 21, 22, 23, 24, 25, 26, 27, 28, 29, 30, 31, 32, 33, 34, 35, 36, 37, 38, 39, 40, 41, 42, 43, 44, 45, 46, 47, 48, 49, 50, 51, 52, 53, 54, 55, 56, 57, 58, 59, 60, 61, 62, 63, 64, 65, 66, 67, 68, 69, 70, 71, 72, 73, 74, 75, 76, 77, 78, 79, 80, 81, 82, 83, 84, 85, 86, 87, 88, 89, 90, 91, 92, 93] (by decide +kernel) (by decide +kernel)) (goodIn_sub (fun _ h => List.mem_cons_of_mem _ (List.mem_append_left _ (List.mem_append_right _ h))) (by decide +kernel))) (goodIn_sub (fun _ h => List.mem_cons_of_mem _ (List.mem_append_right _ h)) (by decide +kernel))
set_option maxRecDepth 20000 in
theorem gL_restLeft_X6_restLeft : GoodIn wsL_restLeft (wsV RL 44 RX6 yX6_restLeft wsX6_restLeft) := goodIn_app (goodIn_of _ (by decide +kernel)) ggL_restLeft_X6_restLeft
theorem dL_restLeft_0 : decode cL_restLeft 0 = .ok (.aload_n 0, 1) := by decide +kernel
theorem dL_restLeft_1 : decode cL_restLeft 1 = .ok (.iload_n 1, 1) := by decide +kernel
theorem dL_restLeft_2 : decode cL_restLeft 2 = .ok (.iload_n 2, 1) := by decide +kernel
theorem dL_restLeft_3 : decode cL_restLeft 3 = .ok (.invokevirtual 44, 3) := by decide +kernel
theorem dL_restLeft_6 : decode cL_restLeft 6 = .ok (.ireturn, 1) := by decide +kernel
theorem dL_restLeft_7 : decode cL_restLeft 7 = .ok (.astore_n 3, 1) := by decide +kernel
theorem dL_restLeft_8 : decode cL_restLeft 8 = .ok (.ldc 17, 2) := by decide +kernel
theorem dL_restLeft_10 : decode cL_restLeft 10 = .ok (.ireturn, 1) := by decide +kernel
theorem dL_restLeft_11 : decode cL_restLeft 11 = .ok (.astore_n 3, 1) := by decide +kernel
theorem dL_restLeft_12 : decode cL_restLeft 12 = .ok (.ldc 48, 2) := by decide +kernel
theorem dL_restLeft_14 : decode cL_restLeft 14 = .ok (.ireturn, 1) := by decide +kernel
set_option maxRecDepth 20000 in
theorem ggL_came_X6_came : GoodIn wsL_came wsX6_came := goodIn_ca (goodIn_r _ [7, 8, 9, 10, 11, 12, 13, 14, 15, 16, 17, 18, 19, 20, 21, 22, 23, 24, 25, 26, 27, 28, 29, 30] (by decide +kernel) (by decide +kernel)) (goodIn_sub (fun _ h => List.mem_cons_of_mem _ (List.mem_append_right _ h)) (by decide +kernel))
set_option maxRecDepth 20000 in
theorem gL_came_X6_came : GoodIn wsL_came (wsV RL 49 RX6 yX6_came wsX6_came) := goodIn_app (goodIn_of _ (by decide +kernel)) ggL_came_X6_came
theorem dL_came_0 : decode cL_came 0 = .ok (.aload_n 0, 1) := by decide +kernel
theorem dL_came_1 : decode cL_came 1 = .ok (.iload_n 1, 1) := by decide +kernel
theorem dL_came_2 : decode cL_came 2 = .ok (.invokevirtual 49, 3) := by decide +kernel
theorem dL_came_5 : decode cL_came 5 = .ok (.ireturn, 1) := by decide +kernel
theorem dL_came_6 : decode cL_came 6 = .ok (.astore_n 2, 1) := by decide +kernel
theorem dL_came_7 : decode cL_came 7 = .ok (.ldc 17, 2) := by decide +kernel
theorem dL_came_9 : decode cL_came 9 = .ok (.ireturn, 1) := by decide +kernel
set_option maxRecDepth 20000 in
theorem ggL_wouldStrike_X6_wouldStrike : GoodIn wsL_wouldStrike wsX6_wouldStrike := goodIn_ca (goodIn_r _ [7, 8, 9, 10, 11, 6, 12, 13, 14, 15, 16, 17, 18, 19, 20, 21, 22, 23, 24, 25, 26, 27, 28, 29, 30, 31, 32, 33, 34, 35, 36, 37, 38, 39, 40, 41, 42, 43, 44, 45, 46, 47, 48, 49, 50, 51, 52, 53, 54, 55, 56, 57, 58, 59, 60, 61, 62, 63, 64, 65, 66, 67, 68, 69, 70, 71, 72, 73, 74, 75, 76, 77, 78, 79, 80, 81, 82, 83, 84, 85, 86, 87, 88, 89, 90, 91, 92, 93, 94, 95, 96, 97, 98, 99, 100] (by decide +kernel) (by decide +kernel)) (goodIn_sub (fun _ h => List.mem_cons_of_mem _ (List.mem_append_right _ h)) (by decide +kernel))
set_option maxRecDepth 20000 in
theorem gL_wouldStrike_X6_wouldStrike : GoodIn wsL_wouldStrike (wsV RL 52 RX6 yX6_wouldStrike wsX6_wouldStrike) := goodIn_app (goodIn_of _ (by decide +kernel)) ggL_wouldStrike_X6_wouldStrike
theorem dL_wouldStrike_0 : decode cL_wouldStrike 0 = .ok (.aload_n 0, 1) := by decide +kernel
