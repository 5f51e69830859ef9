theorem dX7_next_37 : decode cX7_next 37 = .ok (.getfield 25, 3) := by decide +kernel
theorem dX7_next_40 : decode cX7_next 40 = .ok (.iload_n 2, 1) := by decide +kernel
theorem dX7_next_41 : decode cX7_next 41 = .ok (.iaload, 1) := by decide +kernel
theorem dX7_next_42 : decode cX7_next 42 = .ok (.goto 4, 3) := by decide +kernel
theorem dX7_next_45 : decode cX7_next 45 = .ok (.iconst (-1), 1) := by decide +kernel
theorem dX7_next_46 : decode cX7_next 46 = .ok (.ireturn, 1) := by decide +kernel
theorem dX7_lays_0 : decode cX7_lays 0 = .ok (.aload_n 0, 1) := by decide +kernel
theorem dX7_lays_1 : decode cX7_lays 1 = .ok (.getfield 7, 3) := by decide +kernel
theorem dX7_lays_4 : decode cX7_lays 4 = .ok (.bipush 42, 2) := by decide +kernel
theorem dX7_lays_6 : decode cX7_lays 6 = .ok (.iload_n 1, 1) := by decide +kernel
theorem dX7_lays_7 : decode cX7_lays 7 = .ok (.imul, 1) := by decide +kernel
theorem dX7_lays_8 : decode cX7_lays 8 = .ok (.iaload, 1) := by decide +kernel
theorem dX7_lays_9 : decode cX7_lays 9 = .ok (.istore_n 2, 1) := by decide +kernel
theorem dX7_lays_10 : decode cX7_lays 10 = .ok (.iconst 1, 1) := by decide +kernel
theorem dX7_lays_11 : decode cX7_lays 11 = .ok (.istore_n 3, 1) := by decide +kernel
theorem dX7_lays_12 : decode cX7_lays 12 = .ok (.iload_n 3, 1) := by decide +kernel
theorem dX7_lays_13 : decode cX7_lays 13 = .ok (.iload_n 2, 1) := by decide +kernel
theorem dX7_lays_14 : decode cX7_lays 14 = .ok (.if_icmp .gt 16, 3) := by decide +kernel
theorem dX7_lays_17 : decode cX7_lays 17 = .ok (.aload_n 0, 1) := by decide +kernel
theorem dX7_lays_18 : decode cX7_lays 18 = .ok (.getfield 28, 3) := by decide +kernel
theorem dX7_lays_21 : decode cX7_lays 21 = .ok (.iload_n 3, 1) := by decide +kernel
theorem dX7_lays_22 : decode cX7_lays 22 = .ok (.iconst 0, 1) := by decide +kernel
theorem dX7_lays_23 : decode cX7_lays 23 = .ok (.bastore, 1) := by decide +kernel
theorem dX7_lays_24 : decode cX7_lays 24 = .ok (.iinc 3 1, 3) := by decide +kernel
theorem dX7_lays_27 : decode cX7_lays 27 = .ok (.goto (-15), 3) := by decide +kernel
theorem dX7_lays_30 : decode cX7_lays 30 = .ok (.iconst 0, 1) := by decide +kernel
theorem dX7_lays_31 : decode cX7_lays 31 = .ok (.istore_n 3, 1) := by decide +kernel
theorem dX7_lays_32 : decode cX7_lays 32 = .ok (.iload_n 3, 1) := by decide +kernel
theorem dX7_lays_33 : decode cX7_lays 33 = .ok (.aload_n 0, 1) := by decide +kernel
theorem dX7_lays_34 : decode cX7_lays 34 = .ok (.getfield 7, 3) := by decide +kernel
theorem dX7_lays_37 : decode cX7_lays 37 = .ok (.bipush 42, 2) := by decide +kernel
theorem dX7_lays_39 : decode cX7_lays 39 = .ok (.iload_n 1, 1) := by decide +kernel
theorem dX7_lays_40 : decode cX7_lays 40 = .ok (.imul, 1) := by decide +kernel
theorem dX7_lays_41 : decode cX7_lays 41 = .ok (.iconst 1, 1) := by decide +kernel
theorem dX7_lays_42 : decode cX7_lays 42 = .ok (.iadd, 1) := by decide +kernel
theorem dX7_lays_43 : decode cX7_lays 43 = .ok (.iaload, 1) := by decide +kernel
theorem dX7_lays_44 : decode cX7_lays 44 = .ok (.if_icmp .ge 62, 3) := by decide +kernel
theorem dX7_lays_47 : decode cX7_lays 47 = .ok (.aload_n 0, 1) := by decide +kernel
theorem dX7_lays_48 : decode cX7_lays 48 = .ok (.getfield 7, 3) := by decide +kernel
theorem dX7_lays_51 : decode cX7_lays 51 = .ok (.bipush 42, 2) := by decide +kernel
theorem dX7_lays_53 : decode cX7_lays 53 = .ok (.iload_n 1, 1) := by decide +kernel
theorem dX7_lays_54 : decode cX7_lays 54 = .ok (.imul, 1) := by decide +kernel
theorem dX7_lays_55 : decode cX7_lays 55 = .ok (.iconst 2, 1) := by decide +kernel
theorem dX7_lays_56 : decode cX7_lays 56 = .ok (.iadd, 1) := by decide +kernel
theorem dX7_lays_57 : decode cX7_lays 57 = .ok (.iload_n 3, 1) := by decide +kernel
theorem dX7_lays_58 : decode cX7_lays 58 = .ok (.iadd, 1) := by decide +kernel
theorem dX7_lays_59 : decode cX7_lays 59 = .ok (.iaload, 1) := by decide +kernel
theorem dX7_lays_60 : decode cX7_lays 60 = .ok (.iconst 1, 1) := by decide +kernel
theorem dX7_lays_61 : decode cX7_lays 61 = .ok (.if_icmp .ne 39, 3) := by decide +kernel
theorem dX7_lays_64 : decode cX7_lays 64 = .ok (.aload_n 0, 1) := by decide +kernel
theorem dX7_lays_65 : decode cX7_lays 65 = .ok (.getfield 25, 3) := by decide +kernel
theorem dX7_lays_68 : decode cX7_lays 68 = .ok (.iload_n 3, 1) := by decide +kernel
theorem dX7_lays_69 : decode cX7_lays 69 = .ok (.iaload, 1) := by decide +kernel
theorem dX7_lays_70 : decode cX7_lays 70 = .ok (.istore 4, 2) := by decide +kernel
theorem dX7_lays_72 : decode cX7_lays 72 = .ok (.iload 4, 2) := by decide +kernel
theorem dX7_lays_74 : decode cX7_lays 74 = .ok (.iload_n 2, 1) := by decide +kernel
theorem dX7_lays_75 : decode cX7_lays 75 = .ok (.if_icmp .gt 25, 3) := by decide +kernel
theorem dX7_lays_78 : decode cX7_lays 78 = .ok (.aload_n 0, 1) := by decide +kernel
theorem dX7_lays_79 : decode cX7_lays 79 = .ok (.getfield 28, 3) := by decide +kernel
theorem dX7_lays_82 : decode cX7_lays 82 = .ok (.iload 4, 2) := by decide +kernel
theorem dX7_lays_84 : decode cX7_lays 84 = .ok (.iconst 1, 1) := by decide +kernel
theorem dX7_lays_85 : decode cX7_lays 85 = .ok (.bastore, 1) := by decide +kernel
theorem dX7_lays_86 : decode cX7_lays 86 = .ok (.iload 4, 2) := by decide +kernel
theorem dX7_lays_88 : decode cX7_lays 88 = .ok (.aload_n 0, 1) := by decide +kernel
theorem dX7_lays_89 : decode cX7_lays 89 = .ok (.getfield 25, 3) := by decide +kernel
theorem dX7_lays_92 : decode cX7_lays 92 = .ok (.iload_n 3, 1) := by decide +kernel
theorem dX7_lays_93 : decode cX7_lays 93 = .ok (.iaload, 1) := by decide +kernel
theorem dX7_lays_94 : decode cX7_lays 94 = .ok (.iadd, 1) := by decide +kernel
theorem dX7_lays_95 : decode cX7_lays 95 = .ok (.istore 4, 2) := by decide +kernel
theorem dX7_lays_97 : decode cX7_lays 97 = .ok (.goto (-25), 3) := by decide +kernel
theorem dX7_lays_100 : decode cX7_lays 100 = .ok (.iinc 3 1, 3) := by decide +kernel
theorem dX7_lays_103 : decode cX7_lays 103 = .ok (.goto (-71), 3) := by decide +kernel
theorem dX7_lays_106 : decode cX7_lays 106 = .ok (.return_, 1) := by decide +kernel
theorem dX7_leftBy_0 : decode cX7_leftBy 0 = .ok (.iconst 0, 1) := by decide +kernel
theorem dX7_leftBy_1 : decode cX7_leftBy 1 = .ok (.istore_n 3, 1) := by decide +kernel
theorem dX7_leftBy_2 : decode cX7_leftBy 2 = .ok (.iload_n 2, 1) := by decide +kernel
theorem dX7_leftBy_3 : decode cX7_leftBy 3 = .ok (.istore 4, 2) := by decide +kernel
theorem dX7_leftBy_5 : decode cX7_leftBy 5 = .ok (.iload 4, 2) := by decide +kernel
theorem dX7_leftBy_7 : decode cX7_leftBy 7 = .ok (.iload_n 1, 1) := by decide +kernel
theorem dX7_leftBy_8 : decode cX7_leftBy 8 = .ok (.if_icmp .gt 30, 3) := by decide +kernel
theorem dX7_leftBy_11 : decode cX7_leftBy 11 = .ok (.iload_n 3, 1) := by decide +kernel
theorem dX7_leftBy_12 : decode cX7_leftBy 12 = .ok (.aload_n 0, 1) := by decide +kernel
theorem dX7_leftBy_13 : decode cX7_leftBy 13 = .ok (.getfield 28, 3) := by decide +kernel
theorem dX7_leftBy_16 : decode cX7_leftBy 16 = .ok (.iload 4, 2) := by decide +kernel
theorem dX7_leftBy_18 : decode cX7_leftBy 18 = .ok (.baload, 1) := by decide +kernel
theorem dX7_leftBy_19 : decode cX7_leftBy 19 = .ok (.ifCond .eq 7, 3) := by decide +kernel
theorem dX7_leftBy_22 : decode cX7_leftBy 22 = .ok (.iconst 0, 1) := by decide +kernel
theorem dX7_leftBy_23 : decode cX7_leftBy 23 = .ok (.goto 4, 3) := by decide +kernel
theorem dX7_leftBy_26 : decode cX7_leftBy 26 = .ok (.iconst 1, 1) := by decide +kernel
theorem dX7_leftBy_27 : decode cX7_leftBy 27 = .ok (.iadd, 1) := by decide +kernel
theorem dX7_leftBy_28 : decode cX7_leftBy 28 = .ok (.istore_n 3, 1) := by decide +kernel
theorem dX7_leftBy_29 : decode cX7_leftBy 29 = .ok (.iload 4, 2) := by decide +kernel
theorem dX7_leftBy_31 : decode cX7_leftBy 31 = .ok (.iload_n 2, 1) := by decide +kernel
theorem dX7_leftBy_32 : decode cX7_leftBy 32 = .ok (.iadd, 1) := by decide +kernel
theorem dX7_leftBy_33 : decode cX7_leftBy 33 = .ok (.istore 4, 2) := by decide +kernel
theorem dX7_leftBy_35 : decode cX7_leftBy 35 = .ok (.goto (-30), 3) := by decide +kernel
theorem dX7_leftBy_38 : decode cX7_leftBy 38 = .ok (.iload_n 3, 1) := by decide +kernel
theorem dX7_leftBy_39 : decode cX7_leftBy 39 = .ok (.ireturn, 1) := by decide +kernel
set_option maxRecDepth 20000 in
theorem ggX7_leftIn_X7_lays : GoodIn wsX7_leftIn wsX7_lays := goodIn_r _ [6, 1, 7, 8, 13, 14, 15, 16, 17, 18, 19, 20, 21, 22, 23, 24] (by decide +kernel) (by decide +kernel)
set_option maxRecDepth 20000 in
theorem gX7_leftIn_X7_lays : GoodIn wsX7_leftIn (wsV RX7 46 RX7 yX7_lays wsX7_lays) := goodIn_app (goodIn_of _ (by decide +kernel)) ggX7_leftIn_X7_lays
set_option maxRecDepth 20000 in
theorem ggX7_leftIn_X7_leftBy : GoodIn wsX7_leftIn wsX7_leftBy := goodIn_r _ [12, 7, 13, 14, 15, 16, 17, 18, 19, 20, 21, 22, 23, 24] (by decide +kernel) (by decide +kernel)
set_option maxRecDepth 20000 in
theorem gX7_leftIn_X7_leftBy : GoodIn wsX7_leftIn (wsV RX7 50 RX7 yX7_leftBy wsX7_leftBy) := goodIn_app (goodIn_of _ (by decide +kernel)) ggX7_leftIn_X7_leftBy
theorem dX7_leftIn_0 : decode cX7_leftIn 0 = .ok (.aload_n 0, 1) := by decide +kernel
theorem dX7_leftIn_1 : decode cX7_leftIn 1 = .ok (.iload_n 1, 1) := by decide +kernel
theorem dX7_leftIn_2 : decode cX7_leftIn 2 = .ok (.invokevirtual 46, 3) := by decide +kernel
theorem dX7_leftIn_5 : decode cX7_leftIn 5 = .ok (.aload_n 0, 1) := by decide +kernel
theorem dX7_leftIn_6 : decode cX7_leftIn 6 = .ok (.aload_n 0, 1) := by decide +kernel
theorem dX7_leftIn_7 : decode cX7_leftIn 7 = .ok (.getfield 7, 3) := by decide +kernel
theorem dX7_leftIn_10 : decode cX7_leftIn 10 = .ok (.bipush 42, 2) := by decide +kernel
theorem dX7_leftIn_12 : decode cX7_leftIn 12 = .ok (.iload_n 1, 1) := by decide +kernel
theorem dX7_leftIn_13 : decode cX7_leftIn 13 = .ok (.imul, 1) := by decide +kernel
theorem dX7_leftIn_14 : decode cX7_leftIn 14 = .ok (.iaload, 1) := by decide +kernel
theorem dX7_leftIn_15 : decode cX7_leftIn 15 = .ok (.iconst 1, 1) := by decide +kernel
theorem dX7_leftIn_16 : decode cX7_leftIn 16 = .ok (.invokevirtual 50, 3) := by decide +kernel
theorem dX7_leftIn_19 : decode cX7_leftIn 19 = .ok (.ireturn, 1) := by decide +kernel
theorem dX7_comes_0 : decode cX7_comes 0 = .ok (.bipush 42, 2) := by decide +kernel
theorem dX7_comes_2 : decode cX7_comes 2 = .ok (.iload_n 1, 1) := by decide +kernel
theorem dX7_comes_3 : decode cX7_comes 3 = .ok (.imul, 1) := by decide +kernel
theorem dX7_comes_4 : decode cX7_comes 4 = .ok (.istore_n 3, 1) := by decide +kernel
theorem dX7_comes_5 : decode cX7_comes 5 = .ok (.aload_n 0, 1) := by decide +kernel
theorem dX7_comes_6 : decode cX7_comes 6 = .ok (.getfield 7, 3) := by decide +kernel
theorem dX7_comes_9 : decode cX7_comes 9 = .ok (.iload_n 3, 1) := by decide +kernel
theorem dX7_comes_10 : decode cX7_comes 10 = .ok (.iconst 2, 1) := by decide +kernel
theorem dX7_comes_11 : decode cX7_comes 11 = .ok (.iadd, 1) := by decide +kernel
theorem dX7_comes_12 : decode cX7_comes 12 = .ok (.aload_n 0, 1) := by decide +kernel
theorem dX7_comes_13 : decode cX7_comes 13 = .ok (.getfield 7, 3) := by decide +kernel
theorem dX7_comes_16 : decode cX7_comes 16 = .ok (.iload_n 3, 1) := by decide +kernel
theorem dX7_comes_17 : decode cX7_comes 17 = .ok (.iconst 1, 1) := by decide +kernel
theorem dX7_comes_18 : decode cX7_comes 18 = .ok (.iadd, 1) := by decide +kernel
theorem dX7_comes_19 : decode cX7_comes 19 = .ok (.iaload, 1) := by decide +kernel
theorem dX7_comes_20 : decode cX7_comes 20 = .ok (.iadd, 1) := by decide +kernel
theorem dX7_comes_21 : decode cX7_comes 21 = .ok (.iload_n 2, 1) := by decide +kernel
theorem dX7_comes_22 : decode cX7_comes 22 = .ok (.iastore, 1) := by decide +kernel
theorem dX7_comes_23 : decode cX7_comes 23 = .ok (.aload_n 0, 1) := by decide +kernel
theorem dX7_comes_24 : decode cX7_comes 24 = .ok (.getfield 7, 3) := by decide +kernel
theorem dX7_comes_27 : decode cX7_comes 27 = .ok (.iload_n 3, 1) := by decide +kernel
theorem dX7_comes_28 : decode cX7_comes 28 = .ok (.iconst 1, 1) := by decide +kernel
theorem dX7_comes_29 : decode cX7_comes 29 = .ok (.iadd, 1) := by decide +kernel
theorem dX7_comes_30 : decode cX7_comes 30 = .ok (.dup2, 1) := by decide +kernel
theorem dX7_comes_31 : decode cX7_comes 31 = .ok (.iaload, 1) := by decide +kernel
theorem dX7_comes_32 : decode cX7_comes 32 = .ok (.iconst 1, 1) := by decide +kernel
theorem dX7_comes_33 : decode cX7_comes 33 = .ok (.iadd, 1) := by decide +kernel
theorem dX7_comes_34 : decode cX7_comes 34 = .ok (.iastore, 1) := by decide +kernel
theorem dX7_comes_35 : decode cX7_comes 35 = .ok (.return_, 1) := by decide +kernel
set_option maxRecDepth 20000 in
theorem ggX7_strikesTo_X7_next : GoodIn wsX7_strikesTo wsX7_next := goodIn_r _ [5, 6, 7, 12, 13, 14, 15, 16, 17, 18, 19, 20, 21, 22, 23] (by decide +kernel) (by decide +kernel)
set_option maxRecDepth 20000 in
theorem gX7_strikesTo_X7_next : GoodIn wsX7_strikesTo (wsV RX7 54 RX7 yX7_next wsX7_next) := goodIn_app (goodIn_of _ (by decide +kernel)) ggX7_strikesTo_X7_next
set_option maxRecDepth 20000 in
theorem ggX7_strikesTo_X7_comes : GoodIn wsX7_strikesTo wsX7_comes := goodIn_r _ [11, 6, 12, 13, 14, 15, 16, 17, 18, 19, 20, 21, 22, 23] (by decide +kernel) (by decide +kernel)
set_option maxRecDepth 20000 in
theorem gX7_strikesTo_X7_comes : GoodIn wsX7_strikesTo (wsV RX7 58 RX7 yX7_comes wsX7_comes) := goodIn_app (goodIn_of _ (by decide +kernel)) ggX7_strikesTo_X7_comes
theorem dX7_strikesTo_0 : decode cX7_strikesTo 0 = .ok (.iconst 0, 1) := by decide +kernel
theorem dX7_strikesTo_1 : decode cX7_strikesTo 1 = .ok (.istore_n 3, 1) := by decide +kernel
theorem dX7_strikesTo_2 : decode cX7_strikesTo 2 = .ok (.aload_n 0, 1) := by decide +kernel
theorem dX7_strikesTo_3 : decode cX7_strikesTo 3 = .ok (.iload_n 1, 1) := by decide +kernel
theorem dX7_strikesTo_4 : decode cX7_strikesTo 4 = .ok (.invokevirtual 54, 3) := by decide +kernel
theorem dX7_strikesTo_7 : decode cX7_strikesTo 7 = .ok (.ifCond .le 24, 3) := by decide +kernel
theorem dX7_strikesTo_10 : decode cX7_strikesTo 10 = .ok (.aload_n 0, 1) := by decide +kernel
theorem dX7_strikesTo_11 : decode cX7_strikesTo 11 = .ok (.iload_n 1, 1) := by decide +kernel
theorem dX7_strikesTo_12 : decode cX7_strikesTo 12 = .ok (.invokevirtual 54, 3) := by decide +kernel
theorem dX7_strikesTo_15 : decode cX7_strikesTo 15 = .ok (.iload_n 2, 1) := by decide +kernel
theorem dX7_strikesTo_16 : decode cX7_strikesTo 16 = .ok (.if_icmp .gt 15, 3) := by decide +kernel
theorem dX7_strikesTo_19 : decode cX7_strikesTo 19 = .ok (.aload_n 0, 1) := by decide +kernel
theorem dX7_strikesTo_20 : decode cX7_strikesTo 20 = .ok (.iload_n 1, 1) := by decide +kernel
theorem dX7_strikesTo_21 : decode cX7_strikesTo 21 = .ok (.iconst 1, 1) := by decide +kernel
theorem dX7_strikesTo_22 : decode cX7_strikesTo 22 = .ok (.invokevirtual 58, 3) := by decide +kernel
theorem dX7_strikesTo_25 : decode cX7_strikesTo 25 = .ok (.iinc 3 1, 3) := by decide +kernel
theorem dX7_strikesTo_28 : decode cX7_strikesTo 28 = .ok (.goto (-26), 3) := by decide +kernel
theorem dX7_strikesTo_31 : decode cX7_strikesTo 31 = .ok (.iload_n 3, 1) := by decide +kernel
theorem dX7_strikesTo_32 : decode cX7_strikesTo 32 = .ok (.ireturn, 1) := by decide +kernel
theorem dX7_bounds_0 : decode cX7_bounds 0 = .ok (.aload_n 0, 1) := by decide +kernel
theorem dX7_bounds_1 : decode cX7_bounds 1 = .ok (.getfield 7, 3) := by decide +kernel
theorem dX7_bounds_4 : decode cX7_bounds 4 = .ok (.bipush 42, 2) := by decide +kernel
theorem dX7_bounds_6 : decode cX7_bounds 6 = .ok (.iload_n 1, 1) := by decide +kernel
theorem dX7_bounds_7 : decode cX7_bounds 7 = .ok (.imul, 1) := by decide +kernel
theorem dX7_bounds_8 : decode cX7_bounds 8 = .ok (.iload_n 2, 1) := by decide +kernel
theorem dX7_bounds_9 : decode cX7_bounds 9 = .ok (.iastore, 1) := by decide +kernel
theorem dX7_bounds_10 : decode cX7_bounds 10 = .ok (.aload_n 0, 1) := by decide +kernel
theorem dX7_bounds_11 : decode cX7_bounds 11 = .ok (.getfield 7, 3) := by decide +kernel
theorem dX7_bounds_14 : decode cX7_bounds 14 = .ok (.bipush 42, 2) := by decide +kernel
theorem dX7_bounds_16 : decode cX7_bounds 16 = .ok (.iload_n 1, 1) := by decide +kernel
theorem dX7_bounds_17 : decode cX7_bounds 17 = .ok (.imul, 1) := by decide +kernel
theorem dX7_bounds_18 : decode cX7_bounds 18 = .ok (.iconst 1, 1) := by decide +kernel
theorem dX7_bounds_19 : decode cX7_bounds 19 = .ok (.iadd, 1) := by decide +kernel
theorem dX7_bounds_20 : decode cX7_bounds 20 = .ok (.iconst 0, 1) := by decide +kernel
theorem dX7_bounds_21 : decode cX7_bounds 21 = .ok (.iastore, 1) := by decide +kernel
theorem dX7_bounds_22 : decode cX7_bounds 22 = .ok (.return_, 1) := by decide +kernel
theorem dX7_divides_0 : decode cX7_divides 0 = .ok (.aload_n 0, 1) := by decide +kernel
theorem dX7_divides_1 : decode cX7_divides 1 = .ok (.getfield 7, 3) := by decide +kernel
theorem dX7_divides_4 : decode cX7_divides 4 = .ok (.bipush 42, 2) := by decide +kernel
theorem dX7_divides_6 : decode cX7_divides 6 = .ok (.iload_n 1, 1) := by decide +kernel
theorem dX7_divides_7 : decode cX7_divides 7 = .ok (.imul, 1) := by decide +kernel
theorem dX7_divides_8 : decode cX7_divides 8 = .ok (.iaload, 1) := by decide +kernel
theorem dX7_divides_9 : decode cX7_divides 9 = .ok (.istore_n 2, 1) := by decide +kernel
theorem dX7_divides_10 : decode cX7_divides 10 = .ok (.aload_n 0, 1) := by decide +kernel
theorem dX7_divides_11 : decode cX7_divides 11 = .ok (.iconst 0, 1) := by decide +kernel
theorem dX7_divides_12 : decode cX7_divides 12 = .ok (.putfield 61, 3) := by decide +kernel
theorem dX7_divides_15 : decode cX7_divides 15 = .ok (.iconst 1, 1) := by decide +kernel
theorem dX7_divides_16 : decode cX7_divides 16 = .ok (.istore_n 3, 1) := by decide +kernel
theorem dX7_divides_17 : decode cX7_divides 17 = .ok (.iload_n 3, 1) := by decide +kernel
theorem dX7_divides_18 : decode cX7_divides 18 = .ok (.iload_n 2, 1) := by decide +kernel
theorem dX7_divides_19 : decode cX7_divides 19 = .ok (.if_icmp .gt 42, 3) := by decide +kernel
theorem dX7_divides_22 : decode cX7_divides 22 = .ok (.aload_n 0, 1) := by decide +kernel
theorem dX7_divides_23 : decode cX7_divides 23 = .ok (.getfield 31, 3) := by decide +kernel
theorem dX7_divides_26 : decode cX7_divides 26 = .ok (.aload_n 0, 1) := by decide +kernel
theorem dX7_divides_27 : decode cX7_divides 27 = .ok (.getfield 61, 3) := by decide +kernel
theorem dX7_divides_30 : decode cX7_divides 30 = .ok (.iload_n 2, 1) := by decide +kernel
theorem dX7_divides_31 : decode cX7_divides 31 = .ok (.iload_n 3, 1) := by decide +kernel
theorem dX7_divides_32 : decode cX7_divides 32 = .ok (.idiv, 1) := by decide +kernel
theorem dX7_divides_33 : decode cX7_divides 33 = .ok (.iastore, 1) := by decide +kernel
theorem dX7_divides_34 : decode cX7_divides 34 = .ok (.iload_n 2, 1) := by decide +kernel
theorem dX7_divides_35 : decode cX7_divides 35 = .ok (.aload_n 0, 1) := by decide +kernel
theorem dX7_divides_36 : decode cX7_divides 36 = .ok (.getfield 31, 3) := by decide +kernel
theorem dX7_divides_39 : decode cX7_divides 39 = .ok (.aload_n 0, 1) := by decide +kernel
theorem dX7_divides_40 : decode cX7_divides 40 = .ok (.getfield 61, 3) := by decide +kernel
theorem dX7_divides_43 : decode cX7_divides 43 = .ok (.iaload, 1) := by decide +kernel
theorem dX7_divides_44 : decode cX7_divides 44 = .ok (.idiv, 1) := by decide +kernel
theorem dX7_divides_45 : decode cX7_divides 45 = .ok (.iconst 1, 1) := by decide +kernel
theorem dX7_divides_46 : decode cX7_divides 46 = .ok (.iadd, 1) := by decide +kernel
theorem dX7_divides_47 : decode cX7_divides 47 = .ok (.istore_n 3, 1) := by decide +kernel
theorem dX7_divides_48 : decode cX7_divides 48 = .ok (.aload_n 0, 1) := by decide +kernel
theorem dX7_divides_49 : decode cX7_divides 49 = .ok (.dup, 1) := by decide +kernel
theorem dX7_divides_50 : decode cX7_divides 50 = .ok (.getfield 61, 3) := by decide +kernel
theorem dX7_divides_53 : decode cX7_divides 53 = .ok (.iconst 1, 1) := by decide +kernel
theorem dX7_divides_54 : decode cX7_divides 54 = .ok (.iadd, 1) := by decide +kernel
theorem dX7_divides_55 : decode cX7_divides 55 = .ok (.putfield 61, 3) := by decide +kernel
theorem dX7_divides_58 : decode cX7_divides 58 = .ok (.goto (-41), 3) := by decide +kernel
theorem dX7_divides_61 : decode cX7_divides 61 = .ok (.return_, 1) := by decide +kernel
set_option maxRecDepth 20000 in
theorem ggX7_placeOf_X7_divides : GoodIn wsX7_placeOf wsX7_divides := goodIn_r _ [7, 8, 1, 2, 9, 10, 11, 12, 13, 14, 15, 16, 17, 18, 19, 20] (by decide +kernel) (by decide +kernel)
set_option maxRecDepth 20000 in
theorem gX7_placeOf_X7_divides : GoodIn wsX7_placeOf (wsV RX7 64 RX7 yX7_divides wsX7_divides) := goodIn_app (goodIn_of _ (by decide +kernel)) ggX7_placeOf_X7_divides
theorem dX7_placeOf_0 : decode cX7_placeOf 0 = .ok (.aload_n 0, 1) := by decide +kernel
theorem dX7_placeOf_1 : decode cX7_placeOf 1 = .ok (.iload_n 1, 1) := by decide +kernel
theorem dX7_placeOf_2 : decode cX7_placeOf 2 = .ok (.invokevirtual 64, 3) := by decide +kernel
theorem dX7_placeOf_5 : decode cX7_placeOf 5 = .ok (.iconst (-1), 1) := by decide +kernel
theorem dX7_placeOf_6 : decode cX7_placeOf 6 = .ok (.istore_n 3, 1) := by decide +kernel
theorem dX7_placeOf_7 : decode cX7_placeOf 7 = .ok (.iconst 0, 1) := by decide +kernel
theorem dX7_placeOf_8 : decode cX7_placeOf 8 = .ok (.istore 4, 2) := by decide +kernel
theorem dX7_placeOf_10 : decode cX7_placeOf 10 = .ok (.iload 4, 2) := by decide +kernel
theorem dX7_placeOf_12 : decode cX7_placeOf 12 = .ok (.aload_n 0, 1) := by decide +kernel
theorem dX7_placeOf_13 : decode cX7_placeOf 13 = .ok (.getfield 61, 3) := by decide +kernel
theorem dX7_placeOf_16 : decode cX7_placeOf 16 = .ok (.if_icmp .ge 27, 3) := by decide +kernel
theorem dX7_placeOf_19 : decode cX7_placeOf 19 = .ok (.aload_n 0, 1) := by decide +kernel
theorem dX7_placeOf_20 : decode cX7_placeOf 20 = .ok (.getfield 31, 3) := by decide +kernel
theorem dX7_placeOf_23 : decode cX7_placeOf 23 = .ok (.iload 4, 2) := by decide +kernel
theorem dX7_placeOf_25 : decode cX7_placeOf 25 = .ok (.iaload, 1) := by decide +kernel
theorem dX7_placeOf_26 : decode cX7_placeOf 26 = .ok (.iload_n 2, 1) := by decide +kernel
theorem dX7_placeOf_27 : decode cX7_placeOf 27 = .ok (.if_icmp .ne 8, 3) := by decide +kernel
theorem dX7_placeOf_30 : decode cX7_placeOf 30 = .ok (.iload 4, 2) := by decide +kernel
theorem dX7_placeOf_32 : decode cX7_placeOf 32 = .ok (.goto 4, 3) := by decide +kernel
theorem dX7_placeOf_35 : decode cX7_placeOf 35 = .ok (.iload_n 3, 1) := by decide +kernel
theorem dX7_placeOf_36 : decode cX7_placeOf 36 = .ok (.istore_n 3, 1) := by decide +kernel
theorem dX7_placeOf_37 : decode cX7_placeOf 37 = .ok (.iinc 4 1, 3) := by decide +kernel
theorem dX7_placeOf_40 : decode cX7_placeOf 40 = .ok (.goto (-30), 3) := by decide +kernel
theorem dX7_placeOf_43 : decode cX7_placeOf 43 = .ok (.iload_n 3, 1) := by decide +kernel
theorem dX7_placeOf_44 : decode cX7_placeOf 44 = .ok (.ireturn, 1) := by decide +kernel
set_option maxRecDepth 20000 in
theorem ggX7_isQuotient_X7_divides : GoodIn wsX7_isQuotient wsX7_divides := goodIn_r _ [6, 7, 1, 8, 12, 13, 14, 15, 16, 17, 18, 19, 20, 21, 22, 23] (by decide +kernel) (by decide +kernel)
set_option maxRecDepth 20000 in
theorem gX7_isQuotient_X7_divides : GoodIn wsX7_isQuotient (wsV RX7 64 RX7 yX7_divides wsX7_divides) := goodIn_app (goodIn_of _ (by decide +kernel)) ggX7_isQuotient_X7_divides
set_option maxRecDepth 20000 in
theorem ggX7_isQuotient_X7_in : GoodIn wsX7_isQuotient wsX7_in := goodIn_r _ [11] (by decide +kernel) (by decide +kernel)
set_option maxRecDepth 20000 in
theorem gX7_isQuotient_X7_in : GoodIn wsX7_isQuotient (va_wsS RX7 67 yX7_in wsX7_in) := goodIn_app (goodIn_of _ (by decide +kernel)) ggX7_isQuotient_X7_in
theorem dX7_isQuotient_0 : decode cX7_isQuotient 0 = .ok (.aload_n 0, 1) := by decide +kernel
theorem dX7_isQuotient_1 : decode cX7_isQuotient 1 = .ok (.iconst 0, 1) := by decide +kernel
theorem dX7_isQuotient_2 : decode cX7_isQuotient 2 = .ok (.invokevirtual 64, 3) := by decide +kernel
theorem dX7_isQuotient_5 : decode cX7_isQuotient 5 = .ok (.iload_n 1, 1) := by decide +kernel
theorem dX7_isQuotient_6 : decode cX7_isQuotient 6 = .ok (.iconst 0, 1) := by decide +kernel
theorem dX7_isQuotient_7 : decode cX7_isQuotient 7 = .ok (.aload_n 0, 1) := by decide +kernel
theorem dX7_isQuotient_8 : decode cX7_isQuotient 8 = .ok (.getfield 61, 3) := by decide +kernel
theorem dX7_isQuotient_11 : decode cX7_isQuotient 11 = .ok (.iconst 1, 1) := by decide +kernel
theorem dX7_isQuotient_12 : decode cX7_isQuotient 12 = .ok (.isub, 1) := by decide +kernel
theorem dX7_isQuotient_13 : decode cX7_isQuotient 13 = .ok (.invokestatic 67, 3) := by decide +kernel
theorem dX7_isQuotient_16 : decode cX7_isQuotient 16 = .ok (.ireturn, 1) := by decide +kernel
set_option maxRecDepth 20000 in
theorem ggX7_append_X7_in : GoodIn wsX7_append wsX7_in := goodIn_r _ [6] (by decide +kernel) (by decide +kernel)
set_option maxRecDepth 20000 in
theorem gX7_append_X7_in : GoodIn wsX7_append (va_wsS RX7 67 yX7_in wsX7_in) := goodIn_app (goodIn_of _ (by decide +kernel)) ggX7_append_X7_in
set_option maxRecDepth 20000 in
theorem ggX7_append_X7_goes : GoodIn wsX7_append wsX7_goes := goodIn_r _ [10, 11, 12, 13, 14, 15, 16, 17, 18, 19, 20, 21, 22, 23] (by decide +kernel) (by decide +kernel)
set_option maxRecDepth 20000 in
theorem gX7_append_X7_goes : GoodIn wsX7_append (wsV RX7 74 RX7 yX7_goes wsX7_goes) := goodIn_app (goodIn_of _ (by decide +kernel)) ggX7_append_X7_goes
theorem dX7_append_0 : decode cX7_append 0 = .ok (.aload_n 0, 1) := by decide +kernel
theorem dX7_append_1 : decode cX7_append 1 = .ok (.iload_n 1, 1) := by decide +kernel
theorem dX7_append_2 : decode cX7_append 2 = .ok (.iconst 0, 1) := by decide +kernel
theorem dX7_append_3 : decode cX7_append 3 = .ok (.sipush 255, 3) := by decide +kernel
theorem dX7_append_6 : decode cX7_append 6 = .ok (.invokestatic 67, 3) := by decide +kernel
theorem dX7_append_9 : decode cX7_append 9 = .ok (.aload_n 0, 1) := by decide +kernel
theorem dX7_append_10 : decode cX7_append 10 = .ok (.getfield 71, 3) := by decide +kernel
theorem dX7_append_13 : decode cX7_append 13 = .ok (.bipush 60, 2) := by decide +kernel
theorem dX7_append_15 : decode cX7_append 15 = .ok (.if_icmp .ge 7, 3) := by decide +kernel
theorem dX7_append_18 : decode cX7_append 18 = .ok (.iconst 1, 1) := by decide +kernel
theorem dX7_append_19 : decode cX7_append 19 = .ok (.goto 4, 3) := by decide +kernel
theorem dX7_append_22 : decode cX7_append 22 = .ok (.iconst 0, 1) := by decide +kernel
theorem dX7_append_23 : decode cX7_append 23 = .ok (.invokevirtual 74, 3) := by decide +kernel
theorem dX7_append_26 : decode cX7_append 26 = .ok (.ifCond .ne 5, 3) := by decide +kernel
theorem dX7_append_29 : decode cX7_append 29 = .ok (.iconst 0, 1) := by decide +kernel
theorem dX7_append_30 : decode cX7_append 30 = .ok (.ireturn, 1) := by decide +kernel
theorem dX7_append_31 : decode cX7_append 31 = .ok (.aload_n 0, 1) := by decide +kernel
theorem dX7_append_32 : decode cX7_append 32 = .ok (.getfield 17, 3) := by decide +kernel
theorem dX7_append_35 : decode cX7_append 35 = .ok (.aload_n 0, 1) := by decide +kernel
theorem dX7_append_36 : decode cX7_append 36 = .ok (.getfield 71, 3) := by decide +kernel
theorem dX7_append_39 : decode cX7_append 39 = .ok (.iload_n 1, 1) := by decide +kernel
theorem dX7_append_40 : decode cX7_append 40 = .ok (.i2c, 1) := by decide +kernel
theorem dX7_append_41 : decode cX7_append 41 = .ok (.castore, 1) := by decide +kernel
theorem dX7_append_42 : decode cX7_append 42 = .ok (.aload_n 0, 1) := by decide +kernel
theorem dX7_append_43 : decode cX7_append 43 = .ok (.dup, 1) := by decide +kernel
theorem dX7_append_44 : decode cX7_append 44 = .ok (.getfield 71, 3) := by decide +kernel
theorem dX7_append_47 : decode cX7_append 47 = .ok (.iconst 1, 1) := by decide +kernel
theorem dX7_append_48 : decode cX7_append 48 = .ok (.iadd, 1) := by decide +kernel
theorem dX7_append_49 : decode cX7_append 49 = .ok (.putfield 71, 3) := by decide +kernel
theorem dX7_append_52 : decode cX7_append 52 = .ok (.aload_n 0, 1) := by decide +kernel
theorem dX7_append_53 : decode cX7_append 53 = .ok (.getfield 71, 3) := by decide +kernel
theorem dX7_append_56 : decode cX7_append 56 = .ok (.ireturn, 1) := by decide +kernel
theorem dX7_clearText_0 : decode cX7_clearText 0 = .ok (.aload_n 0, 1) := by decide +kernel
theorem dX7_clearText_1 : decode cX7_clearText 1 = .ok (.iconst 0, 1) := by decide +kernel
theorem dX7_clearText_2 : decode cX7_clearText 2 = .ok (.putfield 35, 3) := by decide +kernel
theorem dX7_clearText_5 : decode cX7_clearText 5 = .ok (.aload_n 0, 1) := by decide +kernel
theorem dX7_clearText_6 : decode cX7_clearText 6 = .ok (.getfield 71, 3) := by decide +kernel
theorem dX7_clearText_9 : decode cX7_clearText 9 = .ok (.istore_n 1, 1) := by decide +kernel
theorem dX7_clearText_10 : decode cX7_clearText 10 = .ok (.aload_n 0, 1) := by decide +kernel
theorem dX7_clearText_11 : decode cX7_clearText 11 = .ok (.iconst 0, 1) := by decide +kernel
theorem dX7_clearText_12 : decode cX7_clearText 12 = .ok (.putfield 71, 3) := by decide +kernel
theorem dX7_clearText_15 : decode cX7_clearText 15 = .ok (.iload_n 1, 1) := by decide +kernel
theorem dX7_clearText_16 : decode cX7_clearText 16 = .ok (.ireturn, 1) := by decide +kernel
theorem dX7_at_0 : decode cX7_at 0 = .ok (.iload_n 1, 1) := by decide +kernel
theorem dX7_at_1 : decode cX7_at 1 = .ok (.aload_n 0, 1) := by decide +kernel
theorem dX7_at_2 : decode cX7_at 2 = .ok (.getfield 71, 3) := by decide +kernel
theorem dX7_at_5 : decode cX7_at 5 = .ok (.if_icmp .ge 12, 3) := by decide +kernel
theorem dX7_at_8 : decode cX7_at 8 = .ok (.aload_n 0, 1) := by decide +kernel
theorem dX7_at_9 : decode cX7_at 9 = .ok (.getfield 17, 3) := by decide +kernel
theorem dX7_at_12 : decode cX7_at 12 = .ok (.iload_n 1, 1) := by decide +kernel
theorem dX7_at_13 : decode cX7_at 13 = .ok (.caload, 1) := by decide +kernel
theorem dX7_at_14 : decode cX7_at 14 = .ok (.goto 4, 3) := by decide +kernel
theorem dX7_at_17 : decode cX7_at 17 = .ok (.iconst 0, 1) := by decide +kernel
theorem dX7_at_18 : decode cX7_at 18 = .ok (.ireturn, 1) := by decide +kernel
theorem dX7_letter_0 : decode cX7_letter 0 = .ok (.bipush 10, 2) := by decide +kernel
theorem dX7_letter_2 : decode cX7_letter 2 = .ok (.iload_n 0, 1) := by decide +kernel
theorem dX7_letter_3 : decode cX7_letter 3 = .ok (.imul, 1) := by decide +kernel
theorem dX7_letter_4 : decode cX7_letter 4 = .ok (.iload_n 1, 1) := by decide +kernel
theorem dX7_letter_5 : decode cX7_letter 5 = .ok (.iadd, 1) := by decide +kernel
theorem dX7_letter_6 : decode cX7_letter 6 = .ok (.tableswitch 196 0 34 #[154, 157, 160, 163, 166, 196, 196, 196, 196, 196, 169, 172, 175, 178, 181, 184, 196, 196, 196, 196, 169, 187, 190, 175, 184, 196, 196, 196, 196, 196, 190, 193, 190, 178, 163], 154) := by decide +kernel
theorem dX7_letter_160 : decode cX7_letter 160 = .ok (.bipush 98, 2) := by decide +kernel
theorem dX7_letter_162 : decode cX7_letter 162 = .ok (.ireturn, 1) := by decide +kernel
theorem dX7_letter_163 : decode cX7_letter 163 = .ok (.bipush 111, 2) := by decide +kernel
theorem dX7_letter_165 : decode cX7_letter 165 = .ok (.ireturn, 1) := by decide +kernel
theorem dX7_letter_166 : decode cX7_letter 166 = .ok (.bipush 117, 2) := by decide +kernel
theorem dX7_letter_168 : decode cX7_letter 168 = .ok (.ireturn, 1) := by decide +kernel
theorem dX7_letter_169 : decode cX7_letter 169 = .ok (.bipush 110, 2) := by decide +kernel
theorem dX7_letter_171 : decode cX7_letter 171 = .ok (.ireturn, 1) := by decide +kernel
theorem dX7_letter_172 : decode cX7_letter 172 = .ok (.bipush 100, 2) := by decide +kernel
theorem dX7_letter_174 : decode cX7_letter 174 = .ok (.ireturn, 1) := by decide +kernel
theorem dX7_letter_175 : decode cX7_letter 175 = .ok (.bipush 115, 2) := by decide +kernel
theorem dX7_letter_177 : decode cX7_letter 177 = .ok (.ireturn, 1) := by decide +kernel
theorem dX7_letter_178 : decode cX7_letter 178 = .ok (.bipush 116, 2) := by decide +kernel
theorem dX7_letter_180 : decode cX7_letter 180 = .ok (.ireturn, 1) := by decide +kernel
theorem dX7_letter_181 : decode cX7_letter 181 = .ok (.bipush 114, 2) := by decide +kernel
theorem dX7_letter_183 : decode cX7_letter 183 = .ok (.ireturn, 1) := by decide +kernel
theorem dX7_letter_184 : decode cX7_letter 184 = .ok (.bipush 105, 2) := by decide +kernel
theorem dX7_letter_186 : decode cX7_letter 186 = .ok (.ireturn, 1) := by decide +kernel
theorem dX7_letter_187 : decode cX7_letter 187 = .ok (.bipush 107, 2) := by decide +kernel
theorem dX7_letter_189 : decode cX7_letter 189 = .ok (.ireturn, 1) := by decide +kernel
theorem dX7_letter_190 : decode cX7_letter 190 = .ok (.bipush 101, 2) := by decide +kernel
theorem dX7_letter_192 : decode cX7_letter 192 = .ok (.ireturn, 1) := by decide +kernel
theorem dX7_letter_193 : decode cX7_letter 193 = .ok (.bipush 112, 2) := by decide +kernel
theorem dX7_letter_195 : decode cX7_letter 195 = .ok (.ireturn, 1) := by decide +kernel
theorem dX7_letter_196 : decode cX7_letter 196 = .ok (.bipush 97, 2) := by decide +kernel
theorem dX7_letter_198 : decode cX7_letter 198 = .ok (.ireturn, 1) := by decide +kernel
theorem dX7_letter_199 : decode cX7_letter 199 = .ok (.bipush 103, 2) := by decide +kernel
theorem dX7_letter_201 : decode cX7_letter 201 = .ok (.ireturn, 1) := by decide +kernel
theorem dX7_letter_202 : decode cX7_letter 202 = .ok (.iconst 0, 1) := by decide +kernel
theorem dX7_letter_203 : decode cX7_letter 203 = .ok (.ireturn, 1) := by decide +kernel
set_option maxRecDepth 20000 in
theorem ggX7_does_X7_bounds : GoodIn wsX7_does wsX7_bounds := goodIn_r _ [7, 1, 17, 18, 19, 20, 21, 22, 23, 24, 25, 26, 27, 28] (by decide +kernel) (by decide +kernel)
set_option maxRecDepth 20000 in
theorem gX7_does_X7_bounds : GoodIn wsX7_does (wsV RX7 78 RX7 yX7_bounds wsX7_bounds) := goodIn_app (goodIn_of _ (by decide +kernel)) ggX7_does_X7_bounds
set_option maxRecDepth 20000 in
theorem ggX7_does_X7_next : GoodIn wsX7_does wsX7_next := goodIn_r _ [11, 1, 12, 17, 18, 19, 20, 21, 22, 23, 24, 25, 26, 27, 28] (by decide +kernel) (by decide +kernel)
set_option maxRecDepth 20000 in
theorem gX7_does_X7_next : GoodIn wsX7_does (wsV RX7 54 RX7 yX7_next wsX7_next) := goodIn_app (goodIn_of _ (by decide +kernel)) ggX7_does_X7_next
set_option maxRecDepth 20000 in
theorem ggX7_does_X7_comes : GoodIn wsX7_does wsX7_comes := goodIn_r _ [16, 1, 17, 18, 19, 20, 21, 22, 23, 24, 25, 26, 27, 28] (by decide +kernel) (by decide +kernel)
set_option maxRecDepth 20000 in
theorem gX7_does_X7_comes : GoodIn wsX7_does (wsV RX7 58 RX7 yX7_comes wsX7_comes) := goodIn_app (goodIn_of _ (by decide +kernel)) ggX7_does_X7_comes
theorem dX7_does_0 : decode cX7_does 0 = .ok (.iload_n 1, 1) := by decide +kernel
theorem dX7_does_1 : decode cX7_does 1 = .ok (.ifCond .ne 12, 3) := by decide +kernel
theorem dX7_does_4 : decode cX7_does 4 = .ok (.aload_n 0, 1) := by decide +kernel
theorem dX7_does_5 : decode cX7_does 5 = .ok (.iconst 0, 1) := by decide +kernel
theorem dX7_does_6 : decode cX7_does 6 = .ok (.iload_n 2, 1) := by decide +kernel
theorem dX7_does_7 : decode cX7_does 7 = .ok (.invokevirtual 78, 3) := by decide +kernel
theorem dX7_does_10 : decode cX7_does 10 = .ok (.goto 67, 3) := by decide +kernel
theorem dX7_does_13 : decode cX7_does 13 = .ok (.iload_n 1, 1) := by decide +kernel
theorem dX7_does_14 : decode cX7_does 14 = .ok (.iconst 3, 1) := by decide +kernel
theorem dX7_does_15 : decode cX7_does 15 = .ok (.if_icmp .ne 13, 3) := by decide +kernel
theorem dX7_does_18 : decode cX7_does 18 = .ok (.aload_n 0, 1) := by decide +kernel
theorem dX7_does_19 : decode cX7_does 19 = .ok (.getfield 7, 3) := by decide +kernel
theorem dX7_does_22 : decode cX7_does 22 = .ok (.iconst 1, 1) := by decide +kernel
theorem dX7_does_23 : decode cX7_does 23 = .ok (.iconst 0, 1) := by decide +kernel
theorem dX7_does_24 : decode cX7_does 24 = .ok (.iastore, 1) := by decide +kernel
theorem dX7_does_25 : decode cX7_does 25 = .ok (.goto 52, 3) := by decide +kernel
theorem dX7_does_28 : decode cX7_does 28 = .ok (.iconst 0, 1) := by decide +kernel
theorem dX7_does_29 : decode cX7_does 29 = .ok (.istore_n 3, 1) := by decide +kernel
theorem dX7_does_30 : decode cX7_does 30 = .ok (.iload_n 3, 1) := by decide +kernel
theorem dX7_does_31 : decode cX7_does 31 = .ok (.iload_n 2, 1) := by decide +kernel
theorem dX7_does_32 : decode cX7_does 32 = .ok (.if_icmp .ge 45, 3) := by decide +kernel
theorem dX7_does_35 : decode cX7_does 35 = .ok (.aload_n 0, 1) := by decide +kernel
theorem dX7_does_36 : decode cX7_does 36 = .ok (.iconst 0, 1) := by decide +kernel
theorem dX7_does_37 : decode cX7_does 37 = .ok (.invokevirtual 54, 3) := by decide +kernel
theorem dX7_does_40 : decode cX7_does 40 = .ok (.ifCond .le 21, 3) := by decide +kernel
theorem dX7_does_43 : decode cX7_does 43 = .ok (.aload_n 0, 1) := by decide +kernel
theorem dX7_does_44 : decode cX7_does 44 = .ok (.iconst 0, 1) := by decide +kernel
theorem dX7_does_45 : decode cX7_does 45 = .ok (.iload_n 1, 1) := by decide +kernel
theorem dX7_does_46 : decode cX7_does 46 = .ok (.iconst 1, 1) := by decide +kernel
theorem dX7_does_47 : decode cX7_does 47 = .ok (.if_icmp .ne 7, 3) := by decide +kernel
theorem dX7_does_50 : decode cX7_does 50 = .ok (.iconst 1, 1) := by decide +kernel
theorem dX7_does_51 : decode cX7_does 51 = .ok (.goto 4, 3) := by decide +kernel
theorem dX7_does_54 : decode cX7_does 54 = .ok (.iconst 0, 1) := by decide +kernel
theorem dX7_does_55 : decode cX7_does 55 = .ok (.invokevirtual 58, 3) := by decide +kernel
theorem dX7_does_58 : decode cX7_does 58 = .ok (.goto 13, 3) := by decide +kernel
theorem dX7_does_61 : decode cX7_does 61 = .ok (.aload_n 0, 1) := by decide +kernel
theorem dX7_does_62 : decode cX7_does 62 = .ok (.dup, 1) := by decide +kernel
theorem dX7_does_63 : decode cX7_does 63 = .ok (.getfield 81, 3) := by decide +kernel
theorem dX7_does_66 : decode cX7_does 66 = .ok (.iconst 1, 1) := by decide +kernel
theorem dX7_does_67 : decode cX7_does 67 = .ok (.iadd, 1) := by decide +kernel
theorem dX7_does_68 : decode cX7_does 68 = .ok (.putfield 81, 3) := by decide +kernel
theorem dX7_does_71 : decode cX7_does 71 = .ok (.iinc 3 1, 3) := by decide +kernel
theorem dX7_does_74 : decode cX7_does 74 = .ok (.goto (-44), 3) := by decide +kernel
theorem dX7_does_77 : decode cX7_does 77 = .ok (.return_, 1) := by decide +kernel
set_option maxRecDepth 20000 in
theorem ggX7_reads_X7_at : GoodIn wsX7_reads wsX7_at := goodIn_r _ [6, 1, 7, 33, 34, 35, 36, 37, 38, 39, 40, 41, 42, 43, 44] (by decide +kernel) (by decide +kernel)
set_option maxRecDepth 20000 in
theorem gX7_reads_X7_at : GoodIn wsX7_reads (wsV RX7 84 RX7 yX7_at wsX7_at) := goodIn_app (goodIn_of _ (by decide +kernel)) ggX7_reads_X7_at
set_option maxRecDepth 20000 in
theorem ggX7_reads_X7_letter : GoodIn wsX7_reads wsX7_letter := goodIn_r _ [10] (by decide +kernel) (by decide +kernel)
set_option maxRecDepth 20000 in
theorem gX7_reads_X7_letter : GoodIn wsX7_reads (va_wsS RX7 87 yX7_letter wsX7_letter) := goodIn_app (goodIn_of _ (by decide +kernel)) ggX7_reads_X7_letter
set_option maxRecDepth 20000 in
theorem ggX7_reads_X7_in : GoodIn wsX7_reads wsX7_in := goodIn_r _ [13] (by decide +kernel) (by decide +kernel)
set_option maxRecDepth 20000 in
theorem gX7_reads_X7_in : GoodIn wsX7_reads (va_wsS RX7 67 yX7_in wsX7_in) := goodIn_app (goodIn_of _ (by decide +kernel)) ggX7_reads_X7_in
set_option maxRecDepth 20000 in
theorem ggX7_reads_X7_does : GoodIn wsX7_reads wsX7_does := goodIn_r _ [17, 18, 19, 20, 21, 22, 5, 23, 24, 25, 26, 27, 28, 29, 30, 31, 32, 33, 34, 35, 36, 37, 38, 39, 40, 41, 42, 43, 44] (by decide +kernel) (by decide +kernel)
set_option maxRecDepth 20000 in
theorem gX7_reads_X7_does : GoodIn wsX7_reads (wsV RX7 90 RX7 yX7_does wsX7_does) := goodIn_app (goodIn_of _ (by decide +kernel)) ggX7_reads_X7_does
theorem dX7_reads_0 : decode cX7_reads 0 = .ok (.iconst 0, 1) := by decide +kernel
theorem dX7_reads_1 : decode cX7_reads 1 = .ok (.istore_n 2, 1) := by decide +kernel
theorem dX7_reads_2 : decode cX7_reads 2 = .ok (.aload_n 0, 1) := by decide +kernel
theorem dX7_reads_3 : decode cX7_reads 3 = .ok (.iload_n 2, 1) := by decide +kernel
theorem dX7_reads_4 : decode cX7_reads 4 = .ok (.invokevirtual 84, 3) := by decide +kernel
theorem dX7_reads_7 : decode cX7_reads 7 = .ok (.istore_n 3, 1) := by decide +kernel
theorem dX7_reads_8 : decode cX7_reads 8 = .ok (.aload_n 0, 1) := by decide +kernel
theorem dX7_reads_9 : decode cX7_reads 9 = .ok (.iload_n 2, 1) := by decide +kernel
theorem dX7_reads_10 : decode cX7_reads 10 = .ok (.iconst 1, 1) := by decide +kernel
theorem dX7_reads_11 : decode cX7_reads 11 = .ok (.iadd, 1) := by decide +kernel
theorem dX7_reads_12 : decode cX7_reads 12 = .ok (.invokevirtual 84, 3) := by decide +kernel
theorem dX7_reads_15 : decode cX7_reads 15 = .ok (.istore 4, 2) := by decide +kernel
theorem dX7_reads_17 : decode cX7_reads 17 = .ok (.iload_n 3, 1) := by decide +kernel
theorem dX7_reads_18 : decode cX7_reads 18 = .ok (.bipush 98, 2) := by decide +kernel
theorem dX7_reads_20 : decode cX7_reads 20 = .ok (.if_icmp .ne 7, 3) := by decide +kernel
theorem dX7_reads_23 : decode cX7_reads 23 = .ok (.iconst 0, 1) := by decide +kernel
theorem dX7_reads_24 : decode cX7_reads 24 = .ok (.goto 35, 3) := by decide +kernel
theorem dX7_reads_27 : decode cX7_reads 27 = .ok (.iload_n 3, 1) := by decide +kernel
theorem dX7_reads_28 : decode cX7_reads 28 = .ok (.bipush 97, 2) := by decide +kernel
theorem dX7_reads_30 : decode cX7_reads 30 = .ok (.if_icmp .ne 7, 3) := by decide +kernel
theorem dX7_reads_33 : decode cX7_reads 33 = .ok (.iconst 3, 1) := by decide +kernel
theorem dX7_reads_34 : decode cX7_reads 34 = .ok (.goto 25, 3) := by decide +kernel
theorem dX7_reads_37 : decode cX7_reads 37 = .ok (.iload_n 3, 1) := by decide +kernel
theorem dX7_reads_38 : decode cX7_reads 38 = .ok (.bipush 115, 2) := by decide +kernel
theorem dX7_reads_40 : decode cX7_reads 40 = .ok (.if_icmp .ne 18, 3) := by decide +kernel
theorem dX7_reads_43 : decode cX7_reads 43 = .ok (.iload 4, 2) := by decide +kernel
theorem dX7_reads_45 : decode cX7_reads 45 = .ok (.bipush 112, 2) := by decide +kernel
theorem dX7_reads_47 : decode cX7_reads 47 = .ok (.if_icmp .ne 7, 3) := by decide +kernel
theorem dX7_reads_50 : decode cX7_reads 50 = .ok (.iconst 2, 1) := by decide +kernel
theorem dX7_reads_51 : decode cX7_reads 51 = .ok (.goto 8, 3) := by decide +kernel
theorem dX7_reads_54 : decode cX7_reads 54 = .ok (.iconst 1, 1) := by decide +kernel
theorem dX7_reads_55 : decode cX7_reads 55 = .ok (.goto 4, 3) := by decide +kernel
theorem dX7_reads_58 : decode cX7_reads 58 = .ok (.iconst (-1), 1) := by decide +kernel
theorem dX7_reads_59 : decode cX7_reads 59 = .ok (.istore 5, 2) := by decide +kernel
theorem dX7_reads_61 : decode cX7_reads 61 = .ok (.iload 5, 2) := by decide +kernel
theorem dX7_reads_63 : decode cX7_reads 63 = .ok (.ifCond .ge 5, 3) := by decide +kernel
theorem dX7_reads_66 : decode cX7_reads 66 = .ok (.iload_n 2, 1) := by decide +kernel
theorem dX7_reads_67 : decode cX7_reads 67 = .ok (.ireturn, 1) := by decide +kernel
theorem dX7_reads_68 : decode cX7_reads 68 = .ok (.iload_n 2, 1) := by decide +kernel
theorem dX7_reads_69 : decode cX7_reads 69 = .ok (.istore 6, 2) := by decide +kernel
theorem dX7_reads_71 : decode cX7_reads 71 = .ok (.iload 5, 2) := by decide +kernel
theorem dX7_reads_73 : decode cX7_reads 73 = .ok (.iload_n 2, 1) := by decide +kernel
theorem dX7_reads_74 : decode cX7_reads 74 = .ok (.iload 6, 2) := by decide +kernel
theorem dX7_reads_76 : decode cX7_reads 76 = .ok (.isub, 1) := by decide +kernel
theorem dX7_reads_77 : decode cX7_reads 77 = .ok (.invokestatic 87, 3) := by decide +kernel
theorem dX7_reads_80 : decode cX7_reads 80 = .ok (.ifCond .eq 28, 3) := by decide +kernel
theorem dX7_reads_83 : decode cX7_reads 83 = .ok (.aload_n 0, 1) := by decide +kernel
theorem dX7_reads_84 : decode cX7_reads 84 = .ok (.iload_n 2, 1) := by decide +kernel
theorem dX7_reads_85 : decode cX7_reads 85 = .ok (.invokevirtual 84, 3) := by decide +kernel
theorem dX7_reads_88 : decode cX7_reads 88 = .ok (.iload 5, 2) := by decide +kernel
theorem dX7_reads_90 : decode cX7_reads 90 = .ok (.iload_n 2, 1) := by decide +kernel
theorem dX7_reads_91 : decode cX7_reads 91 = .ok (.iload 6, 2) := by decide +kernel
theorem dX7_reads_93 : decode cX7_reads 93 = .ok (.isub, 1) := by decide +kernel
theorem dX7_reads_94 : decode cX7_reads 94 = .ok (.invokestatic 87, 3) := by decide +kernel
theorem dX7_reads_97 : decode cX7_reads 97 = .ok (.if_icmp .eq 5, 3) := by decide +kernel
theorem dX7_reads_100 : decode cX7_reads 100 = .ok (.iload_n 2, 1) := by decide +kernel
theorem dX7_reads_101 : decode cX7_reads 101 = .ok (.ireturn, 1) := by decide +kernel
theorem dX7_reads_102 : decode cX7_reads 102 = .ok (.iinc 2 1, 3) := by decide +kernel
theorem dX7_reads_105 : decode cX7_reads 105 = .ok (.goto (-34), 3) := by decide +kernel
theorem dX7_reads_108 : decode cX7_reads 108 = .ok (.iload 5, 2) := by decide +kernel
theorem dX7_reads_110 : decode cX7_reads 110 = .ok (.ifCond .ne 7, 3) := by decide +kernel
theorem dX7_reads_113 : decode cX7_reads 113 = .ok (.iconst 0, 1) := by decide +kernel
theorem dX7_reads_114 : decode cX7_reads 114 = .ok (.goto 4, 3) := by decide +kernel
theorem dX7_reads_117 : decode cX7_reads 117 = .ok (.iconst 1, 1) := by decide +kernel
theorem dX7_reads_118 : decode cX7_reads 118 = .ok (.istore 7, 2) := by decide +kernel
theorem dX7_reads_120 : decode cX7_reads 120 = .ok (.iload 5, 2) := by decide +kernel
theorem dX7_reads_122 : decode cX7_reads 122 = .ok (.ifCond .ne 71, 3) := by decide +kernel
theorem dX7_reads_125 : decode cX7_reads 125 = .ok (.aload_n 0, 1) := by decide +kernel
theorem dX7_reads_126 : decode cX7_reads 126 = .ok (.iload_n 2, 1) := by decide +kernel
theorem dX7_reads_127 : decode cX7_reads 127 = .ok (.invokevirtual 84, 3) := by decide +kernel
theorem dX7_reads_130 : decode cX7_reads 130 = .ok (.bipush 49, 2) := by decide +kernel
theorem dX7_reads_132 : decode cX7_reads 132 = .ok (.bipush 57, 2) := by decide +kernel
theorem dX7_reads_134 : decode cX7_reads 134 = .ok (.invokestatic 67, 3) := by decide +kernel
theorem dX7_reads_137 : decode cX7_reads 137 = .ok (.ifCond .ne 5, 3) := by decide +kernel
theorem dX7_reads_140 : decode cX7_reads 140 = .ok (.iload_n 2, 1) := by decide +kernel
theorem dX7_reads_141 : decode cX7_reads 141 = .ok (.ireturn, 1) := by decide +kernel
theorem dX7_reads_142 : decode cX7_reads 142 = .ok (.iload_n 2, 1) := by decide +kernel
theorem dX7_reads_143 : decode cX7_reads 143 = .ok (.istore 8, 2) := by decide +kernel
theorem dX7_reads_145 : decode cX7_reads 145 = .ok (.iload_n 2, 1) := by decide +kernel
theorem dX7_reads_146 : decode cX7_reads 146 = .ok (.iload 8, 2) := by decide +kernel
theorem dX7_reads_148 : decode cX7_reads 148 = .ok (.iconst 5, 1) := by decide +kernel
theorem dX7_reads_149 : decode cX7_reads 149 = .ok (.iadd, 1) := by decide +kernel
theorem dX7_reads_150 : decode cX7_reads 150 = .ok (.if_icmp .ge 40, 3) := by decide +kernel
theorem dX7_reads_153 : decode cX7_reads 153 = .ok (.aload_n 0, 1) := by decide +kernel
theorem dX7_reads_154 : decode cX7_reads 154 = .ok (.iload_n 2, 1) := by decide +kernel
theorem dX7_reads_155 : decode cX7_reads 155 = .ok (.invokevirtual 84, 3) := by decide +kernel
theorem dX7_reads_158 : decode cX7_reads 158 = .ok (.bipush 48, 2) := by decide +kernel
theorem dX7_reads_160 : decode cX7_reads 160 = .ok (.bipush 57, 2) := by decide +kernel
theorem dX7_reads_162 : decode cX7_reads 162 = .ok (.invokestatic 67, 3) := by decide +kernel
theorem dX7_reads_165 : decode cX7_reads 165 = .ok (.ifCond .eq 25, 3) := by decide +kernel
theorem dX7_reads_168 : decode cX7_reads 168 = .ok (.bipush 10, 2) := by decide +kernel
theorem dX7_reads_170 : decode cX7_reads 170 = .ok (.iload 7, 2) := by decide +kernel
theorem dX7_reads_172 : decode cX7_reads 172 = .ok (.imul, 1) := by decide +kernel
theorem dX7_reads_173 : decode cX7_reads 173 = .ok (.aload_n 0, 1) := by decide +kernel
theorem dX7_reads_174 : decode cX7_reads 174 = .ok (.iload_n 2, 1) := by decide +kernel
theorem dX7_reads_175 : decode cX7_reads 175 = .ok (.invokevirtual 84, 3) := by decide +kernel
theorem dX7_reads_178 : decode cX7_reads 178 = .ok (.iadd, 1) := by decide +kernel
theorem dX7_reads_179 : decode cX7_reads 179 = .ok (.bipush 48, 2) := by decide +kernel
theorem dX7_reads_181 : decode cX7_reads 181 = .ok (.isub, 1) := by decide +kernel
theorem dX7_reads_182 : decode cX7_reads 182 = .ok (.istore 7, 2) := by decide +kernel
theorem dX7_reads_184 : decode cX7_reads 184 = .ok (.iinc 2 1, 3) := by decide +kernel
theorem dX7_reads_187 : decode cX7_reads 187 = .ok (.goto (-42), 3) := by decide +kernel
theorem dX7_reads_190 : decode cX7_reads 190 = .ok (.goto 37, 3) := by decide +kernel
theorem dX7_reads_193 : decode cX7_reads 193 = .ok (.iload 5, 2) := by decide +kernel
theorem dX7_reads_195 : decode cX7_reads 195 = .ok (.iconst 3, 1) := by decide +kernel
theorem dX7_reads_196 : decode cX7_reads 196 = .ok (.if_icmp .ge 31, 3) := by decide +kernel
theorem dX7_reads_199 : decode cX7_reads 199 = .ok (.aload_n 0, 1) := by decide +kernel
theorem dX7_reads_200 : decode cX7_reads 200 = .ok (.iload_n 2, 1) := by decide +kernel
theorem dX7_reads_201 : decode cX7_reads 201 = .ok (.invokevirtual 84, 3) := by decide +kernel
theorem dX7_reads_204 : decode cX7_reads 204 = .ok (.bipush 50, 2) := by decide +kernel
theorem dX7_reads_206 : decode cX7_reads 206 = .ok (.bipush 57, 2) := by decide +kernel
theorem dX7_reads_208 : decode cX7_reads 208 = .ok (.invokestatic 67, 3) := by decide +kernel
theorem dX7_reads_211 : decode cX7_reads 211 = .ok (.ifCond .eq 16, 3) := by decide +kernel
theorem dX7_reads_214 : decode cX7_reads 214 = .ok (.aload_n 0, 1) := by decide +kernel
theorem dX7_reads_215 : decode cX7_reads 215 = .ok (.iload_n 2, 1) := by decide +kernel
theorem dX7_reads_216 : decode cX7_reads 216 = .ok (.invokevirtual 84, 3) := by decide +kernel
theorem dX7_reads_219 : decode cX7_reads 219 = .ok (.bipush 48, 2) := by decide +kernel
theorem dX7_reads_221 : decode cX7_reads 221 = .ok (.isub, 1) := by decide +kernel
theorem dX7_reads_222 : decode cX7_reads 222 = .ok (.istore 7, 2) := by decide +kernel
theorem dX7_reads_224 : decode cX7_reads 224 = .ok (.iinc 2 1, 3) := by decide +kernel
theorem dX7_reads_227 : decode cX7_reads 227 = .ok (.iload_n 1, 1) := by decide +kernel
theorem dX7_reads_228 : decode cX7_reads 228 = .ok (.ifCond .eq 11, 3) := by decide +kernel
theorem dX7_reads_231 : decode cX7_reads 231 = .ok (.aload_n 0, 1) := by decide +kernel
theorem dX7_reads_232 : decode cX7_reads 232 = .ok (.iload 5, 2) := by decide +kernel
theorem dX7_reads_234 : decode cX7_reads 234 = .ok (.iload 7, 2) := by decide +kernel
theorem dX7_reads_236 : decode cX7_reads 236 = .ok (.invokevirtual 90, 3) := by decide +kernel
theorem dX7_reads_239 : decode cX7_reads 239 = .ok (.iload_n 2, 1) := by decide +kernel
theorem dX7_reads_240 : decode cX7_reads 240 = .ok (.aload_n 0, 1) := by decide +kernel
theorem dX7_reads_241 : decode cX7_reads 241 = .ok (.getfield 71, 3) := by decide +kernel
theorem dX7_reads_244 : decode cX7_reads 244 = .ok (.if_icmp .lt 5, 3) := by decide +kernel
theorem dX7_reads_247 : decode cX7_reads 247 = .ok (.iconst (-1), 1) := by decide +kernel
theorem dX7_reads_248 : decode cX7_reads 248 = .ok (.ireturn, 1) := by decide +kernel
theorem dX7_reads_249 : decode cX7_reads 249 = .ok (.aload_n 0, 1) := by decide +kernel
theorem dX7_reads_250 : decode cX7_reads 250 = .ok (.iload_n 2, 1) := by decide +kernel
theorem dX7_reads_251 : decode cX7_reads 251 = .ok (.invokevirtual 84, 3) := by decide +kernel
theorem dX7_reads_254 : decode cX7_reads 254 = .ok (.bipush 44, 2) := by decide +kernel
theorem dX7_reads_256 : decode cX7_reads 256 = .ok (.if_icmp .eq 5, 3) := by decide +kernel
theorem dX7_reads_259 : decode cX7_reads 259 = .ok (.iload_n 2, 1) := by decide +kernel
theorem dX7_reads_260 : decode cX7_reads 260 = .ok (.ireturn, 1) := by decide +kernel
theorem dX7_reads_261 : decode cX7_reads 261 = .ok (.iinc 2 1, 3) := by decide +kernel
theorem dX7_reads_264 : decode cX7_reads 264 = .ok (.goto (-262), 3) := by decide +kernel
set_option maxRecDepth 20000 in
theorem ggX7_errorPosition_X7_reads : GoodIn wsX7_errorPosition wsX7_reads := goodIn_r _ [6, 7, 8, 9, 10, 5, 11, 12, 13, 14, 15, 16, 17, 18, 19, 20, 21, 22, 23, 24, 25, 26, 27, 28, 29, 30, 31, 32, 33, 34, 35, 36, 37, 38, 39, 40, 41, 42, 43, 44, 45, 46, 47, 48, 49] (by decide +kernel) (by decide +kernel)
set_option maxRecDepth 20000 in
theorem gX7_errorPosition_X7_reads : GoodIn wsX7_errorPosition (wsV RX7 93 RX7 yX7_reads wsX7_reads) := goodIn_app (goodIn_of _ (by decide +kernel)) ggX7_errorPosition_X7_reads
theorem dX7_errorPosition_0 : decode cX7_errorPosition 0 = .ok (.aload_n 0, 1) := by decide +kernel
theorem dX7_errorPosition_1 : decode cX7_errorPosition 1 = .ok (.iconst 0, 1) := by decide +kernel
theorem dX7_errorPosition_2 : decode cX7_errorPosition 2 = .ok (.putfield 35, 3) := by decide +kernel
theorem dX7_errorPosition_5 : decode cX7_errorPosition 5 = .ok (.aload_n 0, 1) := by decide +kernel
theorem dX7_errorPosition_6 : decode cX7_errorPosition 6 = .ok (.iconst 0, 1) := by decide +kernel
theorem dX7_errorPosition_7 : decode cX7_errorPosition 7 = .ok (.invokevirtual 93, 3) := by decide +kernel
theorem dX7_errorPosition_10 : decode cX7_errorPosition 10 = .ok (.ireturn, 1) := by decide +kernel
set_option maxRecDepth 20000 in
theorem ggX7_load_X7_reads : GoodIn wsX7_load wsX7_reads := goodIn_r _ [8, 9, 10, 11, 12, 7, 13, 14, 15, 16, 17, 18, 19, 20, 21, 22, 23, 24, 25, 3, 26, 27, 28, 29, 30, 31, 32, 33, 34, 35, 36, 37, 38, 44, 45, 46, 47, 48, 49, 50, 51, 52, 53, 54, 55] (by decide +kernel) (by decide +kernel)
set_option maxRecDepth 20000 in
theorem gX7_load_X7_reads : GoodIn wsX7_load (wsV RX7 93 RX7 yX7_reads wsX7_reads) := goodIn_app (goodIn_of _ (by decide +kernel)) ggX7_load_X7_reads
set_option maxRecDepth 20000 in
theorem ggX7_load_X7_goes : GoodIn wsX7_load wsX7_goes := goodIn_r _ [42, 43, 44, 45, 46, 47, 48, 49, 50, 51, 52, 53, 54, 55] (by decide +kernel) (by decide +kernel)
set_option maxRecDepth 20000 in
theorem gX7_load_X7_goes : GoodIn wsX7_load (wsV RX7 74 RX7 yX7_goes wsX7_goes) := goodIn_app (goodIn_of _ (by decide +kernel)) ggX7_load_X7_goes
set_option maxRecDepth 20000 in
theorem ggX7_load_X7_bounds : GoodIn wsX7_load wsX7_bounds := goodIn_r _ [29, 25, 44, 45, 46, 47, 48, 49, 50, 51, 52, 53, 54, 55] (by decide +kernel) (by decide +kernel)
set_option maxRecDepth 20000 in
theorem gX7_load_X7_bounds : GoodIn wsX7_load (wsV RX7 78 RX7 yX7_bounds wsX7_bounds) := goodIn_app (goodIn_of _ (by decide +kernel)) ggX7_load_X7_bounds
theorem dX7_load_0 : decode cX7_load 0 = .ok (.aload_n 0, 1) := by decide +kernel
theorem dX7_load_1 : decode cX7_load 1 = .ok (.aload_n 0, 1) := by decide +kernel
theorem dX7_load_2 : decode cX7_load 2 = .ok (.iconst 0, 1) := by decide +kernel
theorem dX7_load_3 : decode cX7_load 3 = .ok (.invokevirtual 93, 3) := by decide +kernel
theorem dX7_load_6 : decode cX7_load 6 = .ok (.ifCond .ge 7, 3) := by decide +kernel
theorem dX7_load_9 : decode cX7_load 9 = .ok (.iconst 1, 1) := by decide +kernel
theorem dX7_load_10 : decode cX7_load 10 = .ok (.goto 4, 3) := by decide +kernel
theorem dX7_load_13 : decode cX7_load 13 = .ok (.iconst 0, 1) := by decide +kernel
theorem dX7_load_14 : decode cX7_load 14 = .ok (.iconst 1, 1) := by decide +kernel
theorem dX7_load_15 : decode cX7_load 15 = .ok (.invokevirtual 74, 3) := by decide +kernel
theorem dX7_load_18 : decode cX7_load 18 = .ok (.ifCond .ne 5, 3) := by decide +kernel
theorem dX7_load_21 : decode cX7_load 21 = .ok (.iconst 0, 1) := by decide +kernel
theorem dX7_load_22 : decode cX7_load 22 = .ok (.ireturn, 1) := by decide +kernel
theorem dX7_load_23 : decode cX7_load 23 = .ok (.aload_n 0, 1) := by decide +kernel
theorem dX7_load_24 : decode cX7_load 24 = .ok (.iconst 0, 1) := by decide +kernel
theorem dX7_load_25 : decode cX7_load 25 = .ok (.bipush 100, 2) := by decide +kernel
theorem dX7_load_27 : decode cX7_load 27 = .ok (.invokevirtual 78, 3) := by decide +kernel
theorem dX7_load_30 : decode cX7_load 30 = .ok (.aload_n 0, 1) := by decide +kernel
theorem dX7_load_31 : decode cX7_load 31 = .ok (.iconst 0, 1) := by decide +kernel
theorem dX7_load_32 : decode cX7_load 32 = .ok (.putfield 39, 3) := by decide +kernel
theorem dX7_load_35 : decode cX7_load 35 = .ok (.aload_n 0, 1) := by decide +kernel
theorem dX7_load_36 : decode cX7_load 36 = .ok (.getfield 13, 3) := by decide +kernel
theorem dX7_load_39 : decode cX7_load 39 = .ok (.iconst 0, 1) := by decide +kernel
theorem dX7_load_40 : decode cX7_load 40 = .ok (.iconst 0, 1) := by decide +kernel
theorem dX7_load_41 : decode cX7_load 41 = .ok (.bastore, 1) := by decide +kernel
theorem dX7_load_42 : decode cX7_load 42 = .ok (.aload_n 0, 1) := by decide +kernel
theorem dX7_load_43 : decode cX7_load 43 = .ok (.getfield 13, 3) := by decide +kernel
theorem dX7_load_46 : decode cX7_load 46 = .ok (.iconst 1, 1) := by decide +kernel
theorem dX7_load_47 : decode cX7_load 47 = .ok (.iconst 0, 1) := by decide +kernel
theorem dX7_load_48 : decode cX7_load 48 = .ok (.bastore, 1) := by decide +kernel
theorem dX7_load_49 : decode cX7_load 49 = .ok (.aload_n 0, 1) := by decide +kernel
theorem dX7_load_50 : decode cX7_load 50 = .ok (.iconst 0, 1) := by decide +kernel
theorem dX7_load_51 : decode cX7_load 51 = .ok (.putfield 81, 3) := by decide +kernel
theorem dX7_load_54 : decode cX7_load 54 = .ok (.aload_n 0, 1) := by decide +kernel
theorem dX7_load_55 : decode cX7_load 55 = .ok (.iconst 1, 1) := by decide +kernel
theorem dX7_load_56 : decode cX7_load 56 = .ok (.invokevirtual 93, 3) := by decide +kernel
theorem dX7_load_59 : decode cX7_load 59 = .ok (.ifCond .ge 10, 3) := by decide +kernel
theorem dX7_load_62 : decode cX7_load 62 = .ok (.aload_n 0, 1) := by decide +kernel
theorem dX7_load_63 : decode cX7_load 63 = .ok (.getfield 81, 3) := by decide +kernel
theorem dX7_load_66 : decode cX7_load 66 = .ok (.goto 4, 3) := by decide +kernel
theorem dX7_load_69 : decode cX7_load 69 = .ok (.iconst 0, 1) := by decide +kernel
theorem dX7_load_70 : decode cX7_load 70 = .ok (.ireturn, 1) := by decide +kernel
theorem dX7_howMany_0 : decode cX7_howMany 0 = .ok (.iconst 0, 1) := by decide +kernel
theorem dX7_howMany_1 : decode cX7_howMany 1 = .ok (.istore_n 2, 1) := by decide +kernel
theorem dX7_howMany_2 : decode cX7_howMany 2 = .ok (.iconst 0, 1) := by decide +kernel
theorem dX7_howMany_3 : decode cX7_howMany 3 = .ok (.istore_n 3, 1) := by decide +kernel
theorem dX7_howMany_4 : decode cX7_howMany 4 = .ok (.iload_n 3, 1) := by decide +kernel
theorem dX7_howMany_5 : decode cX7_howMany 5 = .ok (.aload_n 0, 1) := by decide +kernel
theorem dX7_howMany_6 : decode cX7_howMany 6 = .ok (.getfield 7, 3) := by decide +kernel
theorem dX7_howMany_9 : decode cX7_howMany 9 = .ok (.iconst 1, 1) := by decide +kernel
theorem dX7_howMany_10 : decode cX7_howMany 10 = .ok (.iaload, 1) := by decide +kernel
theorem dX7_howMany_11 : decode cX7_howMany 11 = .ok (.if_icmp .ge 29, 3) := by decide +kernel
theorem dX7_howMany_14 : decode cX7_howMany 14 = .ok (.iload_n 2, 1) := by decide +kernel
theorem dX7_howMany_15 : decode cX7_howMany 15 = .ok (.aload_n 0, 1) := by decide +kernel
theorem dX7_howMany_16 : decode cX7_howMany 16 = .ok (.getfield 7, 3) := by decide +kernel
theorem dX7_howMany_19 : decode cX7_howMany 19 = .ok (.iconst 2, 1) := by decide +kernel
theorem dX7_howMany_20 : decode cX7_howMany 20 = .ok (.iload_n 3, 1) := by decide +kernel
theorem dX7_howMany_21 : decode cX7_howMany 21 = .ok (.iadd, 1) := by decide +kernel
theorem dX7_howMany_22 : decode cX7_howMany 22 = .ok (.iaload, 1) := by decide +kernel
theorem dX7_howMany_23 : decode cX7_howMany 23 = .ok (.iload_n 1, 1) := by decide +kernel
theorem dX7_howMany_24 : decode cX7_howMany 24 = .ok (.if_icmp .ne 7, 3) := by decide +kernel
theorem dX7_howMany_27 : decode cX7_howMany 27 = .ok (.iconst 1, 1) := by decide +kernel
theorem dX7_howMany_28 : decode cX7_howMany 28 = .ok (.goto 4, 3) := by decide +kernel
theorem dX7_howMany_31 : decode cX7_howMany 31 = .ok (.iconst 0, 1) := by decide +kernel
theorem dX7_howMany_32 : decode cX7_howMany 32 = .ok (.iadd, 1) := by decide +kernel
theorem dX7_howMany_33 : decode cX7_howMany 33 = .ok (.istore_n 2, 1) := by decide +kernel
theorem dX7_howMany_34 : decode cX7_howMany 34 = .ok (.iinc 3 1, 3) := by decide +kernel
theorem dX7_howMany_37 : decode cX7_howMany 37 = .ok (.goto (-33), 3) := by decide +kernel
theorem dX7_howMany_40 : decode cX7_howMany 40 = .ok (.iload_n 2, 1) := by decide +kernel
theorem dX7_howMany_41 : decode cX7_howMany 41 = .ok (.ireturn, 1) := by decide +kernel
set_option maxRecDepth 20000 in
theorem ggX7_about_X7_in : GoodIn wsX7_about wsX7_in := goodIn_r _ [7] (by decide +kernel) (by decide +kernel)
set_option maxRecDepth 20000 in
theorem gX7_about_X7_in : GoodIn wsX7_about (va_wsS RX7 67 yX7_in wsX7_in) := goodIn_app (goodIn_of _ (by decide +kernel)) ggX7_about_X7_in
set_option maxRecDepth 20000 in
theorem ggX7_about_X7_goes : GoodIn wsX7_about wsX7_goes := goodIn_r _ [11, 12, 39, 40, 41, 42, 43, 44, 45, 46, 47, 48, 49, 50] (by decide +kernel) (by decide +kernel)
set_option maxRecDepth 20000 in
theorem gX7_about_X7_goes : GoodIn wsX7_about (wsV RX7 74 RX7 yX7_goes wsX7_goes) := goodIn_app (goodIn_of _ (by decide +kernel)) ggX7_about_X7_goes
set_option maxRecDepth 20000 in
theorem ggX7_about_X7_divides : GoodIn wsX7_about wsX7_divides := goodIn_r _ [16, 1, 2, 17, 39, 40, 41, 42, 43, 44, 45, 46, 47, 48, 49, 50] (by decide +kernel) (by decide +kernel)
set_option maxRecDepth 20000 in
theorem gX7_about_X7_divides : GoodIn wsX7_about (wsV RX7 64 RX7 yX7_divides wsX7_divides) := goodIn_app (goodIn_of _ (by decide +kernel)) ggX7_about_X7_divides
set_option maxRecDepth 20000 in
theorem ggX7_about_X7_howMany : GoodIn wsX7_about wsX7_howMany := goodIn_r _ [21, 1, 39, 40, 41, 42, 43, 44, 45, 46, 47, 48, 49, 50] (by decide +kernel) (by decide +kernel)
set_option maxRecDepth 20000 in
theorem gX7_about_X7_howMany : GoodIn wsX7_about (wsV RX7 97 RX7 yX7_howMany wsX7_howMany) := goodIn_app (goodIn_of _ (by decide +kernel)) ggX7_about_X7_howMany
set_option maxRecDepth 20000 in
theorem ggX7_about_X7_leftIn : GoodIn wsX7_about wsX7_leftIn := goodIn_r _ [25, 1, 26, 27, 28, 6, 29, 30, 3, 31, 32, 33, 34, 39, 40, 41, 42, 43, 44, 45, 46, 47, 48, 49, 50] (by decide +kernel) (by decide +kernel)
set_option maxRecDepth 20000 in
theorem gX7_about_X7_leftIn : GoodIn wsX7_about (wsV RX7 100 RX7 yX7_leftIn wsX7_leftIn) := goodIn_app (goodIn_of _ (by decide +kernel)) ggX7_about_X7_leftIn
set_option maxRecDepth 20000 in
theorem ggX7_about_X7_next : GoodIn wsX7_about wsX7_next := goodIn_r _ [38, 1, 3, 39, 40, 41, 42, 43, 44, 45, 46, 47, 48, 49, 50] (by decide +kernel) (by decide +kernel)
set_option maxRecDepth 20000 in
theorem gX7_about_X7_next : GoodIn wsX7_about (wsV RX7 54 RX7 yX7_next wsX7_next) := goodIn_app (goodIn_of _ (by decide +kernel)) ggX7_about_X7_next
theorem dX7_about_0 : decode cX7_about 0 = .ok (.aload_n 0, 1) := by decide +kernel
theorem dX7_about_1 : decode cX7_about 1 = .ok (.iload_n 1, 1) := by decide +kernel
theorem dX7_about_2 : decode cX7_about 2 = .ok (.iconst 0, 1) := by decide +kernel
theorem dX7_about_3 : decode cX7_about 3 = .ok (.bipush 6, 2) := by decide +kernel
theorem dX7_about_5 : decode cX7_about 5 = .ok (.invokestatic 67, 3) := by decide +kernel
theorem dX7_about_8 : decode cX7_about 8 = .ok (.iconst 1, 1) := by decide +kernel
theorem dX7_about_9 : decode cX7_about 9 = .ok (.invokevirtual 74, 3) := by decide +kernel
theorem dX7_about_12 : decode cX7_about 12 = .ok (.ifCond .ne 5, 3) := by decide +kernel
theorem dX7_about_15 : decode cX7_about 15 = .ok (.iconst 0, 1) := by decide +kernel
theorem dX7_about_16 : decode cX7_about 16 = .ok (.ireturn, 1) := by decide +kernel
theorem dX7_about_17 : decode cX7_about 17 = .ok (.aload_n 0, 1) := by decide +kernel
theorem dX7_about_18 : decode cX7_about 18 = .ok (.iconst 0, 1) := by decide +kernel
theorem dX7_about_19 : decode cX7_about 19 = .ok (.invokevirtual 64, 3) := by decide +kernel
theorem dX7_about_22 : decode cX7_about 22 = .ok (.iload_n 1, 1) := by decide +kernel
theorem dX7_about_23 : decode cX7_about 23 = .ok (.tableswitch 73 0 5 #[37, 44, 49, 55, 61, 67], 37) := by decide +kernel
theorem dX7_about_60 : decode cX7_about 60 = .ok (.aload_n 0, 1) := by decide +kernel
theorem dX7_about_61 : decode cX7_about 61 = .ok (.getfield 7, 3) := by decide +kernel
theorem dX7_about_64 : decode cX7_about 64 = .ok (.iconst 0, 1) := by decide +kernel
theorem dX7_about_65 : decode cX7_about 65 = .ok (.iaload, 1) := by decide +kernel
theorem dX7_about_66 : decode cX7_about 66 = .ok (.ireturn, 1) := by decide +kernel
theorem dX7_about_67 : decode cX7_about 67 = .ok (.aload_n 0, 1) := by decide +kernel
theorem dX7_about_68 : decode cX7_about 68 = .ok (.getfield 61, 3) := by decide +kernel
theorem dX7_about_71 : decode cX7_about 71 = .ok (.ireturn, 1) := by decide +kernel
theorem dX7_about_72 : decode cX7_about 72 = .ok (.aload_n 0, 1) := by decide +kernel
theorem dX7_about_73 : decode cX7_about 73 = .ok (.iconst 1, 1) := by decide +kernel
theorem dX7_about_74 : decode cX7_about 74 = .ok (.invokevirtual 97, 3) := by decide +kernel
theorem dX7_about_77 : decode cX7_about 77 = .ok (.ireturn, 1) := by decide +kernel
theorem dX7_about_78 : decode cX7_about 78 = .ok (.aload_n 0, 1) := by decide +kernel
theorem dX7_about_79 : decode cX7_about 79 = .ok (.iconst 0, 1) := by decide +kernel
theorem dX7_about_80 : decode cX7_about 80 = .ok (.invokevirtual 97, 3) := by decide +kernel
theorem dX7_about_83 : decode cX7_about 83 = .ok (.ireturn, 1) := by decide +kernel
theorem dX7_about_84 : decode cX7_about 84 = .ok (.aload_n 0, 1) := by decide +kernel
theorem dX7_about_85 : decode cX7_about 85 = .ok (.iconst 0, 1) := by decide +kernel
theorem dX7_about_86 : decode cX7_about 86 = .ok (.invokevirtual 100, 3) := by decide +kernel
theorem dX7_about_89 : decode cX7_about 89 = .ok (.ireturn, 1) := by decide +kernel
theorem dX7_about_90 : decode cX7_about 90 = .ok (.aload_n 0, 1) := by decide +kernel
theorem dX7_about_91 : decode cX7_about 91 = .ok (.iconst 0, 1) := by decide +kernel
theorem dX7_about_92 : decode cX7_about 92 = .ok (.invokevirtual 54, 3) := by decide +kernel
theorem dX7_about_95 : decode cX7_about 95 = .ok (.ireturn, 1) := by decide +kernel
theorem dX7_about_96 : decode cX7_about 96 = .ok (.aload_n 0, 1) := by decide +kernel
theorem dX7_about_97 : decode cX7_about 97 = .ok (.getfield 7, 3) := by decide +kernel
theorem dX7_about_100 : decode cX7_about 100 = .ok (.iconst 1, 1) := by decide +kernel
theorem dX7_about_101 : decode cX7_about 101 = .ok (.iaload, 1) := by decide +kernel
theorem dX7_about_102 : decode cX7_about 102 = .ok (.ifCond .ne 7, 3) := by decide +kernel
theorem dX7_about_105 : decode cX7_about 105 = .ok (.iconst (-1), 1) := by decide +kernel
theorem dX7_about_106 : decode cX7_about 106 = .ok (.goto 16, 3) := by decide +kernel
theorem dX7_about_109 : decode cX7_about 109 = .ok (.aload_n 0, 1) := by decide +kernel
theorem dX7_about_110 : decode cX7_about 110 = .ok (.getfield 25, 3) := by decide +kernel
theorem dX7_about_113 : decode cX7_about 113 = .ok (.aload_n 0, 1) := by decide +kernel
theorem dX7_about_114 : decode cX7_about 114 = .ok (.getfield 7, 3) := by decide +kernel
theorem dX7_about_117 : decode cX7_about 117 = .ok (.iconst 1, 1) := by decide +kernel
theorem dX7_about_118 : decode cX7_about 118 = .ok (.iaload, 1) := by decide +kernel
theorem dX7_about_119 : decode cX7_about 119 = .ok (.iconst 1, 1) := by decide +kernel
theorem dX7_about_120 : decode cX7_about 120 = .ok (.isub, 1) := by decide +kernel
theorem dX7_about_121 : decode cX7_about 121 = .ok (.iaload, 1) := by decide +kernel
theorem dX7_about_122 : decode cX7_about 122 = .ok (.ireturn, 1) := by decide +kernel
set_option maxRecDepth 20000 in
theorem ggX7_quotient_X7_isQuotient : GoodIn wsX7_quotient wsX7_isQuotient := goodIn_r _ [6, 7, 8, 9, 10, 5, 11, 12, 1, 13, 14, 15, 21, 22, 23, 24, 25, 26, 27, 28, 29, 30, 31, 32] (by decide +kernel) (by decide +kernel)
set_option maxRecDepth 20000 in
theorem gX7_quotient_X7_isQuotient : GoodIn wsX7_quotient (wsV RX7 103 RX7 yX7_isQuotient wsX7_isQuotient) := goodIn_app (goodIn_of _ (by decide +kernel)) ggX7_quotient_X7_isQuotient
set_option maxRecDepth 20000 in
theorem ggX7_quotient_X7_goes : GoodIn wsX7_quotient wsX7_goes := goodIn_r _ [19, 20, 21, 22, 23, 24, 25, 26, 27, 28, 29, 30, 31, 32] (by decide +kernel) (by decide +kernel)
set_option maxRecDepth 20000 in
theorem gX7_quotient_X7_goes : GoodIn wsX7_quotient (wsV RX7 74 RX7 yX7_goes wsX7_goes) := goodIn_app (goodIn_of _ (by decide +kernel)) ggX7_quotient_X7_goes
theorem dX7_quotient_0 : decode cX7_quotient 0 = .ok (.aload_n 0, 1) := by decide +kernel
theorem dX7_quotient_1 : decode cX7_quotient 1 = .ok (.aload_n 0, 1) := by decide +kernel
theorem dX7_quotient_2 : decode cX7_quotient 2 = .ok (.iload_n 1, 1) := by decide +kernel
theorem dX7_quotient_3 : decode cX7_quotient 3 = .ok (.invokevirtual 103, 3) := by decide +kernel
theorem dX7_quotient_6 : decode cX7_quotient 6 = .ok (.iconst 1, 1) := by decide +kernel
theorem dX7_quotient_7 : decode cX7_quotient 7 = .ok (.invokevirtual 74, 3) := by decide +kernel
theorem dX7_quotient_10 : decode cX7_quotient 10 = .ok (.ifCond .eq 12, 3) := by decide +kernel
theorem dX7_quotient_13 : decode cX7_quotient 13 = .ok (.aload_n 0, 1) := by decide +kernel
theorem dX7_quotient_14 : decode cX7_quotient 14 = .ok (.getfield 31, 3) := by decide +kernel
theorem dX7_quotient_17 : decode cX7_quotient 17 = .ok (.iload_n 1, 1) := by decide +kernel
theorem dX7_quotient_18 : decode cX7_quotient 18 = .ok (.iaload, 1) := by decide +kernel
theorem dX7_quotient_19 : decode cX7_quotient 19 = .ok (.goto 4, 3) := by decide +kernel
theorem dX7_quotient_22 : decode cX7_quotient 22 = .ok (.iconst 0, 1) := by decide +kernel
theorem dX7_quotient_23 : decode cX7_quotient 23 = .ok (.ireturn, 1) := by decide +kernel
set_option maxRecDepth 20000 in
theorem ggX7_quotientOf_X7_placeOf : GoodIn wsX7_quotientOf wsX7_placeOf := goodIn_r _ [6, 7, 8, 9, 10, 11, 5, 12, 13, 14, 15, 16, 17, 18, 19, 20, 21, 22, 23, 24, 25] (by decide +kernel) (by decide +kernel)
set_option maxRecDepth 20000 in
theorem gX7_quotientOf_X7_placeOf : GoodIn wsX7_quotientOf (wsV RX7 107 RX7 yX7_placeOf wsX7_placeOf) := goodIn_app (goodIn_of _ (by decide +kernel)) ggX7_quotientOf_X7_placeOf
theorem dX7_quotientOf_0 : decode cX7_quotientOf 0 = .ok (.aload_n 0, 1) := by decide +kernel
theorem dX7_quotientOf_1 : decode cX7_quotientOf 1 = .ok (.iconst 0, 1) := by decide +kernel
theorem dX7_quotientOf_2 : decode cX7_quotientOf 2 = .ok (.putfield 35, 3) := by decide +kernel
theorem dX7_quotientOf_5 : decode cX7_quotientOf 5 = .ok (.aload_n 0, 1) := by decide +kernel
theorem dX7_quotientOf_6 : decode cX7_quotientOf 6 = .ok (.iconst 0, 1) := by decide +kernel
theorem dX7_quotientOf_7 : decode cX7_quotientOf 7 = .ok (.iload_n 1, 1) := by decide +kernel
theorem dX7_quotientOf_8 : decode cX7_quotientOf 8 = .ok (.invokevirtual 107, 3) := by decide +kernel
theorem dX7_quotientOf_11 : decode cX7_quotientOf 11 = .ok (.ireturn, 1) := by decide +kernel
set_option maxRecDepth 20000 in
theorem ggX7_left_X7_isQuotient : GoodIn wsX7_left wsX7_isQuotient := goodIn_r _ [6, 7, 8, 9, 10, 5, 11, 12, 1, 13, 14, 15, 31, 32, 33, 34, 35, 36, 37, 38, 39, 40, 41, 42] (by decide +kernel) (by decide +kernel)
set_option maxRecDepth 20000 in
theorem gX7_left_X7_isQuotient : GoodIn wsX7_left (wsV RX7 103 RX7 yX7_isQuotient wsX7_isQuotient) := goodIn_app (goodIn_of _ (by decide +kernel)) ggX7_left_X7_isQuotient
set_option maxRecDepth 20000 in
theorem ggX7_left_X7_goes : GoodIn wsX7_left wsX7_goes := goodIn_r _ [19, 20, 31, 32, 33, 34, 35, 36, 37, 38, 39, 40, 41, 42] (by decide +kernel) (by decide +kernel)
set_option maxRecDepth 20000 in
theorem gX7_left_X7_goes : GoodIn wsX7_left (wsV RX7 74 RX7 yX7_goes wsX7_goes) := goodIn_app (goodIn_of _ (by decide +kernel)) ggX7_left_X7_goes
set_option maxRecDepth 20000 in
theorem ggX7_left_X7_lays : GoodIn wsX7_left wsX7_lays := goodIn_r _ [24, 12, 25, 26, 31, 32, 33, 34, 35, 36, 37, 38, 39, 40, 41, 42] (by decide +kernel) (by decide +kernel)
set_option maxRecDepth 20000 in
theorem gX7_left_X7_lays : GoodIn wsX7_left (wsV RX7 46 RX7 yX7_lays wsX7_lays) := goodIn_app (goodIn_of _ (by decide +kernel)) ggX7_left_X7_lays
set_option maxRecDepth 20000 in
theorem ggX7_left_X7_leftBy : GoodIn wsX7_left wsX7_leftBy := goodIn_r _ [30, 25, 31, 32, 33, 34, 35, 36, 37, 38, 39, 40, 41, 42] (by decide +kernel) (by decide +kernel)
set_option maxRecDepth 20000 in
theorem gX7_left_X7_leftBy : GoodIn wsX7_left (wsV RX7 50 RX7 yX7_leftBy wsX7_leftBy) := goodIn_app (goodIn_of _ (by decide +kernel)) ggX7_left_X7_leftBy
theorem dX7_left_0 : decode cX7_left 0 = .ok (.aload_n 0, 1) := by decide +kernel
theorem dX7_left_1 : decode cX7_left 1 = .ok (.aload_n 0, 1) := by decide +kernel
theorem dX7_left_2 : decode cX7_left 2 = .ok (.iload_n 1, 1) := by decide +kernel
theorem dX7_left_3 : decode cX7_left 3 = .ok (.invokevirtual 103, 3) := by decide +kernel
theorem dX7_left_6 : decode cX7_left 6 = .ok (.iconst 1, 1) := by decide +kernel
theorem dX7_left_7 : decode cX7_left 7 = .ok (.invokevirtual 74, 3) := by decide +kernel
theorem dX7_left_10 : decode cX7_left 10 = .ok (.ifCond .ne 5, 3) := by decide +kernel
theorem dX7_left_13 : decode cX7_left 13 = .ok (.iconst 0, 1) := by decide +kernel
theorem dX7_left_14 : decode cX7_left 14 = .ok (.ireturn, 1) := by decide +kernel
theorem dX7_left_15 : decode cX7_left 15 = .ok (.aload_n 0, 1) := by decide +kernel
theorem dX7_left_16 : decode cX7_left 16 = .ok (.iconst 0, 1) := by decide +kernel
theorem dX7_left_17 : decode cX7_left 17 = .ok (.invokevirtual 46, 3) := by decide +kernel
theorem dX7_left_20 : decode cX7_left 20 = .ok (.aload_n 0, 1) := by decide +kernel
theorem dX7_left_21 : decode cX7_left 21 = .ok (.aload_n 0, 1) := by decide +kernel
theorem dX7_left_22 : decode cX7_left 22 = .ok (.getfield 31, 3) := by decide +kernel
theorem dX7_left_25 : decode cX7_left 25 = .ok (.iload_n 1, 1) := by decide +kernel
theorem dX7_left_26 : decode cX7_left 26 = .ok (.iaload, 1) := by decide +kernel
theorem dX7_left_27 : decode cX7_left 27 = .ok (.iconst 1, 1) := by decide +kernel
theorem dX7_left_28 : decode cX7_left 28 = .ok (.invokevirtual 50, 3) := by decide +kernel
theorem dX7_left_31 : decode cX7_left 31 = .ok (.ireturn, 1) := by decide +kernel
set_option maxRecDepth 20000 in
theorem ggX7_sumLeft_X7_isQuotient : GoodIn wsX7_sumLeft wsX7_isQuotient := goodIn_r _ [7, 8, 9, 10, 11, 6, 12, 13, 1, 14, 15, 16, 27, 28, 29, 30, 31, 32, 33, 34, 35, 36, 37, 38] (by decide +kernel) (by decide +kernel)
set_option maxRecDepth 20000 in
theorem gX7_sumLeft_X7_isQuotient : GoodIn wsX7_sumLeft (wsV RX7 103 RX7 yX7_isQuotient wsX7_isQuotient) := goodIn_app (goodIn_of _ (by decide +kernel)) ggX7_sumLeft_X7_isQuotient
set_option maxRecDepth 20000 in
theorem ggX7_sumLeft_X7_goes : GoodIn wsX7_sumLeft wsX7_goes := goodIn_r _ [20, 21, 27, 28, 29, 30, 31, 32, 33, 34, 35, 36, 37, 38] (by decide +kernel) (by decide +kernel)
set_option maxRecDepth 20000 in
theorem gX7_sumLeft_X7_goes : GoodIn wsX7_sumLeft (wsV RX7 74 RX7 yX7_goes wsX7_goes) := goodIn_app (goodIn_of _ (by decide +kernel)) ggX7_sumLeft_X7_goes
set_option maxRecDepth 20000 in
theorem ggX7_sumLeft_X7_lays : GoodIn wsX7_sumLeft wsX7_lays := goodIn_r _ [25, 13, 2, 26, 27, 28, 29, 30, 31, 32, 33, 34, 35, 36, 37, 38] (by decide +kernel) (by decide +kernel)
set_option maxRecDepth 20000 in
theorem gX7_sumLeft_X7_lays : GoodIn wsX7_sumLeft (wsV RX7 46 RX7 yX7_lays wsX7_lays) := goodIn_app (goodIn_of _ (by decide +kernel)) ggX7_sumLeft_X7_lays
theorem dX7_sumLeft_0 : decode cX7_sumLeft 0 = .ok (.aload_n 0, 1) := by decide +kernel
theorem dX7_sumLeft_1 : decode cX7_sumLeft 1 = .ok (.aload_n 0, 1) := by decide +kernel
theorem dX7_sumLeft_2 : decode cX7_sumLeft 2 = .ok (.iload_n 1, 1) := by decide +kernel
theorem dX7_sumLeft_3 : decode cX7_sumLeft 3 = .ok (.invokevirtual 103, 3) := by decide +kernel
theorem dX7_sumLeft_6 : decode cX7_sumLeft 6 = .ok (.iconst 1, 1) := by decide +kernel
theorem dX7_sumLeft_7 : decode cX7_sumLeft 7 = .ok (.invokevirtual 74, 3) := by decide +kernel
theorem dX7_sumLeft_10 : decode cX7_sumLeft 10 = .ok (.ifCond .ne 5, 3) := by decide +kernel
theorem dX7_sumLeft_13 : decode cX7_sumLeft 13 = .ok (.lconst 0, 1) := by decide +kernel
theorem dX7_sumLeft_14 : decode cX7_sumLeft 14 = .ok (.lreturn, 1) := by decide +kernel
theorem dX7_sumLeft_15 : decode cX7_sumLeft 15 = .ok (.aload_n 0, 1) := by decide +kernel
theorem dX7_sumLeft_16 : decode cX7_sumLeft 16 = .ok (.iconst 0, 1) := by decide +kernel
theorem dX7_sumLeft_17 : decode cX7_sumLeft 17 = .ok (.invokevirtual 46, 3) := by decide +kernel
theorem dX7_sumLeft_20 : decode cX7_sumLeft 20 = .ok (.lconst 0, 1) := by decide +kernel
theorem dX7_sumLeft_21 : decode cX7_sumLeft 21 = .ok (.lstore_n 2, 1) := by decide +kernel
theorem dX7_sumLeft_22 : decode cX7_sumLeft 22 = .ok (.iconst 1, 1) := by decide +kernel
theorem dX7_sumLeft_23 : decode cX7_sumLeft 23 = .ok (.istore 4, 2) := by decide +kernel
theorem dX7_sumLeft_25 : decode cX7_sumLeft 25 = .ok (.iload 4, 2) := by decide +kernel
theorem dX7_sumLeft_27 : decode cX7_sumLeft 27 = .ok (.aload_n 0, 1) := by decide +kernel
theorem dX7_sumLeft_28 : decode cX7_sumLeft 28 = .ok (.getfield 31, 3) := by decide +kernel
theorem dX7_sumLeft_31 : decode cX7_sumLeft 31 = .ok (.iload_n 1, 1) := by decide +kernel
theorem dX7_sumLeft_32 : decode cX7_sumLeft 32 = .ok (.iaload, 1) := by decide +kernel
theorem dX7_sumLeft_33 : decode cX7_sumLeft 33 = .ok (.if_icmp .gt 29, 3) := by decide +kernel
theorem dX7_sumLeft_36 : decode cX7_sumLeft 36 = .ok (.lload_n 2, 1) := by decide +kernel
theorem dX7_sumLeft_37 : decode cX7_sumLeft 37 = .ok (.aload_n 0, 1) := by decide +kernel
theorem dX7_sumLeft_38 : decode cX7_sumLeft 38 = .ok (.getfield 28, 3) := by decide +kernel
theorem dX7_sumLeft_41 : decode cX7_sumLeft 41 = .ok (.iload 4, 2) := by decide +kernel
theorem dX7_sumLeft_43 : decode cX7_sumLeft 43 = .ok (.baload, 1) := by decide +kernel
theorem dX7_sumLeft_44 : decode cX7_sumLeft 44 = .ok (.ifCond .eq 7, 3) := by decide +kernel
theorem dX7_sumLeft_47 : decode cX7_sumLeft 47 = .ok (.lconst 0, 1) := by decide +kernel
theorem dX7_sumLeft_48 : decode cX7_sumLeft 48 = .ok (.goto 6, 3) := by decide +kernel
theorem dX7_sumLeft_51 : decode cX7_sumLeft 51 = .ok (.iload 4, 2) := by decide +kernel
theorem dX7_sumLeft_53 : decode cX7_sumLeft 53 = .ok (.i2l, 1) := by decide +kernel
theorem dX7_sumLeft_54 : decode cX7_sumLeft 54 = .ok (.ladd, 1) := by decide +kernel
theorem dX7_sumLeft_55 : decode cX7_sumLeft 55 = .ok (.lstore_n 2, 1) := by decide +kernel
theorem dX7_sumLeft_56 : decode cX7_sumLeft 56 = .ok (.iinc 4 1, 3) := by decide +kernel
theorem dX7_sumLeft_59 : decode cX7_sumLeft 59 = .ok (.goto (-34), 3) := by decide +kernel
theorem dX7_sumLeft_62 : decode cX7_sumLeft 62 = .ok (.lload_n 2, 1) := by decide +kernel
theorem dX7_sumLeft_63 : decode cX7_sumLeft 63 = .ok (.lreturn, 1) := by decide +kernel
set_option maxRecDepth 20000 in
theorem ggX7_restLeft_X7_isQuotient : GoodIn wsX7_restLeft wsX7_isQuotient := goodIn_r _ [7, 8, 9, 10, 11, 6, 12, 13, 1, 14, 15, 16, 27, 28, 29, 30, 31, 32, 33, 34, 35, 36, 37, 38] (by decide +kernel) (by decide +kernel)
set_option maxRecDepth 20000 in
theorem gX7_restLeft_X7_isQuotient : GoodIn wsX7_restLeft (wsV RX7 103 RX7 yX7_isQuotient wsX7_isQuotient) := goodIn_app (goodIn_of _ (by decide +kernel)) ggX7_restLeft_X7_isQuotient
set_option maxRecDepth 20000 in
theorem ggX7_restLeft_X7_in : GoodIn wsX7_restLeft wsX7_in := goodIn_r _ [16] (by decide +kernel) (by decide +kernel)
set_option maxRecDepth 20000 in
theorem gX7_restLeft_X7_in : GoodIn wsX7_restLeft (va_wsS RX7 67 yX7_in wsX7_in) := goodIn_app (goodIn_of _ (by decide +kernel)) ggX7_restLeft_X7_in
set_option maxRecDepth 20000 in
theorem ggX7_restLeft_X7_goes : GoodIn wsX7_restLeft wsX7_goes := goodIn_r _ [20, 21, 27, 28, 29, 30, 31, 32, 33, 34, 35, 36, 37, 38] (by decide +kernel) (by decide +kernel)
set_option maxRecDepth 20000 in
theorem gX7_restLeft_X7_goes : GoodIn wsX7_restLeft (wsV RX7 74 RX7 yX7_goes wsX7_goes) := goodIn_app (goodIn_of _ (by decide +kernel)) ggX7_restLeft_X7_goes
set_option maxRecDepth 20000 in
theorem ggX7_restLeft_X7_lays : GoodIn wsX7_restLeft wsX7_lays := goodIn_r _ [25, 13, 2, 26, 27, 28, 29, 30, 31, 32, 33, 34, 35, 36, 37, 38] (by decide +kernel) (by decide +kernel)
set_option maxRecDepth 20000 in
theorem gX7_restLeft_X7_lays : GoodIn wsX7_restLeft (wsV RX7 46 RX7 yX7_lays wsX7_lays) := goodIn_app (goodIn_of _ (by decide +kernel)) ggX7_restLeft_X7_lays
theorem dX7_restLeft_0 : decode cX7_restLeft 0 = .ok (.aload_n 0, 1) := by decide +kernel
theorem dX7_restLeft_1 : decode cX7_restLeft 1 = .ok (.aload_n 0, 1) := by decide +kernel
theorem dX7_restLeft_2 : decode cX7_restLeft 2 = .ok (.iload_n 1, 1) := by decide +kernel
theorem dX7_restLeft_3 : decode cX7_restLeft 3 = .ok (.invokevirtual 103, 3) := by decide +kernel
theorem dX7_restLeft_6 : decode cX7_restLeft 6 = .ok (.iload_n 2, 1) := by decide +kernel
theorem dX7_restLeft_7 : decode cX7_restLeft 7 = .ok (.iconst 0, 1) := by decide +kernel
theorem dX7_restLeft_8 : decode cX7_restLeft 8 = .ok (.iconst 3, 1) := by decide +kernel
theorem dX7_restLeft_9 : decode cX7_restLeft 9 = .ok (.invokestatic 67, 3) := by decide +kernel
theorem dX7_restLeft_12 : decode cX7_restLeft 12 = .ok (.invokevirtual 74, 3) := by decide +kernel
theorem dX7_restLeft_15 : decode cX7_restLeft 15 = .ok (.ifCond .ne 5, 3) := by decide +kernel
theorem dX7_restLeft_18 : decode cX7_restLeft 18 = .ok (.iconst 0, 1) := by decide +kernel
theorem dX7_restLeft_19 : decode cX7_restLeft 19 = .ok (.ireturn, 1) := by decide +kernel
theorem dX7_restLeft_20 : decode cX7_restLeft 20 = .ok (.aload_n 0, 1) := by decide +kernel
theorem dX7_restLeft_21 : decode cX7_restLeft 21 = .ok (.iconst 0, 1) := by decide +kernel
theorem dX7_restLeft_22 : decode cX7_restLeft 22 = .ok (.invokevirtual 46, 3) := by decide +kernel
theorem dX7_restLeft_25 : decode cX7_restLeft 25 = .ok (.iconst 0, 1) := by decide +kernel
theorem dX7_restLeft_26 : decode cX7_restLeft 26 = .ok (.istore_n 3, 1) := by decide +kernel
theorem dX7_restLeft_27 : decode cX7_restLeft 27 = .ok (.iconst 1, 1) := by decide +kernel
theorem dX7_restLeft_28 : decode cX7_restLeft 28 = .ok (.istore 4, 2) := by decide +kernel
theorem dX7_restLeft_30 : decode cX7_restLeft 30 = .ok (.iload 4, 2) := by decide +kernel
theorem dX7_restLeft_32 : decode cX7_restLeft 32 = .ok (.aload_n 0, 1) := by decide +kernel
theorem dX7_restLeft_33 : decode cX7_restLeft 33 = .ok (.getfield 31, 3) := by decide +kernel
theorem dX7_restLeft_36 : decode cX7_restLeft 36 = .ok (.iload_n 1, 1) := by decide +kernel
theorem dX7_restLeft_37 : decode cX7_restLeft 37 = .ok (.iaload, 1) := by decide +kernel
theorem dX7_restLeft_38 : decode cX7_restLeft 38 = .ok (.if_icmp .gt 35, 3) := by decide +kernel
theorem dX7_restLeft_41 : decode cX7_restLeft 41 = .ok (.iload_n 3, 1) := by decide +kernel
theorem dX7_restLeft_42 : decode cX7_restLeft 42 = .ok (.aload_n 0, 1) := by decide +kernel
theorem dX7_restLeft_43 : decode cX7_restLeft 43 = .ok (.getfield 28, 3) := by decide +kernel
theorem dX7_restLeft_46 : decode cX7_restLeft 46 = .ok (.iload 4, 2) := by decide +kernel
theorem dX7_restLeft_48 : decode cX7_restLeft 48 = .ok (.baload, 1) := by decide +kernel
theorem dX7_restLeft_49 : decode cX7_restLeft 49 = .ok (.ifCond .ne 15, 3) := by decide +kernel
theorem dX7_restLeft_52 : decode cX7_restLeft 52 = .ok (.iload 4, 2) := by decide +kernel
theorem dX7_restLeft_54 : decode cX7_restLeft 54 = .ok (.iconst 4, 1) := by decide +kernel
theorem dX7_restLeft_55 : decode cX7_restLeft 55 = .ok (.irem, 1) := by decide +kernel
theorem dX7_restLeft_56 : decode cX7_restLeft 56 = .ok (.iload_n 2, 1) := by decide +kernel
theorem dX7_restLeft_57 : decode cX7_restLeft 57 = .ok (.if_icmp .ne 7, 3) := by decide +kernel
theorem dX7_restLeft_60 : decode cX7_restLeft 60 = .ok (.iconst 1, 1) := by decide +kernel
theorem dX7_restLeft_61 : decode cX7_restLeft 61 = .ok (.goto 4, 3) := by decide +kernel
theorem dX7_restLeft_64 : decode cX7_restLeft 64 = .ok (.iconst 0, 1) := by decide +kernel
theorem dX7_restLeft_65 : decode cX7_restLeft 65 = .ok (.iadd, 1) := by decide +kernel
theorem dX7_restLeft_66 : decode cX7_restLeft 66 = .ok (.istore_n 3, 1) := by decide +kernel
theorem dX7_restLeft_67 : decode cX7_restLeft 67 = .ok (.iinc 4 1, 3) := by decide +kernel
theorem dX7_restLeft_70 : decode cX7_restLeft 70 = .ok (.goto (-40), 3) := by decide +kernel
theorem dX7_restLeft_73 : decode cX7_restLeft 73 = .ok (.iload_n 3, 1) := by decide +kernel
theorem dX7_restLeft_74 : decode cX7_restLeft 74 = .ok (.ireturn, 1) := by decide +kernel
set_option maxRecDepth 20000 in
theorem ggX7_came_X7_goes : GoodIn wsX7_came wsX7_goes := goodIn_r _ [7, 8, 9, 10, 11, 12, 13, 14, 15, 16, 17, 18, 19, 20] (by decide +kernel) (by decide +kernel)
set_option maxRecDepth 20000 in
theorem gX7_came_X7_goes : GoodIn wsX7_came (wsV RX7 74 RX7 yX7_goes wsX7_goes) := goodIn_app (goodIn_of _ (by decide +kernel)) ggX7_came_X7_goes
theorem dX7_came_0 : decode cX7_came 0 = .ok (.aload_n 0, 1) := by decide +kernel
theorem dX7_came_1 : decode cX7_came 1 = .ok (.iload_n 1, 1) := by decide +kernel
theorem dX7_came_2 : decode cX7_came 2 = .ok (.ifCond .lt 7, 3) := by decide +kernel
theorem dX7_came_5 : decode cX7_came 5 = .ok (.iconst 1, 1) := by decide +kernel
theorem dX7_came_6 : decode cX7_came 6 = .ok (.goto 4, 3) := by decide +kernel
theorem dX7_came_9 : decode cX7_came 9 = .ok (.iconst 0, 1) := by decide +kernel
theorem dX7_came_10 : decode cX7_came 10 = .ok (.iconst 1, 1) := by decide +kernel
theorem dX7_came_11 : decode cX7_came 11 = .ok (.invokevirtual 74, 3) := by decide +kernel
theorem dX7_came_14 : decode cX7_came 14 = .ok (.ifCond .ne 5, 3) := by decide +kernel
theorem dX7_came_17 : decode cX7_came 17 = .ok (.iconst 0, 1) := by decide +kernel
theorem dX7_came_18 : decode cX7_came 18 = .ok (.ireturn, 1) := by decide +kernel
theorem dX7_came_19 : decode cX7_came 19 = .ok (.iload_n 1, 1) := by decide +kernel
theorem dX7_came_20 : decode cX7_came 20 = .ok (.aload_n 0, 1) := by decide +kernel
theorem dX7_came_21 : decode cX7_came 21 = .ok (.getfield 7, 3) := by decide +kernel
theorem dX7_came_24 : decode cX7_came 24 = .ok (.iconst 1, 1) := by decide +kernel
theorem dX7_came_25 : decode cX7_came 25 = .ok (.iaload, 1) := by decide +kernel
theorem dX7_came_26 : decode cX7_came 26 = .ok (.if_icmp .lt 7, 3) := by decide +kernel
theorem dX7_came_29 : decode cX7_came 29 = .ok (.iconst 0, 1) := by decide +kernel
theorem dX7_came_30 : decode cX7_came 30 = .ok (.goto 31, 3) := by decide +kernel
theorem dX7_came_33 : decode cX7_came 33 = .ok (.aload_n 0, 1) := by decide +kernel
theorem dX7_came_34 : decode cX7_came 34 = .ok (.getfield 7, 3) := by decide +kernel
theorem dX7_came_37 : decode cX7_came 37 = .ok (.iconst 2, 1) := by decide +kernel
theorem dX7_came_38 : decode cX7_came 38 = .ok (.iload_n 1, 1) := by decide +kernel
theorem dX7_came_39 : decode cX7_came 39 = .ok (.iadd, 1) := by decide +kernel
theorem dX7_came_40 : decode cX7_came 40 = .ok (.iaload, 1) := by decide +kernel
theorem dX7_came_41 : decode cX7_came 41 = .ok (.iconst 1, 1) := by decide +kernel
theorem dX7_came_42 : decode cX7_came 42 = .ok (.if_icmp .ne 12, 3) := by decide +kernel
theorem dX7_came_45 : decode cX7_came 45 = .ok (.aload_n 0, 1) := by decide +kernel
theorem dX7_came_46 : decode cX7_came 46 = .ok (.getfield 25, 3) := by decide +kernel
theorem dX7_came_49 : decode cX7_came 49 = .ok (.iload_n 1, 1) := by decide +kernel
theorem dX7_came_50 : decode cX7_came 50 = .ok (.iaload, 1) := by decide +kernel
theorem dX7_came_51 : decode cX7_came 51 = .ok (.goto 10, 3) := by decide +kernel
theorem dX7_came_54 : decode cX7_came 54 = .ok (.aload_n 0, 1) := by decide +kernel
theorem dX7_came_55 : decode cX7_came 55 = .ok (.getfield 25, 3) := by decide +kernel
theorem dX7_came_58 : decode cX7_came 58 = .ok (.iload_n 1, 1) := by decide +kernel
theorem dX7_came_59 : decode cX7_came 59 = .ok (.iaload, 1) := by decide +kernel
theorem dX7_came_60 : decode cX7_came 60 = .ok (.ineg, 1) := by decide +kernel
theorem dX7_came_61 : decode cX7_came 61 = .ok (.ireturn, 1) := by decide +kernel
set_option maxRecDepth 20000 in
theorem ggX7_bound_X7_in : GoodIn wsX7_bound wsX7_in := goodIn_r _ [6] (by decide +kernel) (by decide +kernel)
set_option maxRecDepth 20000 in
theorem gX7_bound_X7_in : GoodIn wsX7_bound (va_wsS RX7 67 yX7_in wsX7_in) := goodIn_app (goodIn_of _ (by decide +kernel)) ggX7_bound_X7_in
set_option maxRecDepth 20000 in
theorem ggX7_bound_X7_goes : GoodIn wsX7_bound wsX7_goes := goodIn_r _ [10, 11, 25, 26, 27, 28, 29, 30, 31, 32, 33, 34, 35, 36] (by decide +kernel) (by decide +kernel)
set_option maxRecDepth 20000 in
theorem gX7_bound_X7_goes : GoodIn wsX7_bound (wsV RX7 74 RX7 yX7_goes wsX7_goes) := goodIn_app (goodIn_of _ (by decide +kernel)) ggX7_bound_X7_goes
set_option maxRecDepth 20000 in
theorem ggX7_bound_X7_remembers : GoodIn wsX7_bound wsX7_remembers := goodIn_r _ [15, 16, 17, 18, 19, 5, 20, 2, 25, 26, 27, 28, 29, 30, 31, 32, 33, 34, 35, 36] (by decide +kernel) (by decide +kernel)
set_option maxRecDepth 20000 in
theorem gX7_bound_X7_remembers : GoodIn wsX7_bound (wsV RX7 110 RX7 yX7_remembers wsX7_remembers) := goodIn_app (goodIn_of _ (by decide +kernel)) ggX7_bound_X7_remembers
set_option maxRecDepth 20000 in
theorem ggX7_bound_X7_bounds : GoodIn wsX7_bound wsX7_bounds := goodIn_r _ [24, 2, 25, 26, 27, 28, 29, 30, 31, 32, 33, 34, 35, 36] (by decide +kernel) (by decide +kernel)
set_option maxRecDepth 20000 in
theorem gX7_bound_X7_bounds : GoodIn wsX7_bound (wsV RX7 78 RX7 yX7_bounds wsX7_bounds) := goodIn_app (goodIn_of _ (by decide +kernel)) ggX7_bound_X7_bounds
theorem dX7_bound_0 : decode cX7_bound 0 = .ok (.aload_n 0, 1) := by decide +kernel
theorem dX7_bound_1 : decode cX7_bound 1 = .ok (.iload_n 1, 1) := by decide +kernel
theorem dX7_bound_2 : decode cX7_bound 2 = .ok (.iconst 1, 1) := by decide +kernel
theorem dX7_bound_3 : decode cX7_bound 3 = .ok (.ldc 34, 2) := by decide +kernel
theorem dX7_bound_5 : decode cX7_bound 5 = .ok (.invokestatic 67, 3) := by decide +kernel
theorem dX7_bound_8 : decode cX7_bound 8 = .ok (.iconst 1, 1) := by decide +kernel
theorem dX7_bound_9 : decode cX7_bound 9 = .ok (.invokevirtual 74, 3) := by decide +kernel
theorem dX7_bound_12 : decode cX7_bound 12 = .ok (.ifCond .ne 5, 3) := by decide +kernel
theorem dX7_bound_15 : decode cX7_bound 15 = .ok (.iconst 0, 1) := by decide +kernel
theorem dX7_bound_16 : decode cX7_bound 16 = .ok (.ireturn, 1) := by decide +kernel
theorem dX7_bound_17 : decode cX7_bound 17 = .ok (.aload_n 0, 1) := by decide +kernel
theorem dX7_bound_18 : decode cX7_bound 18 = .ok (.invokevirtual 110, 3) := by decide +kernel
theorem dX7_bound_21 : decode cX7_bound 21 = .ok (.aload_n 0, 1) := by decide +kernel
theorem dX7_bound_22 : decode cX7_bound 22 = .ok (.getfield 7, 3) := by decide +kernel
theorem dX7_bound_25 : decode cX7_bound 25 = .ok (.iconst 0, 1) := by decide +kernel
theorem dX7_bound_26 : decode cX7_bound 26 = .ok (.iaload, 1) := by decide +kernel
theorem dX7_bound_27 : decode cX7_bound 27 = .ok (.istore_n 2, 1) := by decide +kernel
theorem dX7_bound_28 : decode cX7_bound 28 = .ok (.aload_n 0, 1) := by decide +kernel
theorem dX7_bound_29 : decode cX7_bound 29 = .ok (.iconst 0, 1) := by decide +kernel
theorem dX7_bound_30 : decode cX7_bound 30 = .ok (.iload_n 1, 1) := by decide +kernel
theorem dX7_bound_31 : decode cX7_bound 31 = .ok (.invokevirtual 78, 3) := by decide +kernel
theorem dX7_bound_34 : decode cX7_bound 34 = .ok (.iload_n 2, 1) := by decide +kernel
theorem dX7_bound_35 : decode cX7_bound 35 = .ok (.ireturn, 1) := by decide +kernel
set_option maxRecDepth 20000 in
theorem ggX7_strike_X7_next : GoodIn wsX7_strike wsX7_next := goodIn_r _ [6, 1, 7, 35, 36, 37, 38, 39, 40, 41, 42, 43, 44, 45, 46] (by decide +kernel) (by decide +kernel)
set_option maxRecDepth 20000 in
theorem gX7_strike_X7_next : GoodIn wsX7_strike (wsV RX7 54 RX7 yX7_next wsX7_next) := goodIn_app (goodIn_of _ (by decide +kernel)) ggX7_strike_X7_next
set_option maxRecDepth 20000 in
theorem ggX7_strike_X7_goes : GoodIn wsX7_strike wsX7_goes := goodIn_r _ [11, 12, 35, 36, 37, 38, 39, 40, 41, 42, 43, 44, 45, 46] (by decide +kernel) (by decide +kernel)
set_option maxRecDepth 20000 in
theorem gX7_strike_X7_goes : GoodIn wsX7_strike (wsV RX7 74 RX7 yX7_goes wsX7_goes) := goodIn_app (goodIn_of _ (by decide +kernel)) ggX7_strike_X7_goes
set_option maxRecDepth 20000 in
theorem ggX7_strike_X7_remembers : GoodIn wsX7_strike wsX7_remembers := goodIn_r _ [16, 17, 18, 19, 20, 5, 21, 1, 35, 36, 37, 38, 39, 40, 41, 42, 43, 44, 45, 46] (by decide +kernel) (by decide +kernel)
set_option maxRecDepth 20000 in
theorem gX7_strike_X7_remembers : GoodIn wsX7_strike (wsV RX7 110 RX7 yX7_remembers wsX7_remembers) := goodIn_app (goodIn_of _ (by decide +kernel)) ggX7_strike_X7_remembers
set_option maxRecDepth 20000 in
theorem ggX7_strike_X7_lays : GoodIn wsX7_strike wsX7_lays := goodIn_r _ [25, 1, 26, 7, 35, 36, 37, 38, 39, 40, 41, 42, 43, 44, 45, 46] (by decide +kernel) (by decide +kernel)
set_option maxRecDepth 20000 in
theorem gX7_strike_X7_lays : GoodIn wsX7_strike (wsV RX7 46 RX7 yX7_lays wsX7_lays) := goodIn_app (goodIn_of _ (by decide +kernel)) ggX7_strike_X7_lays
set_option maxRecDepth 20000 in
theorem ggX7_strike_X7_leftBy : GoodIn wsX7_strike wsX7_leftBy := goodIn_r _ [30, 26, 35, 36, 37, 38, 39, 40, 41, 42, 43, 44, 45, 46] (by decide +kernel) (by decide +kernel)
set_option maxRecDepth 20000 in
theorem gX7_strike_X7_leftBy : GoodIn wsX7_strike (wsV RX7 50 RX7 yX7_leftBy wsX7_leftBy) := goodIn_app (goodIn_of _ (by decide +kernel)) ggX7_strike_X7_leftBy
set_option maxRecDepth 20000 in
theorem ggX7_strike_X7_comes : GoodIn wsX7_strike wsX7_comes := goodIn_r _ [34, 1, 35, 36, 37, 38, 39, 40, 41, 42, 43, 44, 45, 46] (by decide +kernel) (by decide +kernel)
set_option maxRecDepth 20000 in
theorem gX7_strike_X7_comes : GoodIn wsX7_strike (wsV RX7 58 RX7 yX7_comes wsX7_comes) := goodIn_app (goodIn_of _ (by decide +kernel)) ggX7_strike_X7_comes
theorem dX7_strike_0 : decode cX7_strike 0 = .ok (.aload_n 0, 1) := by decide +kernel
theorem dX7_strike_1 : decode cX7_strike 1 = .ok (.aload_n 0, 1) := by decide +kernel
theorem dX7_strike_2 : decode cX7_strike 2 = .ok (.iconst 0, 1) := by decide +kernel
theorem dX7_strike_3 : decode cX7_strike 3 = .ok (.invokevirtual 54, 3) := by decide +kernel
theorem dX7_strike_6 : decode cX7_strike 6 = .ok (.ifCond .le 7, 3) := by decide +kernel
theorem dX7_strike_9 : decode cX7_strike 9 = .ok (.iconst 1, 1) := by decide +kernel
theorem dX7_strike_10 : decode cX7_strike 10 = .ok (.goto 4, 3) := by decide +kernel
theorem dX7_strike_13 : decode cX7_strike 13 = .ok (.iconst 0, 1) := by decide +kernel
theorem dX7_strike_14 : decode cX7_strike 14 = .ok (.iconst 1, 1) := by decide +kernel
theorem dX7_strike_15 : decode cX7_strike 15 = .ok (.invokevirtual 74, 3) := by decide +kernel
theorem dX7_strike_18 : decode cX7_strike 18 = .ok (.ifCond .ne 5, 3) := by decide +kernel
theorem dX7_strike_21 : decode cX7_strike 21 = .ok (.iconst 0, 1) := by decide +kernel
theorem dX7_strike_22 : decode cX7_strike 22 = .ok (.ireturn, 1) := by decide +kernel
theorem dX7_strike_23 : decode cX7_strike 23 = .ok (.aload_n 0, 1) := by decide +kernel
theorem dX7_strike_24 : decode cX7_strike 24 = .ok (.invokevirtual 110, 3) := by decide +kernel
theorem dX7_strike_27 : decode cX7_strike 27 = .ok (.aload_n 0, 1) := by decide +kernel
theorem dX7_strike_28 : decode cX7_strike 28 = .ok (.iconst 0, 1) := by decide +kernel
theorem dX7_strike_29 : decode cX7_strike 29 = .ok (.invokevirtual 46, 3) := by decide +kernel
theorem dX7_strike_32 : decode cX7_strike 32 = .ok (.aload_n 0, 1) := by decide +kernel
theorem dX7_strike_33 : decode cX7_strike 33 = .ok (.aload_n 0, 1) := by decide +kernel
theorem dX7_strike_34 : decode cX7_strike 34 = .ok (.getfield 7, 3) := by decide +kernel
theorem dX7_strike_37 : decode cX7_strike 37 = .ok (.iconst 0, 1) := by decide +kernel
theorem dX7_strike_38 : decode cX7_strike 38 = .ok (.iaload, 1) := by decide +kernel
theorem dX7_strike_39 : decode cX7_strike 39 = .ok (.aload_n 0, 1) := by decide +kernel
theorem dX7_strike_40 : decode cX7_strike 40 = .ok (.iconst 0, 1) := by decide +kernel
theorem dX7_strike_41 : decode cX7_strike 41 = .ok (.invokevirtual 54, 3) := by decide +kernel
theorem dX7_strike_44 : decode cX7_strike 44 = .ok (.invokevirtual 50, 3) := by decide +kernel
theorem dX7_strike_47 : decode cX7_strike 47 = .ok (.istore_n 1, 1) := by decide +kernel
theorem dX7_strike_48 : decode cX7_strike 48 = .ok (.aload_n 0, 1) := by decide +kernel
theorem dX7_strike_49 : decode cX7_strike 49 = .ok (.iconst 0, 1) := by decide +kernel
theorem dX7_strike_50 : decode cX7_strike 50 = .ok (.iconst 1, 1) := by decide +kernel
theorem dX7_strike_51 : decode cX7_strike 51 = .ok (.invokevirtual 58, 3) := by decide +kernel
theorem dX7_strike_54 : decode cX7_strike 54 = .ok (.iload_n 1, 1) := by decide +kernel
theorem dX7_strike_55 : decode cX7_strike 55 = .ok (.ireturn, 1) := by decide +kernel
set_option maxRecDepth 20000 in
theorem ggX7_spare_X7_next : GoodIn wsX7_spare wsX7_next := goodIn_r _ [7, 2, 1, 26, 27, 28, 29, 30, 31, 32, 33, 34, 35, 36, 37] (by decide +kernel) (by decide +kernel)
set_option maxRecDepth 20000 in
theorem gX7_spare_X7_next : GoodIn wsX7_spare (wsV RX7 54 RX7 yX7_next wsX7_next) := goodIn_app (goodIn_of _ (by decide +kernel)) ggX7_spare_X7_next
set_option maxRecDepth 20000 in
theorem ggX7_spare_X7_goes : GoodIn wsX7_spare wsX7_goes := goodIn_r _ [11, 12, 26, 27, 28, 29, 30, 31, 32, 33, 34, 35, 36, 37] (by decide +kernel) (by decide +kernel)
set_option maxRecDepth 20000 in
theorem gX7_spare_X7_goes : GoodIn wsX7_spare (wsV RX7 74 RX7 yX7_goes wsX7_goes) := goodIn_app (goodIn_of _ (by decide +kernel)) ggX7_spare_X7_goes
set_option maxRecDepth 20000 in
theorem ggX7_spare_X7_remembers : GoodIn wsX7_spare wsX7_remembers := goodIn_r _ [16, 17, 18, 19, 20, 6, 21, 2, 26, 27, 28, 29, 30, 31, 32, 33, 34, 35, 36, 37] (by decide +kernel) (by decide +kernel)
set_option maxRecDepth 20000 in
theorem gX7_spare_X7_remembers : GoodIn wsX7_spare (wsV RX7 110 RX7 yX7_remembers wsX7_remembers) := goodIn_app (goodIn_of _ (by decide +kernel)) ggX7_spare_X7_remembers
set_option maxRecDepth 20000 in
theorem ggX7_spare_X7_comes : GoodIn wsX7_spare wsX7_comes := goodIn_r _ [25, 2, 26, 27, 28, 29, 30, 31, 32, 33, 34, 35, 36, 37] (by decide +kernel) (by decide +kernel)
set_option maxRecDepth 20000 in
theorem gX7_spare_X7_comes : GoodIn wsX7_spare (wsV RX7 58 RX7 yX7_comes wsX7_comes) := goodIn_app (goodIn_of _ (by decide +kernel)) ggX7_spare_X7_comes
theorem dX7_spare_0 : decode cX7_spare 0 = .ok (.aload_n 0, 1) := by decide +kernel
theorem dX7_spare_1 : decode cX7_spare 1 = .ok (.aload_n 0, 1) := by decide +kernel
theorem dX7_spare_2 : decode cX7_spare 2 = .ok (.iconst 0, 1) := by decide +kernel
theorem dX7_spare_3 : decode cX7_spare 3 = .ok (.invokevirtual 54, 3) := by decide +kernel
theorem dX7_spare_6 : decode cX7_spare 6 = .ok (.ifCond .le 7, 3) := by decide +kernel
theorem dX7_spare_9 : decode cX7_spare 9 = .ok (.iconst 1, 1) := by decide +kernel
theorem dX7_spare_10 : decode cX7_spare 10 = .ok (.goto 4, 3) := by decide +kernel
theorem dX7_spare_13 : decode cX7_spare 13 = .ok (.iconst 0, 1) := by decide +kernel
theorem dX7_spare_14 : decode cX7_spare 14 = .ok (.iconst 1, 1) := by decide +kernel
theorem dX7_spare_15 : decode cX7_spare 15 = .ok (.invokevirtual 74, 3) := by decide +kernel
theorem dX7_spare_18 : decode cX7_spare 18 = .ok (.ifCond .ne 5, 3) := by decide +kernel
theorem dX7_spare_21 : decode cX7_spare 21 = .ok (.iconst 0, 1) := by decide +kernel
theorem dX7_spare_22 : decode cX7_spare 22 = .ok (.ireturn, 1) := by decide +kernel
theorem dX7_spare_23 : decode cX7_spare 23 = .ok (.aload_n 0, 1) := by decide +kernel
theorem dX7_spare_24 : decode cX7_spare 24 = .ok (.invokevirtual 110, 3) := by decide +kernel
theorem dX7_spare_27 : decode cX7_spare 27 = .ok (.aload_n 0, 1) := by decide +kernel
theorem dX7_spare_28 : decode cX7_spare 28 = .ok (.iconst 0, 1) := by decide +kernel
theorem dX7_spare_29 : decode cX7_spare 29 = .ok (.iconst 0, 1) := by decide +kernel
theorem dX7_spare_30 : decode cX7_spare 30 = .ok (.invokevirtual 58, 3) := by decide +kernel
theorem dX7_spare_33 : decode cX7_spare 33 = .ok (.aload_n 0, 1) := by decide +kernel
theorem dX7_spare_34 : decode cX7_spare 34 = .ok (.getfield 25, 3) := by decide +kernel
theorem dX7_spare_37 : decode cX7_spare 37 = .ok (.aload_n 0, 1) := by decide +kernel
theorem dX7_spare_38 : decode cX7_spare 38 = .ok (.getfield 7, 3) := by decide +kernel
theorem dX7_spare_41 : decode cX7_spare 41 = .ok (.iconst 1, 1) := by decide +kernel
theorem dX7_spare_42 : decode cX7_spare 42 = .ok (.iaload, 1) := by decide +kernel
theorem dX7_spare_43 : decode cX7_spare 43 = .ok (.iconst 1, 1) := by decide +kernel
theorem dX7_spare_44 : decode cX7_spare 44 = .ok (.isub, 1) := by decide +kernel
theorem dX7_spare_45 : decode cX7_spare 45 = .ok (.iaload, 1) := by decide +kernel
theorem dX7_spare_46 : decode cX7_spare 46 = .ok (.ireturn, 1) := by decide +kernel
set_option maxRecDepth 20000 in
theorem ggX7_strikeTo_X7_in : GoodIn wsX7_strikeTo wsX7_in := goodIn_r _ [5] (by decide +kernel) (by decide +kernel)
set_option maxRecDepth 20000 in
theorem gX7_strikeTo_X7_in : GoodIn wsX7_strikeTo (va_wsS RX7 67 yX7_in wsX7_in) := goodIn_app (goodIn_of _ (by decide +kernel)) ggX7_strikeTo_X7_in
set_option maxRecDepth 20000 in
theorem ggX7_strikeTo_X7_goes : GoodIn wsX7_strikeTo wsX7_goes := goodIn_r _ [9, 10, 34, 35, 36, 37, 38, 39, 40, 41, 42, 43, 44, 45] (by decide +kernel) (by decide +kernel)
set_option maxRecDepth 20000 in
theorem gX7_strikeTo_X7_goes : GoodIn wsX7_strikeTo (wsV RX7 74 RX7 yX7_goes wsX7_goes) := goodIn_app (goodIn_of _ (by decide +kernel)) ggX7_strikeTo_X7_goes
set_option maxRecDepth 20000 in
theorem ggX7_strikeTo_X7_remembers : GoodIn wsX7_strikeTo wsX7_remembers := goodIn_r _ [14, 15, 16, 17, 18, 4, 19, 20, 34, 35, 36, 37, 38, 39, 40, 41, 42, 43, 44, 45] (by decide +kernel) (by decide +kernel)
set_option maxRecDepth 20000 in
theorem gX7_strikeTo_X7_remembers : GoodIn wsX7_strikeTo (wsV RX7 110 RX7 yX7_remembers wsX7_remembers) := goodIn_app (goodIn_of _ (by decide +kernel)) ggX7_strikeTo_X7_remembers
set_option maxRecDepth 20000 in
theorem ggX7_strikeTo_X7_strikesTo : GoodIn wsX7_strikeTo wsX7_strikesTo := goodIn_r _ [24, 25, 26, 27, 4, 28, 20, 29, 30, 31, 32, 33, 34, 35, 36, 37, 38, 39, 40, 41, 42, 43, 44, 45] (by decide +kernel) (by decide +kernel)
set_option maxRecDepth 20000 in
theorem gX7_strikeTo_X7_strikesTo : GoodIn wsX7_strikeTo (wsV RX7 113 RX7 yX7_strikesTo wsX7_strikesTo) := goodIn_app (goodIn_of _ (by decide +kernel)) ggX7_strikeTo_X7_strikesTo
theorem dX7_strikeTo_0 : decode cX7_strikeTo 0 = .ok (.aload_n 0, 1) := by decide +kernel
theorem dX7_strikeTo_1 : decode cX7_strikeTo 1 = .ok (.iload_n 1, 1) := by decide +kernel
theorem dX7_strikeTo_2 : decode cX7_strikeTo 2 = .ok (.iconst 0, 1) := by decide +kernel
theorem dX7_strikeTo_3 : decode cX7_strikeTo 3 = .ok (.ldc 34, 2) := by decide +kernel
theorem dX7_strikeTo_5 : decode cX7_strikeTo 5 = .ok (.invokestatic 67, 3) := by decide +kernel
theorem dX7_strikeTo_8 : decode cX7_strikeTo 8 = .ok (.iconst 1, 1) := by decide +kernel
theorem dX7_strikeTo_9 : decode cX7_strikeTo 9 = .ok (.invokevirtual 74, 3) := by decide +kernel
theorem dX7_strikeTo_12 : decode cX7_strikeTo 12 = .ok (.ifCond .ne 5, 3) := by decide +kernel
theorem dX7_strikeTo_15 : decode cX7_strikeTo 15 = .ok (.iconst 0, 1) := by decide +kernel
theorem dX7_strikeTo_16 : decode cX7_strikeTo 16 = .ok (.ireturn, 1) := by decide +kernel
theorem dX7_strikeTo_17 : decode cX7_strikeTo 17 = .ok (.aload_n 0, 1) := by decide +kernel
theorem dX7_strikeTo_18 : decode cX7_strikeTo 18 = .ok (.invokevirtual 110, 3) := by decide +kernel
theorem dX7_strikeTo_21 : decode cX7_strikeTo 21 = .ok (.aload_n 0, 1) := by decide +kernel
theorem dX7_strikeTo_22 : decode cX7_strikeTo 22 = .ok (.iconst 0, 1) := by decide +kernel
theorem dX7_strikeTo_23 : decode cX7_strikeTo 23 = .ok (.iload_n 1, 1) := by decide +kernel
theorem dX7_strikeTo_24 : decode cX7_strikeTo 24 = .ok (.invokevirtual 113, 3) := by decide +kernel
theorem dX7_strikeTo_27 : decode cX7_strikeTo 27 = .ok (.ireturn, 1) := by decide +kernel
set_option maxRecDepth 20000 in
theorem ggX7_again_X7_remembers : GoodIn wsX7_again wsX7_remembers := goodIn_r _ [7, 8, 9, 10, 11, 6, 12, 2, 13, 14, 15, 16, 17, 18, 19, 20, 21, 22, 23, 24] (by decide +kernel) (by decide +kernel)
set_option maxRecDepth 20000 in
theorem gX7_again_X7_remembers : GoodIn wsX7_again (wsV RX7 110 RX7 yX7_remembers wsX7_remembers) := goodIn_app (goodIn_of _ (by decide +kernel)) ggX7_again_X7_remembers
theorem dX7_again_0 : decode cX7_again 0 = .ok (.aload_n 0, 1) := by decide +kernel
theorem dX7_again_1 : decode cX7_again 1 = .ok (.iconst 0, 1) := by decide +kernel
theorem dX7_again_2 : decode cX7_again 2 = .ok (.putfield 35, 3) := by decide +kernel
theorem dX7_again_5 : decode cX7_again 5 = .ok (.aload_n 0, 1) := by decide +kernel
theorem dX7_again_6 : decode cX7_again 6 = .ok (.invokevirtual 110, 3) := by decide +kernel
theorem dX7_again_9 : decode cX7_again 9 = .ok (.aload_n 0, 1) := by decide +kernel
theorem dX7_again_10 : decode cX7_again 10 = .ok (.getfield 7, 3) := by decide +kernel
theorem dX7_again_13 : decode cX7_again 13 = .ok (.iconst 1, 1) := by decide +kernel
theorem dX7_again_14 : decode cX7_again 14 = .ok (.iaload, 1) := by decide +kernel
theorem dX7_again_15 : decode cX7_again 15 = .ok (.istore_n 1, 1) := by decide +kernel
theorem dX7_again_16 : decode cX7_again 16 = .ok (.aload_n 0, 1) := by decide +kernel
theorem dX7_again_17 : decode cX7_again 17 = .ok (.getfield 7, 3) := by decide +kernel
theorem dX7_again_20 : decode cX7_again 20 = .ok (.iconst 1, 1) := by decide +kernel
theorem dX7_again_21 : decode cX7_again 21 = .ok (.iconst 0, 1) := by decide +kernel
theorem dX7_again_22 : decode cX7_again 22 = .ok (.iastore, 1) := by decide +kernel
theorem dX7_again_23 : decode cX7_again 23 = .ok (.iload_n 1, 1) := by decide +kernel
theorem dX7_again_24 : decode cX7_again 24 = .ok (.ireturn, 1) := by decide +kernel
set_option maxRecDepth 20000 in
theorem ggX7_undo_X7_goes : GoodIn wsX7_undo wsX7_goes := goodIn_r _ [6, 7, 13, 14, 15, 16, 17, 18, 19, 20, 21, 22, 23, 24] (by decide +kernel) (by decide +kernel)
set_option maxRecDepth 20000 in
theorem gX7_undo_X7_goes : GoodIn wsX7_undo (wsV RX7 74 RX7 yX7_goes wsX7_goes) := goodIn_app (goodIn_of _ (by decide +kernel)) ggX7_undo_X7_goes
set_option maxRecDepth 20000 in
theorem ggX7_undo_X7_copies : GoodIn wsX7_undo wsX7_copies := goodIn_r _ [11, 12, 13, 14, 15, 16, 17, 18, 19, 20, 21, 22, 23, 24] (by decide +kernel) (by decide +kernel)
set_option maxRecDepth 20000 in
theorem gX7_undo_X7_copies : GoodIn wsX7_undo (wsV RX7 42 RX7 yX7_copies wsX7_copies) := goodIn_app (goodIn_of _ (by decide +kernel)) ggX7_undo_X7_copies
theorem dX7_undo_0 : decode cX7_undo 0 = .ok (.aload_n 0, 1) := by decide +kernel
theorem dX7_undo_1 : decode cX7_undo 1 = .ok (.aload_n 0, 1) := by decide +kernel
theorem dX7_undo_2 : decode cX7_undo 2 = .ok (.getfield 39, 3) := by decide +kernel
theorem dX7_undo_5 : decode cX7_undo 5 = .ok (.ifCond .le 7, 3) := by decide +kernel
theorem dX7_undo_8 : decode cX7_undo 8 = .ok (.iconst 1, 1) := by decide +kernel
theorem dX7_undo_9 : decode cX7_undo 9 = .ok (.goto 4, 3) := by decide +kernel
theorem dX7_undo_12 : decode cX7_undo 12 = .ok (.iconst 0, 1) := by decide +kernel
theorem dX7_undo_13 : decode cX7_undo 13 = .ok (.iconst 1, 1) := by decide +kernel
theorem dX7_undo_14 : decode cX7_undo 14 = .ok (.invokevirtual 74, 3) := by decide +kernel
theorem dX7_undo_17 : decode cX7_undo 17 = .ok (.ifCond .ne 5, 3) := by decide +kernel
theorem dX7_undo_20 : decode cX7_undo 20 = .ok (.iconst 0, 1) := by decide +kernel
theorem dX7_undo_21 : decode cX7_undo 21 = .ok (.ireturn, 1) := by decide +kernel
theorem dX7_undo_22 : decode cX7_undo 22 = .ok (.aload_n 0, 1) := by decide +kernel
theorem dX7_undo_23 : decode cX7_undo 23 = .ok (.aload_n 0, 1) := by decide +kernel
theorem dX7_undo_24 : decode cX7_undo 24 = .ok (.getfield 39, 3) := by decide +kernel
theorem dX7_undo_27 : decode cX7_undo 27 = .ok (.iconst 0, 1) := by decide +kernel
theorem dX7_undo_28 : decode cX7_undo 28 = .ok (.invokevirtual 42, 3) := by decide +kernel
theorem dX7_undo_31 : decode cX7_undo 31 = .ok (.aload_n 0, 1) := by decide +kernel
theorem dX7_undo_32 : decode cX7_undo 32 = .ok (.dup, 1) := by decide +kernel
theorem dX7_undo_33 : decode cX7_undo 33 = .ok (.getfield 39, 3) := by decide +kernel
theorem dX7_undo_36 : decode cX7_undo 36 = .ok (.iconst 1, 1) := by decide +kernel
theorem dX7_undo_37 : decode cX7_undo 37 = .ok (.isub, 1) := by decide +kernel
theorem dX7_undo_38 : decode cX7_undo 38 = .ok (.putfield 39, 3) := by decide +kernel
theorem dX7_undo_41 : decode cX7_undo 41 = .ok (.aload_n 0, 1) := by decide +kernel
theorem dX7_undo_42 : decode cX7_undo 42 = .ok (.getfield 39, 3) := by decide +kernel
theorem dX7_undo_45 : decode cX7_undo 45 = .ok (.ireturn, 1) := by decide +kernel
set_option maxRecDepth 20000 in
theorem ggX7_wouldStrike_X7_isQuotient : GoodIn wsX7_wouldStrike wsX7_isQuotient := goodIn_r _ [6, 7, 8, 9, 10, 5, 11, 12, 1, 13, 14, 15, 35, 36, 37, 38, 39, 40, 41, 42, 43, 44, 45, 46] (by decide +kernel) (by decide +kernel)
set_option maxRecDepth 20000 in
theorem gX7_wouldStrike_X7_isQuotient : GoodIn wsX7_wouldStrike (wsV RX7 103 RX7 yX7_isQuotient wsX7_isQuotient) := goodIn_app (goodIn_of _ (by decide +kernel)) ggX7_wouldStrike_X7_isQuotient
set_option maxRecDepth 20000 in
theorem ggX7_wouldStrike_X7_goes : GoodIn wsX7_wouldStrike wsX7_goes := goodIn_r _ [19, 20, 35, 36, 37, 38, 39, 40, 41, 42, 43, 44, 45, 46] (by decide +kernel) (by decide +kernel)
set_option maxRecDepth 20000 in
theorem gX7_wouldStrike_X7_goes : GoodIn wsX7_wouldStrike (wsV RX7 74 RX7 yX7_goes wsX7_goes) := goodIn_app (goodIn_of _ (by decide +kernel)) ggX7_wouldStrike_X7_goes
set_option maxRecDepth 20000 in
theorem ggX7_wouldStrike_X7_lays : GoodIn wsX7_wouldStrike wsX7_lays := goodIn_r _ [24, 12, 25, 26, 35, 36, 37, 38, 39, 40, 41, 42, 43, 44, 45, 46] (by decide +kernel) (by decide +kernel)
set_option maxRecDepth 20000 in
theorem gX7_wouldStrike_X7_lays : GoodIn wsX7_wouldStrike (wsV RX7 46 RX7 yX7_lays wsX7_lays) := goodIn_app (goodIn_of _ (by decide +kernel)) ggX7_wouldStrike_X7_lays
set_option maxRecDepth 20000 in
theorem ggX7_wouldStrike_X7_next : GoodIn wsX7_wouldStrike wsX7_next := goodIn_r _ [30, 12, 26, 35, 36, 37, 38, 39, 40, 41, 42, 43, 44, 45, 46] (by decide +kernel) (by decide +kernel)
set_option maxRecDepth 20000 in
theorem gX7_wouldStrike_X7_next : GoodIn wsX7_wouldStrike (wsV RX7 54 RX7 yX7_next wsX7_next) := goodIn_app (goodIn_of _ (by decide +kernel)) ggX7_wouldStrike_X7_next
set_option maxRecDepth 20000 in
theorem ggX7_wouldStrike_X7_leftBy : GoodIn wsX7_wouldStrike wsX7_leftBy := goodIn_r _ [34, 25, 35, 36, 37, 38, 39, 40, 41, 42, 43, 44, 45, 46] (by decide +kernel) (by decide +kernel)
set_option maxRecDepth 20000 in
theorem gX7_wouldStrike_X7_leftBy : GoodIn wsX7_wouldStrike (wsV RX7 50 RX7 yX7_leftBy wsX7_leftBy) := goodIn_app (goodIn_of _ (by decide +kernel)) ggX7_wouldStrike_X7_leftBy
theorem dX7_wouldStrike_0 : decode cX7_wouldStrike 0 = .ok (.aload_n 0, 1) := by decide +kernel
theorem dX7_wouldStrike_1 : decode cX7_wouldStrike 1 = .ok (.aload_n 0, 1) := by decide +kernel
theorem dX7_wouldStrike_2 : decode cX7_wouldStrike 2 = .ok (.iload_n 1, 1) := by decide +kernel
theorem dX7_wouldStrike_3 : decode cX7_wouldStrike 3 = .ok (.invokevirtual 103, 3) := by decide +kernel
theorem dX7_wouldStrike_6 : decode cX7_wouldStrike 6 = .ok (.iconst 1, 1) := by decide +kernel
theorem dX7_wouldStrike_7 : decode cX7_wouldStrike 7 = .ok (.invokevirtual 74, 3) := by decide +kernel
theorem dX7_wouldStrike_10 : decode cX7_wouldStrike 10 = .ok (.ifCond .ne 5, 3) := by decide +kernel
theorem dX7_wouldStrike_13 : decode cX7_wouldStrike 13 = .ok (.iconst 0, 1) := by decide +kernel
theorem dX7_wouldStrike_14 : decode cX7_wouldStrike 14 = .ok (.ireturn, 1) := by decide +kernel
theorem dX7_wouldStrike_15 : decode cX7_wouldStrike 15 = .ok (.aload_n 0, 1) := by decide +kernel
theorem dX7_wouldStrike_16 : decode cX7_wouldStrike 16 = .ok (.iconst 0, 1) := by decide +kernel
theorem dX7_wouldStrike_17 : decode cX7_wouldStrike 17 = .ok (.invokevirtual 46, 3) := by decide +kernel
theorem dX7_wouldStrike_20 : decode cX7_wouldStrike 20 = .ok (.aload_n 0, 1) := by decide +kernel
theorem dX7_wouldStrike_21 : decode cX7_wouldStrike 21 = .ok (.iconst 0, 1) := by decide +kernel
theorem dX7_wouldStrike_22 : decode cX7_wouldStrike 22 = .ok (.invokevirtual 54, 3) := by decide +kernel
theorem dX7_wouldStrike_25 : decode cX7_wouldStrike 25 = .ok (.ifCond .ge 7, 3) := by decide +kernel
theorem dX7_wouldStrike_28 : decode cX7_wouldStrike 28 = .ok (.iconst 0, 1) := by decide +kernel
theorem dX7_wouldStrike_29 : decode cX7_wouldStrike 29 = .ok (.goto 18, 3) := by decide +kernel
theorem dX7_wouldStrike_32 : decode cX7_wouldStrike 32 = .ok (.aload_n 0, 1) := by decide +kernel
theorem dX7_wouldStrike_33 : decode cX7_wouldStrike 33 = .ok (.aload_n 0, 1) := by decide +kernel
theorem dX7_wouldStrike_34 : decode cX7_wouldStrike 34 = .ok (.getfield 31, 3) := by decide +kernel
theorem dX7_wouldStrike_37 : decode cX7_wouldStrike 37 = .ok (.iload_n 1, 1) := by decide +kernel
theorem dX7_wouldStrike_38 : decode cX7_wouldStrike 38 = .ok (.iaload, 1) := by decide +kernel
theorem dX7_wouldStrike_39 : decode cX7_wouldStrike 39 = .ok (.aload_n 0, 1) := by decide +kernel
theorem dX7_wouldStrike_40 : decode cX7_wouldStrike 40 = .ok (.iconst 0, 1) := by decide +kernel
theorem dX7_wouldStrike_41 : decode cX7_wouldStrike 41 = .ok (.invokevirtual 54, 3) := by decide +kernel
theorem dX7_wouldStrike_44 : decode cX7_wouldStrike 44 = .ok (.invokevirtual 50, 3) := by decide +kernel
theorem dX7_wouldStrike_47 : decode cX7_wouldStrike 47 = .ok (.ireturn, 1) := by decide +kernel
theorem dX7_isPrime_0 : decode cX7_isPrime 0 = .ok (.iload_n 1, 1) := by decide +kernel
theorem dX7_isPrime_1 : decode cX7_isPrime 1 = .ok (.iconst 1, 1) := by decide +kernel
theorem dX7_isPrime_2 : decode cX7_isPrime 2 = .ok (.if_icmp .le 17, 3) := by decide +kernel
theorem dX7_isPrime_5 : decode cX7_isPrime 5 = .ok (.aload_n 0, 1) := by decide +kernel
theorem dX7_isPrime_6 : decode cX7_isPrime 6 = .ok (.getfield 22, 3) := by decide +kernel
theorem dX7_isPrime_9 : decode cX7_isPrime 9 = .ok (.iload_n 1, 1) := by decide +kernel
theorem dX7_isPrime_10 : decode cX7_isPrime 10 = .ok (.iaload, 1) := by decide +kernel
theorem dX7_isPrime_11 : decode cX7_isPrime 11 = .ok (.iload_n 1, 1) := by decide +kernel
theorem dX7_isPrime_12 : decode cX7_isPrime 12 = .ok (.if_icmp .ne 7, 3) := by decide +kernel
theorem dX7_isPrime_15 : decode cX7_isPrime 15 = .ok (.iconst 1, 1) := by decide +kernel
theorem dX7_isPrime_16 : decode cX7_isPrime 16 = .ok (.goto 4, 3) := by decide +kernel
theorem dX7_isPrime_19 : decode cX7_isPrime 19 = .ok (.iconst 0, 1) := by decide +kernel
theorem dX7_isPrime_20 : decode cX7_isPrime 20 = .ok (.ireturn, 1) := by decide +kernel
set_option maxRecDepth 20000 in
theorem ggX7_primes_X7_in : GoodIn wsX7_primes wsX7_in := goodIn_r _ [5] (by decide +kernel) (by decide +kernel)
set_option maxRecDepth 20000 in
theorem gX7_primes_X7_in : GoodIn wsX7_primes (va_wsS RX7 67 yX7_in wsX7_in) := goodIn_app (goodIn_of _ (by decide +kernel)) ggX7_primes_X7_in
set_option maxRecDepth 20000 in
theorem ggX7_primes_X7_goes : GoodIn wsX7_primes wsX7_goes := goodIn_r _ [9, 10, 16, 17, 18, 19, 20, 21, 22, 23, 24, 25, 26, 27] (by decide +kernel) (by decide +kernel)
set_option maxRecDepth 20000 in
theorem gX7_primes_X7_goes : GoodIn wsX7_primes (wsV RX7 74 RX7 yX7_goes wsX7_goes) := goodIn_app (goodIn_of _ (by decide +kernel)) ggX7_primes_X7_goes
set_option maxRecDepth 20000 in
theorem ggX7_primes_X7_isPrime : GoodIn wsX7_primes wsX7_isPrime := goodIn_r _ [14, 15, 16, 17, 18, 19, 20, 21, 22, 23, 24, 25, 26, 27] (by decide +kernel) (by decide +kernel)
set_option maxRecDepth 20000 in
theorem gX7_primes_X7_isPrime : GoodIn wsX7_primes (wsV RX7 116 RX7 yX7_isPrime wsX7_isPrime) := goodIn_app (goodIn_of _ (by decide +kernel)) ggX7_primes_X7_isPrime
theorem dX7_primes_0 : decode cX7_primes 0 = .ok (.aload_n 0, 1) := by decide +kernel
theorem dX7_primes_1 : decode cX7_primes 1 = .ok (.iload_n 1, 1) := by decide +kernel
theorem dX7_primes_2 : decode cX7_primes 2 = .ok (.iconst 0, 1) := by decide +kernel
theorem dX7_primes_3 : decode cX7_primes 3 = .ok (.ldc 34, 2) := by decide +kernel
theorem dX7_primes_5 : decode cX7_primes 5 = .ok (.invokestatic 67, 3) := by decide +kernel
theorem dX7_primes_8 : decode cX7_primes 8 = .ok (.iconst 1, 1) := by decide +kernel
theorem dX7_primes_9 : decode cX7_primes 9 = .ok (.invokevirtual 74, 3) := by decide +kernel
theorem dX7_primes_12 : decode cX7_primes 12 = .ok (.ifCond .ne 5, 3) := by decide +kernel
theorem dX7_primes_15 : decode cX7_primes 15 = .ok (.iconst 0, 1) := by decide +kernel
theorem dX7_primes_16 : decode cX7_primes 16 = .ok (.ireturn, 1) := by decide +kernel
theorem dX7_primes_17 : decode cX7_primes 17 = .ok (.iconst 0, 1) := by decide +kernel
theorem dX7_primes_18 : decode cX7_primes 18 = .ok (.istore_n 2, 1) := by decide +kernel
theorem dX7_primes_19 : decode cX7_primes 19 = .ok (.iconst 2, 1) := by decide +kernel
theorem dX7_primes_20 : decode cX7_primes 20 = .ok (.istore_n 3, 1) := by decide +kernel
theorem dX7_primes_21 : decode cX7_primes 21 = .ok (.iload_n 3, 1) := by decide +kernel
theorem dX7_primes_22 : decode cX7_primes 22 = .ok (.iload_n 1, 1) := by decide +kernel
theorem dX7_primes_23 : decode cX7_primes 23 = .ok (.if_icmp .gt 25, 3) := by decide +kernel
theorem dX7_primes_26 : decode cX7_primes 26 = .ok (.iload_n 2, 1) := by decide +kernel
theorem dX7_primes_27 : decode cX7_primes 27 = .ok (.aload_n 0, 1) := by decide +kernel
theorem dX7_primes_28 : decode cX7_primes 28 = .ok (.iload_n 3, 1) := by decide +kernel
theorem dX7_primes_29 : decode cX7_primes 29 = .ok (.invokevirtual 116, 3) := by decide +kernel
theorem dX7_primes_32 : decode cX7_primes 32 = .ok (.ifCond .eq 7, 3) := by decide +kernel
theorem dX7_primes_35 : decode cX7_primes 35 = .ok (.iconst 1, 1) := by decide +kernel
theorem dX7_primes_36 : decode cX7_primes 36 = .ok (.goto 4, 3) := by decide +kernel
theorem dX7_primes_39 : decode cX7_primes 39 = .ok (.iconst 0, 1) := by decide +kernel
theorem dX7_primes_40 : decode cX7_primes 40 = .ok (.iadd, 1) := by decide +kernel
theorem dX7_primes_41 : decode cX7_primes 41 = .ok (.istore_n 2, 1) := by decide +kernel
theorem dX7_primes_42 : decode cX7_primes 42 = .ok (.iinc 3 1, 3) := by decide +kernel
theorem dX7_primes_45 : decode cX7_primes 45 = .ok (.goto (-24), 3) := by decide +kernel
theorem dX7_primes_48 : decode cX7_primes 48 = .ok (.iload_n 2, 1) := by decide +kernel
theorem dX7_primes_49 : decode cX7_primes 49 = .ok (.ireturn, 1) := by decide +kernel
set_option maxRecDepth 20000 in
theorem ggX7_sumOf_X7_in : GoodIn wsX7_sumOf wsX7_in := goodIn_r _ [5] (by decide +kernel) (by decide +kernel)
set_option maxRecDepth 20000 in
theorem gX7_sumOf_X7_in : GoodIn wsX7_sumOf (va_wsS RX7 67 yX7_in wsX7_in) := goodIn_app (goodIn_of _ (by decide +kernel)) ggX7_sumOf_X7_in
set_option maxRecDepth 20000 in
theorem ggX7_sumOf_X7_goes : GoodIn wsX7_sumOf wsX7_goes := goodIn_r _ [9, 10, 16, 17, 18, 19, 20, 21, 22, 23, 24, 25, 26, 27] (by decide +kernel) (by decide +kernel)
set_option maxRecDepth 20000 in
theorem gX7_sumOf_X7_goes : GoodIn wsX7_sumOf (wsV RX7 74 RX7 yX7_goes wsX7_goes) := goodIn_app (goodIn_of _ (by decide +kernel)) ggX7_sumOf_X7_goes
set_option maxRecDepth 20000 in
theorem ggX7_sumOf_X7_isPrime : GoodIn wsX7_sumOf wsX7_isPrime := goodIn_r _ [14, 15, 16, 17, 18, 19, 20, 21, 22, 23, 24, 25, 26, 27] (by decide +kernel) (by decide +kernel)
set_option maxRecDepth 20000 in
theorem gX7_sumOf_X7_isPrime : GoodIn wsX7_sumOf (wsV RX7 116 RX7 yX7_isPrime wsX7_isPrime) := goodIn_app (goodIn_of _ (by decide +kernel)) ggX7_sumOf_X7_isPrime
theorem dX7_sumOf_0 : decode cX7_sumOf 0 = .ok (.aload_n 0, 1) := by decide +kernel
theorem dX7_sumOf_1 : decode cX7_sumOf 1 = .ok (.iload_n 1, 1) := by decide +kernel
theorem dX7_sumOf_2 : decode cX7_sumOf 2 = .ok (.iconst 0, 1) := by decide +kernel
theorem dX7_sumOf_3 : decode cX7_sumOf 3 = .ok (.ldc 34, 2) := by decide +kernel
theorem dX7_sumOf_5 : decode cX7_sumOf 5 = .ok (.invokestatic 67, 3) := by decide +kernel
theorem dX7_sumOf_8 : decode cX7_sumOf 8 = .ok (.iconst 1, 1) := by decide +kernel
theorem dX7_sumOf_9 : decode cX7_sumOf 9 = .ok (.invokevirtual 74, 3) := by decide +kernel
theorem dX7_sumOf_12 : decode cX7_sumOf 12 = .ok (.ifCond .ne 5, 3) := by decide +kernel
theorem dX7_sumOf_15 : decode cX7_sumOf 15 = .ok (.lconst 0, 1) := by decide +kernel
theorem dX7_sumOf_16 : decode cX7_sumOf 16 = .ok (.lreturn, 1) := by decide +kernel
theorem dX7_sumOf_17 : decode cX7_sumOf 17 = .ok (.lconst 0, 1) := by decide +kernel
theorem dX7_sumOf_18 : decode cX7_sumOf 18 = .ok (.lstore_n 2, 1) := by decide +kernel
theorem dX7_sumOf_19 : decode cX7_sumOf 19 = .ok (.iconst 2, 1) := by decide +kernel
theorem dX7_sumOf_20 : decode cX7_sumOf 20 = .ok (.istore 4, 2) := by decide +kernel
theorem dX7_sumOf_22 : decode cX7_sumOf 22 = .ok (.iload 4, 2) := by decide +kernel
theorem dX7_sumOf_24 : decode cX7_sumOf 24 = .ok (.iload_n 1, 1) := by decide +kernel
theorem dX7_sumOf_25 : decode cX7_sumOf 25 = .ok (.if_icmp .gt 28, 3) := by decide +kernel
theorem dX7_sumOf_28 : decode cX7_sumOf 28 = .ok (.lload_n 2, 1) := by decide +kernel
theorem dX7_sumOf_29 : decode cX7_sumOf 29 = .ok (.aload_n 0, 1) := by decide +kernel
theorem dX7_sumOf_30 : decode cX7_sumOf 30 = .ok (.iload 4, 2) := by decide +kernel
theorem dX7_sumOf_32 : decode cX7_sumOf 32 = .ok (.invokevirtual 116, 3) := by decide +kernel
theorem dX7_sumOf_35 : decode cX7_sumOf 35 = .ok (.ifCond .eq 9, 3) := by decide +kernel
theorem dX7_sumOf_38 : decode cX7_sumOf 38 = .ok (.iload 4, 2) := by decide +kernel
theorem dX7_sumOf_40 : decode cX7_sumOf 40 = .ok (.i2l, 1) := by decide +kernel
theorem dX7_sumOf_41 : decode cX7_sumOf 41 = .ok (.goto 4, 3) := by decide +kernel
theorem dX7_sumOf_44 : decode cX7_sumOf 44 = .ok (.lconst 0, 1) := by decide +kernel
theorem dX7_sumOf_45 : decode cX7_sumOf 45 = .ok (.ladd, 1) := by decide +kernel
theorem dX7_sumOf_46 : decode cX7_sumOf 46 = .ok (.lstore_n 2, 1) := by decide +kernel
theorem dX7_sumOf_47 : decode cX7_sumOf 47 = .ok (.iinc 4 1, 3) := by decide +kernel
theorem dX7_sumOf_50 : decode cX7_sumOf 50 = .ok (.goto (-28), 3) := by decide +kernel
theorem dX7_sumOf_53 : decode cX7_sumOf 53 = .ok (.lload_n 2, 1) := by decide +kernel
theorem dX7_sumOf_54 : decode cX7_sumOf 54 = .ok (.lreturn, 1) := by decide +kernel
set_option maxRecDepth 20000 in
theorem ggX7_inSpan_X7_in : GoodIn wsX7_inSpan wsX7_in := goodIn_r _ [5] (by decide +kernel) (by decide +kernel)
set_option maxRecDepth 20000 in
theorem gX7_inSpan_X7_in : GoodIn wsX7_inSpan (va_wsS RX7 67 yX7_in wsX7_in) := goodIn_app (goodIn_of _ (by decide +kernel)) ggX7_inSpan_X7_in
set_option maxRecDepth 20000 in
theorem ggX7_inSpan_X7_goes : GoodIn wsX7_inSpan wsX7_goes := goodIn_r _ [9, 10, 16, 17, 18, 19, 20, 21, 22, 23, 24, 25, 26, 27] (by decide +kernel) (by decide +kernel)
set_option maxRecDepth 20000 in
theorem gX7_inSpan_X7_goes : GoodIn wsX7_inSpan (wsV RX7 74 RX7 yX7_goes wsX7_goes) := goodIn_app (goodIn_of _ (by decide +kernel)) ggX7_inSpan_X7_goes
set_option maxRecDepth 20000 in
theorem ggX7_inSpan_X7_isPrime : GoodIn wsX7_inSpan wsX7_isPrime := goodIn_r _ [14, 15, 16, 17, 18, 19, 20, 21, 22, 23, 24, 25, 26, 27] (by decide +kernel) (by decide +kernel)
set_option maxRecDepth 20000 in
theorem gX7_inSpan_X7_isPrime : GoodIn wsX7_inSpan (wsV RX7 116 RX7 yX7_isPrime wsX7_isPrime) := goodIn_app (goodIn_of _ (by decide +kernel)) ggX7_inSpan_X7_isPrime
theorem dX7_inSpan_0 : decode cX7_inSpan 0 = .ok (.aload_n 0, 1) := by decide +kernel
theorem dX7_inSpan_1 : decode cX7_inSpan 1 = .ok (.iload_n 1, 1) := by decide +kernel
theorem dX7_inSpan_2 : decode cX7_inSpan 2 = .ok (.iconst 0, 1) := by decide +kernel
theorem dX7_inSpan_3 : decode cX7_inSpan 3 = .ok (.ldc 34, 2) := by decide +kernel
theorem dX7_inSpan_5 : decode cX7_inSpan 5 = .ok (.invokestatic 67, 3) := by decide +kernel
theorem dX7_inSpan_8 : decode cX7_inSpan 8 = .ok (.ifCond .eq 17, 3) := by decide +kernel
theorem dX7_inSpan_11 : decode cX7_inSpan 11 = .ok (.iload_n 2, 1) := by decide +kernel
theorem dX7_inSpan_12 : decode cX7_inSpan 12 = .ok (.iload_n 1, 1) := by decide +kernel
theorem dX7_inSpan_13 : decode cX7_inSpan 13 = .ok (.ldc 34, 2) := by decide +kernel
theorem dX7_inSpan_15 : decode cX7_inSpan 15 = .ok (.invokestatic 67, 3) := by decide +kernel
theorem dX7_inSpan_18 : decode cX7_inSpan 18 = .ok (.ifCond .eq 7, 3) := by decide +kernel
theorem dX7_inSpan_21 : decode cX7_inSpan 21 = .ok (.iconst 1, 1) := by decide +kernel
theorem dX7_inSpan_22 : decode cX7_inSpan 22 = .ok (.goto 4, 3) := by decide +kernel
theorem dX7_inSpan_25 : decode cX7_inSpan 25 = .ok (.iconst 0, 1) := by decide +kernel
theorem dX7_inSpan_26 : decode cX7_inSpan 26 = .ok (.iconst 1, 1) := by decide +kernel
theorem dX7_inSpan_27 : decode cX7_inSpan 27 = .ok (.invokevirtual 74, 3) := by decide +kernel
theorem dX7_inSpan_30 : decode cX7_inSpan 30 = .ok (.ifCond .ne 5, 3) := by decide +kernel
theorem dX7_inSpan_33 : decode cX7_inSpan 33 = .ok (.iconst 0, 1) := by decide +kernel
theorem dX7_inSpan_34 : decode cX7_inSpan 34 = .ok (.ireturn, 1) := by decide +kernel
theorem dX7_inSpan_35 : decode cX7_inSpan 35 = .ok (.iconst 0, 1) := by decide +kernel
theorem dX7_inSpan_36 : decode cX7_inSpan 36 = .ok (.istore_n 3, 1) := by decide +kernel
theorem dX7_inSpan_37 : decode cX7_inSpan 37 = .ok (.iload_n 1, 1) := by decide +kernel
theorem dX7_inSpan_38 : decode cX7_inSpan 38 = .ok (.istore 4, 2) := by decide +kernel
theorem dX7_inSpan_40 : decode cX7_inSpan 40 = .ok (.iload 4, 2) := by decide +kernel
theorem dX7_inSpan_42 : decode cX7_inSpan 42 = .ok (.iload_n 2, 1) := by decide +kernel
theorem dX7_inSpan_43 : decode cX7_inSpan 43 = .ok (.if_icmp .gt 26, 3) := by decide +kernel
theorem dX7_inSpan_46 : decode cX7_inSpan 46 = .ok (.iload_n 3, 1) := by decide +kernel
theorem dX7_inSpan_47 : decode cX7_inSpan 47 = .ok (.aload_n 0, 1) := by decide +kernel
theorem dX7_inSpan_48 : decode cX7_inSpan 48 = .ok (.iload 4, 2) := by decide +kernel
theorem dX7_inSpan_50 : decode cX7_inSpan 50 = .ok (.invokevirtual 116, 3) := by decide +kernel
theorem dX7_inSpan_53 : decode cX7_inSpan 53 = .ok (.ifCond .eq 7, 3) := by decide +kernel
theorem dX7_inSpan_56 : decode cX7_inSpan 56 = .ok (.iconst 1, 1) := by decide +kernel
theorem dX7_inSpan_57 : decode cX7_inSpan 57 = .ok (.goto 4, 3) := by decide +kernel
theorem dX7_inSpan_60 : decode cX7_inSpan 60 = .ok (.iconst 0, 1) := by decide +kernel
theorem dX7_inSpan_61 : decode cX7_inSpan 61 = .ok (.iadd, 1) := by decide +kernel
theorem dX7_inSpan_62 : decode cX7_inSpan 62 = .ok (.istore_n 3, 1) := by decide +kernel
theorem dX7_inSpan_63 : decode cX7_inSpan 63 = .ok (.iinc 4 1, 3) := by decide +kernel
theorem dX7_inSpan_66 : decode cX7_inSpan 66 = .ok (.goto (-26), 3) := by decide +kernel
theorem dX7_inSpan_69 : decode cX7_inSpan 69 = .ok (.iload_n 3, 1) := by decide +kernel
theorem dX7_inSpan_70 : decode cX7_inSpan 70 = .ok (.ireturn, 1) := by decide +kernel
set_option maxRecDepth 20000 in
theorem ggX7_byRest_X7_in : GoodIn wsX7_byRest wsX7_in := goodIn_r _ [5] (by decide +kernel) (by decide +kernel)
set_option maxRecDepth 20000 in
theorem gX7_byRest_X7_in : GoodIn wsX7_byRest (va_wsS RX7 67 yX7_in wsX7_in) := goodIn_app (goodIn_of _ (by decide +kernel)) ggX7_byRest_X7_in
set_option maxRecDepth 20000 in
theorem ggX7_byRest_X7_goes : GoodIn wsX7_byRest wsX7_goes := goodIn_r _ [9, 10, 16, 17, 18, 19, 20, 21, 22, 23, 24, 25, 26, 27] (by decide +kernel) (by decide +kernel)
set_option maxRecDepth 20000 in
theorem gX7_byRest_X7_goes : GoodIn wsX7_byRest (wsV RX7 74 RX7 yX7_goes wsX7_goes) := goodIn_app (goodIn_of _ (by decide +kernel)) ggX7_byRest_X7_goes
set_option maxRecDepth 20000 in
theorem ggX7_byRest_X7_isPrime : GoodIn wsX7_byRest wsX7_isPrime := goodIn_r _ [14, 15, 16, 17, 18, 19, 20, 21, 22, 23, 24, 25, 26, 27] (by decide +kernel) (by decide +kernel)
set_option maxRecDepth 20000 in
theorem gX7_byRest_X7_isPrime : GoodIn wsX7_byRest (wsV RX7 116 RX7 yX7_isPrime wsX7_isPrime) := goodIn_app (goodIn_of _ (by decide +kernel)) ggX7_byRest_X7_isPrime
theorem dX7_byRest_0 : decode cX7_byRest 0 = .ok (.aload_n 0, 1) := by decide +kernel
theorem dX7_byRest_1 : decode cX7_byRest 1 = .ok (.iload_n 1, 1) := by decide +kernel
theorem dX7_byRest_2 : decode cX7_byRest 2 = .ok (.iconst 0, 1) := by decide +kernel
theorem dX7_byRest_3 : decode cX7_byRest 3 = .ok (.ldc 34, 2) := by decide +kernel
theorem dX7_byRest_5 : decode cX7_byRest 5 = .ok (.invokestatic 67, 3) := by decide +kernel
theorem dX7_byRest_8 : decode cX7_byRest 8 = .ok (.ifCond .eq 16, 3) := by decide +kernel
theorem dX7_byRest_11 : decode cX7_byRest 11 = .ok (.iload_n 2, 1) := by decide +kernel
theorem dX7_byRest_12 : decode cX7_byRest 12 = .ok (.iconst 0, 1) := by decide +kernel
theorem dX7_byRest_13 : decode cX7_byRest 13 = .ok (.iconst 3, 1) := by decide +kernel
theorem dX7_byRest_14 : decode cX7_byRest 14 = .ok (.invokestatic 67, 3) := by decide +kernel
theorem dX7_byRest_17 : decode cX7_byRest 17 = .ok (.ifCond .eq 7, 3) := by decide +kernel
theorem dX7_byRest_20 : decode cX7_byRest 20 = .ok (.iconst 1, 1) := by decide +kernel
theorem dX7_byRest_21 : decode cX7_byRest 21 = .ok (.goto 4, 3) := by decide +kernel
theorem dX7_byRest_24 : decode cX7_byRest 24 = .ok (.iconst 0, 1) := by decide +kernel
theorem dX7_byRest_25 : decode cX7_byRest 25 = .ok (.iconst 1, 1) := by decide +kernel
theorem dX7_byRest_26 : decode cX7_byRest 26 = .ok (.invokevirtual 74, 3) := by decide +kernel
theorem dX7_byRest_29 : decode cX7_byRest 29 = .ok (.ifCond .ne 5, 3) := by decide +kernel
theorem dX7_byRest_32 : decode cX7_byRest 32 = .ok (.iconst 0, 1) := by decide +kernel
theorem dX7_byRest_33 : decode cX7_byRest 33 = .ok (.ireturn, 1) := by decide +kernel
theorem dX7_byRest_34 : decode cX7_byRest 34 = .ok (.iconst 0, 1) := by decide +kernel
theorem dX7_byRest_35 : decode cX7_byRest 35 = .ok (.istore_n 3, 1) := by decide +kernel
theorem dX7_byRest_36 : decode cX7_byRest 36 = .ok (.iconst 2, 1) := by decide +kernel
theorem dX7_byRest_37 : decode cX7_byRest 37 = .ok (.istore 4, 2) := by decide +kernel
theorem dX7_byRest_39 : decode cX7_byRest 39 = .ok (.iload 4, 2) := by decide +kernel
theorem dX7_byRest_41 : decode cX7_byRest 41 = .ok (.iload_n 1, 1) := by decide +kernel
theorem dX7_byRest_42 : decode cX7_byRest 42 = .ok (.if_icmp .gt 34, 3) := by decide +kernel
theorem dX7_byRest_45 : decode cX7_byRest 45 = .ok (.iload_n 3, 1) := by decide +kernel
theorem dX7_byRest_46 : decode cX7_byRest 46 = .ok (.aload_n 0, 1) := by decide +kernel
theorem dX7_byRest_47 : decode cX7_byRest 47 = .ok (.iload 4, 2) := by decide +kernel
theorem dX7_byRest_49 : decode cX7_byRest 49 = .ok (.invokevirtual 116, 3) := by decide +kernel
theorem dX7_byRest_52 : decode cX7_byRest 52 = .ok (.ifCond .eq 15, 3) := by decide +kernel
theorem dX7_byRest_55 : decode cX7_byRest 55 = .ok (.iload 4, 2) := by decide +kernel
theorem dX7_byRest_57 : decode cX7_byRest 57 = .ok (.iconst 4, 1) := by decide +kernel
theorem dX7_byRest_58 : decode cX7_byRest 58 = .ok (.irem, 1) := by decide +kernel
theorem dX7_byRest_59 : decode cX7_byRest 59 = .ok (.iload_n 2, 1) := by decide +kernel
theorem dX7_byRest_60 : decode cX7_byRest 60 = .ok (.if_icmp .ne 7, 3) := by decide +kernel
theorem dX7_byRest_63 : decode cX7_byRest 63 = .ok (.iconst 1, 1) := by decide +kernel
theorem dX7_byRest_64 : decode cX7_byRest 64 = .ok (.goto 4, 3) := by decide +kernel
theorem dX7_byRest_67 : decode cX7_byRest 67 = .ok (.iconst 0, 1) := by decide +kernel
theorem dX7_byRest_68 : decode cX7_byRest 68 = .ok (.iadd, 1) := by decide +kernel
theorem dX7_byRest_69 : decode cX7_byRest 69 = .ok (.istore_n 3, 1) := by decide +kernel
theorem dX7_byRest_70 : decode cX7_byRest 70 = .ok (.iinc 4 1, 3) := by decide +kernel
theorem dX7_byRest_73 : decode cX7_byRest 73 = .ok (.goto (-34), 3) := by decide +kernel
theorem dX7_byRest_76 : decode cX7_byRest 76 = .ok (.iload_n 3, 1) := by decide +kernel
theorem dX7_byRest_77 : decode cX7_byRest 77 = .ok (.ireturn, 1) := by decide +kernel
set_option maxRecDepth 20000 in
theorem ggX7_prime_X7_in : GoodIn wsX7_prime wsX7_in := goodIn_r _ [4] (by decide +kernel) (by decide +kernel)
set_option maxRecDepth 20000 in
theorem gX7_prime_X7_in : GoodIn wsX7_prime (va_wsS RX7 67 yX7_in wsX7_in) := goodIn_app (goodIn_of _ (by decide +kernel)) ggX7_prime_X7_in
set_option maxRecDepth 20000 in
theorem ggX7_prime_X7_goes : GoodIn wsX7_prime wsX7_goes := goodIn_r _ [8, 9, 15, 16, 17, 18, 19, 20, 21, 22, 23, 24, 25, 26] (by decide +kernel) (by decide +kernel)
set_option maxRecDepth 20000 in
theorem gX7_prime_X7_goes : GoodIn wsX7_prime (wsV RX7 74 RX7 yX7_goes wsX7_goes) := goodIn_app (goodIn_of _ (by decide +kernel)) ggX7_prime_X7_goes
set_option maxRecDepth 20000 in
theorem ggX7_prime_X7_isPrime : GoodIn wsX7_prime wsX7_isPrime := goodIn_r _ [13, 14, 15, 16, 17, 18, 19, 20, 21, 22, 23, 24, 25, 26] (by decide +kernel) (by decide +kernel)
set_option maxRecDepth 20000 in
theorem gX7_prime_X7_isPrime : GoodIn wsX7_prime (wsV RX7 116 RX7 yX7_isPrime wsX7_isPrime) := goodIn_app (goodIn_of _ (by decide +kernel)) ggX7_prime_X7_isPrime
theorem dX7_prime_0 : decode cX7_prime 0 = .ok (.aload_n 0, 1) := by decide +kernel
theorem dX7_prime_1 : decode cX7_prime 1 = .ok (.iload_n 1, 1) := by decide +kernel
theorem dX7_prime_2 : decode cX7_prime 2 = .ok (.iconst 1, 1) := by decide +kernel
theorem dX7_prime_3 : decode cX7_prime 3 = .ok (.sipush 9592, 3) := by decide +kernel
theorem dX7_prime_6 : decode cX7_prime 6 = .ok (.invokestatic 67, 3) := by decide +kernel
theorem dX7_prime_9 : decode cX7_prime 9 = .ok (.iconst 1, 1) := by decide +kernel
theorem dX7_prime_10 : decode cX7_prime 10 = .ok (.invokevirtual 74, 3) := by decide +kernel
theorem dX7_prime_13 : decode cX7_prime 13 = .ok (.ifCond .ne 5, 3) := by decide +kernel
theorem dX7_prime_16 : decode cX7_prime 16 = .ok (.iconst 0, 1) := by decide +kernel
theorem dX7_prime_17 : decode cX7_prime 17 = .ok (.ireturn, 1) := by decide +kernel
theorem dX7_prime_18 : decode cX7_prime 18 = .ok (.iload_n 1, 1) := by decide +kernel
theorem dX7_prime_19 : decode cX7_prime 19 = .ok (.istore_n 2, 1) := by decide +kernel
theorem dX7_prime_20 : decode cX7_prime 20 = .ok (.iconst 1, 1) := by decide +kernel
