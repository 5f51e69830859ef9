theorem dX6_init_59 : decode cX6_init 59 = .ok (.return_, 1) := by decide +kernel
set_option maxRecDepth 20000 in
theorem ggX6_append_X6_outside : GoodIn wsX6_append wsX6_outside := goodIn_r _ [9] (by decide +kernel) (by decide +kernel)
set_option maxRecDepth 20000 in
theorem gX6_append_X6_outside : GoodIn wsX6_append (va_wsS RX6 40 yX6_outside wsX6_outside) := goodIn_app (goodIn_of _ (by decide +kernel)) ggX6_append_X6_outside
set_option maxRecDepth 20000 in
theorem ggX6_append_X4_add : GoodIn wsX6_append wsX4_add := goodIn_r _ [14, 15, 16, 22, 23, 24, 25, 26, 27, 28] (by decide +kernel) (by decide +kernel)
set_option maxRecDepth 20000 in
theorem gX6_append_X4_add : GoodIn wsX6_append (wsV RX6 60 RX4 yX4_add wsX4_add) := goodIn_app (goodIn_of _ (by decide +kernel)) ggX6_append_X4_add
theorem dX6_append_0 : decode cX6_append 0 = .ok (.iload_n 1, 1) := by decide +kernel
theorem dX6_append_1 : decode cX6_append 1 = .ok (.iconst 0, 1) := by decide +kernel
theorem dX6_append_2 : decode cX6_append 2 = .ok (.sipush 255, 3) := by decide +kernel
theorem dX6_append_5 : decode cX6_append 5 = .ok (.invokestatic 40, 3) := by decide +kernel
theorem dX6_append_8 : decode cX6_append 8 = .ok (.ifCond .eq 13, 3) := by decide +kernel
theorem dX6_append_11 : decode cX6_append 11 = .ok (.new 44, 3) := by decide +kernel
theorem dX6_append_14 : decode cX6_append 14 = .ok (.dup, 1) := by decide +kernel
theorem dX6_append_15 : decode cX6_append 15 = .ok (.ldc 46, 2) := by decide +kernel
theorem dX6_append_17 : decode cX6_append 17 = .ok (.invokespecial 48, 3) := by decide +kernel
theorem dX6_append_20 : decode cX6_append 20 = .ok (.athrow, 1) := by decide +kernel
theorem dX6_append_21 : decode cX6_append 21 = .ok (.aload_n 0, 1) := by decide +kernel
theorem dX6_append_22 : decode cX6_append 22 = .ok (.getfield 10, 3) := by decide +kernel
theorem dX6_append_25 : decode cX6_append 25 = .ok (.getfield 51, 3) := by decide +kernel
theorem dX6_append_28 : decode cX6_append 28 = .ok (.bipush 60, 2) := by decide +kernel
theorem dX6_append_30 : decode cX6_append 30 = .ok (.if_icmp .lt 13, 3) := by decide +kernel
theorem dX6_append_33 : decode cX6_append 33 = .ok (.new 55, 3) := by decide +kernel
theorem dX6_append_36 : decode cX6_append 36 = .ok (.dup, 1) := by decide +kernel
theorem dX6_append_37 : decode cX6_append 37 = .ok (.ldc 57, 2) := by decide +kernel
theorem dX6_append_39 : decode cX6_append 39 = .ok (.invokespecial 59, 3) := by decide +kernel
theorem dX6_append_42 : decode cX6_append 42 = .ok (.athrow, 1) := by decide +kernel
theorem dX6_append_43 : decode cX6_append 43 = .ok (.aload_n 0, 1) := by decide +kernel
theorem dX6_append_44 : decode cX6_append 44 = .ok (.getfield 10, 3) := by decide +kernel
theorem dX6_append_47 : decode cX6_append 47 = .ok (.iload_n 1, 1) := by decide +kernel
theorem dX6_append_48 : decode cX6_append 48 = .ok (.i2c, 1) := by decide +kernel
theorem dX6_append_49 : decode cX6_append 49 = .ok (.invokevirtual 60, 3) := by decide +kernel
theorem dX6_append_52 : decode cX6_append 52 = .ok (.aload_n 0, 1) := by decide +kernel
theorem dX6_append_53 : decode cX6_append 53 = .ok (.getfield 10, 3) := by decide +kernel
theorem dX6_append_56 : decode cX6_append 56 = .ok (.getfield 51, 3) := by decide +kernel
theorem dX6_append_59 : decode cX6_append 59 = .ok (.ireturn, 1) := by decide +kernel
theorem dX6_clearText_0 : decode cX6_clearText 0 = .ok (.aload_n 0, 1) := by decide +kernel
theorem dX6_clearText_1 : decode cX6_clearText 1 = .ok (.getfield 10, 3) := by decide +kernel
theorem dX6_clearText_4 : decode cX6_clearText 4 = .ok (.getfield 51, 3) := by decide +kernel
theorem dX6_clearText_7 : decode cX6_clearText 7 = .ok (.istore_n 1, 1) := by decide +kernel
theorem dX6_clearText_8 : decode cX6_clearText 8 = .ok (.aload_n 0, 1) := by decide +kernel
theorem dX6_clearText_9 : decode cX6_clearText 9 = .ok (.getfield 10, 3) := by decide +kernel
theorem dX6_clearText_12 : decode cX6_clearText 12 = .ok (.iconst 0, 1) := by decide +kernel
theorem dX6_clearText_13 : decode cX6_clearText 13 = .ok (.putfield 51, 3) := by decide +kernel
theorem dX6_clearText_16 : decode cX6_clearText 16 = .ok (.iload_n 1, 1) := by decide +kernel
theorem dX6_clearText_17 : decode cX6_clearText 17 = .ok (.ireturn, 1) := by decide +kernel
set_option maxRecDepth 20000 in
theorem ggX6_errorPosition_X4_findFault : GoodIn wsX6_errorPosition wsX4_findFault := goodIn_r _ [6, 7, 8, 9, 10, 5, 11, 12, 13, 14, 15, 16, 17, 18, 19, 20, 21, 22, 23, 24, 25, 26, 27, 28, 29, 30, 31, 32, 33, 34, 35, 36, 37, 38, 39, 40, 41, 42, 43, 44, 45, 46, 47, 48, 49, 50, 51, 52, 53, 54, 55, 56, 57, 58, 59, 60, 61, 62, 63, 64, 65, 66, 67, 68, 69, 70, 71, 72, 73, 74, 75, 76, 77, 78, 79, 80, 81, 82, 83, 84, 85, 86, 87, 88, 89, 95, 96, 97, 98, 99, 100, 101] (by decide +kernel) (by decide +kernel)
set_option maxRecDepth 20000 in
theorem gX6_errorPosition_X4_findFault : GoodIn wsX6_errorPosition (wsV RX6 64 RX4 yX4_findFault wsX4_findFault) := goodIn_app (goodIn_of _ (by decide +kernel)) ggX6_errorPosition_X4_findFault
theorem dX6_errorPosition_0 : decode cX6_errorPosition 0 = .ok (.aload_n 0, 1) := by decide +kernel
theorem dX6_errorPosition_1 : decode cX6_errorPosition 1 = .ok (.getfield 10, 3) := by decide +kernel
theorem dX6_errorPosition_4 : decode cX6_errorPosition 4 = .ok (.invokevirtual 64, 3) := by decide +kernel
theorem dX6_errorPosition_7 : decode cX6_errorPosition 7 = .ok (.ireturn, 1) := by decide +kernel
set_option maxRecDepth 20000 in
theorem ggX6_load_X4_findFault : GoodIn wsX6_load wsX4_findFault := goodIn_r _ [10, 11, 12, 13, 14, 9, 15, 16, 17, 18, 19, 20, 21, 22, 23, 24, 25, 26, 27, 28, 29, 30, 31, 32, 33, 34, 35, 36, 37, 38, 39, 40, 41, 42, 43, 44, 45, 46, 47, 48, 49, 50, 51, 52, 53, 54, 55, 56, 57, 58, 59, 60, 61, 62, 63, 64, 65, 66, 67, 68, 69, 70, 71, 72, 73, 74, 75, 76, 77, 78, 79, 80, 81, 82, 83, 84, 85, 86, 87, 88, 89, 90, 91, 92, 93, 141, 142, 143, 144, 145, 146, 147] (by decide +kernel) (by decide +kernel)
set_option maxRecDepth 20000 in
theorem gX6_load_X4_findFault : GoodIn wsX6_load (wsV RX6 64 RX4 yX4_findFault wsX4_findFault) := goodIn_app (goodIn_of _ (by decide +kernel)) ggX6_load_X4_findFault
set_option maxRecDepth 20000 in
theorem ggX6_load_X2_empty : GoodIn wsX6_load wsX2_empty := goodIn_r _ [98, 99, 100, 148, 149, 150, 151, 152] (by decide +kernel) (by decide +kernel)
set_option maxRecDepth 20000 in
theorem gX6_load_X2_empty : GoodIn wsX6_load (wsV RX6 70 RX2 yX2_empty wsX2_empty) := goodIn_app (goodIn_of _ (by decide +kernel)) ggX6_load_X2_empty
set_option maxRecDepth 20000 in
theorem ggX6_load_X0_begin : GoodIn wsX6_load wsX0_begin := goodIn_r _ [105, 106, 107, 108, 104, 109, 110, 111, 112, 113, 153, 154, 155, 156, 157] (by decide +kernel) (by decide +kernel)
set_option maxRecDepth 20000 in
theorem gX6_load_X0_begin : GoodIn wsX6_load (wsV RX6 73 RX0 yX0_begin wsX0_begin) := goodIn_app (goodIn_of _ (by decide +kernel)) ggX6_load_X0_begin
set_option maxRecDepth 20000 in
theorem ggX6_load_X4_rewind : GoodIn wsX6_load wsX4_rewind := goodIn_r _ [15, 16, 17, 11, 141, 142, 143, 144, 145, 146, 147] (by decide +kernel) (by decide +kernel)
set_option maxRecDepth 20000 in
theorem gX6_load_X4_rewind : GoodIn wsX6_load (wsV RX6 77 RX4 yX4_rewind wsX4_rewind) := goodIn_app (goodIn_of _ (by decide +kernel)) ggX6_load_X4_rewind
set_option maxRecDepth 20000 in
theorem ggX6_load_X4_readWord : GoodIn wsX6_load wsX4_readWord := goodIn_r _ [21, 17, 16, 11, 22, 23, 24, 25, 26, 9, 27, 28, 29, 30, 31, 32, 33, 34, 35, 36, 37, 38, 39, 40, 41, 42, 43, 44, 45, 46, 47, 48, 49, 50, 51, 52, 53, 54, 55, 56, 57, 58, 59, 60, 61, 62, 63, 64, 65, 66, 67, 68, 69, 70, 71, 72, 73, 74, 75, 76, 77, 78, 79, 80, 81, 82, 83, 84, 85, 86, 87, 88, 89, 90, 91, 92, 93, 141, 142, 143, 144, 145, 146, 147] (by decide +kernel) (by decide +kernel)
set_option maxRecDepth 20000 in
theorem gX6_load_X4_readWord : GoodIn wsX6_load (wsV RX6 80 RX4 yX4_readWord wsX4_readWord) := goodIn_app (goodIn_of _ (by decide +kernel)) ggX6_load_X4_readWord
set_option maxRecDepth 20000 in
theorem ggX6_load_X6_obeyWord : GoodIn wsX6_load wsX6_obeyWord := goodIn_r _ [119, 120, 5, 121, 122, 30, 31, 32, 123, 101, 102, 103, 104, 105, 106, 107, 108, 109, 110, 111, 112, 113, 124, 125, 126, 127, 128, 129, 130, 131, 132, 133, 134, 135, 136, 137, 138, 139, 140, 153, 154, 155, 156, 157] (by decide +kernel) (by decide +kernel)
set_option maxRecDepth 20000 in
theorem gX6_load_X6_obeyWord : GoodIn wsX6_load (wsV RX6 91 RX6 yX6_obeyWord wsX6_obeyWord) := goodIn_app (goodIn_of _ (by decide +kernel)) ggX6_load_X6_obeyWord
theorem dX6_load_0 : decode cX6_load 0 = .ok (.aload_n 0, 1) := by decide +kernel
theorem dX6_load_1 : decode cX6_load 1 = .ok (.getfield 10, 3) := by decide +kernel
theorem dX6_load_4 : decode cX6_load 4 = .ok (.invokevirtual 64, 3) := by decide +kernel
theorem dX6_load_7 : decode cX6_load 7 = .ok (.iconst (-1), 1) := by decide +kernel
theorem dX6_load_8 : decode cX6_load 8 = .ok (.if_icmp .eq 13, 3) := by decide +kernel
theorem dX6_load_11 : decode cX6_load 11 = .ok (.new 55, 3) := by decide +kernel
theorem dX6_load_14 : decode cX6_load 14 = .ok (.dup, 1) := by decide +kernel
theorem dX6_load_15 : decode cX6_load 15 = .ok (.ldc 68, 2) := by decide +kernel
theorem dX6_load_17 : decode cX6_load 17 = .ok (.invokespecial 59, 3) := by decide +kernel
theorem dX6_load_20 : decode cX6_load 20 = .ok (.athrow, 1) := by decide +kernel
theorem dX6_load_21 : decode cX6_load 21 = .ok (.aload_n 0, 1) := by decide +kernel
theorem dX6_load_22 : decode cX6_load 22 = .ok (.getfield 26, 3) := by decide +kernel
theorem dX6_load_25 : decode cX6_load 25 = .ok (.invokevirtual 70, 3) := by decide +kernel
theorem dX6_load_28 : decode cX6_load 28 = .ok (.aload_n 0, 1) := by decide +kernel
theorem dX6_load_29 : decode cX6_load 29 = .ok (.getfield 19, 3) := by decide +kernel
theorem dX6_load_32 : decode cX6_load 32 = .ok (.bipush 100, 2) := by decide +kernel
theorem dX6_load_34 : decode cX6_load 34 = .ok (.invokevirtual 73, 3) := by decide +kernel
theorem dX6_load_37 : decode cX6_load 37 = .ok (.iconst 0, 1) := by decide +kernel
theorem dX6_load_38 : decode cX6_load 38 = .ok (.istore_n 1, 1) := by decide +kernel
theorem dX6_load_39 : decode cX6_load 39 = .ok (.aload_n 0, 1) := by decide +kernel
theorem dX6_load_40 : decode cX6_load 40 = .ok (.getfield 10, 3) := by decide +kernel
theorem dX6_load_43 : decode cX6_load 43 = .ok (.invokevirtual 77, 3) := by decide +kernel
theorem dX6_load_46 : decode cX6_load 46 = .ok (.iconst 0, 1) := by decide +kernel
theorem dX6_load_47 : decode cX6_load 47 = .ok (.istore_n 2, 1) := by decide +kernel
theorem dX6_load_48 : decode cX6_load 48 = .ok (.iload_n 2, 1) := by decide +kernel
theorem dX6_load_49 : decode cX6_load 49 = .ok (.bipush 60, 2) := by decide +kernel
theorem dX6_load_51 : decode cX6_load 51 = .ok (.if_icmp .ge 40, 3) := by decide +kernel
theorem dX6_load_54 : decode cX6_load 54 = .ok (.aload_n 0, 1) := by decide +kernel
theorem dX6_load_55 : decode cX6_load 55 = .ok (.getfield 10, 3) := by decide +kernel
theorem dX6_load_58 : decode cX6_load 58 = .ok (.invokevirtual 80, 3) := by decide +kernel
theorem dX6_load_61 : decode cX6_load 61 = .ok (.ifCond .eq 30, 3) := by decide +kernel
theorem dX6_load_64 : decode cX6_load 64 = .ok (.iload_n 1, 1) := by decide +kernel
theorem dX6_load_65 : decode cX6_load 65 = .ok (.aload_n 0, 1) := by decide +kernel
theorem dX6_load_66 : decode cX6_load 66 = .ok (.aload_n 0, 1) := by decide +kernel
theorem dX6_load_67 : decode cX6_load 67 = .ok (.getfield 10, 3) := by decide +kernel
theorem dX6_load_70 : decode cX6_load 70 = .ok (.getfield 84, 3) := by decide +kernel
theorem dX6_load_73 : decode cX6_load 73 = .ok (.aload_n 0, 1) := by decide +kernel
theorem dX6_load_74 : decode cX6_load 74 = .ok (.getfield 10, 3) := by decide +kernel
theorem dX6_load_77 : decode cX6_load 77 = .ok (.getfield 88, 3) := by decide +kernel
theorem dX6_load_80 : decode cX6_load 80 = .ok (.invokevirtual 91, 3) := by decide +kernel
theorem dX6_load_83 : decode cX6_load 83 = .ok (.iadd, 1) := by decide +kernel
theorem dX6_load_84 : decode cX6_load 84 = .ok (.istore_n 1, 1) := by decide +kernel
theorem dX6_load_85 : decode cX6_load 85 = .ok (.iinc 2 1, 3) := by decide +kernel
theorem dX6_load_88 : decode cX6_load 88 = .ok (.goto (-40), 3) := by decide +kernel
theorem dX6_load_91 : decode cX6_load 91 = .ok (.iload_n 1, 1) := by decide +kernel
theorem dX6_load_92 : decode cX6_load 92 = .ok (.ireturn, 1) := by decide +kernel
set_option maxRecDepth 20000 in
theorem ggX6_obeyWord_X0_begin : GoodIn wsX6_obeyWord wsX0_begin := goodIn_r _ [13, 14, 15, 16, 12, 17, 18, 19, 20, 21, 39, 40, 41, 42, 43] (by decide +kernel) (by decide +kernel)
set_option maxRecDepth 20000 in
theorem gX6_obeyWord_X0_begin : GoodIn wsX6_obeyWord (wsV RX6 73 RX0 yX0_begin wsX0_begin) := goodIn_app (goodIn_of _ (by decide +kernel)) ggX6_obeyWord_X0_begin
set_option maxRecDepth 20000 in
theorem ggX6_obeyWord_X0_letCome : GoodIn wsX6_obeyWord wsX0_letCome := goodIn_r _ [25, 20, 19, 26, 27, 28, 12, 29, 18, 30, 31, 32, 33, 39, 40, 41, 42, 43] (by decide +kernel) (by decide +kernel)
set_option maxRecDepth 20000 in
theorem gX6_obeyWord_X0_letCome : GoodIn wsX6_obeyWord (wsV RX6 115 RX0 yX0_letCome wsX0_letCome) := goodIn_app (goodIn_of _ (by decide +kernel)) ggX6_obeyWord_X0_letCome
theorem dX6_obeyWord_0 : decode cX6_obeyWord 0 = .ok (.aload_n 1, 1) := by decide +kernel
theorem dX6_obeyWord_1 : decode cX6_obeyWord 1 = .ok (.getstatic 95, 3) := by decide +kernel
theorem dX6_obeyWord_4 : decode cX6_obeyWord 4 = .ok (.if_acmp .ne 13, 3) := by decide +kernel
theorem dX6_obeyWord_7 : decode cX6_obeyWord 7 = .ok (.aload_n 0, 1) := by decide +kernel
theorem dX6_obeyWord_8 : decode cX6_obeyWord 8 = .ok (.getfield 19, 3) := by decide +kernel
theorem dX6_obeyWord_11 : decode cX6_obeyWord 11 = .ok (.iload_n 2, 1) := by decide +kernel
theorem dX6_obeyWord_12 : decode cX6_obeyWord 12 = .ok (.invokevirtual 73, 3) := by decide +kernel
theorem dX6_obeyWord_15 : decode cX6_obeyWord 15 = .ok (.iconst 0, 1) := by decide +kernel
theorem dX6_obeyWord_16 : decode cX6_obeyWord 16 = .ok (.ireturn, 1) := by decide +kernel
theorem dX6_obeyWord_17 : decode cX6_obeyWord 17 = .ok (.aload_n 1, 1) := by decide +kernel
theorem dX6_obeyWord_18 : decode cX6_obeyWord 18 = .ok (.getstatic 100, 3) := by decide +kernel
theorem dX6_obeyWord_21 : decode cX6_obeyWord 21 = .ok (.if_acmp .ne 19, 3) := by decide +kernel
theorem dX6_obeyWord_24 : decode cX6_obeyWord 24 = .ok (.aload_n 0, 1) := by decide +kernel
theorem dX6_obeyWord_25 : decode cX6_obeyWord 25 = .ok (.getfield 19, 3) := by decide +kernel
theorem dX6_obeyWord_28 : decode cX6_obeyWord 28 = .ok (.aload_n 0, 1) := by decide +kernel
theorem dX6_obeyWord_29 : decode cX6_obeyWord 29 = .ok (.getfield 19, 3) := by decide +kernel
theorem dX6_obeyWord_32 : decode cX6_obeyWord 32 = .ok (.getfield 103, 3) := by decide +kernel
theorem dX6_obeyWord_35 : decode cX6_obeyWord 35 = .ok (.invokevirtual 73, 3) := by decide +kernel
theorem dX6_obeyWord_38 : decode cX6_obeyWord 38 = .ok (.iconst 0, 1) := by decide +kernel
theorem dX6_obeyWord_39 : decode cX6_obeyWord 39 = .ok (.ireturn, 1) := by decide +kernel
theorem dX6_obeyWord_40 : decode cX6_obeyWord 40 = .ok (.iconst 1, 1) := by decide +kernel
theorem dX6_obeyWord_41 : decode cX6_obeyWord 41 = .ok (.iload_n 2, 1) := by decide +kernel
theorem dX6_obeyWord_42 : decode cX6_obeyWord 42 = .ok (.invokestatic 106, 3) := by decide +kernel
theorem dX6_obeyWord_45 : decode cX6_obeyWord 45 = .ok (.istore_n 3, 1) := by decide +kernel
theorem dX6_obeyWord_46 : decode cX6_obeyWord 46 = .ok (.iconst 0, 1) := by decide +kernel
theorem dX6_obeyWord_47 : decode cX6_obeyWord 47 = .ok (.istore 4, 2) := by decide +kernel
theorem dX6_obeyWord_49 : decode cX6_obeyWord 49 = .ok (.iload 4, 2) := by decide +kernel
theorem dX6_obeyWord_51 : decode cX6_obeyWord 51 = .ok (.iload_n 3, 1) := by decide +kernel
theorem dX6_obeyWord_52 : decode cX6_obeyWord 52 = .ok (.if_icmp .ge 36, 3) := by decide +kernel
theorem dX6_obeyWord_55 : decode cX6_obeyWord 55 = .ok (.aload_n 0, 1) := by decide +kernel
theorem dX6_obeyWord_56 : decode cX6_obeyWord 56 = .ok (.getfield 19, 3) := by decide +kernel
theorem dX6_obeyWord_59 : decode cX6_obeyWord 59 = .ok (.aload_n 1, 1) := by decide +kernel
theorem dX6_obeyWord_60 : decode cX6_obeyWord 60 = .ok (.getstatic 112, 3) := by decide +kernel
theorem dX6_obeyWord_63 : decode cX6_obeyWord 63 = .ok (.if_acmp .ne 7, 3) := by decide +kernel
theorem dX6_obeyWord_66 : decode cX6_obeyWord 66 = .ok (.iconst 1, 1) := by decide +kernel
theorem dX6_obeyWord_67 : decode cX6_obeyWord 67 = .ok (.goto 4, 3) := by decide +kernel
theorem dX6_obeyWord_70 : decode cX6_obeyWord 70 = .ok (.iconst 0, 1) := by decide +kernel
theorem dX6_obeyWord_71 : decode cX6_obeyWord 71 = .ok (.invokevirtual 115, 3) := by decide +kernel
theorem dX6_obeyWord_74 : decode cX6_obeyWord 74 = .ok (.ifCond .ne 8, 3) := by decide +kernel
theorem dX6_obeyWord_77 : decode cX6_obeyWord 77 = .ok (.iload_n 3, 1) := by decide +kernel
theorem dX6_obeyWord_78 : decode cX6_obeyWord 78 = .ok (.iload 4, 2) := by decide +kernel
theorem dX6_obeyWord_80 : decode cX6_obeyWord 80 = .ok (.isub, 1) := by decide +kernel
theorem dX6_obeyWord_81 : decode cX6_obeyWord 81 = .ok (.ireturn, 1) := by decide +kernel
theorem dX6_obeyWord_82 : decode cX6_obeyWord 82 = .ok (.iinc 4 1, 3) := by decide +kernel
theorem dX6_obeyWord_85 : decode cX6_obeyWord 85 = .ok (.goto (-36), 3) := by decide +kernel
theorem dX6_obeyWord_88 : decode cX6_obeyWord 88 = .ok (.iconst 0, 1) := by decide +kernel
theorem dX6_obeyWord_89 : decode cX6_obeyWord 89 = .ok (.ireturn, 1) := by decide +kernel
set_option maxRecDepth 20000 in
theorem ggX6_about_X0_tally : GoodIn wsX6_about wsX0_tally := goodIn_r _ [8, 9, 10, 11, 12, 13, 14, 15, 16, 17, 18, 19, 20, 21, 22, 23, 24, 25, 26, 27, 28, 29, 30, 31, 32, 33, 34, 35, 36, 37, 38, 7, 39, 40, 41, 42, 43, 44, 45, 46, 47, 48, 49, 50, 51, 52, 53, 54, 55, 56, 90, 91, 92, 93, 94, 95, 96, 97, 98, 99] (by decide +kernel) (by decide +kernel)
set_option maxRecDepth 20000 in
theorem gX6_about_X0_tally : GoodIn wsX6_about (wsV RX6 119 RX0 yX0_tally wsX0_tally) := goodIn_app (goodIn_of _ (by decide +kernel)) ggX6_about_X0_tally
set_option maxRecDepth 20000 in
theorem ggX6_about_J13_bitCount_95d88 : GoodIn wsX6_about wsJ13_bitCount_95d88 := goodIn_r _ [60, 61, 62, 63] (by decide +kernel) (by decide +kernel)
set_option maxRecDepth 20000 in
theorem gX6_about_J13_bitCount_95d88 : GoodIn wsX6_about (va_wsS RX6 132 yJ13_bitCount_95d88 wsJ13_bitCount_95d88) := goodIn_app (goodIn_of _ (by decide +kernel)) ggX6_about_J13_bitCount_95d88
set_option maxRecDepth 20000 in
theorem ggX6_about_X0_countLeft : GoodIn wsX6_about wsX0_countLeft := goodIn_r _ [67, 68, 5, 6, 7, 8, 9, 10, 11, 12, 13, 14, 15, 16, 17, 18, 19, 20, 21, 22, 23, 24, 25, 26, 27, 28, 29, 30, 31, 32, 33, 34, 35, 36, 37, 38, 39, 40, 41, 42, 43, 44, 45, 46, 47, 48, 49, 50, 51, 52, 53, 54, 55, 56, 69, 70, 71, 72, 73, 74, 75, 76, 77, 78, 79, 90, 91, 92, 93, 94, 95, 96, 97, 98, 99] (by decide +kernel) (by decide +kernel)
set_option maxRecDepth 20000 in
theorem gX6_about_X0_countLeft : GoodIn wsX6_about (wsV RX6 141 RX0 yX0_countLeft wsX0_countLeft) := goodIn_app (goodIn_of _ (by decide +kernel)) ggX6_about_X0_countLeft
set_option maxRecDepth 20000 in
theorem ggX6_about_X0_nextPrime : GoodIn wsX6_about wsX0_nextPrime := goodIn_r _ [83, 12, 11, 41, 42, 43, 7, 44, 90, 91, 92, 93, 94] (by decide +kernel) (by decide +kernel)
set_option maxRecDepth 20000 in
theorem gX6_about_X0_nextPrime : GoodIn wsX6_about (wsV RX6 144 RX0 yX0_nextPrime wsX0_nextPrime) := goodIn_app (goodIn_of _ (by decide +kernel)) ggX6_about_X0_nextPrime
set_option maxRecDepth 20000 in
theorem ggX6_about_X0_primeAt : GoodIn wsX6_about wsX0_primeAt := goodIn_r _ [44] (by decide +kernel) (by decide +kernel)
set_option maxRecDepth 20000 in
theorem gX6_about_X0_primeAt : GoodIn wsX6_about (wsV RX6 147 RX0 yX0_primeAt wsX0_primeAt) := goodIn_app (goodIn_of _ (by decide +kernel)) ggX6_about_X0_primeAt
theorem dX6_about_0 : decode cX6_about 0 = .ok (.iload_n 1, 1) := by decide +kernel
theorem dX6_about_1 : decode cX6_about 1 = .ok (.tableswitch 125 0 6 #[43, 51, 62, 73, 92, 100, 108], 43) := by decide +kernel
theorem dX6_about_44 : decode cX6_about 44 = .ok (.aload_n 0, 1) := by decide +kernel
theorem dX6_about_45 : decode cX6_about 45 = .ok (.getfield 19, 3) := by decide +kernel
theorem dX6_about_48 : decode cX6_about 48 = .ok (.getfield 103, 3) := by decide +kernel
theorem dX6_about_51 : decode cX6_about 51 = .ok (.ireturn, 1) := by decide +kernel
theorem dX6_about_52 : decode cX6_about 52 = .ok (.aload_n 0, 1) := by decide +kernel
theorem dX6_about_53 : decode cX6_about 53 = .ok (.getfield 19, 3) := by decide +kernel
theorem dX6_about_56 : decode cX6_about 56 = .ok (.invokevirtual 119, 3) := by decide +kernel
theorem dX6_about_59 : decode cX6_about 59 = .ok (.getfield 123, 3) := by decide +kernel
theorem dX6_about_62 : decode cX6_about 62 = .ok (.ireturn, 1) := by decide +kernel
theorem dX6_about_63 : decode cX6_about 63 = .ok (.aload_n 0, 1) := by decide +kernel
theorem dX6_about_64 : decode cX6_about 64 = .ok (.getfield 19, 3) := by decide +kernel
theorem dX6_about_67 : decode cX6_about 67 = .ok (.getfield 128, 3) := by decide +kernel
theorem dX6_about_70 : decode cX6_about 70 = .ok (.invokestatic 132, 3) := by decide +kernel
theorem dX6_about_73 : decode cX6_about 73 = .ok (.ireturn, 1) := by decide +kernel
theorem dX6_about_74 : decode cX6_about 74 = .ok (.aload_n 0, 1) := by decide +kernel
theorem dX6_about_75 : decode cX6_about 75 = .ok (.getfield 19, 3) := by decide +kernel
theorem dX6_about_78 : decode cX6_about 78 = .ok (.getfield 138, 3) := by decide +kernel
theorem dX6_about_81 : decode cX6_about 81 = .ok (.aload_n 0, 1) := by decide +kernel
theorem dX6_about_82 : decode cX6_about 82 = .ok (.getfield 19, 3) := by decide +kernel
theorem dX6_about_85 : decode cX6_about 85 = .ok (.getfield 128, 3) := by decide +kernel
theorem dX6_about_88 : decode cX6_about 88 = .ok (.invokestatic 132, 3) := by decide +kernel
theorem dX6_about_91 : decode cX6_about 91 = .ok (.isub, 1) := by decide +kernel
theorem dX6_about_92 : decode cX6_about 92 = .ok (.ireturn, 1) := by decide +kernel
theorem dX6_about_93 : decode cX6_about 93 = .ok (.aload_n 0, 1) := by decide +kernel
theorem dX6_about_94 : decode cX6_about 94 = .ok (.getfield 19, 3) := by decide +kernel
theorem dX6_about_97 : decode cX6_about 97 = .ok (.invokevirtual 141, 3) := by decide +kernel
theorem dX6_about_100 : decode cX6_about 100 = .ok (.ireturn, 1) := by decide +kernel
theorem dX6_about_101 : decode cX6_about 101 = .ok (.aload_n 0, 1) := by decide +kernel
theorem dX6_about_102 : decode cX6_about 102 = .ok (.getfield 19, 3) := by decide +kernel
theorem dX6_about_105 : decode cX6_about 105 = .ok (.invokevirtual 144, 3) := by decide +kernel
theorem dX6_about_108 : decode cX6_about 108 = .ok (.ireturn, 1) := by decide +kernel
theorem dX6_about_109 : decode cX6_about 109 = .ok (.aload_n 0, 1) := by decide +kernel
theorem dX6_about_110 : decode cX6_about 110 = .ok (.getfield 19, 3) := by decide +kernel
theorem dX6_about_113 : decode cX6_about 113 = .ok (.aload_n 0, 1) := by decide +kernel
theorem dX6_about_114 : decode cX6_about 114 = .ok (.getfield 19, 3) := by decide +kernel
theorem dX6_about_117 : decode cX6_about 117 = .ok (.getfield 138, 3) := by decide +kernel
theorem dX6_about_120 : decode cX6_about 120 = .ok (.iconst 1, 1) := by decide +kernel
theorem dX6_about_121 : decode cX6_about 121 = .ok (.isub, 1) := by decide +kernel
theorem dX6_about_122 : decode cX6_about 122 = .ok (.invokevirtual 147, 3) := by decide +kernel
theorem dX6_about_125 : decode cX6_about 125 = .ok (.ireturn, 1) := by decide +kernel
theorem dX6_about_126 : decode cX6_about 126 = .ok (.new 44, 3) := by decide +kernel
theorem dX6_about_129 : decode cX6_about 129 = .ok (.dup, 1) := by decide +kernel
theorem dX6_about_130 : decode cX6_about 130 = .ok (.ldc 151, 2) := by decide +kernel
theorem dX6_about_132 : decode cX6_about 132 = .ok (.invokespecial 48, 3) := by decide +kernel
theorem dX6_about_135 : decode cX6_about 135 = .ok (.athrow, 1) := by decide +kernel
set_option maxRecDepth 20000 in
theorem ggX6_quotient_X6_checkQuotient : GoodIn wsX6_quotient wsX6_checkQuotient := goodIn_ca (goodIn_r _ [6, 7, 8, 1, 9, 10, 11, 12, 13, 14, 15, 16, 17, 18, 19, 20, 21, 22, 23, 24, 25, 26, 27, 28, 29, 30, 31, 32, 33, 34, 35, 36, 37, 38, 39, 40, 41, 42, 43, 44, 45, 46, 47, 48, 49, 50, 51, 52, 53, 54, 55, 56, 57, 58, 59, 60, 61, 63, 64, 65, 66, 67, 68, 69, 70, 71, 72, 73, 74, 75, 76, 77] (by decide +kernel) (by decide +kernel)) (goodIn_sub (fun _ h => List.mem_cons_of_mem _ (List.mem_append_right _ h)) (by decide +kernel))
set_option maxRecDepth 20000 in
theorem gX6_quotient_X6_checkQuotient : GoodIn wsX6_quotient (wsV RX6 153 RX6 yX6_checkQuotient wsX6_checkQuotient) := goodIn_app (goodIn_of _ (by decide +kernel)) ggX6_quotient_X6_checkQuotient
set_option maxRecDepth 20000 in
theorem ggX6_quotient_X0_tally : GoodIn wsX6_quotient wsX0_tally := goodIn_r _ [13, 14, 15, 16, 17, 18, 19, 20, 21, 22, 23, 24, 25, 26, 27, 28, 29, 30, 31, 32, 33, 34, 35, 36, 37, 38, 39, 40, 41, 42, 43, 12, 44, 45, 46, 47, 48, 49, 50, 51, 52, 53, 54, 55, 56, 57, 58, 59, 60, 61, 73, 74, 75, 76, 77, 68, 69, 70, 71, 72] (by decide +kernel) (by decide +kernel)
set_option maxRecDepth 20000 in
theorem gX6_quotient_X0_tally : GoodIn wsX6_quotient (wsV RX6 119 RX0 yX0_tally wsX0_tally) := goodIn_app (goodIn_of _ (by decide +kernel)) ggX6_quotient_X0_tally
set_option maxRecDepth 20000 in
theorem ggX6_quotient_X3_valueAt : GoodIn wsX6_quotient wsX3_valueAt := goodIn_r _ [57, 33, 37, 38, 39, 21, 40, 24, 68, 69, 70, 71, 72] (by decide +kernel) (by decide +kernel)
set_option maxRecDepth 20000 in
theorem gX6_quotient_X3_valueAt : GoodIn wsX6_quotient (wsV RX6 156 RX3 yX3_valueAt wsX3_valueAt) := goodIn_app (goodIn_of _ (by decide +kernel)) ggX6_quotient_X3_valueAt
theorem dX6_quotient_0 : decode cX6_quotient 0 = .ok (.aload_n 0, 1) := by decide +kernel
theorem dX6_quotient_1 : decode cX6_quotient 1 = .ok (.iload_n 1, 1) := by decide +kernel
theorem dX6_quotient_2 : decode cX6_quotient 2 = .ok (.invokevirtual 153, 3) := by decide +kernel
theorem dX6_quotient_5 : decode cX6_quotient 5 = .ok (.aload_n 0, 1) := by decide +kernel
theorem dX6_quotient_6 : decode cX6_quotient 6 = .ok (.getfield 19, 3) := by decide +kernel
theorem dX6_quotient_9 : decode cX6_quotient 9 = .ok (.invokevirtual 119, 3) := by decide +kernel
theorem dX6_quotient_12 : decode cX6_quotient 12 = .ok (.iload_n 1, 1) := by decide +kernel
theorem dX6_quotient_13 : decode cX6_quotient 13 = .ok (.invokevirtual 156, 3) := by decide +kernel
theorem dX6_quotient_16 : decode cX6_quotient 16 = .ok (.ireturn, 1) := by decide +kernel
set_option maxRecDepth 20000 in
theorem ggX6_quotientOf_X0_tally : GoodIn wsX6_quotientOf wsX0_tally := goodIn_r _ [6, 7, 8, 9, 10, 11, 12, 13, 14, 15, 16, 17, 18, 19, 20, 21, 22, 23, 24, 25, 26, 27, 28, 29, 30, 31, 32, 33, 34, 35, 36, 5, 37, 38, 39, 40, 41, 42, 43, 44, 45, 46, 47, 48, 49, 50, 51, 52, 53, 54, 61, 62, 63, 64, 65, 66, 67, 68, 69, 70] (by decide +kernel) (by decide +kernel)
set_option maxRecDepth 20000 in
theorem gX6_quotientOf_X0_tally : GoodIn wsX6_quotientOf (wsV RX6 119 RX0 yX0_tally wsX0_tally) := goodIn_app (goodIn_of _ (by decide +kernel)) ggX6_quotientOf_X0_tally
set_option maxRecDepth 20000 in
theorem ggX6_quotientOf_X3_placeOf : GoodIn wsX6_quotientOf wsX3_placeOf := goodIn_r _ [54, 16, 17, 66, 67, 68, 69, 70] (by decide +kernel) (by decide +kernel)
set_option maxRecDepth 20000 in
theorem gX6_quotientOf_X3_placeOf : GoodIn wsX6_quotientOf (wsV RX6 159 RX3 yX3_placeOf wsX3_placeOf) := goodIn_app (goodIn_of _ (by decide +kernel)) ggX6_quotientOf_X3_placeOf
theorem dX6_quotientOf_0 : decode cX6_quotientOf 0 = .ok (.aload_n 0, 1) := by decide +kernel
theorem dX6_quotientOf_1 : decode cX6_quotientOf 1 = .ok (.getfield 19, 3) := by decide +kernel
theorem dX6_quotientOf_4 : decode cX6_quotientOf 4 = .ok (.invokevirtual 119, 3) := by decide +kernel
theorem dX6_quotientOf_7 : decode cX6_quotientOf 7 = .ok (.iload_n 1, 1) := by decide +kernel
theorem dX6_quotientOf_8 : decode cX6_quotientOf 8 = .ok (.invokevirtual 159, 3) := by decide +kernel
theorem dX6_quotientOf_11 : decode cX6_quotientOf 11 = .ok (.ireturn, 1) := by decide +kernel
set_option maxRecDepth 20000 in
theorem ggX6_left_X6_checkQuotient : GoodIn wsX6_left wsX6_checkQuotient := goodIn_ca (goodIn_r _ [6, 7, 8, 1, 9, 10, 11, 12, 13, 14, 15, 16, 17, 18, 19, 20, 21, 22, 23, 24, 25, 26, 27, 28, 29, 30, 31, 32, 33, 34, 35, 36, 37, 38, 39, 40, 41, 42, 43, 44, 45, 46, 47, 48, 49, 50, 51, 52, 53, 54, 55, 56, 57, 58, 59, 60, 61, 72, 73, 74, 75, 76, 77, 78, 79, 80, 81, 82, 83, 84, 85, 86] (by decide +kernel) (by decide +kernel)) (goodIn_sub (fun _ h => List.mem_cons_of_mem _ (List.mem_append_right _ h)) (by decide +kernel))
set_option maxRecDepth 20000 in
theorem gX6_left_X6_checkQuotient : GoodIn wsX6_left (wsV RX6 153 RX6 yX6_checkQuotient wsX6_checkQuotient) := goodIn_app (goodIn_of _ (by decide +kernel)) ggX6_left_X6_checkQuotient
set_option maxRecDepth 20000 in
theorem ggX6_left_X0_tally : GoodIn wsX6_left wsX0_tally := goodIn_r _ [13, 14, 15, 16, 17, 18, 19, 20, 21, 22, 23, 24, 25, 26, 27, 28, 29, 30, 31, 32, 33, 34, 35, 36, 37, 38, 39, 40, 41, 42, 43, 12, 44, 45, 46, 47, 48, 49, 50, 51, 52, 53, 54, 55, 56, 57, 58, 59, 60, 61, 82, 83, 84, 85, 86, 77, 78, 79, 80, 81] (by decide +kernel) (by decide +kernel)
set_option maxRecDepth 20000 in
theorem gX6_left_X0_tally : GoodIn wsX6_left (wsV RX6 119 RX0 yX0_tally wsX0_tally) := goodIn_app (goodIn_of _ (by decide +kernel)) ggX6_left_X0_tally
set_option maxRecDepth 20000 in
theorem ggX6_left_X3_countAt : GoodIn wsX6_left wsX3_countAt := goodIn_r _ [65, 66, 67, 68, 21, 69, 36, 37, 38, 39, 40, 24, 70, 5, 71, 77, 78, 79, 80, 81] (by decide +kernel) (by decide +kernel)
set_option maxRecDepth 20000 in
theorem gX6_left_X3_countAt : GoodIn wsX6_left (wsV RX6 162 RX3 yX3_countAt wsX3_countAt) := goodIn_app (goodIn_of _ (by decide +kernel)) ggX6_left_X3_countAt
theorem dX6_left_0 : decode cX6_left 0 = .ok (.aload_n 0, 1) := by decide +kernel
theorem dX6_left_1 : decode cX6_left 1 = .ok (.iload_n 1, 1) := by decide +kernel
theorem dX6_left_2 : decode cX6_left 2 = .ok (.invokevirtual 153, 3) := by decide +kernel
theorem dX6_left_5 : decode cX6_left 5 = .ok (.aload_n 0, 1) := by decide +kernel
theorem dX6_left_6 : decode cX6_left 6 = .ok (.getfield 19, 3) := by decide +kernel
theorem dX6_left_9 : decode cX6_left 9 = .ok (.invokevirtual 119, 3) := by decide +kernel
theorem dX6_left_12 : decode cX6_left 12 = .ok (.iload_n 1, 1) := by decide +kernel
theorem dX6_left_13 : decode cX6_left 13 = .ok (.invokevirtual 162, 3) := by decide +kernel
theorem dX6_left_16 : decode cX6_left 16 = .ok (.ireturn, 1) := by decide +kernel
set_option maxRecDepth 20000 in
theorem ggX6_sumLeft_X6_checkQuotient : GoodIn wsX6_sumLeft wsX6_checkQuotient := goodIn_ca (goodIn_r _ [6, 7, 8, 1, 9, 10, 11, 12, 13, 14, 15, 16, 17, 18, 19, 20, 21, 22, 23, 24, 25, 26, 27, 28, 29, 30, 31, 32, 33, 34, 35, 36, 37, 38, 39, 40, 41, 42, 43, 44, 45, 46, 47, 48, 49, 50, 51, 52, 53, 54, 55, 56, 57, 58, 59, 60, 61, 66, 67, 68, 69, 70, 71, 72, 73, 74, 75, 76, 77, 78, 79, 80] (by decide +kernel) (by decide +kernel)) (goodIn_sub (fun _ h => List.mem_cons_of_mem _ (List.mem_append_right _ h)) (by decide +kernel))
set_option maxRecDepth 20000 in
theorem gX6_sumLeft_X6_checkQuotient : GoodIn wsX6_sumLeft (wsV RX6 153 RX6 yX6_checkQuotient wsX6_checkQuotient) := goodIn_app (goodIn_of _ (by decide +kernel)) ggX6_sumLeft_X6_checkQuotient
set_option maxRecDepth 20000 in
theorem ggX6_sumLeft_X0_tally : GoodIn wsX6_sumLeft wsX0_tally := goodIn_r _ [13, 14, 15, 16, 17, 18, 19, 20, 21, 22, 23, 24, 25, 26, 27, 28, 29, 30, 31, 32, 33, 34, 35, 36, 37, 38, 39, 40, 41, 42, 43, 12, 44, 45, 46, 47, 48, 49, 50, 51, 52, 53, 54, 55, 56, 57, 58, 59, 60, 61, 76, 77, 78, 79, 80, 71, 72, 73, 74, 75] (by decide +kernel) (by decide +kernel)
set_option maxRecDepth 20000 in
theorem gX6_sumLeft_X0_tally : GoodIn wsX6_sumLeft (wsV RX6 119 RX0 yX0_tally wsX0_tally) := goodIn_app (goodIn_of _ (by decide +kernel)) ggX6_sumLeft_X0_tally
set_option maxRecDepth 20000 in
theorem ggX6_sumLeft_X3_sumAt : GoodIn wsX6_sumLeft wsX3_sumAt := goodIn_r _ [65, 34, 37, 38, 39, 21, 40, 24, 71, 72, 73, 74, 75] (by decide +kernel) (by decide +kernel)
set_option maxRecDepth 20000 in
theorem gX6_sumLeft_X3_sumAt : GoodIn wsX6_sumLeft (wsV RX6 165 RX3 yX3_sumAt wsX3_sumAt) := goodIn_app (goodIn_of _ (by decide +kernel)) ggX6_sumLeft_X3_sumAt
theorem dX6_sumLeft_0 : decode cX6_sumLeft 0 = .ok (.aload_n 0, 1) := by decide +kernel
theorem dX6_sumLeft_1 : decode cX6_sumLeft 1 = .ok (.iload_n 1, 1) := by decide +kernel
theorem dX6_sumLeft_2 : decode cX6_sumLeft 2 = .ok (.invokevirtual 153, 3) := by decide +kernel
theorem dX6_sumLeft_5 : decode cX6_sumLeft 5 = .ok (.aload_n 0, 1) := by decide +kernel
theorem dX6_sumLeft_6 : decode cX6_sumLeft 6 = .ok (.getfield 19, 3) := by decide +kernel
theorem dX6_sumLeft_9 : decode cX6_sumLeft 9 = .ok (.invokevirtual 119, 3) := by decide +kernel
theorem dX6_sumLeft_12 : decode cX6_sumLeft 12 = .ok (.iload_n 1, 1) := by decide +kernel
theorem dX6_sumLeft_13 : decode cX6_sumLeft 13 = .ok (.invokevirtual 165, 3) := by decide +kernel
theorem dX6_sumLeft_16 : decode cX6_sumLeft 16 = .ok (.lreturn, 1) := by decide +kernel
set_option maxRecDepth 20000 in
theorem ggX6_restLeft_X6_checkQuotient : GoodIn wsX6_restLeft wsX6_checkQuotient := goodIn_ca (goodIn_r _ [8, 9, 10, 3, 11, 12, 13, 14, 15, 16, 17, 18, 19, 20, 21, 22, 23, 24, 25, 26, 27, 28, 29, 30, 31, 32, 33, 34, 35, 36, 37, 38, 39, 40, 41, 42, 43, 44, 45, 46, 47, 48, 49, 50, 51, 52, 53, 54, 55, 56, 57, 58, 59, 60, 61, 62, 63, 71, 72, 73, 74, 75, 76, 77, 78, 79, 80, 81, 82, 83, 84, 85] (by decide +kernel) (by decide +kernel)) (goodIn_sub (fun _ h => List.mem_cons_of_mem _ (List.mem_append_right _ h)) (by decide +kernel))
set_option maxRecDepth 20000 in
theorem gX6_restLeft_X6_checkQuotient : GoodIn wsX6_restLeft (wsV RX6 153 RX6 yX6_checkQuotient wsX6_checkQuotient) := goodIn_app (goodIn_of _ (by decide +kernel)) ggX6_restLeft_X6_checkQuotient
set_option maxRecDepth 20000 in
theorem ggX6_restLeft_X6_outside : GoodIn wsX6_restLeft wsX6_outside := goodIn_r _ [66] (by decide +kernel) (by decide +kernel)
set_option maxRecDepth 20000 in
theorem gX6_restLeft_X6_outside : GoodIn wsX6_restLeft (va_wsS RX6 40 yX6_outside wsX6_outside) := goodIn_app (goodIn_of _ (by decide +kernel)) ggX6_restLeft_X6_outside
set_option maxRecDepth 20000 in
theorem ggX6_restLeft_X0_tally : GoodIn wsX6_restLeft wsX0_tally := goodIn_r _ [15, 16, 17, 18, 19, 20, 21, 22, 23, 24, 25, 26, 27, 28, 29, 30, 31, 32, 33, 34, 35, 36, 37, 38, 39, 40, 41, 42, 43, 44, 45, 14, 46, 47, 48, 49, 50, 51, 52, 53, 54, 55, 56, 57, 58, 59, 60, 61, 62, 63, 81, 82, 83, 84, 85, 76, 77, 78, 79, 80] (by decide +kernel) (by decide +kernel)
set_option maxRecDepth 20000 in
theorem gX6_restLeft_X0_tally : GoodIn wsX6_restLeft (wsV RX6 119 RX0 yX0_tally wsX0_tally) := goodIn_app (goodIn_of _ (by decide +kernel)) ggX6_restLeft_X0_tally
set_option maxRecDepth 20000 in
theorem ggX6_restLeft_X3_restAt : GoodIn wsX6_restLeft wsX3_restAt := goodIn_r _ [70, 38, 39, 40, 41, 23, 42, 26, 65, 7, 66, 76, 77, 78, 79, 80] (by decide +kernel) (by decide +kernel)
set_option maxRecDepth 20000 in
theorem gX6_restLeft_X3_restAt : GoodIn wsX6_restLeft (wsV RX6 171 RX3 yX3_restAt wsX3_restAt) := goodIn_app (goodIn_of _ (by decide +kernel)) ggX6_restLeft_X3_restAt
theorem dX6_restLeft_0 : decode cX6_restLeft 0 = .ok (.aload_n 0, 1) := by decide +kernel
theorem dX6_restLeft_1 : decode cX6_restLeft 1 = .ok (.iload_n 1, 1) := by decide +kernel
theorem dX6_restLeft_2 : decode cX6_restLeft 2 = .ok (.invokevirtual 153, 3) := by decide +kernel
theorem dX6_restLeft_5 : decode cX6_restLeft 5 = .ok (.iload_n 2, 1) := by decide +kernel
theorem dX6_restLeft_6 : decode cX6_restLeft 6 = .ok (.iconst 0, 1) := by decide +kernel
theorem dX6_restLeft_7 : decode cX6_restLeft 7 = .ok (.iconst 3, 1) := by decide +kernel
theorem dX6_restLeft_8 : decode cX6_restLeft 8 = .ok (.invokestatic 40, 3) := by decide +kernel
theorem dX6_restLeft_11 : decode cX6_restLeft 11 = .ok (.ifCond .eq 13, 3) := by decide +kernel
theorem dX6_restLeft_14 : decode cX6_restLeft 14 = .ok (.new 44, 3) := by decide +kernel
theorem dX6_restLeft_17 : decode cX6_restLeft 17 = .ok (.dup, 1) := by decide +kernel
theorem dX6_restLeft_18 : decode cX6_restLeft 18 = .ok (.ldc 169, 2) := by decide +kernel
theorem dX6_restLeft_20 : decode cX6_restLeft 20 = .ok (.invokespecial 48, 3) := by decide +kernel
theorem dX6_restLeft_23 : decode cX6_restLeft 23 = .ok (.athrow, 1) := by decide +kernel
theorem dX6_restLeft_24 : decode cX6_restLeft 24 = .ok (.aload_n 0, 1) := by decide +kernel
theorem dX6_restLeft_25 : decode cX6_restLeft 25 = .ok (.getfield 19, 3) := by decide +kernel
theorem dX6_restLeft_28 : decode cX6_restLeft 28 = .ok (.invokevirtual 119, 3) := by decide +kernel
theorem dX6_restLeft_31 : decode cX6_restLeft 31 = .ok (.iload_n 1, 1) := by decide +kernel
theorem dX6_restLeft_32 : decode cX6_restLeft 32 = .ok (.iload_n 2, 1) := by decide +kernel
theorem dX6_restLeft_33 : decode cX6_restLeft 33 = .ok (.invokevirtual 171, 3) := by decide +kernel
theorem dX6_restLeft_36 : decode cX6_restLeft 36 = .ok (.ireturn, 1) := by decide +kernel
set_option maxRecDepth 20000 in
theorem ggX6_came_X0_primeAt : GoodIn wsX6_came wsX0_primeAt := goodIn_r _ [8] (by decide +kernel) (by decide +kernel)
set_option maxRecDepth 20000 in
theorem gX6_came_X0_primeAt : GoodIn wsX6_came (wsV RX6 147 RX0 yX0_primeAt wsX0_primeAt) := goodIn_app (goodIn_of _ (by decide +kernel)) ggX6_came_X0_primeAt
set_option maxRecDepth 20000 in
theorem ggX6_came_X0_hasStruck : GoodIn wsX6_came wsX0_hasStruck := goodIn_r _ [12, 13, 19, 20, 21, 22, 23] (by decide +kernel) (by decide +kernel)
set_option maxRecDepth 20000 in
theorem gX6_came_X0_hasStruck : GoodIn wsX6_came (wsV RX6 176 RX0 yX0_hasStruck wsX0_hasStruck) := goodIn_app (goodIn_of _ (by decide +kernel)) ggX6_came_X0_hasStruck
theorem dX6_came_0 : decode cX6_came 0 = .ok (.iload_n 1, 1) := by decide +kernel
theorem dX6_came_1 : decode cX6_came 1 = .ok (.ifCond .ge 13, 3) := by decide +kernel
theorem dX6_came_4 : decode cX6_came 4 = .ok (.new 44, 3) := by decide +kernel
theorem dX6_came_7 : decode cX6_came 7 = .ok (.dup, 1) := by decide +kernel
theorem dX6_came_8 : decode cX6_came 8 = .ok (.ldc 174, 2) := by decide +kernel
theorem dX6_came_10 : decode cX6_came 10 = .ok (.invokespecial 48, 3) := by decide +kernel
theorem dX6_came_13 : decode cX6_came 13 = .ok (.athrow, 1) := by decide +kernel
theorem dX6_came_14 : decode cX6_came 14 = .ok (.iload_n 1, 1) := by decide +kernel
theorem dX6_came_15 : decode cX6_came 15 = .ok (.aload_n 0, 1) := by decide +kernel
theorem dX6_came_16 : decode cX6_came 16 = .ok (.getfield 19, 3) := by decide +kernel
theorem dX6_came_19 : decode cX6_came 19 = .ok (.getfield 138, 3) := by decide +kernel
theorem dX6_came_22 : decode cX6_came 22 = .ok (.if_icmp .lt 5, 3) := by decide +kernel
theorem dX6_came_25 : decode cX6_came 25 = .ok (.iconst 0, 1) := by decide +kernel
theorem dX6_came_26 : decode cX6_came 26 = .ok (.ireturn, 1) := by decide +kernel
theorem dX6_came_27 : decode cX6_came 27 = .ok (.aload_n 0, 1) := by decide +kernel
theorem dX6_came_28 : decode cX6_came 28 = .ok (.getfield 19, 3) := by decide +kernel
theorem dX6_came_31 : decode cX6_came 31 = .ok (.iload_n 1, 1) := by decide +kernel
theorem dX6_came_32 : decode cX6_came 32 = .ok (.invokevirtual 147, 3) := by decide +kernel
theorem dX6_came_35 : decode cX6_came 35 = .ok (.istore_n 2, 1) := by decide +kernel
theorem dX6_came_36 : decode cX6_came 36 = .ok (.aload_n 0, 1) := by decide +kernel
theorem dX6_came_37 : decode cX6_came 37 = .ok (.getfield 19, 3) := by decide +kernel
theorem dX6_came_40 : decode cX6_came 40 = .ok (.iload_n 1, 1) := by decide +kernel
theorem dX6_came_41 : decode cX6_came 41 = .ok (.invokevirtual 176, 3) := by decide +kernel
theorem dX6_came_44 : decode cX6_came 44 = .ok (.ifCond .eq 7, 3) := by decide +kernel
theorem dX6_came_47 : decode cX6_came 47 = .ok (.iload_n 2, 1) := by decide +kernel
theorem dX6_came_48 : decode cX6_came 48 = .ok (.goto 5, 3) := by decide +kernel
theorem dX6_came_51 : decode cX6_came 51 = .ok (.iload_n 2, 1) := by decide +kernel
theorem dX6_came_52 : decode cX6_came 52 = .ok (.ineg, 1) := by decide +kernel
theorem dX6_came_53 : decode cX6_came 53 = .ok (.ireturn, 1) := by decide +kernel
set_option maxRecDepth 20000 in
theorem ggX6_bound_X6_outside : GoodIn wsX6_bound wsX6_outside := goodIn_r _ [9] (by decide +kernel) (by decide +kernel)
set_option maxRecDepth 20000 in
theorem gX6_bound_X6_outside : GoodIn wsX6_bound (va_wsS RX6 40 yX6_outside wsX6_outside) := goodIn_app (goodIn_of _ (by decide +kernel)) ggX6_bound_X6_outside
set_option maxRecDepth 20000 in
theorem ggX6_bound_X2_remember : GoodIn wsX6_bound wsX2_remember := goodIn_r _ [14, 15, 16, 17, 18, 19, 20, 21, 22, 23, 13, 24, 25, 26, 27, 7, 8, 9, 51, 52, 53, 54, 55, 46, 47, 48, 49, 50] (by decide +kernel) (by decide +kernel)
set_option maxRecDepth 20000 in
theorem gX6_bound_X2_remember : GoodIn wsX6_bound (wsV RX6 183 RX2 yX2_remember wsX2_remember) := goodIn_app (goodIn_of _ (by decide +kernel)) ggX6_bound_X2_remember
set_option maxRecDepth 20000 in
theorem ggX6_bound_X0_begin : GoodIn wsX6_bound wsX0_begin := goodIn_r _ [32, 33, 34, 35, 31, 36, 37, 38, 39, 40, 46, 47, 48, 49, 50] (by decide +kernel) (by decide +kernel)
set_option maxRecDepth 20000 in
theorem gX6_bound_X0_begin : GoodIn wsX6_bound (wsV RX6 73 RX0 yX0_begin wsX0_begin) := goodIn_app (goodIn_of _ (by decide +kernel)) ggX6_bound_X0_begin
theorem dX6_bound_0 : decode cX6_bound 0 = .ok (.iload_n 1, 1) := by decide +kernel
theorem dX6_bound_1 : decode cX6_bound 1 = .ok (.iconst 1, 1) := by decide +kernel
theorem dX6_bound_2 : decode cX6_bound 2 = .ok (.ldc 180, 2) := by decide +kernel
theorem dX6_bound_4 : decode cX6_bound 4 = .ok (.invokestatic 40, 3) := by decide +kernel
theorem dX6_bound_7 : decode cX6_bound 7 = .ok (.ifCond .eq 13, 3) := by decide +kernel
theorem dX6_bound_10 : decode cX6_bound 10 = .ok (.new 44, 3) := by decide +kernel
theorem dX6_bound_13 : decode cX6_bound 13 = .ok (.dup, 1) := by decide +kernel
theorem dX6_bound_14 : decode cX6_bound 14 = .ok (.ldc 181, 2) := by decide +kernel
theorem dX6_bound_16 : decode cX6_bound 16 = .ok (.invokespecial 48, 3) := by decide +kernel
theorem dX6_bound_19 : decode cX6_bound 19 = .ok (.athrow, 1) := by decide +kernel
theorem dX6_bound_20 : decode cX6_bound 20 = .ok (.aload_n 0, 1) := by decide +kernel
theorem dX6_bound_21 : decode cX6_bound 21 = .ok (.getfield 26, 3) := by decide +kernel
theorem dX6_bound_24 : decode cX6_bound 24 = .ok (.aload_n 0, 1) := by decide +kernel
theorem dX6_bound_25 : decode cX6_bound 25 = .ok (.getfield 19, 3) := by decide +kernel
theorem dX6_bound_28 : decode cX6_bound 28 = .ok (.invokevirtual 183, 3) := by decide +kernel
theorem dX6_bound_31 : decode cX6_bound 31 = .ok (.aload_n 0, 1) := by decide +kernel
theorem dX6_bound_32 : decode cX6_bound 32 = .ok (.getfield 19, 3) := by decide +kernel
theorem dX6_bound_35 : decode cX6_bound 35 = .ok (.getfield 103, 3) := by decide +kernel
theorem dX6_bound_38 : decode cX6_bound 38 = .ok (.istore_n 2, 1) := by decide +kernel
theorem dX6_bound_39 : decode cX6_bound 39 = .ok (.aload_n 0, 1) := by decide +kernel
theorem dX6_bound_40 : decode cX6_bound 40 = .ok (.getfield 19, 3) := by decide +kernel
theorem dX6_bound_43 : decode cX6_bound 43 = .ok (.iload_n 1, 1) := by decide +kernel
theorem dX6_bound_44 : decode cX6_bound 44 = .ok (.invokevirtual 73, 3) := by decide +kernel
theorem dX6_bound_47 : decode cX6_bound 47 = .ok (.iload_n 2, 1) := by decide +kernel
theorem dX6_bound_48 : decode cX6_bound 48 = .ok (.ireturn, 1) := by decide +kernel
set_option maxRecDepth 20000 in
theorem ggX6_strike_X6_checkNextPrime : GoodIn wsX6_strike wsX6_checkNextPrime := goodIn_ca (goodIn_r _ [7, 8, 9, 2, 10, 11, 12, 13, 14, 15, 16, 17, 18, 19, 20, 103, 104, 105, 106, 107, 108, 109, 110, 111, 112] (by decide +kernel) (by decide +kernel)) (goodIn_sub (fun _ h => List.mem_cons_of_mem _ (List.mem_append_right _ h)) (by decide +kernel))
set_option maxRecDepth 20000 in
theorem gX6_strike_X6_checkNextPrime : GoodIn wsX6_strike (wsV RX6 187 RX6 yX6_checkNextPrime wsX6_checkNextPrime) := goodIn_app (goodIn_of _ (by decide +kernel)) ggX6_strike_X6_checkNextPrime
set_option maxRecDepth 20000 in
theorem ggX6_strike_X2_remember : GoodIn wsX6_strike wsX2_remember := goodIn_r _ [25, 26, 27, 28, 29, 30, 31, 32, 33, 34, 24, 35, 36, 37, 38, 39, 6, 40, 113, 114, 115, 116, 117, 108, 109, 110, 111, 112] (by decide +kernel) (by decide +kernel)
set_option maxRecDepth 20000 in
theorem gX6_strike_X2_remember : GoodIn wsX6_strike (wsV RX6 183 RX2 yX2_remember wsX2_remember) := goodIn_app (goodIn_of _ (by decide +kernel)) ggX6_strike_X2_remember
set_option maxRecDepth 20000 in
theorem ggX6_strike_X0_countLeft : GoodIn wsX6_strike wsX0_countLeft := goodIn_r _ [44, 45, 46, 47, 13, 48, 49, 50, 16, 15, 51, 52, 53, 54, 55, 56, 57, 58, 59, 30, 60, 61, 62, 63, 64, 65, 66, 67, 68, 69, 70, 71, 72, 73, 74, 75, 76, 77, 17, 18, 19, 20, 78, 79, 80, 81, 82, 83, 84, 85, 86, 87, 88, 89, 90, 91, 92, 93, 94, 95, 96, 97, 39, 6, 40, 108, 109, 110, 111, 112, 118, 119, 120, 121, 122] (by decide +kernel) (by decide +kernel)
set_option maxRecDepth 20000 in
theorem gX6_strike_X0_countLeft : GoodIn wsX6_strike (wsV RX6 141 RX0 yX0_countLeft wsX0_countLeft) := goodIn_app (goodIn_of _ (by decide +kernel)) ggX6_strike_X0_countLeft
set_option maxRecDepth 20000 in
theorem ggX6_strike_X0_letCome : GoodIn wsX6_strike wsX0_letCome := goodIn_r _ [101, 77, 15, 102, 11, 12, 13, 14, 16, 17, 18, 19, 20, 108, 109, 110, 111, 112] (by decide +kernel) (by decide +kernel)
set_option maxRecDepth 20000 in
theorem gX6_strike_X0_letCome : GoodIn wsX6_strike (wsV RX6 115 RX0 yX0_letCome wsX0_letCome) := goodIn_app (goodIn_of _ (by decide +kernel)) ggX6_strike_X0_letCome
theorem dX6_strike_0 : decode cX6_strike 0 = .ok (.aload_n 0, 1) := by decide +kernel
theorem dX6_strike_1 : decode cX6_strike 1 = .ok (.invokevirtual 187, 3) := by decide +kernel
theorem dX6_strike_4 : decode cX6_strike 4 = .ok (.aload_n 0, 1) := by decide +kernel
theorem dX6_strike_5 : decode cX6_strike 5 = .ok (.getfield 26, 3) := by decide +kernel
theorem dX6_strike_8 : decode cX6_strike 8 = .ok (.aload_n 0, 1) := by decide +kernel
theorem dX6_strike_9 : decode cX6_strike 9 = .ok (.getfield 19, 3) := by decide +kernel
theorem dX6_strike_12 : decode cX6_strike 12 = .ok (.invokevirtual 183, 3) := by decide +kernel
theorem dX6_strike_15 : decode cX6_strike 15 = .ok (.aload_n 0, 1) := by decide +kernel
theorem dX6_strike_16 : decode cX6_strike 16 = .ok (.getfield 19, 3) := by decide +kernel
theorem dX6_strike_19 : decode cX6_strike 19 = .ok (.invokevirtual 141, 3) := by decide +kernel
theorem dX6_strike_22 : decode cX6_strike 22 = .ok (.istore_n 1, 1) := by decide +kernel
theorem dX6_strike_23 : decode cX6_strike 23 = .ok (.aload_n 0, 1) := by decide +kernel
theorem dX6_strike_24 : decode cX6_strike 24 = .ok (.getfield 19, 3) := by decide +kernel
theorem dX6_strike_27 : decode cX6_strike 27 = .ok (.iconst 1, 1) := by decide +kernel
theorem dX6_strike_28 : decode cX6_strike 28 = .ok (.invokevirtual 115, 3) := by decide +kernel
theorem dX6_strike_31 : decode cX6_strike 31 = .ok (.pop, 1) := by decide +kernel
theorem dX6_strike_32 : decode cX6_strike 32 = .ok (.iload_n 1, 1) := by decide +kernel
theorem dX6_strike_33 : decode cX6_strike 33 = .ok (.aload_n 0, 1) := by decide +kernel
theorem dX6_strike_34 : decode cX6_strike 34 = .ok (.getfield 19, 3) := by decide +kernel
theorem dX6_strike_37 : decode cX6_strike 37 = .ok (.invokevirtual 141, 3) := by decide +kernel
theorem dX6_strike_40 : decode cX6_strike 40 = .ok (.isub, 1) := by decide +kernel
theorem dX6_strike_41 : decode cX6_strike 41 = .ok (.ireturn, 1) := by decide +kernel
set_option maxRecDepth 20000 in
theorem ggX6_spare_X6_checkNextPrime : GoodIn wsX6_spare wsX6_checkNextPrime := goodIn_ca (goodIn_r _ [7, 8, 9, 2, 10, 11, 12, 13, 14, 15, 16, 17, 18, 19, 20, 47, 48, 49, 50, 51, 52, 53, 54, 55, 56] (by decide +kernel) (by decide +kernel)) (goodIn_sub (fun _ h => List.mem_cons_of_mem _ (List.mem_append_right _ h)) (by decide +kernel))
set_option maxRecDepth 20000 in
theorem gX6_spare_X6_checkNextPrime : GoodIn wsX6_spare (wsV RX6 187 RX6 yX6_checkNextPrime wsX6_checkNextPrime) := goodIn_app (goodIn_of _ (by decide +kernel)) ggX6_spare_X6_checkNextPrime
set_option maxRecDepth 20000 in
theorem ggX6_spare_X2_remember : GoodIn wsX6_spare wsX2_remember := goodIn_r _ [25, 26, 27, 28, 29, 30, 31, 32, 33, 34, 24, 35, 36, 37, 38, 39, 6, 40, 57, 58, 59, 60, 61, 52, 53, 54, 55, 56] (by decide +kernel) (by decide +kernel)
set_option maxRecDepth 20000 in
theorem gX6_spare_X2_remember : GoodIn wsX6_spare (wsV RX6 183 RX2 yX2_remember wsX2_remember) := goodIn_app (goodIn_of _ (by decide +kernel)) ggX6_spare_X2_remember
set_option maxRecDepth 20000 in
theorem ggX6_spare_X0_nextPrime : GoodIn wsX6_spare wsX0_nextPrime := goodIn_r _ [14, 15, 16, 17, 18, 19, 13, 20, 52, 53, 54, 55, 56] (by decide +kernel) (by decide +kernel)
set_option maxRecDepth 20000 in
theorem gX6_spare_X0_nextPrime : GoodIn wsX6_spare (wsV RX6 144 RX0 yX0_nextPrime wsX0_nextPrime) := goodIn_app (goodIn_of _ (by decide +kernel)) ggX6_spare_X0_nextPrime
set_option maxRecDepth 20000 in
theorem ggX6_spare_X0_letCome : GoodIn wsX6_spare wsX0_letCome := goodIn_r _ [44, 45, 15, 46, 11, 12, 13, 14, 16, 17, 18, 19, 20, 52, 53, 54, 55, 56] (by decide +kernel) (by decide +kernel)
set_option maxRecDepth 20000 in
theorem gX6_spare_X0_letCome : GoodIn wsX6_spare (wsV RX6 115 RX0 yX0_letCome wsX0_letCome) := goodIn_app (goodIn_of _ (by decide +kernel)) ggX6_spare_X0_letCome
theorem dX6_spare_0 : decode cX6_spare 0 = .ok (.aload_n 0, 1) := by decide +kernel
theorem dX6_spare_1 : decode cX6_spare 1 = .ok (.invokevirtual 187, 3) := by decide +kernel
theorem dX6_spare_4 : decode cX6_spare 4 = .ok (.aload_n 0, 1) := by decide +kernel
theorem dX6_spare_5 : decode cX6_spare 5 = .ok (.getfield 26, 3) := by decide +kernel
theorem dX6_spare_8 : decode cX6_spare 8 = .ok (.aload_n 0, 1) := by decide +kernel
theorem dX6_spare_9 : decode cX6_spare 9 = .ok (.getfield 19, 3) := by decide +kernel
theorem dX6_spare_12 : decode cX6_spare 12 = .ok (.invokevirtual 183, 3) := by decide +kernel
theorem dX6_spare_15 : decode cX6_spare 15 = .ok (.aload_n 0, 1) := by decide +kernel
theorem dX6_spare_16 : decode cX6_spare 16 = .ok (.getfield 19, 3) := by decide +kernel
theorem dX6_spare_19 : decode cX6_spare 19 = .ok (.invokevirtual 144, 3) := by decide +kernel
theorem dX6_spare_22 : decode cX6_spare 22 = .ok (.istore_n 1, 1) := by decide +kernel
theorem dX6_spare_23 : decode cX6_spare 23 = .ok (.aload_n 0, 1) := by decide +kernel
theorem dX6_spare_24 : decode cX6_spare 24 = .ok (.getfield 19, 3) := by decide +kernel
theorem dX6_spare_27 : decode cX6_spare 27 = .ok (.iconst 0, 1) := by decide +kernel
theorem dX6_spare_28 : decode cX6_spare 28 = .ok (.invokevirtual 115, 3) := by decide +kernel
theorem dX6_spare_31 : decode cX6_spare 31 = .ok (.pop, 1) := by decide +kernel
theorem dX6_spare_32 : decode cX6_spare 32 = .ok (.iload_n 1, 1) := by decide +kernel
theorem dX6_spare_33 : decode cX6_spare 33 = .ok (.ireturn, 1) := by decide +kernel
set_option maxRecDepth 20000 in
theorem ggX6_strikeTo_X6_outside : GoodIn wsX6_strikeTo wsX6_outside := goodIn_r _ [9] (by decide +kernel) (by decide +kernel)
set_option maxRecDepth 20000 in
theorem gX6_strikeTo_X6_outside : GoodIn wsX6_strikeTo (va_wsS RX6 40 yX6_outside wsX6_outside) := goodIn_app (goodIn_of _ (by decide +kernel)) ggX6_strikeTo_X6_outside
set_option maxRecDepth 20000 in
theorem ggX6_strikeTo_X2_remember : GoodIn wsX6_strikeTo wsX2_remember := goodIn_r _ [14, 15, 16, 17, 18, 19, 20, 21, 22, 23, 13, 24, 25, 26, 27, 7, 8, 9, 53, 54, 55, 56, 57, 58, 59, 60, 61, 62] (by decide +kernel) (by decide +kernel)
set_option maxRecDepth 20000 in
theorem gX6_strikeTo_X2_remember : GoodIn wsX6_strikeTo (wsV RX6 183 RX2 yX2_remember wsX2_remember) := goodIn_app (goodIn_of _ (by decide +kernel)) ggX6_strikeTo_X2_remember
set_option maxRecDepth 20000 in
theorem ggX6_strikeTo_X0_letStrikeUpTo : GoodIn wsX6_strikeTo wsX0_letStrikeUpTo := goodIn_r _ [32, 33, 34, 35, 31, 36, 37, 38, 39, 40, 41, 42, 43, 44, 45, 46, 47, 58, 59, 60, 61, 62] (by decide +kernel) (by decide +kernel)
set_option maxRecDepth 20000 in
theorem gX6_strikeTo_X0_letStrikeUpTo : GoodIn wsX6_strikeTo (wsV RX6 192 RX0 yX0_letStrikeUpTo wsX0_letStrikeUpTo) := goodIn_app (goodIn_of _ (by decide +kernel)) ggX6_strikeTo_X0_letStrikeUpTo
theorem dX6_strikeTo_0 : decode cX6_strikeTo 0 = .ok (.iload_n 1, 1) := by decide +kernel
theorem dX6_strikeTo_1 : decode cX6_strikeTo 1 = .ok (.iconst 0, 1) := by decide +kernel
theorem dX6_strikeTo_2 : decode cX6_strikeTo 2 = .ok (.ldc 180, 2) := by decide +kernel
theorem dX6_strikeTo_4 : decode cX6_strikeTo 4 = .ok (.invokestatic 40, 3) := by decide +kernel
theorem dX6_strikeTo_7 : decode cX6_strikeTo 7 = .ok (.ifCond .eq 13, 3) := by decide +kernel
theorem dX6_strikeTo_10 : decode cX6_strikeTo 10 = .ok (.new 44, 3) := by decide +kernel
theorem dX6_strikeTo_13 : decode cX6_strikeTo 13 = .ok (.dup, 1) := by decide +kernel
theorem dX6_strikeTo_14 : decode cX6_strikeTo 14 = .ok (.ldc 190, 2) := by decide +kernel
theorem dX6_strikeTo_16 : decode cX6_strikeTo 16 = .ok (.invokespecial 48, 3) := by decide +kernel
theorem dX6_strikeTo_19 : decode cX6_strikeTo 19 = .ok (.athrow, 1) := by decide +kernel
theorem dX6_strikeTo_20 : decode cX6_strikeTo 20 = .ok (.aload_n 0, 1) := by decide +kernel
theorem dX6_strikeTo_21 : decode cX6_strikeTo 21 = .ok (.getfield 26, 3) := by decide +kernel
theorem dX6_strikeTo_24 : decode cX6_strikeTo 24 = .ok (.aload_n 0, 1) := by decide +kernel
theorem dX6_strikeTo_25 : decode cX6_strikeTo 25 = .ok (.getfield 19, 3) := by decide +kernel
theorem dX6_strikeTo_28 : decode cX6_strikeTo 28 = .ok (.invokevirtual 183, 3) := by decide +kernel
theorem dX6_strikeTo_31 : decode cX6_strikeTo 31 = .ok (.aload_n 0, 1) := by decide +kernel
theorem dX6_strikeTo_32 : decode cX6_strikeTo 32 = .ok (.getfield 19, 3) := by decide +kernel
theorem dX6_strikeTo_35 : decode cX6_strikeTo 35 = .ok (.iload_n 1, 1) := by decide +kernel
theorem dX6_strikeTo_36 : decode cX6_strikeTo 36 = .ok (.invokevirtual 192, 3) := by decide +kernel
theorem dX6_strikeTo_39 : decode cX6_strikeTo 39 = .ok (.ireturn, 1) := by decide +kernel
set_option maxRecDepth 20000 in
theorem ggX6_again_X2_remember : GoodIn wsX6_again wsX2_remember := goodIn_r _ [7, 8, 9, 10, 11, 12, 13, 14, 15, 16, 6, 17, 18, 19, 20, 21, 22, 23, 47, 48, 49, 50, 51, 42, 43, 44, 45, 46] (by decide +kernel) (by decide +kernel)
set_option maxRecDepth 20000 in
theorem gX6_again_X2_remember : GoodIn wsX6_again (wsV RX6 183 RX2 yX2_remember wsX2_remember) := goodIn_app (goodIn_of _ (by decide +kernel)) ggX6_again_X2_remember
set_option maxRecDepth 20000 in
theorem ggX6_again_X0_begin : GoodIn wsX6_again wsX0_begin := goodIn_r _ [28, 29, 30, 31, 27, 32, 33, 34, 35, 36, 42, 43, 44, 45, 46] (by decide +kernel) (by decide +kernel)
set_option maxRecDepth 20000 in
theorem gX6_again_X0_begin : GoodIn wsX6_again (wsV RX6 73 RX0 yX0_begin wsX0_begin) := goodIn_app (goodIn_of _ (by decide +kernel)) ggX6_again_X0_begin
theorem dX6_again_0 : decode cX6_again 0 = .ok (.aload_n 0, 1) := by decide +kernel
theorem dX6_again_1 : decode cX6_again 1 = .ok (.getfield 26, 3) := by decide +kernel
theorem dX6_again_4 : decode cX6_again 4 = .ok (.aload_n 0, 1) := by decide +kernel
theorem dX6_again_5 : decode cX6_again 5 = .ok (.getfield 19, 3) := by decide +kernel
theorem dX6_again_8 : decode cX6_again 8 = .ok (.invokevirtual 183, 3) := by decide +kernel
theorem dX6_again_11 : decode cX6_again 11 = .ok (.aload_n 0, 1) := by decide +kernel
theorem dX6_again_12 : decode cX6_again 12 = .ok (.getfield 19, 3) := by decide +kernel
theorem dX6_again_15 : decode cX6_again 15 = .ok (.getfield 138, 3) := by decide +kernel
theorem dX6_again_18 : decode cX6_again 18 = .ok (.istore_n 1, 1) := by decide +kernel
theorem dX6_again_19 : decode cX6_again 19 = .ok (.aload_n 0, 1) := by decide +kernel
theorem dX6_again_20 : decode cX6_again 20 = .ok (.getfield 19, 3) := by decide +kernel
theorem dX6_again_23 : decode cX6_again 23 = .ok (.aload_n 0, 1) := by decide +kernel
theorem dX6_again_24 : decode cX6_again 24 = .ok (.getfield 19, 3) := by decide +kernel
theorem dX6_again_27 : decode cX6_again 27 = .ok (.getfield 103, 3) := by decide +kernel
theorem dX6_again_30 : decode cX6_again 30 = .ok (.invokevirtual 73, 3) := by decide +kernel
theorem dX6_again_33 : decode cX6_again 33 = .ok (.iload_n 1, 1) := by decide +kernel
theorem dX6_again_34 : decode cX6_again 34 = .ok (.ireturn, 1) := by decide +kernel
set_option maxRecDepth 20000 in
theorem ggX6_undo_X2_takeBack : GoodIn wsX6_undo wsX2_takeBack := goodIn_r _ [9, 10, 11, 12, 13, 14, 15, 16, 17, 18, 8, 19, 20, 21, 22, 23, 24, 25, 26, 27, 28, 29, 30, 31, 32, 33, 34, 40, 41, 42, 43, 44, 45, 46, 47, 48, 49] (by decide +kernel) (by decide +kernel)
set_option maxRecDepth 20000 in
theorem gX6_undo_X2_takeBack : GoodIn wsX6_undo (wsV RX6 200 RX2 yX2_takeBack wsX2_takeBack) := goodIn_app (goodIn_of _ (by decide +kernel)) ggX6_undo_X2_takeBack
theorem dX6_undo_0 : decode cX6_undo 0 = .ok (.aload_n 0, 1) := by decide +kernel
theorem dX6_undo_1 : decode cX6_undo 1 = .ok (.getfield 26, 3) := by decide +kernel
theorem dX6_undo_4 : decode cX6_undo 4 = .ok (.getfield 195, 3) := by decide +kernel
theorem dX6_undo_7 : decode cX6_undo 7 = .ok (.ifCond .ne 13, 3) := by decide +kernel
theorem dX6_undo_10 : decode cX6_undo 10 = .ok (.new 55, 3) := by decide +kernel
theorem dX6_undo_13 : decode cX6_undo 13 = .ok (.dup, 1) := by decide +kernel
theorem dX6_undo_14 : decode cX6_undo 14 = .ok (.ldc 198, 2) := by decide +kernel
theorem dX6_undo_16 : decode cX6_undo 16 = .ok (.invokespecial 59, 3) := by decide +kernel
theorem dX6_undo_19 : decode cX6_undo 19 = .ok (.athrow, 1) := by decide +kernel
theorem dX6_undo_20 : decode cX6_undo 20 = .ok (.aload_n 0, 1) := by decide +kernel
theorem dX6_undo_21 : decode cX6_undo 21 = .ok (.getfield 26, 3) := by decide +kernel
theorem dX6_undo_24 : decode cX6_undo 24 = .ok (.aload_n 0, 1) := by decide +kernel
theorem dX6_undo_25 : decode cX6_undo 25 = .ok (.getfield 19, 3) := by decide +kernel
theorem dX6_undo_28 : decode cX6_undo 28 = .ok (.invokevirtual 200, 3) := by decide +kernel
theorem dX6_undo_31 : decode cX6_undo 31 = .ok (.aload_n 0, 1) := by decide +kernel
theorem dX6_undo_32 : decode cX6_undo 32 = .ok (.getfield 26, 3) := by decide +kernel
theorem dX6_undo_35 : decode cX6_undo 35 = .ok (.getfield 195, 3) := by decide +kernel
theorem dX6_undo_38 : decode cX6_undo 38 = .ok (.ireturn, 1) := by decide +kernel
set_option maxRecDepth 20000 in
theorem ggX6_wouldStrike_X6_checkQuotient : GoodIn wsX6_wouldStrike wsX6_checkQuotient := goodIn_ca (goodIn_r _ [6, 7, 8, 1, 9, 10, 11, 12, 13, 14, 15, 16, 17, 18, 19, 20, 21, 22, 23, 24, 25, 26, 27, 28, 29, 30, 31, 32, 33, 34, 35, 36, 37, 38, 39, 40, 41, 42, 43, 44, 45, 46, 47, 48, 49, 50, 51, 52, 53, 54, 55, 56, 57, 58, 59, 60, 61, 80, 81, 82, 83, 84, 85, 86, 87, 88, 89, 90, 91, 92, 93, 94] (by decide +kernel) (by decide +kernel)) (goodIn_sub (fun _ h => List.mem_cons_of_mem _ (List.mem_append_right _ h)) (by decide +kernel))
set_option maxRecDepth 20000 in
theorem gX6_wouldStrike_X6_checkQuotient : GoodIn wsX6_wouldStrike (wsV RX6 153 RX6 yX6_checkQuotient wsX6_checkQuotient) := goodIn_app (goodIn_of _ (by decide +kernel)) ggX6_wouldStrike_X6_checkQuotient
set_option maxRecDepth 20000 in
theorem ggX6_wouldStrike_X0_nextPrime : GoodIn wsX6_wouldStrike wsX0_nextPrime := goodIn_r _ [65, 17, 16, 46, 47, 48, 12, 49, 90, 91, 92, 93, 94] (by decide +kernel) (by decide +kernel)
set_option maxRecDepth 20000 in
theorem gX6_wouldStrike_X0_nextPrime : GoodIn wsX6_wouldStrike (wsV RX6 144 RX0 yX0_nextPrime wsX0_nextPrime) := goodIn_app (goodIn_of _ (by decide +kernel)) ggX6_wouldStrike_X0_nextPrime
set_option maxRecDepth 20000 in
theorem ggX6_wouldStrike_X0_tally : GoodIn wsX6_wouldStrike wsX0_tally := goodIn_r _ [13, 14, 15, 16, 17, 18, 19, 20, 21, 22, 23, 24, 25, 26, 27, 28, 29, 30, 31, 32, 33, 34, 35, 36, 37, 38, 39, 40, 41, 42, 43, 12, 44, 45, 46, 47, 48, 49, 50, 51, 52, 53, 54, 55, 56, 57, 58, 59, 60, 61, 90, 91, 92, 93, 94, 85, 86, 87, 88, 89] (by decide +kernel) (by decide +kernel)
set_option maxRecDepth 20000 in
theorem gX6_wouldStrike_X0_tally : GoodIn wsX6_wouldStrike (wsV RX6 119 RX0 yX0_tally wsX0_tally) := goodIn_app (goodIn_of _ (by decide +kernel)) ggX6_wouldStrike_X0_tally
set_option maxRecDepth 20000 in
theorem ggX6_wouldStrike_X3_multiplesAt : GoodIn wsX6_wouldStrike wsX3_multiplesAt := goodIn_r _ [69, 54, 55, 56, 21, 57, 33, 37, 38, 39, 40, 24, 58, 59, 60, 61, 23, 70, 71, 72, 73, 74, 75, 76, 77, 36, 78, 5, 79, 85, 86, 87, 88, 89] (by decide +kernel) (by decide +kernel)
set_option maxRecDepth 20000 in
theorem gX6_wouldStrike_X3_multiplesAt : GoodIn wsX6_wouldStrike (wsV RX6 203 RX3 yX3_multiplesAt wsX3_multiplesAt) := goodIn_app (goodIn_of _ (by decide +kernel)) ggX6_wouldStrike_X3_multiplesAt
theorem dX6_wouldStrike_0 : decode cX6_wouldStrike 0 = .ok (.aload_n 0, 1) := by decide +kernel
theorem dX6_wouldStrike_1 : decode cX6_wouldStrike 1 = .ok (.iload_n 1, 1) := by decide +kernel
theorem dX6_wouldStrike_2 : decode cX6_wouldStrike 2 = .ok (.invokevirtual 153, 3) := by decide +kernel
theorem dX6_wouldStrike_5 : decode cX6_wouldStrike 5 = .ok (.aload_n 0, 1) := by decide +kernel
theorem dX6_wouldStrike_6 : decode cX6_wouldStrike 6 = .ok (.getfield 19, 3) := by decide +kernel
theorem dX6_wouldStrike_9 : decode cX6_wouldStrike 9 = .ok (.invokevirtual 144, 3) := by decide +kernel
theorem dX6_wouldStrike_12 : decode cX6_wouldStrike 12 = .ok (.istore_n 2, 1) := by decide +kernel
theorem dX6_wouldStrike_13 : decode cX6_wouldStrike 13 = .ok (.iload_n 2, 1) := by decide +kernel
theorem dX6_wouldStrike_14 : decode cX6_wouldStrike 14 = .ok (.iconst (-1), 1) := by decide +kernel
theorem dX6_wouldStrike_15 : decode cX6_wouldStrike 15 = .ok (.if_icmp .ne 7, 3) := by decide +kernel
theorem dX6_wouldStrike_18 : decode cX6_wouldStrike 18 = .ok (.iconst 0, 1) := by decide +kernel
theorem dX6_wouldStrike_19 : decode cX6_wouldStrike 19 = .ok (.goto 15, 3) := by decide +kernel
theorem dX6_wouldStrike_22 : decode cX6_wouldStrike 22 = .ok (.aload_n 0, 1) := by decide +kernel
theorem dX6_wouldStrike_23 : decode cX6_wouldStrike 23 = .ok (.getfield 19, 3) := by decide +kernel
theorem dX6_wouldStrike_26 : decode cX6_wouldStrike 26 = .ok (.invokevirtual 119, 3) := by decide +kernel
theorem dX6_wouldStrike_29 : decode cX6_wouldStrike 29 = .ok (.iload_n 1, 1) := by decide +kernel
theorem dX6_wouldStrike_30 : decode cX6_wouldStrike 30 = .ok (.iload_n 2, 1) := by decide +kernel
theorem dX6_wouldStrike_31 : decode cX6_wouldStrike 31 = .ok (.invokevirtual 203, 3) := by decide +kernel
theorem dX6_wouldStrike_34 : decode cX6_wouldStrike 34 = .ok (.ireturn, 1) := by decide +kernel
set_option maxRecDepth 20000 in
theorem ggX6_primes_X6_checkUpToHighest : GoodIn wsX6_primes wsX6_checkUpToHighest := goodIn_ca (goodIn_r _ [5, 6, 7, 8, 9, 10, 4, 11] (by decide +kernel) (by decide +kernel)) (goodIn_sub (fun _ h => List.mem_cons_of_mem _ (List.mem_append_right _ h)) (by decide +kernel))
set_option maxRecDepth 20000 in
theorem gX6_primes_X6_checkUpToHighest : GoodIn wsX6_primes (va_wsS RX6 206 yX6_checkUpToHighest wsX6_checkUpToHighest) := goodIn_app (goodIn_of _ (by decide +kernel)) ggX6_primes_X6_checkUpToHighest
set_option maxRecDepth 20000 in
theorem ggX6_primes_X1_countUpTo : GoodIn wsX6_primes wsX1_countUpTo := goodIn_r _ [16, 17, 18, 19, 15, 20, 21, 22, 23, 24, 25, 26, 27, 28, 29, 10, 4, 11, 30, 31, 32, 33, 34, 35, 36, 42] (by decide +kernel) (by decide +kernel)
set_option maxRecDepth 20000 in
theorem gX6_primes_X1_countUpTo : GoodIn wsX6_primes (wsV RX6 210 RX1 yX1_countUpTo wsX1_countUpTo) := goodIn_app (goodIn_of _ (by decide +kernel)) ggX6_primes_X1_countUpTo
theorem dX6_primes_0 : decode cX6_primes 0 = .ok (.iload_n 1, 1) := by decide +kernel
theorem dX6_primes_1 : decode cX6_primes 1 = .ok (.iconst 0, 1) := by decide +kernel
theorem dX6_primes_2 : decode cX6_primes 2 = .ok (.invokestatic 206, 3) := by decide +kernel
theorem dX6_primes_5 : decode cX6_primes 5 = .ok (.aload_n 0, 1) := by decide +kernel
theorem dX6_primes_6 : decode cX6_primes 6 = .ok (.getfield 33, 3) := by decide +kernel
theorem dX6_primes_9 : decode cX6_primes 9 = .ok (.iload_n 1, 1) := by decide +kernel
theorem dX6_primes_10 : decode cX6_primes 10 = .ok (.invokevirtual 210, 3) := by decide +kernel
theorem dX6_primes_13 : decode cX6_primes 13 = .ok (.ireturn, 1) := by decide +kernel
set_option maxRecDepth 20000 in
theorem ggX6_sumOf_X6_checkUpToHighest : GoodIn wsX6_sumOf wsX6_checkUpToHighest := goodIn_ca (goodIn_r _ [5, 6, 7, 8, 9, 10, 4, 11] (by decide +kernel) (by decide +kernel)) (goodIn_sub (fun _ h => List.mem_cons_of_mem _ (List.mem_append_right _ h)) (by decide +kernel))
set_option maxRecDepth 20000 in
theorem gX6_sumOf_X6_checkUpToHighest : GoodIn wsX6_sumOf (va_wsS RX6 206 yX6_checkUpToHighest wsX6_checkUpToHighest) := goodIn_app (goodIn_of _ (by decide +kernel)) ggX6_sumOf_X6_checkUpToHighest
set_option maxRecDepth 20000 in
theorem ggX6_sumOf_X1_sumUpTo : GoodIn wsX6_sumOf wsX1_sumUpTo := goodIn_r _ [16, 17, 18, 15, 19, 20, 21, 22, 23, 24, 10, 4, 11, 25, 26, 27, 28, 29, 30, 31, 32, 33, 34, 40] (by decide +kernel) (by decide +kernel)
set_option maxRecDepth 20000 in
theorem gX6_sumOf_X1_sumUpTo : GoodIn wsX6_sumOf (wsV RX6 213 RX1 yX1_sumUpTo wsX1_sumUpTo) := goodIn_app (goodIn_of _ (by decide +kernel)) ggX6_sumOf_X1_sumUpTo
theorem dX6_sumOf_0 : decode cX6_sumOf 0 = .ok (.iload_n 1, 1) := by decide +kernel
theorem dX6_sumOf_1 : decode cX6_sumOf 1 = .ok (.iconst 0, 1) := by decide +kernel
theorem dX6_sumOf_2 : decode cX6_sumOf 2 = .ok (.invokestatic 206, 3) := by decide +kernel
theorem dX6_sumOf_5 : decode cX6_sumOf 5 = .ok (.aload_n 0, 1) := by decide +kernel
theorem dX6_sumOf_6 : decode cX6_sumOf 6 = .ok (.getfield 33, 3) := by decide +kernel
theorem dX6_sumOf_9 : decode cX6_sumOf 9 = .ok (.iload_n 1, 1) := by decide +kernel
theorem dX6_sumOf_10 : decode cX6_sumOf 10 = .ok (.invokevirtual 213, 3) := by decide +kernel
theorem dX6_sumOf_13 : decode cX6_sumOf 13 = .ok (.lreturn, 1) := by decide +kernel
set_option maxRecDepth 20000 in
theorem ggX6_inSpan_X6_checkUpToHighest : GoodIn wsX6_inSpan wsX6_checkUpToHighest := goodIn_ca (goodIn_r _ [5, 6, 7, 8, 9, 10, 4, 11] (by decide +kernel) (by decide +kernel)) (goodIn_sub (fun _ h => List.mem_cons_of_mem _ (List.mem_append_right _ h)) (by decide +kernel))
set_option maxRecDepth 20000 in
theorem gX6_inSpan_X6_checkUpToHighest : GoodIn wsX6_inSpan (va_wsS RX6 206 yX6_checkUpToHighest wsX6_checkUpToHighest) := goodIn_app (goodIn_of _ (by decide +kernel)) ggX6_inSpan_X6_checkUpToHighest
set_option maxRecDepth 20000 in
theorem ggX6_inSpan_X1_countUpTo : GoodIn wsX6_inSpan wsX1_countUpTo := goodIn_r _ [16, 17, 18, 19, 15, 20, 21, 22, 23, 24, 25, 26, 27, 28, 29, 10, 4, 11, 30, 31, 32, 33, 34, 35, 36, 42] (by decide +kernel) (by decide +kernel)
set_option maxRecDepth 20000 in
theorem gX6_inSpan_X1_countUpTo : GoodIn wsX6_inSpan (wsV RX6 210 RX1 yX1_countUpTo wsX1_countUpTo) := goodIn_app (goodIn_of _ (by decide +kernel)) ggX6_inSpan_X1_countUpTo
theorem dX6_inSpan_0 : decode cX6_inSpan 0 = .ok (.iload_n 1, 1) := by decide +kernel
theorem dX6_inSpan_1 : decode cX6_inSpan 1 = .ok (.iconst 0, 1) := by decide +kernel
theorem dX6_inSpan_2 : decode cX6_inSpan 2 = .ok (.invokestatic 206, 3) := by decide +kernel
theorem dX6_inSpan_5 : decode cX6_inSpan 5 = .ok (.iload_n 2, 1) := by decide +kernel
theorem dX6_inSpan_6 : decode cX6_inSpan 6 = .ok (.iload_n 1, 1) := by decide +kernel
theorem dX6_inSpan_7 : decode cX6_inSpan 7 = .ok (.invokestatic 206, 3) := by decide +kernel
theorem dX6_inSpan_10 : decode cX6_inSpan 10 = .ok (.aload_n 0, 1) := by decide +kernel
theorem dX6_inSpan_11 : decode cX6_inSpan 11 = .ok (.getfield 33, 3) := by decide +kernel
theorem dX6_inSpan_14 : decode cX6_inSpan 14 = .ok (.iload_n 2, 1) := by decide +kernel
theorem dX6_inSpan_15 : decode cX6_inSpan 15 = .ok (.invokevirtual 210, 3) := by decide +kernel
theorem dX6_inSpan_18 : decode cX6_inSpan 18 = .ok (.aload_n 0, 1) := by decide +kernel
theorem dX6_inSpan_19 : decode cX6_inSpan 19 = .ok (.getfield 33, 3) := by decide +kernel
theorem dX6_inSpan_22 : decode cX6_inSpan 22 = .ok (.iload_n 1, 1) := by decide +kernel
theorem dX6_inSpan_23 : decode cX6_inSpan 23 = .ok (.iconst 1, 1) := by decide +kernel
theorem dX6_inSpan_24 : decode cX6_inSpan 24 = .ok (.isub, 1) := by decide +kernel
theorem dX6_inSpan_25 : decode cX6_inSpan 25 = .ok (.invokevirtual 210, 3) := by decide +kernel
theorem dX6_inSpan_28 : decode cX6_inSpan 28 = .ok (.isub, 1) := by decide +kernel
theorem dX6_inSpan_29 : decode cX6_inSpan 29 = .ok (.ireturn, 1) := by decide +kernel
set_option maxRecDepth 20000 in
theorem ggX6_byRest_X6_checkUpToHighest : GoodIn wsX6_byRest wsX6_checkUpToHighest := goodIn_ca (goodIn_r _ [7, 1, 2, 8, 9, 10, 6, 11] (by decide +kernel) (by decide +kernel)) (goodIn_sub (fun _ h => List.mem_cons_of_mem _ (List.mem_append_right _ h)) (by decide +kernel))
set_option maxRecDepth 20000 in
theorem gX6_byRest_X6_checkUpToHighest : GoodIn wsX6_byRest (va_wsS RX6 206 yX6_checkUpToHighest wsX6_checkUpToHighest) := goodIn_app (goodIn_of _ (by decide +kernel)) ggX6_byRest_X6_checkUpToHighest
set_option maxRecDepth 20000 in
theorem ggX6_byRest_X6_outside : GoodIn wsX6_byRest wsX6_outside := goodIn_r _ [11] (by decide +kernel) (by decide +kernel)
set_option maxRecDepth 20000 in
theorem gX6_byRest_X6_outside : GoodIn wsX6_byRest (va_wsS RX6 40 yX6_outside wsX6_outside) := goodIn_app (goodIn_of _ (by decide +kernel)) ggX6_byRest_X6_outside
set_option maxRecDepth 20000 in
theorem ggX6_byRest_X1_countByRest : GoodIn wsX6_byRest wsX1_countByRest := goodIn_r _ [16, 17, 18, 19, 20, 21, 15, 22, 23, 24, 25, 26, 27, 10, 6, 11, 28, 29, 30, 31, 32, 33, 34, 35, 36, 37, 43] (by decide +kernel) (by decide +kernel)
set_option maxRecDepth 20000 in
theorem gX6_byRest_X1_countByRest : GoodIn wsX6_byRest (wsV RX6 216 RX1 yX1_countByRest wsX1_countByRest) := goodIn_app (goodIn_of _ (by decide +kernel)) ggX6_byRest_X1_countByRest
theorem dX6_byRest_0 : decode cX6_byRest 0 = .ok (.iload_n 1, 1) := by decide +kernel
theorem dX6_byRest_1 : decode cX6_byRest 1 = .ok (.iconst 0, 1) := by decide +kernel
theorem dX6_byRest_2 : decode cX6_byRest 2 = .ok (.invokestatic 206, 3) := by decide +kernel
theorem dX6_byRest_5 : decode cX6_byRest 5 = .ok (.iload_n 2, 1) := by decide +kernel
theorem dX6_byRest_6 : decode cX6_byRest 6 = .ok (.iconst 0, 1) := by decide +kernel
theorem dX6_byRest_7 : decode cX6_byRest 7 = .ok (.iconst 3, 1) := by decide +kernel
theorem dX6_byRest_8 : decode cX6_byRest 8 = .ok (.invokestatic 40, 3) := by decide +kernel
theorem dX6_byRest_11 : decode cX6_byRest 11 = .ok (.ifCond .eq 13, 3) := by decide +kernel
theorem dX6_byRest_14 : decode cX6_byRest 14 = .ok (.new 44, 3) := by decide +kernel
theorem dX6_byRest_17 : decode cX6_byRest 17 = .ok (.dup, 1) := by decide +kernel
theorem dX6_byRest_18 : decode cX6_byRest 18 = .ok (.ldc 169, 2) := by decide +kernel
theorem dX6_byRest_20 : decode cX6_byRest 20 = .ok (.invokespecial 48, 3) := by decide +kernel
theorem dX6_byRest_23 : decode cX6_byRest 23 = .ok (.athrow, 1) := by decide +kernel
theorem dX6_byRest_24 : decode cX6_byRest 24 = .ok (.aload_n 0, 1) := by decide +kernel
theorem dX6_byRest_25 : decode cX6_byRest 25 = .ok (.getfield 33, 3) := by decide +kernel
theorem dX6_byRest_28 : decode cX6_byRest 28 = .ok (.iload_n 1, 1) := by decide +kernel
theorem dX6_byRest_29 : decode cX6_byRest 29 = .ok (.iload_n 2, 1) := by decide +kernel
theorem dX6_byRest_30 : decode cX6_byRest 30 = .ok (.invokevirtual 216, 3) := by decide +kernel
theorem dX6_byRest_33 : decode cX6_byRest 33 = .ok (.ireturn, 1) := by decide +kernel
set_option maxRecDepth 20000 in
theorem ggX6_prime_X6_outside : GoodIn wsX6_prime wsX6_outside := goodIn_r _ [7] (by decide +kernel) (by decide +kernel)
set_option maxRecDepth 20000 in
theorem gX6_prime_X6_outside : GoodIn wsX6_prime (va_wsS RX6 40 yX6_outside wsX6_outside) := goodIn_app (goodIn_of _ (by decide +kernel)) ggX6_prime_X6_outside
set_option maxRecDepth 20000 in
theorem ggX6_prime_X1_ofRank : GoodIn wsX6_prime wsX1_ofRank := goodIn_r _ [12, 13, 14, 15, 16, 17, 18, 19, 20, 21, 22, 11, 23, 29] (by decide +kernel) (by decide +kernel)
set_option maxRecDepth 20000 in
theorem gX6_prime_X1_ofRank : GoodIn wsX6_prime (wsV RX6 221 RX1 yX1_ofRank wsX1_ofRank) := goodIn_app (goodIn_of _ (by decide +kernel)) ggX6_prime_X1_ofRank
theorem dX6_prime_0 : decode cX6_prime 0 = .ok (.iload_n 1, 1) := by decide +kernel
theorem dX6_prime_1 : decode cX6_prime 1 = .ok (.iconst 1, 1) := by decide +kernel
theorem dX6_prime_2 : decode cX6_prime 2 = .ok (.sipush 9592, 3) := by decide +kernel
theorem dX6_prime_5 : decode cX6_prime 5 = .ok (.invokestatic 40, 3) := by decide +kernel
theorem dX6_prime_8 : decode cX6_prime 8 = .ok (.ifCond .eq 13, 3) := by decide +kernel
theorem dX6_prime_11 : decode cX6_prime 11 = .ok (.new 44, 3) := by decide +kernel
theorem dX6_prime_14 : decode cX6_prime 14 = .ok (.dup, 1) := by decide +kernel
theorem dX6_prime_15 : decode cX6_prime 15 = .ok (.ldc 219, 2) := by decide +kernel
theorem dX6_prime_17 : decode cX6_prime 17 = .ok (.invokespecial 48, 3) := by decide +kernel
theorem dX6_prime_20 : decode cX6_prime 20 = .ok (.athrow, 1) := by decide +kernel
theorem dX6_prime_21 : decode cX6_prime 21 = .ok (.aload_n 0, 1) := by decide +kernel
theorem dX6_prime_22 : decode cX6_prime 22 = .ok (.getfield 33, 3) := by decide +kernel
theorem dX6_prime_25 : decode cX6_prime 25 = .ok (.iload_n 1, 1) := by decide +kernel
theorem dX6_prime_26 : decode cX6_prime 26 = .ok (.invokevirtual 221, 3) := by decide +kernel
theorem dX6_prime_29 : decode cX6_prime 29 = .ok (.ireturn, 1) := by decide +kernel
set_option maxRecDepth 20000 in
theorem ggX6_leastFactor_X6_checkUpToHighest : GoodIn wsX6_leastFactor wsX6_checkUpToHighest := goodIn_ca (goodIn_r _ [4, 5, 6, 7, 8, 9, 3, 10] (by decide +kernel) (by decide +kernel)) (goodIn_sub (fun _ h => List.mem_cons_of_mem _ (List.mem_append_right _ h)) (by decide +kernel))
set_option maxRecDepth 20000 in
theorem gX6_leastFactor_X6_checkUpToHighest : GoodIn wsX6_leastFactor (va_wsS RX6 206 yX6_checkUpToHighest wsX6_checkUpToHighest) := goodIn_app (goodIn_of _ (by decide +kernel)) ggX6_leastFactor_X6_checkUpToHighest
set_option maxRecDepth 20000 in
theorem ggX6_leastFactor_X1_leastDividing : GoodIn wsX6_leastFactor wsX1_leastDividing := goodIn_r _ [14] (by decide +kernel) (by decide +kernel)
set_option maxRecDepth 20000 in
theorem gX6_leastFactor_X1_leastDividing : GoodIn wsX6_leastFactor (va_wsS RX6 224 yX1_leastDividing wsX1_leastDividing) := goodIn_app (goodIn_of _ (by decide +kernel)) ggX6_leastFactor_X1_leastDividing
theorem dX6_leastFactor_0 : decode cX6_leastFactor 0 = .ok (.iload_n 1, 1) := by decide +kernel
theorem dX6_leastFactor_1 : decode cX6_leastFactor 1 = .ok (.iconst 2, 1) := by decide +kernel
theorem dX6_leastFactor_2 : decode cX6_leastFactor 2 = .ok (.invokestatic 206, 3) := by decide +kernel
theorem dX6_leastFactor_5 : decode cX6_leastFactor 5 = .ok (.iload_n 1, 1) := by decide +kernel
theorem dX6_leastFactor_6 : decode cX6_leastFactor 6 = .ok (.invokestatic 224, 3) := by decide +kernel
theorem dX6_leastFactor_9 : decode cX6_leastFactor 9 = .ok (.ireturn, 1) := by decide +kernel
set_option maxRecDepth 20000 in
theorem ggX6_withLeast_X6_checkUpToHighest : GoodIn wsX6_withLeast wsX6_checkUpToHighest := goodIn_ca (goodIn_r _ [6, 7, 8, 9, 10, 11, 5, 12] (by decide +kernel) (by decide +kernel)) (goodIn_sub (fun _ h => List.mem_cons_of_mem _ (List.mem_append_right _ h)) (by decide +kernel))
set_option maxRecDepth 20000 in
theorem gX6_withLeast_X6_checkUpToHighest : GoodIn wsX6_withLeast (va_wsS RX6 206 yX6_checkUpToHighest wsX6_checkUpToHighest) := goodIn_app (goodIn_of _ (by decide +kernel)) ggX6_withLeast_X6_checkUpToHighest
set_option maxRecDepth 20000 in
theorem ggX6_withLeast_X1_leastDividing : GoodIn wsX6_withLeast wsX1_leastDividing := goodIn_r _ [16] (by decide +kernel) (by decide +kernel)
set_option maxRecDepth 20000 in
theorem gX6_withLeast_X1_leastDividing : GoodIn wsX6_withLeast (va_wsS RX6 224 yX1_leastDividing wsX1_leastDividing) := goodIn_app (goodIn_of _ (by decide +kernel)) ggX6_withLeast_X1_leastDividing
set_option maxRecDepth 20000 in
theorem ggX6_withLeast_X0_begin : GoodIn wsX6_withLeast wsX0_begin := goodIn_r _ [21, 22, 23, 24, 20, 25, 26, 27, 28, 29, 92, 93, 94, 95, 96] (by decide +kernel) (by decide +kernel)
set_option maxRecDepth 20000 in
theorem gX6_withLeast_X0_begin : GoodIn wsX6_withLeast (wsV RX6 73 RX0 yX0_begin wsX0_begin) := goodIn_app (goodIn_of _ (by decide +kernel)) ggX6_withLeast_X0_begin
set_option maxRecDepth 20000 in
theorem ggX6_withLeast_X0_tally : GoodIn wsX6_withLeast wsX0_tally := goodIn_r _ [33, 29, 34, 26, 27, 35, 36, 37, 38, 39, 40, 41, 42, 43, 44, 45, 46, 47, 48, 49, 50, 51, 52, 53, 54, 55, 56, 57, 58, 59, 60, 20, 61, 28, 62, 63, 64, 65, 66, 67, 68, 69, 70, 71, 72, 73, 74, 75, 76, 77, 92, 93, 94, 95, 96, 97, 98, 99, 100, 101] (by decide +kernel) (by decide +kernel)
set_option maxRecDepth 20000 in
theorem gX6_withLeast_X0_tally : GoodIn wsX6_withLeast (wsV RX6 119 RX0 yX0_tally wsX0_tally) := goodIn_app (goodIn_of _ (by decide +kernel)) ggX6_withLeast_X0_tally
set_option maxRecDepth 20000 in
theorem ggX6_withLeast_X3_remove : GoodIn wsX6_withLeast wsX3_remove := goodIn_r _ [69, 50, 51, 53, 70, 71, 72, 38, 73, 54, 55, 56, 57, 41, 74, 75, 76, 77, 40, 97, 98, 99, 100, 101] (by decide +kernel) (by decide +kernel)
set_option maxRecDepth 20000 in
theorem gX6_withLeast_X3_remove : GoodIn wsX6_withLeast (wsV RX6 231 RX3 yX3_remove wsX3_remove) := goodIn_app (goodIn_of _ (by decide +kernel)) ggX6_withLeast_X3_remove
set_option maxRecDepth 20000 in
theorem ggX6_withLeast_X3_countAt : GoodIn wsX6_withLeast wsX3_countAt := goodIn_r _ [82, 83, 84, 85, 38, 86, 53, 54, 55, 56, 57, 41, 11, 5, 12, 97, 98, 99, 100, 101] (by decide +kernel) (by decide +kernel)
set_option maxRecDepth 20000 in
theorem gX6_withLeast_X3_countAt : GoodIn wsX6_withLeast (wsV RX6 162 RX3 yX3_countAt wsX3_countAt) := goodIn_app (goodIn_of _ (by decide +kernel)) ggX6_withLeast_X3_countAt
theorem dX6_withLeast_0 : decode cX6_withLeast 0 = .ok (.iload_n 1, 1) := by decide +kernel
theorem dX6_withLeast_1 : decode cX6_withLeast 1 = .ok (.iconst 1, 1) := by decide +kernel
theorem dX6_withLeast_2 : decode cX6_withLeast 2 = .ok (.invokestatic 206, 3) := by decide +kernel
theorem dX6_withLeast_5 : decode cX6_withLeast 5 = .ok (.iload_n 2, 1) := by decide +kernel
theorem dX6_withLeast_6 : decode cX6_withLeast 6 = .ok (.iconst 2, 1) := by decide +kernel
theorem dX6_withLeast_7 : decode cX6_withLeast 7 = .ok (.invokestatic 206, 3) := by decide +kernel
theorem dX6_withLeast_10 : decode cX6_withLeast 10 = .ok (.iload_n 2, 1) := by decide +kernel
theorem dX6_withLeast_11 : decode cX6_withLeast 11 = .ok (.iload_n 1, 1) := by decide +kernel
theorem dX6_withLeast_12 : decode cX6_withLeast 12 = .ok (.if_icmp .gt 11, 3) := by decide +kernel
theorem dX6_withLeast_15 : decode cX6_withLeast 15 = .ok (.iload_n 2, 1) := by decide +kernel
theorem dX6_withLeast_16 : decode cX6_withLeast 16 = .ok (.invokestatic 224, 3) := by decide +kernel
theorem dX6_withLeast_19 : decode cX6_withLeast 19 = .ok (.iload_n 2, 1) := by decide +kernel
theorem dX6_withLeast_20 : decode cX6_withLeast 20 = .ok (.if_icmp .eq 5, 3) := by decide +kernel
theorem dX6_withLeast_23 : decode cX6_withLeast 23 = .ok (.iconst 0, 1) := by decide +kernel
theorem dX6_withLeast_24 : decode cX6_withLeast 24 = .ok (.ireturn, 1) := by decide +kernel
theorem dX6_withLeast_25 : decode cX6_withLeast 25 = .ok (.aload_n 0, 1) := by decide +kernel
theorem dX6_withLeast_26 : decode cX6_withLeast 26 = .ok (.getfield 37, 3) := by decide +kernel
theorem dX6_withLeast_29 : decode cX6_withLeast 29 = .ok (.iload_n 1, 1) := by decide +kernel
theorem dX6_withLeast_30 : decode cX6_withLeast 30 = .ok (.iload_n 2, 1) := by decide +kernel
theorem dX6_withLeast_31 : decode cX6_withLeast 31 = .ok (.idiv, 1) := by decide +kernel
theorem dX6_withLeast_32 : decode cX6_withLeast 32 = .ok (.invokevirtual 73, 3) := by decide +kernel
theorem dX6_withLeast_35 : decode cX6_withLeast 35 = .ok (.aload_n 0, 1) := by decide +kernel
theorem dX6_withLeast_36 : decode cX6_withLeast 36 = .ok (.getfield 37, 3) := by decide +kernel
theorem dX6_withLeast_39 : decode cX6_withLeast 39 = .ok (.invokevirtual 119, 3) := by decide +kernel
theorem dX6_withLeast_42 : decode cX6_withLeast 42 = .ok (.astore_n 3, 1) := by decide +kernel
theorem dX6_withLeast_43 : decode cX6_withLeast 43 = .ok (.getstatic 227, 3) := by decide +kernel
theorem dX6_withLeast_46 : decode cX6_withLeast 46 = .ok (.astore 4, 2) := by decide +kernel
theorem dX6_withLeast_48 : decode cX6_withLeast 48 = .ok (.aload 4, 2) := by decide +kernel
theorem dX6_withLeast_50 : decode cX6_withLeast 50 = .ok (.arraylength, 1) := by decide +kernel
theorem dX6_withLeast_51 : decode cX6_withLeast 51 = .ok (.istore 5, 2) := by decide +kernel
theorem dX6_withLeast_53 : decode cX6_withLeast 53 = .ok (.iconst 0, 1) := by decide +kernel
theorem dX6_withLeast_54 : decode cX6_withLeast 54 = .ok (.istore 6, 2) := by decide +kernel
theorem dX6_withLeast_56 : decode cX6_withLeast 56 = .ok (.iload 6, 2) := by decide +kernel
theorem dX6_withLeast_58 : decode cX6_withLeast 58 = .ok (.iload 5, 2) := by decide +kernel
theorem dX6_withLeast_60 : decode cX6_withLeast 60 = .ok (.if_icmp .ge 28, 3) := by decide +kernel
theorem dX6_withLeast_63 : decode cX6_withLeast 63 = .ok (.aload 4, 2) := by decide +kernel
theorem dX6_withLeast_65 : decode cX6_withLeast 65 = .ok (.iload 6, 2) := by decide +kernel
theorem dX6_withLeast_67 : decode cX6_withLeast 67 = .ok (.iaload, 1) := by decide +kernel
theorem dX6_withLeast_68 : decode cX6_withLeast 68 = .ok (.istore 7, 2) := by decide +kernel
theorem dX6_withLeast_70 : decode cX6_withLeast 70 = .ok (.iload 7, 2) := by decide +kernel
theorem dX6_withLeast_72 : decode cX6_withLeast 72 = .ok (.iload_n 2, 1) := by decide +kernel
theorem dX6_withLeast_73 : decode cX6_withLeast 73 = .ok (.if_icmp .ge 9, 3) := by decide +kernel
theorem dX6_withLeast_76 : decode cX6_withLeast 76 = .ok (.aload_n 3, 1) := by decide +kernel
theorem dX6_withLeast_77 : decode cX6_withLeast 77 = .ok (.iload 7, 2) := by decide +kernel
theorem dX6_withLeast_79 : decode cX6_withLeast 79 = .ok (.invokevirtual 231, 3) := by decide +kernel
theorem dX6_withLeast_82 : decode cX6_withLeast 82 = .ok (.iinc 6 1, 3) := by decide +kernel
theorem dX6_withLeast_85 : decode cX6_withLeast 85 = .ok (.goto (-29), 3) := by decide +kernel
theorem dX6_withLeast_88 : decode cX6_withLeast 88 = .ok (.aload_n 3, 1) := by decide +kernel
theorem dX6_withLeast_89 : decode cX6_withLeast 89 = .ok (.iconst 0, 1) := by decide +kernel
theorem dX6_withLeast_90 : decode cX6_withLeast 90 = .ok (.invokevirtual 162, 3) := by decide +kernel
theorem dX6_withLeast_93 : decode cX6_withLeast 93 = .ok (.ireturn, 1) := by decide +kernel
set_option maxRecDepth 20000 in
theorem ggX6_twoFactors_X6_checkUpToHighest : GoodIn wsX6_twoFactors wsX6_checkUpToHighest := goodIn_ca (goodIn_r _ [6, 7, 8, 9, 10, 11, 5, 12] (by decide +kernel) (by decide +kernel)) (goodIn_sub (fun _ h => List.mem_cons_of_mem _ (List.mem_append_right _ h)) (by decide +kernel))
set_option maxRecDepth 20000 in
theorem gX6_twoFactors_X6_checkUpToHighest : GoodIn wsX6_twoFactors (va_wsS RX6 206 yX6_checkUpToHighest wsX6_checkUpToHighest) := goodIn_app (goodIn_of _ (by decide +kernel)) ggX6_twoFactors_X6_checkUpToHighest
set_option maxRecDepth 20000 in
theorem ggX6_twoFactors_X1_countUpTo : GoodIn wsX6_twoFactors wsX1_countUpTo := goodIn_r _ [17, 18, 19, 20, 16, 21, 22, 23, 24, 25, 26, 27, 28, 29, 30, 11, 5, 12, 31, 32, 33, 34, 35, 36, 37, 43] (by decide +kernel) (by decide +kernel)
set_option maxRecDepth 20000 in
theorem gX6_twoFactors_X1_countUpTo : GoodIn wsX6_twoFactors (wsV RX6 210 RX1 yX1_countUpTo wsX1_countUpTo) := goodIn_app (goodIn_of _ (by decide +kernel)) ggX6_twoFactors_X1_countUpTo
theorem dX6_twoFactors_0 : decode cX6_twoFactors 0 = .ok (.iload_n 1, 1) := by decide +kernel
theorem dX6_twoFactors_1 : decode cX6_twoFactors 1 = .ok (.iconst 0, 1) := by decide +kernel
theorem dX6_twoFactors_2 : decode cX6_twoFactors 2 = .ok (.invokestatic 206, 3) := by decide +kernel
theorem dX6_twoFactors_5 : decode cX6_twoFactors 5 = .ok (.iconst 0, 1) := by decide +kernel
theorem dX6_twoFactors_6 : decode cX6_twoFactors 6 = .ok (.istore_n 2, 1) := by decide +kernel
theorem dX6_twoFactors_7 : decode cX6_twoFactors 7 = .ok (.iconst 0, 1) := by decide +kernel
theorem dX6_twoFactors_8 : decode cX6_twoFactors 8 = .ok (.istore_n 3, 1) := by decide +kernel
theorem dX6_twoFactors_9 : decode cX6_twoFactors 9 = .ok (.iload_n 3, 1) := by decide +kernel
theorem dX6_twoFactors_10 : decode cX6_twoFactors 10 = .ok (.getstatic 227, 3) := by decide +kernel
theorem dX6_twoFactors_13 : decode cX6_twoFactors 13 = .ok (.arraylength, 1) := by decide +kernel
theorem dX6_twoFactors_14 : decode cX6_twoFactors 14 = .ok (.if_icmp .ge 44, 3) := by decide +kernel
theorem dX6_twoFactors_17 : decode cX6_twoFactors 17 = .ok (.getstatic 227, 3) := by decide +kernel
theorem dX6_twoFactors_20 : decode cX6_twoFactors 20 = .ok (.iload_n 3, 1) := by decide +kernel
theorem dX6_twoFactors_21 : decode cX6_twoFactors 21 = .ok (.iaload, 1) := by decide +kernel
theorem dX6_twoFactors_22 : decode cX6_twoFactors 22 = .ok (.istore 4, 2) := by decide +kernel
theorem dX6_twoFactors_24 : decode cX6_twoFactors 24 = .ok (.iload 4, 2) := by decide +kernel
theorem dX6_twoFactors_26 : decode cX6_twoFactors 26 = .ok (.iload 4, 2) := by decide +kernel
theorem dX6_twoFactors_28 : decode cX6_twoFactors 28 = .ok (.imul, 1) := by decide +kernel
theorem dX6_twoFactors_29 : decode cX6_twoFactors 29 = .ok (.iload_n 1, 1) := by decide +kernel
theorem dX6_twoFactors_30 : decode cX6_twoFactors 30 = .ok (.if_icmp .le 6, 3) := by decide +kernel
theorem dX6_twoFactors_33 : decode cX6_twoFactors 33 = .ok (.goto 25, 3) := by decide +kernel
theorem dX6_twoFactors_36 : decode cX6_twoFactors 36 = .ok (.iload_n 2, 1) := by decide +kernel
theorem dX6_twoFactors_37 : decode cX6_twoFactors 37 = .ok (.aload_n 0, 1) := by decide +kernel
theorem dX6_twoFactors_38 : decode cX6_twoFactors 38 = .ok (.getfield 33, 3) := by decide +kernel
theorem dX6_twoFactors_41 : decode cX6_twoFactors 41 = .ok (.iload_n 1, 1) := by decide +kernel
theorem dX6_twoFactors_42 : decode cX6_twoFactors 42 = .ok (.iload 4, 2) := by decide +kernel
theorem dX6_twoFactors_44 : decode cX6_twoFactors 44 = .ok (.idiv, 1) := by decide +kernel
theorem dX6_twoFactors_45 : decode cX6_twoFactors 45 = .ok (.invokevirtual 210, 3) := by decide +kernel
theorem dX6_twoFactors_48 : decode cX6_twoFactors 48 = .ok (.iload_n 3, 1) := by decide +kernel
theorem dX6_twoFactors_49 : decode cX6_twoFactors 49 = .ok (.isub, 1) := by decide +kernel
theorem dX6_twoFactors_50 : decode cX6_twoFactors 50 = .ok (.iadd, 1) := by decide +kernel
theorem dX6_twoFactors_51 : decode cX6_twoFactors 51 = .ok (.istore_n 2, 1) := by decide +kernel
theorem dX6_twoFactors_52 : decode cX6_twoFactors 52 = .ok (.iinc 3 1, 3) := by decide +kernel
theorem dX6_twoFactors_55 : decode cX6_twoFactors 55 = .ok (.goto (-46), 3) := by decide +kernel
theorem dX6_twoFactors_58 : decode cX6_twoFactors 58 = .ok (.iload_n 2, 1) := by decide +kernel
theorem dX6_twoFactors_59 : decode cX6_twoFactors 59 = .ok (.ireturn, 1) := by decide +kernel
set_option maxRecDepth 20000 in
theorem ggX6_runScript_X6_outside : GoodIn wsX6_runScript wsX6_outside := goodIn_r _ [11] (by decide +kernel) (by decide +kernel)
set_option maxRecDepth 20000 in
theorem gX6_runScript_X6_outside : GoodIn wsX6_runScript (va_wsS RX6 40 yX6_outside wsX6_outside) := goodIn_app (goodIn_of _ (by decide +kernel)) ggX6_runScript_X6_outside
set_option maxRecDepth 20000 in
theorem ggX6_runScript_X0_copyOf : GoodIn wsX6_runScript wsX0_copyOf := goodIn_r _ [16, 17, 18, 19, 20, 21, 22, 15, 23, 24, 117, 118, 119, 120, 121] (by decide +kernel) (by decide +kernel)
set_option maxRecDepth 20000 in
theorem gX6_runScript_X0_copyOf : GoodIn wsX6_runScript (wsV RX6 242 RX0 yX0_copyOf wsX0_copyOf) := goodIn_app (goodIn_of _ (by decide +kernel)) ggX6_runScript_X0_copyOf
set_option maxRecDepth 20000 in
theorem ggX6_runScript_X6_obeyCommand : GoodIn wsX6_runScript wsX6_obeyCommand := goodIn_r _ [28, 4, 29, 30, 31, 15, 32, 20, 21, 22, 23, 17, 18, 19, 24, 33, 34, 35, 36, 37, 38, 39, 40, 41, 42, 43, 44, 45, 46, 47, 48, 49, 50, 51, 52, 53, 54, 55, 56, 57, 58, 59, 60, 61, 62, 63, 64, 65, 66, 67, 68, 69, 70, 71, 72, 73, 74, 75, 76, 77, 78, 79, 80, 81, 82, 83, 84, 85, 86, 87, 88, 89, 90, 91, 92, 93, 94, 95, 96, 97, 98, 99, 100, 101, 102, 103, 104, 105, 9, 10, 11, 106, 107, 108, 109, 110, 111, 112, 113, 114, 115, 116, 117, 118, 119, 120, 121, 122, 123, 124, 125, 126] (by decide +kernel) (by decide +kernel)
set_option maxRecDepth 20000 in
theorem gX6_runScript_X6_obeyCommand : GoodIn wsX6_runScript (wsV RX6 248 RX6 yX6_obeyCommand wsX6_obeyCommand) := goodIn_app (goodIn_of _ (by decide +kernel)) ggX6_runScript_X6_obeyCommand
theorem dX6_runScript_0 : decode cX6_runScript 0 = .ok (.iload_n 1, 1) := by decide +kernel
theorem dX6_runScript_1 : decode cX6_runScript 1 = .ok (.iconst 1, 1) := by decide +kernel
theorem dX6_runScript_2 : decode cX6_runScript 2 = .ok (.iconst 3, 1) := by decide +kernel
theorem dX6_runScript_3 : decode cX6_runScript 3 = .ok (.invokestatic 40, 3) := by decide +kernel
theorem dX6_runScript_6 : decode cX6_runScript 6 = .ok (.ifCond .eq 13, 3) := by decide +kernel
theorem dX6_runScript_9 : decode cX6_runScript 9 = .ok (.new 44, 3) := by decide +kernel
theorem dX6_runScript_12 : decode cX6_runScript 12 = .ok (.dup, 1) := by decide +kernel
theorem dX6_runScript_13 : decode cX6_runScript 13 = .ok (.ldc 234, 2) := by decide +kernel
theorem dX6_runScript_15 : decode cX6_runScript 15 = .ok (.invokespecial 48, 3) := by decide +kernel
theorem dX6_runScript_18 : decode cX6_runScript 18 = .ok (.athrow, 1) := by decide +kernel
theorem dX6_runScript_19 : decode cX6_runScript 19 = .ok (.lload_n 2, 1) := by decide +kernel
theorem dX6_runScript_20 : decode cX6_runScript 20 = .ok (.lconst 0, 1) := by decide +kernel
theorem dX6_runScript_21 : decode cX6_runScript 21 = .ok (.lcmp, 1) := by decide +kernel
theorem dX6_runScript_22 : decode cX6_runScript 22 = .ok (.ifCond .lt 13, 3) := by decide +kernel
theorem dX6_runScript_25 : decode cX6_runScript 25 = .ok (.lload_n 2, 1) := by decide +kernel
theorem dX6_runScript_26 : decode cX6_runScript 26 = .ok (.getstatic 236, 3) := by decide +kernel
theorem dX6_runScript_29 : decode cX6_runScript 29 = .ok (.iload_n 1, 1) := by decide +kernel
theorem dX6_runScript_30 : decode cX6_runScript 30 = .ok (.laload, 1) := by decide +kernel
theorem dX6_runScript_31 : decode cX6_runScript 31 = .ok (.lcmp, 1) := by decide +kernel
theorem dX6_runScript_32 : decode cX6_runScript 32 = .ok (.ifCond .lt 13, 3) := by decide +kernel
theorem dX6_runScript_35 : decode cX6_runScript 35 = .ok (.new 44, 3) := by decide +kernel
theorem dX6_runScript_38 : decode cX6_runScript 38 = .ok (.dup, 1) := by decide +kernel
theorem dX6_runScript_39 : decode cX6_runScript 39 = .ok (.ldc 240, 2) := by decide +kernel
theorem dX6_runScript_41 : decode cX6_runScript 41 = .ok (.invokespecial 48, 3) := by decide +kernel
theorem dX6_runScript_44 : decode cX6_runScript 44 = .ok (.athrow, 1) := by decide +kernel
theorem dX6_runScript_45 : decode cX6_runScript 45 = .ok (.aload_n 0, 1) := by decide +kernel
theorem dX6_runScript_46 : decode cX6_runScript 46 = .ok (.getfield 37, 3) := by decide +kernel
theorem dX6_runScript_49 : decode cX6_runScript 49 = .ok (.aload_n 0, 1) := by decide +kernel
theorem dX6_runScript_50 : decode cX6_runScript 50 = .ok (.getfield 19, 3) := by decide +kernel
theorem dX6_runScript_53 : decode cX6_runScript 53 = .ok (.invokevirtual 242, 3) := by decide +kernel
theorem dX6_runScript_56 : decode cX6_runScript 56 = .ok (.iconst 0, 1) := by decide +kernel
theorem dX6_runScript_57 : decode cX6_runScript 57 = .ok (.istore 4, 2) := by decide +kernel
theorem dX6_runScript_59 : decode cX6_runScript 59 = .ok (.iload 4, 2) := by decide +kernel
theorem dX6_runScript_61 : decode cX6_runScript 61 = .ok (.iload_n 1, 1) := by decide +kernel
theorem dX6_runScript_62 : decode cX6_runScript 62 = .ok (.if_icmp .ge 48, 3) := by decide +kernel
theorem dX6_runScript_65 : decode cX6_runScript 65 = .ok (.lload_n 2, 1) := by decide +kernel
theorem dX6_runScript_66 : decode cX6_runScript 66 = .ok (.getstatic 236, 3) := by decide +kernel
theorem dX6_runScript_69 : decode cX6_runScript 69 = .ok (.iload_n 1, 1) := by decide +kernel
theorem dX6_runScript_70 : decode cX6_runScript 70 = .ok (.iconst 1, 1) := by decide +kernel
theorem dX6_runScript_71 : decode cX6_runScript 71 = .ok (.isub, 1) := by decide +kernel
theorem dX6_runScript_72 : decode cX6_runScript 72 = .ok (.iload 4, 2) := by decide +kernel
theorem dX6_runScript_74 : decode cX6_runScript 74 = .ok (.isub, 1) := by decide +kernel
theorem dX6_runScript_75 : decode cX6_runScript 75 = .ok (.laload, 1) := by decide +kernel
theorem dX6_runScript_76 : decode cX6_runScript 76 = .ok (.ldiv, 1) := by decide +kernel
theorem dX6_runScript_77 : decode cX6_runScript 77 = .ok (.ldc2_w 245, 3) := by decide +kernel
theorem dX6_runScript_80 : decode cX6_runScript 80 = .ok (.lrem, 1) := by decide +kernel
theorem dX6_runScript_81 : decode cX6_runScript 81 = .ok (.l2i, 1) := by decide +kernel
theorem dX6_runScript_82 : decode cX6_runScript 82 = .ok (.istore 5, 2) := by decide +kernel
theorem dX6_runScript_84 : decode cX6_runScript 84 = .ok (.aload_n 0, 1) := by decide +kernel
theorem dX6_runScript_85 : decode cX6_runScript 85 = .ok (.iload 5, 2) := by decide +kernel
theorem dX6_runScript_87 : decode cX6_runScript 87 = .ok (.ldc 247, 2) := by decide +kernel
theorem dX6_runScript_89 : decode cX6_runScript 89 = .ok (.idiv, 1) := by decide +kernel
theorem dX6_runScript_90 : decode cX6_runScript 90 = .ok (.iload 5, 2) := by decide +kernel
theorem dX6_runScript_92 : decode cX6_runScript 92 = .ok (.ldc 247, 2) := by decide +kernel
theorem dX6_runScript_94 : decode cX6_runScript 94 = .ok (.irem, 1) := by decide +kernel
theorem dX6_runScript_95 : decode cX6_runScript 95 = .ok (.invokevirtual 248, 3) := by decide +kernel
theorem dX6_runScript_98 : decode cX6_runScript 98 = .ok (.ifCond .ne 6, 3) := by decide +kernel
theorem dX6_runScript_101 : decode cX6_runScript 101 = .ok (.iload 4, 2) := by decide +kernel
theorem dX6_runScript_103 : decode cX6_runScript 103 = .ok (.ireturn, 1) := by decide +kernel
theorem dX6_runScript_104 : decode cX6_runScript 104 = .ok (.iinc 4 1, 3) := by decide +kernel
theorem dX6_runScript_107 : decode cX6_runScript 107 = .ok (.goto (-48), 3) := by decide +kernel
theorem dX6_runScript_110 : decode cX6_runScript 110 = .ok (.iconst (-1), 1) := by decide +kernel
theorem dX6_runScript_111 : decode cX6_runScript 111 = .ok (.ireturn, 1) := by decide +kernel
set_option maxRecDepth 20000 in
theorem ggX6_obeyCommand_X0_begin : GoodIn wsX6_obeyCommand wsX0_begin := goodIn_r _ [6, 7, 8, 9, 5, 10, 11, 12, 13, 14, 102, 103, 104, 105, 106] (by decide +kernel) (by decide +kernel)
set_option maxRecDepth 20000 in
theorem gX6_obeyCommand_X0_begin : GoodIn wsX6_obeyCommand (wsV RX6 73 RX0 yX0_begin wsX0_begin) := goodIn_app (goodIn_of _ (by decide +kernel)) ggX6_obeyCommand_X0_begin
set_option maxRecDepth 20000 in
theorem ggX6_obeyCommand_X0_letCome : GoodIn wsX6_obeyCommand wsX0_letCome := goodIn_r _ [18, 13, 12, 19, 20, 21, 5, 22, 11, 23, 24, 25, 26, 102, 103, 104, 105, 106] (by decide +kernel) (by decide +kernel)
set_option maxRecDepth 20000 in
theorem gX6_obeyCommand_X0_letCome : GoodIn wsX6_obeyCommand (wsV RX6 115 RX0 yX0_letCome wsX0_letCome) := goodIn_app (goodIn_of _ (by decide +kernel)) ggX6_obeyCommand_X0_letCome
set_option maxRecDepth 20000 in
theorem ggX6_obeyCommand_X0_letStrikeUpTo : GoodIn wsX6_obeyCommand wsX0_letStrikeUpTo := goodIn_r _ [30, 19, 20, 21, 5, 22, 12, 11, 23, 24, 25, 26, 31, 16, 17, 18, 13, 102, 103, 104, 105, 106] (by decide +kernel) (by decide +kernel)
set_option maxRecDepth 20000 in
theorem gX6_obeyCommand_X0_letStrikeUpTo : GoodIn wsX6_obeyCommand (wsV RX6 192 RX0 yX0_letStrikeUpTo wsX0_letStrikeUpTo) := goodIn_app (goodIn_of _ (by decide +kernel)) ggX6_obeyCommand_X0_letStrikeUpTo
set_option maxRecDepth 20000 in
theorem ggX6_obeyCommand_X0_countLeft : GoodIn wsX6_obeyCommand wsX0_countLeft := goodIn_r _ [35, 36, 37, 38, 5, 39, 14, 40, 11, 12, 41, 42, 43, 44, 45, 46, 47, 48, 49, 50, 51, 52, 53, 54, 55, 56, 57, 58, 59, 60, 61, 62, 63, 64, 65, 66, 67, 13, 23, 24, 25, 26, 68, 69, 70, 71, 72, 73, 74, 75, 76, 77, 78, 79, 80, 81, 82, 83, 84, 85, 86, 87, 88, 89, 90, 102, 103, 104, 105, 106, 107, 108, 109, 110, 111] (by decide +kernel) (by decide +kernel)
set_option maxRecDepth 20000 in
theorem gX6_obeyCommand_X0_countLeft : GoodIn wsX6_obeyCommand (wsV RX6 141 RX0 yX0_countLeft wsX0_countLeft) := goodIn_app (goodIn_of _ (by decide +kernel)) ggX6_obeyCommand_X0_countLeft
set_option maxRecDepth 20000 in
theorem ggX6_obeyCommand_X0_tally : GoodIn wsX6_obeyCommand wsX0_tally := goodIn_r _ [39, 14, 40, 11, 12, 41, 42, 43, 44, 45, 46, 47, 48, 49, 50, 51, 52, 53, 54, 55, 56, 57, 58, 59, 60, 61, 62, 63, 64, 65, 66, 5, 67, 13, 23, 24, 25, 26, 68, 69, 70, 71, 72, 73, 74, 75, 76, 77, 78, 79, 102, 103, 104, 105, 106, 107, 108, 109, 110, 111] (by decide +kernel) (by decide +kernel)
set_option maxRecDepth 20000 in
theorem gX6_obeyCommand_X0_tally : GoodIn wsX6_obeyCommand (wsV RX6 119 RX0 yX0_tally wsX0_tally) := goodIn_app (goodIn_of _ (by decide +kernel)) ggX6_obeyCommand_X0_tally
set_option maxRecDepth 20000 in
theorem ggX6_obeyCommand_X3_placeOf : GoodIn wsX6_obeyCommand wsX3_placeOf := goodIn_r _ [79, 46, 47, 107, 108, 109, 110, 111] (by decide +kernel) (by decide +kernel)
set_option maxRecDepth 20000 in
theorem gX6_obeyCommand_X3_placeOf : GoodIn wsX6_obeyCommand (wsV RX6 159 RX3 yX3_placeOf wsX3_placeOf) := goodIn_app (goodIn_of _ (by decide +kernel)) ggX6_obeyCommand_X3_placeOf
set_option maxRecDepth 20000 in
theorem ggX6_obeyCommand_X0_wasStruckBy : GoodIn wsX6_obeyCommand wsX0_wasStruckBy := goodIn_r _ [96, 12, 23, 24, 25, 5, 26, 64, 65, 66, 67, 13, 102, 103, 104, 105, 106] (by decide +kernel) (by decide +kernel)
set_option maxRecDepth 20000 in
theorem gX6_obeyCommand_X0_wasStruckBy : GoodIn wsX6_obeyCommand (wsV RX6 252 RX0 yX0_wasStruckBy wsX0_wasStruckBy) := goodIn_app (goodIn_of _ (by decide +kernel)) ggX6_obeyCommand_X0_wasStruckBy
theorem dX6_obeyCommand_0 : decode cX6_obeyCommand 0 = .ok (.iload_n 1, 1) := by decide +kernel
theorem dX6_obeyCommand_1 : decode cX6_obeyCommand 1 = .ok (.tableswitch 207 1 9 #[51, 68, 89, 110, 121, 143, 160, 177, 198], 51) := by decide +kernel
theorem dX6_obeyCommand_52 : decode cX6_obeyCommand 52 = .ok (.iload_n 2, 1) := by decide +kernel
theorem dX6_obeyCommand_53 : decode cX6_obeyCommand 53 = .ok (.iconst 1, 1) := by decide +kernel
theorem dX6_obeyCommand_54 : decode cX6_obeyCommand 54 = .ok (.if_icmp .ge 5, 3) := by decide +kernel
theorem dX6_obeyCommand_57 : decode cX6_obeyCommand 57 = .ok (.iconst 0, 1) := by decide +kernel
theorem dX6_obeyCommand_58 : decode cX6_obeyCommand 58 = .ok (.ireturn, 1) := by decide +kernel
theorem dX6_obeyCommand_59 : decode cX6_obeyCommand 59 = .ok (.aload_n 0, 1) := by decide +kernel
theorem dX6_obeyCommand_60 : decode cX6_obeyCommand 60 = .ok (.getfield 37, 3) := by decide +kernel
theorem dX6_obeyCommand_63 : decode cX6_obeyCommand 63 = .ok (.iload_n 2, 1) := by decide +kernel
theorem dX6_obeyCommand_64 : decode cX6_obeyCommand 64 = .ok (.invokevirtual 73, 3) := by decide +kernel
theorem dX6_obeyCommand_67 : decode cX6_obeyCommand 67 = .ok (.iconst 1, 1) := by decide +kernel
theorem dX6_obeyCommand_68 : decode cX6_obeyCommand 68 = .ok (.ireturn, 1) := by decide +kernel
theorem dX6_obeyCommand_69 : decode cX6_obeyCommand 69 = .ok (.iload_n 2, 1) := by decide +kernel
theorem dX6_obeyCommand_70 : decode cX6_obeyCommand 70 = .ok (.ifCond .ne 18, 3) := by decide +kernel
theorem dX6_obeyCommand_73 : decode cX6_obeyCommand 73 = .ok (.aload_n 0, 1) := by decide +kernel
theorem dX6_obeyCommand_74 : decode cX6_obeyCommand 74 = .ok (.getfield 37, 3) := by decide +kernel
theorem dX6_obeyCommand_77 : decode cX6_obeyCommand 77 = .ok (.iconst 1, 1) := by decide +kernel
theorem dX6_obeyCommand_78 : decode cX6_obeyCommand 78 = .ok (.invokevirtual 115, 3) := by decide +kernel
theorem dX6_obeyCommand_81 : decode cX6_obeyCommand 81 = .ok (.ifCond .eq 7, 3) := by decide +kernel
theorem dX6_obeyCommand_84 : decode cX6_obeyCommand 84 = .ok (.iconst 1, 1) := by decide +kernel
theorem dX6_obeyCommand_85 : decode cX6_obeyCommand 85 = .ok (.goto 4, 3) := by decide +kernel
theorem dX6_obeyCommand_88 : decode cX6_obeyCommand 88 = .ok (.iconst 0, 1) := by decide +kernel
theorem dX6_obeyCommand_89 : decode cX6_obeyCommand 89 = .ok (.ireturn, 1) := by decide +kernel
theorem dX6_obeyCommand_90 : decode cX6_obeyCommand 90 = .ok (.iload_n 2, 1) := by decide +kernel
theorem dX6_obeyCommand_91 : decode cX6_obeyCommand 91 = .ok (.ifCond .ne 18, 3) := by decide +kernel
theorem dX6_obeyCommand_94 : decode cX6_obeyCommand 94 = .ok (.aload_n 0, 1) := by decide +kernel
theorem dX6_obeyCommand_95 : decode cX6_obeyCommand 95 = .ok (.getfield 37, 3) := by decide +kernel
theorem dX6_obeyCommand_98 : decode cX6_obeyCommand 98 = .ok (.iconst 0, 1) := by decide +kernel
theorem dX6_obeyCommand_99 : decode cX6_obeyCommand 99 = .ok (.invokevirtual 115, 3) := by decide +kernel
theorem dX6_obeyCommand_102 : decode cX6_obeyCommand 102 = .ok (.ifCond .eq 7, 3) := by decide +kernel
theorem dX6_obeyCommand_105 : decode cX6_obeyCommand 105 = .ok (.iconst 1, 1) := by decide +kernel
theorem dX6_obeyCommand_106 : decode cX6_obeyCommand 106 = .ok (.goto 4, 3) := by decide +kernel
theorem dX6_obeyCommand_109 : decode cX6_obeyCommand 109 = .ok (.iconst 0, 1) := by decide +kernel
theorem dX6_obeyCommand_110 : decode cX6_obeyCommand 110 = .ok (.ireturn, 1) := by decide +kernel
theorem dX6_obeyCommand_111 : decode cX6_obeyCommand 111 = .ok (.aload_n 0, 1) := by decide +kernel
theorem dX6_obeyCommand_112 : decode cX6_obeyCommand 112 = .ok (.getfield 37, 3) := by decide +kernel
theorem dX6_obeyCommand_115 : decode cX6_obeyCommand 115 = .ok (.iload_n 2, 1) := by decide +kernel
theorem dX6_obeyCommand_116 : decode cX6_obeyCommand 116 = .ok (.invokevirtual 192, 3) := by decide +kernel
theorem dX6_obeyCommand_119 : decode cX6_obeyCommand 119 = .ok (.pop, 1) := by decide +kernel
theorem dX6_obeyCommand_120 : decode cX6_obeyCommand 120 = .ok (.iconst 1, 1) := by decide +kernel
theorem dX6_obeyCommand_121 : decode cX6_obeyCommand 121 = .ok (.ireturn, 1) := by decide +kernel
theorem dX6_obeyCommand_122 : decode cX6_obeyCommand 122 = .ok (.iload_n 2, 1) := by decide +kernel
theorem dX6_obeyCommand_123 : decode cX6_obeyCommand 123 = .ok (.ifCond .eq 5, 3) := by decide +kernel
theorem dX6_obeyCommand_126 : decode cX6_obeyCommand 126 = .ok (.iconst 0, 1) := by decide +kernel
theorem dX6_obeyCommand_127 : decode cX6_obeyCommand 127 = .ok (.ireturn, 1) := by decide +kernel
theorem dX6_obeyCommand_128 : decode cX6_obeyCommand 128 = .ok (.aload_n 0, 1) := by decide +kernel
theorem dX6_obeyCommand_129 : decode cX6_obeyCommand 129 = .ok (.getfield 37, 3) := by decide +kernel
theorem dX6_obeyCommand_132 : decode cX6_obeyCommand 132 = .ok (.aload_n 0, 1) := by decide +kernel
theorem dX6_obeyCommand_133 : decode cX6_obeyCommand 133 = .ok (.getfield 37, 3) := by decide +kernel
theorem dX6_obeyCommand_136 : decode cX6_obeyCommand 136 = .ok (.getfield 103, 3) := by decide +kernel
theorem dX6_obeyCommand_139 : decode cX6_obeyCommand 139 = .ok (.invokevirtual 73, 3) := by decide +kernel
theorem dX6_obeyCommand_142 : decode cX6_obeyCommand 142 = .ok (.iconst 1, 1) := by decide +kernel
theorem dX6_obeyCommand_143 : decode cX6_obeyCommand 143 = .ok (.ireturn, 1) := by decide +kernel
theorem dX6_obeyCommand_144 : decode cX6_obeyCommand 144 = .ok (.aload_n 0, 1) := by decide +kernel
theorem dX6_obeyCommand_145 : decode cX6_obeyCommand 145 = .ok (.getfield 37, 3) := by decide +kernel
theorem dX6_obeyCommand_148 : decode cX6_obeyCommand 148 = .ok (.invokevirtual 141, 3) := by decide +kernel
theorem dX6_obeyCommand_151 : decode cX6_obeyCommand 151 = .ok (.iload_n 2, 1) := by decide +kernel
theorem dX6_obeyCommand_152 : decode cX6_obeyCommand 152 = .ok (.if_icmp .lt 7, 3) := by decide +kernel
theorem dX6_obeyCommand_155 : decode cX6_obeyCommand 155 = .ok (.iconst 1, 1) := by decide +kernel
theorem dX6_obeyCommand_156 : decode cX6_obeyCommand 156 = .ok (.goto 4, 3) := by decide +kernel
theorem dX6_obeyCommand_159 : decode cX6_obeyCommand 159 = .ok (.iconst 0, 1) := by decide +kernel
theorem dX6_obeyCommand_160 : decode cX6_obeyCommand 160 = .ok (.ireturn, 1) := by decide +kernel
theorem dX6_obeyCommand_161 : decode cX6_obeyCommand 161 = .ok (.aload_n 0, 1) := by decide +kernel
theorem dX6_obeyCommand_162 : decode cX6_obeyCommand 162 = .ok (.getfield 37, 3) := by decide +kernel
theorem dX6_obeyCommand_165 : decode cX6_obeyCommand 165 = .ok (.invokevirtual 141, 3) := by decide +kernel
theorem dX6_obeyCommand_168 : decode cX6_obeyCommand 168 = .ok (.iload_n 2, 1) := by decide +kernel
theorem dX6_obeyCommand_169 : decode cX6_obeyCommand 169 = .ok (.if_icmp .gt 7, 3) := by decide +kernel
theorem dX6_obeyCommand_172 : decode cX6_obeyCommand 172 = .ok (.iconst 1, 1) := by decide +kernel
theorem dX6_obeyCommand_173 : decode cX6_obeyCommand 173 = .ok (.goto 4, 3) := by decide +kernel
theorem dX6_obeyCommand_176 : decode cX6_obeyCommand 176 = .ok (.iconst 0, 1) := by decide +kernel
theorem dX6_obeyCommand_177 : decode cX6_obeyCommand 177 = .ok (.ireturn, 1) := by decide +kernel
theorem dX6_obeyCommand_178 : decode cX6_obeyCommand 178 = .ok (.aload_n 0, 1) := by decide +kernel
theorem dX6_obeyCommand_179 : decode cX6_obeyCommand 179 = .ok (.getfield 37, 3) := by decide +kernel
theorem dX6_obeyCommand_182 : decode cX6_obeyCommand 182 = .ok (.invokevirtual 119, 3) := by decide +kernel
theorem dX6_obeyCommand_185 : decode cX6_obeyCommand 185 = .ok (.iload_n 2, 1) := by decide +kernel
theorem dX6_obeyCommand_186 : decode cX6_obeyCommand 186 = .ok (.invokevirtual 159, 3) := by decide +kernel
theorem dX6_obeyCommand_189 : decode cX6_obeyCommand 189 = .ok (.iconst (-1), 1) := by decide +kernel
theorem dX6_obeyCommand_190 : decode cX6_obeyCommand 190 = .ok (.if_icmp .eq 7, 3) := by decide +kernel
theorem dX6_obeyCommand_193 : decode cX6_obeyCommand 193 = .ok (.iconst 1, 1) := by decide +kernel
theorem dX6_obeyCommand_194 : decode cX6_obeyCommand 194 = .ok (.goto 4, 3) := by decide +kernel
theorem dX6_obeyCommand_197 : decode cX6_obeyCommand 197 = .ok (.iconst 0, 1) := by decide +kernel
theorem dX6_obeyCommand_198 : decode cX6_obeyCommand 198 = .ok (.ireturn, 1) := by decide +kernel
theorem dX6_obeyCommand_199 : decode cX6_obeyCommand 199 = .ok (.aload_n 0, 1) := by decide +kernel
theorem dX6_obeyCommand_200 : decode cX6_obeyCommand 200 = .ok (.getfield 37, 3) := by decide +kernel
theorem dX6_obeyCommand_203 : decode cX6_obeyCommand 203 = .ok (.iload_n 2, 1) := by decide +kernel
theorem dX6_obeyCommand_204 : decode cX6_obeyCommand 204 = .ok (.invokevirtual 252, 3) := by decide +kernel
theorem dX6_obeyCommand_207 : decode cX6_obeyCommand 207 = .ok (.ireturn, 1) := by decide +kernel
theorem dX6_obeyCommand_208 : decode cX6_obeyCommand 208 = .ok (.iconst 0, 1) := by decide +kernel
theorem dX6_obeyCommand_209 : decode cX6_obeyCommand 209 = .ok (.ireturn, 1) := by decide +kernel
set_option maxRecDepth 20000 in
theorem ggX6_simulate_X6_outside : GoodIn wsX6_simulate wsX6_outside := goodIn_r _ [10] (by decide +kernel) (by decide +kernel)
set_option maxRecDepth 20000 in
theorem gX6_simulate_X6_outside : GoodIn wsX6_simulate (va_wsS RX6 40 yX6_outside wsX6_outside) := goodIn_app (goodIn_of _ (by decide +kernel)) ggX6_simulate_X6_outside
set_option maxRecDepth 20000 in
theorem ggX6_simulate_X0_copyOf : GoodIn wsX6_simulate wsX0_copyOf := goodIn_r _ [15, 16, 17, 18, 19, 20, 21, 14, 22, 23, 105, 106, 107, 108, 109] (by decide +kernel) (by decide +kernel)
set_option maxRecDepth 20000 in
theorem gX6_simulate_X0_copyOf : GoodIn wsX6_simulate (wsV RX6 242 RX0 yX0_copyOf wsX0_copyOf) := goodIn_app (goodIn_of _ (by decide +kernel)) ggX6_simulate_X0_copyOf
set_option maxRecDepth 20000 in
theorem ggX6_simulate_X6_takeTurn : GoodIn wsX6_simulate wsX6_takeTurn := goodIn_r _ [27, 3, 28, 29, 30, 14, 31, 19, 20, 21, 22, 16, 17, 18, 23, 32, 33, 34, 35, 36, 37, 38, 39, 40, 41, 42, 43, 100, 101, 102, 103, 104, 105, 106, 107, 108, 109] (by decide +kernel) (by decide +kernel)
set_option maxRecDepth 20000 in
theorem gX6_simulate_X6_takeTurn : GoodIn wsX6_simulate (wsV RX6 261 RX6 yX6_takeTurn wsX6_takeTurn) := goodIn_app (goodIn_of _ (by decide +kernel)) ggX6_simulate_X6_takeTurn
set_option maxRecDepth 20000 in
theorem ggX6_simulate_X0_countLeft : GoodIn wsX6_simulate wsX0_countLeft := goodIn_r _ [47, 48, 49, 50, 14, 51, 23, 52, 16, 17, 53, 54, 55, 56, 57, 58, 59, 60, 61, 62, 63, 64, 65, 66, 67, 68, 69, 70, 71, 72, 73, 74, 75, 76, 77, 78, 79, 18, 40, 41, 42, 43, 80, 81, 82, 83, 84, 85, 86, 87, 88, 89, 90, 91, 92, 93, 94, 95, 96, 97, 98, 99, 8, 9, 10, 105, 106, 107, 108, 109, 110, 111, 112, 113, 114] (by decide +kernel) (by decide +kernel)
set_option maxRecDepth 20000 in
theorem gX6_simulate_X0_countLeft : GoodIn wsX6_simulate (wsV RX6 141 RX0 yX0_countLeft wsX0_countLeft) := goodIn_app (goodIn_of _ (by decide +kernel)) ggX6_simulate_X0_countLeft
theorem dX6_simulate_0 : decode cX6_simulate 0 = .ok (.iload_n 3, 1) := by decide +kernel
theorem dX6_simulate_1 : decode cX6_simulate 1 = .ok (.iconst 1, 1) := by decide +kernel
theorem dX6_simulate_2 : decode cX6_simulate 2 = .ok (.bipush 60, 2) := by decide +kernel
theorem dX6_simulate_4 : decode cX6_simulate 4 = .ok (.invokestatic 40, 3) := by decide +kernel
theorem dX6_simulate_7 : decode cX6_simulate 7 = .ok (.ifCond .eq 13, 3) := by decide +kernel
theorem dX6_simulate_10 : decode cX6_simulate 10 = .ok (.new 44, 3) := by decide +kernel
theorem dX6_simulate_13 : decode cX6_simulate 13 = .ok (.dup, 1) := by decide +kernel
theorem dX6_simulate_14 : decode cX6_simulate 14 = .ok (.ldc 255, 2) := by decide +kernel
theorem dX6_simulate_16 : decode cX6_simulate 16 = .ok (.invokespecial 48, 3) := by decide +kernel
theorem dX6_simulate_19 : decode cX6_simulate 19 = .ok (.athrow, 1) := by decide +kernel
theorem dX6_simulate_20 : decode cX6_simulate 20 = .ok (.aload_n 0, 1) := by decide +kernel
theorem dX6_simulate_21 : decode cX6_simulate 21 = .ok (.getfield 37, 3) := by decide +kernel
theorem dX6_simulate_24 : decode cX6_simulate 24 = .ok (.aload_n 0, 1) := by decide +kernel
theorem dX6_simulate_25 : decode cX6_simulate 25 = .ok (.getfield 19, 3) := by decide +kernel
theorem dX6_simulate_28 : decode cX6_simulate 28 = .ok (.invokevirtual 242, 3) := by decide +kernel
theorem dX6_simulate_31 : decode cX6_simulate 31 = .ok (.lload_n 1, 1) := by decide +kernel
theorem dX6_simulate_32 : decode cX6_simulate 32 = .ok (.lstore 4, 2) := by decide +kernel
theorem dX6_simulate_34 : decode cX6_simulate 34 = .ok (.iconst 0, 1) := by decide +kernel
theorem dX6_simulate_35 : decode cX6_simulate 35 = .ok (.istore 6, 2) := by decide +kernel
theorem dX6_simulate_37 : decode cX6_simulate 37 = .ok (.iload 6, 2) := by decide +kernel
theorem dX6_simulate_39 : decode cX6_simulate 39 = .ok (.iload_n 3, 1) := by decide +kernel
theorem dX6_simulate_40 : decode cX6_simulate 40 = .ok (.if_icmp .ge 31, 3) := by decide +kernel
theorem dX6_simulate_43 : decode cX6_simulate 43 = .ok (.lload 4, 2) := by decide +kernel
theorem dX6_simulate_45 : decode cX6_simulate 45 = .ok (.ldc2_w 257, 3) := by decide +kernel
theorem dX6_simulate_48 : decode cX6_simulate 48 = .ok (.lmul, 1) := by decide +kernel
theorem dX6_simulate_49 : decode cX6_simulate 49 = .ok (.ldc2_w 259, 3) := by decide +kernel
theorem dX6_simulate_52 : decode cX6_simulate 52 = .ok (.ladd, 1) := by decide +kernel
theorem dX6_simulate_53 : decode cX6_simulate 53 = .ok (.lstore 4, 2) := by decide +kernel
theorem dX6_simulate_55 : decode cX6_simulate 55 = .ok (.aload_n 0, 1) := by decide +kernel
theorem dX6_simulate_56 : decode cX6_simulate 56 = .ok (.lload 4, 2) := by decide +kernel
theorem dX6_simulate_58 : decode cX6_simulate 58 = .ok (.bipush 33, 2) := by decide +kernel
theorem dX6_simulate_60 : decode cX6_simulate 60 = .ok (.lushr, 1) := by decide +kernel
theorem dX6_simulate_61 : decode cX6_simulate 61 = .ok (.l2i, 1) := by decide +kernel
theorem dX6_simulate_62 : decode cX6_simulate 62 = .ok (.invokevirtual 261, 3) := by decide +kernel
theorem dX6_simulate_65 : decode cX6_simulate 65 = .ok (.iinc 6 1, 3) := by decide +kernel
theorem dX6_simulate_68 : decode cX6_simulate 68 = .ok (.goto (-31), 3) := by decide +kernel
theorem dX6_simulate_71 : decode cX6_simulate 71 = .ok (.aload_n 0, 1) := by decide +kernel
theorem dX6_simulate_72 : decode cX6_simulate 72 = .ok (.getfield 37, 3) := by decide +kernel
theorem dX6_simulate_75 : decode cX6_simulate 75 = .ok (.invokevirtual 141, 3) := by decide +kernel
theorem dX6_simulate_78 : decode cX6_simulate 78 = .ok (.ireturn, 1) := by decide +kernel
set_option maxRecDepth 20000 in
theorem ggX6_takeTurn_X0_begin : GoodIn wsX6_takeTurn wsX0_begin := goodIn_r _ [6, 7, 8, 9, 5, 10, 11, 12, 13, 14, 32, 33, 34, 35, 36] (by decide +kernel) (by decide +kernel)
set_option maxRecDepth 20000 in
theorem gX6_takeTurn_X0_begin : GoodIn wsX6_takeTurn (wsV RX6 73 RX0 yX0_begin wsX0_begin) := goodIn_app (goodIn_of _ (by decide +kernel)) ggX6_takeTurn_X0_begin
set_option maxRecDepth 20000 in
theorem ggX6_takeTurn_X0_letCome : GoodIn wsX6_takeTurn wsX0_letCome := goodIn_r _ [18, 13, 12, 19, 20, 21, 5, 22, 11, 23, 24, 25, 26, 32, 33, 34, 35, 36] (by decide +kernel) (by decide +kernel)
set_option maxRecDepth 20000 in
theorem gX6_takeTurn_X0_letCome : GoodIn wsX6_takeTurn (wsV RX6 115 RX0 yX0_letCome wsX0_letCome) := goodIn_app (goodIn_of _ (by decide +kernel)) ggX6_takeTurn_X0_letCome
theorem dX6_takeTurn_0 : decode cX6_takeTurn 0 = .ok (.iload_n 1, 1) := by decide +kernel
theorem dX6_takeTurn_1 : decode cX6_takeTurn 1 = .ok (.bipush 8, 2) := by decide +kernel
theorem dX6_takeTurn_3 : decode cX6_takeTurn 3 = .ok (.irem, 1) := by decide +kernel
theorem dX6_takeTurn_4 : decode cX6_takeTurn 4 = .ok (.tableswitch 81 0 3 #[32, 52, 69, 69], 32) := by decide +kernel
theorem dX6_takeTurn_36 : decode cX6_takeTurn 36 = .ok (.aload_n 0, 1) := by decide +kernel
theorem dX6_takeTurn_37 : decode cX6_takeTurn 37 = .ok (.getfield 37, 3) := by decide +kernel
theorem dX6_takeTurn_40 : decode cX6_takeTurn 40 = .ok (.iconst 1, 1) := by decide +kernel
theorem dX6_takeTurn_41 : decode cX6_takeTurn 41 = .ok (.iload_n 1, 1) := by decide +kernel
theorem dX6_takeTurn_42 : decode cX6_takeTurn 42 = .ok (.bipush 8, 2) := by decide +kernel
theorem dX6_takeTurn_44 : decode cX6_takeTurn 44 = .ok (.idiv, 1) := by decide +kernel
theorem dX6_takeTurn_45 : decode cX6_takeTurn 45 = .ok (.sipush 3000, 3) := by decide +kernel
theorem dX6_takeTurn_48 : decode cX6_takeTurn 48 = .ok (.irem, 1) := by decide +kernel
theorem dX6_takeTurn_49 : decode cX6_takeTurn 49 = .ok (.iadd, 1) := by decide +kernel
theorem dX6_takeTurn_50 : decode cX6_takeTurn 50 = .ok (.invokevirtual 73, 3) := by decide +kernel
theorem dX6_takeTurn_53 : decode cX6_takeTurn 53 = .ok (.goto 41, 3) := by decide +kernel
theorem dX6_takeTurn_56 : decode cX6_takeTurn 56 = .ok (.aload_n 0, 1) := by decide +kernel
theorem dX6_takeTurn_57 : decode cX6_takeTurn 57 = .ok (.getfield 37, 3) := by decide +kernel
theorem dX6_takeTurn_60 : decode cX6_takeTurn 60 = .ok (.aload_n 0, 1) := by decide +kernel
theorem dX6_takeTurn_61 : decode cX6_takeTurn 61 = .ok (.getfield 37, 3) := by decide +kernel
theorem dX6_takeTurn_64 : decode cX6_takeTurn 64 = .ok (.getfield 103, 3) := by decide +kernel
theorem dX6_takeTurn_67 : decode cX6_takeTurn 67 = .ok (.invokevirtual 73, 3) := by decide +kernel
theorem dX6_takeTurn_70 : decode cX6_takeTurn 70 = .ok (.goto 24, 3) := by decide +kernel
theorem dX6_takeTurn_73 : decode cX6_takeTurn 73 = .ok (.aload_n 0, 1) := by decide +kernel
theorem dX6_takeTurn_74 : decode cX6_takeTurn 74 = .ok (.getfield 37, 3) := by decide +kernel
theorem dX6_takeTurn_77 : decode cX6_takeTurn 77 = .ok (.iconst 0, 1) := by decide +kernel
theorem dX6_takeTurn_78 : decode cX6_takeTurn 78 = .ok (.invokevirtual 115, 3) := by decide +kernel
theorem dX6_takeTurn_81 : decode cX6_takeTurn 81 = .ok (.pop, 1) := by decide +kernel
theorem dX6_takeTurn_82 : decode cX6_takeTurn 82 = .ok (.goto 12, 3) := by decide +kernel
theorem dX6_takeTurn_85 : decode cX6_takeTurn 85 = .ok (.aload_n 0, 1) := by decide +kernel
theorem dX6_takeTurn_86 : decode cX6_takeTurn 86 = .ok (.getfield 37, 3) := by decide +kernel
theorem dX6_takeTurn_89 : decode cX6_takeTurn 89 = .ok (.iconst 1, 1) := by decide +kernel
theorem dX6_takeTurn_90 : decode cX6_takeTurn 90 = .ok (.invokevirtual 115, 3) := by decide +kernel
theorem dX6_takeTurn_93 : decode cX6_takeTurn 93 = .ok (.pop, 1) := by decide +kernel
theorem dX6_takeTurn_94 : decode cX6_takeTurn 94 = .ok (.return_, 1) := by decide +kernel
set_option maxRecDepth 20000 in
theorem ggX6_save_X6_checkSlot : GoodIn wsX6_save wsX6_checkSlot := goodIn_ca (goodIn_r _ [6, 7, 8, 9, 10, 5, 11] (by decide +kernel) (by decide +kernel)) (goodIn_sub (fun _ h => List.mem_cons_of_mem _ (List.mem_append_right _ h)) (by decide +kernel))
set_option maxRecDepth 20000 in
theorem gX6_save_X6_checkSlot : GoodIn wsX6_save (va_wsS RX6 264 yX6_checkSlot wsX6_checkSlot) := goodIn_app (goodIn_of _ (by decide +kernel)) ggX6_save_X6_checkSlot
set_option maxRecDepth 20000 in
theorem ggX6_save_X2_keepInSlot : GoodIn wsX6_save wsX2_keepInSlot := goodIn_r _ [16, 17, 18, 19, 15, 20, 21, 22, 23, 10, 5, 11, 34, 35, 36, 37, 38, 29, 30, 31, 32, 33] (by decide +kernel) (by decide +kernel)
set_option maxRecDepth 20000 in
theorem gX6_save_X2_keepInSlot : GoodIn wsX6_save (wsV RX6 267 RX2 yX2_keepInSlot wsX2_keepInSlot) := goodIn_app (goodIn_of _ (by decide +kernel)) ggX6_save_X2_keepInSlot
theorem dX6_save_0 : decode cX6_save 0 = .ok (.iload_n 1, 1) := by decide +kernel
theorem dX6_save_1 : decode cX6_save 1 = .ok (.invokestatic 264, 3) := by decide +kernel
theorem dX6_save_4 : decode cX6_save 4 = .ok (.aload_n 0, 1) := by decide +kernel
theorem dX6_save_5 : decode cX6_save 5 = .ok (.getfield 26, 3) := by decide +kernel
theorem dX6_save_8 : decode cX6_save 8 = .ok (.iload_n 1, 1) := by decide +kernel
theorem dX6_save_9 : decode cX6_save 9 = .ok (.aload_n 0, 1) := by decide +kernel
theorem dX6_save_10 : decode cX6_save 10 = .ok (.getfield 19, 3) := by decide +kernel
theorem dX6_save_13 : decode cX6_save 13 = .ok (.invokevirtual 267, 3) := by decide +kernel
theorem dX6_save_16 : decode cX6_save 16 = .ok (.aload_n 0, 1) := by decide +kernel
theorem dX6_save_17 : decode cX6_save 17 = .ok (.getfield 19, 3) := by decide +kernel
theorem dX6_save_20 : decode cX6_save 20 = .ok (.getfield 103, 3) := by decide +kernel
theorem dX6_save_23 : decode cX6_save 23 = .ok (.ireturn, 1) := by decide +kernel
set_option maxRecDepth 20000 in
theorem ggX6_restore_X6_checkSlot : GoodIn wsX6_restore wsX6_checkSlot := goodIn_ca (goodIn_r _ [8, 9, 10, 11, 12, 7, 13] (by decide +kernel) (by decide +kernel)) (goodIn_sub (fun _ h => List.mem_cons_of_mem _ (List.mem_append_right _ h)) (by decide +kernel))
set_option maxRecDepth 20000 in
theorem gX6_restore_X6_checkSlot : GoodIn wsX6_restore (va_wsS RX6 264 yX6_checkSlot wsX6_checkSlot) := goodIn_app (goodIn_of _ (by decide +kernel)) ggX6_restore_X6_checkSlot
set_option maxRecDepth 20000 in
theorem ggX6_restore_X2_isKept : GoodIn wsX6_restore wsX2_isKept := goodIn_r _ [18, 19, 12, 7, 13, 44, 45, 46, 47, 48] (by decide +kernel) (by decide +kernel)
set_option maxRecDepth 20000 in
theorem gX6_restore_X2_isKept : GoodIn wsX6_restore (wsV RX6 271 RX2 yX2_isKept wsX2_isKept) := goodIn_app (goodIn_of _ (by decide +kernel)) ggX6_restore_X2_isKept
set_option maxRecDepth 20000 in
theorem ggX6_restore_X2_showSlot : GoodIn wsX6_restore wsX2_showSlot := goodIn_r _ [23, 24, 25, 26, 17, 27, 19, 28, 29, 12, 7, 13, 30, 31, 32, 33, 34, 35, 36, 37, 38, 44, 45, 46, 47, 48, 49, 50, 51, 52, 53] (by decide +kernel) (by decide +kernel)
set_option maxRecDepth 20000 in
theorem gX6_restore_X2_showSlot : GoodIn wsX6_restore (wsV RX6 276 RX2 yX2_showSlot wsX2_showSlot) := goodIn_app (goodIn_of _ (by decide +kernel)) ggX6_restore_X2_showSlot
theorem dX6_restore_0 : decode cX6_restore 0 = .ok (.iload_n 1, 1) := by decide +kernel
theorem dX6_restore_1 : decode cX6_restore 1 = .ok (.invokestatic 264, 3) := by decide +kernel
theorem dX6_restore_4 : decode cX6_restore 4 = .ok (.aload_n 0, 1) := by decide +kernel
theorem dX6_restore_5 : decode cX6_restore 5 = .ok (.getfield 26, 3) := by decide +kernel
theorem dX6_restore_8 : decode cX6_restore 8 = .ok (.iload_n 1, 1) := by decide +kernel
theorem dX6_restore_9 : decode cX6_restore 9 = .ok (.invokevirtual 271, 3) := by decide +kernel
theorem dX6_restore_12 : decode cX6_restore 12 = .ok (.ifCond .ne 14, 3) := by decide +kernel
theorem dX6_restore_15 : decode cX6_restore 15 = .ok (.new 55, 3) := by decide +kernel
theorem dX6_restore_18 : decode cX6_restore 18 = .ok (.dup, 1) := by decide +kernel
theorem dX6_restore_19 : decode cX6_restore 19 = .ok (.ldc_w 274, 3) := by decide +kernel
theorem dX6_restore_22 : decode cX6_restore 22 = .ok (.invokespecial 59, 3) := by decide +kernel
theorem dX6_restore_25 : decode cX6_restore 25 = .ok (.athrow, 1) := by decide +kernel
theorem dX6_restore_26 : decode cX6_restore 26 = .ok (.aload_n 0, 1) := by decide +kernel
theorem dX6_restore_27 : decode cX6_restore 27 = .ok (.getfield 26, 3) := by decide +kernel
theorem dX6_restore_30 : decode cX6_restore 30 = .ok (.iload_n 1, 1) := by decide +kernel
theorem dX6_restore_31 : decode cX6_restore 31 = .ok (.aload_n 0, 1) := by decide +kernel
theorem dX6_restore_32 : decode cX6_restore 32 = .ok (.getfield 19, 3) := by decide +kernel
theorem dX6_restore_35 : decode cX6_restore 35 = .ok (.invokevirtual 276, 3) := by decide +kernel
theorem dX6_restore_38 : decode cX6_restore 38 = .ok (.aload_n 0, 1) := by decide +kernel
theorem dX6_restore_39 : decode cX6_restore 39 = .ok (.getfield 26, 3) := by decide +kernel
theorem dX6_restore_42 : decode cX6_restore 42 = .ok (.iconst 0, 1) := by decide +kernel
theorem dX6_restore_43 : decode cX6_restore 43 = .ok (.putfield 195, 3) := by decide +kernel
theorem dX6_restore_46 : decode cX6_restore 46 = .ok (.aload_n 0, 1) := by decide +kernel
theorem dX6_restore_47 : decode cX6_restore 47 = .ok (.getfield 19, 3) := by decide +kernel
theorem dX6_restore_50 : decode cX6_restore 50 = .ok (.getfield 103, 3) := by decide +kernel
theorem dX6_restore_53 : decode cX6_restore 53 = .ok (.ireturn, 1) := by decide +kernel
theorem dX6_outside_0 : decode cX6_outside 0 = .ok (.iload_n 0, 1) := by decide +kernel
theorem dX6_outside_1 : decode cX6_outside 1 = .ok (.iload_n 1, 1) := by decide +kernel
theorem dX6_outside_2 : decode cX6_outside 2 = .ok (.if_icmp .lt 8, 3) := by decide +kernel
theorem dX6_outside_5 : decode cX6_outside 5 = .ok (.iload_n 0, 1) := by decide +kernel
theorem dX6_outside_6 : decode cX6_outside 6 = .ok (.iload_n 2, 1) := by decide +kernel
theorem dX6_outside_7 : decode cX6_outside 7 = .ok (.if_icmp .le 7, 3) := by decide +kernel
theorem dX6_outside_10 : decode cX6_outside 10 = .ok (.iconst 1, 1) := by decide +kernel
theorem dX6_outside_11 : decode cX6_outside 11 = .ok (.goto 4, 3) := by decide +kernel
theorem dX6_outside_14 : decode cX6_outside 14 = .ok (.iconst 0, 1) := by decide +kernel
theorem dX6_outside_15 : decode cX6_outside 15 = .ok (.ireturn, 1) := by decide +kernel
set_option maxRecDepth 20000 in
theorem ggX6_checkQuotient_X0_tally : GoodIn wsX6_checkQuotient wsX0_tally := goodIn_r _ [8, 9, 10, 11, 12, 13, 14, 15, 16, 17, 18, 19, 20, 21, 22, 23, 24, 25, 26, 27, 28, 29, 30, 31, 32, 33, 34, 35, 36, 37, 38, 7, 39, 40, 41, 42, 43, 44, 45, 46, 47, 48, 49, 50, 51, 52, 53, 54, 55, 56, 67, 68, 69, 70, 71, 62, 63, 64, 65, 66] (by decide +kernel) (by decide +kernel)
set_option maxRecDepth 20000 in
theorem gX6_checkQuotient_X0_tally : GoodIn wsX6_checkQuotient (wsV RX6 119 RX0 yX0_tally wsX0_tally) := goodIn_app (goodIn_of _ (by decide +kernel)) ggX6_checkQuotient_X0_tally
theorem dX6_checkQuotient_0 : decode cX6_checkQuotient 0 = .ok (.iload_n 1, 1) := by decide +kernel
theorem dX6_checkQuotient_1 : decode cX6_checkQuotient 1 = .ok (.ifCond .lt 17, 3) := by decide +kernel
theorem dX6_checkQuotient_4 : decode cX6_checkQuotient 4 = .ok (.iload_n 1, 1) := by decide +kernel
theorem dX6_checkQuotient_5 : decode cX6_checkQuotient 5 = .ok (.aload_n 0, 1) := by decide +kernel
theorem dX6_checkQuotient_6 : decode cX6_checkQuotient 6 = .ok (.getfield 19, 3) := by decide +kernel
theorem dX6_checkQuotient_9 : decode cX6_checkQuotient 9 = .ok (.invokevirtual 119, 3) := by decide +kernel
theorem dX6_checkQuotient_12 : decode cX6_checkQuotient 12 = .ok (.getfield 123, 3) := by decide +kernel
theorem dX6_checkQuotient_15 : decode cX6_checkQuotient 15 = .ok (.if_icmp .lt 14, 3) := by decide +kernel
theorem dX6_checkQuotient_18 : decode cX6_checkQuotient 18 = .ok (.new 279, 3) := by decide +kernel
theorem dX6_checkQuotient_21 : decode cX6_checkQuotient 21 = .ok (.dup, 1) := by decide +kernel
theorem dX6_checkQuotient_22 : decode cX6_checkQuotient 22 = .ok (.ldc_w 281, 3) := by decide +kernel
theorem dX6_checkQuotient_25 : decode cX6_checkQuotient 25 = .ok (.invokespecial 283, 3) := by decide +kernel
theorem dX6_checkQuotient_28 : decode cX6_checkQuotient 28 = .ok (.athrow, 1) := by decide +kernel
theorem dX6_checkQuotient_29 : decode cX6_checkQuotient 29 = .ok (.return_, 1) := by decide +kernel
set_option maxRecDepth 20000 in
theorem ggX6_checkNextPrime_X0_nextPrime : GoodIn wsX6_checkNextPrime wsX0_nextPrime := goodIn_r _ [8, 9, 10, 11, 12, 13, 7, 14, 20, 21, 22, 23, 24] (by decide +kernel) (by decide +kernel)
set_option maxRecDepth 20000 in
theorem gX6_checkNextPrime_X0_nextPrime : GoodIn wsX6_checkNextPrime (wsV RX6 144 RX0 yX0_nextPrime wsX0_nextPrime) := goodIn_app (goodIn_of _ (by decide +kernel)) ggX6_checkNextPrime_X0_nextPrime
theorem dX6_checkNextPrime_0 : decode cX6_checkNextPrime 0 = .ok (.aload_n 0, 1) := by decide +kernel
theorem dX6_checkNextPrime_1 : decode cX6_checkNextPrime 1 = .ok (.getfield 19, 3) := by decide +kernel
theorem dX6_checkNextPrime_4 : decode cX6_checkNextPrime 4 = .ok (.invokevirtual 144, 3) := by decide +kernel
theorem dX6_checkNextPrime_7 : decode cX6_checkNextPrime 7 = .ok (.iconst (-1), 1) := by decide +kernel
theorem dX6_checkNextPrime_8 : decode cX6_checkNextPrime 8 = .ok (.if_icmp .ne 14, 3) := by decide +kernel
theorem dX6_checkNextPrime_11 : decode cX6_checkNextPrime 11 = .ok (.new 55, 3) := by decide +kernel
theorem dX6_checkNextPrime_14 : decode cX6_checkNextPrime 14 = .ok (.dup, 1) := by decide +kernel
theorem dX6_checkNextPrime_15 : decode cX6_checkNextPrime 15 = .ok (.ldc_w 284, 3) := by decide +kernel
theorem dX6_checkNextPrime_18 : decode cX6_checkNextPrime 18 = .ok (.invokespecial 59, 3) := by decide +kernel
theorem dX6_checkNextPrime_21 : decode cX6_checkNextPrime 21 = .ok (.athrow, 1) := by decide +kernel
theorem dX6_checkNextPrime_22 : decode cX6_checkNextPrime 22 = .ok (.return_, 1) := by decide +kernel
set_option maxRecDepth 20000 in
theorem ggX6_checkUpToHighest_X6_outside : GoodIn wsX6_checkUpToHighest wsX6_outside := goodIn_r _ [7] (by decide +kernel) (by decide +kernel)
set_option maxRecDepth 20000 in
theorem gX6_checkUpToHighest_X6_outside : GoodIn wsX6_checkUpToHighest (va_wsS RX6 40 yX6_outside wsX6_outside) := goodIn_app (goodIn_of _ (by decide +kernel)) ggX6_checkUpToHighest_X6_outside
theorem dX6_checkUpToHighest_0 : decode cX6_checkUpToHighest 0 = .ok (.iload_n 0, 1) := by decide +kernel
theorem dX6_checkUpToHighest_1 : decode cX6_checkUpToHighest 1 = .ok (.iload_n 1, 1) := by decide +kernel
theorem dX6_checkUpToHighest_2 : decode cX6_checkUpToHighest 2 = .ok (.ldc 180, 2) := by decide +kernel
theorem dX6_checkUpToHighest_4 : decode cX6_checkUpToHighest 4 = .ok (.invokestatic 40, 3) := by decide +kernel
theorem dX6_checkUpToHighest_7 : decode cX6_checkUpToHighest 7 = .ok (.ifCond .eq 14, 3) := by decide +kernel
theorem dX6_checkUpToHighest_10 : decode cX6_checkUpToHighest 10 = .ok (.new 44, 3) := by decide +kernel
theorem dX6_checkUpToHighest_13 : decode cX6_checkUpToHighest 13 = .ok (.dup, 1) := by decide +kernel
theorem dX6_checkUpToHighest_14 : decode cX6_checkUpToHighest 14 = .ok (.ldc_w 286, 3) := by decide +kernel
theorem dX6_checkUpToHighest_17 : decode cX6_checkUpToHighest 17 = .ok (.invokespecial 48, 3) := by decide +kernel
theorem dX6_checkUpToHighest_20 : decode cX6_checkUpToHighest 20 = .ok (.athrow, 1) := by decide +kernel
theorem dX6_checkUpToHighest_21 : decode cX6_checkUpToHighest 21 = .ok (.return_, 1) := by decide +kernel
set_option maxRecDepth 20000 in
theorem ggX6_checkSlot_X6_outside : GoodIn wsX6_checkSlot wsX6_outside := goodIn_r _ [6] (by decide +kernel) (by decide +kernel)
set_option maxRecDepth 20000 in
theorem gX6_checkSlot_X6_outside : GoodIn wsX6_checkSlot (va_wsS RX6 40 yX6_outside wsX6_outside) := goodIn_app (goodIn_of _ (by decide +kernel)) ggX6_checkSlot_X6_outside
theorem dX6_checkSlot_0 : decode cX6_checkSlot 0 = .ok (.iload_n 0, 1) := by decide +kernel
theorem dX6_checkSlot_1 : decode cX6_checkSlot 1 = .ok (.iconst 0, 1) := by decide +kernel
theorem dX6_checkSlot_2 : decode cX6_checkSlot 2 = .ok (.iconst 1, 1) := by decide +kernel
theorem dX6_checkSlot_3 : decode cX6_checkSlot 3 = .ok (.invokestatic 40, 3) := by decide +kernel
theorem dX6_checkSlot_6 : decode cX6_checkSlot 6 = .ok (.ifCond .eq 14, 3) := by decide +kernel
theorem dX6_checkSlot_9 : decode cX6_checkSlot 9 = .ok (.new 279, 3) := by decide +kernel
theorem dX6_checkSlot_12 : decode cX6_checkSlot 12 = .ok (.dup, 1) := by decide +kernel
theorem dX6_checkSlot_13 : decode cX6_checkSlot 13 = .ok (.ldc_w 288, 3) := by decide +kernel
theorem dX6_checkSlot_16 : decode cX6_checkSlot 16 = .ok (.invokespecial 283, 3) := by decide +kernel
theorem dX6_checkSlot_19 : decode cX6_checkSlot 19 = .ok (.athrow, 1) := by decide +kernel
theorem dX6_checkSlot_20 : decode cX6_checkSlot 20 = .ok (.return_, 1) := by decide +kernel
theorem dX7_init_0 : decode cX7_init 0 = .ok (.aload_n 0, 1) := by decide +kernel
theorem dX7_init_1 : decode cX7_init 1 = .ok (.invokespecial 1, 3) := by decide +kernel
theorem dX7_init_4 : decode cX7_init 4 = .ok (.aload_n 0, 1) := by decide +kernel
theorem dX7_init_5 : decode cX7_init 5 = .ok (.sipush 756, 3) := by decide +kernel
theorem dX7_init_8 : decode cX7_init 8 = .ok (.newarray .int, 2) := by decide +kernel
theorem dX7_init_10 : decode cX7_init 10 = .ok (.putfield 7, 3) := by decide +kernel
theorem dX7_init_13 : decode cX7_init 13 = .ok (.aload_n 0, 1) := by decide +kernel
theorem dX7_init_14 : decode cX7_init 14 = .ok (.iconst 2, 1) := by decide +kernel
theorem dX7_init_15 : decode cX7_init 15 = .ok (.newarray .boolean, 2) := by decide +kernel
theorem dX7_init_17 : decode cX7_init 17 = .ok (.putfield 13, 3) := by decide +kernel
theorem dX7_init_20 : decode cX7_init 20 = .ok (.aload_n 0, 1) := by decide +kernel
theorem dX7_init_21 : decode cX7_init 21 = .ok (.bipush 60, 2) := by decide +kernel
theorem dX7_init_23 : decode cX7_init 23 = .ok (.newarray .char, 2) := by decide +kernel
theorem dX7_init_25 : decode cX7_init 25 = .ok (.putfield 17, 3) := by decide +kernel
theorem dX7_init_28 : decode cX7_init 28 = .ok (.aload_n 0, 1) := by decide +kernel
theorem dX7_init_29 : decode cX7_init 29 = .ok (.ldc 21, 2) := by decide +kernel
theorem dX7_init_31 : decode cX7_init 31 = .ok (.newarray .int, 2) := by decide +kernel
theorem dX7_init_33 : decode cX7_init 33 = .ok (.putfield 22, 3) := by decide +kernel
theorem dX7_init_36 : decode cX7_init 36 = .ok (.aload_n 0, 1) := by decide +kernel
theorem dX7_init_37 : decode cX7_init 37 = .ok (.bipush 40, 2) := by decide +kernel
theorem dX7_init_39 : decode cX7_init 39 = .ok (.newarray .int, 2) := by decide +kernel
theorem dX7_init_41 : decode cX7_init 41 = .ok (.putfield 25, 3) := by decide +kernel
theorem dX7_init_44 : decode cX7_init 44 = .ok (.aload_n 0, 1) := by decide +kernel
theorem dX7_init_45 : decode cX7_init 45 = .ok (.ldc 21, 2) := by decide +kernel
theorem dX7_init_47 : decode cX7_init 47 = .ok (.newarray .boolean, 2) := by decide +kernel
theorem dX7_init_49 : decode cX7_init 49 = .ok (.putfield 28, 3) := by decide +kernel
theorem dX7_init_52 : decode cX7_init 52 = .ok (.aload_n 0, 1) := by decide +kernel
theorem dX7_init_53 : decode cX7_init 53 = .ok (.sipush 700, 3) := by decide +kernel
theorem dX7_init_56 : decode cX7_init 56 = .ok (.newarray .int, 2) := by decide +kernel
theorem dX7_init_58 : decode cX7_init 58 = .ok (.putfield 31, 3) := by decide +kernel
theorem dX7_init_61 : decode cX7_init 61 = .ok (.iconst 2, 1) := by decide +kernel
theorem dX7_init_62 : decode cX7_init 62 = .ok (.istore_n 1, 1) := by decide +kernel
theorem dX7_init_63 : decode cX7_init 63 = .ok (.iload_n 1, 1) := by decide +kernel
theorem dX7_init_64 : decode cX7_init 64 = .ok (.ldc 34, 2) := by decide +kernel
theorem dX7_init_66 : decode cX7_init 66 = .ok (.if_icmp .gt 58, 3) := by decide +kernel
theorem dX7_init_69 : decode cX7_init 69 = .ok (.aload_n 0, 1) := by decide +kernel
theorem dX7_init_70 : decode cX7_init 70 = .ok (.getfield 22, 3) := by decide +kernel
theorem dX7_init_73 : decode cX7_init 73 = .ok (.iload_n 1, 1) := by decide +kernel
theorem dX7_init_74 : decode cX7_init 74 = .ok (.iaload, 1) := by decide +kernel
theorem dX7_init_75 : decode cX7_init 75 = .ok (.ifCond .ne 43, 3) := by decide +kernel
theorem dX7_init_78 : decode cX7_init 78 = .ok (.iload_n 1, 1) := by decide +kernel
theorem dX7_init_79 : decode cX7_init 79 = .ok (.istore_n 2, 1) := by decide +kernel
theorem dX7_init_80 : decode cX7_init 80 = .ok (.iload_n 2, 1) := by decide +kernel
theorem dX7_init_81 : decode cX7_init 81 = .ok (.ldc 34, 2) := by decide +kernel
theorem dX7_init_83 : decode cX7_init 83 = .ok (.if_icmp .gt 35, 3) := by decide +kernel
theorem dX7_init_86 : decode cX7_init 86 = .ok (.aload_n 0, 1) := by decide +kernel
theorem dX7_init_87 : decode cX7_init 87 = .ok (.getfield 22, 3) := by decide +kernel
theorem dX7_init_90 : decode cX7_init 90 = .ok (.iload_n 2, 1) := by decide +kernel
theorem dX7_init_91 : decode cX7_init 91 = .ok (.aload_n 0, 1) := by decide +kernel
theorem dX7_init_92 : decode cX7_init 92 = .ok (.getfield 22, 3) := by decide +kernel
theorem dX7_init_95 : decode cX7_init 95 = .ok (.iload_n 2, 1) := by decide +kernel
theorem dX7_init_96 : decode cX7_init 96 = .ok (.iaload, 1) := by decide +kernel
theorem dX7_init_97 : decode cX7_init 97 = .ok (.ifCond .ne 7, 3) := by decide +kernel
theorem dX7_init_100 : decode cX7_init 100 = .ok (.iload_n 1, 1) := by decide +kernel
theorem dX7_init_101 : decode cX7_init 101 = .ok (.goto 9, 3) := by decide +kernel
theorem dX7_init_104 : decode cX7_init 104 = .ok (.aload_n 0, 1) := by decide +kernel
theorem dX7_init_105 : decode cX7_init 105 = .ok (.getfield 22, 3) := by decide +kernel
theorem dX7_init_108 : decode cX7_init 108 = .ok (.iload_n 2, 1) := by decide +kernel
theorem dX7_init_109 : decode cX7_init 109 = .ok (.iaload, 1) := by decide +kernel
theorem dX7_init_110 : decode cX7_init 110 = .ok (.iastore, 1) := by decide +kernel
theorem dX7_init_111 : decode cX7_init 111 = .ok (.iload_n 2, 1) := by decide +kernel
theorem dX7_init_112 : decode cX7_init 112 = .ok (.iload_n 1, 1) := by decide +kernel
theorem dX7_init_113 : decode cX7_init 113 = .ok (.iadd, 1) := by decide +kernel
theorem dX7_init_114 : decode cX7_init 114 = .ok (.istore_n 2, 1) := by decide +kernel
theorem dX7_init_115 : decode cX7_init 115 = .ok (.goto (-35), 3) := by decide +kernel
theorem dX7_init_118 : decode cX7_init 118 = .ok (.iinc 1 1, 3) := by decide +kernel
theorem dX7_init_121 : decode cX7_init 121 = .ok (.goto (-58), 3) := by decide +kernel
theorem dX7_init_124 : decode cX7_init 124 = .ok (.iconst 0, 1) := by decide +kernel
theorem dX7_init_125 : decode cX7_init 125 = .ok (.istore_n 1, 1) := by decide +kernel
theorem dX7_init_126 : decode cX7_init 126 = .ok (.iconst 2, 1) := by decide +kernel
theorem dX7_init_127 : decode cX7_init 127 = .ok (.istore_n 2, 1) := by decide +kernel
theorem dX7_init_128 : decode cX7_init 128 = .ok (.iload_n 1, 1) := by decide +kernel
theorem dX7_init_129 : decode cX7_init 129 = .ok (.bipush 40, 2) := by decide +kernel
theorem dX7_init_131 : decode cX7_init 131 = .ok (.if_icmp .ge 29, 3) := by decide +kernel
theorem dX7_init_134 : decode cX7_init 134 = .ok (.aload_n 0, 1) := by decide +kernel
theorem dX7_init_135 : decode cX7_init 135 = .ok (.getfield 22, 3) := by decide +kernel
theorem dX7_init_138 : decode cX7_init 138 = .ok (.iload_n 2, 1) := by decide +kernel
theorem dX7_init_139 : decode cX7_init 139 = .ok (.iaload, 1) := by decide +kernel
theorem dX7_init_140 : decode cX7_init 140 = .ok (.iload_n 2, 1) := by decide +kernel
theorem dX7_init_141 : decode cX7_init 141 = .ok (.if_icmp .ne 13, 3) := by decide +kernel
theorem dX7_init_144 : decode cX7_init 144 = .ok (.aload_n 0, 1) := by decide +kernel
theorem dX7_init_145 : decode cX7_init 145 = .ok (.getfield 25, 3) := by decide +kernel
theorem dX7_init_148 : decode cX7_init 148 = .ok (.iload_n 1, 1) := by decide +kernel
theorem dX7_init_149 : decode cX7_init 149 = .ok (.iload_n 2, 1) := by decide +kernel
theorem dX7_init_150 : decode cX7_init 150 = .ok (.iastore, 1) := by decide +kernel
theorem dX7_init_151 : decode cX7_init 151 = .ok (.iinc 1 1, 3) := by decide +kernel
theorem dX7_init_154 : decode cX7_init 154 = .ok (.iinc 2 1, 3) := by decide +kernel
theorem dX7_init_157 : decode cX7_init 157 = .ok (.goto (-29), 3) := by decide +kernel
theorem dX7_init_160 : decode cX7_init 160 = .ok (.aload_n 0, 1) := by decide +kernel
theorem dX7_init_161 : decode cX7_init 161 = .ok (.getfield 7, 3) := by decide +kernel
theorem dX7_init_164 : decode cX7_init 164 = .ok (.iconst 0, 1) := by decide +kernel
theorem dX7_init_165 : decode cX7_init 165 = .ok (.bipush 100, 2) := by decide +kernel
theorem dX7_init_167 : decode cX7_init 167 = .ok (.iastore, 1) := by decide +kernel
theorem dX7_init_168 : decode cX7_init 168 = .ok (.return_, 1) := by decide +kernel
theorem dX7_thrown_0 : decode cX7_thrown 0 = .ok (.aload_n 0, 1) := by decide +kernel
theorem dX7_thrown_1 : decode cX7_thrown 1 = .ok (.getfield 35, 3) := by decide +kernel
theorem dX7_thrown_4 : decode cX7_thrown 4 = .ok (.ireturn, 1) := by decide +kernel
theorem dX7_in_0 : decode cX7_in 0 = .ok (.iload_n 0, 1) := by decide +kernel
theorem dX7_in_1 : decode cX7_in 1 = .ok (.iload_n 1, 1) := by decide +kernel
theorem dX7_in_2 : decode cX7_in 2 = .ok (.if_icmp .lt 12, 3) := by decide +kernel
theorem dX7_in_5 : decode cX7_in 5 = .ok (.iload_n 0, 1) := by decide +kernel
theorem dX7_in_6 : decode cX7_in 6 = .ok (.iload_n 2, 1) := by decide +kernel
theorem dX7_in_7 : decode cX7_in 7 = .ok (.if_icmp .gt 7, 3) := by decide +kernel
theorem dX7_in_10 : decode cX7_in 10 = .ok (.iconst 1, 1) := by decide +kernel
theorem dX7_in_11 : decode cX7_in 11 = .ok (.goto 4, 3) := by decide +kernel
theorem dX7_in_14 : decode cX7_in 14 = .ok (.iconst 0, 1) := by decide +kernel
theorem dX7_in_15 : decode cX7_in 15 = .ok (.ireturn, 1) := by decide +kernel
theorem dX7_goes_0 : decode cX7_goes 0 = .ok (.aload_n 0, 1) := by decide +kernel
theorem dX7_goes_1 : decode cX7_goes 1 = .ok (.iload_n 1, 1) := by decide +kernel
theorem dX7_goes_2 : decode cX7_goes 2 = .ok (.ifCond .ne 7, 3) := by decide +kernel
theorem dX7_goes_5 : decode cX7_goes 5 = .ok (.iconst 1, 1) := by decide +kernel
theorem dX7_goes_6 : decode cX7_goes 6 = .ok (.goto 12, 3) := by decide +kernel
theorem dX7_goes_9 : decode cX7_goes 9 = .ok (.iload_n 2, 1) := by decide +kernel
theorem dX7_goes_10 : decode cX7_goes 10 = .ok (.ifCond .ne 7, 3) := by decide +kernel
theorem dX7_goes_13 : decode cX7_goes 13 = .ok (.iconst 2, 1) := by decide +kernel
theorem dX7_goes_14 : decode cX7_goes 14 = .ok (.goto 4, 3) := by decide +kernel
theorem dX7_goes_17 : decode cX7_goes 17 = .ok (.iconst 0, 1) := by decide +kernel
theorem dX7_goes_18 : decode cX7_goes 18 = .ok (.putfield 35, 3) := by decide +kernel
theorem dX7_goes_21 : decode cX7_goes 21 = .ok (.aload_n 0, 1) := by decide +kernel
theorem dX7_goes_22 : decode cX7_goes 22 = .ok (.getfield 35, 3) := by decide +kernel
theorem dX7_goes_25 : decode cX7_goes 25 = .ok (.ifCond .ne 7, 3) := by decide +kernel
theorem dX7_goes_28 : decode cX7_goes 28 = .ok (.iconst 1, 1) := by decide +kernel
theorem dX7_goes_29 : decode cX7_goes 29 = .ok (.goto 4, 3) := by decide +kernel
theorem dX7_goes_32 : decode cX7_goes 32 = .ok (.iconst 0, 1) := by decide +kernel
theorem dX7_goes_33 : decode cX7_goes 33 = .ok (.ireturn, 1) := by decide +kernel
theorem dX7_copies_0 : decode cX7_copies 0 = .ok (.iconst 0, 1) := by decide +kernel
theorem dX7_copies_1 : decode cX7_copies 1 = .ok (.istore_n 3, 1) := by decide +kernel
theorem dX7_copies_2 : decode cX7_copies 2 = .ok (.iload_n 3, 1) := by decide +kernel
theorem dX7_copies_3 : decode cX7_copies 3 = .ok (.bipush 42, 2) := by decide +kernel
theorem dX7_copies_5 : decode cX7_copies 5 = .ok (.if_icmp .ge 31, 3) := by decide +kernel
theorem dX7_copies_8 : decode cX7_copies 8 = .ok (.aload_n 0, 1) := by decide +kernel
theorem dX7_copies_9 : decode cX7_copies 9 = .ok (.getfield 7, 3) := by decide +kernel
theorem dX7_copies_12 : decode cX7_copies 12 = .ok (.bipush 42, 2) := by decide +kernel
theorem dX7_copies_14 : decode cX7_copies 14 = .ok (.iload_n 2, 1) := by decide +kernel
theorem dX7_copies_15 : decode cX7_copies 15 = .ok (.imul, 1) := by decide +kernel
theorem dX7_copies_16 : decode cX7_copies 16 = .ok (.iload_n 3, 1) := by decide +kernel
theorem dX7_copies_17 : decode cX7_copies 17 = .ok (.iadd, 1) := by decide +kernel
theorem dX7_copies_18 : decode cX7_copies 18 = .ok (.aload_n 0, 1) := by decide +kernel
theorem dX7_copies_19 : decode cX7_copies 19 = .ok (.getfield 7, 3) := by decide +kernel
theorem dX7_copies_22 : decode cX7_copies 22 = .ok (.bipush 42, 2) := by decide +kernel
theorem dX7_copies_24 : decode cX7_copies 24 = .ok (.iload_n 1, 1) := by decide +kernel
theorem dX7_copies_25 : decode cX7_copies 25 = .ok (.imul, 1) := by decide +kernel
theorem dX7_copies_26 : decode cX7_copies 26 = .ok (.iload_n 3, 1) := by decide +kernel
theorem dX7_copies_27 : decode cX7_copies 27 = .ok (.iadd, 1) := by decide +kernel
theorem dX7_copies_28 : decode cX7_copies 28 = .ok (.iaload, 1) := by decide +kernel
theorem dX7_copies_29 : decode cX7_copies 29 = .ok (.iastore, 1) := by decide +kernel
theorem dX7_copies_30 : decode cX7_copies 30 = .ok (.iinc 3 1, 3) := by decide +kernel
theorem dX7_copies_33 : decode cX7_copies 33 = .ok (.goto (-31), 3) := by decide +kernel
theorem dX7_copies_36 : decode cX7_copies 36 = .ok (.return_, 1) := by decide +kernel
set_option maxRecDepth 20000 in
theorem ggX7_remembers_X7_copies : GoodIn wsX7_remembers wsX7_copies := goodIn_r _ [6, 7, 8, 9, 10, 11, 12, 13, 14, 15, 16, 17, 18, 19] (by decide +kernel) (by decide +kernel)
set_option maxRecDepth 20000 in
theorem gX7_remembers_X7_copies : GoodIn wsX7_remembers (wsV RX7 42 RX7 yX7_copies wsX7_copies) := goodIn_app (goodIn_of _ (by decide +kernel)) ggX7_remembers_X7_copies
theorem dX7_remembers_0 : decode cX7_remembers 0 = .ok (.aload_n 0, 1) := by decide +kernel
theorem dX7_remembers_1 : decode cX7_remembers 1 = .ok (.getfield 39, 3) := by decide +kernel
theorem dX7_remembers_4 : decode cX7_remembers 4 = .ok (.bipush 14, 2) := by decide +kernel
theorem dX7_remembers_6 : decode cX7_remembers 6 = .ok (.if_icmp .ne 35, 3) := by decide +kernel
theorem dX7_remembers_9 : decode cX7_remembers 9 = .ok (.iconst 1, 1) := by decide +kernel
theorem dX7_remembers_10 : decode cX7_remembers 10 = .ok (.istore_n 1, 1) := by decide +kernel
theorem dX7_remembers_11 : decode cX7_remembers 11 = .ok (.iload_n 1, 1) := by decide +kernel
theorem dX7_remembers_12 : decode cX7_remembers 12 = .ok (.bipush 14, 2) := by decide +kernel
theorem dX7_remembers_14 : decode cX7_remembers 14 = .ok (.if_icmp .ge 17, 3) := by decide +kernel
theorem dX7_remembers_17 : decode cX7_remembers 17 = .ok (.aload_n 0, 1) := by decide +kernel
theorem dX7_remembers_18 : decode cX7_remembers 18 = .ok (.iload_n 1, 1) := by decide +kernel
theorem dX7_remembers_19 : decode cX7_remembers 19 = .ok (.iconst 1, 1) := by decide +kernel
theorem dX7_remembers_20 : decode cX7_remembers 20 = .ok (.iadd, 1) := by decide +kernel
theorem dX7_remembers_21 : decode cX7_remembers 21 = .ok (.iload_n 1, 1) := by decide +kernel
theorem dX7_remembers_22 : decode cX7_remembers 22 = .ok (.invokevirtual 42, 3) := by decide +kernel
theorem dX7_remembers_25 : decode cX7_remembers 25 = .ok (.iinc 1 1, 3) := by decide +kernel
theorem dX7_remembers_28 : decode cX7_remembers 28 = .ok (.goto (-17), 3) := by decide +kernel
theorem dX7_remembers_31 : decode cX7_remembers 31 = .ok (.aload_n 0, 1) := by decide +kernel
theorem dX7_remembers_32 : decode cX7_remembers 32 = .ok (.dup, 1) := by decide +kernel
theorem dX7_remembers_33 : decode cX7_remembers 33 = .ok (.getfield 39, 3) := by decide +kernel
theorem dX7_remembers_36 : decode cX7_remembers 36 = .ok (.iconst 1, 1) := by decide +kernel
theorem dX7_remembers_37 : decode cX7_remembers 37 = .ok (.isub, 1) := by decide +kernel
theorem dX7_remembers_38 : decode cX7_remembers 38 = .ok (.putfield 39, 3) := by decide +kernel
theorem dX7_remembers_41 : decode cX7_remembers 41 = .ok (.aload_n 0, 1) := by decide +kernel
theorem dX7_remembers_42 : decode cX7_remembers 42 = .ok (.dup, 1) := by decide +kernel
theorem dX7_remembers_43 : decode cX7_remembers 43 = .ok (.getfield 39, 3) := by decide +kernel
theorem dX7_remembers_46 : decode cX7_remembers 46 = .ok (.iconst 1, 1) := by decide +kernel
theorem dX7_remembers_47 : decode cX7_remembers 47 = .ok (.iadd, 1) := by decide +kernel
theorem dX7_remembers_48 : decode cX7_remembers 48 = .ok (.putfield 39, 3) := by decide +kernel
theorem dX7_remembers_51 : decode cX7_remembers 51 = .ok (.aload_n 0, 1) := by decide +kernel
theorem dX7_remembers_52 : decode cX7_remembers 52 = .ok (.iconst 0, 1) := by decide +kernel
theorem dX7_remembers_53 : decode cX7_remembers 53 = .ok (.aload_n 0, 1) := by decide +kernel
theorem dX7_remembers_54 : decode cX7_remembers 54 = .ok (.getfield 39, 3) := by decide +kernel
theorem dX7_remembers_57 : decode cX7_remembers 57 = .ok (.invokevirtual 42, 3) := by decide +kernel
theorem dX7_remembers_60 : decode cX7_remembers 60 = .ok (.return_, 1) := by decide +kernel
theorem dX7_next_0 : decode cX7_next 0 = .ok (.aload_n 0, 1) := by decide +kernel
theorem dX7_next_1 : decode cX7_next 1 = .ok (.getfield 7, 3) := by decide +kernel
theorem dX7_next_4 : decode cX7_next 4 = .ok (.bipush 42, 2) := by decide +kernel
theorem dX7_next_6 : decode cX7_next 6 = .ok (.iload_n 1, 1) := by decide +kernel
theorem dX7_next_7 : decode cX7_next 7 = .ok (.imul, 1) := by decide +kernel
theorem dX7_next_8 : decode cX7_next 8 = .ok (.iconst 1, 1) := by decide +kernel
theorem dX7_next_9 : decode cX7_next 9 = .ok (.iadd, 1) := by decide +kernel
theorem dX7_next_10 : decode cX7_next 10 = .ok (.iaload, 1) := by decide +kernel
theorem dX7_next_11 : decode cX7_next 11 = .ok (.istore_n 2, 1) := by decide +kernel
theorem dX7_next_12 : decode cX7_next 12 = .ok (.iload_n 2, 1) := by decide +kernel
theorem dX7_next_13 : decode cX7_next 13 = .ok (.bipush 40, 2) := by decide +kernel
theorem dX7_next_15 : decode cX7_next 15 = .ok (.if_icmp .ge 30, 3) := by decide +kernel
theorem dX7_next_18 : decode cX7_next 18 = .ok (.aload_n 0, 1) := by decide +kernel
theorem dX7_next_19 : decode cX7_next 19 = .ok (.getfield 25, 3) := by decide +kernel
theorem dX7_next_22 : decode cX7_next 22 = .ok (.iload_n 2, 1) := by decide +kernel
theorem dX7_next_23 : decode cX7_next 23 = .ok (.iaload, 1) := by decide +kernel
theorem dX7_next_24 : decode cX7_next 24 = .ok (.aload_n 0, 1) := by decide +kernel
theorem dX7_next_25 : decode cX7_next 25 = .ok (.getfield 7, 3) := by decide +kernel
theorem dX7_next_28 : decode cX7_next 28 = .ok (.bipush 42, 2) := by decide +kernel
theorem dX7_next_30 : decode cX7_next 30 = .ok (.iload_n 1, 1) := by decide +kernel
theorem dX7_next_31 : decode cX7_next 31 = .ok (.imul, 1) := by decide +kernel
theorem dX7_next_32 : decode cX7_next 32 = .ok (.iaload, 1) := by decide +kernel
theorem dX7_next_33 : decode cX7_next 33 = .ok (.if_icmp .gt 12, 3) := by decide +kernel
theorem dX7_next_36 : decode cX7_next 36 = .ok (.aload_n 0, 1) := by decide +kernel
