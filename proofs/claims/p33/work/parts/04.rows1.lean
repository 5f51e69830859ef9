theorem dL_wouldStrike_1 : decode cL_wouldStrike 1 = .ok (.iload_n 1, 1) := by decide +kernel
theorem dL_wouldStrike_2 : decode cL_wouldStrike 2 = .ok (.invokevirtual 52, 3) := by decide +kernel
theorem dL_wouldStrike_5 : decode cL_wouldStrike 5 = .ok (.ireturn, 1) := by decide +kernel
theorem dL_wouldStrike_6 : decode cL_wouldStrike 6 = .ok (.astore_n 2, 1) := by decide +kernel
theorem dL_wouldStrike_7 : decode cL_wouldStrike 7 = .ok (.ldc 17, 2) := by decide +kernel
theorem dL_wouldStrike_9 : decode cL_wouldStrike 9 = .ok (.ireturn, 1) := by decide +kernel
set_option maxRecDepth 20000 in
theorem ggL_sumLeft_X6_sumLeft : GoodIn wsL_sumLeft wsX6_sumLeft := goodIn_ca (goodIn_r _ [7, 8, 9, 10, 11, 6, 12, 13, 14, 15, 16, 17, 18, 19, 20, 21, 22, 23, 24, 25, 26, 27, 28, 29, 30, 31, 32, 33, 34, 35, 36, 37, 38, 39, 40, 41, 42, 43, 44, 45, 46, 47, 48, 49, 50, 51, 52, 53, 54, 55, 56, 57, 58, 59, 60, 61, 62, 63, 64, 65, 66, 67, 68, 69, 70, 71, 72, 73, 74, 75, 76, 77, 78, 79, 80, 81, 82, 83, 84, 85, 86] (by decide +kernel) (by decide +kernel)) (goodIn_sub (fun _ h => List.mem_cons_of_mem _ (List.mem_append_right _ h)) (by decide +kernel))
set_option maxRecDepth 20000 in
theorem gL_sumLeft_X6_sumLeft : GoodIn wsL_sumLeft (wsV RL 55 RX6 yX6_sumLeft wsX6_sumLeft) := goodIn_app (goodIn_of _ (by decide +kernel)) ggL_sumLeft_X6_sumLeft
theorem dL_sumLeft_0 : decode cL_sumLeft 0 = .ok (.aload_n 0, 1) := by decide +kernel
theorem dL_sumLeft_1 : decode cL_sumLeft 1 = .ok (.iload_n 1, 1) := by decide +kernel
theorem dL_sumLeft_2 : decode cL_sumLeft 2 = .ok (.invokevirtual 55, 3) := by decide +kernel
theorem dL_sumLeft_5 : decode cL_sumLeft 5 = .ok (.lreturn, 1) := by decide +kernel
theorem dL_sumLeft_6 : decode cL_sumLeft 6 = .ok (.astore_n 2, 1) := by decide +kernel
theorem dL_sumLeft_7 : decode cL_sumLeft 7 = .ok (.ldc2_w 59, 3) := by decide +kernel
theorem dL_sumLeft_10 : decode cL_sumLeft 10 = .ok (.lreturn, 1) := by decide +kernel
set_option maxRecDepth 20000 in
theorem ggL_hangs_L_about : GoodIn wsL_hangs wsL_about := goodIn_ca (goodIn_r _ [5, 6, 1, 7, 8, 9, 10, 11, 12, 13, 14, 15, 16, 17, 18, 19, 20, 21, 22, 23, 24, 25, 26, 27, 28, 29, 30, 31, 32, 33, 34, 35, 36, 37, 38, 39, 40, 41, 42, 43, 44, 45, 46, 47, 48, 49, 50, 51, 52, 53, 54, 55, 56, 57, 58, 59, 60, 61, 62, 63, 64, 65, 66, 67, 68, 69, 70, 71, 72, 73, 74, 75, 76, 77, 78, 79, 80, 81, 82, 83, 84, 85, 86, 87, 88, 89, 90, 91, 92, 93, 94, 165, 166, 167, 168, 169, 170, 171, 172, 173, 174, 175, 176, 177, 178, 179] (by decide +kernel) (by decide +kernel)) (goodIn_sub (fun _ h => List.mem_cons_of_mem _ (List.mem_append_left _ (List.mem_append_right _ h))) (by decide +kernel))
set_option maxRecDepth 20000 in
theorem gL_hangs_L_about : GoodIn wsL_hangs (va_wsS RL 61 yL_about wsL_about) := goodIn_app (goodIn_of _ (by decide +kernel)) ggL_hangs_L_about
set_option maxRecDepth 20000 in
theorem ggL_hangs_L_quotient : GoodIn wsL_hangs wsL_quotient := goodIn_ca (goodIn_r _ [97, 98, 1, 99, 100, 101, 10, 102, 14, 103, 104, 105, 106, 107, 108, 15, 16, 17, 18, 19, 20, 21, 22, 23, 24, 25, 26, 27, 28, 29, 30, 31, 32, 33, 34, 35, 36, 37, 38, 39, 40, 41, 42, 43, 44, 45, 46, 47, 48, 49, 50, 51, 52, 53, 54, 55, 56, 57, 58, 59, 60, 61, 62, 63, 64, 65, 66, 67, 109, 165, 166, 167, 168, 169, 175, 176, 177, 178, 179, 170, 171, 172, 173, 174] (by decide +kernel) (by decide +kernel)) (goodIn_sub (fun _ h => List.mem_cons_of_mem _ (List.mem_append_right _ h)) (by decide +kernel))
set_option maxRecDepth 20000 in
theorem gL_hangs_L_quotient : GoodIn wsL_hangs (va_wsS RL 66 yL_quotient wsL_quotient) := goodIn_app (goodIn_of _ (by decide +kernel)) ggL_hangs_L_quotient
set_option maxRecDepth 20000 in
theorem ggL_hangs_L_left : GoodIn wsL_hangs wsL_left := goodIn_ca (goodIn_r _ [112, 98, 1, 113, 114, 115, 10, 116, 14, 103, 104, 105, 106, 107, 108, 15, 16, 17, 18, 19, 20, 21, 22, 23, 24, 25, 26, 27, 28, 29, 30, 31, 32, 33, 34, 35, 36, 37, 38, 39, 40, 41, 42, 43, 44, 45, 46, 47, 48, 49, 50, 51, 52, 53, 54, 55, 56, 57, 58, 59, 60, 61, 62, 63, 64, 65, 66, 67, 117, 81, 82, 83, 84, 85, 86, 87, 88, 89, 165, 166, 167, 168, 169, 175, 176, 177, 178, 179, 170, 171, 172, 173, 174] (by decide +kernel) (by decide +kernel)) (goodIn_sub (fun _ h => List.mem_cons_of_mem _ (List.mem_append_right _ h)) (by decide +kernel))
set_option maxRecDepth 20000 in
theorem gL_hangs_L_left : GoodIn wsL_hangs (va_wsS RL 68 yL_left wsL_left) := goodIn_app (goodIn_of _ (by decide +kernel)) ggL_hangs_L_left
set_option maxRecDepth 20000 in
theorem ggL_hangs_L_sumLeft : GoodIn wsL_hangs wsL_sumLeft := goodIn_ca (goodIn_r _ [120, 98, 121, 122, 123, 124, 10, 125, 14, 103, 104, 105, 106, 107, 108, 15, 16, 17, 18, 19, 20, 21, 22, 23, 24, 25, 26, 27, 28, 29, 30, 31, 32, 33, 34, 35, 36, 37, 38, 39, 40, 41, 42, 43, 44, 45, 46, 47, 48, 49, 50, 51, 52, 53, 54, 55, 56, 57, 58, 59, 60, 61, 62, 63, 64, 65, 66, 67, 126, 127, 128, 129, 165, 166, 167, 168, 169, 175, 176, 177, 178, 179, 170, 171, 172, 173, 174] (by decide +kernel) (by decide +kernel)) (goodIn_sub (fun _ h => List.mem_cons_of_mem _ (List.mem_append_right _ h)) (by decide +kernel))
set_option maxRecDepth 20000 in
theorem gL_hangs_L_sumLeft : GoodIn wsL_hangs (va_wsS RL 70 yL_sumLeft wsL_sumLeft) := goodIn_app (goodIn_of _ (by decide +kernel)) ggL_hangs_L_sumLeft
set_option maxRecDepth 20000 in
theorem ggL_hangs_X6_quotientOf : GoodIn wsL_hangs wsX6_quotientOf := goodIn_r _ [133, 14, 15, 16, 17, 18, 19, 20, 21, 22, 23, 24, 25, 26, 27, 28, 29, 30, 31, 32, 33, 34, 35, 36, 37, 38, 39, 40, 41, 42, 43, 44, 45, 46, 47, 48, 49, 50, 51, 52, 53, 54, 55, 56, 57, 58, 59, 60, 61, 62, 63, 64, 65, 66, 67, 134, 165, 166, 167, 168, 169, 170, 171, 172, 173, 174, 175, 176, 177, 178, 179] (by decide +kernel) (by decide +kernel)
set_option maxRecDepth 20000 in
theorem gL_hangs_X6_quotientOf : GoodIn wsL_hangs (wsV RL 73 RX6 yX6_quotientOf wsX6_quotientOf) := goodIn_app (goodIn_of _ (by decide +kernel)) ggL_hangs_X6_quotientOf
set_option maxRecDepth 20000 in
theorem ggL_hangs_L_restLeft : GoodIn wsL_hangs wsL_restLeft := goodIn_ca (goodIn_ca (goodIn_r _ [137, 98, 6, 1, 138, 139, 140, 141, 10, 142, 12, 13, 14, 103, 104, 105, 106, 107, 108, 15, 16, 17, 18, 19, 20, 21, 22, 23, 24, 25, 26, 27, 28, 29, 30, 31, 32, 33, 34, 35, 36, 37, 38, 39, 40, 41, 42, 43, 44, 45, 46, 47, 48, 49, 50, 51, 52, 53, 54, 55, 56, 57, 58, 59, 60, 61, 62, 63, 64, 65, 66, 67, 143, 88, 89, 144, 85, 86, 87, 165, 166, 167, 168, 169, 175, 176, 177, 178, 179, 170, 171, 172, 173, 174] (by decide +kernel) (by decide +kernel)) (goodIn_sub (fun _ h => List.mem_cons_of_mem _ (List.mem_append_left _ (List.mem_append_right _ h))) (by decide +kernel))) (goodIn_sub (fun _ h => List.mem_cons_of_mem _ (List.mem_append_right _ h)) (by decide +kernel))
set_option maxRecDepth 20000 in
theorem gL_hangs_L_restLeft : GoodIn wsL_hangs (va_wsS RL 76 yL_restLeft wsL_restLeft) := goodIn_app (goodIn_of _ (by decide +kernel)) ggL_hangs_L_restLeft
set_option maxRecDepth 20000 in
theorem ggL_hangs_L_wouldStrike : GoodIn wsL_hangs wsL_wouldStrike := goodIn_ca (goodIn_r _ [147, 98, 1, 148, 149, 150, 10, 151, 14, 103, 104, 105, 106, 107, 108, 15, 16, 17, 18, 19, 20, 21, 22, 23, 24, 25, 26, 27, 28, 29, 30, 31, 32, 33, 34, 35, 36, 37, 38, 39, 40, 41, 42, 43, 44, 45, 46, 47, 48, 49, 50, 51, 52, 53, 54, 55, 56, 57, 58, 59, 60, 61, 62, 63, 64, 65, 66, 67, 90, 91, 92, 93, 152, 153, 154, 155, 156, 81, 82, 83, 84, 85, 86, 87, 88, 89, 165, 166, 167, 168, 169, 175, 176, 177, 178, 179, 170, 171, 172, 173, 174] (by decide +kernel) (by decide +kernel)) (goodIn_sub (fun _ h => List.mem_cons_of_mem _ (List.mem_append_right _ h)) (by decide +kernel))
set_option maxRecDepth 20000 in
theorem gL_hangs_L_wouldStrike : GoodIn wsL_hangs (va_wsS RL 79 yL_wouldStrike wsL_wouldStrike) := goodIn_app (goodIn_of _ (by decide +kernel)) ggL_hangs_L_wouldStrike
set_option maxRecDepth 20000 in
theorem ggL_hangs_L_came : GoodIn wsL_hangs wsL_came := goodIn_ca (goodIn_r _ [159, 6, 1, 160, 161, 162, 10, 163, 12, 13, 14, 94, 53, 54, 18, 55, 164, 48, 49, 50, 51, 165, 166, 167, 168, 169, 170, 171, 172, 173, 174] (by decide +kernel) (by decide +kernel)) (goodIn_sub (fun _ h => List.mem_cons_of_mem _ (List.mem_append_left _ (List.mem_append_right _ h))) (by decide +kernel))
set_option maxRecDepth 20000 in
theorem gL_hangs_L_came : GoodIn wsL_hangs (va_wsS RL 81 yL_came wsL_came) := goodIn_app (goodIn_of _ (by decide +kernel)) ggL_hangs_L_came
theorem dL_hangs_0 : decode cL_hangs 0 = .ok (.aload_n 0, 1) := by decide +kernel
theorem dL_hangs_1 : decode cL_hangs 1 = .ok (.iconst 0, 1) := by decide +kernel
theorem dL_hangs_2 : decode cL_hangs 2 = .ok (.invokestatic 61, 3) := by decide +kernel
theorem dL_hangs_5 : decode cL_hangs 5 = .ok (.istore_n 1, 1) := by decide +kernel
theorem dL_hangs_6 : decode cL_hangs 6 = .ok (.aload_n 0, 1) := by decide +kernel
theorem dL_hangs_7 : decode cL_hangs 7 = .ok (.iconst 1, 1) := by decide +kernel
theorem dL_hangs_8 : decode cL_hangs 8 = .ok (.invokestatic 61, 3) := by decide +kernel
theorem dL_hangs_11 : decode cL_hangs 11 = .ok (.istore_n 2, 1) := by decide +kernel
theorem dL_hangs_12 : decode cL_hangs 12 = .ok (.iload_n 1, 1) := by decide +kernel
theorem dL_hangs_13 : decode cL_hangs 13 = .ok (.iconst 1, 1) := by decide +kernel
theorem dL_hangs_14 : decode cL_hangs 14 = .ok (.iadd, 1) := by decide +kernel
theorem dL_hangs_15 : decode cL_hangs 15 = .ok (.istore_n 3, 1) := by decide +kernel
theorem dL_hangs_16 : decode cL_hangs 16 = .ok (.iload_n 1, 1) := by decide +kernel
theorem dL_hangs_17 : decode cL_hangs 17 = .ok (.iconst 1, 1) := by decide +kernel
theorem dL_hangs_18 : decode cL_hangs 18 = .ok (.iadd, 1) := by decide +kernel
theorem dL_hangs_19 : decode cL_hangs 19 = .ok (.istore 4, 2) := by decide +kernel
theorem dL_hangs_21 : decode cL_hangs 21 = .ok (.aload_n 0, 1) := by decide +kernel
theorem dL_hangs_22 : decode cL_hangs 22 = .ok (.iconst 0, 1) := by decide +kernel
theorem dL_hangs_23 : decode cL_hangs 23 = .ok (.invokestatic 66, 3) := by decide +kernel
theorem dL_hangs_26 : decode cL_hangs 26 = .ok (.iload_n 1, 1) := by decide +kernel
theorem dL_hangs_27 : decode cL_hangs 27 = .ok (.if_icmp .ne 84, 3) := by decide +kernel
theorem dL_hangs_30 : decode cL_hangs 30 = .ok (.aload_n 0, 1) := by decide +kernel
theorem dL_hangs_31 : decode cL_hangs 31 = .ok (.iload_n 2, 1) := by decide +kernel
theorem dL_hangs_32 : decode cL_hangs 32 = .ok (.invokestatic 66, 3) := by decide +kernel
theorem dL_hangs_35 : decode cL_hangs 35 = .ok (.ldc 17, 2) := by decide +kernel
theorem dL_hangs_37 : decode cL_hangs 37 = .ok (.if_icmp .ne 74, 3) := by decide +kernel
theorem dL_hangs_40 : decode cL_hangs 40 = .ok (.aload_n 0, 1) := by decide +kernel
theorem dL_hangs_41 : decode cL_hangs 41 = .ok (.iload_n 2, 1) := by decide +kernel
theorem dL_hangs_42 : decode cL_hangs 42 = .ok (.iconst 1, 1) := by decide +kernel
theorem dL_hangs_43 : decode cL_hangs 43 = .ok (.isub, 1) := by decide +kernel
theorem dL_hangs_44 : decode cL_hangs 44 = .ok (.invokestatic 66, 3) := by decide +kernel
theorem dL_hangs_47 : decode cL_hangs 47 = .ok (.iconst 1, 1) := by decide +kernel
theorem dL_hangs_48 : decode cL_hangs 48 = .ok (.if_icmp .ne 63, 3) := by decide +kernel
theorem dL_hangs_51 : decode cL_hangs 51 = .ok (.aload_n 0, 1) := by decide +kernel
theorem dL_hangs_52 : decode cL_hangs 52 = .ok (.iconst 0, 1) := by decide +kernel
theorem dL_hangs_53 : decode cL_hangs 53 = .ok (.invokestatic 68, 3) := by decide +kernel
theorem dL_hangs_56 : decode cL_hangs 56 = .ok (.aload_n 0, 1) := by decide +kernel
theorem dL_hangs_57 : decode cL_hangs 57 = .ok (.iconst 4, 1) := by decide +kernel
theorem dL_hangs_58 : decode cL_hangs 58 = .ok (.invokestatic 61, 3) := by decide +kernel
theorem dL_hangs_61 : decode cL_hangs 61 = .ok (.if_icmp .ne 50, 3) := by decide +kernel
theorem dL_hangs_64 : decode cL_hangs 64 = .ok (.aload_n 0, 1) := by decide +kernel
theorem dL_hangs_65 : decode cL_hangs 65 = .ok (.iload_n 2, 1) := by decide +kernel
theorem dL_hangs_66 : decode cL_hangs 66 = .ok (.iconst 1, 1) := by decide +kernel
theorem dL_hangs_67 : decode cL_hangs 67 = .ok (.isub, 1) := by decide +kernel
theorem dL_hangs_68 : decode cL_hangs 68 = .ok (.invokestatic 68, 3) := by decide +kernel
theorem dL_hangs_71 : decode cL_hangs 71 = .ok (.iconst 1, 1) := by decide +kernel
theorem dL_hangs_72 : decode cL_hangs 72 = .ok (.if_icmp .ne 39, 3) := by decide +kernel
theorem dL_hangs_75 : decode cL_hangs 75 = .ok (.aload_n 0, 1) := by decide +kernel
theorem dL_hangs_76 : decode cL_hangs 76 = .ok (.iload_n 2, 1) := by decide +kernel
theorem dL_hangs_77 : decode cL_hangs 77 = .ok (.iconst 1, 1) := by decide +kernel
theorem dL_hangs_78 : decode cL_hangs 78 = .ok (.isub, 1) := by decide +kernel
theorem dL_hangs_79 : decode cL_hangs 79 = .ok (.invokestatic 70, 3) := by decide +kernel
theorem dL_hangs_82 : decode cL_hangs 82 = .ok (.lconst 1, 1) := by decide +kernel
theorem dL_hangs_83 : decode cL_hangs 83 = .ok (.lcmp, 1) := by decide +kernel
theorem dL_hangs_84 : decode cL_hangs 84 = .ok (.ifCond .ne 27, 3) := by decide +kernel
theorem dL_hangs_87 : decode cL_hangs 87 = .ok (.aload_n 0, 1) := by decide +kernel
theorem dL_hangs_88 : decode cL_hangs 88 = .ok (.iconst 0, 1) := by decide +kernel
theorem dL_hangs_89 : decode cL_hangs 89 = .ok (.invokevirtual 73, 3) := by decide +kernel
theorem dL_hangs_92 : decode cL_hangs 92 = .ok (.iconst (-1), 1) := by decide +kernel
theorem dL_hangs_93 : decode cL_hangs 93 = .ok (.if_icmp .ne 18, 3) := by decide +kernel
theorem dL_hangs_96 : decode cL_hangs 96 = .ok (.aload_n 0, 1) := by decide +kernel
theorem dL_hangs_97 : decode cL_hangs 97 = .ok (.iload_n 1, 1) := by decide +kernel
theorem dL_hangs_98 : decode cL_hangs 98 = .ok (.iconst 1, 1) := by decide +kernel
theorem dL_hangs_99 : decode cL_hangs 99 = .ok (.iadd, 1) := by decide +kernel
theorem dL_hangs_100 : decode cL_hangs 100 = .ok (.invokevirtual 73, 3) := by decide +kernel
theorem dL_hangs_103 : decode cL_hangs 103 = .ok (.iconst (-1), 1) := by decide +kernel
theorem dL_hangs_104 : decode cL_hangs 104 = .ok (.if_icmp .ne 7, 3) := by decide +kernel
theorem dL_hangs_107 : decode cL_hangs 107 = .ok (.iconst 1, 1) := by decide +kernel
theorem dL_hangs_108 : decode cL_hangs 108 = .ok (.goto 4, 3) := by decide +kernel
theorem dL_hangs_111 : decode cL_hangs 111 = .ok (.iconst 0, 1) := by decide +kernel
theorem dL_hangs_112 : decode cL_hangs 112 = .ok (.istore 5, 2) := by decide +kernel
theorem dL_hangs_114 : decode cL_hangs 114 = .ok (.iconst 0, 1) := by decide +kernel
theorem dL_hangs_115 : decode cL_hangs 115 = .ok (.istore 6, 2) := by decide +kernel
theorem dL_hangs_117 : decode cL_hangs 117 = .ok (.iload 6, 2) := by decide +kernel
theorem dL_hangs_119 : decode cL_hangs 119 = .ok (.iload_n 2, 1) := by decide +kernel
theorem dL_hangs_120 : decode cL_hangs 120 = .ok (.if_icmp .ge 178, 3) := by decide +kernel
theorem dL_hangs_123 : decode cL_hangs 123 = .ok (.iload 5, 2) := by decide +kernel
theorem dL_hangs_125 : decode cL_hangs 125 = .ok (.ifCond .eq 173, 3) := by decide +kernel
theorem dL_hangs_128 : decode cL_hangs 128 = .ok (.aload_n 0, 1) := by decide +kernel
theorem dL_hangs_129 : decode cL_hangs 129 = .ok (.iload 6, 2) := by decide +kernel
theorem dL_hangs_131 : decode cL_hangs 131 = .ok (.invokestatic 66, 3) := by decide +kernel
theorem dL_hangs_134 : decode cL_hangs 134 = .ok (.istore 7, 2) := by decide +kernel
theorem dL_hangs_136 : decode cL_hangs 136 = .ok (.aload_n 0, 1) := by decide +kernel
theorem dL_hangs_137 : decode cL_hangs 137 = .ok (.iload 6, 2) := by decide +kernel
theorem dL_hangs_139 : decode cL_hangs 139 = .ok (.invokestatic 68, 3) := by decide +kernel
theorem dL_hangs_142 : decode cL_hangs 142 = .ok (.istore 8, 2) := by decide +kernel
theorem dL_hangs_144 : decode cL_hangs 144 = .ok (.iload 7, 2) := by decide +kernel
theorem dL_hangs_146 : decode cL_hangs 146 = .ok (.iload_n 3, 1) := by decide +kernel
theorem dL_hangs_147 : decode cL_hangs 147 = .ok (.if_icmp .ge 55, 3) := by decide +kernel
theorem dL_hangs_150 : decode cL_hangs 150 = .ok (.iload 7, 2) := by decide +kernel
theorem dL_hangs_152 : decode cL_hangs 152 = .ok (.iconst 1, 1) := by decide +kernel
theorem dL_hangs_153 : decode cL_hangs 153 = .ok (.if_icmp .lt 49, 3) := by decide +kernel
theorem dL_hangs_156 : decode cL_hangs 156 = .ok (.iload_n 1, 1) := by decide +kernel
theorem dL_hangs_157 : decode cL_hangs 157 = .ok (.iload_n 1, 1) := by decide +kernel
theorem dL_hangs_158 : decode cL_hangs 158 = .ok (.iload 7, 2) := by decide +kernel
theorem dL_hangs_160 : decode cL_hangs 160 = .ok (.idiv, 1) := by decide +kernel
theorem dL_hangs_161 : decode cL_hangs 161 = .ok (.idiv, 1) := by decide +kernel
theorem dL_hangs_162 : decode cL_hangs 162 = .ok (.iload 7, 2) := by decide +kernel
theorem dL_hangs_164 : decode cL_hangs 164 = .ok (.if_icmp .ne 38, 3) := by decide +kernel
theorem dL_hangs_167 : decode cL_hangs 167 = .ok (.aload_n 0, 1) := by decide +kernel
theorem dL_hangs_168 : decode cL_hangs 168 = .ok (.iload 7, 2) := by decide +kernel
theorem dL_hangs_170 : decode cL_hangs 170 = .ok (.invokevirtual 73, 3) := by decide +kernel
theorem dL_hangs_173 : decode cL_hangs 173 = .ok (.iload 6, 2) := by decide +kernel
theorem dL_hangs_175 : decode cL_hangs 175 = .ok (.if_icmp .ne 27, 3) := by decide +kernel
theorem dL_hangs_178 : decode cL_hangs 178 = .ok (.iload 8, 2) := by decide +kernel
theorem dL_hangs_180 : decode cL_hangs 180 = .ok (.iload 4, 2) := by decide +kernel
theorem dL_hangs_182 : decode cL_hangs 182 = .ok (.if_icmp .gt 20, 3) := by decide +kernel
theorem dL_hangs_185 : decode cL_hangs 185 = .ok (.iload 8, 2) := by decide +kernel
theorem dL_hangs_187 : decode cL_hangs 187 = .ok (.iconst 1, 1) := by decide +kernel
theorem dL_hangs_188 : decode cL_hangs 188 = .ok (.if_icmp .lt 14, 3) := by decide +kernel
theorem dL_hangs_191 : decode cL_hangs 191 = .ok (.iload 8, 2) := by decide +kernel
theorem dL_hangs_193 : decode cL_hangs 193 = .ok (.iload 7, 2) := by decide +kernel
theorem dL_hangs_195 : decode cL_hangs 195 = .ok (.if_icmp .gt 7, 3) := by decide +kernel
theorem dL_hangs_198 : decode cL_hangs 198 = .ok (.iconst 1, 1) := by decide +kernel
theorem dL_hangs_199 : decode cL_hangs 199 = .ok (.goto 4, 3) := by decide +kernel
theorem dL_hangs_202 : decode cL_hangs 202 = .ok (.iconst 0, 1) := by decide +kernel
theorem dL_hangs_203 : decode cL_hangs 203 = .ok (.istore 5, 2) := by decide +kernel
theorem dL_hangs_205 : decode cL_hangs 205 = .ok (.iload 7, 2) := by decide +kernel
theorem dL_hangs_207 : decode cL_hangs 207 = .ok (.istore_n 3, 1) := by decide +kernel
theorem dL_hangs_208 : decode cL_hangs 208 = .ok (.iload 8, 2) := by decide +kernel
theorem dL_hangs_210 : decode cL_hangs 210 = .ok (.istore 4, 2) := by decide +kernel
theorem dL_hangs_212 : decode cL_hangs 212 = .ok (.iload 5, 2) := by decide +kernel
theorem dL_hangs_214 : decode cL_hangs 214 = .ok (.ifCond .eq 78, 3) := by decide +kernel
theorem dL_hangs_217 : decode cL_hangs 217 = .ok (.iload 6, 2) := by decide +kernel
theorem dL_hangs_219 : decode cL_hangs 219 = .ok (.bipush 7, 2) := by decide +kernel
theorem dL_hangs_221 : decode cL_hangs 221 = .ok (.irem, 1) := by decide +kernel
theorem dL_hangs_222 : decode cL_hangs 222 = .ok (.ifCond .ne 70, 3) := by decide +kernel
theorem dL_hangs_225 : decode cL_hangs 225 = .ok (.aload_n 0, 1) := by decide +kernel
theorem dL_hangs_226 : decode cL_hangs 226 = .ok (.iload 6, 2) := by decide +kernel
theorem dL_hangs_228 : decode cL_hangs 228 = .ok (.iconst 0, 1) := by decide +kernel
theorem dL_hangs_229 : decode cL_hangs 229 = .ok (.invokestatic 76, 3) := by decide +kernel
theorem dL_hangs_232 : decode cL_hangs 232 = .ok (.aload_n 0, 1) := by decide +kernel
theorem dL_hangs_233 : decode cL_hangs 233 = .ok (.iload 6, 2) := by decide +kernel
theorem dL_hangs_235 : decode cL_hangs 235 = .ok (.iconst 1, 1) := by decide +kernel
theorem dL_hangs_236 : decode cL_hangs 236 = .ok (.invokestatic 76, 3) := by decide +kernel
theorem dL_hangs_239 : decode cL_hangs 239 = .ok (.iadd, 1) := by decide +kernel
theorem dL_hangs_240 : decode cL_hangs 240 = .ok (.aload_n 0, 1) := by decide +kernel
theorem dL_hangs_241 : decode cL_hangs 241 = .ok (.iload 6, 2) := by decide +kernel
theorem dL_hangs_243 : decode cL_hangs 243 = .ok (.iconst 2, 1) := by decide +kernel
theorem dL_hangs_244 : decode cL_hangs 244 = .ok (.invokestatic 76, 3) := by decide +kernel
theorem dL_hangs_247 : decode cL_hangs 247 = .ok (.iadd, 1) := by decide +kernel
theorem dL_hangs_248 : decode cL_hangs 248 = .ok (.aload_n 0, 1) := by decide +kernel
theorem dL_hangs_249 : decode cL_hangs 249 = .ok (.iload 6, 2) := by decide +kernel
theorem dL_hangs_251 : decode cL_hangs 251 = .ok (.iconst 3, 1) := by decide +kernel
theorem dL_hangs_252 : decode cL_hangs 252 = .ok (.invokestatic 76, 3) := by decide +kernel
theorem dL_hangs_255 : decode cL_hangs 255 = .ok (.iadd, 1) := by decide +kernel
theorem dL_hangs_256 : decode cL_hangs 256 = .ok (.iload 8, 2) := by decide +kernel
theorem dL_hangs_258 : decode cL_hangs 258 = .ok (.if_icmp .ne 31, 3) := by decide +kernel
theorem dL_hangs_261 : decode cL_hangs 261 = .ok (.aload_n 0, 1) := by decide +kernel
theorem dL_hangs_262 : decode cL_hangs 262 = .ok (.iload 6, 2) := by decide +kernel
theorem dL_hangs_264 : decode cL_hangs 264 = .ok (.invokestatic 70, 3) := by decide +kernel
theorem dL_hangs_267 : decode cL_hangs 267 = .ok (.iload 8, 2) := by decide +kernel
theorem dL_hangs_269 : decode cL_hangs 269 = .ok (.i2l, 1) := by decide +kernel
theorem dL_hangs_270 : decode cL_hangs 270 = .ok (.lcmp, 1) := by decide +kernel
theorem dL_hangs_271 : decode cL_hangs 271 = .ok (.ifCond .lt 18, 3) := by decide +kernel
theorem dL_hangs_274 : decode cL_hangs 274 = .ok (.aload_n 0, 1) := by decide +kernel
theorem dL_hangs_275 : decode cL_hangs 275 = .ok (.iload 6, 2) := by decide +kernel
theorem dL_hangs_277 : decode cL_hangs 277 = .ok (.invokestatic 79, 3) := by decide +kernel
theorem dL_hangs_280 : decode cL_hangs 280 = .ok (.iload 8, 2) := by decide +kernel
theorem dL_hangs_282 : decode cL_hangs 282 = .ok (.if_icmp .gt 7, 3) := by decide +kernel
theorem dL_hangs_285 : decode cL_hangs 285 = .ok (.iconst 1, 1) := by decide +kernel
theorem dL_hangs_286 : decode cL_hangs 286 = .ok (.goto 4, 3) := by decide +kernel
theorem dL_hangs_289 : decode cL_hangs 289 = .ok (.iconst 0, 1) := by decide +kernel
theorem dL_hangs_290 : decode cL_hangs 290 = .ok (.istore 5, 2) := by decide +kernel
theorem dL_hangs_292 : decode cL_hangs 292 = .ok (.iinc 6 1, 3) := by decide +kernel
theorem dL_hangs_295 : decode cL_hangs 295 = .ok (.goto (-178), 3) := by decide +kernel
theorem dL_hangs_298 : decode cL_hangs 298 = .ok (.iconst 0, 1) := by decide +kernel
theorem dL_hangs_299 : decode cL_hangs 299 = .ok (.istore 6, 2) := by decide +kernel
theorem dL_hangs_301 : decode cL_hangs 301 = .ok (.iconst 0, 1) := by decide +kernel
theorem dL_hangs_302 : decode cL_hangs 302 = .ok (.istore 7, 2) := by decide +kernel
theorem dL_hangs_304 : decode cL_hangs 304 = .ok (.iconst (-1), 1) := by decide +kernel
theorem dL_hangs_305 : decode cL_hangs 305 = .ok (.istore 8, 2) := by decide +kernel
theorem dL_hangs_307 : decode cL_hangs 307 = .ok (.iconst 0, 1) := by decide +kernel
theorem dL_hangs_308 : decode cL_hangs 308 = .ok (.istore 9, 2) := by decide +kernel
theorem dL_hangs_310 : decode cL_hangs 310 = .ok (.aload_n 0, 1) := by decide +kernel
theorem dL_hangs_311 : decode cL_hangs 311 = .ok (.iload 9, 2) := by decide +kernel
theorem dL_hangs_313 : decode cL_hangs 313 = .ok (.invokestatic 81, 3) := by decide +kernel
theorem dL_hangs_316 : decode cL_hangs 316 = .ok (.ifCond .eq 92, 3) := by decide +kernel
theorem dL_hangs_319 : decode cL_hangs 319 = .ok (.iload 5, 2) := by decide +kernel
theorem dL_hangs_321 : decode cL_hangs 321 = .ok (.ifCond .eq 87, 3) := by decide +kernel
theorem dL_hangs_324 : decode cL_hangs 324 = .ok (.aload_n 0, 1) := by decide +kernel
theorem dL_hangs_325 : decode cL_hangs 325 = .ok (.iload 9, 2) := by decide +kernel
theorem dL_hangs_327 : decode cL_hangs 327 = .ok (.invokestatic 81, 3) := by decide +kernel
theorem dL_hangs_330 : decode cL_hangs 330 = .ok (.istore 10, 2) := by decide +kernel
theorem dL_hangs_332 : decode cL_hangs 332 = .ok (.iload 6, 2) := by decide +kernel
theorem dL_hangs_334 : decode cL_hangs 334 = .ok (.iload 10, 2) := by decide +kernel
theorem dL_hangs_336 : decode cL_hangs 336 = .ok (.ifCond .le 7, 3) := by decide +kernel
theorem dL_hangs_339 : decode cL_hangs 339 = .ok (.iconst 1, 1) := by decide +kernel
theorem dL_hangs_340 : decode cL_hangs 340 = .ok (.goto 4, 3) := by decide +kernel
theorem dL_hangs_343 : decode cL_hangs 343 = .ok (.iconst 0, 1) := by decide +kernel
theorem dL_hangs_344 : decode cL_hangs 344 = .ok (.iadd, 1) := by decide +kernel
theorem dL_hangs_345 : decode cL_hangs 345 = .ok (.istore 6, 2) := by decide +kernel
theorem dL_hangs_347 : decode cL_hangs 347 = .ok (.iload 7, 2) := by decide +kernel
theorem dL_hangs_349 : decode cL_hangs 349 = .ok (.iload 10, 2) := by decide +kernel
theorem dL_hangs_351 : decode cL_hangs 351 = .ok (.ifCond .le 7, 3) := by decide +kernel
theorem dL_hangs_354 : decode cL_hangs 354 = .ok (.iconst 0, 1) := by decide +kernel
theorem dL_hangs_355 : decode cL_hangs 355 = .ok (.goto 4, 3) := by decide +kernel
theorem dL_hangs_358 : decode cL_hangs 358 = .ok (.iconst 1, 1) := by decide +kernel
theorem dL_hangs_359 : decode cL_hangs 359 = .ok (.iadd, 1) := by decide +kernel
theorem dL_hangs_360 : decode cL_hangs 360 = .ok (.istore 7, 2) := by decide +kernel
theorem dL_hangs_362 : decode cL_hangs 362 = .ok (.iload 10, 2) := by decide +kernel
theorem dL_hangs_364 : decode cL_hangs 364 = .ok (.ifCond .le 8, 3) := by decide +kernel
theorem dL_hangs_367 : decode cL_hangs 367 = .ok (.iload 10, 2) := by decide +kernel
theorem dL_hangs_369 : decode cL_hangs 369 = .ok (.goto 6, 3) := by decide +kernel
theorem dL_hangs_372 : decode cL_hangs 372 = .ok (.iload 10, 2) := by decide +kernel
theorem dL_hangs_374 : decode cL_hangs 374 = .ok (.ineg, 1) := by decide +kernel
theorem dL_hangs_375 : decode cL_hangs 375 = .ok (.iload 8, 2) := by decide +kernel
theorem dL_hangs_377 : decode cL_hangs 377 = .ok (.if_icmp .le 7, 3) := by decide +kernel
theorem dL_hangs_380 : decode cL_hangs 380 = .ok (.iconst 1, 1) := by decide +kernel
theorem dL_hangs_381 : decode cL_hangs 381 = .ok (.goto 4, 3) := by decide +kernel
theorem dL_hangs_384 : decode cL_hangs 384 = .ok (.iconst 0, 1) := by decide +kernel
theorem dL_hangs_385 : decode cL_hangs 385 = .ok (.istore 5, 2) := by decide +kernel
theorem dL_hangs_387 : decode cL_hangs 387 = .ok (.iload 10, 2) := by decide +kernel
theorem dL_hangs_389 : decode cL_hangs 389 = .ok (.ifCond .le 8, 3) := by decide +kernel
theorem dL_hangs_392 : decode cL_hangs 392 = .ok (.iload 10, 2) := by decide +kernel
theorem dL_hangs_394 : decode cL_hangs 394 = .ok (.goto 6, 3) := by decide +kernel
theorem dL_hangs_397 : decode cL_hangs 397 = .ok (.iload 10, 2) := by decide +kernel
theorem dL_hangs_399 : decode cL_hangs 399 = .ok (.ineg, 1) := by decide +kernel
theorem dL_hangs_400 : decode cL_hangs 400 = .ok (.istore 8, 2) := by decide +kernel
theorem dL_hangs_402 : decode cL_hangs 402 = .ok (.iinc 9 1, 3) := by decide +kernel
theorem dL_hangs_405 : decode cL_hangs 405 = .ok (.goto (-95), 3) := by decide +kernel
theorem dL_hangs_408 : decode cL_hangs 408 = .ok (.iload 5, 2) := by decide +kernel
theorem dL_hangs_410 : decode cL_hangs 410 = .ok (.ifCond .eq 66, 3) := by decide +kernel
theorem dL_hangs_413 : decode cL_hangs 413 = .ok (.aload_n 0, 1) := by decide +kernel
theorem dL_hangs_414 : decode cL_hangs 414 = .ok (.iconst 2, 1) := by decide +kernel
theorem dL_hangs_415 : decode cL_hangs 415 = .ok (.invokestatic 61, 3) := by decide +kernel
theorem dL_hangs_418 : decode cL_hangs 418 = .ok (.iload 6, 2) := by decide +kernel
theorem dL_hangs_420 : decode cL_hangs 420 = .ok (.if_icmp .ne 56, 3) := by decide +kernel
theorem dL_hangs_423 : decode cL_hangs 423 = .ok (.aload_n 0, 1) := by decide +kernel
theorem dL_hangs_424 : decode cL_hangs 424 = .ok (.iconst 3, 1) := by decide +kernel
theorem dL_hangs_425 : decode cL_hangs 425 = .ok (.invokestatic 61, 3) := by decide +kernel
theorem dL_hangs_428 : decode cL_hangs 428 = .ok (.iload 7, 2) := by decide +kernel
theorem dL_hangs_430 : decode cL_hangs 430 = .ok (.if_icmp .ne 46, 3) := by decide +kernel
theorem dL_hangs_433 : decode cL_hangs 433 = .ok (.aload_n 0, 1) := by decide +kernel
theorem dL_hangs_434 : decode cL_hangs 434 = .ok (.bipush 6, 2) := by decide +kernel
theorem dL_hangs_436 : decode cL_hangs 436 = .ok (.invokestatic 61, 3) := by decide +kernel
theorem dL_hangs_439 : decode cL_hangs 439 = .ok (.iload 8, 2) := by decide +kernel
theorem dL_hangs_441 : decode cL_hangs 441 = .ok (.if_icmp .ne 35, 3) := by decide +kernel
theorem dL_hangs_444 : decode cL_hangs 444 = .ok (.aload_n 0, 1) := by decide +kernel
theorem dL_hangs_445 : decode cL_hangs 445 = .ok (.iconst 5, 1) := by decide +kernel
theorem dL_hangs_446 : decode cL_hangs 446 = .ok (.invokestatic 61, 3) := by decide +kernel
theorem dL_hangs_449 : decode cL_hangs 449 = .ok (.iconst (-1), 1) := by decide +kernel
theorem dL_hangs_450 : decode cL_hangs 450 = .ok (.if_icmp .eq 22, 3) := by decide +kernel
theorem dL_hangs_453 : decode cL_hangs 453 = .ok (.aload_n 0, 1) := by decide +kernel
theorem dL_hangs_454 : decode cL_hangs 454 = .ok (.iconst 5, 1) := by decide +kernel
theorem dL_hangs_455 : decode cL_hangs 455 = .ok (.invokestatic 61, 3) := by decide +kernel
theorem dL_hangs_458 : decode cL_hangs 458 = .ok (.iload 8, 2) := by decide +kernel
theorem dL_hangs_460 : decode cL_hangs 460 = .ok (.if_icmp .le 16, 3) := by decide +kernel
theorem dL_hangs_463 : decode cL_hangs 463 = .ok (.aload_n 0, 1) := by decide +kernel
theorem dL_hangs_464 : decode cL_hangs 464 = .ok (.iconst 5, 1) := by decide +kernel
theorem dL_hangs_465 : decode cL_hangs 465 = .ok (.invokestatic 61, 3) := by decide +kernel
theorem dL_hangs_468 : decode cL_hangs 468 = .ok (.iload_n 1, 1) := by decide +kernel
theorem dL_hangs_469 : decode cL_hangs 469 = .ok (.if_icmp .gt 7, 3) := by decide +kernel
theorem dL_hangs_472 : decode cL_hangs 472 = .ok (.iconst 1, 1) := by decide +kernel
theorem dL_hangs_473 : decode cL_hangs 473 = .ok (.goto 4, 3) := by decide +kernel
theorem dL_hangs_476 : decode cL_hangs 476 = .ok (.iconst 0, 1) := by decide +kernel
theorem dL_hangs_477 : decode cL_hangs 477 = .ok (.ireturn, 1) := by decide +kernel
set_option maxRecDepth 20000 in
theorem ggL_law_X6_init : GoodIn wsL_law wsX6_init := goodIn_r _ [8, 9, 10, 11, 12, 13, 14, 15, 16, 17, 18, 19, 20, 21, 22, 23, 24, 25, 26, 27, 28, 29, 30, 31, 32, 33, 34, 35, 36, 37, 38, 39, 40, 41, 42, 43, 44, 45, 46, 47, 48, 49, 50, 51, 52, 53, 54, 55, 56, 57, 58, 59, 60, 61, 62, 63, 64, 65, 66, 67, 68, 69, 70, 71, 72, 73, 74, 75, 320, 321, 322, 323, 324, 325, 326, 315, 316, 317, 318, 319, 327, 328, 329, 330, 331, 332, 333, 334, 335, 336, 337, 338, 339, 340, 341, 342] (by decide +kernel) (by decide +kernel)
set_option maxRecDepth 20000 in
theorem gL_law_X6_init : GoodIn wsL_law (wsX6_init) := ggL_law_X6_init
set_option maxRecDepth 20000 in
theorem ggL_law_L_about : GoodIn wsL_law wsL_about := goodIn_ca (goodIn_r _ [79, 80, 3, 81, 82, 83, 2, 84, 85, 86, 19, 87, 88, 89, 18, 90, 61, 41, 58, 59, 91, 92, 93, 40, 94, 95, 96, 97, 98, 99, 100, 101, 102, 103, 104, 46, 49, 105, 47, 106, 107, 108, 109, 110, 111, 112, 113, 60, 114, 115, 116, 117, 118, 119, 120, 121, 122, 123, 124, 125, 126, 127, 128, 129, 130, 131, 132, 133, 134, 135, 136, 137, 138, 139, 140, 141, 142, 143, 144, 145, 146, 147, 148, 149, 150, 151, 152, 153, 154, 155, 156, 315, 316, 317, 318, 319, 327, 328, 329, 330, 331, 338, 339, 340, 341, 342] (by decide +kernel) (by decide +kernel)) (goodIn_sub (fun _ h => List.mem_append_left _ (List.mem_append_left _ (List.mem_append_right _ h))) (by decide +kernel))
set_option maxRecDepth 20000 in
theorem gL_law_L_about : GoodIn wsL_law (va_wsS RL 61 yL_about wsL_about) := goodIn_app (goodIn_of _ (by decide +kernel)) ggL_law_L_about
set_option maxRecDepth 20000 in
theorem ggL_law_L_undo : GoodIn wsL_law wsL_undo := goodIn_ca (goodIn_r _ [159, 160, 3, 161, 162, 163, 2, 164, 165, 166, 23, 19, 167, 168, 169, 22, 170, 171, 172, 173, 98, 99, 100, 174, 175, 176, 177, 65, 66, 67, 150, 151, 178, 55, 56, 18, 57, 58, 59, 60, 61, 315, 316, 317, 318, 319, 332, 333, 334, 335, 336, 327, 328, 329, 330, 331] (by decide +kernel) (by decide +kernel)) (goodIn_sub (fun _ h => List.mem_append_left _ (List.mem_append_right _ h)) (by decide +kernel))
set_option maxRecDepth 20000 in
theorem gL_law_L_undo : GoodIn wsL_law (va_wsS RL 84 yL_undo wsL_undo) := goodIn_app (goodIn_of _ (by decide +kernel)) ggL_law_L_undo
set_option maxRecDepth 20000 in
theorem ggL_law_L_hangs : GoodIn wsL_law wsL_hangs := goodIn_ca (goodIn_ca (goodIn_r _ [181, 3, 76, 77, 78, 79, 80, 81, 82, 83, 2, 84, 85, 86, 19, 87, 88, 89, 18, 90, 61, 41, 58, 59, 91, 92, 93, 40, 94, 95, 96, 97, 98, 99, 100, 101, 102, 103, 104, 46, 49, 105, 47, 106, 107, 108, 109, 110, 111, 112, 113, 60, 114, 115, 116, 117, 118, 119, 120, 121, 122, 123, 124, 125, 126, 127, 128, 129, 130, 131, 132, 133, 134, 135, 136, 137, 138, 139, 140, 141, 142, 143, 144, 145, 146, 147, 148, 149, 150, 151, 152, 153, 154, 155, 156, 182, 183, 184, 185, 186, 187, 188, 189, 190, 191, 192, 193, 194, 195, 196, 197, 198, 199, 200, 201, 202, 203, 204, 205, 206, 207, 208, 209, 210, 211, 212, 213, 214, 215, 216, 217, 218, 219, 220, 221, 222, 223, 224, 5, 225, 226, 227, 228, 229, 230, 231, 232, 233, 234, 235, 236, 237, 238, 239, 240, 241, 242, 243, 244, 245, 246, 247, 248, 249, 250, 315, 316, 317, 318, 319, 327, 328, 329, 330, 331, 338, 339, 340, 341, 342] (by decide +kernel) (by decide +kernel)) (goodIn_sub (fun _ h => List.mem_append_left _ (List.mem_append_left _ (List.mem_append_right _ h))) (by decide +kernel))) (goodIn_sub (fun _ h => List.mem_append_right _ h) (by decide +kernel))
set_option maxRecDepth 20000 in
theorem gL_law_L_hangs : GoodIn wsL_law (va_wsS RL 87 yL_hangs wsL_hangs) := goodIn_app (goodIn_of _ (by decide +kernel)) ggL_law_L_hangs
set_option maxRecDepth 20000 in
theorem ggL_law_L_cell : GoodIn wsL_law wsL_cell := goodIn_r _ [253, 254, 255] (by decide +kernel) (by decide +kernel)
set_option maxRecDepth 20000 in
theorem gL_law_L_cell : GoodIn wsL_law (va_wsS RL 91 yL_cell wsL_cell) := goodIn_app (goodIn_of _ (by decide +kernel)) ggL_law_L_cell
set_option maxRecDepth 20000 in
theorem ggL_law_L_bound : GoodIn wsL_law wsL_bound := goodIn_ca (goodIn_r _ [258, 80, 3, 259, 260, 261, 2, 262, 85, 86, 263, 23, 19, 229, 150, 151, 264, 265, 266, 22, 267, 171, 172, 268, 269, 99, 270, 271, 272, 273, 274, 65, 66, 67, 275, 51, 52, 18, 53, 54, 55, 56, 57, 58, 59, 60, 61, 315, 316, 317, 318, 319, 327, 328, 329, 330, 331, 332, 333, 334, 335, 336] (by decide +kernel) (by decide +kernel)) (goodIn_sub (fun _ h => List.mem_append_left _ (List.mem_append_left _ (List.mem_append_right _ h))) (by decide +kernel))
set_option maxRecDepth 20000 in
theorem gL_law_L_bound : GoodIn wsL_law (va_wsS RL 95 yL_bound wsL_bound) := goodIn_app (goodIn_of _ (by decide +kernel)) ggL_law_L_bound
set_option maxRecDepth 20000 in
theorem ggL_law_X6_again : GoodIn wsL_law wsX6_again := goodIn_r _ [279, 23, 19, 264, 265, 266, 22, 267, 171, 172, 268, 269, 99, 270, 271, 272, 273, 274, 65, 66, 67, 150, 2, 151, 275, 51, 52, 18, 53, 54, 55, 56, 57, 58, 59, 60, 61, 315, 316, 317, 318, 319, 327, 328, 329, 330, 331, 332, 333, 334, 335, 336] (by decide +kernel) (by decide +kernel)
set_option maxRecDepth 20000 in
theorem gL_law_X6_again : GoodIn wsL_law (wsV RL 97 RX6 yX6_again wsX6_again) := goodIn_app (goodIn_of _ (by decide +kernel)) ggL_law_X6_again
set_option maxRecDepth 20000 in
theorem ggL_law_L_spare : GoodIn wsL_law wsL_spare := goodIn_ca (goodIn_r _ [282, 160, 3, 283, 284, 285, 2, 286, 23, 19, 287, 288, 289, 290, 165, 166, 152, 153, 154, 18, 155, 59, 58, 114, 115, 116, 117, 264, 265, 266, 22, 267, 171, 172, 268, 269, 99, 270, 271, 272, 273, 274, 65, 66, 67, 150, 151, 291, 292, 293, 294, 60, 295, 315, 316, 317, 318, 319, 327, 328, 329, 330, 331, 332, 333, 334, 335, 336] (by decide +kernel) (by decide +kernel)) (goodIn_sub (fun _ h => List.mem_append_left _ (List.mem_append_right _ h)) (by decide +kernel))
set_option maxRecDepth 20000 in
theorem gL_law_L_spare : GoodIn wsL_law (va_wsS RL 100 yL_spare wsL_spare) := goodIn_app (goodIn_of _ (by decide +kernel)) ggL_law_L_spare
set_option maxRecDepth 20000 in
theorem ggL_law_L_strikeTo : GoodIn wsL_law wsL_strikeTo := goodIn_ca (goodIn_r _ [298, 80, 3, 299, 300, 301, 2, 302, 85, 86, 263, 23, 19, 229, 150, 151, 264, 265, 266, 22, 267, 171, 172, 268, 269, 99, 270, 271, 272, 273, 274, 65, 66, 67, 303, 304, 305, 18, 306, 295, 153, 154, 155, 59, 58, 114, 115, 116, 117, 307, 292, 293, 294, 60, 315, 316, 317, 318, 319, 332, 333, 334, 335, 336, 327, 328, 329, 330, 331] (by decide +kernel) (by decide +kernel)) (goodIn_sub (fun _ h => List.mem_append_left _ (List.mem_append_left _ (List.mem_append_right _ h))) (by decide +kernel))
set_option maxRecDepth 20000 in
theorem gL_law_L_strikeTo : GoodIn wsL_law (va_wsS RL 102 yL_strikeTo wsL_strikeTo) := goodIn_app (goodIn_of _ (by decide +kernel)) ggL_law_L_strikeTo
set_option maxRecDepth 20000 in
theorem ggL_law_L_wouldStrike : GoodIn wsL_law wsL_wouldStrike := goodIn_ca (goodIn_r _ [233, 185, 3, 234, 235, 236, 2, 237, 19, 190, 191, 192, 193, 194, 195, 87, 88, 89, 18, 90, 61, 41, 58, 59, 91, 92, 93, 40, 94, 95, 96, 97, 98, 99, 100, 101, 102, 103, 104, 46, 49, 105, 47, 106, 107, 108, 109, 110, 111, 112, 113, 60, 114, 115, 116, 117, 118, 119, 120, 121, 122, 123, 124, 125, 126, 127, 128, 129, 152, 153, 154, 155, 238, 239, 240, 241, 242, 143, 144, 145, 146, 147, 148, 149, 150, 151, 315, 316, 317, 318, 319, 338, 339, 340, 341, 342, 327, 328, 329, 330, 331] (by decide +kernel) (by decide +kernel)) (goodIn_sub (fun _ h => List.mem_append_right _ h) (by decide +kernel))
set_option maxRecDepth 20000 in
theorem gL_law_L_wouldStrike : GoodIn wsL_law (va_wsS RL 79 yL_wouldStrike wsL_wouldStrike) := goodIn_app (goodIn_of _ (by decide +kernel)) ggL_law_L_wouldStrike
set_option maxRecDepth 20000 in
theorem ggL_law_L_strike : GoodIn wsL_law wsL_strike := goodIn_ca (goodIn_r _ [310, 160, 3, 311, 312, 313, 2, 314, 23, 19, 287, 288, 289, 290, 165, 166, 152, 153, 154, 18, 155, 59, 58, 114, 115, 116, 117, 264, 265, 266, 22, 267, 171, 172, 268, 269, 99, 270, 271, 272, 273, 274, 65, 66, 67, 150, 151, 137, 138, 139, 140, 141, 88, 89, 90, 61, 41, 91, 92, 93, 40, 94, 95, 96, 97, 98, 100, 101, 102, 103, 104, 46, 49, 105, 47, 106, 107, 108, 109, 110, 111, 112, 113, 60, 118, 119, 120, 121, 122, 123, 124, 125, 126, 127, 128, 129, 142, 143, 144, 145, 146, 147, 148, 149, 291, 292, 293, 294, 295, 315, 316, 317, 318, 319, 327, 328, 329, 330, 331, 332, 333, 334, 335, 336, 338, 339, 340, 341, 342] (by decide +kernel) (by decide +kernel)) (goodIn_sub (fun _ h => List.mem_append_left _ (List.mem_append_right _ h)) (by decide +kernel))
set_option maxRecDepth 20000 in
theorem gL_law_L_strike : GoodIn wsL_law (va_wsS RL 104 yL_strike wsL_strike) := goodIn_app (goodIn_of _ (by decide +kernel)) ggL_law_L_strike
set_option maxRecDepth 20000 in
theorem ggL_law_L_came : GoodIn wsL_law wsL_came := goodIn_ca (goodIn_r _ [245, 80, 3, 246, 247, 248, 2, 249, 85, 86, 19, 156, 115, 116, 18, 117, 250, 111, 112, 113, 60, 315, 316, 317, 318, 319, 327, 328, 329, 330, 331] (by decide +kernel) (by decide +kernel)) (goodIn_sub (fun _ h => List.mem_append_left _ (List.mem_append_left _ (List.mem_append_right _ h))) (by decide +kernel))
set_option maxRecDepth 20000 in
theorem gL_law_L_came : GoodIn wsL_law (va_wsS RL 81 yL_came wsL_came) := goodIn_app (goodIn_of _ (by decide +kernel)) ggL_law_L_came
set_option maxRecDepth 20000 in
theorem ggL_law_L_restLeft : GoodIn wsL_law wsL_restLeft := goodIn_ca (goodIn_ca (goodIn_r _ [224, 185, 80, 3, 5, 225, 226, 227, 2, 228, 85, 86, 19, 190, 191, 192, 193, 194, 195, 87, 88, 89, 18, 90, 61, 41, 58, 59, 91, 92, 93, 40, 94, 95, 96, 97, 98, 99, 100, 101, 102, 103, 104, 46, 49, 105, 47, 106, 107, 108, 109, 110, 111, 112, 113, 60, 114, 115, 116, 117, 118, 119, 120, 121, 122, 123, 124, 125, 126, 127, 128, 129, 229, 150, 151, 230, 147, 148, 149, 315, 316, 317, 318, 319, 338, 339, 340, 341, 342, 327, 328, 329, 330, 331] (by decide +kernel) (by decide +kernel)) (goodIn_sub (fun _ h => List.mem_append_left _ (List.mem_append_left _ (List.mem_append_right _ h))) (by decide +kernel))) (goodIn_sub (fun _ h => List.mem_append_right _ h) (by decide +kernel))
set_option maxRecDepth 20000 in
theorem gL_law_L_restLeft : GoodIn wsL_law (va_wsS RL 76 yL_restLeft wsL_restLeft) := goodIn_app (goodIn_of _ (by decide +kernel)) ggL_law_L_restLeft
set_option maxRecDepth 20000 in
theorem ggL_law_L_left : GoodIn wsL_law wsL_left := goodIn_ca (goodIn_r _ [199, 185, 3, 200, 201, 202, 2, 203, 19, 190, 191, 192, 193, 194, 195, 87, 88, 89, 18, 90, 61, 41, 58, 59, 91, 92, 93, 40, 94, 95, 96, 97, 98, 99, 100, 101, 102, 103, 104, 46, 49, 105, 47, 106, 107, 108, 109, 110, 111, 112, 113, 60, 114, 115, 116, 117, 118, 119, 120, 121, 122, 123, 124, 125, 126, 127, 128, 129, 204, 143, 144, 145, 146, 147, 148, 149, 150, 151, 315, 316, 317, 318, 319, 338, 339, 340, 341, 342, 327, 328, 329, 330, 331] (by decide +kernel) (by decide +kernel)) (goodIn_sub (fun _ h => List.mem_append_right _ h) (by decide +kernel))
set_option maxRecDepth 20000 in
theorem gL_law_L_left : GoodIn wsL_law (va_wsS RL 68 yL_left wsL_left) := goodIn_app (goodIn_of _ (by decide +kernel)) ggL_law_L_left
theorem dL_law_0 : decode cL_law 0 = .ok (.new 10, 3) := by decide +kernel
theorem dL_law_3 : decode cL_law 3 = .ok (.dup, 1) := by decide +kernel
theorem dL_law_4 : decode cL_law 4 = .ok (.invokespecial 83, 3) := by decide +kernel
theorem dL_law_7 : decode cL_law 7 = .ok (.astore_n 1, 1) := by decide +kernel
theorem dL_law_8 : decode cL_law 8 = .ok (.aload_n 1, 1) := by decide +kernel
theorem dL_law_9 : decode cL_law 9 = .ok (.iconst 0, 1) := by decide +kernel
theorem dL_law_10 : decode cL_law 10 = .ok (.invokestatic 61, 3) := by decide +kernel
theorem dL_law_13 : decode cL_law 13 = .ok (.bipush 100, 2) := by decide +kernel
theorem dL_law_15 : decode cL_law 15 = .ok (.if_icmp .ne 42, 3) := by decide +kernel
theorem dL_law_18 : decode cL_law 18 = .ok (.aload_n 1, 1) := by decide +kernel
theorem dL_law_19 : decode cL_law 19 = .ok (.iconst 4, 1) := by decide +kernel
theorem dL_law_20 : decode cL_law 20 = .ok (.invokestatic 61, 3) := by decide +kernel
theorem dL_law_23 : decode cL_law 23 = .ok (.bipush 100, 2) := by decide +kernel
theorem dL_law_25 : decode cL_law 25 = .ok (.if_icmp .ne 32, 3) := by decide +kernel
theorem dL_law_28 : decode cL_law 28 = .ok (.aload_n 1, 1) := by decide +kernel
theorem dL_law_29 : decode cL_law 29 = .ok (.iconst 5, 1) := by decide +kernel
theorem dL_law_30 : decode cL_law 30 = .ok (.invokestatic 61, 3) := by decide +kernel
theorem dL_law_33 : decode cL_law 33 = .ok (.iconst 2, 1) := by decide +kernel
theorem dL_law_34 : decode cL_law 34 = .ok (.if_icmp .ne 23, 3) := by decide +kernel
theorem dL_law_37 : decode cL_law 37 = .ok (.aload_n 1, 1) := by decide +kernel
theorem dL_law_38 : decode cL_law 38 = .ok (.invokestatic 84, 3) := by decide +kernel
theorem dL_law_41 : decode cL_law 41 = .ok (.ldc 17, 2) := by decide +kernel
theorem dL_law_43 : decode cL_law 43 = .ok (.if_icmp .ne 14, 3) := by decide +kernel
theorem dL_law_46 : decode cL_law 46 = .ok (.aload_n 1, 1) := by decide +kernel
theorem dL_law_47 : decode cL_law 47 = .ok (.invokestatic 87, 3) := by decide +kernel
theorem dL_law_50 : decode cL_law 50 = .ok (.ifCond .eq 7, 3) := by decide +kernel
theorem dL_law_53 : decode cL_law 53 = .ok (.iconst 1, 1) := by decide +kernel
theorem dL_law_54 : decode cL_law 54 = .ok (.goto 4, 3) := by decide +kernel
theorem dL_law_57 : decode cL_law 57 = .ok (.iconst 0, 1) := by decide +kernel
theorem dL_law_58 : decode cL_law 58 = .ok (.istore_n 2, 1) := by decide +kernel
theorem dL_law_59 : decode cL_law 59 = .ok (.iconst 0, 1) := by decide +kernel
theorem dL_law_60 : decode cL_law 60 = .ok (.istore_n 3, 1) := by decide +kernel
theorem dL_law_61 : decode cL_law 61 = .ok (.iload_n 3, 1) := by decide +kernel
theorem dL_law_62 : decode cL_law 62 = .ok (.bipush 24, 2) := by decide +kernel
theorem dL_law_64 : decode cL_law 64 = .ok (.if_icmp .ge 478, 3) := by decide +kernel
theorem dL_law_67 : decode cL_law 67 = .ok (.iload_n 2, 1) := by decide +kernel
theorem dL_law_68 : decode cL_law 68 = .ok (.ifCond .eq 474, 3) := by decide +kernel
theorem dL_law_71 : decode cL_law 71 = .ok (.aload_n 0, 1) := by decide +kernel
theorem dL_law_72 : decode cL_law 72 = .ok (.iload_n 3, 1) := by decide +kernel
theorem dL_law_73 : decode cL_law 73 = .ok (.invokestatic 91, 3) := by decide +kernel
theorem dL_law_76 : decode cL_law 76 = .ok (.istore 4, 2) := by decide +kernel
theorem dL_law_78 : decode cL_law 78 = .ok (.iload 4, 2) := by decide +kernel
theorem dL_law_80 : decode cL_law 80 = .ok (.bipush 8, 2) := by decide +kernel
theorem dL_law_82 : decode cL_law 82 = .ok (.idiv, 1) := by decide +kernel
theorem dL_law_83 : decode cL_law 83 = .ok (.istore 5, 2) := by decide +kernel
theorem dL_law_85 : decode cL_law 85 = .ok (.aload_n 1, 1) := by decide +kernel
theorem dL_law_86 : decode cL_law 86 = .ok (.iconst 0, 1) := by decide +kernel
theorem dL_law_87 : decode cL_law 87 = .ok (.invokestatic 61, 3) := by decide +kernel
theorem dL_law_90 : decode cL_law 90 = .ok (.istore 6, 2) := by decide +kernel
theorem dL_law_92 : decode cL_law 92 = .ok (.aload_n 1, 1) := by decide +kernel
theorem dL_law_93 : decode cL_law 93 = .ok (.iconst 5, 1) := by decide +kernel
theorem dL_law_94 : decode cL_law 94 = .ok (.invokestatic 61, 3) := by decide +kernel
theorem dL_law_97 : decode cL_law 97 = .ok (.istore 7, 2) := by decide +kernel
theorem dL_law_99 : decode cL_law 99 = .ok (.aload_n 1, 1) := by decide +kernel
theorem dL_law_100 : decode cL_law 100 = .ok (.iconst 4, 1) := by decide +kernel
theorem dL_law_101 : decode cL_law 101 = .ok (.invokestatic 61, 3) := by decide +kernel
theorem dL_law_104 : decode cL_law 104 = .ok (.istore 8, 2) := by decide +kernel
theorem dL_law_106 : decode cL_law 106 = .ok (.iload 4, 2) := by decide +kernel
theorem dL_law_108 : decode cL_law 108 = .ok (.bipush 8, 2) := by decide +kernel
theorem dL_law_110 : decode cL_law 110 = .ok (.irem, 1) := by decide +kernel
theorem dL_law_111 : decode cL_law 111 = .ok (.tableswitch 316 0 4 #[33, 120, 178, 178, 216], 33) := by decide +kernel
theorem dL_law_144 : decode cL_law 144 = .ok (.iload 5, 2) := by decide +kernel
theorem dL_law_146 : decode cL_law 146 = .ok (.iconst 3, 1) := by decide +kernel
theorem dL_law_147 : decode cL_law 147 = .ok (.irem, 1) := by decide +kernel
theorem dL_law_148 : decode cL_law 148 = .ok (.ifCond .ne 16, 3) := by decide +kernel
theorem dL_law_151 : decode cL_law 151 = .ok (.iconst 1, 1) := by decide +kernel
theorem dL_law_152 : decode cL_law 152 = .ok (.iload 5, 2) := by decide +kernel
theorem dL_law_154 : decode cL_law 154 = .ok (.iconst 4, 1) := by decide +kernel
theorem dL_law_155 : decode cL_law 155 = .ok (.idiv, 1) := by decide +kernel
theorem dL_law_156 : decode cL_law 156 = .ok (.sipush 3000, 3) := by decide +kernel
theorem dL_law_159 : decode cL_law 159 = .ok (.irem, 1) := by decide +kernel
theorem dL_law_160 : decode cL_law 160 = .ok (.iadd, 1) := by decide +kernel
theorem dL_law_161 : decode cL_law 161 = .ok (.goto 12, 3) := by decide +kernel
theorem dL_law_164 : decode cL_law 164 = .ok (.iconst 1, 1) := by decide +kernel
theorem dL_law_165 : decode cL_law 165 = .ok (.iload 5, 2) := by decide +kernel
theorem dL_law_167 : decode cL_law 167 = .ok (.iconst 4, 1) := by decide +kernel
theorem dL_law_168 : decode cL_law 168 = .ok (.idiv, 1) := by decide +kernel
theorem dL_law_169 : decode cL_law 169 = .ok (.bipush 40, 2) := by decide +kernel
theorem dL_law_171 : decode cL_law 171 = .ok (.irem, 1) := by decide +kernel
theorem dL_law_172 : decode cL_law 172 = .ok (.iadd, 1) := by decide +kernel
theorem dL_law_173 : decode cL_law 173 = .ok (.istore 9, 2) := by decide +kernel
theorem dL_law_175 : decode cL_law 175 = .ok (.aload_n 1, 1) := by decide +kernel
theorem dL_law_176 : decode cL_law 176 = .ok (.iload 9, 2) := by decide +kernel
theorem dL_law_178 : decode cL_law 178 = .ok (.invokestatic 95, 3) := by decide +kernel
theorem dL_law_181 : decode cL_law 181 = .ok (.iload 6, 2) := by decide +kernel
theorem dL_law_183 : decode cL_law 183 = .ok (.if_icmp .ne 43, 3) := by decide +kernel
theorem dL_law_186 : decode cL_law 186 = .ok (.aload_n 1, 1) := by decide +kernel
theorem dL_law_187 : decode cL_law 187 = .ok (.iconst 0, 1) := by decide +kernel
theorem dL_law_188 : decode cL_law 188 = .ok (.invokestatic 61, 3) := by decide +kernel
theorem dL_law_191 : decode cL_law 191 = .ok (.iload 9, 2) := by decide +kernel
theorem dL_law_193 : decode cL_law 193 = .ok (.if_icmp .ne 33, 3) := by decide +kernel
theorem dL_law_196 : decode cL_law 196 = .ok (.aload_n 1, 1) := by decide +kernel
theorem dL_law_197 : decode cL_law 197 = .ok (.iconst 4, 1) := by decide +kernel
theorem dL_law_198 : decode cL_law 198 = .ok (.invokestatic 61, 3) := by decide +kernel
theorem dL_law_201 : decode cL_law 201 = .ok (.iload 9, 2) := by decide +kernel
theorem dL_law_203 : decode cL_law 203 = .ok (.if_icmp .ne 23, 3) := by decide +kernel
theorem dL_law_206 : decode cL_law 206 = .ok (.aload_n 1, 1) := by decide +kernel
theorem dL_law_207 : decode cL_law 207 = .ok (.iconst 2, 1) := by decide +kernel
theorem dL_law_208 : decode cL_law 208 = .ok (.invokestatic 61, 3) := by decide +kernel
theorem dL_law_211 : decode cL_law 211 = .ok (.ifCond .ne 15, 3) := by decide +kernel
theorem dL_law_214 : decode cL_law 214 = .ok (.aload_n 1, 1) := by decide +kernel
theorem dL_law_215 : decode cL_law 215 = .ok (.iconst 3, 1) := by decide +kernel
theorem dL_law_216 : decode cL_law 216 = .ok (.invokestatic 61, 3) := by decide +kernel
theorem dL_law_219 : decode cL_law 219 = .ok (.ifCond .ne 7, 3) := by decide +kernel
theorem dL_law_222 : decode cL_law 222 = .ok (.iconst 1, 1) := by decide +kernel
theorem dL_law_223 : decode cL_law 223 = .ok (.goto 4, 3) := by decide +kernel
theorem dL_law_226 : decode cL_law 226 = .ok (.iconst 0, 1) := by decide +kernel
theorem dL_law_227 : decode cL_law 227 = .ok (.istore_n 2, 1) := by decide +kernel
theorem dL_law_228 : decode cL_law 228 = .ok (.goto 291, 3) := by decide +kernel
theorem dL_law_231 : decode cL_law 231 = .ok (.aload_n 1, 1) := by decide +kernel
theorem dL_law_232 : decode cL_law 232 = .ok (.iconst 2, 1) := by decide +kernel
theorem dL_law_233 : decode cL_law 233 = .ok (.invokestatic 61, 3) := by decide +kernel
theorem dL_law_236 : decode cL_law 236 = .ok (.aload_n 1, 1) := by decide +kernel
theorem dL_law_237 : decode cL_law 237 = .ok (.iconst 3, 1) := by decide +kernel
theorem dL_law_238 : decode cL_law 238 = .ok (.invokestatic 61, 3) := by decide +kernel
theorem dL_law_241 : decode cL_law 241 = .ok (.iadd, 1) := by decide +kernel
theorem dL_law_242 : decode cL_law 242 = .ok (.istore 10, 2) := by decide +kernel
theorem dL_law_244 : decode cL_law 244 = .ok (.iload 5, 2) := by decide +kernel
theorem dL_law_246 : decode cL_law 246 = .ok (.iconst 4, 1) := by decide +kernel
theorem dL_law_247 : decode cL_law 247 = .ok (.irem, 1) := by decide +kernel
theorem dL_law_248 : decode cL_law 248 = .ok (.ifCond .gt 32, 3) := by decide +kernel
theorem dL_law_251 : decode cL_law 251 = .ok (.aload_n 1, 1) := by decide +kernel
theorem dL_law_252 : decode cL_law 252 = .ok (.invokevirtual 97, 3) := by decide +kernel
theorem dL_law_255 : decode cL_law 255 = .ok (.iload 10, 2) := by decide +kernel
theorem dL_law_257 : decode cL_law 257 = .ok (.if_icmp .ne 27, 3) := by decide +kernel
theorem dL_law_260 : decode cL_law 260 = .ok (.aload_n 1, 1) := by decide +kernel
theorem dL_law_261 : decode cL_law 261 = .ok (.iconst 4, 1) := by decide +kernel
theorem dL_law_262 : decode cL_law 262 = .ok (.invokestatic 61, 3) := by decide +kernel
theorem dL_law_265 : decode cL_law 265 = .ok (.iload 6, 2) := by decide +kernel
theorem dL_law_267 : decode cL_law 267 = .ok (.if_icmp .ne 17, 3) := by decide +kernel
theorem dL_law_270 : decode cL_law 270 = .ok (.aload_n 1, 1) := by decide +kernel
theorem dL_law_271 : decode cL_law 271 = .ok (.bipush 6, 2) := by decide +kernel
theorem dL_law_273 : decode cL_law 273 = .ok (.invokestatic 61, 3) := by decide +kernel
theorem dL_law_276 : decode cL_law 276 = .ok (.iconst (-1), 1) := by decide +kernel
theorem dL_law_277 : decode cL_law 277 = .ok (.if_icmp .ne 7, 3) := by decide +kernel
theorem dL_law_280 : decode cL_law 280 = .ok (.iconst 1, 1) := by decide +kernel
theorem dL_law_281 : decode cL_law 281 = .ok (.goto 4, 3) := by decide +kernel
theorem dL_law_284 : decode cL_law 284 = .ok (.iconst 0, 1) := by decide +kernel
theorem dL_law_285 : decode cL_law 285 = .ok (.istore_n 2, 1) := by decide +kernel
theorem dL_law_286 : decode cL_law 286 = .ok (.goto 233, 3) := by decide +kernel
theorem dL_law_289 : decode cL_law 289 = .ok (.aload_n 1, 1) := by decide +kernel
theorem dL_law_290 : decode cL_law 290 = .ok (.invokestatic 100, 3) := by decide +kernel
theorem dL_law_293 : decode cL_law 293 = .ok (.iload 7, 2) := by decide +kernel
theorem dL_law_295 : decode cL_law 295 = .ok (.ifCond .ge 8, 3) := by decide +kernel
theorem dL_law_298 : decode cL_law 298 = .ok (.ldc 17, 2) := by decide +kernel
theorem dL_law_300 : decode cL_law 300 = .ok (.goto 5, 3) := by decide +kernel
theorem dL_law_303 : decode cL_law 303 = .ok (.iload 7, 2) := by decide +kernel
theorem dL_law_305 : decode cL_law 305 = .ok (.if_icmp .ne 17, 3) := by decide +kernel
theorem dL_law_308 : decode cL_law 308 = .ok (.aload_n 1, 1) := by decide +kernel
theorem dL_law_309 : decode cL_law 309 = .ok (.iconst 4, 1) := by decide +kernel
theorem dL_law_310 : decode cL_law 310 = .ok (.invokestatic 61, 3) := by decide +kernel
theorem dL_law_313 : decode cL_law 313 = .ok (.iload 8, 2) := by decide +kernel
theorem dL_law_315 : decode cL_law 315 = .ok (.if_icmp .ne 7, 3) := by decide +kernel
theorem dL_law_318 : decode cL_law 318 = .ok (.iconst 1, 1) := by decide +kernel
theorem dL_law_319 : decode cL_law 319 = .ok (.goto 4, 3) := by decide +kernel
theorem dL_law_322 : decode cL_law 322 = .ok (.iconst 0, 1) := by decide +kernel
theorem dL_law_323 : decode cL_law 323 = .ok (.istore_n 2, 1) := by decide +kernel
theorem dL_law_324 : decode cL_law 324 = .ok (.goto 195, 3) := by decide +kernel
theorem dL_law_327 : decode cL_law 327 = .ok (.iload 5, 2) := by decide +kernel
theorem dL_law_329 : decode cL_law 329 = .ok (.bipush 60, 2) := by decide +kernel
theorem dL_law_331 : decode cL_law 331 = .ok (.irem, 1) := by decide +kernel
theorem dL_law_332 : decode cL_law 332 = .ok (.istore 11, 2) := by decide +kernel
theorem dL_law_334 : decode cL_law 334 = .ok (.aload_n 1, 1) := by decide +kernel
theorem dL_law_335 : decode cL_law 335 = .ok (.iconst 2, 1) := by decide +kernel
theorem dL_law_336 : decode cL_law 336 = .ok (.invokestatic 61, 3) := by decide +kernel
theorem dL_law_339 : decode cL_law 339 = .ok (.istore 12, 2) := by decide +kernel
theorem dL_law_341 : decode cL_law 341 = .ok (.aload_n 1, 1) := by decide +kernel
theorem dL_law_342 : decode cL_law 342 = .ok (.iload 11, 2) := by decide +kernel
theorem dL_law_344 : decode cL_law 344 = .ok (.invokestatic 102, 3) := by decide +kernel
theorem dL_law_347 : decode cL_law 347 = .ok (.istore 13, 2) := by decide +kernel
theorem dL_law_349 : decode cL_law 349 = .ok (.iload 13, 2) := by decide +kernel
theorem dL_law_351 : decode cL_law 351 = .ok (.ifCond .lt 71, 3) := by decide +kernel
theorem dL_law_354 : decode cL_law 354 = .ok (.aload_n 1, 1) := by decide +kernel
theorem dL_law_355 : decode cL_law 355 = .ok (.iconst 2, 1) := by decide +kernel
theorem dL_law_356 : decode cL_law 356 = .ok (.invokestatic 61, 3) := by decide +kernel
theorem dL_law_359 : decode cL_law 359 = .ok (.iload 12, 2) := by decide +kernel
theorem dL_law_361 : decode cL_law 361 = .ok (.iload 13, 2) := by decide +kernel
theorem dL_law_363 : decode cL_law 363 = .ok (.iadd, 1) := by decide +kernel
theorem dL_law_364 : decode cL_law 364 = .ok (.if_icmp .ne 58, 3) := by decide +kernel
theorem dL_law_367 : decode cL_law 367 = .ok (.iload 7, 2) := by decide +kernel
theorem dL_law_369 : decode cL_law 369 = .ok (.ifCond .lt 15, 3) := by decide +kernel
theorem dL_law_372 : decode cL_law 372 = .ok (.iload 7, 2) := by decide +kernel
theorem dL_law_374 : decode cL_law 374 = .ok (.iload 11, 2) := by decide +kernel
theorem dL_law_376 : decode cL_law 376 = .ok (.if_icmp .gt 8, 3) := by decide +kernel
theorem dL_law_379 : decode cL_law 379 = .ok (.iload 13, 2) := by decide +kernel
theorem dL_law_381 : decode cL_law 381 = .ok (.ifCond .le 41, 3) := by decide +kernel
theorem dL_law_384 : decode cL_law 384 = .ok (.aload_n 1, 1) := by decide +kernel
theorem dL_law_385 : decode cL_law 385 = .ok (.iconst 5, 1) := by decide +kernel
theorem dL_law_386 : decode cL_law 386 = .ok (.invokestatic 61, 3) := by decide +kernel
theorem dL_law_389 : decode cL_law 389 = .ok (.ifCond .lt 13, 3) := by decide +kernel
theorem dL_law_392 : decode cL_law 392 = .ok (.aload_n 1, 1) := by decide +kernel
theorem dL_law_393 : decode cL_law 393 = .ok (.iconst 5, 1) := by decide +kernel
theorem dL_law_394 : decode cL_law 394 = .ok (.invokestatic 61, 3) := by decide +kernel
theorem dL_law_397 : decode cL_law 397 = .ok (.iload 11, 2) := by decide +kernel
theorem dL_law_399 : decode cL_law 399 = .ok (.if_icmp .le 23, 3) := by decide +kernel
theorem dL_law_402 : decode cL_law 402 = .ok (.iload 13, 2) := by decide +kernel
theorem dL_law_404 : decode cL_law 404 = .ok (.ifCond .eq 14, 3) := by decide +kernel
theorem dL_law_407 : decode cL_law 407 = .ok (.aload_n 1, 1) := by decide +kernel
theorem dL_law_408 : decode cL_law 408 = .ok (.bipush 6, 2) := by decide +kernel
theorem dL_law_410 : decode cL_law 410 = .ok (.invokestatic 61, 3) := by decide +kernel
theorem dL_law_413 : decode cL_law 413 = .ok (.iload 11, 2) := by decide +kernel
theorem dL_law_415 : decode cL_law 415 = .ok (.if_icmp .gt 7, 3) := by decide +kernel
theorem dL_law_418 : decode cL_law 418 = .ok (.iconst 1, 1) := by decide +kernel
theorem dL_law_419 : decode cL_law 419 = .ok (.goto 4, 3) := by decide +kernel
theorem dL_law_422 : decode cL_law 422 = .ok (.iconst 0, 1) := by decide +kernel
theorem dL_law_423 : decode cL_law 423 = .ok (.istore_n 2, 1) := by decide +kernel
theorem dL_law_424 : decode cL_law 424 = .ok (.goto 95, 3) := by decide +kernel
theorem dL_law_427 : decode cL_law 427 = .ok (.aload_n 1, 1) := by decide +kernel
theorem dL_law_428 : decode cL_law 428 = .ok (.iconst 0, 1) := by decide +kernel
theorem dL_law_429 : decode cL_law 429 = .ok (.invokestatic 79, 3) := by decide +kernel
theorem dL_law_432 : decode cL_law 432 = .ok (.istore 14, 2) := by decide +kernel
theorem dL_law_434 : decode cL_law 434 = .ok (.aload_n 1, 1) := by decide +kernel
theorem dL_law_435 : decode cL_law 435 = .ok (.invokestatic 104, 3) := by decide +kernel
theorem dL_law_438 : decode cL_law 438 = .ok (.iload 7, 2) := by decide +kernel
theorem dL_law_440 : decode cL_law 440 = .ok (.ifCond .ge 8, 3) := by decide +kernel
theorem dL_law_443 : decode cL_law 443 = .ok (.ldc 17, 2) := by decide +kernel
theorem dL_law_445 : decode cL_law 445 = .ok (.goto 5, 3) := by decide +kernel
theorem dL_law_448 : decode cL_law 448 = .ok (.iload 14, 2) := by decide +kernel
theorem dL_law_450 : decode cL_law 450 = .ok (.if_icmp .ne 67, 3) := by decide +kernel
theorem dL_law_453 : decode cL_law 453 = .ok (.aload_n 1, 1) := by decide +kernel
theorem dL_law_454 : decode cL_law 454 = .ok (.iconst 4, 1) := by decide +kernel
theorem dL_law_455 : decode cL_law 455 = .ok (.invokestatic 61, 3) := by decide +kernel
theorem dL_law_458 : decode cL_law 458 = .ok (.iload 8, 2) := by decide +kernel
theorem dL_law_460 : decode cL_law 460 = .ok (.iload 14, 2) := by decide +kernel
theorem dL_law_462 : decode cL_law 462 = .ok (.isub, 1) := by decide +kernel
theorem dL_law_463 : decode cL_law 463 = .ok (.if_icmp .ne 54, 3) := by decide +kernel
theorem dL_law_466 : decode cL_law 466 = .ok (.iload 7, 2) := by decide +kernel
theorem dL_law_468 : decode cL_law 468 = .ok (.ifCond .gt 8, 3) := by decide +kernel
theorem dL_law_471 : decode cL_law 471 = .ok (.iload 14, 2) := by decide +kernel
theorem dL_law_473 : decode cL_law 473 = .ok (.ifCond .ne 44, 3) := by decide +kernel
theorem dL_law_476 : decode cL_law 476 = .ok (.iload 7, 2) := by decide +kernel
theorem dL_law_478 : decode cL_law 478 = .ok (.ifCond .lt 35, 3) := by decide +kernel
theorem dL_law_481 : decode cL_law 481 = .ok (.iload 14, 2) := by decide +kernel
theorem dL_law_483 : decode cL_law 483 = .ok (.iconst 1, 1) := by decide +kernel
theorem dL_law_484 : decode cL_law 484 = .ok (.if_icmp .lt 33, 3) := by decide +kernel
theorem dL_law_487 : decode cL_law 487 = .ok (.aload_n 1, 1) := by decide +kernel
theorem dL_law_488 : decode cL_law 488 = .ok (.invokestatic 84, 3) := by decide +kernel
theorem dL_law_491 : decode cL_law 491 = .ok (.ifCond .lt 26, 3) := by decide +kernel
theorem dL_law_494 : decode cL_law 494 = .ok (.aload_n 1, 1) := by decide +kernel
theorem dL_law_495 : decode cL_law 495 = .ok (.iconst 4, 1) := by decide +kernel
theorem dL_law_496 : decode cL_law 496 = .ok (.invokestatic 61, 3) := by decide +kernel
theorem dL_law_499 : decode cL_law 499 = .ok (.iload 8, 2) := by decide +kernel
theorem dL_law_501 : decode cL_law 501 = .ok (.if_icmp .ne 16, 3) := by decide +kernel
theorem dL_law_504 : decode cL_law 504 = .ok (.aload_n 1, 1) := by decide +kernel
theorem dL_law_505 : decode cL_law 505 = .ok (.invokestatic 104, 3) := by decide +kernel
theorem dL_law_508 : decode cL_law 508 = .ok (.iload 14, 2) := by decide +kernel
theorem dL_law_510 : decode cL_law 510 = .ok (.if_icmp .ne 7, 3) := by decide +kernel
theorem dL_law_513 : decode cL_law 513 = .ok (.iconst 1, 1) := by decide +kernel
theorem dL_law_514 : decode cL_law 514 = .ok (.goto 4, 3) := by decide +kernel
theorem dL_law_517 : decode cL_law 517 = .ok (.iconst 0, 1) := by decide +kernel
theorem dL_law_518 : decode cL_law 518 = .ok (.istore_n 2, 1) := by decide +kernel
theorem dL_law_519 : decode cL_law 519 = .ok (.iload_n 2, 1) := by decide +kernel
theorem dL_law_520 : decode cL_law 520 = .ok (.ifCond .eq 14, 3) := by decide +kernel
theorem dL_law_523 : decode cL_law 523 = .ok (.aload_n 1, 1) := by decide +kernel
theorem dL_law_524 : decode cL_law 524 = .ok (.invokestatic 87, 3) := by decide +kernel
theorem dL_law_527 : decode cL_law 527 = .ok (.ifCond .eq 7, 3) := by decide +kernel
theorem dL_law_530 : decode cL_law 530 = .ok (.iconst 1, 1) := by decide +kernel
theorem dL_law_531 : decode cL_law 531 = .ok (.goto 4, 3) := by decide +kernel
theorem dL_law_534 : decode cL_law 534 = .ok (.iconst 0, 1) := by decide +kernel
theorem dL_law_535 : decode cL_law 535 = .ok (.istore_n 2, 1) := by decide +kernel
theorem dL_law_536 : decode cL_law 536 = .ok (.iinc 3 1, 3) := by decide +kernel
theorem dL_law_539 : decode cL_law 539 = .ok (.goto (-478), 3) := by decide +kernel
theorem dL_law_542 : decode cL_law 542 = .ok (.iload_n 2, 1) := by decide +kernel
theorem dL_law_543 : decode cL_law 543 = .ok (.ifCond .eq 84, 3) := by decide +kernel
theorem dL_law_546 : decode cL_law 546 = .ok (.aload_n 1, 1) := by decide +kernel
theorem dL_law_547 : decode cL_law 547 = .ok (.iconst 0, 1) := by decide +kernel
theorem dL_law_548 : decode cL_law 548 = .ok (.invokestatic 95, 3) := by decide +kernel
theorem dL_law_551 : decode cL_law 551 = .ok (.ldc 17, 2) := by decide +kernel
theorem dL_law_553 : decode cL_law 553 = .ok (.if_icmp .ne 74, 3) := by decide +kernel
theorem dL_law_556 : decode cL_law 556 = .ok (.aload_n 1, 1) := by decide +kernel
theorem dL_law_557 : decode cL_law 557 = .ok (.ldc 106, 2) := by decide +kernel
theorem dL_law_559 : decode cL_law 559 = .ok (.invokestatic 95, 3) := by decide +kernel
theorem dL_law_562 : decode cL_law 562 = .ok (.ldc 17, 2) := by decide +kernel
theorem dL_law_564 : decode cL_law 564 = .ok (.if_icmp .ne 63, 3) := by decide +kernel
theorem dL_law_567 : decode cL_law 567 = .ok (.aload_n 1, 1) := by decide +kernel
theorem dL_law_568 : decode cL_law 568 = .ok (.iconst (-1), 1) := by decide +kernel
theorem dL_law_569 : decode cL_law 569 = .ok (.invokestatic 102, 3) := by decide +kernel
theorem dL_law_572 : decode cL_law 572 = .ok (.ldc 17, 2) := by decide +kernel
theorem dL_law_574 : decode cL_law 574 = .ok (.if_icmp .ne 53, 3) := by decide +kernel
theorem dL_law_577 : decode cL_law 577 = .ok (.aload_n 1, 1) := by decide +kernel
theorem dL_law_578 : decode cL_law 578 = .ok (.iconst (-1), 1) := by decide +kernel
theorem dL_law_579 : decode cL_law 579 = .ok (.invokestatic 81, 3) := by decide +kernel
theorem dL_law_582 : decode cL_law 582 = .ok (.ldc 17, 2) := by decide +kernel
theorem dL_law_584 : decode cL_law 584 = .ok (.if_icmp .ne 43, 3) := by decide +kernel
theorem dL_law_587 : decode cL_law 587 = .ok (.aload_n 1, 1) := by decide +kernel
theorem dL_law_588 : decode cL_law 588 = .ok (.iconst 0, 1) := by decide +kernel
theorem dL_law_589 : decode cL_law 589 = .ok (.iconst 4, 1) := by decide +kernel
theorem dL_law_590 : decode cL_law 590 = .ok (.invokestatic 76, 3) := by decide +kernel
theorem dL_law_593 : decode cL_law 593 = .ok (.ldc 48, 2) := by decide +kernel
theorem dL_law_595 : decode cL_law 595 = .ok (.if_icmp .ne 32, 3) := by decide +kernel
theorem dL_law_598 : decode cL_law 598 = .ok (.aload_n 1, 1) := by decide +kernel
theorem dL_law_599 : decode cL_law 599 = .ok (.aload_n 1, 1) := by decide +kernel
theorem dL_law_600 : decode cL_law 600 = .ok (.iconst 1, 1) := by decide +kernel
theorem dL_law_601 : decode cL_law 601 = .ok (.invokestatic 61, 3) := by decide +kernel
theorem dL_law_604 : decode cL_law 604 = .ok (.iconst 4, 1) := by decide +kernel
theorem dL_law_605 : decode cL_law 605 = .ok (.invokestatic 76, 3) := by decide +kernel
theorem dL_law_608 : decode cL_law 608 = .ok (.ldc 17, 2) := by decide +kernel
theorem dL_law_610 : decode cL_law 610 = .ok (.if_icmp .ne 17, 3) := by decide +kernel
theorem dL_law_613 : decode cL_law 613 = .ok (.aload_n 1, 1) := by decide +kernel
theorem dL_law_614 : decode cL_law 614 = .ok (.iconst (-1), 1) := by decide +kernel
theorem dL_law_615 : decode cL_law 615 = .ok (.invokestatic 68, 3) := by decide +kernel
theorem dL_law_618 : decode cL_law 618 = .ok (.ldc 17, 2) := by decide +kernel
theorem dL_law_620 : decode cL_law 620 = .ok (.if_icmp .ne 7, 3) := by decide +kernel
theorem dL_law_623 : decode cL_law 623 = .ok (.iconst 1, 1) := by decide +kernel
theorem dL_law_624 : decode cL_law 624 = .ok (.goto 4, 3) := by decide +kernel
theorem dL_law_627 : decode cL_law 627 = .ok (.iconst 0, 1) := by decide +kernel
theorem dL_law_628 : decode cL_law 628 = .ok (.ireturn, 1) := by decide +kernel
