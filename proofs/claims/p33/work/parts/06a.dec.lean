theorem dL_leastBid_94 : decode cL_leastBid 94 = .ok (.ireturn, 1) := by decide +kernel
theorem dL_leastBid_95 : decode cL_leastBid 95 = .ok (.aload_n 0, 1) := by decide +kernel
theorem dL_leastBid_96 : decode cL_leastBid 96 = .ok (.iload_n 1, 1) := by decide +kernel
theorem dL_leastBid_97 : decode cL_leastBid 97 = .ok (.iload_n 2, 1) := by decide +kernel
theorem dL_leastBid_98 : decode cL_leastBid 98 = .ok (.invokevirtual 46, 3) := by decide +kernel
theorem dL_leastBid_101 : decode cL_leastBid 101 = .ok (.iload 4, 2) := by decide +kernel
theorem dL_leastBid_103 : decode cL_leastBid 103 = .ok (.if_icmp .ne 22, 3) := by decide +kernel
theorem dL_leastBid_106 : decode cL_leastBid 106 = .ok (.aload_n 0, 1) := by decide +kernel
theorem dL_leastBid_107 : decode cL_leastBid 107 = .ok (.invokevirtual 56, 3) := by decide +kernel
theorem dL_leastBid_110 : decode cL_leastBid 110 = .ok (.iload_n 1, 1) := by decide +kernel
theorem dL_leastBid_111 : decode cL_leastBid 111 = .ok (.if_icmp .ne 14, 3) := by decide +kernel
theorem dL_leastBid_114 : decode cL_leastBid 114 = .ok (.aload_n 0, 1) := by decide +kernel
theorem dL_leastBid_115 : decode cL_leastBid 115 = .ok (.invokevirtual 60, 3) := by decide +kernel
theorem dL_leastBid_118 : decode cL_leastBid 118 = .ok (.ifCond .lt 7, 3) := by decide +kernel
theorem dL_leastBid_121 : decode cL_leastBid 121 = .ok (.iconst 1, 1) := by decide +kernel
theorem dL_leastBid_122 : decode cL_leastBid 122 = .ok (.goto 4, 3) := by decide +kernel
theorem dL_leastBid_125 : decode cL_leastBid 125 = .ok (.iconst 0, 1) := by decide +kernel
theorem dL_leastBid_126 : decode cL_leastBid 126 = .ok (.istore 5, 2) := by decide +kernel
theorem dL_leastBid_128 : decode cL_leastBid 128 = .ok (.iload 5, 2) := by decide +kernel
theorem dL_leastBid_130 : decode cL_leastBid 130 = .ok (.ifCond .eq 39, 3) := by decide +kernel
theorem dL_leastBid_133 : decode cL_leastBid 133 = .ok (.iload_n 2, 1) := by decide +kernel
theorem dL_leastBid_134 : decode cL_leastBid 134 = .ok (.ifCond .eq 31, 3) := by decide +kernel
theorem dL_leastBid_137 : decode cL_leastBid 137 = .ok (.aload_n 0, 1) := by decide +kernel
theorem dL_leastBid_138 : decode cL_leastBid 138 = .ok (.iload_n 1, 1) := by decide +kernel
theorem dL_leastBid_139 : decode cL_leastBid 139 = .ok (.iload_n 2, 1) := by decide +kernel
theorem dL_leastBid_140 : decode cL_leastBid 140 = .ok (.iconst 1, 1) := by decide +kernel
theorem dL_leastBid_141 : decode cL_leastBid 141 = .ok (.isub, 1) := by decide +kernel
theorem dL_leastBid_142 : decode cL_leastBid 142 = .ok (.invokevirtual 46, 3) := by decide +kernel
theorem dL_leastBid_145 : decode cL_leastBid 145 = .ok (.iload 4, 2) := by decide +kernel
theorem dL_leastBid_147 : decode cL_leastBid 147 = .ok (.if_icmp .ne 22, 3) := by decide +kernel
theorem dL_leastBid_150 : decode cL_leastBid 150 = .ok (.aload_n 0, 1) := by decide +kernel
theorem dL_leastBid_151 : decode cL_leastBid 151 = .ok (.invokevirtual 56, 3) := by decide +kernel
theorem dL_leastBid_154 : decode cL_leastBid 154 = .ok (.iload_n 1, 1) := by decide +kernel
theorem dL_leastBid_155 : decode cL_leastBid 155 = .ok (.if_icmp .eq 14, 3) := by decide +kernel
theorem dL_leastBid_158 : decode cL_leastBid 158 = .ok (.aload_n 0, 1) := by decide +kernel
theorem dL_leastBid_159 : decode cL_leastBid 159 = .ok (.invokevirtual 60, 3) := by decide +kernel
theorem dL_leastBid_162 : decode cL_leastBid 162 = .ok (.ifCond .lt 7, 3) := by decide +kernel
theorem dL_leastBid_165 : decode cL_leastBid 165 = .ok (.iconst 1, 1) := by decide +kernel
theorem dL_leastBid_166 : decode cL_leastBid 166 = .ok (.goto 4, 3) := by decide +kernel
theorem dL_leastBid_169 : decode cL_leastBid 169 = .ok (.iconst 0, 1) := by decide +kernel
theorem dL_leastBid_170 : decode cL_leastBid 170 = .ok (.ireturn, 1) := by decide +kernel
set_option maxRecDepth 20000 in
theorem ggL_month_X5_winner : GoodIn wsL_month wsX5_winner := goodIn_r _ [6, 7, 8, 9, 10, 11, 12, 13, 14, 15, 16, 17, 18, 19, 20, 21, 22, 23, 24, 25, 26, 27, 28, 29, 30, 31, 32, 33, 34, 35, 36, 37, 38, 39, 40, 41, 42, 43, 44, 45, 46, 47, 48, 49, 50, 51, 52, 53, 54, 55, 56, 57, 58, 59, 60, 61, 62, 63, 64, 65, 66, 67, 68, 69, 70, 71, 72, 73, 74, 75, 76, 77, 78, 79, 80, 81, 82, 83, 84, 85, 86, 87, 88, 89, 90, 91, 92, 93, 94, 95, 96, 97, 98, 99, 100, 101, 102, 103, 104, 105, 209, 210, 211, 212, 213, 214, 215, 216, 217, 218, 219, 220, 221, 222, 223, 224, 225, 226, 227, 228, 229, 230, 231, 232, 233, 234, 235, 236] (by decide +kernel) (by decide +kernel)
set_option maxRecDepth 20000 in
theorem gL_month_X5_winner : GoodIn wsL_month (wsV RL 56 RX5 yX5_winner wsX5_winner) := goodIn_app (goodIn_of _ (by decide +kernel)) ggL_month_X5_winner
set_option maxRecDepth 20000 in
theorem ggL_month_X5_pot : GoodIn wsL_month wsX5_pot := goodIn_r _ [109, 7, 8, 9, 110, 10, 11, 12, 13, 14, 15, 16, 17, 18, 19, 20, 21, 22, 23, 24, 25, 26, 27, 28, 29, 30, 31, 111, 45, 46, 35, 47, 39, 40, 48, 49, 50, 42, 51, 52, 53, 54, 55, 56, 57, 58, 59, 60, 61, 62, 63, 64, 65, 66, 67, 68, 209, 210, 211, 212, 213, 214, 215, 216, 234, 235, 236, 217, 218, 219, 220, 221, 222, 223, 224, 225, 226, 227, 228, 229, 230, 231, 232, 233] (by decide +kernel) (by decide +kernel)
set_option maxRecDepth 20000 in
theorem gL_month_X5_pot : GoodIn wsL_month (wsV RL 63 RX5 yX5_pot wsX5_pot) := goodIn_app (goodIn_of _ (by decide +kernel)) ggL_month_X5_pot
set_option maxRecDepth 20000 in
theorem ggL_month_X5_about : GoodIn wsL_month wsX5_about := goodIn_ca (goodIn_r _ [115, 116, 117, 8, 118, 119, 120, 121, 122, 123, 124, 125, 13, 126, 15, 25, 127, 128, 129, 130, 20, 131, 132, 133, 134, 24, 135, 136, 137, 138, 31, 209, 210, 211, 212, 213, 214, 215, 216, 217, 218, 219, 220, 221, 222, 223, 224, 225, 226, 227, 228, 229, 230, 231, 232, 233] (by decide +kernel) (by decide +kernel)) (goodIn_sub (fun _ h => List.mem_cons_of_mem _ (List.mem_append_left _ (List.mem_append_left _ (List.mem_append_right _ h)))) (by decide +kernel))
set_option maxRecDepth 20000 in
theorem gL_month_X5_about : GoodIn wsL_month (wsV RL 39 RX5 yX5_about wsX5_about) := goodIn_app (goodIn_of _ (by decide +kernel)) ggL_month_X5_about
set_option maxRecDepth 20000 in
theorem ggL_month_L_sum : GoodIn wsL_month wsL_sum := goodIn_ca (goodIn_ca (goodIn_r _ [142, 143, 144, 145, 5, 146, 116, 117, 8, 147, 148, 149, 150, 151, 152, 153, 154, 155, 156, 157, 158, 159, 160, 161, 162, 163, 164, 63, 64, 13, 65, 15, 209, 210, 211, 212, 213, 214, 215, 216, 217, 218, 219, 220, 221, 222, 223, 224, 225, 226, 227, 228, 229, 230, 231, 232, 233] (by decide +kernel) (by decide +kernel)) (goodIn_sub (fun _ h => List.mem_cons_of_mem _ (List.mem_append_left _ (List.mem_append_left _ (List.mem_append_right _ h)))) (by decide +kernel))) (goodIn_sub (fun _ h => List.mem_cons_of_mem _ (List.mem_append_left _ (List.mem_append_right _ h))) (by decide +kernel))
set_option maxRecDepth 20000 in
theorem gL_month_L_sum : GoodIn wsL_month (va_wsS RL 42 yL_sum wsL_sum) := goodIn_app (goodIn_of _ (by decide +kernel)) ggL_month_L_sum
set_option maxRecDepth 20000 in
theorem ggL_month_X5_member : GoodIn wsL_month wsX5_member := goodIn_ca (goodIn_ca (goodIn_r _ [146, 116, 117, 8, 147, 148, 149, 150, 151, 152, 153, 154, 155, 156, 157, 158, 159, 160, 5, 161, 162, 163, 164, 63, 64, 13, 65, 15, 209, 210, 211, 212, 213, 214, 215, 216, 217, 218, 219, 220, 221, 222, 223, 224, 225, 226, 227, 228, 229, 230, 231, 232, 233] (by decide +kernel) (by decide +kernel)) (goodIn_sub (fun _ h => List.mem_cons_of_mem _ (List.mem_append_left _ (List.mem_append_left _ (List.mem_append_right _ h)))) (by decide +kernel))) (goodIn_sub (fun _ h => List.mem_cons_of_mem _ (List.mem_append_left _ (List.mem_append_right _ h))) (by decide +kernel))
set_option maxRecDepth 20000 in
theorem gL_month_X5_member : GoodIn wsL_month (wsV RL 26 RX5 yX5_member wsX5_member) := goodIn_app (goodIn_of _ (by decide +kernel)) ggL_month_X5_member
set_option maxRecDepth 20000 in
theorem ggL_month_X5_change : GoodIn wsL_month wsX5_change := goodIn_ca (goodIn_r _ [168, 7, 8, 9, 147, 158, 159, 160, 5, 161, 162, 163, 164, 63, 64, 13, 65, 15, 10, 11, 12, 14, 16, 17, 18, 19, 20, 21, 22, 23, 24, 25, 26, 27, 28, 29, 30, 31, 32, 33, 34, 35, 36, 37, 38, 39, 40, 41, 42, 43, 44, 45, 46, 47, 48, 49, 50, 51, 52, 53, 54, 55, 56, 57, 58, 59, 60, 61, 62, 66, 67, 68, 69, 70, 71, 72, 73, 74, 75, 76, 77, 78, 79, 80, 81, 82, 83, 84, 85, 86, 87, 88, 89, 90, 91, 92, 93, 94, 95, 96, 97, 98, 99, 100, 101, 102, 103, 104, 105, 209, 210, 211, 212, 213, 214, 215, 216, 217, 218, 219, 220, 221, 222, 223, 224, 225, 226, 227, 228, 229, 230, 231, 232, 233, 234, 235, 236] (by decide +kernel) (by decide +kernel)) (goodIn_sub (fun _ h => List.mem_cons_of_mem _ (List.mem_append_left _ (List.mem_append_right _ h))) (by decide +kernel))
set_option maxRecDepth 20000 in
theorem gL_month_X5_change : GoodIn wsL_month (wsV RL 66 RX5 yX5_change wsX5_change) := goodIn_app (goodIn_of _ (by decide +kernel)) ggL_month_X5_change
set_option maxRecDepth 20000 in
theorem ggL_month_X5_when : GoodIn wsL_month wsX5_when := goodIn_ca (goodIn_r _ [172, 7, 8, 119, 9, 173, 158, 159, 160, 5, 161, 162, 163, 164, 63, 64, 13, 65, 15, 10, 11, 12, 14, 16, 17, 18, 19, 20, 21, 22, 23, 24, 25, 26, 27, 28, 29, 30, 31, 174, 175, 176, 177, 178, 124, 125, 126, 32, 33, 34, 35, 36, 37, 38, 39, 40, 41, 42, 43, 44, 45, 46, 47, 48, 49, 50, 51, 52, 53, 54, 55, 56, 57, 58, 59, 60, 61, 62, 66, 67, 68, 69, 70, 71, 72, 73, 74, 75, 76, 77, 78, 79, 80, 81, 82, 83, 84, 85, 86, 87, 88, 89, 90, 91, 92, 93, 94, 95, 96, 97, 98, 99, 100, 101, 102, 103, 104, 105, 209, 210, 211, 212, 213, 214, 215, 216, 217, 218, 219, 220, 221, 222, 223, 224, 225, 226, 227, 228, 229, 230, 231, 232, 233, 234, 235, 236] (by decide +kernel) (by decide +kernel)) (goodIn_sub (fun _ h => List.mem_cons_of_mem _ (List.mem_append_left _ (List.mem_append_right _ h))) (by decide +kernel))
set_option maxRecDepth 20000 in
theorem gL_month_X5_when : GoodIn wsL_month (wsV RL 69 RX5 yX5_when wsX5_when) := goodIn_app (goodIn_of _ (by decide +kernel)) ggL_month_X5_when
set_option maxRecDepth 20000 in
theorem ggL_month_X5_month : GoodIn wsL_month wsX5_month := goodIn_ca (goodIn_r _ [182, 183, 184, 8, 185, 9, 174, 175, 176, 13, 177, 16, 178, 124, 125, 126, 15, 25, 186, 187, 188, 189, 190, 191, 192, 193, 194, 87, 88, 89, 195, 11, 12, 14, 17, 18, 19, 20, 21, 22, 23, 24, 26, 27, 28, 29, 30, 31, 32, 33, 34, 35, 36, 37, 38, 39, 40, 41, 42, 43, 44, 45, 46, 47, 48, 49, 50, 51, 52, 53, 54, 55, 56, 57, 58, 59, 60, 61, 62, 63, 64, 65, 66, 67, 68, 69, 70, 71, 72, 73, 74, 75, 76, 77, 78, 79, 80, 81, 82, 83, 84, 85, 86, 90, 91, 92, 93, 94, 95, 96, 97, 98, 99, 100, 101, 102, 103, 104, 105, 209, 210, 211, 212, 213, 214, 215, 216, 217, 218, 219, 220, 221, 222, 223, 224, 225, 226, 227, 228, 229, 230, 231, 232, 233, 237, 238, 239, 234, 235, 236] (by decide +kernel) (by decide +kernel)) (goodIn_sub (fun _ h => List.mem_cons_of_mem _ (List.mem_append_right _ h)) (by decide +kernel))
set_option maxRecDepth 20000 in
theorem gL_month_X5_month : GoodIn wsL_month (wsV RL 72 RX5 yX5_month wsX5_month) := goodIn_app (goodIn_of _ (by decide +kernel)) ggL_month_X5_month
set_option maxRecDepth 20000 in
theorem ggL_month_X5_leastBid : GoodIn wsL_month wsX5_leastBid := goodIn_ca (goodIn_r _ [199, 7, 8, 9, 173, 149, 158, 159, 160, 5, 161, 162, 163, 164, 63, 64, 13, 65, 15, 10, 11, 12, 14, 16, 17, 18, 19, 20, 21, 22, 23, 24, 25, 26, 27, 28, 29, 30, 31, 111, 45, 46, 35, 47, 39, 40, 48, 49, 50, 42, 51, 52, 53, 54, 55, 56, 57, 58, 59, 60, 61, 62, 66, 67, 68, 200, 74, 75, 76, 77, 78, 79, 80, 81, 201, 202, 203, 204, 205, 206, 88, 207, 73, 82, 83, 84, 85, 41, 86, 87, 89, 208, 70, 71, 72, 37, 43, 209, 210, 211, 212, 213, 214, 215, 216, 217, 218, 219, 220, 221, 222, 223, 224, 225, 226, 227, 228, 229, 230, 231, 232, 233, 234, 235, 236] (by decide +kernel) (by decide +kernel)) (goodIn_sub (fun _ h => List.mem_cons_of_mem _ (List.mem_append_left _ (List.mem_append_right _ h))) (by decide +kernel))
set_option maxRecDepth 20000 in
theorem gL_month_X5_leastBid : GoodIn wsL_month (wsV RL 53 RX5 yX5_leastBid wsX5_leastBid) := goodIn_app (goodIn_of _ (by decide +kernel)) ggL_month_X5_leastBid
theorem dL_month_0 : decode cL_month 0 = .ok (.aload_n 0, 1) := by decide +kernel
theorem dL_month_1 : decode cL_month 1 = .ok (.invokevirtual 56, 3) := by decide +kernel
theorem dL_month_4 : decode cL_month 4 = .ok (.istore_n 3, 1) := by decide +kernel
theorem dL_month_5 : decode cL_month 5 = .ok (.aload_n 0, 1) := by decide +kernel
theorem dL_month_6 : decode cL_month 6 = .ok (.invokevirtual 63, 3) := by decide +kernel
theorem dL_month_9 : decode cL_month 9 = .ok (.istore 4, 2) := by decide +kernel
theorem dL_month_11 : decode cL_month 11 = .ok (.aload_n 0, 1) := by decide +kernel
theorem dL_month_12 : decode cL_month 12 = .ok (.iconst 4, 1) := by decide +kernel
theorem dL_month_13 : decode cL_month 13 = .ok (.invokevirtual 39, 3) := by decide +kernel
theorem dL_month_16 : decode cL_month 16 = .ok (.istore 5, 2) := by decide +kernel
theorem dL_month_18 : decode cL_month 18 = .ok (.aload_n 0, 1) := by decide +kernel
theorem dL_month_19 : decode cL_month 19 = .ok (.iload_n 1, 1) := by decide +kernel
theorem dL_month_20 : decode cL_month 20 = .ok (.bipush 10, 2) := by decide +kernel
theorem dL_month_22 : decode cL_month 22 = .ok (.invokestatic 42, 3) := by decide +kernel
theorem dL_month_25 : decode cL_month 25 = .ok (.istore 6, 2) := by decide +kernel
theorem dL_month_27 : decode cL_month 27 = .ok (.aload_n 0, 1) := by decide +kernel
theorem dL_month_28 : decode cL_month 28 = .ok (.iload_n 1, 1) := by decide +kernel
theorem dL_month_29 : decode cL_month 29 = .ok (.bipush 6, 2) := by decide +kernel
theorem dL_month_31 : decode cL_month 31 = .ok (.invokestatic 42, 3) := by decide +kernel
theorem dL_month_34 : decode cL_month 34 = .ok (.aload_n 0, 1) := by decide +kernel
theorem dL_month_35 : decode cL_month 35 = .ok (.iload_n 1, 1) := by decide +kernel
theorem dL_month_36 : decode cL_month 36 = .ok (.bipush 7, 2) := by decide +kernel
theorem dL_month_38 : decode cL_month 38 = .ok (.invokestatic 42, 3) := by decide +kernel
theorem dL_month_41 : decode cL_month 41 = .ok (.iadd, 1) := by decide +kernel
theorem dL_month_42 : decode cL_month 42 = .ok (.istore 7, 2) := by decide +kernel
theorem dL_month_44 : decode cL_month 44 = .ok (.iconst 0, 1) := by decide +kernel
theorem dL_month_45 : decode cL_month 45 = .ok (.istore 8, 2) := by decide +kernel
theorem dL_month_47 : decode cL_month 47 = .ok (.iload 8, 2) := by decide +kernel
theorem dL_month_49 : decode cL_month 49 = .ok (.iload_n 1, 1) := by decide +kernel
theorem dL_month_50 : decode cL_month 50 = .ok (.if_icmp .ge 40, 3) := by decide +kernel
theorem dL_month_53 : decode cL_month 53 = .ok (.aload_n 2, 1) := by decide +kernel
theorem dL_month_54 : decode cL_month 54 = .ok (.iload 8, 2) := by decide +kernel
theorem dL_month_56 : decode cL_month 56 = .ok (.aload_n 0, 1) := by decide +kernel
theorem dL_month_57 : decode cL_month 57 = .ok (.iload 8, 2) := by decide +kernel
theorem dL_month_59 : decode cL_month 59 = .ok (.iconst 0, 1) := by decide +kernel
theorem dL_month_60 : decode cL_month 60 = .ok (.invokevirtual 26, 3) := by decide +kernel
theorem dL_month_63 : decode cL_month 63 = .ok (.aload_n 0, 1) := by decide +kernel
theorem dL_month_64 : decode cL_month 64 = .ok (.iload 8, 2) := by decide +kernel
theorem dL_month_66 : decode cL_month 66 = .ok (.invokevirtual 66, 3) := by decide +kernel
theorem dL_month_69 : decode cL_month 69 = .ok (.iadd, 1) := by decide +kernel
theorem dL_month_70 : decode cL_month 70 = .ok (.iastore, 1) := by decide +kernel
theorem dL_month_71 : decode cL_month 71 = .ok (.aload_n 2, 1) := by decide +kernel
theorem dL_month_72 : decode cL_month 72 = .ok (.bipush 8, 2) := by decide +kernel
theorem dL_month_74 : decode cL_month 74 = .ok (.iload 8, 2) := by decide +kernel
theorem dL_month_76 : decode cL_month 76 = .ok (.iadd, 1) := by decide +kernel
theorem dL_month_77 : decode cL_month 77 = .ok (.aload_n 0, 1) := by decide +kernel
theorem dL_month_78 : decode cL_month 78 = .ok (.iload 8, 2) := by decide +kernel
theorem dL_month_80 : decode cL_month 80 = .ok (.invokevirtual 69, 3) := by decide +kernel
theorem dL_month_83 : decode cL_month 83 = .ok (.iastore, 1) := by decide +kernel
theorem dL_month_84 : decode cL_month 84 = .ok (.iinc 8 1, 3) := by decide +kernel
theorem dL_month_87 : decode cL_month 87 = .ok (.goto (-40), 3) := by decide +kernel
theorem dL_month_90 : decode cL_month 90 = .ok (.aload_n 0, 1) := by decide +kernel
theorem dL_month_91 : decode cL_month 91 = .ok (.iconst 2, 1) := by decide +kernel
theorem dL_month_92 : decode cL_month 92 = .ok (.invokevirtual 39, 3) := by decide +kernel
theorem dL_month_95 : decode cL_month 95 = .ok (.istore 8, 2) := by decide +kernel
theorem dL_month_97 : decode cL_month 97 = .ok (.aload_n 0, 1) := by decide +kernel
theorem dL_month_98 : decode cL_month 98 = .ok (.iconst 1, 1) := by decide +kernel
theorem dL_month_99 : decode cL_month 99 = .ok (.invokevirtual 39, 3) := by decide +kernel
theorem dL_month_102 : decode cL_month 102 = .ok (.ifCond .ne 20, 3) := by decide +kernel
theorem dL_month_105 : decode cL_month 105 = .ok (.iload_n 3, 1) := by decide +kernel
theorem dL_month_106 : decode cL_month 106 = .ok (.ldc 29, 2) := by decide +kernel
theorem dL_month_108 : decode cL_month 108 = .ok (.if_icmp .ne 12, 3) := by decide +kernel
theorem dL_month_111 : decode cL_month 111 = .ok (.iload 4, 2) := by decide +kernel
theorem dL_month_113 : decode cL_month 113 = .ok (.ifCond .ne 7, 3) := by decide +kernel
theorem dL_month_116 : decode cL_month 116 = .ok (.iconst 1, 1) := by decide +kernel
theorem dL_month_117 : decode cL_month 117 = .ok (.goto 4, 3) := by decide +kernel
theorem dL_month_120 : decode cL_month 120 = .ok (.iconst 0, 1) := by decide +kernel
theorem dL_month_121 : decode cL_month 121 = .ok (.ireturn, 1) := by decide +kernel
theorem dL_month_122 : decode cL_month 122 = .ok (.aload_n 0, 1) := by decide +kernel
theorem dL_month_123 : decode cL_month 123 = .ok (.invokevirtual 72, 3) := by decide +kernel
theorem dL_month_126 : decode cL_month 126 = .ok (.istore 9, 2) := by decide +kernel
theorem dL_month_128 : decode cL_month 128 = .ok (.iload 9, 2) := by decide +kernel
theorem dL_month_130 : decode cL_month 130 = .ok (.iload_n 3, 1) := by decide +kernel
theorem dL_month_131 : decode cL_month 131 = .ok (.if_icmp .ne 65, 3) := by decide +kernel
theorem dL_month_134 : decode cL_month 134 = .ok (.aload_n 0, 1) := by decide +kernel
theorem dL_month_135 : decode cL_month 135 = .ok (.iconst 2, 1) := by decide +kernel
theorem dL_month_136 : decode cL_month 136 = .ok (.invokevirtual 39, 3) := by decide +kernel
theorem dL_month_139 : decode cL_month 139 = .ok (.iload 8, 2) := by decide +kernel
theorem dL_month_141 : decode cL_month 141 = .ok (.iconst 1, 1) := by decide +kernel
theorem dL_month_142 : decode cL_month 142 = .ok (.iadd, 1) := by decide +kernel
theorem dL_month_143 : decode cL_month 143 = .ok (.if_icmp .ne 53, 3) := by decide +kernel
theorem dL_month_146 : decode cL_month 146 = .ok (.aload_n 0, 1) := by decide +kernel
theorem dL_month_147 : decode cL_month 147 = .ok (.iload_n 1, 1) := by decide +kernel
theorem dL_month_148 : decode cL_month 148 = .ok (.bipush 6, 2) := by decide +kernel
theorem dL_month_150 : decode cL_month 150 = .ok (.invokestatic 42, 3) := by decide +kernel
theorem dL_month_153 : decode cL_month 153 = .ok (.aload_n 0, 1) := by decide +kernel
theorem dL_month_154 : decode cL_month 154 = .ok (.iload_n 1, 1) := by decide +kernel
theorem dL_month_155 : decode cL_month 155 = .ok (.bipush 7, 2) := by decide +kernel
theorem dL_month_157 : decode cL_month 157 = .ok (.invokestatic 42, 3) := by decide +kernel
theorem dL_month_160 : decode cL_month 160 = .ok (.iadd, 1) := by decide +kernel
theorem dL_month_161 : decode cL_month 161 = .ok (.iload 7, 2) := by decide +kernel
theorem dL_month_163 : decode cL_month 163 = .ok (.iload 4, 2) := by decide +kernel
theorem dL_month_165 : decode cL_month 165 = .ok (.iadd, 1) := by decide +kernel
theorem dL_month_166 : decode cL_month 166 = .ok (.if_icmp .ne 30, 3) := by decide +kernel
theorem dL_month_169 : decode cL_month 169 = .ok (.iload 4, 2) := by decide +kernel
theorem dL_month_171 : decode cL_month 171 = .ok (.aload_n 0, 1) := by decide +kernel
theorem dL_month_172 : decode cL_month 172 = .ok (.iconst 3, 1) := by decide +kernel
theorem dL_month_173 : decode cL_month 173 = .ok (.invokevirtual 39, 3) := by decide +kernel
theorem dL_month_176 : decode cL_month 176 = .ok (.irem, 1) := by decide +kernel
theorem dL_month_177 : decode cL_month 177 = .ok (.ifCond .ne 19, 3) := by decide +kernel
theorem dL_month_180 : decode cL_month 180 = .ok (.aload_n 0, 1) := by decide +kernel
theorem dL_month_181 : decode cL_month 181 = .ok (.iload_n 1, 1) := by decide +kernel
theorem dL_month_182 : decode cL_month 182 = .ok (.iconst 2, 1) := by decide +kernel
theorem dL_month_183 : decode cL_month 183 = .ok (.invokestatic 42, 3) := by decide +kernel
theorem dL_month_186 : decode cL_month 186 = .ok (.aload_n 0, 1) := by decide +kernel
theorem dL_month_187 : decode cL_month 187 = .ok (.iload_n 1, 1) := by decide +kernel
theorem dL_month_188 : decode cL_month 188 = .ok (.iconst 3, 1) := by decide +kernel
theorem dL_month_189 : decode cL_month 189 = .ok (.invokestatic 42, 3) := by decide +kernel
theorem dL_month_192 : decode cL_month 192 = .ok (.iadd, 1) := by decide +kernel
theorem dL_month_193 : decode cL_month 193 = .ok (.ifCond .eq 5, 3) := by decide +kernel
theorem dL_month_196 : decode cL_month 196 = .ok (.iconst 0, 1) := by decide +kernel
theorem dL_month_197 : decode cL_month 197 = .ok (.ireturn, 1) := by decide +kernel
theorem dL_month_198 : decode cL_month 198 = .ok (.iconst 0, 1) := by decide +kernel
theorem dL_month_199 : decode cL_month 199 = .ok (.istore 10, 2) := by decide +kernel
theorem dL_month_201 : decode cL_month 201 = .ok (.iload 10, 2) := by decide +kernel
theorem dL_month_203 : decode cL_month 203 = .ok (.iload_n 1, 1) := by decide +kernel
theorem dL_month_204 : decode cL_month 204 = .ok (.if_icmp .ge 87, 3) := by decide +kernel
theorem dL_month_207 : decode cL_month 207 = .ok (.aload_n 0, 1) := by decide +kernel
theorem dL_month_208 : decode cL_month 208 = .ok (.iload 10, 2) := by decide +kernel
theorem dL_month_210 : decode cL_month 210 = .ok (.iconst 0, 1) := by decide +kernel
theorem dL_month_211 : decode cL_month 211 = .ok (.invokevirtual 26, 3) := by decide +kernel
theorem dL_month_214 : decode cL_month 214 = .ok (.aload_n 2, 1) := by decide +kernel
theorem dL_month_215 : decode cL_month 215 = .ok (.iload 10, 2) := by decide +kernel
theorem dL_month_217 : decode cL_month 217 = .ok (.iaload, 1) := by decide +kernel
theorem dL_month_218 : decode cL_month 218 = .ok (.if_icmp .ne 35, 3) := by decide +kernel
theorem dL_month_221 : decode cL_month 221 = .ok (.aload_n 2, 1) := by decide +kernel
theorem dL_month_222 : decode cL_month 222 = .ok (.bipush 8, 2) := by decide +kernel
theorem dL_month_224 : decode cL_month 224 = .ok (.iload 10, 2) := by decide +kernel
theorem dL_month_226 : decode cL_month 226 = .ok (.iadd, 1) := by decide +kernel
theorem dL_month_227 : decode cL_month 227 = .ok (.iaload, 1) := by decide +kernel
theorem dL_month_228 : decode cL_month 228 = .ok (.iload 8, 2) := by decide +kernel
theorem dL_month_230 : decode cL_month 230 = .ok (.if_icmp .ne 7, 3) := by decide +kernel
theorem dL_month_233 : decode cL_month 233 = .ok (.iconst 1, 1) := by decide +kernel
theorem dL_month_234 : decode cL_month 234 = .ok (.goto 4, 3) := by decide +kernel
theorem dL_month_237 : decode cL_month 237 = .ok (.iconst 0, 1) := by decide +kernel
theorem dL_month_238 : decode cL_month 238 = .ok (.iload 10, 2) := by decide +kernel
theorem dL_month_240 : decode cL_month 240 = .ok (.iload 9, 2) := by decide +kernel
theorem dL_month_242 : decode cL_month 242 = .ok (.if_icmp .ne 7, 3) := by decide +kernel
theorem dL_month_245 : decode cL_month 245 = .ok (.iconst 1, 1) := by decide +kernel
theorem dL_month_246 : decode cL_month 246 = .ok (.goto 4, 3) := by decide +kernel
theorem dL_month_249 : decode cL_month 249 = .ok (.iconst 0, 1) := by decide +kernel
theorem dL_month_250 : decode cL_month 250 = .ok (.if_icmp .eq 5, 3) := by decide +kernel
theorem dL_month_253 : decode cL_month 253 = .ok (.iconst 0, 1) := by decide +kernel
theorem dL_month_254 : decode cL_month 254 = .ok (.ireturn, 1) := by decide +kernel
theorem dL_month_255 : decode cL_month 255 = .ok (.aload_n 2, 1) := by decide +kernel
theorem dL_month_256 : decode cL_month 256 = .ok (.bipush 8, 2) := by decide +kernel
theorem dL_month_258 : decode cL_month 258 = .ok (.iload 10, 2) := by decide +kernel
theorem dL_month_260 : decode cL_month 260 = .ok (.iadd, 1) := by decide +kernel
theorem dL_month_261 : decode cL_month 261 = .ok (.iaload, 1) := by decide +kernel
theorem dL_month_262 : decode cL_month 262 = .ok (.iload 8, 2) := by decide +kernel
theorem dL_month_264 : decode cL_month 264 = .ok (.if_icmp .le 21, 3) := by decide +kernel
theorem dL_month_267 : decode cL_month 267 = .ok (.aload_n 0, 1) := by decide +kernel
theorem dL_month_268 : decode cL_month 268 = .ok (.iload 10, 2) := by decide +kernel
theorem dL_month_270 : decode cL_month 270 = .ok (.invokevirtual 69, 3) := by decide +kernel
theorem dL_month_273 : decode cL_month 273 = .ok (.aload_n 2, 1) := by decide +kernel
theorem dL_month_274 : decode cL_month 274 = .ok (.bipush 8, 2) := by decide +kernel
theorem dL_month_276 : decode cL_month 276 = .ok (.iload 10, 2) := by decide +kernel
theorem dL_month_278 : decode cL_month 278 = .ok (.iadd, 1) := by decide +kernel
theorem dL_month_279 : decode cL_month 279 = .ok (.iaload, 1) := by decide +kernel
theorem dL_month_280 : decode cL_month 280 = .ok (.if_icmp .eq 5, 3) := by decide +kernel
theorem dL_month_283 : decode cL_month 283 = .ok (.iconst 0, 1) := by decide +kernel
theorem dL_month_284 : decode cL_month 284 = .ok (.ireturn, 1) := by decide +kernel
theorem dL_month_285 : decode cL_month 285 = .ok (.iinc 10 1, 3) := by decide +kernel
theorem dL_month_288 : decode cL_month 288 = .ok (.goto (-87), 3) := by decide +kernel
theorem dL_month_291 : decode cL_month 291 = .ok (.iload 9, 2) := by decide +kernel
theorem dL_month_293 : decode cL_month 293 = .ok (.ldc 29, 2) := by decide +kernel
theorem dL_month_295 : decode cL_month 295 = .ok (.if_icmp .ne 22, 3) := by decide +kernel
theorem dL_month_298 : decode cL_month 298 = .ok (.aload_n 0, 1) := by decide +kernel
theorem dL_month_299 : decode cL_month 299 = .ok (.iconst 4, 1) := by decide +kernel
theorem dL_month_300 : decode cL_month 300 = .ok (.invokevirtual 39, 3) := by decide +kernel
theorem dL_month_303 : decode cL_month 303 = .ok (.iload 5, 2) := by decide +kernel
theorem dL_month_305 : decode cL_month 305 = .ok (.iload 4, 2) := by decide +kernel
theorem dL_month_307 : decode cL_month 307 = .ok (.iadd, 1) := by decide +kernel
theorem dL_month_308 : decode cL_month 308 = .ok (.if_icmp .ne 7, 3) := by decide +kernel
theorem dL_month_311 : decode cL_month 311 = .ok (.iconst 1, 1) := by decide +kernel
theorem dL_month_312 : decode cL_month 312 = .ok (.goto 4, 3) := by decide +kernel
theorem dL_month_315 : decode cL_month 315 = .ok (.iconst 0, 1) := by decide +kernel
theorem dL_month_316 : decode cL_month 316 = .ok (.ireturn, 1) := by decide +kernel
theorem dL_month_317 : decode cL_month 317 = .ok (.aload_n 0, 1) := by decide +kernel
theorem dL_month_318 : decode cL_month 318 = .ok (.iload 9, 2) := by decide +kernel
theorem dL_month_320 : decode cL_month 320 = .ok (.iconst 4, 1) := by decide +kernel
theorem dL_month_321 : decode cL_month 321 = .ok (.invokevirtual 26, 3) := by decide +kernel
theorem dL_month_324 : decode cL_month 324 = .ok (.iconst 1, 1) := by decide +kernel
theorem dL_month_325 : decode cL_month 325 = .ok (.if_icmp .ne 59, 3) := by decide +kernel
theorem dL_month_328 : decode cL_month 328 = .ok (.aload_n 0, 1) := by decide +kernel
theorem dL_month_329 : decode cL_month 329 = .ok (.iload 9, 2) := by decide +kernel
theorem dL_month_331 : decode cL_month 331 = .ok (.bipush 8, 2) := by decide +kernel
theorem dL_month_333 : decode cL_month 333 = .ok (.invokevirtual 26, 3) := by decide +kernel
theorem dL_month_336 : decode cL_month 336 = .ok (.iload 4, 2) := by decide +kernel
theorem dL_month_338 : decode cL_month 338 = .ok (.if_icmp .gt 46, 3) := by decide +kernel
theorem dL_month_341 : decode cL_month 341 = .ok (.iconst 2, 1) := by decide +kernel
theorem dL_month_342 : decode cL_month 342 = .ok (.aload_n 0, 1) := by decide +kernel
theorem dL_month_343 : decode cL_month 343 = .ok (.iload 9, 2) := by decide +kernel
theorem dL_month_345 : decode cL_month 345 = .ok (.bipush 8, 2) := by decide +kernel
theorem dL_month_347 : decode cL_month 347 = .ok (.invokevirtual 26, 3) := by decide +kernel
theorem dL_month_350 : decode cL_month 350 = .ok (.imul, 1) := by decide +kernel
theorem dL_month_351 : decode cL_month 351 = .ok (.iload 4, 2) := by decide +kernel
theorem dL_month_353 : decode cL_month 353 = .ok (.if_icmp .lt 31, 3) := by decide +kernel
theorem dL_month_356 : decode cL_month 356 = .ok (.aload_n 0, 1) := by decide +kernel
theorem dL_month_357 : decode cL_month 357 = .ok (.iload 9, 2) := by decide +kernel
theorem dL_month_359 : decode cL_month 359 = .ok (.invokevirtual 53, 3) := by decide +kernel
theorem dL_month_362 : decode cL_month 362 = .ok (.ldc 29, 2) := by decide +kernel
theorem dL_month_364 : decode cL_month 364 = .ok (.if_icmp .ne 20, 3) := by decide +kernel
theorem dL_month_367 : decode cL_month 367 = .ok (.aload_n 0, 1) := by decide +kernel
theorem dL_month_368 : decode cL_month 368 = .ok (.iload_n 1, 1) := by decide +kernel
theorem dL_month_369 : decode cL_month 369 = .ok (.bipush 10, 2) := by decide +kernel
theorem dL_month_371 : decode cL_month 371 = .ok (.invokestatic 42, 3) := by decide +kernel
theorem dL_month_374 : decode cL_month 374 = .ok (.iload 6, 2) := by decide +kernel
theorem dL_month_376 : decode cL_month 376 = .ok (.isub, 1) := by decide +kernel
theorem dL_month_377 : decode cL_month 377 = .ok (.ifCond .lt 7, 3) := by decide +kernel
theorem dL_month_380 : decode cL_month 380 = .ok (.iconst 1, 1) := by decide +kernel
theorem dL_month_381 : decode cL_month 381 = .ok (.goto 4, 3) := by decide +kernel
theorem dL_month_384 : decode cL_month 384 = .ok (.iconst 0, 1) := by decide +kernel
theorem dL_month_385 : decode cL_month 385 = .ok (.ireturn, 1) := by decide +kernel
set_option maxRecDepth 20000 in
theorem ggL_inTheEnd_X5_inTheEnd : GoodIn wsL_inTheEnd wsX5_inTheEnd := goodIn_ca (goodIn_r _ [5, 6, 7, 8, 9, 10, 11, 12, 4, 13, 14, 15, 16, 17, 18, 19, 20, 21, 22, 23, 24, 25, 26, 27, 28, 29, 30, 31, 32, 33, 34, 35, 36, 37, 38, 39, 40, 41, 42, 43, 44, 45, 46, 47, 48, 49, 50, 51, 52, 53, 54, 55, 56, 57, 58, 59, 60, 61, 62, 63, 64, 65, 66, 67, 68, 69, 70, 71, 72, 73, 74, 75, 76, 77, 78, 79, 80, 81, 82, 83, 84, 85, 86, 87, 88, 89, 90, 91, 92, 93, 94, 95, 96, 97, 98, 99, 100, 101, 102, 103, 104, 105, 106, 107, 108, 109, 110, 111, 112, 113, 114, 115, 116, 117, 118, 119, 120, 121, 122, 123, 124, 185, 186, 187, 188, 189, 190, 191, 192, 193, 194, 195, 196, 197, 198, 199, 200, 201, 202, 203, 204, 205, 206, 207, 208, 209, 210, 211, 212] (by decide +kernel) (by decide +kernel)) (goodIn_sub (fun _ h => List.mem_cons_of_mem _ (List.mem_append_left _ (List.mem_append_left _ (List.mem_append_right _ h)))) (by decide +kernel))
set_option maxRecDepth 20000 in
theorem gL_inTheEnd_X5_inTheEnd : GoodIn wsL_inTheEnd (wsV RL 75 RX5 yX5_inTheEnd wsX5_inTheEnd) := goodIn_app (goodIn_of _ (by decide +kernel)) ggL_inTheEnd_X5_inTheEnd
set_option maxRecDepth 20000 in
theorem ggL_inTheEnd_X5_about : GoodIn wsL_inTheEnd wsX5_about := goodIn_ca (goodIn_r _ [128, 129, 130, 7, 131, 132, 133, 134, 135, 136, 51, 52, 19, 53, 21, 35, 137, 138, 139, 140, 30, 42, 43, 44, 45, 34, 141, 142, 143, 144, 41, 185, 186, 187, 188, 189, 190, 191, 192, 193, 194, 195, 196, 197, 198, 199, 200, 201, 202, 203, 204, 205, 206, 207, 208, 209] (by decide +kernel) (by decide +kernel)) (goodIn_sub (fun _ h => List.mem_cons_of_mem _ (List.mem_append_left _ (List.mem_append_right _ h))) (by decide +kernel))
set_option maxRecDepth 20000 in
theorem gL_inTheEnd_X5_about : GoodIn wsL_inTheEnd (wsV RL 39 RX5 yX5_about wsX5_about) := goodIn_app (goodIn_of _ (by decide +kernel)) ggL_inTheEnd_X5_about
set_option maxRecDepth 20000 in
theorem ggL_inTheEnd_X5_month : GoodIn wsL_inTheEnd wsX5_month := goodIn_ca (goodIn_r _ [148, 149, 150, 7, 151, 8, 46, 47, 48, 19, 49, 26, 50, 51, 52, 53, 21, 35, 152, 153, 154, 155, 156, 157, 158, 159, 160, 106, 107, 108, 161, 23, 24, 25, 27, 28, 29, 30, 31, 32, 33, 34, 36, 37, 38, 39, 40, 41, 54, 55, 56, 57, 58, 59, 60, 61, 62, 63, 64, 65, 66, 67, 68, 69, 70, 71, 72, 73, 74, 75, 76, 77, 78, 79, 80, 81, 82, 83, 84, 17, 18, 20, 85, 86, 87, 88, 89, 90, 91, 92, 93, 94, 95, 96, 97, 98, 99, 100, 101, 102, 103, 104, 105, 109, 110, 111, 112, 113, 114, 115, 116, 117, 118, 119, 120, 121, 122, 123, 124, 185, 186, 187, 188, 189, 190, 191, 192, 193, 194, 195, 196, 197, 198, 199, 200, 201, 202, 203, 204, 205, 206, 207, 208, 209, 213, 214, 215, 210, 211, 212] (by decide +kernel) (by decide +kernel)) (goodIn_sub (fun _ h => List.mem_cons_of_mem _ (List.mem_append_right _ h)) (by decide +kernel))
set_option maxRecDepth 20000 in
theorem gL_inTheEnd_X5_month : GoodIn wsL_inTheEnd (wsV RL 72 RX5 yX5_month wsX5_month) := goodIn_app (goodIn_of _ (by decide +kernel)) ggL_inTheEnd_X5_month
set_option maxRecDepth 20000 in
theorem ggL_inTheEnd_X5_member : GoodIn wsL_inTheEnd wsX5_member := goodIn_ca (goodIn_ca (goodIn_r _ [165, 129, 130, 7, 9, 166, 167, 168, 169, 170, 171, 172, 173, 174, 175, 10, 11, 12, 4, 13, 14, 15, 16, 17, 18, 19, 20, 21, 185, 186, 187, 188, 189, 190, 191, 192, 193, 194, 195, 196, 197, 198, 199, 200, 201, 202, 203, 204, 205, 206, 207, 208, 209] (by decide +kernel) (by decide +kernel)) (goodIn_sub (fun _ h => List.mem_cons_of_mem _ (List.mem_append_left _ (List.mem_append_right _ h))) (by decide +kernel))) (goodIn_sub (fun _ h => List.mem_cons_of_mem _ (List.mem_append_left _ (List.mem_append_left _ (List.mem_append_right _ h)))) (by decide +kernel))
set_option maxRecDepth 20000 in
theorem gL_inTheEnd_X5_member : GoodIn wsL_inTheEnd (wsV RL 26 RX5 yX5_member wsX5_member) := goodIn_app (goodIn_of _ (by decide +kernel)) ggL_inTheEnd_X5_member
set_option maxRecDepth 20000 in
theorem ggL_inTheEnd_X5_undo : GoodIn wsL_inTheEnd wsX5_undo := goodIn_ca (goodIn_r _ [179, 149, 150, 151, 180, 7, 181, 182, 183, 155, 184, 158, 159, 157, 161, 23, 24, 19, 25, 21, 26, 27, 28, 29, 30, 31, 32, 33, 34, 35, 36, 37, 38, 39, 40, 41, 185, 186, 187, 188, 189, 190, 191, 192, 213, 214, 215, 193, 194, 195, 196, 197, 198, 199, 200, 201, 202, 203, 204, 205, 206, 207, 208, 209] (by decide +kernel) (by decide +kernel)) (goodIn_sub (fun _ h => List.mem_cons_of_mem _ (List.mem_append_right _ h)) (by decide +kernel))
set_option maxRecDepth 20000 in
theorem gL_inTheEnd_X5_undo : GoodIn wsL_inTheEnd (wsV RL 60 RX5 yX5_undo wsX5_undo) := goodIn_app (goodIn_of _ (by decide +kernel)) ggL_inTheEnd_X5_undo
theorem dL_inTheEnd_0 : decode cL_inTheEnd 0 = .ok (.aload_n 0, 1) := by decide +kernel
theorem dL_inTheEnd_1 : decode cL_inTheEnd 1 = .ok (.iload_n 1, 1) := by decide +kernel
theorem dL_inTheEnd_2 : decode cL_inTheEnd 2 = .ok (.invokevirtual 75, 3) := by decide +kernel
theorem dL_inTheEnd_5 : decode cL_inTheEnd 5 = .ok (.istore_n 2, 1) := by decide +kernel
theorem dL_inTheEnd_6 : decode cL_inTheEnd 6 = .ok (.iconst 0, 1) := by decide +kernel
theorem dL_inTheEnd_7 : decode cL_inTheEnd 7 = .ok (.istore_n 3, 1) := by decide +kernel
theorem dL_inTheEnd_8 : decode cL_inTheEnd 8 = .ok (.iload_n 3, 1) := by decide +kernel
theorem dL_inTheEnd_9 : decode cL_inTheEnd 9 = .ok (.bipush 12, 2) := by decide +kernel
theorem dL_inTheEnd_11 : decode cL_inTheEnd 11 = .ok (.if_icmp .ge 31, 3) := by decide +kernel
theorem dL_inTheEnd_14 : decode cL_inTheEnd 14 = .ok (.aload_n 0, 1) := by decide +kernel
theorem dL_inTheEnd_15 : decode cL_inTheEnd 15 = .ok (.bipush 6, 2) := by decide +kernel
theorem dL_inTheEnd_17 : decode cL_inTheEnd 17 = .ok (.invokevirtual 39, 3) := by decide +kernel
theorem dL_inTheEnd_20 : decode cL_inTheEnd 20 = .ok (.ifCond .le 22, 3) := by decide +kernel
theorem dL_inTheEnd_23 : decode cL_inTheEnd 23 = .ok (.aload_n 0, 1) := by decide +kernel
theorem dL_inTheEnd_24 : decode cL_inTheEnd 24 = .ok (.iconst 1, 1) := by decide +kernel
theorem dL_inTheEnd_25 : decode cL_inTheEnd 25 = .ok (.invokevirtual 39, 3) := by decide +kernel
theorem dL_inTheEnd_28 : decode cL_inTheEnd 28 = .ok (.ifCond .le 14, 3) := by decide +kernel
theorem dL_inTheEnd_31 : decode cL_inTheEnd 31 = .ok (.aload_n 0, 1) := by decide +kernel
theorem dL_inTheEnd_32 : decode cL_inTheEnd 32 = .ok (.invokevirtual 72, 3) := by decide +kernel
theorem dL_inTheEnd_35 : decode cL_inTheEnd 35 = .ok (.pop, 1) := by decide +kernel
theorem dL_inTheEnd_36 : decode cL_inTheEnd 36 = .ok (.iinc 3 1, 3) := by decide +kernel
theorem dL_inTheEnd_39 : decode cL_inTheEnd 39 = .ok (.goto (-31), 3) := by decide +kernel
theorem dL_inTheEnd_42 : decode cL_inTheEnd 42 = .ok (.aload_n 0, 1) := by decide +kernel
theorem dL_inTheEnd_43 : decode cL_inTheEnd 43 = .ok (.iload_n 1, 1) := by decide +kernel
theorem dL_inTheEnd_44 : decode cL_inTheEnd 44 = .ok (.invokevirtual 75, 3) := by decide +kernel
theorem dL_inTheEnd_47 : decode cL_inTheEnd 47 = .ok (.iload_n 2, 1) := by decide +kernel
theorem dL_inTheEnd_48 : decode cL_inTheEnd 48 = .ok (.if_icmp .ne 26, 3) := by decide +kernel
theorem dL_inTheEnd_51 : decode cL_inTheEnd 51 = .ok (.aload_n 0, 1) := by decide +kernel
theorem dL_inTheEnd_52 : decode cL_inTheEnd 52 = .ok (.bipush 6, 2) := by decide +kernel
theorem dL_inTheEnd_54 : decode cL_inTheEnd 54 = .ok (.invokevirtual 39, 3) := by decide +kernel
theorem dL_inTheEnd_57 : decode cL_inTheEnd 57 = .ok (.ifCond .gt 13, 3) := by decide +kernel
theorem dL_inTheEnd_60 : decode cL_inTheEnd 60 = .ok (.aload_n 0, 1) := by decide +kernel
theorem dL_inTheEnd_61 : decode cL_inTheEnd 61 = .ok (.iload_n 1, 1) := by decide +kernel
theorem dL_inTheEnd_62 : decode cL_inTheEnd 62 = .ok (.iconst 0, 1) := by decide +kernel
theorem dL_inTheEnd_63 : decode cL_inTheEnd 63 = .ok (.invokevirtual 26, 3) := by decide +kernel
theorem dL_inTheEnd_66 : decode cL_inTheEnd 66 = .ok (.iload_n 2, 1) := by decide +kernel
theorem dL_inTheEnd_67 : decode cL_inTheEnd 67 = .ok (.if_icmp .ne 7, 3) := by decide +kernel
theorem dL_inTheEnd_70 : decode cL_inTheEnd 70 = .ok (.iconst 1, 1) := by decide +kernel
theorem dL_inTheEnd_71 : decode cL_inTheEnd 71 = .ok (.goto 4, 3) := by decide +kernel
theorem dL_inTheEnd_74 : decode cL_inTheEnd 74 = .ok (.iconst 0, 1) := by decide +kernel
theorem dL_inTheEnd_75 : decode cL_inTheEnd 75 = .ok (.istore 4, 2) := by decide +kernel
theorem dL_inTheEnd_77 : decode cL_inTheEnd 77 = .ok (.iconst 0, 1) := by decide +kernel
theorem dL_inTheEnd_78 : decode cL_inTheEnd 78 = .ok (.istore 5, 2) := by decide +kernel
theorem dL_inTheEnd_80 : decode cL_inTheEnd 80 = .ok (.iload 5, 2) := by decide +kernel
theorem dL_inTheEnd_82 : decode cL_inTheEnd 82 = .ok (.iload_n 3, 1) := by decide +kernel
theorem dL_inTheEnd_83 : decode cL_inTheEnd 83 = .ok (.if_icmp .ge 28, 3) := by decide +kernel
theorem dL_inTheEnd_86 : decode cL_inTheEnd 86 = .ok (.iload 4, 2) := by decide +kernel
theorem dL_inTheEnd_88 : decode cL_inTheEnd 88 = .ok (.ifCond .eq 23, 3) := by decide +kernel
theorem dL_inTheEnd_91 : decode cL_inTheEnd 91 = .ok (.aload_n 0, 1) := by decide +kernel
theorem dL_inTheEnd_92 : decode cL_inTheEnd 92 = .ok (.invokevirtual 60, 3) := by decide +kernel
theorem dL_inTheEnd_95 : decode cL_inTheEnd 95 = .ok (.ifCond .lt 7, 3) := by decide +kernel
theorem dL_inTheEnd_98 : decode cL_inTheEnd 98 = .ok (.iconst 1, 1) := by decide +kernel
theorem dL_inTheEnd_99 : decode cL_inTheEnd 99 = .ok (.goto 4, 3) := by decide +kernel
theorem dL_inTheEnd_102 : decode cL_inTheEnd 102 = .ok (.iconst 0, 1) := by decide +kernel
theorem dL_inTheEnd_103 : decode cL_inTheEnd 103 = .ok (.istore 4, 2) := by decide +kernel
theorem dL_inTheEnd_105 : decode cL_inTheEnd 105 = .ok (.iinc 5 1, 3) := by decide +kernel
theorem dL_inTheEnd_108 : decode cL_inTheEnd 108 = .ok (.goto (-28), 3) := by decide +kernel
theorem dL_inTheEnd_111 : decode cL_inTheEnd 111 = .ok (.iload 4, 2) := by decide +kernel
theorem dL_inTheEnd_113 : decode cL_inTheEnd 113 = .ok (.ifCond .ne 9, 3) := by decide +kernel
theorem dL_inTheEnd_116 : decode cL_inTheEnd 116 = .ok (.iload_n 3, 1) := by decide +kernel
theorem dL_inTheEnd_117 : decode cL_inTheEnd 117 = .ok (.bipush 12, 2) := by decide +kernel
theorem dL_inTheEnd_119 : decode cL_inTheEnd 119 = .ok (.if_icmp .ne 7, 3) := by decide +kernel
theorem dL_inTheEnd_122 : decode cL_inTheEnd 122 = .ok (.iconst 1, 1) := by decide +kernel
theorem dL_inTheEnd_123 : decode cL_inTheEnd 123 = .ok (.goto 4, 3) := by decide +kernel
theorem dL_inTheEnd_126 : decode cL_inTheEnd 126 = .ok (.iconst 0, 1) := by decide +kernel
theorem dL_inTheEnd_127 : decode cL_inTheEnd 127 = .ok (.ireturn, 1) := by decide +kernel
set_option maxRecDepth 20000 in
theorem ggL_leave_X5_member : GoodIn wsL_leave wsX5_member := goodIn_ca (goodIn_ca (goodIn_r _ [5, 6, 7, 8, 9, 10, 11, 12, 13, 14, 15, 16, 17, 18, 19, 20, 21, 22, 4, 23, 24, 25, 26, 27, 28, 29, 30, 31, 110, 111, 112, 113, 114, 115, 116, 117, 118, 119, 120, 121, 122, 123, 124, 125, 126, 127, 128, 129, 130, 131, 132, 133, 134] (by decide +kernel) (by decide +kernel)) (goodIn_sub (fun _ h => List.mem_cons_of_mem _ (List.mem_append_left _ (List.mem_append_left _ (List.mem_append_right _ h)))) (by decide +kernel))) (goodIn_sub (fun _ h => List.mem_cons_of_mem _ (List.mem_append_left _ (List.mem_append_right _ h))) (by decide +kernel))
set_option maxRecDepth 20000 in
theorem gL_leave_X5_member : GoodIn wsL_leave (wsV RL 26 RX5 yX5_member wsX5_member) := goodIn_app (goodIn_of _ (by decide +kernel)) ggL_leave_X5_member
set_option maxRecDepth 20000 in
theorem ggL_leave_X5_about : GoodIn wsL_leave wsX5_about := goodIn_ca (goodIn_r _ [35, 6, 7, 8, 36, 37, 38, 39, 40, 41, 42, 43, 29, 44, 31, 45, 46, 47, 48, 49, 50, 51, 52, 53, 54, 55, 56, 57, 58, 59, 60, 110, 111, 112, 113, 114, 115, 116, 117, 118, 119, 120, 121, 122, 123, 124, 125, 126, 127, 128, 129, 130, 131, 132, 133, 134] (by decide +kernel) (by decide +kernel)) (goodIn_sub (fun _ h => List.mem_cons_of_mem _ (List.mem_append_left _ (List.mem_append_left _ (List.mem_append_right _ h)))) (by decide +kernel))
set_option maxRecDepth 20000 in
theorem gL_leave_X5_about : GoodIn wsL_leave (wsV RL 39 RX5 yX5_about wsX5_about) := goodIn_app (goodIn_of _ (by decide +kernel)) ggL_leave_X5_about
set_option maxRecDepth 20000 in
theorem ggL_leave_X5_leave : GoodIn wsL_leave wsX5_leave := goodIn_ca (goodIn_ca (goodIn_r _ [64, 65, 66, 8, 67, 20, 21, 22, 4, 23, 24, 25, 26, 27, 28, 29, 30, 31, 68, 69, 70, 71, 45, 50, 72, 73, 74, 75, 55, 76, 77, 78, 79, 80, 81, 82, 83, 52, 53, 54, 84, 85, 86, 87, 88, 89, 90, 91, 92, 93, 94, 95, 96, 97, 98, 99, 100, 101, 102, 103, 104, 105, 60, 106, 107, 108, 109, 110, 111, 112, 113, 114, 115, 116, 117, 118, 119, 120, 121, 122, 123, 124, 125, 126, 127, 128, 129, 130, 131, 132, 133, 134, 135, 136, 137] (by decide +kernel) (by decide +kernel)) (goodIn_sub (fun _ h => List.mem_cons_of_mem _ (List.mem_append_right _ h)) (by decide +kernel))) (goodIn_sub (fun _ h => List.mem_cons_of_mem _ (List.mem_append_left _ (List.mem_append_right _ h))) (by decide +kernel))
set_option maxRecDepth 20000 in
theorem gL_leave_X5_leave : GoodIn wsL_leave (wsV RL 78 RX5 yX5_leave wsX5_leave) := goodIn_app (goodIn_of _ (by decide +kernel)) ggL_leave_X5_leave
theorem dL_leave_0 : decode cL_leave 0 = .ok (.aload_n 0, 1) := by decide +kernel
theorem dL_leave_1 : decode cL_leave 1 = .ok (.iload_n 1, 1) := by decide +kernel
theorem dL_leave_2 : decode cL_leave 2 = .ok (.iconst 4, 1) := by decide +kernel
theorem dL_leave_3 : decode cL_leave 3 = .ok (.invokevirtual 26, 3) := by decide +kernel
theorem dL_leave_6 : decode cL_leave 6 = .ok (.iconst 1, 1) := by decide +kernel
theorem dL_leave_7 : decode cL_leave 7 = .ok (.if_icmp .ne 7, 3) := by decide +kernel
theorem dL_leave_10 : decode cL_leave 10 = .ok (.iconst 1, 1) := by decide +kernel
theorem dL_leave_11 : decode cL_leave 11 = .ok (.goto 4, 3) := by decide +kernel
theorem dL_leave_14 : decode cL_leave 14 = .ok (.iconst 0, 1) := by decide +kernel
theorem dL_leave_15 : decode cL_leave 15 = .ok (.istore_n 2, 1) := by decide +kernel
theorem dL_leave_16 : decode cL_leave 16 = .ok (.aload_n 0, 1) := by decide +kernel
theorem dL_leave_17 : decode cL_leave 17 = .ok (.iload_n 1, 1) := by decide +kernel
theorem dL_leave_18 : decode cL_leave 18 = .ok (.bipush 6, 2) := by decide +kernel
theorem dL_leave_20 : decode cL_leave 20 = .ok (.invokevirtual 26, 3) := by decide +kernel
theorem dL_leave_23 : decode cL_leave 23 = .ok (.iconst 2, 1) := by decide +kernel
theorem dL_leave_24 : decode cL_leave 24 = .ok (.idiv, 1) := by decide +kernel
theorem dL_leave_25 : decode cL_leave 25 = .ok (.istore_n 3, 1) := by decide +kernel
theorem dL_leave_26 : decode cL_leave 26 = .ok (.aload_n 0, 1) := by decide +kernel
theorem dL_leave_27 : decode cL_leave 27 = .ok (.iconst 4, 1) := by decide +kernel
theorem dL_leave_28 : decode cL_leave 28 = .ok (.invokevirtual 39, 3) := by decide +kernel
theorem dL_leave_31 : decode cL_leave 31 = .ok (.istore 4, 2) := by decide +kernel
theorem dL_leave_33 : decode cL_leave 33 = .ok (.aload_n 0, 1) := by decide +kernel
theorem dL_leave_34 : decode cL_leave 34 = .ok (.iload_n 1, 1) := by decide +kernel
theorem dL_leave_35 : decode cL_leave 35 = .ok (.iconst 0, 1) := by decide +kernel
theorem dL_leave_36 : decode cL_leave 36 = .ok (.invokevirtual 26, 3) := by decide +kernel
theorem dL_leave_39 : decode cL_leave 39 = .ok (.istore 5, 2) := by decide +kernel
theorem dL_leave_41 : decode cL_leave 41 = .ok (.iload_n 2, 1) := by decide +kernel
theorem dL_leave_42 : decode cL_leave 42 = .ok (.ifCond .eq 19, 3) := by decide +kernel
theorem dL_leave_45 : decode cL_leave 45 = .ok (.aload_n 0, 1) := by decide +kernel
theorem dL_leave_46 : decode cL_leave 46 = .ok (.iconst 3, 1) := by decide +kernel
theorem dL_leave_47 : decode cL_leave 47 = .ok (.invokevirtual 39, 3) := by decide +kernel
theorem dL_leave_50 : decode cL_leave 50 = .ok (.ineg, 1) := by decide +kernel
theorem dL_leave_51 : decode cL_leave 51 = .ok (.aload_n 0, 1) := by decide +kernel
theorem dL_leave_52 : decode cL_leave 52 = .ok (.bipush 6, 2) := by decide +kernel
theorem dL_leave_54 : decode cL_leave 54 = .ok (.invokevirtual 39, 3) := by decide +kernel
theorem dL_leave_57 : decode cL_leave 57 = .ok (.imul, 1) := by decide +kernel
theorem dL_leave_58 : decode cL_leave 58 = .ok (.goto 15, 3) := by decide +kernel
theorem dL_leave_61 : decode cL_leave 61 = .ok (.iload_n 3, 1) := by decide +kernel
theorem dL_leave_62 : decode cL_leave 62 = .ok (.iload 4, 2) := by decide +kernel
theorem dL_leave_64 : decode cL_leave 64 = .ok (.if_icmp .ge 7, 3) := by decide +kernel
theorem dL_leave_67 : decode cL_leave 67 = .ok (.iload_n 3, 1) := by decide +kernel
theorem dL_leave_68 : decode cL_leave 68 = .ok (.goto 5, 3) := by decide +kernel
theorem dL_leave_71 : decode cL_leave 71 = .ok (.iload 4, 2) := by decide +kernel
theorem dL_leave_73 : decode cL_leave 73 = .ok (.istore 6, 2) := by decide +kernel
theorem dL_leave_75 : decode cL_leave 75 = .ok (.aload_n 0, 1) := by decide +kernel
theorem dL_leave_76 : decode cL_leave 76 = .ok (.iload_n 1, 1) := by decide +kernel
theorem dL_leave_77 : decode cL_leave 77 = .ok (.iconst 5, 1) := by decide +kernel
theorem dL_leave_78 : decode cL_leave 78 = .ok (.invokevirtual 26, 3) := by decide +kernel
theorem dL_leave_81 : decode cL_leave 81 = .ok (.ifCond .eq 11, 3) := by decide +kernel
theorem dL_leave_84 : decode cL_leave 84 = .ok (.iload 5, 2) := by decide +kernel
theorem dL_leave_86 : decode cL_leave 86 = .ok (.iload 6, 2) := by decide +kernel
theorem dL_leave_88 : decode cL_leave 88 = .ok (.iadd, 1) := by decide +kernel
theorem dL_leave_89 : decode cL_leave 89 = .ok (.ifCond .ge 5, 3) := by decide +kernel
theorem dL_leave_92 : decode cL_leave 92 = .ok (.iconst 1, 1) := by decide +kernel
theorem dL_leave_93 : decode cL_leave 93 = .ok (.ireturn, 1) := by decide +kernel
theorem dL_leave_94 : decode cL_leave 94 = .ok (.aload_n 0, 1) := by decide +kernel
theorem dL_leave_95 : decode cL_leave 95 = .ok (.iload_n 1, 1) := by decide +kernel
theorem dL_leave_96 : decode cL_leave 96 = .ok (.invokevirtual 78, 3) := by decide +kernel
theorem dL_leave_99 : decode cL_leave 99 = .ok (.iload 6, 2) := by decide +kernel
theorem dL_leave_101 : decode cL_leave 101 = .ok (.if_icmp .ne 43, 3) := by decide +kernel
theorem dL_leave_104 : decode cL_leave 104 = .ok (.aload_n 0, 1) := by decide +kernel
theorem dL_leave_105 : decode cL_leave 105 = .ok (.iload_n 1, 1) := by decide +kernel
theorem dL_leave_106 : decode cL_leave 106 = .ok (.iconst 0, 1) := by decide +kernel
theorem dL_leave_107 : decode cL_leave 107 = .ok (.invokevirtual 26, 3) := by decide +kernel
theorem dL_leave_110 : decode cL_leave 110 = .ok (.iload 5, 2) := by decide +kernel
theorem dL_leave_112 : decode cL_leave 112 = .ok (.iload 6, 2) := by decide +kernel
theorem dL_leave_114 : decode cL_leave 114 = .ok (.iadd, 1) := by decide +kernel
theorem dL_leave_115 : decode cL_leave 115 = .ok (.if_icmp .ne 29, 3) := by decide +kernel
theorem dL_leave_118 : decode cL_leave 118 = .ok (.aload_n 0, 1) := by decide +kernel
theorem dL_leave_119 : decode cL_leave 119 = .ok (.iconst 4, 1) := by decide +kernel
theorem dL_leave_120 : decode cL_leave 120 = .ok (.invokevirtual 39, 3) := by decide +kernel
theorem dL_leave_123 : decode cL_leave 123 = .ok (.iload 4, 2) := by decide +kernel
theorem dL_leave_125 : decode cL_leave 125 = .ok (.iload 6, 2) := by decide +kernel
theorem dL_leave_127 : decode cL_leave 127 = .ok (.isub, 1) := by decide +kernel
theorem dL_leave_128 : decode cL_leave 128 = .ok (.if_icmp .ne 16, 3) := by decide +kernel
theorem dL_leave_131 : decode cL_leave 131 = .ok (.aload_n 0, 1) := by decide +kernel
theorem dL_leave_132 : decode cL_leave 132 = .ok (.iload_n 1, 1) := by decide +kernel
theorem dL_leave_133 : decode cL_leave 133 = .ok (.iconst 5, 1) := by decide +kernel
theorem dL_leave_134 : decode cL_leave 134 = .ok (.invokevirtual 26, 3) := by decide +kernel
theorem dL_leave_137 : decode cL_leave 137 = .ok (.ifCond .ne 7, 3) := by decide +kernel
theorem dL_leave_140 : decode cL_leave 140 = .ok (.iconst 1, 1) := by decide +kernel
theorem dL_leave_141 : decode cL_leave 141 = .ok (.goto 4, 3) := by decide +kernel
theorem dL_leave_144 : decode cL_leave 144 = .ok (.iconst 0, 1) := by decide +kernel
theorem dL_leave_145 : decode cL_leave 145 = .ok (.ireturn, 1) := by decide +kernel
set_option maxRecDepth 20000 in
theorem ggL_repay_X5_owes : GoodIn wsL_repay wsX5_owes := goodIn_ca (goodIn_ca (goodIn_r _ [5, 6, 7, 8, 9, 10, 4, 11, 12, 13, 14, 15, 16, 17, 18, 19, 20, 21, 22, 23, 24, 25, 26, 27, 28, 87, 88, 89, 90, 91, 92, 93, 94, 95, 96, 97, 98, 99, 100, 101, 102, 103, 104, 105, 106, 107, 108, 109, 110, 111] (by decide +kernel) (by decide +kernel)) (goodIn_sub (fun _ h => List.mem_cons_of_mem _ (List.mem_append_left _ (List.mem_append_right _ h))) (by decide +kernel))) (goodIn_sub (fun _ h => List.mem_cons_of_mem _ (List.mem_append_right _ h)) (by decide +kernel))
set_option maxRecDepth 20000 in
theorem gL_repay_X5_owes : GoodIn wsL_repay (wsV RL 33 RX5 yX5_owes wsX5_owes) := goodIn_app (goodIn_of _ (by decide +kernel)) ggL_repay_X5_owes
set_option maxRecDepth 20000 in
theorem ggL_repay_X5_member : GoodIn wsL_repay wsX5_member := goodIn_ca (goodIn_ca (goodIn_r _ [32, 12, 13, 6, 33, 34, 35, 36, 37, 38, 39, 40, 41, 42, 43, 14, 15, 16, 4, 17, 18, 19, 20, 21, 22, 23, 24, 25, 87, 88, 89, 90, 91, 92, 93, 94, 95, 96, 97, 98, 99, 100, 101, 102, 103, 104, 105, 106, 107, 108, 109, 110, 111] (by decide +kernel) (by decide +kernel)) (goodIn_sub (fun _ h => List.mem_cons_of_mem _ (List.mem_append_left _ (List.mem_append_right _ h))) (by decide +kernel))) (goodIn_sub (fun _ h => List.mem_cons_of_mem _ (List.mem_append_right _ h)) (by decide +kernel))
set_option maxRecDepth 20000 in
theorem gL_repay_X5_member : GoodIn wsL_repay (wsV RL 26 RX5 yX5_member wsX5_member) := goodIn_app (goodIn_of _ (by decide +kernel)) ggL_repay_X5_member
set_option maxRecDepth 20000 in
theorem ggL_repay_X5_repay : GoodIn wsL_repay wsX5_repay := goodIn_ca (goodIn_ca (goodIn_r _ [47, 48, 6, 33, 8, 9, 10, 4, 11, 12, 13, 14, 15, 16, 17, 18, 19, 20, 21, 22, 23, 24, 25, 49, 50, 51, 52, 53, 54, 55, 56, 57, 58, 59, 60, 61, 62, 63, 64, 65, 66, 67, 68, 69, 70, 71, 72, 73, 74, 75, 76, 77, 78, 79, 80, 81, 82, 83, 84, 85, 86, 27, 28, 87, 88, 89, 90, 91, 92, 93, 94, 95, 96, 97, 98, 99, 100, 101, 102, 103, 104, 105, 106, 107, 108, 109, 110, 111, 112, 113, 114] (by decide +kernel) (by decide +kernel)) (goodIn_sub (fun _ h => List.mem_cons_of_mem _ (List.mem_append_left _ (List.mem_append_right _ h))) (by decide +kernel))) (goodIn_sub (fun _ h => List.mem_cons_of_mem _ (List.mem_append_right _ h)) (by decide +kernel))
set_option maxRecDepth 20000 in
theorem gL_repay_X5_repay : GoodIn wsL_repay (wsV RL 81 RX5 yX5_repay wsX5_repay) := goodIn_app (goodIn_of _ (by decide +kernel)) ggL_repay_X5_repay
theorem dL_repay_0 : decode cL_repay 0 = .ok (.aload_n 0, 1) := by decide +kernel
theorem dL_repay_1 : decode cL_repay 1 = .ok (.iload_n 1, 1) := by decide +kernel
theorem dL_repay_2 : decode cL_repay 2 = .ok (.iload_n 2, 1) := by decide +kernel
theorem dL_repay_3 : decode cL_repay 3 = .ok (.invokevirtual 33, 3) := by decide +kernel
theorem dL_repay_6 : decode cL_repay 6 = .ok (.istore_n 3, 1) := by decide +kernel
theorem dL_repay_7 : decode cL_repay 7 = .ok (.aload_n 0, 1) := by decide +kernel
theorem dL_repay_8 : decode cL_repay 8 = .ok (.iload_n 1, 1) := by decide +kernel
theorem dL_repay_9 : decode cL_repay 9 = .ok (.iconst 0, 1) := by decide +kernel
theorem dL_repay_10 : decode cL_repay 10 = .ok (.invokevirtual 26, 3) := by decide +kernel
theorem dL_repay_13 : decode cL_repay 13 = .ok (.istore 4, 2) := by decide +kernel
theorem dL_repay_15 : decode cL_repay 15 = .ok (.aload_n 0, 1) := by decide +kernel
theorem dL_repay_16 : decode cL_repay 16 = .ok (.iload_n 2, 1) := by decide +kernel
theorem dL_repay_17 : decode cL_repay 17 = .ok (.iconst 0, 1) := by decide +kernel
theorem dL_repay_18 : decode cL_repay 18 = .ok (.invokevirtual 26, 3) := by decide +kernel
theorem dL_repay_21 : decode cL_repay 21 = .ok (.istore 5, 2) := by decide +kernel
theorem dL_repay_23 : decode cL_repay 23 = .ok (.iload_n 3, 1) := by decide +kernel
theorem dL_repay_24 : decode cL_repay 24 = .ok (.iload 4, 2) := by decide +kernel
theorem dL_repay_26 : decode cL_repay 26 = .ok (.if_icmp .ge 7, 3) := by decide +kernel
theorem dL_repay_29 : decode cL_repay 29 = .ok (.iload_n 3, 1) := by decide +kernel
theorem dL_repay_30 : decode cL_repay 30 = .ok (.goto 5, 3) := by decide +kernel
theorem dL_repay_33 : decode cL_repay 33 = .ok (.iload 4, 2) := by decide +kernel
theorem dL_repay_35 : decode cL_repay 35 = .ok (.istore 6, 2) := by decide +kernel
theorem dL_repay_37 : decode cL_repay 37 = .ok (.aload_n 0, 1) := by decide +kernel
theorem dL_repay_38 : decode cL_repay 38 = .ok (.iload_n 1, 1) := by decide +kernel
theorem dL_repay_39 : decode cL_repay 39 = .ok (.iload_n 2, 1) := by decide +kernel
theorem dL_repay_40 : decode cL_repay 40 = .ok (.invokevirtual 81, 3) := by decide +kernel
theorem dL_repay_43 : decode cL_repay 43 = .ok (.iload 6, 2) := by decide +kernel
theorem dL_repay_45 : decode cL_repay 45 = .ok (.if_icmp .ne 48, 3) := by decide +kernel
theorem dL_repay_48 : decode cL_repay 48 = .ok (.aload_n 0, 1) := by decide +kernel
theorem dL_repay_49 : decode cL_repay 49 = .ok (.iload_n 1, 1) := by decide +kernel
theorem dL_repay_50 : decode cL_repay 50 = .ok (.iload_n 2, 1) := by decide +kernel
theorem dL_repay_51 : decode cL_repay 51 = .ok (.invokevirtual 33, 3) := by decide +kernel
theorem dL_repay_54 : decode cL_repay 54 = .ok (.iload_n 3, 1) := by decide +kernel
theorem dL_repay_55 : decode cL_repay 55 = .ok (.iload 6, 2) := by decide +kernel
theorem dL_repay_57 : decode cL_repay 57 = .ok (.isub, 1) := by decide +kernel
theorem dL_repay_58 : decode cL_repay 58 = .ok (.if_icmp .ne 35, 3) := by decide +kernel
theorem dL_repay_61 : decode cL_repay 61 = .ok (.aload_n 0, 1) := by decide +kernel
theorem dL_repay_62 : decode cL_repay 62 = .ok (.iload_n 1, 1) := by decide +kernel
theorem dL_repay_63 : decode cL_repay 63 = .ok (.iconst 0, 1) := by decide +kernel
theorem dL_repay_64 : decode cL_repay 64 = .ok (.invokevirtual 26, 3) := by decide +kernel
theorem dL_repay_67 : decode cL_repay 67 = .ok (.iload 4, 2) := by decide +kernel
theorem dL_repay_69 : decode cL_repay 69 = .ok (.iload 6, 2) := by decide +kernel
theorem dL_repay_71 : decode cL_repay 71 = .ok (.isub, 1) := by decide +kernel
theorem dL_repay_72 : decode cL_repay 72 = .ok (.if_icmp .ne 21, 3) := by decide +kernel
theorem dL_repay_75 : decode cL_repay 75 = .ok (.aload_n 0, 1) := by decide +kernel
theorem dL_repay_76 : decode cL_repay 76 = .ok (.iload_n 2, 1) := by decide +kernel
theorem dL_repay_77 : decode cL_repay 77 = .ok (.iconst 0, 1) := by decide +kernel
theorem dL_repay_78 : decode cL_repay 78 = .ok (.invokevirtual 26, 3) := by decide +kernel
theorem dL_repay_81 : decode cL_repay 81 = .ok (.iload 5, 2) := by decide +kernel
theorem dL_repay_83 : decode cL_repay 83 = .ok (.iload 6, 2) := by decide +kernel
theorem dL_repay_85 : decode cL_repay 85 = .ok (.iadd, 1) := by decide +kernel
theorem dL_repay_86 : decode cL_repay 86 = .ok (.if_icmp .ne 7, 3) := by decide +kernel
theorem dL_repay_89 : decode cL_repay 89 = .ok (.iconst 1, 1) := by decide +kernel
theorem dL_repay_90 : decode cL_repay 90 = .ok (.goto 4, 3) := by decide +kernel
theorem dL_repay_93 : decode cL_repay 93 = .ok (.iconst 0, 1) := by decide +kernel
theorem dL_repay_94 : decode cL_repay 94 = .ok (.ireturn, 1) := by decide +kernel
set_option maxRecDepth 20000 in
theorem ggL_law_X5_init : GoodIn wsL_law wsX5_init := goodIn_r _ [6, 7, 8, 9, 10, 11, 12, 13, 14, 15, 16, 17, 18, 19, 20, 21, 22, 23, 24, 25, 26, 27, 28, 29, 30, 31, 32, 33, 34, 35, 36, 37, 3, 38, 39, 40, 41, 42, 43, 44, 45, 46, 47, 48, 49, 50, 51, 52, 53, 54, 55, 56, 57, 58, 59, 60, 61, 62, 63, 64, 65, 66, 67, 68, 69, 70, 71, 395, 396, 397, 398, 399, 400, 401, 402, 403, 404, 405, 406, 407, 408, 409, 410, 411, 387, 388, 389, 390, 391, 392, 393, 394, 412, 413, 414, 415, 416, 417, 418, 419, 420, 421, 422] (by decide +kernel) (by decide +kernel)
set_option maxRecDepth 20000 in
theorem gL_law_X5_init : GoodIn wsL_law (wsX5_init) := ggL_law_X5_init
set_option maxRecDepth 20000 in
theorem ggL_law_L_cell : GoodIn wsL_law wsL_cell := goodIn_r _ [75, 76, 77] (by decide +kernel) (by decide +kernel)
set_option maxRecDepth 20000 in
theorem gL_law_L_cell : GoodIn wsL_law (va_wsS RL 10 yL_cell wsL_cell) := goodIn_app (goodIn_of _ (by decide +kernel)) ggL_law_L_cell
set_option maxRecDepth 20000 in
theorem ggL_law_L_low : GoodIn wsL_law wsL_low := goodIn_r _ [80, 81] (by decide +kernel) (by decide +kernel)
set_option maxRecDepth 20000 in
theorem gL_law_L_low : GoodIn wsL_law (va_wsS RL 16 yL_low wsL_low) := goodIn_app (goodIn_of _ (by decide +kernel)) ggL_law_L_low
set_option maxRecDepth 20000 in
theorem ggL_law_X5_setContribution : GoodIn wsL_law wsX5_setContribution := goodIn_ca (goodIn_r _ [85, 26, 13, 86, 87, 88, 2, 89, 90, 91, 92, 93, 94, 25, 95, 67, 96, 97, 98, 99, 100, 101, 102, 103, 104, 12, 105, 106, 107, 37, 108, 109, 38, 39, 40, 41, 42, 43, 44, 45, 46, 47, 48, 49, 387, 388, 389, 390, 391, 392, 393, 394, 395, 396, 397, 398, 399, 400, 401, 402, 403, 404, 405, 406, 407, 408, 409, 410, 411, 417, 418, 419] (by decide +kernel) (by decide +kernel)) (goodIn_sub (fun _ h => List.mem_append_left _ (List.mem_append_left _ (List.mem_append_right _ h))) (by decide +kernel))
set_option maxRecDepth 20000 in
theorem gL_law_X5_setContribution : GoodIn wsL_law (wsV RL 85 RX5 yX5_setContribution wsX5_setContribution) := goodIn_app (goodIn_of _ (by decide +kernel)) ggL_law_X5_setContribution
set_option maxRecDepth 20000 in
theorem ggL_law_L_build : GoodIn wsL_law wsL_build := goodIn_ca (goodIn_ca (goodIn_ca (goodIn_r _ [112, 113, 72, 73, 74, 75, 76, 77, 78, 79, 80, 81, 114, 115, 116, 2, 117, 118, 119, 13, 120, 26, 87, 88, 89, 90, 91, 92, 93, 94, 25, 95, 67, 96, 97, 98, 99, 100, 101, 102, 103, 104, 12, 105, 106, 107, 37, 108, 109, 38, 39, 40, 41, 42, 43, 44, 45, 46, 47, 48, 49, 121, 122, 123, 124, 125, 126, 127, 128, 129, 130, 131, 132, 133, 134, 135, 136, 137, 138, 139, 140, 141, 142, 143, 144, 145, 146, 147, 148, 149, 150, 151, 152, 153, 154, 155, 156, 157, 158, 159, 387, 388, 389, 390, 391, 392, 393, 394, 395, 396, 397, 398, 399, 400, 401, 402, 403, 404, 405, 406, 407, 408, 409, 410, 411, 417, 418, 419] (by decide +kernel) (by decide +kernel)) (goodIn_sub (fun _ h => List.mem_append_left _ (List.mem_append_right _ h)) (by decide +kernel))) (goodIn_sub (fun _ h => List.mem_append_left _ (List.mem_append_left _ (List.mem_append_right _ h))) (by decide +kernel))) (goodIn_sub (fun _ h => List.mem_append_right _ h) (by decide +kernel))
set_option maxRecDepth 20000 in
theorem gL_law_L_build : GoodIn wsL_law (va_wsS RL 88 yL_build wsL_build) := goodIn_app (goodIn_of _ (by decide +kernel)) ggL_law_L_build
set_option maxRecDepth 20000 in
theorem ggL_law_L_addUp : GoodIn wsL_law wsL_addUp := goodIn_ca (goodIn_ca (goodIn_r _ [162, 113, 163, 164, 165, 2, 166, 13, 167, 156, 157, 158, 159, 90, 91, 141, 142, 143, 144, 145, 146, 147, 148, 149, 12, 150, 106, 168, 169, 170, 126, 127, 128, 129, 130, 131, 132, 133, 134, 135, 136, 137, 138, 139, 140, 171, 172, 173, 174, 175, 176, 177, 178, 39, 179, 180, 181, 182, 183, 120, 184, 86, 185, 186, 187, 188, 189, 190, 43, 191, 192, 193, 194, 38, 195, 196, 197, 198, 42, 199, 200, 201, 202, 49, 203, 204, 74, 205, 387, 388, 389, 390, 391, 392, 393, 394, 395, 396, 397, 398, 399, 400, 401, 402, 403, 404, 405, 406, 407, 408, 409, 410, 411] (by decide +kernel) (by decide +kernel)) (goodIn_sub (fun _ h => List.mem_append_left _ (List.mem_append_left _ (List.mem_append_right _ h))) (by decide +kernel))) (goodIn_sub (fun _ h => List.mem_append_right _ h) (by decide +kernel))
set_option maxRecDepth 20000 in
theorem gL_law_L_addUp : GoodIn wsL_law (va_wsS RL 92 yL_addUp wsL_addUp) := goodIn_app (goodIn_of _ (by decide +kernel)) ggL_law_L_addUp
set_option maxRecDepth 20000 in
theorem ggL_law_L_prepare : GoodIn wsL_law wsL_prepare := goodIn_ca (goodIn_ca (goodIn_ca (goodIn_r _ [208, 126, 127, 128, 2, 129, 90, 91, 13, 130, 131, 132, 133, 134, 135, 136, 137, 138, 139, 140, 141, 142, 143, 144, 145, 146, 147, 148, 149, 12, 150, 106, 78, 79, 74, 80, 81, 209, 210, 211, 212, 118, 119, 26, 87, 88, 89, 213, 214, 215, 216, 43, 42, 92, 93, 94, 25, 95, 67, 96, 97, 98, 99, 100, 101, 102, 103, 104, 105, 107, 37, 108, 109, 38, 39, 40, 41, 44, 45, 46, 47, 48, 49, 217, 218, 219, 220, 387, 388, 389, 390, 391, 392, 393, 394, 395, 396, 397, 398, 399, 400, 401, 402, 403, 404, 405, 406, 407, 408, 409, 410, 411, 417, 418, 419] (by decide +kernel) (by decide +kernel)) (goodIn_sub (fun _ h => List.mem_append_left _ (List.mem_append_left _ (List.mem_append_right _ h))) (by decide +kernel))) (goodIn_sub (fun _ h => List.mem_append_right _ h) (by decide +kernel))) (goodIn_sub (fun _ h => List.mem_append_left _ (List.mem_append_right _ h)) (by decide +kernel))
set_option maxRecDepth 20000 in
theorem gL_law_L_prepare : GoodIn wsL_law (va_wsS RL 96 yL_prepare wsL_prepare) := goodIn_app (goodIn_of _ (by decide +kernel)) ggL_law_L_prepare
