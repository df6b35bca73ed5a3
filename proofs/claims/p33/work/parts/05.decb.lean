theorem dX5_member_102 : decode cX5_member 102 = .ok (.baload, 1) := by decide +kernel
theorem dX5_member_103 : decode cX5_member 103 = .ok (.ifCond .eq 7, 3) := by decide +kernel
theorem dX5_member_106 : decode cX5_member 106 = .ok (.iconst 1, 1) := by decide +kernel
theorem dX5_member_107 : decode cX5_member 107 = .ok (.goto 4, 3) := by decide +kernel
theorem dX5_member_110 : decode cX5_member 110 = .ok (.iconst 0, 1) := by decide +kernel
theorem dX5_member_111 : decode cX5_member 111 = .ok (.ireturn, 1) := by decide +kernel
theorem dX5_member_112 : decode cX5_member 112 = .ok (.aload_n 0, 1) := by decide +kernel
theorem dX5_member_113 : decode cX5_member 113 = .ok (.getfield 10, 3) := by decide +kernel
theorem dX5_member_116 : decode cX5_member 116 = .ok (.getfield 138, 3) := by decide +kernel
theorem dX5_member_119 : decode cX5_member 119 = .ok (.iload_n 1, 1) := by decide +kernel
theorem dX5_member_120 : decode cX5_member 120 = .ok (.baload, 1) := by decide +kernel
theorem dX5_member_121 : decode cX5_member 121 = .ok (.ifCond .eq 7, 3) := by decide +kernel
theorem dX5_member_124 : decode cX5_member 124 = .ok (.iconst 1, 1) := by decide +kernel
theorem dX5_member_125 : decode cX5_member 125 = .ok (.goto 4, 3) := by decide +kernel
theorem dX5_member_128 : decode cX5_member 128 = .ok (.iconst 0, 1) := by decide +kernel
theorem dX5_member_129 : decode cX5_member 129 = .ok (.ireturn, 1) := by decide +kernel
theorem dX5_member_130 : decode cX5_member 130 = .ok (.aload_n 0, 1) := by decide +kernel
theorem dX5_member_131 : decode cX5_member 131 = .ok (.getfield 10, 3) := by decide +kernel
theorem dX5_member_134 : decode cX5_member 134 = .ok (.getfield 141, 3) := by decide +kernel
theorem dX5_member_137 : decode cX5_member 137 = .ok (.iload_n 1, 1) := by decide +kernel
theorem dX5_member_138 : decode cX5_member 138 = .ok (.baload, 1) := by decide +kernel
theorem dX5_member_139 : decode cX5_member 139 = .ok (.ifCond .eq 7, 3) := by decide +kernel
theorem dX5_member_142 : decode cX5_member 142 = .ok (.iconst 1, 1) := by decide +kernel
theorem dX5_member_143 : decode cX5_member 143 = .ok (.goto 4, 3) := by decide +kernel
theorem dX5_member_146 : decode cX5_member 146 = .ok (.iconst 0, 1) := by decide +kernel
theorem dX5_member_147 : decode cX5_member 147 = .ok (.ireturn, 1) := by decide +kernel
theorem dX5_member_148 : decode cX5_member 148 = .ok (.aload_n 0, 1) := by decide +kernel
theorem dX5_member_149 : decode cX5_member 149 = .ok (.getfield 10, 3) := by decide +kernel
theorem dX5_member_152 : decode cX5_member 152 = .ok (.getfield 144, 3) := by decide +kernel
theorem dX5_member_155 : decode cX5_member 155 = .ok (.iload_n 1, 1) := by decide +kernel
theorem dX5_member_156 : decode cX5_member 156 = .ok (.iaload, 1) := by decide +kernel
theorem dX5_member_157 : decode cX5_member 157 = .ok (.ireturn, 1) := by decide +kernel
theorem dX5_member_158 : decode cX5_member 158 = .ok (.aload_n 0, 1) := by decide +kernel
theorem dX5_member_159 : decode cX5_member 159 = .ok (.getfield 10, 3) := by decide +kernel
theorem dX5_member_162 : decode cX5_member 162 = .ok (.getfield 147, 3) := by decide +kernel
theorem dX5_member_165 : decode cX5_member 165 = .ok (.iload_n 1, 1) := by decide +kernel
theorem dX5_member_166 : decode cX5_member 166 = .ok (.iaload, 1) := by decide +kernel
theorem dX5_member_167 : decode cX5_member 167 = .ok (.ireturn, 1) := by decide +kernel
theorem dX5_member_168 : decode cX5_member 168 = .ok (.aload_n 0, 1) := by decide +kernel
theorem dX5_member_169 : decode cX5_member 169 = .ok (.getfield 10, 3) := by decide +kernel
theorem dX5_member_172 : decode cX5_member 172 = .ok (.getfield 150, 3) := by decide +kernel
theorem dX5_member_175 : decode cX5_member 175 = .ok (.iload_n 1, 1) := by decide +kernel
theorem dX5_member_176 : decode cX5_member 176 = .ok (.iaload, 1) := by decide +kernel
theorem dX5_member_177 : decode cX5_member 177 = .ok (.ireturn, 1) := by decide +kernel
theorem dX5_member_178 : decode cX5_member 178 = .ok (.aload_n 0, 1) := by decide +kernel
theorem dX5_member_179 : decode cX5_member 179 = .ok (.getfield 10, 3) := by decide +kernel
theorem dX5_member_182 : decode cX5_member 182 = .ok (.getfield 153, 3) := by decide +kernel
theorem dX5_member_185 : decode cX5_member 185 = .ok (.iload_n 1, 1) := by decide +kernel
theorem dX5_member_186 : decode cX5_member 186 = .ok (.iaload, 1) := by decide +kernel
theorem dX5_member_187 : decode cX5_member 187 = .ok (.ireturn, 1) := by decide +kernel
theorem dX5_member_188 : decode cX5_member 188 = .ok (.aload_n 0, 1) := by decide +kernel
theorem dX5_member_189 : decode cX5_member 189 = .ok (.getfield 10, 3) := by decide +kernel
theorem dX5_member_192 : decode cX5_member 192 = .ok (.getfield 156, 3) := by decide +kernel
theorem dX5_member_195 : decode cX5_member 195 = .ok (.iload_n 1, 1) := by decide +kernel
theorem dX5_member_196 : decode cX5_member 196 = .ok (.iaload, 1) := by decide +kernel
theorem dX5_member_197 : decode cX5_member 197 = .ok (.ireturn, 1) := by decide +kernel
theorem dX5_member_198 : decode cX5_member 198 = .ok (.new 116, 3) := by decide +kernel
theorem dX5_member_201 : decode cX5_member 201 = .ok (.dup, 1) := by decide +kernel
theorem dX5_member_202 : decode cX5_member 202 = .ok (.ldc 159, 2) := by decide +kernel
theorem dX5_member_204 : decode cX5_member 204 = .ok (.invokespecial 120, 3) := by decide +kernel
theorem dX5_member_207 : decode cX5_member 207 = .ok (.athrow, 1) := by decide +kernel
set_option maxRecDepth 20000 in
theorem ggX5_owes_X5_requireTwoMembers : GoodIn wsX5_owes wsX5_requireTwoMembers := goodIn_ca (goodIn_ca (goodIn_r _ [7, 8, 9, 10, 11, 12, 6, 13, 14, 15, 1, 16, 17, 18, 19, 20, 21, 25, 26, 27, 28, 29, 30, 31, 32, 33, 34, 35, 36, 37, 38, 39, 40, 41, 42, 43, 44, 45, 46, 47, 48, 49] (by decide +kernel) (by decide +kernel)) (goodIn_sub (fun _ h => List.mem_cons_of_mem _ (List.mem_append_left _ (List.mem_append_right _ h))) (by decide +kernel))) (goodIn_sub (fun _ h => List.mem_cons_of_mem _ (List.mem_append_right _ h)) (by decide +kernel))
set_option maxRecDepth 20000 in
theorem gX5_owes_X5_requireTwoMembers : GoodIn wsX5_owes (wsV RX5 161 RX5 yX5_requireTwoMembers wsX5_requireTwoMembers) := goodIn_app (goodIn_of _ (by decide +kernel)) ggX5_owes_X5_requireTwoMembers
set_option maxRecDepth 20000 in
theorem ggX5_owes_X3_pair : GoodIn wsX5_owes wsX3_pair := goodIn_r _ [24] (by decide +kernel) (by decide +kernel)
set_option maxRecDepth 20000 in
theorem gX5_owes_X3_pair : GoodIn wsX5_owes (va_wsS RX5 168 yX3_pair wsX3_pair) := goodIn_app (goodIn_of _ (by decide +kernel)) ggX5_owes_X3_pair
theorem dX5_owes_0 : decode cX5_owes 0 = .ok (.aload_n 0, 1) := by decide +kernel
theorem dX5_owes_1 : decode cX5_owes 1 = .ok (.iload_n 1, 1) := by decide +kernel
theorem dX5_owes_2 : decode cX5_owes 2 = .ok (.iload_n 2, 1) := by decide +kernel
theorem dX5_owes_3 : decode cX5_owes 3 = .ok (.invokevirtual 161, 3) := by decide +kernel
theorem dX5_owes_6 : decode cX5_owes 6 = .ok (.aload_n 0, 1) := by decide +kernel
theorem dX5_owes_7 : decode cX5_owes 7 = .ok (.getfield 10, 3) := by decide +kernel
theorem dX5_owes_10 : decode cX5_owes 10 = .ok (.getfield 165, 3) := by decide +kernel
theorem dX5_owes_13 : decode cX5_owes 13 = .ok (.iload_n 1, 1) := by decide +kernel
theorem dX5_owes_14 : decode cX5_owes 14 = .ok (.iload_n 2, 1) := by decide +kernel
theorem dX5_owes_15 : decode cX5_owes 15 = .ok (.invokestatic 168, 3) := by decide +kernel
theorem dX5_owes_18 : decode cX5_owes 18 = .ok (.iaload, 1) := by decide +kernel
theorem dX5_owes_19 : decode cX5_owes 19 = .ok (.ireturn, 1) := by decide +kernel
set_option maxRecDepth 20000 in
theorem ggX5_chain_X5_requireMember : GoodIn wsX5_chain wsX5_requireMember := goodIn_ca (goodIn_r _ [6, 7, 8, 1, 9, 10, 11, 12, 13, 14, 21, 22, 23, 24, 25, 26, 27, 28, 29, 30, 31, 32, 33, 34, 35, 36, 37, 38, 39, 40, 41, 42, 43, 44, 45] (by decide +kernel) (by decide +kernel)) (goodIn_sub (fun _ h => List.mem_cons_of_mem _ (List.mem_append_right _ h)) (by decide +kernel))
set_option maxRecDepth 20000 in
theorem gX5_chain_X5_requireMember : GoodIn wsX5_chain (wsV RX5 121 RX5 yX5_requireMember wsX5_requireMember) := goodIn_app (goodIn_of _ (by decide +kernel)) ggX5_chain_X5_requireMember
set_option maxRecDepth 20000 in
theorem ggX5_chain_X3_chainLength : GoodIn wsX5_chain wsX3_chainLength := goodIn_r _ [18, 19, 20, 10, 11, 12, 13, 14, 29, 30, 31, 32, 33, 34, 35, 36, 37, 38, 39, 40, 41, 42, 43, 44, 45] (by decide +kernel) (by decide +kernel)
set_option maxRecDepth 20000 in
theorem gX5_chain_X3_chainLength : GoodIn wsX5_chain (wsV RX5 172 RX3 yX3_chainLength wsX3_chainLength) := goodIn_app (goodIn_of _ (by decide +kernel)) ggX5_chain_X3_chainLength
theorem dX5_chain_0 : decode cX5_chain 0 = .ok (.aload_n 0, 1) := by decide +kernel
theorem dX5_chain_1 : decode cX5_chain 1 = .ok (.iload_n 1, 1) := by decide +kernel
theorem dX5_chain_2 : decode cX5_chain 2 = .ok (.invokevirtual 121, 3) := by decide +kernel
theorem dX5_chain_5 : decode cX5_chain 5 = .ok (.aload_n 0, 1) := by decide +kernel
theorem dX5_chain_6 : decode cX5_chain 6 = .ok (.getfield 10, 3) := by decide +kernel
theorem dX5_chain_9 : decode cX5_chain 9 = .ok (.iload_n 1, 1) := by decide +kernel
theorem dX5_chain_10 : decode cX5_chain 10 = .ok (.invokevirtual 172, 3) := by decide +kernel
theorem dX5_chain_13 : decode cX5_chain 13 = .ok (.ireturn, 1) := by decide +kernel
set_option maxRecDepth 20000 in
theorem ggX5_addMember_X5_requireRange : GoodIn wsX5_addMember wsX5_requireRange := goodIn_ca (goodIn_r _ [9, 10, 11] (by decide +kernel) (by decide +kernel)) (goodIn_sub (fun _ h => List.mem_cons_of_mem _ (List.mem_append_right _ h)) (by decide +kernel))
set_option maxRecDepth 20000 in
theorem gX5_addMember_X5_requireRange : GoodIn wsX5_addMember (va_wsS RX5 55 yX5_requireRange wsX5_requireRange) := goodIn_app (goodIn_of _ (by decide +kernel)) ggX5_addMember_X5_requireRange
set_option maxRecDepth 20000 in
theorem ggX5_addMember_X0_remember : GoodIn wsX5_addMember wsX0_remember := goodIn_r _ [16, 17, 18, 19, 20, 21, 22, 23, 24, 25, 26, 27, 28, 29, 30, 31, 32, 33, 34, 35, 36, 37, 38, 39, 40, 41, 42, 43, 44, 45, 76, 77, 78, 59, 60, 61, 62, 63, 64, 65, 66, 67, 68, 69, 70, 71, 72, 73, 74, 75] (by decide +kernel) (by decide +kernel)
set_option maxRecDepth 20000 in
theorem gX5_addMember_X0_remember : GoodIn wsX5_addMember (wsV RX5 181 RX0 yX0_remember wsX0_remember) := goodIn_app (goodIn_of _ (by decide +kernel)) ggX5_addMember_X0_remember
set_option maxRecDepth 20000 in
theorem ggX5_addMember_X3_join : GoodIn wsX5_addMember wsX3_join := goodIn_r _ [49, 29, 34, 35, 50, 36, 37, 38, 39, 40, 41, 42, 43, 44, 33, 59, 60, 61, 62, 63, 64, 65, 66, 67, 68, 69, 70, 71, 72, 73, 74, 75] (by decide +kernel) (by decide +kernel)
set_option maxRecDepth 20000 in
theorem gX5_addMember_X3_join : GoodIn wsX5_addMember (wsV RX5 184 RX3 yX3_join wsX3_join) := goodIn_app (goodIn_of _ (by decide +kernel)) ggX5_addMember_X3_join
theorem dX5_addMember_0 : decode cX5_addMember 0 = .ok (.iload_n 1, 1) := by decide +kernel
theorem dX5_addMember_1 : decode cX5_addMember 1 = .ok (.iconst 0, 1) := by decide +kernel
theorem dX5_addMember_2 : decode cX5_addMember 2 = .ok (.sipush 999, 3) := by decide +kernel
theorem dX5_addMember_5 : decode cX5_addMember 5 = .ok (.invokestatic 55, 3) := by decide +kernel
theorem dX5_addMember_8 : decode cX5_addMember 8 = .ok (.aload_n 0, 1) := by decide +kernel
theorem dX5_addMember_9 : decode cX5_addMember 9 = .ok (.getfield 10, 3) := by decide +kernel
theorem dX5_addMember_12 : decode cX5_addMember 12 = .ok (.getfield 88, 3) := by decide +kernel
theorem dX5_addMember_15 : decode cX5_addMember 15 = .ok (.bipush 8, 2) := by decide +kernel
theorem dX5_addMember_17 : decode cX5_addMember 17 = .ok (.if_icmp .lt 13, 3) := by decide +kernel
theorem dX5_addMember_20 : decode cX5_addMember 20 = .ok (.new 63, 3) := by decide +kernel
theorem dX5_addMember_23 : decode cX5_addMember 23 = .ok (.dup, 1) := by decide +kernel
theorem dX5_addMember_24 : decode cX5_addMember 24 = .ok (.ldc 179, 2) := by decide +kernel
theorem dX5_addMember_26 : decode cX5_addMember 26 = .ok (.invokespecial 67, 3) := by decide +kernel
theorem dX5_addMember_29 : decode cX5_addMember 29 = .ok (.athrow, 1) := by decide +kernel
theorem dX5_addMember_30 : decode cX5_addMember 30 = .ok (.aload_n 0, 1) := by decide +kernel
theorem dX5_addMember_31 : decode cX5_addMember 31 = .ok (.getfield 36, 3) := by decide +kernel
theorem dX5_addMember_34 : decode cX5_addMember 34 = .ok (.aload_n 0, 1) := by decide +kernel
theorem dX5_addMember_35 : decode cX5_addMember 35 = .ok (.getfield 10, 3) := by decide +kernel
theorem dX5_addMember_38 : decode cX5_addMember 38 = .ok (.invokevirtual 181, 3) := by decide +kernel
theorem dX5_addMember_41 : decode cX5_addMember 41 = .ok (.aload_n 0, 1) := by decide +kernel
theorem dX5_addMember_42 : decode cX5_addMember 42 = .ok (.getfield 10, 3) := by decide +kernel
theorem dX5_addMember_45 : decode cX5_addMember 45 = .ok (.iload_n 1, 1) := by decide +kernel
theorem dX5_addMember_46 : decode cX5_addMember 46 = .ok (.invokevirtual 184, 3) := by decide +kernel
theorem dX5_addMember_49 : decode cX5_addMember 49 = .ok (.ireturn, 1) := by decide +kernel
set_option maxRecDepth 20000 in
theorem ggX5_setContribution_X5_requireRange : GoodIn wsX5_setContribution wsX5_requireRange := goodIn_ca (goodIn_r _ [7, 8, 9] (by decide +kernel) (by decide +kernel)) (goodIn_sub (fun _ h => List.mem_cons_of_mem _ (List.mem_append_right _ h)) (by decide +kernel))
set_option maxRecDepth 20000 in
theorem gX5_setContribution_X5_requireRange : GoodIn wsX5_setContribution (va_wsS RX5 55 yX5_requireRange wsX5_requireRange) := goodIn_app (goodIn_of _ (by decide +kernel)) ggX5_setContribution_X5_requireRange
set_option maxRecDepth 20000 in
theorem ggX5_setContribution_X0_remember : GoodIn wsX5_setContribution wsX0_remember := goodIn_r _ [14, 15, 16, 17, 18, 19, 20, 21, 22, 23, 24, 25, 26, 27, 28, 29, 30, 31, 32, 33, 34, 35, 36, 37, 38, 39, 40, 41, 42, 43, 69, 70, 71, 52, 53, 54, 55, 56, 57, 58, 59, 60, 61, 62, 63, 64, 65, 66, 67, 68] (by decide +kernel) (by decide +kernel)
set_option maxRecDepth 20000 in
theorem gX5_setContribution_X0_remember : GoodIn wsX5_setContribution (wsV RX5 181 RX0 yX0_remember wsX0_remember) := goodIn_app (goodIn_of _ (by decide +kernel)) ggX5_setContribution_X0_remember
theorem dX5_setContribution_0 : decode cX5_setContribution 0 = .ok (.iload_n 1, 1) := by decide +kernel
theorem dX5_setContribution_1 : decode cX5_setContribution 1 = .ok (.iconst 1, 1) := by decide +kernel
theorem dX5_setContribution_2 : decode cX5_setContribution 2 = .ok (.bipush 50, 2) := by decide +kernel
theorem dX5_setContribution_4 : decode cX5_setContribution 4 = .ok (.invokestatic 55, 3) := by decide +kernel
theorem dX5_setContribution_7 : decode cX5_setContribution 7 = .ok (.aload_n 0, 1) := by decide +kernel
theorem dX5_setContribution_8 : decode cX5_setContribution 8 = .ok (.getfield 36, 3) := by decide +kernel
theorem dX5_setContribution_11 : decode cX5_setContribution 11 = .ok (.aload_n 0, 1) := by decide +kernel
theorem dX5_setContribution_12 : decode cX5_setContribution 12 = .ok (.getfield 10, 3) := by decide +kernel
theorem dX5_setContribution_15 : decode cX5_setContribution 15 = .ok (.invokevirtual 181, 3) := by decide +kernel
theorem dX5_setContribution_18 : decode cX5_setContribution 18 = .ok (.aload_n 0, 1) := by decide +kernel
theorem dX5_setContribution_19 : decode cX5_setContribution 19 = .ok (.getfield 10, 3) := by decide +kernel
theorem dX5_setContribution_22 : decode cX5_setContribution 22 = .ok (.getfield 98, 3) := by decide +kernel
theorem dX5_setContribution_25 : decode cX5_setContribution 25 = .ok (.istore_n 2, 1) := by decide +kernel
theorem dX5_setContribution_26 : decode cX5_setContribution 26 = .ok (.aload_n 0, 1) := by decide +kernel
theorem dX5_setContribution_27 : decode cX5_setContribution 27 = .ok (.getfield 10, 3) := by decide +kernel
theorem dX5_setContribution_30 : decode cX5_setContribution 30 = .ok (.iload_n 1, 1) := by decide +kernel
theorem dX5_setContribution_31 : decode cX5_setContribution 31 = .ok (.putfield 98, 3) := by decide +kernel
theorem dX5_setContribution_34 : decode cX5_setContribution 34 = .ok (.iload_n 2, 1) := by decide +kernel
theorem dX5_setContribution_35 : decode cX5_setContribution 35 = .ok (.ireturn, 1) := by decide +kernel
set_option maxRecDepth 20000 in
theorem ggX5_setGuarantor_X5_requireMember : GoodIn wsX5_setGuarantor wsX5_requireMember := goodIn_ca (goodIn_r _ [9, 10, 11, 3, 12, 13, 14, 15, 16, 17, 56, 57, 58, 59, 60, 61, 62, 63, 64, 65, 66, 67, 68, 69, 70, 71, 72, 73, 74, 75, 76, 77, 78, 79, 80] (by decide +kernel) (by decide +kernel)) (goodIn_sub (fun _ h => List.mem_cons_of_mem _ (List.mem_append_left _ (List.mem_append_right _ h))) (by decide +kernel))
set_option maxRecDepth 20000 in
theorem gX5_setGuarantor_X5_requireMember : GoodIn wsX5_setGuarantor (wsV RX5 121 RX5 yX5_requireMember wsX5_requireMember) := goodIn_app (goodIn_of _ (by decide +kernel)) ggX5_setGuarantor_X5_requireMember
set_option maxRecDepth 20000 in
theorem ggX5_setGuarantor_X5_requireTwoMembers : GoodIn wsX5_setGuarantor wsX5_requireTwoMembers := goodIn_ca (goodIn_ca (goodIn_r _ [21, 22, 23, 5, 6, 7, 8, 9, 10, 11, 3, 12, 13, 14, 15, 16, 17, 56, 57, 58, 59, 60, 61, 62, 63, 64, 65, 66, 67, 68, 69, 70, 71, 72, 73, 74, 75, 76, 77, 78, 79, 80] (by decide +kernel) (by decide +kernel)) (goodIn_sub (fun _ h => List.mem_cons_of_mem _ (List.mem_append_right _ h)) (by decide +kernel))) (goodIn_sub (fun _ h => List.mem_cons_of_mem _ (List.mem_append_left _ (List.mem_append_right _ h))) (by decide +kernel))
set_option maxRecDepth 20000 in
theorem gX5_setGuarantor_X5_requireTwoMembers : GoodIn wsX5_setGuarantor (wsV RX5 161 RX5 yX5_requireTwoMembers wsX5_requireTwoMembers) := goodIn_app (goodIn_of _ (by decide +kernel)) ggX5_setGuarantor_X5_requireTwoMembers
set_option maxRecDepth 20000 in
theorem ggX5_setGuarantor_X0_remember : GoodIn wsX5_setGuarantor wsX0_remember := goodIn_r _ [28, 29, 30, 31, 32, 33, 34, 35, 36, 37, 38, 15, 39, 17, 40, 41, 42, 43, 44, 45, 46, 47, 48, 49, 50, 51, 52, 53, 54, 55, 81, 82, 83, 64, 65, 66, 67, 68, 69, 70, 71, 72, 73, 74, 75, 76, 77, 78, 79, 80] (by decide +kernel) (by decide +kernel)
set_option maxRecDepth 20000 in
theorem gX5_setGuarantor_X0_remember : GoodIn wsX5_setGuarantor (wsV RX5 181 RX0 yX0_remember wsX0_remember) := goodIn_app (goodIn_of _ (by decide +kernel)) ggX5_setGuarantor_X0_remember
theorem dX5_setGuarantor_0 : decode cX5_setGuarantor 0 = .ok (.iload_n 2, 1) := by decide +kernel
theorem dX5_setGuarantor_1 : decode cX5_setGuarantor 1 = .ok (.ldc 78, 2) := by decide +kernel
theorem dX5_setGuarantor_3 : decode cX5_setGuarantor 3 = .ok (.if_icmp .ne 11, 3) := by decide +kernel
theorem dX5_setGuarantor_6 : decode cX5_setGuarantor 6 = .ok (.aload_n 0, 1) := by decide +kernel
theorem dX5_setGuarantor_7 : decode cX5_setGuarantor 7 = .ok (.iload_n 1, 1) := by decide +kernel
theorem dX5_setGuarantor_8 : decode cX5_setGuarantor 8 = .ok (.invokevirtual 121, 3) := by decide +kernel
theorem dX5_setGuarantor_11 : decode cX5_setGuarantor 11 = .ok (.goto 9, 3) := by decide +kernel
theorem dX5_setGuarantor_14 : decode cX5_setGuarantor 14 = .ok (.aload_n 0, 1) := by decide +kernel
theorem dX5_setGuarantor_15 : decode cX5_setGuarantor 15 = .ok (.iload_n 1, 1) := by decide +kernel
theorem dX5_setGuarantor_16 : decode cX5_setGuarantor 16 = .ok (.iload_n 2, 1) := by decide +kernel
theorem dX5_setGuarantor_17 : decode cX5_setGuarantor 17 = .ok (.invokevirtual 161, 3) := by decide +kernel
theorem dX5_setGuarantor_20 : decode cX5_setGuarantor 20 = .ok (.aload_n 0, 1) := by decide +kernel
theorem dX5_setGuarantor_21 : decode cX5_setGuarantor 21 = .ok (.getfield 36, 3) := by decide +kernel
theorem dX5_setGuarantor_24 : decode cX5_setGuarantor 24 = .ok (.aload_n 0, 1) := by decide +kernel
theorem dX5_setGuarantor_25 : decode cX5_setGuarantor 25 = .ok (.getfield 10, 3) := by decide +kernel
theorem dX5_setGuarantor_28 : decode cX5_setGuarantor 28 = .ok (.invokevirtual 181, 3) := by decide +kernel
theorem dX5_setGuarantor_31 : decode cX5_setGuarantor 31 = .ok (.aload_n 0, 1) := by decide +kernel
theorem dX5_setGuarantor_32 : decode cX5_setGuarantor 32 = .ok (.getfield 10, 3) := by decide +kernel
theorem dX5_setGuarantor_35 : decode cX5_setGuarantor 35 = .ok (.getfield 129, 3) := by decide +kernel
theorem dX5_setGuarantor_38 : decode cX5_setGuarantor 38 = .ok (.iload_n 1, 1) := by decide +kernel
theorem dX5_setGuarantor_39 : decode cX5_setGuarantor 39 = .ok (.iaload, 1) := by decide +kernel
theorem dX5_setGuarantor_40 : decode cX5_setGuarantor 40 = .ok (.istore_n 3, 1) := by decide +kernel
theorem dX5_setGuarantor_41 : decode cX5_setGuarantor 41 = .ok (.aload_n 0, 1) := by decide +kernel
theorem dX5_setGuarantor_42 : decode cX5_setGuarantor 42 = .ok (.getfield 10, 3) := by decide +kernel
theorem dX5_setGuarantor_45 : decode cX5_setGuarantor 45 = .ok (.getfield 129, 3) := by decide +kernel
theorem dX5_setGuarantor_48 : decode cX5_setGuarantor 48 = .ok (.iload_n 1, 1) := by decide +kernel
theorem dX5_setGuarantor_49 : decode cX5_setGuarantor 49 = .ok (.iload_n 2, 1) := by decide +kernel
theorem dX5_setGuarantor_50 : decode cX5_setGuarantor 50 = .ok (.iastore, 1) := by decide +kernel
theorem dX5_setGuarantor_51 : decode cX5_setGuarantor 51 = .ok (.iload_n 3, 1) := by decide +kernel
theorem dX5_setGuarantor_52 : decode cX5_setGuarantor 52 = .ok (.ireturn, 1) := by decide +kernel
set_option maxRecDepth 20000 in
theorem ggX5_bid_X5_requireMember : GoodIn wsX5_bid wsX5_requireMember := goodIn_ca (goodIn_r _ [10, 11, 12, 3, 13, 14, 15, 16, 17, 18, 60, 61, 62, 63, 64, 65, 66, 67, 68, 69, 70, 71, 72, 73, 74, 75, 76, 77, 78, 79, 80, 81, 82, 83, 84] (by decide +kernel) (by decide +kernel)) (goodIn_sub (fun _ h => List.mem_cons_of_mem _ (List.mem_append_left _ (List.mem_append_right _ h))) (by decide +kernel))
set_option maxRecDepth 20000 in
theorem gX5_bid_X5_requireMember : GoodIn wsX5_bid (wsV RX5 121 RX5 yX5_requireMember wsX5_requireMember) := goodIn_app (goodIn_of _ (by decide +kernel)) ggX5_bid_X5_requireMember
set_option maxRecDepth 20000 in
theorem ggX5_bid_X5_requireRange : GoodIn wsX5_bid wsX5_requireRange := goodIn_ca (goodIn_r _ [21, 22, 23] (by decide +kernel) (by decide +kernel)) (goodIn_sub (fun _ h => List.mem_cons_of_mem _ (List.mem_append_right _ h)) (by decide +kernel))
set_option maxRecDepth 20000 in
theorem gX5_bid_X5_requireRange : GoodIn wsX5_bid (va_wsS RX5 55 yX5_requireRange wsX5_requireRange) := goodIn_app (goodIn_of _ (by decide +kernel)) ggX5_bid_X5_requireRange
set_option maxRecDepth 20000 in
theorem ggX5_bid_X3_mayBid : GoodIn wsX5_bid wsX3_mayBid := goodIn_r _ [27, 28, 29, 68, 69, 70, 71, 72, 73, 74, 75, 76, 77, 78, 79, 80, 81, 82, 83, 84] (by decide +kernel) (by decide +kernel)
set_option maxRecDepth 20000 in
theorem gX5_bid_X3_mayBid : GoodIn wsX5_bid (wsV RX5 187 RX3 yX3_mayBid wsX3_mayBid) := goodIn_app (goodIn_of _ (by decide +kernel)) ggX5_bid_X3_mayBid
set_option maxRecDepth 20000 in
theorem ggX5_bid_X0_remember : GoodIn wsX5_bid wsX0_remember := goodIn_r _ [34, 35, 36, 37, 38, 39, 40, 41, 42, 43, 44, 16, 45, 18, 46, 47, 48, 49, 50, 51, 52, 53, 29, 28, 54, 55, 56, 57, 58, 59, 85, 86, 87, 68, 69, 70, 71, 72, 73, 74, 75, 76, 77, 78, 79, 80, 81, 82, 83, 84] (by decide +kernel) (by decide +kernel)
set_option maxRecDepth 20000 in
theorem gX5_bid_X0_remember : GoodIn wsX5_bid (wsV RX5 181 RX0 yX0_remember wsX0_remember) := goodIn_app (goodIn_of _ (by decide +kernel)) ggX5_bid_X0_remember
theorem dX5_bid_0 : decode cX5_bid 0 = .ok (.aload_n 0, 1) := by decide +kernel
theorem dX5_bid_1 : decode cX5_bid 1 = .ok (.iload_n 1, 1) := by decide +kernel
theorem dX5_bid_2 : decode cX5_bid 2 = .ok (.invokevirtual 121, 3) := by decide +kernel
theorem dX5_bid_5 : decode cX5_bid 5 = .ok (.iload_n 2, 1) := by decide +kernel
theorem dX5_bid_6 : decode cX5_bid 6 = .ok (.iconst 0, 1) := by decide +kernel
theorem dX5_bid_7 : decode cX5_bid 7 = .ok (.sipush 999, 3) := by decide +kernel
theorem dX5_bid_10 : decode cX5_bid 10 = .ok (.invokestatic 55, 3) := by decide +kernel
theorem dX5_bid_13 : decode cX5_bid 13 = .ok (.aload_n 0, 1) := by decide +kernel
theorem dX5_bid_14 : decode cX5_bid 14 = .ok (.getfield 10, 3) := by decide +kernel
theorem dX5_bid_17 : decode cX5_bid 17 = .ok (.iload_n 1, 1) := by decide +kernel
theorem dX5_bid_18 : decode cX5_bid 18 = .ok (.invokevirtual 187, 3) := by decide +kernel
theorem dX5_bid_21 : decode cX5_bid 21 = .ok (.ifCond .ne 13, 3) := by decide +kernel
theorem dX5_bid_24 : decode cX5_bid 24 = .ok (.new 63, 3) := by decide +kernel
theorem dX5_bid_27 : decode cX5_bid 27 = .ok (.dup, 1) := by decide +kernel
theorem dX5_bid_28 : decode cX5_bid 28 = .ok (.ldc 191, 2) := by decide +kernel
theorem dX5_bid_30 : decode cX5_bid 30 = .ok (.invokespecial 67, 3) := by decide +kernel
theorem dX5_bid_33 : decode cX5_bid 33 = .ok (.athrow, 1) := by decide +kernel
theorem dX5_bid_34 : decode cX5_bid 34 = .ok (.aload_n 0, 1) := by decide +kernel
theorem dX5_bid_35 : decode cX5_bid 35 = .ok (.getfield 36, 3) := by decide +kernel
theorem dX5_bid_38 : decode cX5_bid 38 = .ok (.aload_n 0, 1) := by decide +kernel
theorem dX5_bid_39 : decode cX5_bid 39 = .ok (.getfield 10, 3) := by decide +kernel
theorem dX5_bid_42 : decode cX5_bid 42 = .ok (.invokevirtual 181, 3) := by decide +kernel
theorem dX5_bid_45 : decode cX5_bid 45 = .ok (.aload_n 0, 1) := by decide +kernel
theorem dX5_bid_46 : decode cX5_bid 46 = .ok (.getfield 10, 3) := by decide +kernel
theorem dX5_bid_49 : decode cX5_bid 49 = .ok (.getfield 132, 3) := by decide +kernel
theorem dX5_bid_52 : decode cX5_bid 52 = .ok (.iload_n 1, 1) := by decide +kernel
theorem dX5_bid_53 : decode cX5_bid 53 = .ok (.iaload, 1) := by decide +kernel
theorem dX5_bid_54 : decode cX5_bid 54 = .ok (.istore_n 3, 1) := by decide +kernel
theorem dX5_bid_55 : decode cX5_bid 55 = .ok (.aload_n 0, 1) := by decide +kernel
theorem dX5_bid_56 : decode cX5_bid 56 = .ok (.getfield 10, 3) := by decide +kernel
theorem dX5_bid_59 : decode cX5_bid 59 = .ok (.getfield 132, 3) := by decide +kernel
theorem dX5_bid_62 : decode cX5_bid 62 = .ok (.iload_n 1, 1) := by decide +kernel
theorem dX5_bid_63 : decode cX5_bid 63 = .ok (.iload_n 2, 1) := by decide +kernel
theorem dX5_bid_64 : decode cX5_bid 64 = .ok (.iastore, 1) := by decide +kernel
theorem dX5_bid_65 : decode cX5_bid 65 = .ok (.iload_n 3, 1) := by decide +kernel
theorem dX5_bid_66 : decode cX5_bid 66 = .ok (.ireturn, 1) := by decide +kernel
set_option maxRecDepth 20000 in
theorem ggX5_stayAway_X5_requireMember : GoodIn wsX5_stayAway wsX5_requireMember := goodIn_ca (goodIn_r _ [8, 9, 10, 2, 11, 12, 13, 14, 15, 16, 49, 50, 51, 52, 53, 54, 55, 56, 57, 58, 59, 60, 61, 62, 63, 64, 65, 66, 67, 68, 69, 70, 71, 72, 73] (by decide +kernel) (by decide +kernel)) (goodIn_sub (fun _ h => List.mem_cons_of_mem _ (List.mem_append_right _ h)) (by decide +kernel))
set_option maxRecDepth 20000 in
theorem gX5_stayAway_X5_requireMember : GoodIn wsX5_stayAway (wsV RX5 121 RX5 yX5_requireMember wsX5_requireMember) := goodIn_app (goodIn_of _ (by decide +kernel)) ggX5_stayAway_X5_requireMember
set_option maxRecDepth 20000 in
theorem ggX5_stayAway_X0_remember : GoodIn wsX5_stayAway wsX0_remember := goodIn_r _ [21, 22, 23, 24, 25, 26, 27, 28, 29, 30, 31, 14, 32, 16, 33, 34, 35, 36, 37, 38, 39, 40, 41, 42, 43, 44, 45, 46, 47, 48, 74, 75, 76, 57, 58, 59, 60, 61, 62, 63, 64, 65, 66, 67, 68, 69, 70, 71, 72, 73] (by decide +kernel) (by decide +kernel)
set_option maxRecDepth 20000 in
theorem gX5_stayAway_X0_remember : GoodIn wsX5_stayAway (wsV RX5 181 RX0 yX0_remember wsX0_remember) := goodIn_app (goodIn_of _ (by decide +kernel)) ggX5_stayAway_X0_remember
theorem dX5_stayAway_0 : decode cX5_stayAway 0 = .ok (.aload_n 0, 1) := by decide +kernel
theorem dX5_stayAway_1 : decode cX5_stayAway 1 = .ok (.iload_n 1, 1) := by decide +kernel
theorem dX5_stayAway_2 : decode cX5_stayAway 2 = .ok (.invokevirtual 121, 3) := by decide +kernel
theorem dX5_stayAway_5 : decode cX5_stayAway 5 = .ok (.aload_n 0, 1) := by decide +kernel
theorem dX5_stayAway_6 : decode cX5_stayAway 6 = .ok (.getfield 36, 3) := by decide +kernel
theorem dX5_stayAway_9 : decode cX5_stayAway 9 = .ok (.aload_n 0, 1) := by decide +kernel
theorem dX5_stayAway_10 : decode cX5_stayAway 10 = .ok (.getfield 10, 3) := by decide +kernel
theorem dX5_stayAway_13 : decode cX5_stayAway 13 = .ok (.invokevirtual 181, 3) := by decide +kernel
theorem dX5_stayAway_16 : decode cX5_stayAway 16 = .ok (.aload_n 0, 1) := by decide +kernel
theorem dX5_stayAway_17 : decode cX5_stayAway 17 = .ok (.getfield 10, 3) := by decide +kernel
theorem dX5_stayAway_20 : decode cX5_stayAway 20 = .ok (.getfield 135, 3) := by decide +kernel
theorem dX5_stayAway_23 : decode cX5_stayAway 23 = .ok (.iload_n 1, 1) := by decide +kernel
theorem dX5_stayAway_24 : decode cX5_stayAway 24 = .ok (.baload, 1) := by decide +kernel
theorem dX5_stayAway_25 : decode cX5_stayAway 25 = .ok (.istore_n 3, 1) := by decide +kernel
theorem dX5_stayAway_26 : decode cX5_stayAway 26 = .ok (.aload_n 0, 1) := by decide +kernel
theorem dX5_stayAway_27 : decode cX5_stayAway 27 = .ok (.getfield 10, 3) := by decide +kernel
theorem dX5_stayAway_30 : decode cX5_stayAway 30 = .ok (.getfield 135, 3) := by decide +kernel
theorem dX5_stayAway_33 : decode cX5_stayAway 33 = .ok (.iload_n 1, 1) := by decide +kernel
theorem dX5_stayAway_34 : decode cX5_stayAway 34 = .ok (.iload_n 2, 1) := by decide +kernel
theorem dX5_stayAway_35 : decode cX5_stayAway 35 = .ok (.bastore, 1) := by decide +kernel
theorem dX5_stayAway_36 : decode cX5_stayAway 36 = .ok (.iload_n 3, 1) := by decide +kernel
theorem dX5_stayAway_37 : decode cX5_stayAway 37 = .ok (.ireturn, 1) := by decide +kernel
set_option maxRecDepth 20000 in
theorem ggX5_give_X5_requireMember : GoodIn wsX5_give wsX5_requireMember := goodIn_ca (goodIn_r _ [10, 11, 12, 3, 13, 14, 15, 16, 17, 18, 64, 65, 66, 67, 68, 69, 70, 71, 72, 73, 74, 75, 76, 77, 78, 79, 80, 81, 82, 83, 84, 85, 86, 87, 88] (by decide +kernel) (by decide +kernel)) (goodIn_sub (fun _ h => List.mem_cons_of_mem _ (List.mem_append_left _ (List.mem_append_right _ h))) (by decide +kernel))
set_option maxRecDepth 20000 in
theorem gX5_give_X5_requireMember : GoodIn wsX5_give (wsV RX5 121 RX5 yX5_requireMember wsX5_requireMember) := goodIn_app (goodIn_of _ (by decide +kernel)) ggX5_give_X5_requireMember
set_option maxRecDepth 20000 in
theorem ggX5_give_X5_requireRange : GoodIn wsX5_give wsX5_requireRange := goodIn_ca (goodIn_r _ [21, 22, 23] (by decide +kernel) (by decide +kernel)) (goodIn_sub (fun _ h => List.mem_cons_of_mem _ (List.mem_append_right _ h)) (by decide +kernel))
set_option maxRecDepth 20000 in
theorem gX5_give_X5_requireRange : GoodIn wsX5_give (va_wsS RX5 55 yX5_requireRange wsX5_requireRange) := goodIn_app (goodIn_of _ (by decide +kernel)) ggX5_give_X5_requireRange
set_option maxRecDepth 20000 in
theorem ggX5_give_X3_mayReceive : GoodIn wsX5_give wsX3_mayReceive := goodIn_r _ [27, 28, 72, 73, 74, 75, 76, 77, 78, 79, 80, 81, 82, 83, 84, 85, 86, 87, 88] (by decide +kernel) (by decide +kernel)
set_option maxRecDepth 20000 in
theorem gX5_give_X3_mayReceive : GoodIn wsX5_give (wsV RX5 193 RX3 yX3_mayReceive wsX3_mayReceive) := goodIn_app (goodIn_of _ (by decide +kernel)) ggX5_give_X3_mayReceive
set_option maxRecDepth 20000 in
theorem ggX5_give_X0_remember : GoodIn wsX5_give wsX0_remember := goodIn_r _ [33, 34, 35, 36, 37, 38, 39, 40, 41, 42, 43, 16, 44, 18, 45, 46, 47, 28, 48, 49, 50, 51, 52, 53, 54, 55, 56, 57, 58, 59, 89, 90, 91, 72, 73, 74, 75, 76, 77, 78, 79, 80, 81, 82, 83, 84, 85, 86, 87, 88] (by decide +kernel) (by decide +kernel)
set_option maxRecDepth 20000 in
theorem gX5_give_X0_remember : GoodIn wsX5_give (wsV RX5 181 RX0 yX0_remember wsX0_remember) := goodIn_app (goodIn_of _ (by decide +kernel)) ggX5_give_X0_remember
set_option maxRecDepth 20000 in
theorem ggX5_give_X3_receive : GoodIn wsX5_give wsX3_receive := goodIn_r _ [63, 48, 28, 72, 73, 74, 75, 76, 77, 78, 79, 80, 81, 82, 83, 84, 85, 86, 87, 88] (by decide +kernel) (by decide +kernel)
set_option maxRecDepth 20000 in
theorem gX5_give_X3_receive : GoodIn wsX5_give (wsV RX5 198 RX3 yX3_receive wsX3_receive) := goodIn_app (goodIn_of _ (by decide +kernel)) ggX5_give_X3_receive
theorem dX5_give_0 : decode cX5_give 0 = .ok (.aload_n 0, 1) := by decide +kernel
theorem dX5_give_1 : decode cX5_give 1 = .ok (.iload_n 1, 1) := by decide +kernel
theorem dX5_give_2 : decode cX5_give 2 = .ok (.invokevirtual 121, 3) := by decide +kernel
theorem dX5_give_5 : decode cX5_give 5 = .ok (.iload_n 2, 1) := by decide +kernel
theorem dX5_give_6 : decode cX5_give 6 = .ok (.iconst 1, 1) := by decide +kernel
theorem dX5_give_7 : decode cX5_give 7 = .ok (.sipush 999, 3) := by decide +kernel
theorem dX5_give_10 : decode cX5_give 10 = .ok (.invokestatic 55, 3) := by decide +kernel
theorem dX5_give_13 : decode cX5_give 13 = .ok (.aload_n 0, 1) := by decide +kernel
theorem dX5_give_14 : decode cX5_give 14 = .ok (.getfield 10, 3) := by decide +kernel
theorem dX5_give_17 : decode cX5_give 17 = .ok (.iload_n 2, 1) := by decide +kernel
theorem dX5_give_18 : decode cX5_give 18 = .ok (.invokevirtual 193, 3) := by decide +kernel
theorem dX5_give_21 : decode cX5_give 21 = .ok (.ifCond .ne 13, 3) := by decide +kernel
theorem dX5_give_24 : decode cX5_give 24 = .ok (.new 63, 3) := by decide +kernel
theorem dX5_give_27 : decode cX5_give 27 = .ok (.dup, 1) := by decide +kernel
theorem dX5_give_28 : decode cX5_give 28 = .ok (.ldc 196, 2) := by decide +kernel
theorem dX5_give_30 : decode cX5_give 30 = .ok (.invokespecial 67, 3) := by decide +kernel
theorem dX5_give_33 : decode cX5_give 33 = .ok (.athrow, 1) := by decide +kernel
theorem dX5_give_34 : decode cX5_give 34 = .ok (.aload_n 0, 1) := by decide +kernel
theorem dX5_give_35 : decode cX5_give 35 = .ok (.getfield 36, 3) := by decide +kernel
theorem dX5_give_38 : decode cX5_give 38 = .ok (.aload_n 0, 1) := by decide +kernel
theorem dX5_give_39 : decode cX5_give 39 = .ok (.getfield 10, 3) := by decide +kernel
theorem dX5_give_42 : decode cX5_give 42 = .ok (.invokevirtual 181, 3) := by decide +kernel
theorem dX5_give_45 : decode cX5_give 45 = .ok (.aload_n 0, 1) := by decide +kernel
theorem dX5_give_46 : decode cX5_give 46 = .ok (.getfield 10, 3) := by decide +kernel
theorem dX5_give_49 : decode cX5_give 49 = .ok (.iload_n 1, 1) := by decide +kernel
theorem dX5_give_50 : decode cX5_give 50 = .ok (.iload_n 2, 1) := by decide +kernel
theorem dX5_give_51 : decode cX5_give 51 = .ok (.invokevirtual 198, 3) := by decide +kernel
theorem dX5_give_54 : decode cX5_give 54 = .ok (.aload_n 0, 1) := by decide +kernel
theorem dX5_give_55 : decode cX5_give 55 = .ok (.getfield 10, 3) := by decide +kernel
theorem dX5_give_58 : decode cX5_give 58 = .ok (.getfield 125, 3) := by decide +kernel
theorem dX5_give_61 : decode cX5_give 61 = .ok (.iload_n 1, 1) := by decide +kernel
theorem dX5_give_62 : decode cX5_give 62 = .ok (.iaload, 1) := by decide +kernel
theorem dX5_give_63 : decode cX5_give 63 = .ok (.ireturn, 1) := by decide +kernel
set_option maxRecDepth 20000 in
theorem ggX5_month_X3_mayPass : GoodIn wsX5_month wsX3_mayPass := goodIn_r _ [10, 11, 12, 13, 14, 9, 15, 16, 17, 127, 128, 129, 130, 131, 132, 133, 134, 135, 136, 137, 138, 139, 140, 141, 142, 143] (by decide +kernel) (by decide +kernel)
set_option maxRecDepth 20000 in
theorem gX5_month_X3_mayPass : GoodIn wsX5_month (wsV RX5 201 RX3 yX3_mayPass wsX3_mayPass) := goodIn_app (goodIn_of _ (by decide +kernel)) ggX5_month_X3_mayPass
set_option maxRecDepth 20000 in
theorem ggX5_month_X0_remember : GoodIn wsX5_month wsX0_remember := goodIn_r _ [22, 23, 24, 25, 26, 27, 28, 29, 30, 31, 32, 9, 33, 16, 11, 34, 35, 36, 37, 38, 39, 40, 41, 17, 42, 43, 44, 45, 46, 47, 144, 145, 146, 127, 128, 129, 130, 131, 132, 133, 134, 135, 136, 137, 138, 139, 140, 141, 142, 143] (by decide +kernel) (by decide +kernel)
set_option maxRecDepth 20000 in
theorem gX5_month_X0_remember : GoodIn wsX5_month (wsV RX5 181 RX0 yX0_remember wsX0_remember) := goodIn_app (goodIn_of _ (by decide +kernel)) ggX5_month_X0_remember
set_option maxRecDepth 20000 in
theorem ggX5_month_X1_pass : GoodIn wsX5_month wsX1_pass := goodIn_r _ [52, 53, 54, 55, 56, 57, 58, 59, 60, 61, 62, 51, 63, 64, 65, 66, 67, 68, 69, 70, 71, 72, 73, 74, 75, 76, 77, 78, 79, 80, 9, 81, 16, 82, 83, 84, 85, 86, 87, 88, 89, 90, 91, 92, 93, 94, 95, 96, 97, 98, 99, 100, 101, 102, 27, 28, 29, 103, 104, 105, 106, 107, 108, 109, 110, 111, 112, 113, 114, 115, 116, 47, 117, 37, 118, 127, 128, 129, 130, 131, 132, 133, 134, 135, 136, 137, 138, 139, 140, 141, 142, 143, 147, 148, 149] (by decide +kernel) (by decide +kernel)
set_option maxRecDepth 20000 in
theorem gX5_month_X1_pass : GoodIn wsX5_month (wsV RX5 207 RX1 yX1_pass wsX1_pass) := goodIn_app (goodIn_of _ (by decide +kernel)) ggX5_month_X1_pass
theorem dX5_month_0 : decode cX5_month 0 = .ok (.aload_n 0, 1) := by decide +kernel
theorem dX5_month_1 : decode cX5_month 1 = .ok (.getfield 10, 3) := by decide +kernel
theorem dX5_month_4 : decode cX5_month 4 = .ok (.invokevirtual 201, 3) := by decide +kernel
theorem dX5_month_7 : decode cX5_month 7 = .ok (.ifCond .ne 13, 3) := by decide +kernel
theorem dX5_month_10 : decode cX5_month 10 = .ok (.new 63, 3) := by decide +kernel
theorem dX5_month_13 : decode cX5_month 13 = .ok (.dup, 1) := by decide +kernel
theorem dX5_month_14 : decode cX5_month 14 = .ok (.ldc 205, 2) := by decide +kernel
theorem dX5_month_16 : decode cX5_month 16 = .ok (.invokespecial 67, 3) := by decide +kernel
theorem dX5_month_19 : decode cX5_month 19 = .ok (.athrow, 1) := by decide +kernel
theorem dX5_month_20 : decode cX5_month 20 = .ok (.aload_n 0, 1) := by decide +kernel
theorem dX5_month_21 : decode cX5_month 21 = .ok (.getfield 36, 3) := by decide +kernel
theorem dX5_month_24 : decode cX5_month 24 = .ok (.aload_n 0, 1) := by decide +kernel
theorem dX5_month_25 : decode cX5_month 25 = .ok (.getfield 10, 3) := by decide +kernel
theorem dX5_month_28 : decode cX5_month 28 = .ok (.invokevirtual 181, 3) := by decide +kernel
theorem dX5_month_31 : decode cX5_month 31 = .ok (.aload_n 0, 1) := by decide +kernel
theorem dX5_month_32 : decode cX5_month 32 = .ok (.getfield 22, 3) := by decide +kernel
theorem dX5_month_35 : decode cX5_month 35 = .ok (.aload_n 0, 1) := by decide +kernel
theorem dX5_month_36 : decode cX5_month 36 = .ok (.getfield 10, 3) := by decide +kernel
theorem dX5_month_39 : decode cX5_month 39 = .ok (.invokevirtual 207, 3) := by decide +kernel
theorem dX5_month_42 : decode cX5_month 42 = .ok (.ireturn, 1) := by decide +kernel
set_option maxRecDepth 20000 in
theorem ggX5_leave_X5_requireMember : GoodIn wsX5_leave wsX5_requireMember := goodIn_ca (goodIn_r _ [9, 10, 11, 3, 12, 13, 14, 15, 16, 17, 67, 68, 69, 70, 71, 72, 73, 74, 75, 76, 77, 78, 79, 80, 81, 82, 83, 84, 85, 86, 87, 88, 89, 90, 91] (by decide +kernel) (by decide +kernel)) (goodIn_sub (fun _ h => List.mem_cons_of_mem _ (List.mem_append_right _ h)) (by decide +kernel))
set_option maxRecDepth 20000 in
theorem gX5_leave_X5_requireMember : GoodIn wsX5_leave (wsV RX5 121 RX5 yX5_requireMember wsX5_requireMember) := goodIn_app (goodIn_of _ (by decide +kernel)) ggX5_leave_X5_requireMember
set_option maxRecDepth 20000 in
theorem ggX5_leave_X3_mayGo : GoodIn wsX5_leave wsX3_mayGo := goodIn_r _ [21, 22, 23, 24, 25, 26, 15, 27, 28, 29, 30, 31, 32, 33, 34, 35, 36, 37, 38, 39, 17, 75, 76, 77, 78, 79, 80, 81, 82, 83, 84, 85, 86, 87, 88, 89, 90, 91] (by decide +kernel) (by decide +kernel)
set_option maxRecDepth 20000 in
theorem gX5_leave_X3_mayGo : GoodIn wsX5_leave (wsV RX5 210 RX3 yX3_mayGo wsX3_mayGo) := goodIn_app (goodIn_of _ (by decide +kernel)) ggX5_leave_X3_mayGo
set_option maxRecDepth 20000 in
theorem ggX5_leave_X0_remember : GoodIn wsX5_leave wsX0_remember := goodIn_r _ [44, 45, 46, 47, 48, 33, 34, 35, 49, 50, 51, 15, 52, 17, 53, 29, 31, 54, 23, 55, 56, 57, 28, 22, 30, 58, 59, 60, 61, 62, 92, 93, 94, 75, 76, 77, 78, 79, 80, 81, 82, 83, 84, 85, 86, 87, 88, 89, 90, 91] (by decide +kernel) (by decide +kernel)
set_option maxRecDepth 20000 in
theorem gX5_leave_X0_remember : GoodIn wsX5_leave (wsV RX5 181 RX0 yX0_remember wsX0_remember) := goodIn_app (goodIn_of _ (by decide +kernel)) ggX5_leave_X0_remember
set_option maxRecDepth 20000 in
theorem ggX5_leave_X3_go : GoodIn wsX5_leave wsX3_go := goodIn_r _ [66, 23, 31, 22, 24, 25, 26, 15, 27, 28, 29, 30, 32, 33, 34, 35, 36, 37, 38, 39, 17, 75, 76, 77, 78, 79, 80, 81, 82, 83, 84, 85, 86, 87, 88, 89, 90, 91] (by decide +kernel) (by decide +kernel)
set_option maxRecDepth 20000 in
theorem gX5_leave_X3_go : GoodIn wsX5_leave (wsV RX5 215 RX3 yX3_go wsX3_go) := goodIn_app (goodIn_of _ (by decide +kernel)) ggX5_leave_X3_go
theorem dX5_leave_0 : decode cX5_leave 0 = .ok (.aload_n 0, 1) := by decide +kernel
theorem dX5_leave_1 : decode cX5_leave 1 = .ok (.iload_n 1, 1) := by decide +kernel
theorem dX5_leave_2 : decode cX5_leave 2 = .ok (.invokevirtual 121, 3) := by decide +kernel
theorem dX5_leave_5 : decode cX5_leave 5 = .ok (.aload_n 0, 1) := by decide +kernel
theorem dX5_leave_6 : decode cX5_leave 6 = .ok (.getfield 10, 3) := by decide +kernel
theorem dX5_leave_9 : decode cX5_leave 9 = .ok (.iload_n 1, 1) := by decide +kernel
theorem dX5_leave_10 : decode cX5_leave 10 = .ok (.invokevirtual 210, 3) := by decide +kernel
theorem dX5_leave_13 : decode cX5_leave 13 = .ok (.ifCond .ne 13, 3) := by decide +kernel
theorem dX5_leave_16 : decode cX5_leave 16 = .ok (.new 63, 3) := by decide +kernel
theorem dX5_leave_19 : decode cX5_leave 19 = .ok (.dup, 1) := by decide +kernel
theorem dX5_leave_20 : decode cX5_leave 20 = .ok (.ldc 213, 2) := by decide +kernel
theorem dX5_leave_22 : decode cX5_leave 22 = .ok (.invokespecial 67, 3) := by decide +kernel
theorem dX5_leave_25 : decode cX5_leave 25 = .ok (.athrow, 1) := by decide +kernel
theorem dX5_leave_26 : decode cX5_leave 26 = .ok (.aload_n 0, 1) := by decide +kernel
theorem dX5_leave_27 : decode cX5_leave 27 = .ok (.getfield 36, 3) := by decide +kernel
theorem dX5_leave_30 : decode cX5_leave 30 = .ok (.aload_n 0, 1) := by decide +kernel
theorem dX5_leave_31 : decode cX5_leave 31 = .ok (.getfield 10, 3) := by decide +kernel
theorem dX5_leave_34 : decode cX5_leave 34 = .ok (.invokevirtual 181, 3) := by decide +kernel
theorem dX5_leave_37 : decode cX5_leave 37 = .ok (.aload_n 0, 1) := by decide +kernel
theorem dX5_leave_38 : decode cX5_leave 38 = .ok (.getfield 10, 3) := by decide +kernel
theorem dX5_leave_41 : decode cX5_leave 41 = .ok (.iload_n 1, 1) := by decide +kernel
theorem dX5_leave_42 : decode cX5_leave 42 = .ok (.invokevirtual 215, 3) := by decide +kernel
theorem dX5_leave_45 : decode cX5_leave 45 = .ok (.ireturn, 1) := by decide +kernel
set_option maxRecDepth 20000 in
theorem ggX5_repay_X5_requireTwoMembers : GoodIn wsX5_repay wsX5_requireTwoMembers := goodIn_ca (goodIn_ca (goodIn_r _ [8, 9, 10, 11, 12, 13, 7, 14, 15, 16, 2, 17, 18, 19, 20, 21, 22, 63, 64, 65, 66, 67, 68, 69, 70, 71, 72, 73, 74, 75, 76, 77, 78, 79, 80, 81, 82, 83, 84, 85, 86, 87] (by decide +kernel) (by decide +kernel)) (goodIn_sub (fun _ h => List.mem_cons_of_mem _ (List.mem_append_left _ (List.mem_append_right _ h))) (by decide +kernel))) (goodIn_sub (fun _ h => List.mem_cons_of_mem _ (List.mem_append_right _ h)) (by decide +kernel))
set_option maxRecDepth 20000 in
theorem gX5_repay_X5_requireTwoMembers : GoodIn wsX5_repay (wsV RX5 161 RX5 yX5_requireTwoMembers wsX5_requireTwoMembers) := goodIn_app (goodIn_of _ (by decide +kernel)) ggX5_repay_X5_requireTwoMembers
set_option maxRecDepth 20000 in
theorem ggX5_repay_X0_remember : GoodIn wsX5_repay wsX0_remember := goodIn_r _ [27, 28, 29, 30, 31, 32, 33, 34, 35, 36, 37, 20, 38, 22, 39, 40, 41, 42, 43, 44, 45, 46, 47, 48, 49, 50, 51, 52, 53, 54, 88, 89, 90, 71, 72, 73, 74, 75, 76, 77, 78, 79, 80, 81, 82, 83, 84, 85, 86, 87] (by decide +kernel) (by decide +kernel)
set_option maxRecDepth 20000 in
theorem gX5_repay_X0_remember : GoodIn wsX5_repay (wsV RX5 181 RX0 yX0_remember wsX0_remember) := goodIn_app (goodIn_of _ (by decide +kernel)) ggX5_repay_X0_remember
set_option maxRecDepth 20000 in
theorem ggX5_repay_X3_settle : GoodIn wsX5_repay wsX3_settle := goodIn_r _ [58, 54, 59, 32, 33, 34, 43, 60, 61, 20, 62, 71, 72, 73, 74, 75, 76, 77, 78, 79, 80, 81, 82, 83, 84, 85, 86, 87] (by decide +kernel) (by decide +kernel)
set_option maxRecDepth 20000 in
theorem gX5_repay_X3_settle : GoodIn wsX5_repay (wsV RX5 218 RX3 yX3_settle wsX3_settle) := goodIn_app (goodIn_of _ (by decide +kernel)) ggX5_repay_X3_settle
theorem dX5_repay_0 : decode cX5_repay 0 = .ok (.aload_n 0, 1) := by decide +kernel
theorem dX5_repay_1 : decode cX5_repay 1 = .ok (.iload_n 1, 1) := by decide +kernel
theorem dX5_repay_2 : decode cX5_repay 2 = .ok (.iload_n 2, 1) := by decide +kernel
theorem dX5_repay_3 : decode cX5_repay 3 = .ok (.invokevirtual 161, 3) := by decide +kernel
theorem dX5_repay_6 : decode cX5_repay 6 = .ok (.aload_n 0, 1) := by decide +kernel
theorem dX5_repay_7 : decode cX5_repay 7 = .ok (.getfield 36, 3) := by decide +kernel
theorem dX5_repay_10 : decode cX5_repay 10 = .ok (.aload_n 0, 1) := by decide +kernel
theorem dX5_repay_11 : decode cX5_repay 11 = .ok (.getfield 10, 3) := by decide +kernel
theorem dX5_repay_14 : decode cX5_repay 14 = .ok (.invokevirtual 181, 3) := by decide +kernel
theorem dX5_repay_17 : decode cX5_repay 17 = .ok (.aload_n 0, 1) := by decide +kernel
theorem dX5_repay_18 : decode cX5_repay 18 = .ok (.getfield 10, 3) := by decide +kernel
theorem dX5_repay_21 : decode cX5_repay 21 = .ok (.iload_n 1, 1) := by decide +kernel
theorem dX5_repay_22 : decode cX5_repay 22 = .ok (.iload_n 2, 1) := by decide +kernel
theorem dX5_repay_23 : decode cX5_repay 23 = .ok (.aload_n 0, 1) := by decide +kernel
theorem dX5_repay_24 : decode cX5_repay 24 = .ok (.getfield 10, 3) := by decide +kernel
theorem dX5_repay_27 : decode cX5_repay 27 = .ok (.getfield 125, 3) := by decide +kernel
theorem dX5_repay_30 : decode cX5_repay 30 = .ok (.iload_n 1, 1) := by decide +kernel
theorem dX5_repay_31 : decode cX5_repay 31 = .ok (.iaload, 1) := by decide +kernel
theorem dX5_repay_32 : decode cX5_repay 32 = .ok (.invokevirtual 218, 3) := by decide +kernel
theorem dX5_repay_35 : decode cX5_repay 35 = .ok (.istore_n 3, 1) := by decide +kernel
theorem dX5_repay_36 : decode cX5_repay 36 = .ok (.aload_n 0, 1) := by decide +kernel
theorem dX5_repay_37 : decode cX5_repay 37 = .ok (.getfield 10, 3) := by decide +kernel
theorem dX5_repay_40 : decode cX5_repay 40 = .ok (.getfield 125, 3) := by decide +kernel
theorem dX5_repay_43 : decode cX5_repay 43 = .ok (.iload_n 1, 1) := by decide +kernel
theorem dX5_repay_44 : decode cX5_repay 44 = .ok (.dup2, 1) := by decide +kernel
theorem dX5_repay_45 : decode cX5_repay 45 = .ok (.iaload, 1) := by decide +kernel
theorem dX5_repay_46 : decode cX5_repay 46 = .ok (.iload_n 3, 1) := by decide +kernel
theorem dX5_repay_47 : decode cX5_repay 47 = .ok (.isub, 1) := by decide +kernel
theorem dX5_repay_48 : decode cX5_repay 48 = .ok (.iastore, 1) := by decide +kernel
theorem dX5_repay_49 : decode cX5_repay 49 = .ok (.iload_n 3, 1) := by decide +kernel
theorem dX5_repay_50 : decode cX5_repay 50 = .ok (.ireturn, 1) := by decide +kernel
set_option maxRecDepth 20000 in
theorem ggX5_undo_X0_takeBack : GoodIn wsX5_undo wsX0_takeBack := goodIn_r _ [10, 11, 12, 13, 14, 15, 16, 17, 18, 19, 20, 21, 22, 23, 24, 25, 26, 27, 28, 29, 30, 31, 32, 33, 34, 35, 44, 45, 46, 47, 48, 49, 50, 51, 52, 53, 54, 55, 56, 57, 58, 59, 60, 61, 62, 63] (by decide +kernel) (by decide +kernel)
set_option maxRecDepth 20000 in
theorem gX5_undo_X0_takeBack : GoodIn wsX5_undo (wsV RX5 227 RX0 yX0_takeBack wsX0_takeBack) := goodIn_app (goodIn_of _ (by decide +kernel)) ggX5_undo_X0_takeBack
theorem dX5_undo_0 : decode cX5_undo 0 = .ok (.aload_n 0, 1) := by decide +kernel
theorem dX5_undo_1 : decode cX5_undo 1 = .ok (.getfield 36, 3) := by decide +kernel
theorem dX5_undo_4 : decode cX5_undo 4 = .ok (.getfield 222, 3) := by decide +kernel
theorem dX5_undo_7 : decode cX5_undo 7 = .ok (.ifCond .gt 13, 3) := by decide +kernel
theorem dX5_undo_10 : decode cX5_undo 10 = .ok (.new 63, 3) := by decide +kernel
theorem dX5_undo_13 : decode cX5_undo 13 = .ok (.dup, 1) := by decide +kernel
theorem dX5_undo_14 : decode cX5_undo 14 = .ok (.ldc 225, 2) := by decide +kernel
theorem dX5_undo_16 : decode cX5_undo 16 = .ok (.invokespecial 67, 3) := by decide +kernel
theorem dX5_undo_19 : decode cX5_undo 19 = .ok (.athrow, 1) := by decide +kernel
theorem dX5_undo_20 : decode cX5_undo 20 = .ok (.aload_n 0, 1) := by decide +kernel
theorem dX5_undo_21 : decode cX5_undo 21 = .ok (.getfield 36, 3) := by decide +kernel
theorem dX5_undo_24 : decode cX5_undo 24 = .ok (.aload_n 0, 1) := by decide +kernel
theorem dX5_undo_25 : decode cX5_undo 25 = .ok (.getfield 10, 3) := by decide +kernel
theorem dX5_undo_28 : decode cX5_undo 28 = .ok (.invokevirtual 227, 3) := by decide +kernel
theorem dX5_undo_31 : decode cX5_undo 31 = .ok (.ireturn, 1) := by decide +kernel
set_option maxRecDepth 20000 in
theorem ggX5_winner_X3_copyFrom : GoodIn wsX5_winner wsX3_copyFrom := goodIn_r _ [8, 9, 10, 11, 12, 13, 14, 15, 16, 17, 18, 19, 20, 21, 22, 23, 24, 25, 108, 109, 110, 111, 112, 113, 114, 115, 116, 117, 118, 119, 120, 121, 122, 123, 124] (by decide +kernel) (by decide +kernel)
set_option maxRecDepth 20000 in
theorem gX5_winner_X3_copyFrom : GoodIn wsX5_winner (wsV RX5 81 RX3 yX3_copyFrom wsX3_copyFrom) := goodIn_app (goodIn_of _ (by decide +kernel)) ggX5_winner_X3_copyFrom
set_option maxRecDepth 20000 in
theorem ggX5_winner_X1_pass : GoodIn wsX5_winner wsX1_pass := goodIn_r _ [30, 31, 32, 33, 34, 35, 36, 37, 38, 39, 40, 29, 41, 42, 43, 44, 45, 46, 47, 48, 49, 50, 51, 52, 53, 54, 55, 56, 57, 58, 7, 59, 9, 60, 61, 62, 63, 64, 65, 66, 67, 68, 69, 70, 71, 72, 73, 74, 75, 76, 77, 78, 79, 80, 81, 82, 83, 84, 85, 86, 87, 88, 89, 90, 91, 92, 93, 94, 95, 96, 97, 25, 98, 14, 99, 108, 109, 110, 111, 112, 113, 114, 115, 116, 117, 118, 119, 120, 121, 122, 123, 124, 125, 126, 127] (by decide +kernel) (by decide +kernel)
set_option maxRecDepth 20000 in
theorem gX5_winner_X1_pass : GoodIn wsX5_winner (wsV RX5 207 RX1 yX1_pass wsX1_pass) := goodIn_app (goodIn_of _ (by decide +kernel)) ggX5_winner_X1_pass
theorem dX5_winner_0 : decode cX5_winner 0 = .ok (.aload_n 0, 1) := by decide +kernel
theorem dX5_winner_1 : decode cX5_winner 1 = .ok (.getfield 16, 3) := by decide +kernel
theorem dX5_winner_4 : decode cX5_winner 4 = .ok (.aload_n 0, 1) := by decide +kernel
theorem dX5_winner_5 : decode cX5_winner 5 = .ok (.getfield 10, 3) := by decide +kernel
theorem dX5_winner_8 : decode cX5_winner 8 = .ok (.invokevirtual 81, 3) := by decide +kernel
theorem dX5_winner_11 : decode cX5_winner 11 = .ok (.aload_n 0, 1) := by decide +kernel
theorem dX5_winner_12 : decode cX5_winner 12 = .ok (.getfield 22, 3) := by decide +kernel
theorem dX5_winner_15 : decode cX5_winner 15 = .ok (.aload_n 0, 1) := by decide +kernel
theorem dX5_winner_16 : decode cX5_winner 16 = .ok (.getfield 16, 3) := by decide +kernel
theorem dX5_winner_19 : decode cX5_winner 19 = .ok (.invokevirtual 207, 3) := by decide +kernel
theorem dX5_winner_22 : decode cX5_winner 22 = .ok (.ireturn, 1) := by decide +kernel
set_option maxRecDepth 20000 in
theorem ggX5_pot_X3_copyFrom : GoodIn wsX5_pot wsX3_copyFrom := goodIn_r _ [9, 10, 11, 12, 13, 14, 15, 16, 17, 18, 19, 20, 21, 22, 23, 24, 25, 26, 67, 68, 69, 70, 71, 72, 73, 74, 75, 76, 77, 78, 79, 80, 81, 82, 83] (by decide +kernel) (by decide +kernel)
set_option maxRecDepth 20000 in
theorem gX5_pot_X3_copyFrom : GoodIn wsX5_pot (wsV RX5 81 RX3 yX3_copyFrom wsX3_copyFrom) := goodIn_app (goodIn_of _ (by decide +kernel)) ggX5_pot_X3_copyFrom
set_option maxRecDepth 20000 in
theorem ggX5_pot_X1_payIn : GoodIn wsX5_pot wsX1_payIn := goodIn_r _ [31, 32, 33, 34, 35, 36, 37, 38, 39, 40, 41, 42, 43, 30, 44, 45, 46, 47, 48, 49, 50, 51, 8, 52, 10, 53, 54, 55, 64, 65, 66, 67, 68, 69, 70, 71, 72, 73, 74, 75, 76, 77, 78, 79, 80, 81, 82, 83] (by decide +kernel) (by decide +kernel)
set_option maxRecDepth 20000 in
theorem gX5_pot_X1_payIn : GoodIn wsX5_pot (wsV RX5 230 RX1 yX1_payIn wsX1_payIn) := goodIn_app (goodIn_of _ (by decide +kernel)) ggX5_pot_X1_payIn
theorem dX5_pot_0 : decode cX5_pot 0 = .ok (.aload_n 0, 1) := by decide +kernel
theorem dX5_pot_1 : decode cX5_pot 1 = .ok (.getfield 16, 3) := by decide +kernel
theorem dX5_pot_4 : decode cX5_pot 4 = .ok (.aload_n 0, 1) := by decide +kernel
theorem dX5_pot_5 : decode cX5_pot 5 = .ok (.getfield 10, 3) := by decide +kernel
theorem dX5_pot_8 : decode cX5_pot 8 = .ok (.invokevirtual 81, 3) := by decide +kernel
theorem dX5_pot_11 : decode cX5_pot 11 = .ok (.aload_n 0, 1) := by decide +kernel
theorem dX5_pot_12 : decode cX5_pot 12 = .ok (.getfield 22, 3) := by decide +kernel
theorem dX5_pot_15 : decode cX5_pot 15 = .ok (.aload_n 0, 1) := by decide +kernel
theorem dX5_pot_16 : decode cX5_pot 16 = .ok (.getfield 16, 3) := by decide +kernel
theorem dX5_pot_19 : decode cX5_pot 19 = .ok (.invokevirtual 230, 3) := by decide +kernel
theorem dX5_pot_22 : decode cX5_pot 22 = .ok (.aload_n 0, 1) := by decide +kernel
theorem dX5_pot_23 : decode cX5_pot 23 = .ok (.getfield 22, 3) := by decide +kernel
theorem dX5_pot_26 : decode cX5_pot 26 = .ok (.getfield 233, 3) := by decide +kernel
theorem dX5_pot_29 : decode cX5_pot 29 = .ok (.ireturn, 1) := by decide +kernel
set_option maxRecDepth 20000 in
theorem ggX5_change_X5_requireMember : GoodIn wsX5_change wsX5_requireMember := goodIn_ca (goodIn_r _ [9, 10, 11, 2, 12, 13, 14, 15, 16, 17, 109, 110, 111, 112, 113, 114, 115, 116, 117, 118, 119, 120, 121, 122, 123, 124, 125, 126, 127, 128, 129, 130, 131, 132, 133] (by decide +kernel) (by decide +kernel)) (goodIn_sub (fun _ h => List.mem_cons_of_mem _ (List.mem_append_right _ h)) (by decide +kernel))
set_option maxRecDepth 20000 in
theorem gX5_change_X5_requireMember : GoodIn wsX5_change (wsV RX5 121 RX5 yX5_requireMember wsX5_requireMember) := goodIn_app (goodIn_of _ (by decide +kernel)) ggX5_change_X5_requireMember
set_option maxRecDepth 20000 in
theorem ggX5_change_X3_copyFrom : GoodIn wsX5_change wsX3_copyFrom := goodIn_r _ [21, 17, 22, 23, 24, 25, 26, 27, 28, 29, 30, 31, 32, 33, 34, 35, 36, 37, 117, 118, 119, 120, 121, 122, 123, 124, 125, 126, 127, 128, 129, 130, 131, 132, 133] (by decide +kernel) (by decide +kernel)
set_option maxRecDepth 20000 in
theorem gX5_change_X3_copyFrom : GoodIn wsX5_change (wsV RX5 81 RX3 yX3_copyFrom wsX3_copyFrom) := goodIn_app (goodIn_of _ (by decide +kernel)) ggX5_change_X3_copyFrom
set_option maxRecDepth 20000 in
theorem ggX5_change_X1_pass : GoodIn wsX5_change wsX1_pass := goodIn_r _ [42, 43, 44, 45, 46, 47, 48, 49, 50, 51, 52, 41, 53, 54, 55, 56, 57, 58, 59, 60, 61, 62, 63, 64, 65, 66, 67, 68, 13, 14, 15, 16, 17, 69, 70, 71, 72, 73, 74, 75, 76, 77, 78, 79, 80, 81, 82, 83, 84, 85, 86, 87, 88, 89, 90, 91, 92, 93, 94, 95, 96, 97, 98, 99, 100, 101, 102, 103, 104, 105, 106, 37, 107, 26, 108, 117, 118, 119, 120, 121, 122, 123, 124, 125, 126, 127, 128, 129, 130, 131, 132, 133, 134, 135, 136] (by decide +kernel) (by decide +kernel)
set_option maxRecDepth 20000 in
theorem gX5_change_X1_pass : GoodIn wsX5_change (wsV RX5 207 RX1 yX1_pass wsX1_pass) := goodIn_app (goodIn_of _ (by decide +kernel)) ggX5_change_X1_pass
theorem dX5_change_0 : decode cX5_change 0 = .ok (.aload_n 0, 1) := by decide +kernel
theorem dX5_change_1 : decode cX5_change 1 = .ok (.iload_n 1, 1) := by decide +kernel
theorem dX5_change_2 : decode cX5_change 2 = .ok (.invokevirtual 121, 3) := by decide +kernel
theorem dX5_change_5 : decode cX5_change 5 = .ok (.aload_n 0, 1) := by decide +kernel
theorem dX5_change_6 : decode cX5_change 6 = .ok (.getfield 16, 3) := by decide +kernel
theorem dX5_change_9 : decode cX5_change 9 = .ok (.aload_n 0, 1) := by decide +kernel
theorem dX5_change_10 : decode cX5_change 10 = .ok (.getfield 10, 3) := by decide +kernel
theorem dX5_change_13 : decode cX5_change 13 = .ok (.invokevirtual 81, 3) := by decide +kernel
theorem dX5_change_16 : decode cX5_change 16 = .ok (.aload_n 0, 1) := by decide +kernel
theorem dX5_change_17 : decode cX5_change 17 = .ok (.getfield 22, 3) := by decide +kernel
theorem dX5_change_20 : decode cX5_change 20 = .ok (.aload_n 0, 1) := by decide +kernel
theorem dX5_change_21 : decode cX5_change 21 = .ok (.getfield 16, 3) := by decide +kernel
theorem dX5_change_24 : decode cX5_change 24 = .ok (.invokevirtual 207, 3) := by decide +kernel
theorem dX5_change_27 : decode cX5_change 27 = .ok (.pop, 1) := by decide +kernel
theorem dX5_change_28 : decode cX5_change 28 = .ok (.aload_n 0, 1) := by decide +kernel
theorem dX5_change_29 : decode cX5_change 29 = .ok (.getfield 16, 3) := by decide +kernel
theorem dX5_change_32 : decode cX5_change 32 = .ok (.getfield 125, 3) := by decide +kernel
theorem dX5_change_35 : decode cX5_change 35 = .ok (.iload_n 1, 1) := by decide +kernel
theorem dX5_change_36 : decode cX5_change 36 = .ok (.iaload, 1) := by decide +kernel
theorem dX5_change_37 : decode cX5_change 37 = .ok (.aload_n 0, 1) := by decide +kernel
theorem dX5_change_38 : decode cX5_change 38 = .ok (.getfield 10, 3) := by decide +kernel
theorem dX5_change_41 : decode cX5_change 41 = .ok (.getfield 125, 3) := by decide +kernel
theorem dX5_change_44 : decode cX5_change 44 = .ok (.iload_n 1, 1) := by decide +kernel
theorem dX5_change_45 : decode cX5_change 45 = .ok (.iaload, 1) := by decide +kernel
theorem dX5_change_46 : decode cX5_change 46 = .ok (.isub, 1) := by decide +kernel
theorem dX5_change_47 : decode cX5_change 47 = .ok (.ireturn, 1) := by decide +kernel
set_option maxRecDepth 20000 in
theorem ggX5_leastBid_X5_requireMember : GoodIn wsX5_leastBid wsX5_requireMember := goodIn_ca (goodIn_r _ [10, 11, 12, 2, 13, 14, 15, 16, 17, 18, 97, 98, 99, 100, 101, 102, 103, 104, 105, 106, 107, 108, 109, 110, 111, 112, 113, 114, 115, 116, 117, 118, 119, 120, 121] (by decide +kernel) (by decide +kernel)) (goodIn_sub (fun _ h => List.mem_cons_of_mem _ (List.mem_append_right _ h)) (by decide +kernel))
set_option maxRecDepth 20000 in
theorem gX5_leastBid_X5_requireMember : GoodIn wsX5_leastBid (wsV RX5 121 RX5 yX5_requireMember wsX5_requireMember) := goodIn_app (goodIn_of _ (by decide +kernel)) ggX5_leastBid_X5_requireMember
set_option maxRecDepth 20000 in
theorem ggX5_leastBid_X3_copyFrom : GoodIn wsX5_leastBid wsX3_copyFrom := goodIn_r _ [22, 18, 23, 24, 25, 26, 27, 28, 29, 30, 31, 32, 33, 34, 35, 36, 37, 38, 105, 106, 107, 108, 109, 110, 111, 112, 113, 114, 115, 116, 117, 118, 119, 120, 121] (by decide +kernel) (by decide +kernel)
set_option maxRecDepth 20000 in
theorem gX5_leastBid_X3_copyFrom : GoodIn wsX5_leastBid (wsV RX5 81 RX3 yX3_copyFrom wsX3_copyFrom) := goodIn_app (goodIn_of _ (by decide +kernel)) ggX5_leastBid_X3_copyFrom
set_option maxRecDepth 20000 in
theorem ggX5_leastBid_X1_payIn : GoodIn wsX5_leastBid wsX1_payIn := goodIn_r _ [43, 44, 45, 46, 47, 48, 49, 50, 51, 52, 53, 54, 55, 42, 56, 57, 58, 59, 60, 61, 14, 15, 16, 17, 18, 62, 63, 64, 122, 123, 124, 105, 106, 107, 108, 109, 110, 111, 112, 113, 114, 115, 116, 117, 118, 119, 120, 121] (by decide +kernel) (by decide +kernel)
set_option maxRecDepth 20000 in
theorem gX5_leastBid_X1_payIn : GoodIn wsX5_leastBid (wsV RX5 230 RX1 yX1_payIn wsX1_payIn) := goodIn_app (goodIn_of _ (by decide +kernel)) ggX5_leastBid_X1_payIn
set_option maxRecDepth 20000 in
theorem ggX5_leastBid_X1_canTake : GoodIn wsX5_leastBid wsX1_canTake := goodIn_r _ [68, 69, 70, 71, 72, 42, 73, 48, 46, 105, 106, 107, 108, 109, 110, 111, 112, 113, 114, 115, 116, 117, 118, 119, 120, 121, 122, 123, 124] (by decide +kernel) (by decide +kernel)
set_option maxRecDepth 20000 in
theorem gX5_leastBid_X1_canTake : GoodIn wsX5_leastBid (wsV RX5 236 RX1 yX1_canTake wsX1_canTake) := goodIn_app (goodIn_of _ (by decide +kernel)) ggX5_leastBid_X1_canTake
set_option maxRecDepth 20000 in
theorem ggX5_leastBid_X1_greatestBidBeside : GoodIn wsX5_leastBid wsX1_greatestBidBeside := goodIn_r _ [77, 45, 78, 79, 80, 81, 82, 66, 67, 42, 68, 69, 70, 71, 72, 73, 48, 46, 83, 84, 85, 86, 87, 44, 88, 89, 90, 105, 106, 107, 108, 109, 110, 111, 112, 113, 114, 115, 116, 117, 118, 119, 120, 121, 122, 123, 124] (by decide +kernel) (by decide +kernel)
set_option maxRecDepth 20000 in
theorem gX5_leastBid_X1_greatestBidBeside : GoodIn wsX5_leastBid (wsV RX5 240 RX1 yX1_greatestBidBeside wsX1_greatestBidBeside) := goodIn_app (goodIn_of _ (by decide +kernel)) ggX5_leastBid_X1_greatestBidBeside
set_option maxRecDepth 20000 in
theorem ggX5_leastBid_X1_taker : GoodIn wsX5_leastBid wsX1_taker := goodIn_r _ [94, 95, 45, 96, 82, 66, 67, 42, 68, 69, 70, 71, 72, 73, 48, 46, 83, 84, 85, 86, 87, 44, 88, 89, 80, 90, 105, 106, 107, 108, 109, 110, 111, 112, 113, 114, 115, 116, 117, 118, 119, 120, 121, 122, 123, 124] (by decide +kernel) (by decide +kernel)
set_option maxRecDepth 20000 in
theorem gX5_leastBid_X1_taker : GoodIn wsX5_leastBid (wsV RX5 244 RX1 yX1_taker wsX1_taker) := goodIn_app (goodIn_of _ (by decide +kernel)) ggX5_leastBid_X1_taker
theorem dX5_leastBid_0 : decode cX5_leastBid 0 = .ok (.aload_n 0, 1) := by decide +kernel
theorem dX5_leastBid_1 : decode cX5_leastBid 1 = .ok (.iload_n 1, 1) := by decide +kernel
theorem dX5_leastBid_2 : decode cX5_leastBid 2 = .ok (.invokevirtual 121, 3) := by decide +kernel
theorem dX5_leastBid_5 : decode cX5_leastBid 5 = .ok (.aload_n 0, 1) := by decide +kernel
theorem dX5_leastBid_6 : decode cX5_leastBid 6 = .ok (.getfield 16, 3) := by decide +kernel
theorem dX5_leastBid_9 : decode cX5_leastBid 9 = .ok (.aload_n 0, 1) := by decide +kernel
theorem dX5_leastBid_10 : decode cX5_leastBid 10 = .ok (.getfield 10, 3) := by decide +kernel
theorem dX5_leastBid_13 : decode cX5_leastBid 13 = .ok (.invokevirtual 81, 3) := by decide +kernel
theorem dX5_leastBid_16 : decode cX5_leastBid 16 = .ok (.aload_n 0, 1) := by decide +kernel
theorem dX5_leastBid_17 : decode cX5_leastBid 17 = .ok (.getfield 22, 3) := by decide +kernel
theorem dX5_leastBid_20 : decode cX5_leastBid 20 = .ok (.aload_n 0, 1) := by decide +kernel
theorem dX5_leastBid_21 : decode cX5_leastBid 21 = .ok (.getfield 16, 3) := by decide +kernel
theorem dX5_leastBid_24 : decode cX5_leastBid 24 = .ok (.invokevirtual 230, 3) := by decide +kernel
theorem dX5_leastBid_27 : decode cX5_leastBid 27 = .ok (.aload_n 0, 1) := by decide +kernel
theorem dX5_leastBid_28 : decode cX5_leastBid 28 = .ok (.getfield 22, 3) := by decide +kernel
theorem dX5_leastBid_31 : decode cX5_leastBid 31 = .ok (.aload_n 0, 1) := by decide +kernel
theorem dX5_leastBid_32 : decode cX5_leastBid 32 = .ok (.getfield 16, 3) := by decide +kernel
theorem dX5_leastBid_35 : decode cX5_leastBid 35 = .ok (.iload_n 1, 1) := by decide +kernel
theorem dX5_leastBid_36 : decode cX5_leastBid 36 = .ok (.invokevirtual 236, 3) := by decide +kernel
theorem dX5_leastBid_39 : decode cX5_leastBid 39 = .ok (.ifCond .ne 6, 3) := by decide +kernel
theorem dX5_leastBid_42 : decode cX5_leastBid 42 = .ok (.ldc 78, 2) := by decide +kernel
theorem dX5_leastBid_44 : decode cX5_leastBid 44 = .ok (.ireturn, 1) := by decide +kernel
theorem dX5_leastBid_45 : decode cX5_leastBid 45 = .ok (.aload_n 0, 1) := by decide +kernel
theorem dX5_leastBid_46 : decode cX5_leastBid 46 = .ok (.getfield 22, 3) := by decide +kernel
theorem dX5_leastBid_49 : decode cX5_leastBid 49 = .ok (.aload_n 0, 1) := by decide +kernel
theorem dX5_leastBid_50 : decode cX5_leastBid 50 = .ok (.getfield 16, 3) := by decide +kernel
theorem dX5_leastBid_53 : decode cX5_leastBid 53 = .ok (.iload_n 1, 1) := by decide +kernel
theorem dX5_leastBid_54 : decode cX5_leastBid 54 = .ok (.invokevirtual 240, 3) := by decide +kernel
theorem dX5_leastBid_57 : decode cX5_leastBid 57 = .ok (.istore_n 2, 1) := by decide +kernel
theorem dX5_leastBid_58 : decode cX5_leastBid 58 = .ok (.iload_n 2, 1) := by decide +kernel
theorem dX5_leastBid_59 : decode cX5_leastBid 59 = .ok (.istore_n 3, 1) := by decide +kernel
theorem dX5_leastBid_60 : decode cX5_leastBid 60 = .ok (.iload_n 3, 1) := by decide +kernel
theorem dX5_leastBid_61 : decode cX5_leastBid 61 = .ok (.iload_n 2, 1) := by decide +kernel
theorem dX5_leastBid_62 : decode cX5_leastBid 62 = .ok (.iconst 1, 1) := by decide +kernel
theorem dX5_leastBid_63 : decode cX5_leastBid 63 = .ok (.iadd, 1) := by decide +kernel
theorem dX5_leastBid_64 : decode cX5_leastBid 64 = .ok (.if_icmp .gt 36, 3) := by decide +kernel
theorem dX5_leastBid_67 : decode cX5_leastBid 67 = .ok (.aload_n 0, 1) := by decide +kernel
theorem dX5_leastBid_68 : decode cX5_leastBid 68 = .ok (.getfield 16, 3) := by decide +kernel
theorem dX5_leastBid_71 : decode cX5_leastBid 71 = .ok (.getfield 132, 3) := by decide +kernel
theorem dX5_leastBid_74 : decode cX5_leastBid 74 = .ok (.iload_n 1, 1) := by decide +kernel
theorem dX5_leastBid_75 : decode cX5_leastBid 75 = .ok (.iload_n 3, 1) := by decide +kernel
theorem dX5_leastBid_76 : decode cX5_leastBid 76 = .ok (.iastore, 1) := by decide +kernel
theorem dX5_leastBid_77 : decode cX5_leastBid 77 = .ok (.aload_n 0, 1) := by decide +kernel
theorem dX5_leastBid_78 : decode cX5_leastBid 78 = .ok (.getfield 22, 3) := by decide +kernel
theorem dX5_leastBid_81 : decode cX5_leastBid 81 = .ok (.aload_n 0, 1) := by decide +kernel
theorem dX5_leastBid_82 : decode cX5_leastBid 82 = .ok (.getfield 16, 3) := by decide +kernel
theorem dX5_leastBid_85 : decode cX5_leastBid 85 = .ok (.invokevirtual 244, 3) := by decide +kernel
theorem dX5_leastBid_88 : decode cX5_leastBid 88 = .ok (.iload_n 1, 1) := by decide +kernel
theorem dX5_leastBid_89 : decode cX5_leastBid 89 = .ok (.if_icmp .ne 5, 3) := by decide +kernel
theorem dX5_leastBid_92 : decode cX5_leastBid 92 = .ok (.iload_n 3, 1) := by decide +kernel
theorem dX5_leastBid_93 : decode cX5_leastBid 93 = .ok (.ireturn, 1) := by decide +kernel
theorem dX5_leastBid_94 : decode cX5_leastBid 94 = .ok (.iinc 3 1, 3) := by decide +kernel
theorem dX5_leastBid_97 : decode cX5_leastBid 97 = .ok (.goto (-37), 3) := by decide +kernel
theorem dX5_leastBid_100 : decode cX5_leastBid 100 = .ok (.ldc 78, 2) := by decide +kernel
theorem dX5_leastBid_102 : decode cX5_leastBid 102 = .ok (.ireturn, 1) := by decide +kernel
set_option maxRecDepth 20000 in
theorem ggX5_when_X5_requireMember : GoodIn wsX5_when wsX5_requireMember := goodIn_ca (goodIn_r _ [10, 11, 12, 2, 13, 14, 15, 16, 17, 18, 118, 119, 120, 121, 122, 123, 124, 125, 126, 127, 128, 129, 130, 131, 132, 133, 134, 135, 136, 137, 138, 139, 140, 141, 142] (by decide +kernel) (by decide +kernel)) (goodIn_sub (fun _ h => List.mem_cons_of_mem _ (List.mem_append_right _ h)) (by decide +kernel))
set_option maxRecDepth 20000 in
theorem gX5_when_X5_requireMember : GoodIn wsX5_when (wsV RX5 121 RX5 yX5_requireMember wsX5_requireMember) := goodIn_app (goodIn_of _ (by decide +kernel)) ggX5_when_X5_requireMember
set_option maxRecDepth 20000 in
theorem ggX5_when_X3_copyFrom : GoodIn wsX5_when wsX3_copyFrom := goodIn_r _ [22, 18, 23, 24, 25, 26, 27, 28, 29, 30, 31, 32, 33, 34, 35, 36, 37, 38, 126, 127, 128, 129, 130, 131, 132, 133, 134, 135, 136, 137, 138, 139, 140, 141, 142] (by decide +kernel) (by decide +kernel)
set_option maxRecDepth 20000 in
theorem gX5_when_X3_copyFrom : GoodIn wsX5_when (wsV RX5 81 RX3 yX3_copyFrom wsX3_copyFrom) := goodIn_app (goodIn_of _ (by decide +kernel)) ggX5_when_X3_copyFrom
set_option maxRecDepth 20000 in
theorem ggX5_when_X3_mayPass : GoodIn wsX5_when wsX3_mayPass := goodIn_r _ [42, 23, 43, 44, 45, 16, 46, 18, 32, 126, 127, 128, 129, 130, 131, 132, 133, 134, 135, 136, 137, 138, 139, 140, 141, 142] (by decide +kernel) (by decide +kernel)
set_option maxRecDepth 20000 in
theorem gX5_when_X3_mayPass : GoodIn wsX5_when (wsV RX5 201 RX3 yX3_mayPass wsX3_mayPass) := goodIn_app (goodIn_of _ (by decide +kernel)) ggX5_when_X3_mayPass
set_option maxRecDepth 20000 in
theorem ggX5_when_X1_pass : GoodIn wsX5_when wsX1_pass := goodIn_r _ [51, 52, 53, 54, 55, 56, 57, 58, 59, 60, 61, 50, 62, 63, 64, 65, 66, 67, 68, 69, 70, 71, 72, 73, 74, 75, 76, 77, 14, 15, 16, 17, 18, 78, 79, 80, 81, 82, 83, 84, 85, 86, 87, 88, 89, 90, 91, 92, 93, 94, 95, 96, 97, 98, 99, 100, 101, 102, 103, 104, 105, 106, 107, 108, 109, 110, 111, 112, 113, 114, 115, 38, 116, 27, 117, 126, 127, 128, 129, 130, 131, 132, 133, 134, 135, 136, 137, 138, 139, 140, 141, 142, 143, 144, 145] (by decide +kernel) (by decide +kernel)
set_option maxRecDepth 20000 in
theorem gX5_when_X1_pass : GoodIn wsX5_when (wsV RX5 207 RX1 yX1_pass wsX1_pass) := goodIn_app (goodIn_of _ (by decide +kernel)) ggX5_when_X1_pass
theorem dX5_when_0 : decode cX5_when 0 = .ok (.aload_n 0, 1) := by decide +kernel
theorem dX5_when_1 : decode cX5_when 1 = .ok (.iload_n 1, 1) := by decide +kernel
theorem dX5_when_2 : decode cX5_when 2 = .ok (.invokevirtual 121, 3) := by decide +kernel
theorem dX5_when_5 : decode cX5_when 5 = .ok (.aload_n 0, 1) := by decide +kernel
theorem dX5_when_6 : decode cX5_when 6 = .ok (.getfield 16, 3) := by decide +kernel
theorem dX5_when_9 : decode cX5_when 9 = .ok (.aload_n 0, 1) := by decide +kernel
theorem dX5_when_10 : decode cX5_when 10 = .ok (.getfield 10, 3) := by decide +kernel
theorem dX5_when_13 : decode cX5_when 13 = .ok (.invokevirtual 81, 3) := by decide +kernel
theorem dX5_when_16 : decode cX5_when 16 = .ok (.iconst 0, 1) := by decide +kernel
theorem dX5_when_17 : decode cX5_when 17 = .ok (.istore_n 2, 1) := by decide +kernel
theorem dX5_when_18 : decode cX5_when 18 = .ok (.iload_n 2, 1) := by decide +kernel
theorem dX5_when_19 : decode cX5_when 19 = .ok (.bipush 20, 2) := by decide +kernel
theorem dX5_when_21 : decode cX5_when 21 = .ok (.if_icmp .ge 44, 3) := by decide +kernel
theorem dX5_when_24 : decode cX5_when 24 = .ok (.aload_n 0, 1) := by decide +kernel
theorem dX5_when_25 : decode cX5_when 25 = .ok (.getfield 16, 3) := by decide +kernel
theorem dX5_when_28 : decode cX5_when 28 = .ok (.invokevirtual 201, 3) := by decide +kernel
theorem dX5_when_31 : decode cX5_when 31 = .ok (.ifCond .eq 34, 3) := by decide +kernel
theorem dX5_when_34 : decode cX5_when 34 = .ok (.aload_n 0, 1) := by decide +kernel
theorem dX5_when_35 : decode cX5_when 35 = .ok (.getfield 16, 3) := by decide +kernel
theorem dX5_when_38 : decode cX5_when 38 = .ok (.getfield 95, 3) := by decide +kernel
theorem dX5_when_41 : decode cX5_when 41 = .ok (.istore_n 3, 1) := by decide +kernel
theorem dX5_when_42 : decode cX5_when 42 = .ok (.aload_n 0, 1) := by decide +kernel
theorem dX5_when_43 : decode cX5_when 43 = .ok (.getfield 22, 3) := by decide +kernel
theorem dX5_when_46 : decode cX5_when 46 = .ok (.aload_n 0, 1) := by decide +kernel
theorem dX5_when_47 : decode cX5_when 47 = .ok (.getfield 16, 3) := by decide +kernel
theorem dX5_when_50 : decode cX5_when 50 = .ok (.invokevirtual 207, 3) := by decide +kernel
theorem dX5_when_53 : decode cX5_when 53 = .ok (.iload_n 1, 1) := by decide +kernel
theorem dX5_when_54 : decode cX5_when 54 = .ok (.if_icmp .ne 5, 3) := by decide +kernel
theorem dX5_when_57 : decode cX5_when 57 = .ok (.iload_n 3, 1) := by decide +kernel
theorem dX5_when_58 : decode cX5_when 58 = .ok (.ireturn, 1) := by decide +kernel
theorem dX5_when_59 : decode cX5_when 59 = .ok (.iinc 2 1, 3) := by decide +kernel
theorem dX5_when_62 : decode cX5_when 62 = .ok (.goto (-44), 3) := by decide +kernel
theorem dX5_when_65 : decode cX5_when 65 = .ok (.ldc 78, 2) := by decide +kernel
theorem dX5_when_67 : decode cX5_when 67 = .ok (.ireturn, 1) := by decide +kernel
set_option maxRecDepth 20000 in
theorem ggX5_inTheEnd_X5_requireMember : GoodIn wsX5_inTheEnd wsX5_requireMember := goodIn_ca (goodIn_r _ [9, 10, 11, 2, 12, 13, 14, 15, 16, 17, 121, 122, 123, 124, 125, 126, 127, 128, 129, 130, 131, 132, 133, 134, 135, 136, 137, 138, 139, 140, 141, 142, 143, 144, 145] (by decide +kernel) (by decide +kernel)) (goodIn_sub (fun _ h => List.mem_cons_of_mem _ (List.mem_append_right _ h)) (by decide +kernel))
set_option maxRecDepth 20000 in
theorem gX5_inTheEnd_X5_requireMember : GoodIn wsX5_inTheEnd (wsV RX5 121 RX5 yX5_requireMember wsX5_requireMember) := goodIn_app (goodIn_of _ (by decide +kernel)) ggX5_inTheEnd_X5_requireMember
set_option maxRecDepth 20000 in
theorem ggX5_inTheEnd_X3_copyFrom : GoodIn wsX5_inTheEnd wsX3_copyFrom := goodIn_r _ [21, 17, 22, 23, 24, 25, 26, 27, 28, 29, 30, 31, 32, 33, 34, 35, 36, 37, 129, 130, 131, 132, 133, 134, 135, 136, 137, 138, 139, 140, 141, 142, 143, 144, 145] (by decide +kernel) (by decide +kernel)
set_option maxRecDepth 20000 in
theorem gX5_inTheEnd_X3_copyFrom : GoodIn wsX5_inTheEnd (wsV RX5 81 RX3 yX3_copyFrom wsX3_copyFrom) := goodIn_app (goodIn_of _ (by decide +kernel)) ggX5_inTheEnd_X3_copyFrom
set_option maxRecDepth 20000 in
theorem ggX5_inTheEnd_X3_countWaiting : GoodIn wsX5_inTheEnd wsX3_countWaiting := goodIn_r _ [41, 17, 31, 30, 129, 130, 131, 132, 133, 134, 135, 136, 137, 138, 139, 140, 141, 142, 143, 144, 145] (by decide +kernel) (by decide +kernel)
set_option maxRecDepth 20000 in
theorem gX5_inTheEnd_X3_countWaiting : GoodIn wsX5_inTheEnd (wsV RX5 107 RX3 yX3_countWaiting wsX3_countWaiting) := goodIn_app (goodIn_of _ (by decide +kernel)) ggX5_inTheEnd_X3_countWaiting
set_option maxRecDepth 20000 in
theorem ggX5_inTheEnd_X3_mayPass : GoodIn wsX5_inTheEnd wsX3_mayPass := goodIn_r _ [45, 22, 46, 47, 48, 15, 49, 17, 31, 129, 130, 131, 132, 133, 134, 135, 136, 137, 138, 139, 140, 141, 142, 143, 144, 145] (by decide +kernel) (by decide +kernel)
set_option maxRecDepth 20000 in
theorem gX5_inTheEnd_X3_mayPass : GoodIn wsX5_inTheEnd (wsV RX5 201 RX3 yX3_mayPass wsX3_mayPass) := goodIn_app (goodIn_of _ (by decide +kernel)) ggX5_inTheEnd_X3_mayPass
set_option maxRecDepth 20000 in
theorem ggX5_inTheEnd_X1_pass : GoodIn wsX5_inTheEnd wsX1_pass := goodIn_r _ [54, 55, 56, 57, 58, 59, 60, 61, 62, 63, 64, 53, 65, 66, 67, 68, 69, 70, 71, 72, 73, 74, 75, 76, 77, 78, 79, 80, 13, 14, 15, 16, 17, 81, 82, 83, 84, 85, 86, 87, 88, 89, 90, 91, 92, 93, 94, 95, 96, 97, 98, 99, 100, 101, 102, 103, 104, 105, 106, 107, 108, 109, 110, 111, 112, 113, 114, 115, 116, 117, 118, 37, 119, 26, 120, 129, 130, 131, 132, 133, 134, 135, 136, 137, 138, 139, 140, 141, 142, 143, 144, 145, 146, 147, 148] (by decide +kernel) (by decide +kernel)
set_option maxRecDepth 20000 in
theorem gX5_inTheEnd_X1_pass : GoodIn wsX5_inTheEnd (wsV RX5 207 RX1 yX1_pass wsX1_pass) := goodIn_app (goodIn_of _ (by decide +kernel)) ggX5_inTheEnd_X1_pass
theorem dX5_inTheEnd_0 : decode cX5_inTheEnd 0 = .ok (.aload_n 0, 1) := by decide +kernel
theorem dX5_inTheEnd_1 : decode cX5_inTheEnd 1 = .ok (.iload_n 1, 1) := by decide +kernel
theorem dX5_inTheEnd_2 : decode cX5_inTheEnd 2 = .ok (.invokevirtual 121, 3) := by decide +kernel
theorem dX5_inTheEnd_5 : decode cX5_inTheEnd 5 = .ok (.aload_n 0, 1) := by decide +kernel
theorem dX5_inTheEnd_6 : decode cX5_inTheEnd 6 = .ok (.getfield 16, 3) := by decide +kernel
theorem dX5_inTheEnd_9 : decode cX5_inTheEnd 9 = .ok (.aload_n 0, 1) := by decide +kernel
theorem dX5_inTheEnd_10 : decode cX5_inTheEnd 10 = .ok (.getfield 10, 3) := by decide +kernel
theorem dX5_inTheEnd_13 : decode cX5_inTheEnd 13 = .ok (.invokevirtual 81, 3) := by decide +kernel
theorem dX5_inTheEnd_16 : decode cX5_inTheEnd 16 = .ok (.iconst 0, 1) := by decide +kernel
theorem dX5_inTheEnd_17 : decode cX5_inTheEnd 17 = .ok (.istore_n 2, 1) := by decide +kernel
theorem dX5_inTheEnd_18 : decode cX5_inTheEnd 18 = .ok (.iload_n 2, 1) := by decide +kernel
theorem dX5_inTheEnd_19 : decode cX5_inTheEnd 19 = .ok (.bipush 20, 2) := by decide +kernel
theorem dX5_inTheEnd_21 : decode cX5_inTheEnd 21 = .ok (.if_icmp .ge 41, 3) := by decide +kernel
theorem dX5_inTheEnd_24 : decode cX5_inTheEnd 24 = .ok (.aload_n 0, 1) := by decide +kernel
theorem dX5_inTheEnd_25 : decode cX5_inTheEnd 25 = .ok (.getfield 16, 3) := by decide +kernel
theorem dX5_inTheEnd_28 : decode cX5_inTheEnd 28 = .ok (.invokevirtual 107, 3) := by decide +kernel
theorem dX5_inTheEnd_31 : decode cX5_inTheEnd 31 = .ok (.ifCond .le 31, 3) := by decide +kernel
theorem dX5_inTheEnd_34 : decode cX5_inTheEnd 34 = .ok (.aload_n 0, 1) := by decide +kernel
theorem dX5_inTheEnd_35 : decode cX5_inTheEnd 35 = .ok (.getfield 16, 3) := by decide +kernel
theorem dX5_inTheEnd_38 : decode cX5_inTheEnd 38 = .ok (.invokevirtual 201, 3) := by decide +kernel
theorem dX5_inTheEnd_41 : decode cX5_inTheEnd 41 = .ok (.ifCond .eq 21, 3) := by decide +kernel
theorem dX5_inTheEnd_44 : decode cX5_inTheEnd 44 = .ok (.aload_n 0, 1) := by decide +kernel
theorem dX5_inTheEnd_45 : decode cX5_inTheEnd 45 = .ok (.getfield 22, 3) := by decide +kernel
theorem dX5_inTheEnd_48 : decode cX5_inTheEnd 48 = .ok (.aload_n 0, 1) := by decide +kernel
theorem dX5_inTheEnd_49 : decode cX5_inTheEnd 49 = .ok (.getfield 16, 3) := by decide +kernel
theorem dX5_inTheEnd_52 : decode cX5_inTheEnd 52 = .ok (.invokevirtual 207, 3) := by decide +kernel
theorem dX5_inTheEnd_55 : decode cX5_inTheEnd 55 = .ok (.pop, 1) := by decide +kernel
theorem dX5_inTheEnd_56 : decode cX5_inTheEnd 56 = .ok (.iinc 2 1, 3) := by decide +kernel
theorem dX5_inTheEnd_59 : decode cX5_inTheEnd 59 = .ok (.goto (-41), 3) := by decide +kernel
theorem dX5_inTheEnd_62 : decode cX5_inTheEnd 62 = .ok (.aload_n 0, 1) := by decide +kernel
theorem dX5_inTheEnd_63 : decode cX5_inTheEnd 63 = .ok (.getfield 16, 3) := by decide +kernel
theorem dX5_inTheEnd_66 : decode cX5_inTheEnd 66 = .ok (.getfield 125, 3) := by decide +kernel
theorem dX5_inTheEnd_69 : decode cX5_inTheEnd 69 = .ok (.iload_n 1, 1) := by decide +kernel
theorem dX5_inTheEnd_70 : decode cX5_inTheEnd 70 = .ok (.iaload, 1) := by decide +kernel
theorem dX5_inTheEnd_71 : decode cX5_inTheEnd 71 = .ok (.ireturn, 1) := by decide +kernel
set_option maxRecDepth 20000 in
theorem ggX5_requireMember_X3_exists : GoodIn wsX5_requireMember wsX3_exists := goodIn_r _ [8, 9, 18, 19, 20, 21, 22, 23, 24, 25, 26, 27, 28, 29, 30, 31, 32, 33, 34] (by decide +kernel) (by decide +kernel)
set_option maxRecDepth 20000 in
theorem gX5_requireMember_X3_exists : GoodIn wsX5_requireMember (wsV RX5 287 RX3 yX3_exists wsX3_exists) := goodIn_app (goodIn_of _ (by decide +kernel)) ggX5_requireMember_X3_exists
theorem dX5_requireMember_0 : decode cX5_requireMember 0 = .ok (.aload_n 0, 1) := by decide +kernel
theorem dX5_requireMember_1 : decode cX5_requireMember 1 = .ok (.getfield 10, 3) := by decide +kernel
theorem dX5_requireMember_4 : decode cX5_requireMember 4 = .ok (.iload_n 1, 1) := by decide +kernel
theorem dX5_requireMember_5 : decode cX5_requireMember 5 = .ok (.invokevirtual 287, 3) := by decide +kernel
theorem dX5_requireMember_8 : decode cX5_requireMember 8 = .ok (.ifCond .ne 14, 3) := by decide +kernel
theorem dX5_requireMember_11 : decode cX5_requireMember 11 = .ok (.new 290, 3) := by decide +kernel
theorem dX5_requireMember_14 : decode cX5_requireMember 14 = .ok (.dup, 1) := by decide +kernel
theorem dX5_requireMember_15 : decode cX5_requireMember 15 = .ok (.ldc_w 292, 3) := by decide +kernel
theorem dX5_requireMember_18 : decode cX5_requireMember 18 = .ok (.invokespecial 294, 3) := by decide +kernel
theorem dX5_requireMember_21 : decode cX5_requireMember 21 = .ok (.athrow, 1) := by decide +kernel
theorem dX5_requireMember_22 : decode cX5_requireMember 22 = .ok (.return_, 1) := by decide +kernel
set_option maxRecDepth 20000 in
theorem ggX5_requireTwoMembers_X5_requireMember : GoodIn wsX5_requireTwoMembers wsX5_requireMember := goodIn_ca (goodIn_r _ [7, 8, 9, 10, 11, 12, 13, 14, 15, 16, 17, 18, 19, 20, 21, 22, 23, 24, 25, 26, 27, 28, 29, 30, 31, 32, 33, 34, 35, 36, 37, 38, 39, 40, 41] (by decide +kernel) (by decide +kernel)) (goodIn_sub (fun _ h => List.mem_cons_of_mem _ (List.mem_append_right _ h)) (by decide +kernel))
set_option maxRecDepth 20000 in
theorem gX5_requireTwoMembers_X5_requireMember : GoodIn wsX5_requireTwoMembers (wsV RX5 121 RX5 yX5_requireMember wsX5_requireMember) := goodIn_app (goodIn_of _ (by decide +kernel)) ggX5_requireTwoMembers_X5_requireMember
theorem dX5_requireTwoMembers_0 : decode cX5_requireTwoMembers 0 = .ok (.aload_n 0, 1) := by decide +kernel
theorem dX5_requireTwoMembers_1 : decode cX5_requireTwoMembers 1 = .ok (.iload_n 1, 1) := by decide +kernel
theorem dX5_requireTwoMembers_2 : decode cX5_requireTwoMembers 2 = .ok (.invokevirtual 121, 3) := by decide +kernel
theorem dX5_requireTwoMembers_5 : decode cX5_requireTwoMembers 5 = .ok (.aload_n 0, 1) := by decide +kernel
theorem dX5_requireTwoMembers_6 : decode cX5_requireTwoMembers 6 = .ok (.iload_n 2, 1) := by decide +kernel
theorem dX5_requireTwoMembers_7 : decode cX5_requireTwoMembers 7 = .ok (.invokevirtual 121, 3) := by decide +kernel
theorem dX5_requireTwoMembers_10 : decode cX5_requireTwoMembers 10 = .ok (.iload_n 1, 1) := by decide +kernel
theorem dX5_requireTwoMembers_11 : decode cX5_requireTwoMembers 11 = .ok (.iload_n 2, 1) := by decide +kernel
theorem dX5_requireTwoMembers_12 : decode cX5_requireTwoMembers 12 = .ok (.if_icmp .ne 14, 3) := by decide +kernel
theorem dX5_requireTwoMembers_15 : decode cX5_requireTwoMembers 15 = .ok (.new 116, 3) := by decide +kernel
theorem dX5_requireTwoMembers_18 : decode cX5_requireTwoMembers 18 = .ok (.dup, 1) := by decide +kernel
theorem dX5_requireTwoMembers_19 : decode cX5_requireTwoMembers 19 = .ok (.ldc_w 295, 3) := by decide +kernel
theorem dX5_requireTwoMembers_22 : decode cX5_requireTwoMembers 22 = .ok (.invokespecial 120, 3) := by decide +kernel
theorem dX5_requireTwoMembers_25 : decode cX5_requireTwoMembers 25 = .ok (.athrow, 1) := by decide +kernel
theorem dX5_requireTwoMembers_26 : decode cX5_requireTwoMembers 26 = .ok (.return_, 1) := by decide +kernel
theorem dX5_requireRange_0 : decode cX5_requireRange 0 = .ok (.iload_n 0, 1) := by decide +kernel
theorem dX5_requireRange_1 : decode cX5_requireRange 1 = .ok (.iload_n 1, 1) := by decide +kernel
theorem dX5_requireRange_2 : decode cX5_requireRange 2 = .ok (.if_icmp .lt 8, 3) := by decide +kernel
theorem dX5_requireRange_5 : decode cX5_requireRange 5 = .ok (.iload_n 0, 1) := by decide +kernel
theorem dX5_requireRange_6 : decode cX5_requireRange 6 = .ok (.iload_n 2, 1) := by decide +kernel
theorem dX5_requireRange_7 : decode cX5_requireRange 7 = .ok (.if_icmp .le 14, 3) := by decide +kernel
theorem dX5_requireRange_10 : decode cX5_requireRange 10 = .ok (.new 116, 3) := by decide +kernel
theorem dX5_requireRange_13 : decode cX5_requireRange 13 = .ok (.dup, 1) := by decide +kernel
theorem dX5_requireRange_14 : decode cX5_requireRange 14 = .ok (.ldc_w 297, 3) := by decide +kernel
theorem dX5_requireRange_17 : decode cX5_requireRange 17 = .ok (.invokespecial 120, 3) := by decide +kernel
theorem dX5_requireRange_20 : decode cX5_requireRange 20 = .ok (.athrow, 1) := by decide +kernel
theorem dX5_requireRange_21 : decode cX5_requireRange 21 = .ok (.return_, 1) := by decide +kernel
theorem dJ9_max_7cf53_0 : decode cJ9_max_7cf53 0 = .ok (.iload_n 0, 1) := by decide +kernel
theorem dJ9_max_7cf53_1 : decode cJ9_max_7cf53 1 = .ok (.iload_n 1, 1) := by decide +kernel
theorem dJ9_max_7cf53_2 : decode cJ9_max_7cf53 2 = .ok (.if_icmp .lt 7, 3) := by decide +kernel
theorem dJ9_max_7cf53_5 : decode cJ9_max_7cf53 5 = .ok (.iload_n 0, 1) := by decide +kernel
theorem dJ9_max_7cf53_6 : decode cJ9_max_7cf53 6 = .ok (.goto 4, 3) := by decide +kernel
theorem dJ9_max_7cf53_9 : decode cJ9_max_7cf53 9 = .ok (.iload_n 1, 1) := by decide +kernel
theorem dJ9_max_7cf53_10 : decode cJ9_max_7cf53 10 = .ok (.ireturn, 1) := by decide +kernel
theorem dJ9_min_7cf53_0 : decode cJ9_min_7cf53 0 = .ok (.iload_n 0, 1) := by decide +kernel
theorem dJ9_min_7cf53_1 : decode cJ9_min_7cf53 1 = .ok (.iload_n 1, 1) := by decide +kernel
theorem dJ9_min_7cf53_2 : decode cJ9_min_7cf53 2 = .ok (.if_icmp .gt 7, 3) := by decide +kernel
theorem dJ9_min_7cf53_5 : decode cJ9_min_7cf53 5 = .ok (.iload_n 0, 1) := by decide +kernel
theorem dJ9_min_7cf53_6 : decode cJ9_min_7cf53 6 = .ok (.goto 4, 3) := by decide +kernel
theorem dJ9_min_7cf53_9 : decode cJ9_min_7cf53 9 = .ok (.iload_n 1, 1) := by decide +kernel
theorem dJ9_min_7cf53_10 : decode cJ9_min_7cf53 10 = .ok (.ireturn, 1) := by decide +kernel
theorem dL_cell_0 : decode cL_cell 0 = .ok (.iload_n 1, 1) := by decide +kernel
theorem dL_cell_1 : decode cL_cell 1 = .ok (.aload_n 0, 1) := by decide +kernel
theorem dL_cell_2 : decode cL_cell 2 = .ok (.arraylength, 1) := by decide +kernel
theorem dL_cell_3 : decode cL_cell 3 = .ok (.if_icmp .ge 9, 3) := by decide +kernel
theorem dL_cell_6 : decode cL_cell 6 = .ok (.aload_n 0, 1) := by decide +kernel
theorem dL_cell_7 : decode cL_cell 7 = .ok (.iload_n 1, 1) := by decide +kernel
theorem dL_cell_8 : decode cL_cell 8 = .ok (.iaload, 1) := by decide +kernel
theorem dL_cell_9 : decode cL_cell 9 = .ok (.goto 10, 3) := by decide +kernel
theorem dL_cell_12 : decode cL_cell 12 = .ok (.ldc 7, 2) := by decide +kernel
theorem dL_cell_14 : decode cL_cell 14 = .ok (.iload_n 1, 1) := by decide +kernel
theorem dL_cell_15 : decode cL_cell 15 = .ok (.imul, 1) := by decide +kernel
theorem dL_cell_16 : decode cL_cell 16 = .ok (.ldc 8, 2) := by decide +kernel
theorem dL_cell_18 : decode cL_cell 18 = .ok (.iadd, 1) := by decide +kernel
theorem dL_cell_19 : decode cL_cell 19 = .ok (.ireturn, 1) := by decide +kernel
theorem dL_low_0 : decode cL_low 0 = .ok (.iload_n 0, 1) := by decide +kernel
theorem dL_low_1 : decode cL_low 1 = .ok (.ldc 9, 2) := by decide +kernel
theorem dL_low_3 : decode cL_low 3 = .ok (.iand, 1) := by decide +kernel
theorem dL_low_4 : decode cL_low 4 = .ok (.iload_n 1, 1) := by decide +kernel
theorem dL_low_5 : decode cL_low 5 = .ok (.irem, 1) := by decide +kernel
theorem dL_low_6 : decode cL_low 6 = .ok (.ireturn, 1) := by decide +kernel
set_option maxRecDepth 20000 in
theorem ggL_build_L_cell : GoodIn wsL_build wsL_cell := goodIn_r _ [5, 6, 7] (by decide +kernel) (by decide +kernel)
set_option maxRecDepth 20000 in
theorem gL_build_L_cell : GoodIn wsL_build (va_wsS RL 10 yL_cell wsL_cell) := goodIn_app (goodIn_of _ (by decide +kernel)) ggL_build_L_cell
set_option maxRecDepth 20000 in
theorem ggL_build_L_low : GoodIn wsL_build wsL_low := goodIn_r _ [10, 11] (by decide +kernel) (by decide +kernel)
set_option maxRecDepth 20000 in
theorem gL_build_L_low : GoodIn wsL_build (va_wsS RL 16 yL_low wsL_low) := goodIn_app (goodIn_of _ (by decide +kernel)) ggL_build_L_low
set_option maxRecDepth 20000 in
theorem ggL_build_X5_addMember : GoodIn wsL_build wsX5_addMember := goodIn_ca (goodIn_ca (goodIn_r _ [16, 17, 18, 19, 20, 21, 22, 23, 15, 24, 25, 26, 27, 28, 29, 30, 31, 32, 33, 34, 35, 36, 37, 38, 39, 40, 41, 42, 43, 44, 45, 46, 47, 48, 49, 50, 51, 52, 53, 54, 55, 56, 57, 58, 59, 60, 61, 62, 63, 64, 65, 100, 101, 102, 103, 104, 105, 106, 107, 108, 109, 110, 111, 112, 113, 114, 115, 116, 117, 118, 119, 120, 121, 122, 123, 124, 125, 126, 127] (by decide +kernel) (by decide +kernel)) (goodIn_sub (fun _ h => List.mem_cons_of_mem _ (List.mem_append_left _ (List.mem_append_left _ (List.mem_append_right _ h)))) (by decide +kernel))) (goodIn_sub (fun _ h => List.mem_cons_of_mem _ (List.mem_append_left _ (List.mem_append_right _ h))) (by decide +kernel))
set_option maxRecDepth 20000 in
theorem gL_build_X5_addMember : GoodIn wsL_build (wsV RL 20 RX5 yX5_addMember wsX5_addMember) := goodIn_app (goodIn_of _ (by decide +kernel)) ggL_build_X5_addMember
set_option maxRecDepth 20000 in
theorem ggL_build_X5_member : GoodIn wsL_build wsX5_member := goodIn_ca (goodIn_ca (goodIn_r _ [69, 25, 26, 19, 70, 71, 72, 73, 74, 75, 76, 77, 78, 79, 80, 81, 82, 83, 15, 84, 85, 86, 87, 88, 89, 42, 90, 44, 100, 101, 102, 103, 104, 105, 106, 107, 108, 109, 110, 111, 112, 113, 114, 115, 116, 117, 118, 119, 120, 121, 122, 123, 124] (by decide +kernel) (by decide +kernel)) (goodIn_sub (fun _ h => List.mem_cons_of_mem _ (List.mem_append_left _ (List.mem_append_right _ h))) (by decide +kernel))) (goodIn_sub (fun _ h => List.mem_cons_of_mem _ (List.mem_append_right _ h)) (by decide +kernel))
set_option maxRecDepth 20000 in
theorem gL_build_X5_member : GoodIn wsL_build (wsV RL 26 RX5 yX5_member wsX5_member) := goodIn_app (goodIn_of _ (by decide +kernel)) ggL_build_X5_member
set_option maxRecDepth 20000 in
theorem ggL_build_X5_setGuarantor : GoodIn wsL_build wsX5_setGuarantor := goodIn_ca (goodIn_ca (goodIn_r _ [94, 95, 21, 19, 71, 81, 82, 83, 15, 84, 85, 86, 87, 88, 89, 42, 90, 44, 96, 97, 98, 99, 25, 26, 27, 28, 29, 30, 31, 32, 33, 34, 35, 36, 37, 38, 39, 40, 41, 43, 45, 46, 47, 48, 49, 50, 51, 52, 53, 54, 55, 56, 57, 58, 59, 60, 100, 101, 102, 103, 104, 105, 106, 107, 108, 109, 110, 111, 112, 113, 114, 115, 116, 117, 118, 119, 120, 121, 122, 123, 124, 125, 126, 127] (by decide +kernel) (by decide +kernel)) (goodIn_sub (fun _ h => List.mem_cons_of_mem _ (List.mem_append_right _ h)) (by decide +kernel))) (goodIn_sub (fun _ h => List.mem_cons_of_mem _ (List.mem_append_left _ (List.mem_append_right _ h))) (by decide +kernel))
set_option maxRecDepth 20000 in
theorem gL_build_X5_setGuarantor : GoodIn wsL_build (wsV RL 30 RX5 yX5_setGuarantor wsX5_setGuarantor) := goodIn_app (goodIn_of _ (by decide +kernel)) ggL_build_X5_setGuarantor
theorem dL_build_0 : decode cL_build 0 = .ok (.iconst 1, 1) := by decide +kernel
theorem dL_build_1 : decode cL_build 1 = .ok (.istore_n 3, 1) := by decide +kernel
theorem dL_build_2 : decode cL_build 2 = .ok (.aload_n 1, 1) := by decide +kernel
theorem dL_build_3 : decode cL_build 3 = .ok (.iconst 1, 1) := by decide +kernel
theorem dL_build_4 : decode cL_build 4 = .ok (.invokestatic 10, 3) := by decide +kernel
theorem dL_build_7 : decode cL_build 7 = .ok (.istore 4, 2) := by decide +kernel
theorem dL_build_9 : decode cL_build 9 = .ok (.iconst 0, 1) := by decide +kernel
theorem dL_build_10 : decode cL_build 10 = .ok (.istore 5, 2) := by decide +kernel
theorem dL_build_12 : decode cL_build 12 = .ok (.iload 5, 2) := by decide +kernel
theorem dL_build_14 : decode cL_build 14 = .ok (.iload_n 2, 1) := by decide +kernel
theorem dL_build_15 : decode cL_build 15 = .ok (.if_icmp .ge 98, 3) := by decide +kernel
theorem dL_build_18 : decode cL_build 18 = .ok (.iload_n 3, 1) := by decide +kernel
theorem dL_build_19 : decode cL_build 19 = .ok (.ifCond .eq 94, 3) := by decide +kernel
theorem dL_build_22 : decode cL_build 22 = .ok (.aload_n 1, 1) := by decide +kernel
theorem dL_build_23 : decode cL_build 23 = .ok (.iconst 2, 1) := by decide +kernel
theorem dL_build_24 : decode cL_build 24 = .ok (.iload 5, 2) := by decide +kernel
theorem dL_build_26 : decode cL_build 26 = .ok (.iadd, 1) := by decide +kernel
theorem dL_build_27 : decode cL_build 27 = .ok (.invokestatic 10, 3) := by decide +kernel
theorem dL_build_30 : decode cL_build 30 = .ok (.iload 4, 2) := by decide +kernel
theorem dL_build_32 : decode cL_build 32 = .ok (.iload 5, 2) := by decide +kernel
theorem dL_build_34 : decode cL_build 34 = .ok (.ishr, 1) := by decide +kernel
theorem dL_build_35 : decode cL_build 35 = .ok (.iconst 3, 1) := by decide +kernel
theorem dL_build_36 : decode cL_build 36 = .ok (.invokestatic 16, 3) := by decide +kernel
theorem dL_build_39 : decode cL_build 39 = .ok (.ifCond .ne 8, 3) := by decide +kernel
theorem dL_build_42 : decode cL_build 42 = .ok (.bipush 20, 2) := by decide +kernel
theorem dL_build_44 : decode cL_build 44 = .ok (.goto 6, 3) := by decide +kernel
theorem dL_build_47 : decode cL_build 47 = .ok (.sipush 400, 3) := by decide +kernel
theorem dL_build_50 : decode cL_build 50 = .ok (.invokestatic 16, 3) := by decide +kernel
theorem dL_build_53 : decode cL_build 53 = .ok (.istore 6, 2) := by decide +kernel
theorem dL_build_55 : decode cL_build 55 = .ok (.aload_n 0, 1) := by decide +kernel
theorem dL_build_56 : decode cL_build 56 = .ok (.iload 6, 2) := by decide +kernel
theorem dL_build_58 : decode cL_build 58 = .ok (.invokevirtual 20, 3) := by decide +kernel
theorem dL_build_61 : decode cL_build 61 = .ok (.iload 5, 2) := by decide +kernel
theorem dL_build_63 : decode cL_build 63 = .ok (.if_icmp .ne 42, 3) := by decide +kernel
theorem dL_build_66 : decode cL_build 66 = .ok (.aload_n 0, 1) := by decide +kernel
theorem dL_build_67 : decode cL_build 67 = .ok (.iload 5, 2) := by decide +kernel
theorem dL_build_69 : decode cL_build 69 = .ok (.iconst 0, 1) := by decide +kernel
theorem dL_build_70 : decode cL_build 70 = .ok (.invokevirtual 26, 3) := by decide +kernel
theorem dL_build_73 : decode cL_build 73 = .ok (.iload 6, 2) := by decide +kernel
theorem dL_build_75 : decode cL_build 75 = .ok (.if_icmp .ne 30, 3) := by decide +kernel
theorem dL_build_78 : decode cL_build 78 = .ok (.aload_n 0, 1) := by decide +kernel
theorem dL_build_79 : decode cL_build 79 = .ok (.iload 5, 2) := by decide +kernel
theorem dL_build_81 : decode cL_build 81 = .ok (.iconst 1, 1) := by decide +kernel
theorem dL_build_82 : decode cL_build 82 = .ok (.invokevirtual 26, 3) := by decide +kernel
theorem dL_build_85 : decode cL_build 85 = .ok (.ldc 29, 2) := by decide +kernel
theorem dL_build_87 : decode cL_build 87 = .ok (.if_icmp .ne 18, 3) := by decide +kernel
theorem dL_build_90 : decode cL_build 90 = .ok (.aload_n 0, 1) := by decide +kernel
theorem dL_build_91 : decode cL_build 91 = .ok (.iload 5, 2) := by decide +kernel
theorem dL_build_93 : decode cL_build 93 = .ok (.iconst 5, 1) := by decide +kernel
theorem dL_build_94 : decode cL_build 94 = .ok (.invokevirtual 26, 3) := by decide +kernel
theorem dL_build_97 : decode cL_build 97 = .ok (.iconst 1, 1) := by decide +kernel
theorem dL_build_98 : decode cL_build 98 = .ok (.if_icmp .ne 7, 3) := by decide +kernel
theorem dL_build_101 : decode cL_build 101 = .ok (.iconst 1, 1) := by decide +kernel
theorem dL_build_102 : decode cL_build 102 = .ok (.goto 4, 3) := by decide +kernel
theorem dL_build_105 : decode cL_build 105 = .ok (.iconst 0, 1) := by decide +kernel
theorem dL_build_106 : decode cL_build 106 = .ok (.istore_n 3, 1) := by decide +kernel
theorem dL_build_107 : decode cL_build 107 = .ok (.iinc 5 1, 3) := by decide +kernel
theorem dL_build_110 : decode cL_build 110 = .ok (.goto (-98), 3) := by decide +kernel
theorem dL_build_113 : decode cL_build 113 = .ok (.iconst 0, 1) := by decide +kernel
theorem dL_build_114 : decode cL_build 114 = .ok (.istore 5, 2) := by decide +kernel
theorem dL_build_116 : decode cL_build 116 = .ok (.iload 5, 2) := by decide +kernel
theorem dL_build_118 : decode cL_build 118 = .ok (.iload_n 2, 1) := by decide +kernel
theorem dL_build_119 : decode cL_build 119 = .ok (.if_icmp .ge 88, 3) := by decide +kernel
theorem dL_build_122 : decode cL_build 122 = .ok (.iload_n 3, 1) := by decide +kernel
theorem dL_build_123 : decode cL_build 123 = .ok (.ifCond .eq 84, 3) := by decide +kernel
theorem dL_build_126 : decode cL_build 126 = .ok (.iload_n 2, 1) := by decide +kernel
theorem dL_build_127 : decode cL_build 127 = .ok (.iconst 1, 1) := by decide +kernel
theorem dL_build_128 : decode cL_build 128 = .ok (.if_icmp .le 79, 3) := by decide +kernel
theorem dL_build_131 : decode cL_build 131 = .ok (.aload_n 1, 1) := by decide +kernel
theorem dL_build_132 : decode cL_build 132 = .ok (.bipush 10, 2) := by decide +kernel
theorem dL_build_134 : decode cL_build 134 = .ok (.iload 5, 2) := by decide +kernel
theorem dL_build_136 : decode cL_build 136 = .ok (.iadd, 1) := by decide +kernel
theorem dL_build_137 : decode cL_build 137 = .ok (.invokestatic 10, 3) := by decide +kernel
theorem dL_build_140 : decode cL_build 140 = .ok (.istore 6, 2) := by decide +kernel
theorem dL_build_142 : decode cL_build 142 = .ok (.iload 6, 2) := by decide +kernel
theorem dL_build_144 : decode cL_build 144 = .ok (.iconst 2, 1) := by decide +kernel
theorem dL_build_145 : decode cL_build 145 = .ok (.invokestatic 16, 3) := by decide +kernel
theorem dL_build_148 : decode cL_build 148 = .ok (.ifCond .ne 53, 3) := by decide +kernel
theorem dL_build_151 : decode cL_build 151 = .ok (.iload 5, 2) := by decide +kernel
theorem dL_build_153 : decode cL_build 153 = .ok (.iconst 1, 1) := by decide +kernel
theorem dL_build_154 : decode cL_build 154 = .ok (.iadd, 1) := by decide +kernel
theorem dL_build_155 : decode cL_build 155 = .ok (.iload 6, 2) := by decide +kernel
theorem dL_build_157 : decode cL_build 157 = .ok (.iconst 1, 1) := by decide +kernel
theorem dL_build_158 : decode cL_build 158 = .ok (.ishr, 1) := by decide +kernel
theorem dL_build_159 : decode cL_build 159 = .ok (.iload_n 2, 1) := by decide +kernel
theorem dL_build_160 : decode cL_build 160 = .ok (.iconst 1, 1) := by decide +kernel
theorem dL_build_161 : decode cL_build 161 = .ok (.isub, 1) := by decide +kernel
theorem dL_build_162 : decode cL_build 162 = .ok (.invokestatic 16, 3) := by decide +kernel
theorem dL_build_165 : decode cL_build 165 = .ok (.iadd, 1) := by decide +kernel
theorem dL_build_166 : decode cL_build 166 = .ok (.iload_n 2, 1) := by decide +kernel
theorem dL_build_167 : decode cL_build 167 = .ok (.irem, 1) := by decide +kernel
theorem dL_build_168 : decode cL_build 168 = .ok (.istore 7, 2) := by decide +kernel
theorem dL_build_170 : decode cL_build 170 = .ok (.aload_n 0, 1) := by decide +kernel
theorem dL_build_171 : decode cL_build 171 = .ok (.iload 5, 2) := by decide +kernel
theorem dL_build_173 : decode cL_build 173 = .ok (.iload 7, 2) := by decide +kernel
theorem dL_build_175 : decode cL_build 175 = .ok (.invokevirtual 30, 3) := by decide +kernel
theorem dL_build_178 : decode cL_build 178 = .ok (.ldc 29, 2) := by decide +kernel
theorem dL_build_180 : decode cL_build 180 = .ok (.if_icmp .ne 19, 3) := by decide +kernel
theorem dL_build_183 : decode cL_build 183 = .ok (.aload_n 0, 1) := by decide +kernel
theorem dL_build_184 : decode cL_build 184 = .ok (.iload 5, 2) := by decide +kernel
theorem dL_build_186 : decode cL_build 186 = .ok (.iconst 1, 1) := by decide +kernel
theorem dL_build_187 : decode cL_build 187 = .ok (.invokevirtual 26, 3) := by decide +kernel
theorem dL_build_190 : decode cL_build 190 = .ok (.iload 7, 2) := by decide +kernel
theorem dL_build_192 : decode cL_build 192 = .ok (.if_icmp .ne 7, 3) := by decide +kernel
theorem dL_build_195 : decode cL_build 195 = .ok (.iconst 1, 1) := by decide +kernel
theorem dL_build_196 : decode cL_build 196 = .ok (.goto 4, 3) := by decide +kernel
theorem dL_build_199 : decode cL_build 199 = .ok (.iconst 0, 1) := by decide +kernel
theorem dL_build_200 : decode cL_build 200 = .ok (.istore_n 3, 1) := by decide +kernel
theorem dL_build_201 : decode cL_build 201 = .ok (.iinc 5 1, 3) := by decide +kernel
theorem dL_build_204 : decode cL_build 204 = .ok (.goto (-88), 3) := by decide +kernel
theorem dL_build_207 : decode cL_build 207 = .ok (.iload_n 3, 1) := by decide +kernel
theorem dL_build_208 : decode cL_build 208 = .ok (.ireturn, 1) := by decide +kernel
set_option maxRecDepth 20000 in
theorem ggL_sum_X5_member : GoodIn wsL_sum wsX5_member := goodIn_ca (goodIn_ca (goodIn_r _ [5, 6, 7, 8, 9, 10, 11, 12, 13, 14, 15, 16, 17, 18, 19, 20, 21, 22, 4, 23, 24, 25, 26, 27, 28, 29, 30, 31, 32, 33, 34, 35, 36, 37, 38, 39, 40, 41, 42, 43, 44, 45, 46, 47, 48, 49, 50, 51, 52, 53, 54, 55, 56] (by decide +kernel) (by decide +kernel)) (goodIn_sub (fun _ h => List.mem_cons_of_mem _ (List.mem_append_left _ (List.mem_append_right _ h))) (by decide +kernel))) (goodIn_sub (fun _ h => List.mem_cons_of_mem _ (List.mem_append_right _ h)) (by decide +kernel))
set_option maxRecDepth 20000 in
theorem gL_sum_X5_member : GoodIn wsL_sum (wsV RL 26 RX5 yX5_member wsX5_member) := goodIn_app (goodIn_of _ (by decide +kernel)) ggL_sum_X5_member
theorem dL_sum_0 : decode cL_sum 0 = .ok (.iconst 0, 1) := by decide +kernel
theorem dL_sum_1 : decode cL_sum 1 = .ok (.istore_n 3, 1) := by decide +kernel
theorem dL_sum_2 : decode cL_sum 2 = .ok (.iconst 0, 1) := by decide +kernel
theorem dL_sum_3 : decode cL_sum 3 = .ok (.istore 4, 2) := by decide +kernel
theorem dL_sum_5 : decode cL_sum 5 = .ok (.iload 4, 2) := by decide +kernel
theorem dL_sum_7 : decode cL_sum 7 = .ok (.iload_n 1, 1) := by decide +kernel
theorem dL_sum_8 : decode cL_sum 8 = .ok (.if_icmp .ge 19, 3) := by decide +kernel
theorem dL_sum_11 : decode cL_sum 11 = .ok (.iload_n 3, 1) := by decide +kernel
theorem dL_sum_12 : decode cL_sum 12 = .ok (.aload_n 0, 1) := by decide +kernel
theorem dL_sum_13 : decode cL_sum 13 = .ok (.iload 4, 2) := by decide +kernel
theorem dL_sum_15 : decode cL_sum 15 = .ok (.iload_n 2, 1) := by decide +kernel
theorem dL_sum_16 : decode cL_sum 16 = .ok (.invokevirtual 26, 3) := by decide +kernel
theorem dL_sum_19 : decode cL_sum 19 = .ok (.iadd, 1) := by decide +kernel
theorem dL_sum_20 : decode cL_sum 20 = .ok (.istore_n 3, 1) := by decide +kernel
theorem dL_sum_21 : decode cL_sum 21 = .ok (.iinc 4 1, 3) := by decide +kernel
theorem dL_sum_24 : decode cL_sum 24 = .ok (.goto (-19), 3) := by decide +kernel
theorem dL_sum_27 : decode cL_sum 27 = .ok (.iload_n 3, 1) := by decide +kernel
theorem dL_sum_28 : decode cL_sum 28 = .ok (.ireturn, 1) := by decide +kernel
set_option maxRecDepth 20000 in
theorem ggL_addUp_X5_owes : GoodIn wsL_addUp wsX5_owes := goodIn_ca (goodIn_ca (goodIn_r _ [6, 7, 8, 9, 10, 11, 5, 12, 13, 14, 15, 16, 17, 18, 19, 20, 21, 22, 23, 24, 25, 26, 27, 28, 29, 88, 89, 90, 91, 92, 93, 94, 95, 96, 97, 98, 99, 100, 101, 102, 103, 104, 105, 106, 107, 108, 109, 110, 111, 112] (by decide +kernel) (by decide +kernel)) (goodIn_sub (fun _ h => List.mem_cons_of_mem _ (List.mem_append_left _ (List.mem_append_right _ h))) (by decide +kernel))) (goodIn_sub (fun _ h => List.mem_cons_of_mem _ (List.mem_append_right _ h)) (by decide +kernel))
set_option maxRecDepth 20000 in
theorem gL_addUp_X5_owes : GoodIn wsL_addUp (wsV RL 33 RX5 yX5_owes wsX5_owes) := goodIn_app (goodIn_of _ (by decide +kernel)) ggL_addUp_X5_owes
set_option maxRecDepth 20000 in
theorem ggL_addUp_X5_member : GoodIn wsL_addUp wsX5_member := goodIn_ca (goodIn_ca (goodIn_r _ [33, 13, 14, 7, 34, 35, 36, 37, 38, 39, 40, 41, 42, 43, 44, 15, 16, 17, 5, 18, 19, 20, 21, 22, 23, 24, 25, 26, 88, 89, 90, 91, 92, 93, 94, 95, 96, 97, 98, 99, 100, 101, 102, 103, 104, 105, 106, 107, 108, 109, 110, 111, 112] (by decide +kernel) (by decide +kernel)) (goodIn_sub (fun _ h => List.mem_cons_of_mem _ (List.mem_append_left _ (List.mem_append_right _ h))) (by decide +kernel))) (goodIn_sub (fun _ h => List.mem_cons_of_mem _ (List.mem_append_right _ h)) (by decide +kernel))
set_option maxRecDepth 20000 in
theorem gL_addUp_X5_member : GoodIn wsL_addUp (wsV RL 26 RX5 yX5_member wsX5_member) := goodIn_app (goodIn_of _ (by decide +kernel)) ggL_addUp_X5_member
set_option maxRecDepth 20000 in
theorem ggL_addUp_X5_chain : GoodIn wsL_addUp wsX5_chain := goodIn_ca (goodIn_r _ [48, 7, 15, 16, 17, 5, 18, 19, 20, 21, 22, 23, 24, 25, 26, 49, 50, 51, 52, 53, 54, 88, 89, 90, 91, 92, 93, 94, 95, 96, 97, 98, 99, 100, 101, 102, 103, 104, 105, 106, 107, 108, 109, 110, 111, 112] (by decide +kernel) (by decide +kernel)) (goodIn_sub (fun _ h => List.mem_cons_of_mem _ (List.mem_append_right _ h)) (by decide +kernel))
set_option maxRecDepth 20000 in
theorem gL_addUp_X5_chain : GoodIn wsL_addUp (wsV RL 36 RX5 yX5_chain wsX5_chain) := goodIn_app (goodIn_of _ (by decide +kernel)) ggL_addUp_X5_chain
set_option maxRecDepth 20000 in
theorem ggL_addUp_X5_about : GoodIn wsL_addUp wsX5_about := goodIn_ca (goodIn_r _ [58, 13, 14, 7, 59, 60, 61, 62, 63, 64, 65, 66, 24, 67, 26, 68, 69, 70, 71, 72, 73, 74, 75, 76, 77, 78, 79, 80, 81, 82, 83, 88, 89, 90, 91, 92, 93, 94, 95, 96, 97, 98, 99, 100, 101, 102, 103, 104, 105, 106, 107, 108, 109, 110, 111, 112] (by decide +kernel) (by decide +kernel)) (goodIn_sub (fun _ h => List.mem_cons_of_mem _ (List.mem_append_left _ (List.mem_append_right _ h))) (by decide +kernel))
set_option maxRecDepth 20000 in
theorem gL_addUp_X5_about : GoodIn wsL_addUp (wsV RL 39 RX5 yX5_about wsX5_about) := goodIn_app (goodIn_of _ (by decide +kernel)) ggL_addUp_X5_about
set_option maxRecDepth 20000 in
theorem ggL_addUp_L_sum : GoodIn wsL_addUp wsL_sum := goodIn_ca (goodIn_ca (goodIn_r _ [87, 30, 31, 32, 5, 33, 13, 14, 7, 34, 35, 36, 37, 38, 39, 40, 41, 42, 43, 44, 15, 16, 17, 18, 19, 20, 21, 22, 23, 24, 25, 26, 88, 89, 90, 91, 92, 93, 94, 95, 96, 97, 98, 99, 100, 101, 102, 103, 104, 105, 106, 107, 108, 109, 110, 111, 112] (by decide +kernel) (by decide +kernel)) (goodIn_sub (fun _ h => List.mem_cons_of_mem _ (List.mem_append_left _ (List.mem_append_right _ h))) (by decide +kernel))) (goodIn_sub (fun _ h => List.mem_cons_of_mem _ (List.mem_append_right _ h)) (by decide +kernel))
set_option maxRecDepth 20000 in
theorem gL_addUp_L_sum : GoodIn wsL_addUp (va_wsS RL 42 yL_sum wsL_sum) := goodIn_app (goodIn_of _ (by decide +kernel)) ggL_addUp_L_sum
theorem dL_addUp_0 : decode cL_addUp 0 = .ok (.iconst 0, 1) := by decide +kernel
theorem dL_addUp_1 : decode cL_addUp 1 = .ok (.istore_n 2, 1) := by decide +kernel
theorem dL_addUp_2 : decode cL_addUp 2 = .ok (.iconst 0, 1) := by decide +kernel
theorem dL_addUp_3 : decode cL_addUp 3 = .ok (.istore_n 3, 1) := by decide +kernel
theorem dL_addUp_4 : decode cL_addUp 4 = .ok (.iconst 0, 1) := by decide +kernel
theorem dL_addUp_5 : decode cL_addUp 5 = .ok (.istore 4, 2) := by decide +kernel
theorem dL_addUp_7 : decode cL_addUp 7 = .ok (.iload 4, 2) := by decide +kernel
theorem dL_addUp_9 : decode cL_addUp 9 = .ok (.iload_n 1, 1) := by decide +kernel
theorem dL_addUp_10 : decode cL_addUp 10 = .ok (.if_icmp .ge 142, 3) := by decide +kernel
theorem dL_addUp_13 : decode cL_addUp 13 = .ok (.iconst 0, 1) := by decide +kernel
theorem dL_addUp_14 : decode cL_addUp 14 = .ok (.istore 5, 2) := by decide +kernel
theorem dL_addUp_16 : decode cL_addUp 16 = .ok (.iload 5, 2) := by decide +kernel
theorem dL_addUp_18 : decode cL_addUp 18 = .ok (.iload_n 1, 1) := by decide +kernel
theorem dL_addUp_19 : decode cL_addUp 19 = .ok (.if_icmp .ge 31, 3) := by decide +kernel
theorem dL_addUp_22 : decode cL_addUp 22 = .ok (.iload_n 2, 1) := by decide +kernel
theorem dL_addUp_23 : decode cL_addUp 23 = .ok (.iload 4, 2) := by decide +kernel
theorem dL_addUp_25 : decode cL_addUp 25 = .ok (.iload 5, 2) := by decide +kernel
theorem dL_addUp_27 : decode cL_addUp 27 = .ok (.if_icmp .ne 7, 3) := by decide +kernel
theorem dL_addUp_30 : decode cL_addUp 30 = .ok (.iconst 0, 1) := by decide +kernel
theorem dL_addUp_31 : decode cL_addUp 31 = .ok (.goto 11, 3) := by decide +kernel
theorem dL_addUp_34 : decode cL_addUp 34 = .ok (.aload_n 0, 1) := by decide +kernel
theorem dL_addUp_35 : decode cL_addUp 35 = .ok (.iload 4, 2) := by decide +kernel
theorem dL_addUp_37 : decode cL_addUp 37 = .ok (.iload 5, 2) := by decide +kernel
theorem dL_addUp_39 : decode cL_addUp 39 = .ok (.invokevirtual 33, 3) := by decide +kernel
theorem dL_addUp_42 : decode cL_addUp 42 = .ok (.iadd, 1) := by decide +kernel
theorem dL_addUp_43 : decode cL_addUp 43 = .ok (.istore_n 2, 1) := by decide +kernel
theorem dL_addUp_44 : decode cL_addUp 44 = .ok (.iinc 5 1, 3) := by decide +kernel
theorem dL_addUp_47 : decode cL_addUp 47 = .ok (.goto (-31), 3) := by decide +kernel
theorem dL_addUp_50 : decode cL_addUp 50 = .ok (.iload_n 3, 1) := by decide +kernel
theorem dL_addUp_51 : decode cL_addUp 51 = .ok (.aload_n 0, 1) := by decide +kernel
theorem dL_addUp_52 : decode cL_addUp 52 = .ok (.iload 4, 2) := by decide +kernel
theorem dL_addUp_54 : decode cL_addUp 54 = .ok (.iconst 5, 1) := by decide +kernel
theorem dL_addUp_55 : decode cL_addUp 55 = .ok (.invokevirtual 26, 3) := by decide +kernel
theorem dL_addUp_58 : decode cL_addUp 58 = .ok (.iconst 1, 1) := by decide +kernel
theorem dL_addUp_59 : decode cL_addUp 59 = .ok (.if_icmp .ne 17, 3) := by decide +kernel
theorem dL_addUp_62 : decode cL_addUp 62 = .ok (.aload_n 0, 1) := by decide +kernel
theorem dL_addUp_63 : decode cL_addUp 63 = .ok (.iload 4, 2) := by decide +kernel
theorem dL_addUp_65 : decode cL_addUp 65 = .ok (.iconst 4, 1) := by decide +kernel
theorem dL_addUp_66 : decode cL_addUp 66 = .ok (.invokevirtual 26, 3) := by decide +kernel
theorem dL_addUp_69 : decode cL_addUp 69 = .ok (.ifCond .ne 7, 3) := by decide +kernel
theorem dL_addUp_72 : decode cL_addUp 72 = .ok (.iconst 1, 1) := by decide +kernel
theorem dL_addUp_73 : decode cL_addUp 73 = .ok (.goto 4, 3) := by decide +kernel
theorem dL_addUp_76 : decode cL_addUp 76 = .ok (.iconst 0, 1) := by decide +kernel
theorem dL_addUp_77 : decode cL_addUp 77 = .ok (.iadd, 1) := by decide +kernel
theorem dL_addUp_78 : decode cL_addUp 78 = .ok (.istore_n 3, 1) := by decide +kernel
theorem dL_addUp_79 : decode cL_addUp 79 = .ok (.aload_n 0, 1) := by decide +kernel
theorem dL_addUp_80 : decode cL_addUp 80 = .ok (.iload 4, 2) := by decide +kernel
theorem dL_addUp_82 : decode cL_addUp 82 = .ok (.invokevirtual 36, 3) := by decide +kernel
theorem dL_addUp_85 : decode cL_addUp 85 = .ok (.istore 5, 2) := by decide +kernel
theorem dL_addUp_87 : decode cL_addUp 87 = .ok (.aload_n 0, 1) := by decide +kernel
theorem dL_addUp_88 : decode cL_addUp 88 = .ok (.iload 4, 2) := by decide +kernel
theorem dL_addUp_90 : decode cL_addUp 90 = .ok (.iconst 1, 1) := by decide +kernel
theorem dL_addUp_91 : decode cL_addUp 91 = .ok (.invokevirtual 26, 3) := by decide +kernel
theorem dL_addUp_94 : decode cL_addUp 94 = .ok (.istore 6, 2) := by decide +kernel
theorem dL_addUp_96 : decode cL_addUp 96 = .ok (.aload_n 0, 1) := by decide +kernel
theorem dL_addUp_97 : decode cL_addUp 97 = .ok (.iload 4, 2) := by decide +kernel
theorem dL_addUp_99 : decode cL_addUp 99 = .ok (.iconst 0, 1) := by decide +kernel
theorem dL_addUp_100 : decode cL_addUp 100 = .ok (.invokevirtual 26, 3) := by decide +kernel
theorem dL_addUp_103 : decode cL_addUp 103 = .ok (.ifCond .lt 41, 3) := by decide +kernel
theorem dL_addUp_106 : decode cL_addUp 106 = .ok (.iload 5, 2) := by decide +kernel
theorem dL_addUp_108 : decode cL_addUp 108 = .ok (.iconst 1, 1) := by decide +kernel
theorem dL_addUp_109 : decode cL_addUp 109 = .ok (.if_icmp .lt 35, 3) := by decide +kernel
theorem dL_addUp_112 : decode cL_addUp 112 = .ok (.iload 5, 2) := by decide +kernel
theorem dL_addUp_114 : decode cL_addUp 114 = .ok (.iload_n 1, 1) := by decide +kernel
theorem dL_addUp_115 : decode cL_addUp 115 = .ok (.if_icmp .gt 29, 3) := by decide +kernel
theorem dL_addUp_118 : decode cL_addUp 118 = .ok (.iload 6, 2) := by decide +kernel
theorem dL_addUp_120 : decode cL_addUp 120 = .ok (.ldc 29, 2) := by decide +kernel
theorem dL_addUp_122 : decode cL_addUp 122 = .ok (.if_icmp .ne 7, 3) := by decide +kernel
theorem dL_addUp_125 : decode cL_addUp 125 = .ok (.iconst 1, 1) := by decide +kernel
theorem dL_addUp_126 : decode cL_addUp 126 = .ok (.goto 4, 3) := by decide +kernel
theorem dL_addUp_129 : decode cL_addUp 129 = .ok (.iconst 0, 1) := by decide +kernel
theorem dL_addUp_130 : decode cL_addUp 130 = .ok (.iload 5, 2) := by decide +kernel
theorem dL_addUp_132 : decode cL_addUp 132 = .ok (.iconst 1, 1) := by decide +kernel
theorem dL_addUp_133 : decode cL_addUp 133 = .ok (.if_icmp .ne 7, 3) := by decide +kernel
theorem dL_addUp_136 : decode cL_addUp 136 = .ok (.iconst 1, 1) := by decide +kernel
theorem dL_addUp_137 : decode cL_addUp 137 = .ok (.goto 4, 3) := by decide +kernel
theorem dL_addUp_140 : decode cL_addUp 140 = .ok (.iconst 0, 1) := by decide +kernel
theorem dL_addUp_141 : decode cL_addUp 141 = .ok (.if_icmp .eq 5, 3) := by decide +kernel
theorem dL_addUp_144 : decode cL_addUp 144 = .ok (.iconst 0, 1) := by decide +kernel
theorem dL_addUp_145 : decode cL_addUp 145 = .ok (.ireturn, 1) := by decide +kernel
theorem dL_addUp_146 : decode cL_addUp 146 = .ok (.iinc 4 1, 3) := by decide +kernel
theorem dL_addUp_149 : decode cL_addUp 149 = .ok (.goto (-142), 3) := by decide +kernel
theorem dL_addUp_152 : decode cL_addUp 152 = .ok (.aload_n 0, 1) := by decide +kernel
theorem dL_addUp_153 : decode cL_addUp 153 = .ok (.iconst 4, 1) := by decide +kernel
theorem dL_addUp_154 : decode cL_addUp 154 = .ok (.invokevirtual 39, 3) := by decide +kernel
theorem dL_addUp_157 : decode cL_addUp 157 = .ok (.ifCond .lt 75, 3) := by decide +kernel
theorem dL_addUp_160 : decode cL_addUp 160 = .ok (.aload_n 0, 1) := by decide +kernel
theorem dL_addUp_161 : decode cL_addUp 161 = .ok (.iconst 4, 1) := by decide +kernel
theorem dL_addUp_162 : decode cL_addUp 162 = .ok (.invokevirtual 39, 3) := by decide +kernel
theorem dL_addUp_165 : decode cL_addUp 165 = .ok (.aload_n 0, 1) := by decide +kernel
theorem dL_addUp_166 : decode cL_addUp 166 = .ok (.iconst 5, 1) := by decide +kernel
theorem dL_addUp_167 : decode cL_addUp 167 = .ok (.invokevirtual 39, 3) := by decide +kernel
theorem dL_addUp_170 : decode cL_addUp 170 = .ok (.iadd, 1) := by decide +kernel
theorem dL_addUp_171 : decode cL_addUp 171 = .ok (.aload_n 0, 1) := by decide +kernel
theorem dL_addUp_172 : decode cL_addUp 172 = .ok (.bipush 8, 2) := by decide +kernel
theorem dL_addUp_174 : decode cL_addUp 174 = .ok (.invokevirtual 39, 3) := by decide +kernel
theorem dL_addUp_177 : decode cL_addUp 177 = .ok (.if_icmp .ne 55, 3) := by decide +kernel
theorem dL_addUp_180 : decode cL_addUp 180 = .ok (.aload_n 0, 1) := by decide +kernel
theorem dL_addUp_181 : decode cL_addUp 181 = .ok (.iconst 5, 1) := by decide +kernel
theorem dL_addUp_182 : decode cL_addUp 182 = .ok (.invokevirtual 39, 3) := by decide +kernel
theorem dL_addUp_185 : decode cL_addUp 185 = .ok (.aload_n 0, 1) := by decide +kernel
theorem dL_addUp_186 : decode cL_addUp 186 = .ok (.iload_n 1, 1) := by decide +kernel
theorem dL_addUp_187 : decode cL_addUp 187 = .ok (.iconst 0, 1) := by decide +kernel
theorem dL_addUp_188 : decode cL_addUp 188 = .ok (.invokestatic 42, 3) := by decide +kernel
theorem dL_addUp_191 : decode cL_addUp 191 = .ok (.if_icmp .ne 41, 3) := by decide +kernel
theorem dL_addUp_194 : decode cL_addUp 194 = .ok (.aload_n 0, 1) := by decide +kernel
theorem dL_addUp_195 : decode cL_addUp 195 = .ok (.iconst 1, 1) := by decide +kernel
theorem dL_addUp_196 : decode cL_addUp 196 = .ok (.invokevirtual 39, 3) := by decide +kernel
theorem dL_addUp_199 : decode cL_addUp 199 = .ok (.aload_n 0, 1) := by decide +kernel
theorem dL_addUp_200 : decode cL_addUp 200 = .ok (.iload_n 1, 1) := by decide +kernel
theorem dL_addUp_201 : decode cL_addUp 201 = .ok (.iconst 5, 1) := by decide +kernel
theorem dL_addUp_202 : decode cL_addUp 202 = .ok (.invokestatic 42, 3) := by decide +kernel
theorem dL_addUp_205 : decode cL_addUp 205 = .ok (.if_icmp .ne 27, 3) := by decide +kernel
theorem dL_addUp_208 : decode cL_addUp 208 = .ok (.aload_n 0, 1) := by decide +kernel
theorem dL_addUp_209 : decode cL_addUp 209 = .ok (.bipush 6, 2) := by decide +kernel
theorem dL_addUp_211 : decode cL_addUp 211 = .ok (.invokevirtual 39, 3) := by decide +kernel
theorem dL_addUp_214 : decode cL_addUp 214 = .ok (.iload_n 3, 1) := by decide +kernel
theorem dL_addUp_215 : decode cL_addUp 215 = .ok (.if_icmp .ne 17, 3) := by decide +kernel
theorem dL_addUp_218 : decode cL_addUp 218 = .ok (.aload_n 0, 1) := by decide +kernel
theorem dL_addUp_219 : decode cL_addUp 219 = .ok (.bipush 7, 2) := by decide +kernel
theorem dL_addUp_221 : decode cL_addUp 221 = .ok (.invokevirtual 39, 3) := by decide +kernel
theorem dL_addUp_224 : decode cL_addUp 224 = .ok (.iload_n 2, 1) := by decide +kernel
theorem dL_addUp_225 : decode cL_addUp 225 = .ok (.if_icmp .ne 7, 3) := by decide +kernel
theorem dL_addUp_228 : decode cL_addUp 228 = .ok (.iconst 1, 1) := by decide +kernel
theorem dL_addUp_229 : decode cL_addUp 229 = .ok (.goto 4, 3) := by decide +kernel
theorem dL_addUp_232 : decode cL_addUp 232 = .ok (.iconst 0, 1) := by decide +kernel
theorem dL_addUp_233 : decode cL_addUp 233 = .ok (.ireturn, 1) := by decide +kernel
set_option maxRecDepth 20000 in
theorem ggL_prepare_X5_member : GoodIn wsL_prepare wsX5_member := goodIn_ca (goodIn_ca (goodIn_r _ [5, 6, 7, 8, 9, 10, 11, 12, 13, 14, 15, 16, 17, 18, 19, 20, 21, 22, 4, 23, 24, 25, 26, 27, 28, 29, 30, 31, 87, 88, 89, 90, 91, 92, 93, 94, 95, 96, 97, 98, 99, 100, 101, 102, 103, 104, 105, 106, 107, 108, 109, 110, 111] (by decide +kernel) (by decide +kernel)) (goodIn_sub (fun _ h => List.mem_cons_of_mem _ (List.mem_append_left _ (List.mem_append_left _ (List.mem_append_right _ h)))) (by decide +kernel))) (goodIn_sub (fun _ h => List.mem_cons_of_mem _ (List.mem_append_left _ (List.mem_append_right _ h))) (by decide +kernel))
set_option maxRecDepth 20000 in
theorem gL_prepare_X5_member : GoodIn wsL_prepare (wsV RL 26 RX5 yX5_member wsX5_member) := goodIn_app (goodIn_of _ (by decide +kernel)) ggL_prepare_X5_member
set_option maxRecDepth 20000 in
theorem ggL_prepare_L_low : GoodIn wsL_prepare wsL_low := goodIn_r _ [35, 36] (by decide +kernel) (by decide +kernel)
set_option maxRecDepth 20000 in
theorem gL_prepare_L_low : GoodIn wsL_prepare (va_wsS RL 16 yL_low wsL_low) := goodIn_app (goodIn_of _ (by decide +kernel)) ggL_prepare_L_low
set_option maxRecDepth 20000 in
theorem ggL_prepare_X5_bid : GoodIn wsL_prepare wsX5_bid := goodIn_ca (goodIn_ca (goodIn_ca (goodIn_r _ [40, 41, 42, 8, 43, 11, 20, 21, 22, 4, 23, 24, 25, 26, 27, 28, 29, 30, 31, 44, 45, 46, 6, 7, 47, 48, 49, 50, 51, 52, 53, 54, 55, 56, 57, 58, 59, 60, 61, 62, 63, 64, 65, 66, 67, 68, 69, 70, 71, 72, 73, 74, 75, 76, 77, 78, 79, 80, 81, 82, 87, 88, 89, 90, 91, 92, 93, 94, 95, 96, 97, 98, 99, 100, 101, 102, 103, 104, 105, 106, 107, 108, 109, 110, 111, 112, 113, 114] (by decide +kernel) (by decide +kernel)) (goodIn_sub (fun _ h => List.mem_cons_of_mem _ (List.mem_append_right _ h)) (by decide +kernel))) (goodIn_sub (fun _ h => List.mem_cons_of_mem _ (List.mem_append_left _ (List.mem_append_right _ h))) (by decide +kernel))) (goodIn_sub (fun _ h => List.mem_cons_of_mem _ (List.mem_append_left _ (List.mem_append_left _ (List.mem_append_right _ h)))) (by decide +kernel))
set_option maxRecDepth 20000 in
theorem gL_prepare_X5_bid : GoodIn wsL_prepare (wsV RL 46 RX5 yX5_bid wsX5_bid) := goodIn_app (goodIn_of _ (by decide +kernel)) ggL_prepare_X5_bid
set_option maxRecDepth 20000 in
theorem ggL_prepare_X5_stayAway : GoodIn wsL_prepare wsX5_stayAway := goodIn_ca (goodIn_r _ [86, 43, 8, 12, 20, 21, 22, 4, 23, 24, 25, 26, 27, 28, 29, 30, 31, 53, 54, 55, 56, 57, 58, 59, 60, 61, 62, 63, 64, 65, 66, 67, 68, 69, 70, 71, 72, 73, 74, 75, 76, 52, 51, 77, 78, 79, 80, 81, 82, 87, 88, 89, 90, 91, 92, 93, 94, 95, 96, 97, 98, 99, 100, 101, 102, 103, 104, 105, 106, 107, 108, 109, 110, 111, 112, 113, 114] (by decide +kernel) (by decide +kernel)) (goodIn_sub (fun _ h => List.mem_cons_of_mem _ (List.mem_append_left _ (List.mem_append_right _ h))) (by decide +kernel))
set_option maxRecDepth 20000 in
theorem gL_prepare_X5_stayAway : GoodIn wsL_prepare (wsV RL 49 RX5 yX5_stayAway wsX5_stayAway) := goodIn_app (goodIn_of _ (by decide +kernel)) ggL_prepare_X5_stayAway
theorem dL_prepare_0 : decode cL_prepare 0 = .ok (.iconst 1, 1) := by decide +kernel
theorem dL_prepare_1 : decode cL_prepare 1 = .ok (.istore_n 3, 1) := by decide +kernel
theorem dL_prepare_2 : decode cL_prepare 2 = .ok (.iconst 0, 1) := by decide +kernel
theorem dL_prepare_3 : decode cL_prepare 3 = .ok (.istore 4, 2) := by decide +kernel
theorem dL_prepare_5 : decode cL_prepare 5 = .ok (.iload 4, 2) := by decide +kernel
theorem dL_prepare_7 : decode cL_prepare 7 = .ok (.iload_n 1, 1) := by decide +kernel
theorem dL_prepare_8 : decode cL_prepare 8 = .ok (.if_icmp .ge 156, 3) := by decide +kernel
theorem dL_prepare_11 : decode cL_prepare 11 = .ok (.iload_n 3, 1) := by decide +kernel
theorem dL_prepare_12 : decode cL_prepare 12 = .ok (.ifCond .eq 152, 3) := by decide +kernel
theorem dL_prepare_15 : decode cL_prepare 15 = .ok (.iload_n 2, 1) := by decide +kernel
theorem dL_prepare_16 : decode cL_prepare 16 = .ok (.iconst 3, 1) := by decide +kernel
theorem dL_prepare_17 : decode cL_prepare 17 = .ok (.iload 4, 2) := by decide +kernel
theorem dL_prepare_19 : decode cL_prepare 19 = .ok (.imul, 1) := by decide +kernel
theorem dL_prepare_20 : decode cL_prepare 20 = .ok (.ishr, 1) := by decide +kernel
theorem dL_prepare_21 : decode cL_prepare 21 = .ok (.istore 5, 2) := by decide +kernel
theorem dL_prepare_23 : decode cL_prepare 23 = .ok (.aload_n 0, 1) := by decide +kernel
theorem dL_prepare_24 : decode cL_prepare 24 = .ok (.iload 4, 2) := by decide +kernel
theorem dL_prepare_26 : decode cL_prepare 26 = .ok (.iconst 5, 1) := by decide +kernel
theorem dL_prepare_27 : decode cL_prepare 27 = .ok (.invokevirtual 26, 3) := by decide +kernel
theorem dL_prepare_30 : decode cL_prepare 30 = .ok (.iconst 1, 1) := by decide +kernel
theorem dL_prepare_31 : decode cL_prepare 31 = .ok (.if_icmp .ne 17, 3) := by decide +kernel
theorem dL_prepare_34 : decode cL_prepare 34 = .ok (.aload_n 0, 1) := by decide +kernel
theorem dL_prepare_35 : decode cL_prepare 35 = .ok (.iload 4, 2) := by decide +kernel
theorem dL_prepare_37 : decode cL_prepare 37 = .ok (.iconst 4, 1) := by decide +kernel
theorem dL_prepare_38 : decode cL_prepare 38 = .ok (.invokevirtual 26, 3) := by decide +kernel
theorem dL_prepare_41 : decode cL_prepare 41 = .ok (.ifCond .ne 7, 3) := by decide +kernel
theorem dL_prepare_44 : decode cL_prepare 44 = .ok (.iconst 1, 1) := by decide +kernel
theorem dL_prepare_45 : decode cL_prepare 45 = .ok (.goto 4, 3) := by decide +kernel
theorem dL_prepare_48 : decode cL_prepare 48 = .ok (.iconst 0, 1) := by decide +kernel
theorem dL_prepare_49 : decode cL_prepare 49 = .ok (.istore 6, 2) := by decide +kernel
theorem dL_prepare_51 : decode cL_prepare 51 = .ok (.iload 6, 2) := by decide +kernel
theorem dL_prepare_53 : decode cL_prepare 53 = .ok (.ifCond .eq 52, 3) := by decide +kernel
theorem dL_prepare_56 : decode cL_prepare 56 = .ok (.iload 5, 2) := by decide +kernel
theorem dL_prepare_58 : decode cL_prepare 58 = .ok (.iconst 2, 1) := by decide +kernel
theorem dL_prepare_59 : decode cL_prepare 59 = .ok (.invokestatic 16, 3) := by decide +kernel
theorem dL_prepare_62 : decode cL_prepare 62 = .ok (.ifCond .ne 43, 3) := by decide +kernel
theorem dL_prepare_65 : decode cL_prepare 65 = .ok (.iload 5, 2) := by decide +kernel
theorem dL_prepare_67 : decode cL_prepare 67 = .ok (.iconst 1, 1) := by decide +kernel
theorem dL_prepare_68 : decode cL_prepare 68 = .ok (.ishr, 1) := by decide +kernel
theorem dL_prepare_69 : decode cL_prepare 69 = .ok (.bipush 60, 2) := by decide +kernel
theorem dL_prepare_71 : decode cL_prepare 71 = .ok (.invokestatic 16, 3) := by decide +kernel
theorem dL_prepare_74 : decode cL_prepare 74 = .ok (.istore 7, 2) := by decide +kernel
theorem dL_prepare_76 : decode cL_prepare 76 = .ok (.aload_n 0, 1) := by decide +kernel
theorem dL_prepare_77 : decode cL_prepare 77 = .ok (.iload 4, 2) := by decide +kernel
theorem dL_prepare_79 : decode cL_prepare 79 = .ok (.iload 7, 2) := by decide +kernel
theorem dL_prepare_81 : decode cL_prepare 81 = .ok (.invokevirtual 46, 3) := by decide +kernel
theorem dL_prepare_84 : decode cL_prepare 84 = .ok (.ifCond .ne 19, 3) := by decide +kernel
theorem dL_prepare_87 : decode cL_prepare 87 = .ok (.aload_n 0, 1) := by decide +kernel
theorem dL_prepare_88 : decode cL_prepare 88 = .ok (.iload 4, 2) := by decide +kernel
theorem dL_prepare_90 : decode cL_prepare 90 = .ok (.iconst 2, 1) := by decide +kernel
theorem dL_prepare_91 : decode cL_prepare 91 = .ok (.invokevirtual 26, 3) := by decide +kernel
theorem dL_prepare_94 : decode cL_prepare 94 = .ok (.iload 7, 2) := by decide +kernel
theorem dL_prepare_96 : decode cL_prepare 96 = .ok (.if_icmp .ne 7, 3) := by decide +kernel
theorem dL_prepare_99 : decode cL_prepare 99 = .ok (.iconst 1, 1) := by decide +kernel
theorem dL_prepare_100 : decode cL_prepare 100 = .ok (.goto 4, 3) := by decide +kernel
theorem dL_prepare_103 : decode cL_prepare 103 = .ok (.iconst 0, 1) := by decide +kernel
theorem dL_prepare_104 : decode cL_prepare 104 = .ok (.istore_n 3, 1) := by decide +kernel
theorem dL_prepare_105 : decode cL_prepare 105 = .ok (.iload 5, 2) := by decide +kernel
theorem dL_prepare_107 : decode cL_prepare 107 = .ok (.iconst 2, 1) := by decide +kernel
theorem dL_prepare_108 : decode cL_prepare 108 = .ok (.ishr, 1) := by decide +kernel
theorem dL_prepare_109 : decode cL_prepare 109 = .ok (.bipush 7, 2) := by decide +kernel
theorem dL_prepare_111 : decode cL_prepare 111 = .ok (.invokestatic 16, 3) := by decide +kernel
theorem dL_prepare_114 : decode cL_prepare 114 = .ok (.ifCond .ne 44, 3) := by decide +kernel
theorem dL_prepare_117 : decode cL_prepare 117 = .ok (.aload_n 0, 1) := by decide +kernel
theorem dL_prepare_118 : decode cL_prepare 118 = .ok (.iload 4, 2) := by decide +kernel
theorem dL_prepare_120 : decode cL_prepare 120 = .ok (.iconst 3, 1) := by decide +kernel
theorem dL_prepare_121 : decode cL_prepare 121 = .ok (.invokevirtual 26, 3) := by decide +kernel
theorem dL_prepare_124 : decode cL_prepare 124 = .ok (.ifCond .ne 34, 3) := by decide +kernel
theorem dL_prepare_127 : decode cL_prepare 127 = .ok (.iload_n 3, 1) := by decide +kernel
theorem dL_prepare_128 : decode cL_prepare 128 = .ok (.ifCond .eq 28, 3) := by decide +kernel
theorem dL_prepare_131 : decode cL_prepare 131 = .ok (.aload_n 0, 1) := by decide +kernel
theorem dL_prepare_132 : decode cL_prepare 132 = .ok (.iload 4, 2) := by decide +kernel
theorem dL_prepare_134 : decode cL_prepare 134 = .ok (.iconst 1, 1) := by decide +kernel
theorem dL_prepare_135 : decode cL_prepare 135 = .ok (.invokevirtual 49, 3) := by decide +kernel
theorem dL_prepare_138 : decode cL_prepare 138 = .ok (.ifCond .ne 18, 3) := by decide +kernel
theorem dL_prepare_141 : decode cL_prepare 141 = .ok (.aload_n 0, 1) := by decide +kernel
theorem dL_prepare_142 : decode cL_prepare 142 = .ok (.iload 4, 2) := by decide +kernel
theorem dL_prepare_144 : decode cL_prepare 144 = .ok (.iconst 3, 1) := by decide +kernel
theorem dL_prepare_145 : decode cL_prepare 145 = .ok (.invokevirtual 26, 3) := by decide +kernel
theorem dL_prepare_148 : decode cL_prepare 148 = .ok (.iconst 1, 1) := by decide +kernel
theorem dL_prepare_149 : decode cL_prepare 149 = .ok (.if_icmp .ne 7, 3) := by decide +kernel
theorem dL_prepare_152 : decode cL_prepare 152 = .ok (.iconst 1, 1) := by decide +kernel
theorem dL_prepare_153 : decode cL_prepare 153 = .ok (.goto 4, 3) := by decide +kernel
theorem dL_prepare_156 : decode cL_prepare 156 = .ok (.iconst 0, 1) := by decide +kernel
theorem dL_prepare_157 : decode cL_prepare 157 = .ok (.istore_n 3, 1) := by decide +kernel
theorem dL_prepare_158 : decode cL_prepare 158 = .ok (.iinc 4 1, 3) := by decide +kernel
theorem dL_prepare_161 : decode cL_prepare 161 = .ok (.goto (-156), 3) := by decide +kernel
theorem dL_prepare_164 : decode cL_prepare 164 = .ok (.iload_n 3, 1) := by decide +kernel
theorem dL_prepare_165 : decode cL_prepare 165 = .ok (.ireturn, 1) := by decide +kernel
set_option maxRecDepth 20000 in
theorem ggL_leastBid_X5_leastBid : GoodIn wsL_leastBid wsX5_leastBid := goodIn_ca (goodIn_r _ [6, 7, 8, 9, 10, 11, 12, 13, 14, 5, 15, 16, 17, 18, 19, 20, 21, 22, 23, 24, 25, 26, 27, 28, 29, 30, 31, 32, 33, 34, 35, 36, 37, 38, 39, 40, 41, 42, 43, 44, 45, 46, 47, 48, 49, 50, 51, 52, 53, 54, 55, 56, 57, 58, 59, 60, 61, 62, 63, 64, 65, 66, 67, 68, 69, 70, 71, 72, 73, 74, 75, 76, 77, 78, 79, 80, 81, 82, 83, 84, 85, 86, 87, 88, 89, 90, 91, 92, 93, 94, 95, 96, 97, 98, 99, 100, 101, 178, 179, 180, 181, 182, 183, 184, 185, 186, 187, 188, 189, 190, 191, 192, 193, 194, 195, 196, 197, 198, 199, 200, 201, 202, 203, 204, 205] (by decide +kernel) (by decide +kernel)) (goodIn_sub (fun _ h => List.mem_cons_of_mem _ (List.mem_append_left _ (List.mem_append_left _ (List.mem_append_right _ h)))) (by decide +kernel))
set_option maxRecDepth 20000 in
theorem gL_leastBid_X5_leastBid : GoodIn wsL_leastBid (wsV RL 53 RX5 yX5_leastBid wsX5_leastBid) := goodIn_app (goodIn_of _ (by decide +kernel)) ggL_leastBid_X5_leastBid
set_option maxRecDepth 20000 in
theorem ggL_leastBid_X5_member : GoodIn wsL_leastBid wsX5_member := goodIn_ca (goodIn_ca (goodIn_r _ [105, 106, 107, 8, 108, 109, 11, 110, 111, 112, 113, 114, 115, 116, 117, 12, 13, 14, 5, 15, 16, 17, 18, 19, 20, 21, 22, 23, 178, 179, 180, 181, 182, 183, 184, 185, 186, 187, 188, 189, 190, 191, 192, 193, 194, 195, 196, 197, 198, 199, 200, 201, 202] (by decide +kernel) (by decide +kernel)) (goodIn_sub (fun _ h => List.mem_cons_of_mem _ (List.mem_append_left _ (List.mem_append_right _ h))) (by decide +kernel))) (goodIn_sub (fun _ h => List.mem_cons_of_mem _ (List.mem_append_left _ (List.mem_append_left _ (List.mem_append_right _ h)))) (by decide +kernel))
set_option maxRecDepth 20000 in
theorem gL_leastBid_X5_member : GoodIn wsL_leastBid (wsV RL 26 RX5 yX5_member wsX5_member) := goodIn_app (goodIn_of _ (by decide +kernel)) ggL_leastBid_X5_member
set_option maxRecDepth 20000 in
theorem ggL_leastBid_X5_bid : GoodIn wsL_leastBid wsX5_bid := goodIn_ca (goodIn_ca (goodIn_ca (goodIn_r _ [121, 122, 123, 8, 124, 11, 12, 13, 14, 5, 15, 16, 17, 18, 19, 20, 21, 22, 23, 125, 126, 127, 106, 107, 128, 129, 130, 131, 37, 36, 132, 133, 134, 135, 136, 137, 138, 139, 140, 94, 85, 95, 141, 25, 26, 27, 28, 29, 30, 31, 32, 33, 34, 35, 38, 39, 40, 41, 42, 43, 178, 179, 180, 181, 182, 183, 184, 185, 186, 187, 188, 189, 190, 191, 192, 193, 194, 195, 196, 197, 198, 199, 200, 201, 202, 206, 207, 208] (by decide +kernel) (by decide +kernel)) (goodIn_sub (fun _ h => List.mem_cons_of_mem _ (List.mem_append_right _ h)) (by decide +kernel))) (goodIn_sub (fun _ h => List.mem_cons_of_mem _ (List.mem_append_left _ (List.mem_append_left _ (List.mem_append_right _ h)))) (by decide +kernel))) (goodIn_sub (fun _ h => List.mem_cons_of_mem _ (List.mem_append_left _ (List.mem_append_right _ h))) (by decide +kernel))
set_option maxRecDepth 20000 in
theorem gL_leastBid_X5_bid : GoodIn wsL_leastBid (wsV RL 46 RX5 yX5_bid wsX5_bid) := goodIn_app (goodIn_of _ (by decide +kernel)) ggL_leastBid_X5_bid
set_option maxRecDepth 20000 in
theorem ggL_leastBid_X5_winner : GoodIn wsL_leastBid wsX5_winner := goodIn_r _ [145, 7, 8, 9, 24, 25, 26, 21, 27, 23, 28, 29, 30, 31, 32, 33, 34, 35, 36, 37, 38, 39, 40, 41, 42, 43, 146, 147, 148, 47, 149, 100, 150, 49, 50, 92, 54, 101, 151, 45, 46, 48, 51, 52, 53, 55, 56, 57, 58, 59, 60, 61, 62, 63, 64, 65, 66, 19, 20, 22, 67, 68, 69, 152, 97, 98, 99, 87, 71, 72, 73, 74, 75, 76, 77, 78, 88, 89, 90, 91, 93, 94, 85, 95, 153, 154, 155, 156, 157, 158, 159, 160, 161, 162, 163, 164, 165, 166, 167, 168, 178, 179, 180, 181, 182, 183, 184, 185, 186, 187, 188, 189, 190, 191, 192, 193, 194, 195, 196, 197, 198, 199, 200, 201, 202, 203, 204, 205] (by decide +kernel) (by decide +kernel)
set_option maxRecDepth 20000 in
theorem gL_leastBid_X5_winner : GoodIn wsL_leastBid (wsV RL 56 RX5 yX5_winner wsX5_winner) := goodIn_app (goodIn_of _ (by decide +kernel)) ggL_leastBid_X5_winner
set_option maxRecDepth 20000 in
theorem ggL_leastBid_X5_undo : GoodIn wsL_leastBid wsX5_undo := goodIn_ca (goodIn_r _ [172, 122, 123, 124, 173, 8, 174, 175, 176, 135, 177, 138, 139, 137, 141, 25, 26, 21, 27, 23, 28, 29, 30, 31, 32, 33, 34, 35, 36, 37, 38, 39, 40, 41, 42, 43, 178, 179, 180, 181, 182, 183, 184, 185, 206, 207, 208, 186, 187, 188, 189, 190, 191, 192, 193, 194, 195, 196, 197, 198, 199, 200, 201, 202] (by decide +kernel) (by decide +kernel)) (goodIn_sub (fun _ h => List.mem_cons_of_mem _ (List.mem_append_right _ h)) (by decide +kernel))
set_option maxRecDepth 20000 in
theorem gL_leastBid_X5_undo : GoodIn wsL_leastBid (wsV RL 60 RX5 yX5_undo wsX5_undo) := goodIn_app (goodIn_of _ (by decide +kernel)) ggL_leastBid_X5_undo
theorem dL_leastBid_0 : decode cL_leastBid 0 = .ok (.aload_n 0, 1) := by decide +kernel
theorem dL_leastBid_1 : decode cL_leastBid 1 = .ok (.iload_n 1, 1) := by decide +kernel
theorem dL_leastBid_2 : decode cL_leastBid 2 = .ok (.invokevirtual 53, 3) := by decide +kernel
theorem dL_leastBid_5 : decode cL_leastBid 5 = .ok (.istore_n 2, 1) := by decide +kernel
theorem dL_leastBid_6 : decode cL_leastBid 6 = .ok (.aload_n 0, 1) := by decide +kernel
theorem dL_leastBid_7 : decode cL_leastBid 7 = .ok (.iload_n 1, 1) := by decide +kernel
theorem dL_leastBid_8 : decode cL_leastBid 8 = .ok (.iconst 5, 1) := by decide +kernel
theorem dL_leastBid_9 : decode cL_leastBid 9 = .ok (.invokevirtual 26, 3) := by decide +kernel
theorem dL_leastBid_12 : decode cL_leastBid 12 = .ok (.iconst 1, 1) := by decide +kernel
theorem dL_leastBid_13 : decode cL_leastBid 13 = .ok (.if_icmp .ne 16, 3) := by decide +kernel
theorem dL_leastBid_16 : decode cL_leastBid 16 = .ok (.aload_n 0, 1) := by decide +kernel
theorem dL_leastBid_17 : decode cL_leastBid 17 = .ok (.iload_n 1, 1) := by decide +kernel
theorem dL_leastBid_18 : decode cL_leastBid 18 = .ok (.iconst 4, 1) := by decide +kernel
theorem dL_leastBid_19 : decode cL_leastBid 19 = .ok (.invokevirtual 26, 3) := by decide +kernel
theorem dL_leastBid_22 : decode cL_leastBid 22 = .ok (.ifCond .ne 7, 3) := by decide +kernel
theorem dL_leastBid_25 : decode cL_leastBid 25 = .ok (.iconst 1, 1) := by decide +kernel
theorem dL_leastBid_26 : decode cL_leastBid 26 = .ok (.goto 4, 3) := by decide +kernel
theorem dL_leastBid_29 : decode cL_leastBid 29 = .ok (.iconst 0, 1) := by decide +kernel
theorem dL_leastBid_30 : decode cL_leastBid 30 = .ok (.istore_n 3, 1) := by decide +kernel
theorem dL_leastBid_31 : decode cL_leastBid 31 = .ok (.iload_n 3, 1) := by decide +kernel
theorem dL_leastBid_32 : decode cL_leastBid 32 = .ok (.ifCond .ne 15, 3) := by decide +kernel
theorem dL_leastBid_35 : decode cL_leastBid 35 = .ok (.iload_n 2, 1) := by decide +kernel
theorem dL_leastBid_36 : decode cL_leastBid 36 = .ok (.ldc 29, 2) := by decide +kernel
theorem dL_leastBid_38 : decode cL_leastBid 38 = .ok (.if_icmp .ne 7, 3) := by decide +kernel
theorem dL_leastBid_41 : decode cL_leastBid 41 = .ok (.iconst 1, 1) := by decide +kernel
theorem dL_leastBid_42 : decode cL_leastBid 42 = .ok (.goto 4, 3) := by decide +kernel
theorem dL_leastBid_45 : decode cL_leastBid 45 = .ok (.iconst 0, 1) := by decide +kernel
theorem dL_leastBid_46 : decode cL_leastBid 46 = .ok (.ireturn, 1) := by decide +kernel
theorem dL_leastBid_47 : decode cL_leastBid 47 = .ok (.aload_n 0, 1) := by decide +kernel
theorem dL_leastBid_48 : decode cL_leastBid 48 = .ok (.iload_n 1, 1) := by decide +kernel
theorem dL_leastBid_49 : decode cL_leastBid 49 = .ok (.iconst 2, 1) := by decide +kernel
theorem dL_leastBid_50 : decode cL_leastBid 50 = .ok (.invokevirtual 26, 3) := by decide +kernel
theorem dL_leastBid_53 : decode cL_leastBid 53 = .ok (.istore 4, 2) := by decide +kernel
theorem dL_leastBid_55 : decode cL_leastBid 55 = .ok (.iload_n 2, 1) := by decide +kernel
theorem dL_leastBid_56 : decode cL_leastBid 56 = .ok (.ldc 29, 2) := by decide +kernel
theorem dL_leastBid_58 : decode cL_leastBid 58 = .ok (.if_icmp .ne 37, 3) := by decide +kernel
theorem dL_leastBid_61 : decode cL_leastBid 61 = .ok (.aload_n 0, 1) := by decide +kernel
theorem dL_leastBid_62 : decode cL_leastBid 62 = .ok (.iload_n 1, 1) := by decide +kernel
theorem dL_leastBid_63 : decode cL_leastBid 63 = .ok (.sipush 999, 3) := by decide +kernel
theorem dL_leastBid_66 : decode cL_leastBid 66 = .ok (.invokevirtual 46, 3) := by decide +kernel
theorem dL_leastBid_69 : decode cL_leastBid 69 = .ok (.iload 4, 2) := by decide +kernel
theorem dL_leastBid_71 : decode cL_leastBid 71 = .ok (.if_icmp .ne 22, 3) := by decide +kernel
theorem dL_leastBid_74 : decode cL_leastBid 74 = .ok (.aload_n 0, 1) := by decide +kernel
theorem dL_leastBid_75 : decode cL_leastBid 75 = .ok (.invokevirtual 56, 3) := by decide +kernel
theorem dL_leastBid_78 : decode cL_leastBid 78 = .ok (.iload_n 1, 1) := by decide +kernel
theorem dL_leastBid_79 : decode cL_leastBid 79 = .ok (.if_icmp .eq 14, 3) := by decide +kernel
theorem dL_leastBid_82 : decode cL_leastBid 82 = .ok (.aload_n 0, 1) := by decide +kernel
theorem dL_leastBid_83 : decode cL_leastBid 83 = .ok (.invokevirtual 60, 3) := by decide +kernel
theorem dL_leastBid_86 : decode cL_leastBid 86 = .ok (.ifCond .lt 7, 3) := by decide +kernel
theorem dL_leastBid_89 : decode cL_leastBid 89 = .ok (.iconst 1, 1) := by decide +kernel
theorem dL_leastBid_90 : decode cL_leastBid 90 = .ok (.goto 4, 3) := by decide +kernel
theorem dL_leastBid_93 : decode cL_leastBid 93 = .ok (.iconst 0, 1) := by decide +kernel
