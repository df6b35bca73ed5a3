theorem wsL_law_x0 : ∀ w ∈ (vx_atS RX5 67 "java/lang/IllegalStateException" ["java/lang/RuntimeException", "java/lang/Exception"]).filter goodWord, w ∈ lw_tbl := by decide +kernel
theorem wsL_law_x1 : ∀ w ∈ (vx_atS RX5 120 "java/lang/IllegalArgumentException" ["java/lang/RuntimeException", "java/lang/Exception"]).filter goodWord, w ∈ lw_tbl := by decide +kernel
theorem wsL_law_x2 : ∀ w ∈ (vx_atS RX5 294 "java/lang/IndexOutOfBoundsException" ["java/lang/RuntimeException", "java/lang/Exception"]).filter goodWord, w ∈ lw_tbl := by decide +kernel
theorem wsL_law_in : ∀ w ∈ wsL_law, w ∈ lw_tbl := fun w h => (List.mem_append.mp h).elim (fun h => (List.mem_append.mp h).elim (fun h => (List.mem_append.mp h).elim (fun h => wsL_law_in0 w h) (fun h => wsL_law_x0 w h)) (fun h => wsL_law_x1 w h)) (fun h => wsL_law_x2 w h)
theorem inlX0 : ∀ w ∈ wsX00, w ∈ wsL_law := fun _ h => List.mem_append_left _ (List.mem_append_left _ (List.mem_append_left _ (List.mem_append_left _ (List.mem_append_left _ (List.mem_append_right _ h)))))
theorem inX0 : ∀ w ∈ wsX00, w ∈ lw_tbl := fun w h => wsL_law_in w (inlX0 w h)
theorem inlX1 : ∀ w ∈ wsX10, w ∈ wsL_law := fun _ h => List.mem_append_left _ (List.mem_append_left _ (List.mem_append_left _ (List.mem_append_left _ (List.mem_append_left _ (List.mem_append_left _ (List.mem_append_left _ (List.mem_append_right _ h)))))))
theorem inX1 : ∀ w ∈ wsX10, w ∈ lw_tbl := fun w h => wsL_law_in w (inlX1 w h)
theorem inlX2 : ∀ w ∈ wsX20, w ∈ wsL_law := fun _ h => List.mem_append_left _ (List.mem_append_left _ (List.mem_append_left _ (List.mem_append_left _ (List.mem_append_left _ (List.mem_append_left _ (List.mem_append_right _ h))))))
theorem inX2 : ∀ w ∈ wsX20, w ∈ lw_tbl := fun w h => wsL_law_in w (inlX2 w h)
theorem inlX3 : ∀ w ∈ wsX30, w ∈ wsL_law := fun _ h => List.mem_append_left _ (List.mem_append_left _ (List.mem_append_left _ (List.mem_append_left _ (List.mem_append_left _ (List.mem_append_left _ (List.mem_append_left _ (List.mem_append_left _ (List.mem_append_right _ h))))))))
theorem inX3 : ∀ w ∈ wsX30, w ∈ lw_tbl := fun w h => wsL_law_in w (inlX3 w h)
theorem inlX4 : ∀ w ∈ wsX40, w ∈ wsL_law := fun _ h => List.mem_append_left _ (List.mem_append_left _ (List.mem_append_left _ (List.mem_append_left _ (List.mem_append_right _ h))))
theorem inX4 : ∀ w ∈ wsX40, w ∈ lw_tbl := fun w h => wsL_law_in w (inlX4 w h)
theorem inlX5 : ∀ w ∈ wsX50, w ∈ wsL_law := fun _ h => List.mem_append_left _ (List.mem_append_left _ (List.mem_append_left _ (List.mem_append_left _ (List.mem_append_left _ (List.mem_append_left _ (List.mem_append_left _ (List.mem_append_left _ (List.mem_append_left _ (List.mem_append_left _ (List.mem_append_right _ h))))))))))
theorem inX5 : ∀ w ∈ wsX50, w ∈ lw_tbl := fun w h => wsL_law_in w (inlX5 w h)
theorem inlX6 : ∀ w ∈ wsX60, w ∈ wsL_law := fun _ h => List.mem_append_left _ (List.mem_append_left _ (List.mem_append_left _ (List.mem_append_left _ (List.mem_append_left _ (List.mem_append_left _ (List.mem_append_left _ (List.mem_append_left _ (List.mem_append_left _ (List.mem_append_right _ h)))))))))
theorem inX6 : ∀ w ∈ wsX60, w ∈ lw_tbl := fun w h => wsL_law_in w (inlX6 w h)
theorem inJ9 : ∀ w ∈ wsJ90, w ∈ lw_tbl := by decide +kernel
theorem inJ0 : ∀ w ∈ wsJ00, w ∈ lw_tbl := by decide +kernel
set_option maxRecDepth 20000 in
theorem ggX0_init_X3_init : GoodIn wsX0_init wsX3_init := goodIn_r _ [9, 10, 2, 3, 11, 12, 13, 14, 15, 16, 17, 18, 19, 20, 21, 22, 23, 24, 25, 29, 30, 31, 32, 33, 34, 35, 36, 37, 38, 39, 40, 41, 42, 43, 44, 45] (by decide +kernel) (by decide +kernel)
set_option maxRecDepth 20000 in
theorem gX0_init_X3_init_n17 : GoodIn wsX0_init (wsX3_init) := ggX0_init_X3_init
theorem dX0_init_0 : decode cX0_init 0 = .ok (.aload_n 0, 1) := by decide +kernel
theorem dX0_init_1 : decode cX0_init 1 = .ok (.invokespecial 3, 3) := by decide +kernel
theorem dX0_init_4 : decode cX0_init 4 = .ok (.aload_n 0, 1) := by decide +kernel
theorem dX0_init_5 : decode cX0_init 5 = .ok (.bipush 14, 2) := by decide +kernel
theorem dX0_init_7 : decode cX0_init 7 = .ok (.anewarray 9, 3) := by decide +kernel
theorem dX0_init_10 : decode cX0_init 10 = .ok (.putfield 11, 3) := by decide +kernel
theorem dX0_init_13 : decode cX0_init 13 = .ok (.iconst 0, 1) := by decide +kernel
theorem dX0_init_14 : decode cX0_init 14 = .ok (.istore_n 1, 1) := by decide +kernel
theorem dX0_init_15 : decode cX0_init 15 = .ok (.iload_n 1, 1) := by decide +kernel
theorem dX0_init_16 : decode cX0_init 16 = .ok (.bipush 14, 2) := by decide +kernel
theorem dX0_init_18 : decode cX0_init 18 = .ok (.if_icmp .ge 22, 3) := by decide +kernel
theorem dX0_init_21 : decode cX0_init 21 = .ok (.aload_n 0, 1) := by decide +kernel
theorem dX0_init_22 : decode cX0_init 22 = .ok (.getfield 11, 3) := by decide +kernel
theorem dX0_init_25 : decode cX0_init 25 = .ok (.iload_n 1, 1) := by decide +kernel
theorem dX0_init_26 : decode cX0_init 26 = .ok (.new 9, 3) := by decide +kernel
theorem dX0_init_29 : decode cX0_init 29 = .ok (.dup, 1) := by decide +kernel
theorem dX0_init_30 : decode cX0_init 30 = .ok (.invokespecial 17, 3) := by decide +kernel
theorem dX0_init_33 : decode cX0_init 33 = .ok (.aastore, 1) := by decide +kernel
theorem dX0_init_34 : decode cX0_init 34 = .ok (.iinc 1 1, 3) := by decide +kernel
theorem dX0_init_37 : decode cX0_init 37 = .ok (.goto (-22), 3) := by decide +kernel
theorem dX0_init_40 : decode cX0_init 40 = .ok (.return_, 1) := by decide +kernel
theorem dX0_forgetAll_0 : decode cX0_forgetAll 0 = .ok (.aload_n 0, 1) := by decide +kernel
theorem dX0_forgetAll_1 : decode cX0_forgetAll 1 = .ok (.iconst 0, 1) := by decide +kernel
theorem dX0_forgetAll_2 : decode cX0_forgetAll 2 = .ok (.putfield 18, 3) := by decide +kernel
theorem dX0_forgetAll_5 : decode cX0_forgetAll 5 = .ok (.return_, 1) := by decide +kernel
set_option maxRecDepth 20000 in
theorem ggX0_remember_X3_copyFrom : GoodIn wsX0_remember wsX3_copyFrom := goodIn_r _ [12, 13, 14, 15, 16, 17, 18, 19, 20, 21, 22, 23, 24, 25, 26, 27, 28, 29, 33, 34, 35, 36, 37, 38, 39, 40, 41, 42, 43, 44, 45, 46, 47, 48, 49] (by decide +kernel) (by decide +kernel)
set_option maxRecDepth 20000 in
theorem gX0_remember_X3_copyFrom : GoodIn wsX0_remember (wsV RX0 25 RX3 yX3_copyFrom wsX3_copyFrom) := goodIn_app (goodIn_of _ (by decide +kernel)) ggX0_remember_X3_copyFrom
theorem dX0_remember_0 : decode cX0_remember 0 = .ok (.aload_n 0, 1) := by decide +kernel
theorem dX0_remember_1 : decode cX0_remember 1 = .ok (.getfield 11, 3) := by decide +kernel
theorem dX0_remember_4 : decode cX0_remember 4 = .ok (.aload_n 0, 1) := by decide +kernel
theorem dX0_remember_5 : decode cX0_remember 5 = .ok (.getfield 22, 3) := by decide +kernel
theorem dX0_remember_8 : decode cX0_remember 8 = .ok (.aaload, 1) := by decide +kernel
theorem dX0_remember_9 : decode cX0_remember 9 = .ok (.aload_n 1, 1) := by decide +kernel
theorem dX0_remember_10 : decode cX0_remember 10 = .ok (.invokevirtual 25, 3) := by decide +kernel
theorem dX0_remember_13 : decode cX0_remember 13 = .ok (.aload_n 0, 1) := by decide +kernel
theorem dX0_remember_14 : decode cX0_remember 14 = .ok (.aload_n 0, 1) := by decide +kernel
theorem dX0_remember_15 : decode cX0_remember 15 = .ok (.getfield 22, 3) := by decide +kernel
theorem dX0_remember_18 : decode cX0_remember 18 = .ok (.iconst 1, 1) := by decide +kernel
theorem dX0_remember_19 : decode cX0_remember 19 = .ok (.iadd, 1) := by decide +kernel
theorem dX0_remember_20 : decode cX0_remember 20 = .ok (.bipush 14, 2) := by decide +kernel
theorem dX0_remember_22 : decode cX0_remember 22 = .ok (.if_icmp .ge 12, 3) := by decide +kernel
theorem dX0_remember_25 : decode cX0_remember 25 = .ok (.aload_n 0, 1) := by decide +kernel
theorem dX0_remember_26 : decode cX0_remember 26 = .ok (.getfield 22, 3) := by decide +kernel
theorem dX0_remember_29 : decode cX0_remember 29 = .ok (.iconst 1, 1) := by decide +kernel
theorem dX0_remember_30 : decode cX0_remember 30 = .ok (.iadd, 1) := by decide +kernel
theorem dX0_remember_31 : decode cX0_remember 31 = .ok (.goto 4, 3) := by decide +kernel
theorem dX0_remember_34 : decode cX0_remember 34 = .ok (.iconst 0, 1) := by decide +kernel
theorem dX0_remember_35 : decode cX0_remember 35 = .ok (.putfield 22, 3) := by decide +kernel
theorem dX0_remember_38 : decode cX0_remember 38 = .ok (.aload_n 0, 1) := by decide +kernel
theorem dX0_remember_39 : decode cX0_remember 39 = .ok (.aload_n 0, 1) := by decide +kernel
theorem dX0_remember_40 : decode cX0_remember 40 = .ok (.getfield 18, 3) := by decide +kernel
theorem dX0_remember_43 : decode cX0_remember 43 = .ok (.iconst 1, 1) := by decide +kernel
theorem dX0_remember_44 : decode cX0_remember 44 = .ok (.iadd, 1) := by decide +kernel
theorem dX0_remember_45 : decode cX0_remember 45 = .ok (.bipush 14, 2) := by decide +kernel
theorem dX0_remember_47 : decode cX0_remember 47 = .ok (.invokestatic 29, 3) := by decide +kernel
theorem dX0_remember_50 : decode cX0_remember 50 = .ok (.putfield 18, 3) := by decide +kernel
theorem dX0_remember_53 : decode cX0_remember 53 = .ok (.return_, 1) := by decide +kernel
set_option maxRecDepth 20000 in
theorem ggX0_takeBack_X3_copyFrom : GoodIn wsX0_takeBack wsX3_copyFrom := goodIn_r _ [8, 9, 10, 11, 12, 13, 14, 15, 16, 17, 18, 19, 20, 21, 22, 23, 24, 25, 29, 30, 31, 32, 33, 34, 35, 36, 37, 38, 39, 40, 41, 42, 43, 44, 45] (by decide +kernel) (by decide +kernel)
set_option maxRecDepth 20000 in
theorem gX0_takeBack_X3_copyFrom : GoodIn wsX0_takeBack (wsV RX0 25 RX3 yX3_copyFrom wsX3_copyFrom) := goodIn_app (goodIn_of _ (by decide +kernel)) ggX0_takeBack_X3_copyFrom
theorem dX0_takeBack_0 : decode cX0_takeBack 0 = .ok (.aload_n 0, 1) := by decide +kernel
theorem dX0_takeBack_1 : decode cX0_takeBack 1 = .ok (.aload_n 0, 1) := by decide +kernel
theorem dX0_takeBack_2 : decode cX0_takeBack 2 = .ok (.getfield 22, 3) := by decide +kernel
theorem dX0_takeBack_5 : decode cX0_takeBack 5 = .ok (.ifCond .le 12, 3) := by decide +kernel
theorem dX0_takeBack_8 : decode cX0_takeBack 8 = .ok (.aload_n 0, 1) := by decide +kernel
theorem dX0_takeBack_9 : decode cX0_takeBack 9 = .ok (.getfield 22, 3) := by decide +kernel
theorem dX0_takeBack_12 : decode cX0_takeBack 12 = .ok (.iconst 1, 1) := by decide +kernel
theorem dX0_takeBack_13 : decode cX0_takeBack 13 = .ok (.isub, 1) := by decide +kernel
theorem dX0_takeBack_14 : decode cX0_takeBack 14 = .ok (.goto 5, 3) := by decide +kernel
theorem dX0_takeBack_17 : decode cX0_takeBack 17 = .ok (.bipush 13, 2) := by decide +kernel
theorem dX0_takeBack_19 : decode cX0_takeBack 19 = .ok (.putfield 22, 3) := by decide +kernel
theorem dX0_takeBack_22 : decode cX0_takeBack 22 = .ok (.aload_n 0, 1) := by decide +kernel
theorem dX0_takeBack_23 : decode cX0_takeBack 23 = .ok (.dup, 1) := by decide +kernel
theorem dX0_takeBack_24 : decode cX0_takeBack 24 = .ok (.getfield 18, 3) := by decide +kernel
theorem dX0_takeBack_27 : decode cX0_takeBack 27 = .ok (.iconst 1, 1) := by decide +kernel
theorem dX0_takeBack_28 : decode cX0_takeBack 28 = .ok (.isub, 1) := by decide +kernel
theorem dX0_takeBack_29 : decode cX0_takeBack 29 = .ok (.putfield 18, 3) := by decide +kernel
theorem dX0_takeBack_32 : decode cX0_takeBack 32 = .ok (.aload_n 1, 1) := by decide +kernel
theorem dX0_takeBack_33 : decode cX0_takeBack 33 = .ok (.aload_n 0, 1) := by decide +kernel
theorem dX0_takeBack_34 : decode cX0_takeBack 34 = .ok (.getfield 11, 3) := by decide +kernel
theorem dX0_takeBack_37 : decode cX0_takeBack 37 = .ok (.aload_n 0, 1) := by decide +kernel
theorem dX0_takeBack_38 : decode cX0_takeBack 38 = .ok (.getfield 22, 3) := by decide +kernel
theorem dX0_takeBack_41 : decode cX0_takeBack 41 = .ok (.aaload, 1) := by decide +kernel
theorem dX0_takeBack_42 : decode cX0_takeBack 42 = .ok (.invokevirtual 25, 3) := by decide +kernel
theorem dX0_takeBack_45 : decode cX0_takeBack 45 = .ok (.aload_n 0, 1) := by decide +kernel
theorem dX0_takeBack_46 : decode cX0_takeBack 46 = .ok (.getfield 18, 3) := by decide +kernel
theorem dX0_takeBack_49 : decode cX0_takeBack 49 = .ok (.ireturn, 1) := by decide +kernel
theorem dX1_init_0 : decode cX1_init 0 = .ok (.aload_n 0, 1) := by decide +kernel
theorem dX1_init_1 : decode cX1_init 1 = .ok (.invokespecial 3, 3) := by decide +kernel
theorem dX1_init_4 : decode cX1_init 4 = .ok (.aload_n 0, 1) := by decide +kernel
theorem dX1_init_5 : decode cX1_init 5 = .ok (.bipush 8, 2) := by decide +kernel
theorem dX1_init_7 : decode cX1_init 7 = .ok (.newarray .boolean, 2) := by decide +kernel
theorem dX1_init_9 : decode cX1_init 9 = .ok (.putfield 9, 3) := by decide +kernel
theorem dX1_init_12 : decode cX1_init 12 = .ok (.aload_n 0, 1) := by decide +kernel
theorem dX1_init_13 : decode cX1_init 13 = .ok (.bipush 8, 2) := by decide +kernel
theorem dX1_init_15 : decode cX1_init 15 = .ok (.newarray .boolean, 2) := by decide +kernel
theorem dX1_init_17 : decode cX1_init 17 = .ok (.putfield 15, 3) := by decide +kernel
theorem dX1_init_20 : decode cX1_init 20 = .ok (.return_, 1) := by decide +kernel
set_option maxRecDepth 20000 in
theorem ggX1_pass_X1_payIn : GoodIn wsX1_pass wsX1_payIn := goodIn_r _ [12, 3, 4, 13, 14, 15, 6, 16, 17, 18, 19, 20, 21, 11, 22, 23, 24, 25, 26, 27, 28, 29, 30, 31, 32, 33, 34, 35, 92, 93, 94, 75, 76, 77, 78, 79, 80, 81, 82, 83, 84, 85, 86, 87, 88, 89, 90, 91] (by decide +kernel) (by decide +kernel)
set_option maxRecDepth 20000 in
theorem gX1_pass_X1_payIn : GoodIn wsX1_pass (wsV RX1 18 RX1 yX1_payIn wsX1_payIn) := goodIn_app (goodIn_of _ (by decide +kernel)) ggX1_pass_X1_payIn
set_option maxRecDepth 20000 in
theorem ggX1_pass_X1_taker : GoodIn wsX1_pass wsX1_taker := goodIn_r _ [39, 1, 4, 7, 40, 41, 42, 11, 43, 44, 45, 46, 47, 48, 15, 13, 49, 50, 51, 52, 5, 3, 53, 54, 55, 56, 75, 76, 77, 78, 79, 80, 81, 82, 83, 84, 85, 86, 87, 88, 89, 90, 91, 92, 93, 94] (by decide +kernel) (by decide +kernel)
set_option maxRecDepth 20000 in
theorem gX1_pass_X1_taker : GoodIn wsX1_pass (wsV RX1 22 RX1 yX1_taker wsX1_taker) := goodIn_app (goodIn_of _ (by decide +kernel)) ggX1_pass_X1_taker
set_option maxRecDepth 20000 in
theorem ggX1_pass_X1_share : GoodIn wsX1_pass wsX1_share := goodIn_r _ [60, 4, 16, 61, 2, 45, 46, 47, 11, 48, 15, 13, 49, 50, 51, 52, 5, 3, 53, 54, 55, 56, 75, 76, 77, 78, 79, 80, 81, 82, 83, 84, 85, 86, 87, 88, 89, 90, 91, 92, 93, 94] (by decide +kernel) (by decide +kernel)
set_option maxRecDepth 20000 in
theorem gX1_pass_X1_share : GoodIn wsX1_pass (wsV RX1 36 RX1 yX1_share wsX1_share) := goodIn_app (goodIn_of _ (by decide +kernel)) ggX1_pass_X1_share
set_option maxRecDepth 20000 in
theorem ggX1_pass_X1_payOut : GoodIn wsX1_pass wsX1_payOut := goodIn_r _ [65, 3, 66, 44, 4, 16, 49, 50, 51, 11, 52, 5, 53, 54, 55, 56, 67, 68, 69, 30, 70, 71, 72, 73, 74, 34, 35, 92, 93, 94, 75, 76, 77, 78, 79, 80, 81, 82, 83, 84, 85, 86, 87, 88, 89, 90, 91] (by decide +kernel) (by decide +kernel)
set_option maxRecDepth 20000 in
theorem gX1_pass_X1_payOut : GoodIn wsX1_pass (wsV RX1 40 RX1 yX1_payOut wsX1_payOut) := goodIn_app (goodIn_of _ (by decide +kernel)) ggX1_pass_X1_payOut
theorem dX1_pass_0 : decode cX1_pass 0 = .ok (.aload_n 0, 1) := by decide +kernel
theorem dX1_pass_1 : decode cX1_pass 1 = .ok (.aload_n 1, 1) := by decide +kernel
theorem dX1_pass_2 : decode cX1_pass 2 = .ok (.invokevirtual 18, 3) := by decide +kernel
theorem dX1_pass_5 : decode cX1_pass 5 = .ok (.aload_n 0, 1) := by decide +kernel
theorem dX1_pass_6 : decode cX1_pass 6 = .ok (.aload_n 1, 1) := by decide +kernel
theorem dX1_pass_7 : decode cX1_pass 7 = .ok (.invokevirtual 22, 3) := by decide +kernel
theorem dX1_pass_10 : decode cX1_pass 10 = .ok (.istore_n 2, 1) := by decide +kernel
theorem dX1_pass_11 : decode cX1_pass 11 = .ok (.iload_n 2, 1) := by decide +kernel
theorem dX1_pass_12 : decode cX1_pass 12 = .ok (.ldc 26, 2) := by decide +kernel
theorem dX1_pass_14 : decode cX1_pass 14 = .ok (.if_icmp .ne 19, 3) := by decide +kernel
theorem dX1_pass_17 : decode cX1_pass 17 = .ok (.aload_n 1, 1) := by decide +kernel
theorem dX1_pass_18 : decode cX1_pass 18 = .ok (.dup, 1) := by decide +kernel
theorem dX1_pass_19 : decode cX1_pass 19 = .ok (.getfield 27, 3) := by decide +kernel
theorem dX1_pass_22 : decode cX1_pass 22 = .ok (.aload_n 0, 1) := by decide +kernel
theorem dX1_pass_23 : decode cX1_pass 23 = .ok (.getfield 33, 3) := by decide +kernel
theorem dX1_pass_26 : decode cX1_pass 26 = .ok (.iadd, 1) := by decide +kernel
theorem dX1_pass_27 : decode cX1_pass 27 = .ok (.putfield 27, 3) := by decide +kernel
theorem dX1_pass_30 : decode cX1_pass 30 = .ok (.goto 15, 3) := by decide +kernel
theorem dX1_pass_33 : decode cX1_pass 33 = .ok (.aload_n 0, 1) := by decide +kernel
theorem dX1_pass_34 : decode cX1_pass 34 = .ok (.aload_n 1, 1) := by decide +kernel
theorem dX1_pass_35 : decode cX1_pass 35 = .ok (.iload_n 2, 1) := by decide +kernel
theorem dX1_pass_36 : decode cX1_pass 36 = .ok (.invokevirtual 36, 3) := by decide +kernel
theorem dX1_pass_39 : decode cX1_pass 39 = .ok (.aload_n 0, 1) := by decide +kernel
theorem dX1_pass_40 : decode cX1_pass 40 = .ok (.aload_n 1, 1) := by decide +kernel
theorem dX1_pass_41 : decode cX1_pass 41 = .ok (.iload_n 2, 1) := by decide +kernel
theorem dX1_pass_42 : decode cX1_pass 42 = .ok (.invokevirtual 40, 3) := by decide +kernel
theorem dX1_pass_45 : decode cX1_pass 45 = .ok (.iconst 0, 1) := by decide +kernel
theorem dX1_pass_46 : decode cX1_pass 46 = .ok (.istore_n 3, 1) := by decide +kernel
theorem dX1_pass_47 : decode cX1_pass 47 = .ok (.iload_n 3, 1) := by decide +kernel
theorem dX1_pass_48 : decode cX1_pass 48 = .ok (.aload_n 1, 1) := by decide +kernel
theorem dX1_pass_49 : decode cX1_pass 49 = .ok (.getfield 43, 3) := by decide +kernel
theorem dX1_pass_52 : decode cX1_pass 52 = .ok (.if_icmp .ge 23, 3) := by decide +kernel
theorem dX1_pass_55 : decode cX1_pass 55 = .ok (.aload_n 1, 1) := by decide +kernel
theorem dX1_pass_56 : decode cX1_pass 56 = .ok (.getfield 46, 3) := by decide +kernel
theorem dX1_pass_59 : decode cX1_pass 59 = .ok (.iload_n 3, 1) := by decide +kernel
theorem dX1_pass_60 : decode cX1_pass 60 = .ok (.iconst 0, 1) := by decide +kernel
theorem dX1_pass_61 : decode cX1_pass 61 = .ok (.iastore, 1) := by decide +kernel
theorem dX1_pass_62 : decode cX1_pass 62 = .ok (.aload_n 1, 1) := by decide +kernel
theorem dX1_pass_63 : decode cX1_pass 63 = .ok (.getfield 50, 3) := by decide +kernel
theorem dX1_pass_66 : decode cX1_pass 66 = .ok (.iload_n 3, 1) := by decide +kernel
theorem dX1_pass_67 : decode cX1_pass 67 = .ok (.iconst 0, 1) := by decide +kernel
theorem dX1_pass_68 : decode cX1_pass 68 = .ok (.bastore, 1) := by decide +kernel
theorem dX1_pass_69 : decode cX1_pass 69 = .ok (.iinc 3 1, 3) := by decide +kernel
theorem dX1_pass_72 : decode cX1_pass 72 = .ok (.goto (-25), 3) := by decide +kernel
theorem dX1_pass_75 : decode cX1_pass 75 = .ok (.aload_n 1, 1) := by decide +kernel
theorem dX1_pass_76 : decode cX1_pass 76 = .ok (.dup, 1) := by decide +kernel
theorem dX1_pass_77 : decode cX1_pass 77 = .ok (.getfield 53, 3) := by decide +kernel
theorem dX1_pass_80 : decode cX1_pass 80 = .ok (.iconst 1, 1) := by decide +kernel
theorem dX1_pass_81 : decode cX1_pass 81 = .ok (.iadd, 1) := by decide +kernel
theorem dX1_pass_82 : decode cX1_pass 82 = .ok (.putfield 53, 3) := by decide +kernel
theorem dX1_pass_85 : decode cX1_pass 85 = .ok (.iload_n 2, 1) := by decide +kernel
theorem dX1_pass_86 : decode cX1_pass 86 = .ok (.ireturn, 1) := by decide +kernel
set_option maxRecDepth 20000 in
theorem ggX1_payIn_X1_payForOther : GoodIn wsX1_payIn wsX1_payForOther := goodIn_r _ [14, 15, 4, 7, 8, 16, 17, 1, 3, 18, 19, 20, 21, 22, 23, 24, 25, 26, 27, 31, 32, 33, 34, 35, 36, 37, 38, 39, 40, 41, 42, 43, 44, 45, 46, 47, 28, 29, 30] (by decide +kernel) (by decide +kernel)
set_option maxRecDepth 20000 in
theorem gX1_payIn_X1_payForOther : GoodIn wsX1_payIn (wsV RX1 68 RX1 yX1_payForOther wsX1_payForOther) := goodIn_app (goodIn_of _ (by decide +kernel)) ggX1_payIn_X1_payForOther
theorem dX1_payIn_0 : decode cX1_payIn 0 = .ok (.aload_n 0, 1) := by decide +kernel
theorem dX1_payIn_1 : decode cX1_payIn 1 = .ok (.iconst 0, 1) := by decide +kernel
theorem dX1_payIn_2 : decode cX1_payIn 2 = .ok (.putfield 33, 3) := by decide +kernel
theorem dX1_payIn_5 : decode cX1_payIn 5 = .ok (.iconst 0, 1) := by decide +kernel
theorem dX1_payIn_6 : decode cX1_payIn 6 = .ok (.istore_n 2, 1) := by decide +kernel
theorem dX1_payIn_7 : decode cX1_payIn 7 = .ok (.iload_n 2, 1) := by decide +kernel
theorem dX1_payIn_8 : decode cX1_payIn 8 = .ok (.aload_n 1, 1) := by decide +kernel
theorem dX1_payIn_9 : decode cX1_payIn 9 = .ok (.getfield 43, 3) := by decide +kernel
theorem dX1_payIn_12 : decode cX1_payIn 12 = .ok (.if_icmp .ge 106, 3) := by decide +kernel
theorem dX1_payIn_15 : decode cX1_payIn 15 = .ok (.aload_n 0, 1) := by decide +kernel
theorem dX1_payIn_16 : decode cX1_payIn 16 = .ok (.getfield 15, 3) := by decide +kernel
theorem dX1_payIn_19 : decode cX1_payIn 19 = .ok (.iload_n 2, 1) := by decide +kernel
theorem dX1_payIn_20 : decode cX1_payIn 20 = .ok (.iconst 0, 1) := by decide +kernel
theorem dX1_payIn_21 : decode cX1_payIn 21 = .ok (.bastore, 1) := by decide +kernel
theorem dX1_payIn_22 : decode cX1_payIn 22 = .ok (.aload_n 0, 1) := by decide +kernel
theorem dX1_payIn_23 : decode cX1_payIn 23 = .ok (.getfield 9, 3) := by decide +kernel
theorem dX1_payIn_26 : decode cX1_payIn 26 = .ok (.iload_n 2, 1) := by decide +kernel
theorem dX1_payIn_27 : decode cX1_payIn 27 = .ok (.aload_n 1, 1) := by decide +kernel
theorem dX1_payIn_28 : decode cX1_payIn 28 = .ok (.getfield 56, 3) := by decide +kernel
theorem dX1_payIn_31 : decode cX1_payIn 31 = .ok (.iload_n 2, 1) := by decide +kernel
theorem dX1_payIn_32 : decode cX1_payIn 32 = .ok (.baload, 1) := by decide +kernel
theorem dX1_payIn_33 : decode cX1_payIn 33 = .ok (.ifCond .eq 29, 3) := by decide +kernel
theorem dX1_payIn_36 : decode cX1_payIn 36 = .ok (.aload_n 1, 1) := by decide +kernel
theorem dX1_payIn_37 : decode cX1_payIn 37 = .ok (.getfield 50, 3) := by decide +kernel
theorem dX1_payIn_40 : decode cX1_payIn 40 = .ok (.iload_n 2, 1) := by decide +kernel
theorem dX1_payIn_41 : decode cX1_payIn 41 = .ok (.baload, 1) := by decide +kernel
theorem dX1_payIn_42 : decode cX1_payIn 42 = .ok (.ifCond .ne 20, 3) := by decide +kernel
theorem dX1_payIn_45 : decode cX1_payIn 45 = .ok (.aload_n 1, 1) := by decide +kernel
theorem dX1_payIn_46 : decode cX1_payIn 46 = .ok (.getfield 59, 3) := by decide +kernel
theorem dX1_payIn_49 : decode cX1_payIn 49 = .ok (.iload_n 2, 1) := by decide +kernel
theorem dX1_payIn_50 : decode cX1_payIn 50 = .ok (.iaload, 1) := by decide +kernel
theorem dX1_payIn_51 : decode cX1_payIn 51 = .ok (.aload_n 1, 1) := by decide +kernel
theorem dX1_payIn_52 : decode cX1_payIn 52 = .ok (.getfield 62, 3) := by decide +kernel
theorem dX1_payIn_55 : decode cX1_payIn 55 = .ok (.if_icmp .lt 7, 3) := by decide +kernel
theorem dX1_payIn_58 : decode cX1_payIn 58 = .ok (.iconst 1, 1) := by decide +kernel
theorem dX1_payIn_59 : decode cX1_payIn 59 = .ok (.goto 4, 3) := by decide +kernel
theorem dX1_payIn_62 : decode cX1_payIn 62 = .ok (.iconst 0, 1) := by decide +kernel
theorem dX1_payIn_63 : decode cX1_payIn 63 = .ok (.bastore, 1) := by decide +kernel
theorem dX1_payIn_64 : decode cX1_payIn 64 = .ok (.aload_n 0, 1) := by decide +kernel
theorem dX1_payIn_65 : decode cX1_payIn 65 = .ok (.getfield 9, 3) := by decide +kernel
theorem dX1_payIn_68 : decode cX1_payIn 68 = .ok (.iload_n 2, 1) := by decide +kernel
theorem dX1_payIn_69 : decode cX1_payIn 69 = .ok (.baload, 1) := by decide +kernel
theorem dX1_payIn_70 : decode cX1_payIn 70 = .ok (.ifCond .eq 42, 3) := by decide +kernel
theorem dX1_payIn_73 : decode cX1_payIn 73 = .ok (.aload_n 1, 1) := by decide +kernel
theorem dX1_payIn_74 : decode cX1_payIn 74 = .ok (.getfield 59, 3) := by decide +kernel
theorem dX1_payIn_77 : decode cX1_payIn 77 = .ok (.iload_n 2, 1) := by decide +kernel
theorem dX1_payIn_78 : decode cX1_payIn 78 = .ok (.dup2, 1) := by decide +kernel
theorem dX1_payIn_79 : decode cX1_payIn 79 = .ok (.iaload, 1) := by decide +kernel
theorem dX1_payIn_80 : decode cX1_payIn 80 = .ok (.aload_n 1, 1) := by decide +kernel
theorem dX1_payIn_81 : decode cX1_payIn 81 = .ok (.getfield 62, 3) := by decide +kernel
theorem dX1_payIn_84 : decode cX1_payIn 84 = .ok (.isub, 1) := by decide +kernel
theorem dX1_payIn_85 : decode cX1_payIn 85 = .ok (.iastore, 1) := by decide +kernel
theorem dX1_payIn_86 : decode cX1_payIn 86 = .ok (.aload_n 1, 1) := by decide +kernel
theorem dX1_payIn_87 : decode cX1_payIn 87 = .ok (.getfield 65, 3) := by decide +kernel
theorem dX1_payIn_90 : decode cX1_payIn 90 = .ok (.iload_n 2, 1) := by decide +kernel
theorem dX1_payIn_91 : decode cX1_payIn 91 = .ok (.dup2, 1) := by decide +kernel
theorem dX1_payIn_92 : decode cX1_payIn 92 = .ok (.iaload, 1) := by decide +kernel
theorem dX1_payIn_93 : decode cX1_payIn 93 = .ok (.aload_n 1, 1) := by decide +kernel
theorem dX1_payIn_94 : decode cX1_payIn 94 = .ok (.getfield 62, 3) := by decide +kernel
theorem dX1_payIn_97 : decode cX1_payIn 97 = .ok (.iadd, 1) := by decide +kernel
theorem dX1_payIn_98 : decode cX1_payIn 98 = .ok (.iastore, 1) := by decide +kernel
theorem dX1_payIn_99 : decode cX1_payIn 99 = .ok (.aload_n 0, 1) := by decide +kernel
theorem dX1_payIn_100 : decode cX1_payIn 100 = .ok (.dup, 1) := by decide +kernel
theorem dX1_payIn_101 : decode cX1_payIn 101 = .ok (.getfield 33, 3) := by decide +kernel
theorem dX1_payIn_104 : decode cX1_payIn 104 = .ok (.aload_n 1, 1) := by decide +kernel
theorem dX1_payIn_105 : decode cX1_payIn 105 = .ok (.getfield 62, 3) := by decide +kernel
theorem dX1_payIn_108 : decode cX1_payIn 108 = .ok (.iadd, 1) := by decide +kernel
theorem dX1_payIn_109 : decode cX1_payIn 109 = .ok (.putfield 33, 3) := by decide +kernel
theorem dX1_payIn_112 : decode cX1_payIn 112 = .ok (.iinc 2 1, 3) := by decide +kernel
theorem dX1_payIn_115 : decode cX1_payIn 115 = .ok (.goto (-108), 3) := by decide +kernel
theorem dX1_payIn_118 : decode cX1_payIn 118 = .ok (.iconst 0, 1) := by decide +kernel
theorem dX1_payIn_119 : decode cX1_payIn 119 = .ok (.istore_n 2, 1) := by decide +kernel
theorem dX1_payIn_120 : decode cX1_payIn 120 = .ok (.iload_n 2, 1) := by decide +kernel
theorem dX1_payIn_121 : decode cX1_payIn 121 = .ok (.aload_n 1, 1) := by decide +kernel
theorem dX1_payIn_122 : decode cX1_payIn 122 = .ok (.getfield 43, 3) := by decide +kernel
theorem dX1_payIn_125 : decode cX1_payIn 125 = .ok (.if_icmp .ge 33, 3) := by decide +kernel
theorem dX1_payIn_128 : decode cX1_payIn 128 = .ok (.aload_n 1, 1) := by decide +kernel
theorem dX1_payIn_129 : decode cX1_payIn 129 = .ok (.getfield 56, 3) := by decide +kernel
theorem dX1_payIn_132 : decode cX1_payIn 132 = .ok (.iload_n 2, 1) := by decide +kernel
theorem dX1_payIn_133 : decode cX1_payIn 133 = .ok (.baload, 1) := by decide +kernel
theorem dX1_payIn_134 : decode cX1_payIn 134 = .ok (.ifCond .eq 18, 3) := by decide +kernel
theorem dX1_payIn_137 : decode cX1_payIn 137 = .ok (.aload_n 0, 1) := by decide +kernel
theorem dX1_payIn_138 : decode cX1_payIn 138 = .ok (.getfield 9, 3) := by decide +kernel
theorem dX1_payIn_141 : decode cX1_payIn 141 = .ok (.iload_n 2, 1) := by decide +kernel
theorem dX1_payIn_142 : decode cX1_payIn 142 = .ok (.baload, 1) := by decide +kernel
theorem dX1_payIn_143 : decode cX1_payIn 143 = .ok (.ifCond .ne 9, 3) := by decide +kernel
theorem dX1_payIn_146 : decode cX1_payIn 146 = .ok (.aload_n 0, 1) := by decide +kernel
theorem dX1_payIn_147 : decode cX1_payIn 147 = .ok (.aload_n 1, 1) := by decide +kernel
theorem dX1_payIn_148 : decode cX1_payIn 148 = .ok (.iload_n 2, 1) := by decide +kernel
theorem dX1_payIn_149 : decode cX1_payIn 149 = .ok (.invokevirtual 68, 3) := by decide +kernel
theorem dX1_payIn_152 : decode cX1_payIn 152 = .ok (.iinc 2 1, 3) := by decide +kernel
theorem dX1_payIn_155 : decode cX1_payIn 155 = .ok (.goto (-35), 3) := by decide +kernel
theorem dX1_payIn_158 : decode cX1_payIn 158 = .ok (.return_, 1) := by decide +kernel
set_option maxRecDepth 20000 in
theorem ggX1_payForOther_X3_exists : GoodIn wsX1_payForOther wsX3_exists := goodIn_r _ [14, 15, 19, 20, 21, 22, 23, 24, 25, 26, 27, 28, 29, 30, 31, 32, 33, 34, 35] (by decide +kernel) (by decide +kernel)
set_option maxRecDepth 20000 in
theorem gX1_payForOther_X3_exists : GoodIn wsX1_payForOther (wsV RX1 74 RX3 yX3_exists wsX3_exists) := goodIn_app (goodIn_of _ (by decide +kernel)) ggX1_payForOther_X3_exists
set_option maxRecDepth 20000 in
theorem ggX1_payForOther_X3_pair : GoodIn wsX1_payForOther wsX3_pair := goodIn_r _ [18] (by decide +kernel) (by decide +kernel)
set_option maxRecDepth 20000 in
theorem gX1_payForOther_X3_pair : GoodIn wsX1_payForOther (va_wsS RX1 84 yX3_pair wsX3_pair) := goodIn_app (goodIn_of _ (by decide +kernel)) ggX1_payForOther_X3_pair
theorem dX1_payForOther_0 : decode cX1_payForOther 0 = .ok (.aload_n 1, 1) := by decide +kernel
theorem dX1_payForOther_1 : decode cX1_payForOther 1 = .ok (.getfield 71, 3) := by decide +kernel
theorem dX1_payForOther_4 : decode cX1_payForOther 4 = .ok (.iload_n 2, 1) := by decide +kernel
theorem dX1_payForOther_5 : decode cX1_payForOther 5 = .ok (.iaload, 1) := by decide +kernel
theorem dX1_payForOther_6 : decode cX1_payForOther 6 = .ok (.istore_n 3, 1) := by decide +kernel
theorem dX1_payForOther_7 : decode cX1_payForOther 7 = .ok (.aload_n 1, 1) := by decide +kernel
theorem dX1_payForOther_8 : decode cX1_payForOther 8 = .ok (.iload_n 3, 1) := by decide +kernel
theorem dX1_payForOther_9 : decode cX1_payForOther 9 = .ok (.invokevirtual 74, 3) := by decide +kernel
theorem dX1_payForOther_12 : decode cX1_payForOther 12 = .ok (.ifCond .eq 84, 3) := by decide +kernel
theorem dX1_payForOther_15 : decode cX1_payForOther 15 = .ok (.aload_n 0, 1) := by decide +kernel
theorem dX1_payForOther_16 : decode cX1_payForOther 16 = .ok (.getfield 9, 3) := by decide +kernel
theorem dX1_payForOther_19 : decode cX1_payForOther 19 = .ok (.iload_n 3, 1) := by decide +kernel
theorem dX1_payForOther_20 : decode cX1_payForOther 20 = .ok (.baload, 1) := by decide +kernel
theorem dX1_payForOther_21 : decode cX1_payForOther 21 = .ok (.ifCond .eq 75, 3) := by decide +kernel
theorem dX1_payForOther_24 : decode cX1_payForOther 24 = .ok (.aload_n 1, 1) := by decide +kernel
theorem dX1_payForOther_25 : decode cX1_payForOther 25 = .ok (.getfield 59, 3) := by decide +kernel
theorem dX1_payForOther_28 : decode cX1_payForOther 28 = .ok (.iload_n 3, 1) := by decide +kernel
theorem dX1_payForOther_29 : decode cX1_payForOther 29 = .ok (.iaload, 1) := by decide +kernel
theorem dX1_payForOther_30 : decode cX1_payForOther 30 = .ok (.aload_n 1, 1) := by decide +kernel
theorem dX1_payForOther_31 : decode cX1_payForOther 31 = .ok (.getfield 62, 3) := by decide +kernel
theorem dX1_payForOther_34 : decode cX1_payForOther 34 = .ok (.if_icmp .lt 62, 3) := by decide +kernel
theorem dX1_payForOther_37 : decode cX1_payForOther 37 = .ok (.aload_n 1, 1) := by decide +kernel
theorem dX1_payForOther_38 : decode cX1_payForOther 38 = .ok (.getfield 59, 3) := by decide +kernel
theorem dX1_payForOther_41 : decode cX1_payForOther 41 = .ok (.iload_n 3, 1) := by decide +kernel
theorem dX1_payForOther_42 : decode cX1_payForOther 42 = .ok (.dup2, 1) := by decide +kernel
theorem dX1_payForOther_43 : decode cX1_payForOther 43 = .ok (.iaload, 1) := by decide +kernel
theorem dX1_payForOther_44 : decode cX1_payForOther 44 = .ok (.aload_n 1, 1) := by decide +kernel
theorem dX1_payForOther_45 : decode cX1_payForOther 45 = .ok (.getfield 62, 3) := by decide +kernel
theorem dX1_payForOther_48 : decode cX1_payForOther 48 = .ok (.isub, 1) := by decide +kernel
theorem dX1_payForOther_49 : decode cX1_payForOther 49 = .ok (.iastore, 1) := by decide +kernel
theorem dX1_payForOther_50 : decode cX1_payForOther 50 = .ok (.aload_n 1, 1) := by decide +kernel
theorem dX1_payForOther_51 : decode cX1_payForOther 51 = .ok (.getfield 78, 3) := by decide +kernel
theorem dX1_payForOther_54 : decode cX1_payForOther 54 = .ok (.iload_n 3, 1) := by decide +kernel
theorem dX1_payForOther_55 : decode cX1_payForOther 55 = .ok (.dup2, 1) := by decide +kernel
theorem dX1_payForOther_56 : decode cX1_payForOther 56 = .ok (.iaload, 1) := by decide +kernel
theorem dX1_payForOther_57 : decode cX1_payForOther 57 = .ok (.aload_n 1, 1) := by decide +kernel
theorem dX1_payForOther_58 : decode cX1_payForOther 58 = .ok (.getfield 62, 3) := by decide +kernel
theorem dX1_payForOther_61 : decode cX1_payForOther 61 = .ok (.iadd, 1) := by decide +kernel
theorem dX1_payForOther_62 : decode cX1_payForOther 62 = .ok (.iastore, 1) := by decide +kernel
theorem dX1_payForOther_63 : decode cX1_payForOther 63 = .ok (.aload_n 1, 1) := by decide +kernel
theorem dX1_payForOther_64 : decode cX1_payForOther 64 = .ok (.getfield 81, 3) := by decide +kernel
theorem dX1_payForOther_67 : decode cX1_payForOther 67 = .ok (.iload_n 2, 1) := by decide +kernel
theorem dX1_payForOther_68 : decode cX1_payForOther 68 = .ok (.iload_n 3, 1) := by decide +kernel
theorem dX1_payForOther_69 : decode cX1_payForOther 69 = .ok (.invokestatic 84, 3) := by decide +kernel
theorem dX1_payForOther_72 : decode cX1_payForOther 72 = .ok (.dup2, 1) := by decide +kernel
theorem dX1_payForOther_73 : decode cX1_payForOther 73 = .ok (.iaload, 1) := by decide +kernel
theorem dX1_payForOther_74 : decode cX1_payForOther 74 = .ok (.aload_n 1, 1) := by decide +kernel
theorem dX1_payForOther_75 : decode cX1_payForOther 75 = .ok (.getfield 62, 3) := by decide +kernel
theorem dX1_payForOther_78 : decode cX1_payForOther 78 = .ok (.iadd, 1) := by decide +kernel
theorem dX1_payForOther_79 : decode cX1_payForOther 79 = .ok (.iastore, 1) := by decide +kernel
theorem dX1_payForOther_80 : decode cX1_payForOther 80 = .ok (.aload_n 0, 1) := by decide +kernel
theorem dX1_payForOther_81 : decode cX1_payForOther 81 = .ok (.dup, 1) := by decide +kernel
theorem dX1_payForOther_82 : decode cX1_payForOther 82 = .ok (.getfield 33, 3) := by decide +kernel
theorem dX1_payForOther_85 : decode cX1_payForOther 85 = .ok (.aload_n 1, 1) := by decide +kernel
theorem dX1_payForOther_86 : decode cX1_payForOther 86 = .ok (.getfield 62, 3) := by decide +kernel
theorem dX1_payForOther_89 : decode cX1_payForOther 89 = .ok (.iadd, 1) := by decide +kernel
theorem dX1_payForOther_90 : decode cX1_payForOther 90 = .ok (.putfield 33, 3) := by decide +kernel
theorem dX1_payForOther_93 : decode cX1_payForOther 93 = .ok (.goto 20, 3) := by decide +kernel
theorem dX1_payForOther_96 : decode cX1_payForOther 96 = .ok (.aload_n 0, 1) := by decide +kernel
theorem dX1_payForOther_97 : decode cX1_payForOther 97 = .ok (.getfield 15, 3) := by decide +kernel
theorem dX1_payForOther_100 : decode cX1_payForOther 100 = .ok (.iload_n 2, 1) := by decide +kernel
theorem dX1_payForOther_101 : decode cX1_payForOther 101 = .ok (.iconst 1, 1) := by decide +kernel
theorem dX1_payForOther_102 : decode cX1_payForOther 102 = .ok (.bastore, 1) := by decide +kernel
theorem dX1_payForOther_103 : decode cX1_payForOther 103 = .ok (.aload_n 1, 1) := by decide +kernel
theorem dX1_payForOther_104 : decode cX1_payForOther 104 = .ok (.getfield 88, 3) := by decide +kernel
theorem dX1_payForOther_107 : decode cX1_payForOther 107 = .ok (.iload_n 2, 1) := by decide +kernel
theorem dX1_payForOther_108 : decode cX1_payForOther 108 = .ok (.dup2, 1) := by decide +kernel
theorem dX1_payForOther_109 : decode cX1_payForOther 109 = .ok (.iaload, 1) := by decide +kernel
theorem dX1_payForOther_110 : decode cX1_payForOther 110 = .ok (.iconst 1, 1) := by decide +kernel
theorem dX1_payForOther_111 : decode cX1_payForOther 111 = .ok (.iadd, 1) := by decide +kernel
theorem dX1_payForOther_112 : decode cX1_payForOther 112 = .ok (.iastore, 1) := by decide +kernel
theorem dX1_payForOther_113 : decode cX1_payForOther 113 = .ok (.return_, 1) := by decide +kernel
theorem dX1_takesPart_0 : decode cX1_takesPart 0 = .ok (.aload_n 1, 1) := by decide +kernel
theorem dX1_takesPart_1 : decode cX1_takesPart 1 = .ok (.getfield 56, 3) := by decide +kernel
theorem dX1_takesPart_4 : decode cX1_takesPart 4 = .ok (.iload_n 2, 1) := by decide +kernel
theorem dX1_takesPart_5 : decode cX1_takesPart 5 = .ok (.baload, 1) := by decide +kernel
theorem dX1_takesPart_6 : decode cX1_takesPart 6 = .ok (.ifCond .eq 16, 3) := by decide +kernel
theorem dX1_takesPart_9 : decode cX1_takesPart 9 = .ok (.aload_n 0, 1) := by decide +kernel
theorem dX1_takesPart_10 : decode cX1_takesPart 10 = .ok (.getfield 15, 3) := by decide +kernel
theorem dX1_takesPart_13 : decode cX1_takesPart 13 = .ok (.iload_n 2, 1) := by decide +kernel
theorem dX1_takesPart_14 : decode cX1_takesPart 14 = .ok (.baload, 1) := by decide +kernel
theorem dX1_takesPart_15 : decode cX1_takesPart 15 = .ok (.ifCond .ne 7, 3) := by decide +kernel
theorem dX1_takesPart_18 : decode cX1_takesPart 18 = .ok (.iconst 1, 1) := by decide +kernel
theorem dX1_takesPart_19 : decode cX1_takesPart 19 = .ok (.goto 4, 3) := by decide +kernel
theorem dX1_takesPart_22 : decode cX1_takesPart 22 = .ok (.iconst 0, 1) := by decide +kernel
theorem dX1_takesPart_23 : decode cX1_takesPart 23 = .ok (.ireturn, 1) := by decide +kernel
set_option maxRecDepth 20000 in
theorem ggX1_canTake_X1_takesPart : GoodIn wsX1_canTake wsX1_takesPart := goodIn_r _ [6, 7, 8, 9, 10, 11, 12, 13, 14, 15, 16, 17, 18, 19, 20, 21, 22, 23, 24, 25, 26, 27, 28] (by decide +kernel) (by decide +kernel)
set_option maxRecDepth 20000 in
theorem gX1_canTake_X1_takesPart : GoodIn wsX1_canTake (wsV RX1 91 RX1 yX1_takesPart wsX1_takesPart) := goodIn_app (goodIn_of _ (by decide +kernel)) ggX1_canTake_X1_takesPart
theorem dX1_canTake_0 : decode cX1_canTake 0 = .ok (.aload_n 0, 1) := by decide +kernel
theorem dX1_canTake_1 : decode cX1_canTake 1 = .ok (.aload_n 1, 1) := by decide +kernel
theorem dX1_canTake_2 : decode cX1_canTake 2 = .ok (.iload_n 2, 1) := by decide +kernel
theorem dX1_canTake_3 : decode cX1_canTake 3 = .ok (.invokevirtual 91, 3) := by decide +kernel
theorem dX1_canTake_6 : decode cX1_canTake 6 = .ok (.ifCond .eq 16, 3) := by decide +kernel
theorem dX1_canTake_9 : decode cX1_canTake 9 = .ok (.aload_n 1, 1) := by decide +kernel
theorem dX1_canTake_10 : decode cX1_canTake 10 = .ok (.getfield 95, 3) := by decide +kernel
theorem dX1_canTake_13 : decode cX1_canTake 13 = .ok (.iload_n 2, 1) := by decide +kernel
theorem dX1_canTake_14 : decode cX1_canTake 14 = .ok (.baload, 1) := by decide +kernel
theorem dX1_canTake_15 : decode cX1_canTake 15 = .ok (.ifCond .ne 7, 3) := by decide +kernel
theorem dX1_canTake_18 : decode cX1_canTake 18 = .ok (.iconst 1, 1) := by decide +kernel
theorem dX1_canTake_19 : decode cX1_canTake 19 = .ok (.goto 4, 3) := by decide +kernel
theorem dX1_canTake_22 : decode cX1_canTake 22 = .ok (.iconst 0, 1) := by decide +kernel
theorem dX1_canTake_23 : decode cX1_canTake 23 = .ok (.ireturn, 1) := by decide +kernel
theorem dX1_countedBid_0 : decode cX1_countedBid 0 = .ok (.aload_n 1, 1) := by decide +kernel
theorem dX1_countedBid_1 : decode cX1_countedBid 1 = .ok (.getfield 46, 3) := by decide +kernel
theorem dX1_countedBid_4 : decode cX1_countedBid 4 = .ok (.iload_n 2, 1) := by decide +kernel
theorem dX1_countedBid_5 : decode cX1_countedBid 5 = .ok (.iaload, 1) := by decide +kernel
theorem dX1_countedBid_6 : decode cX1_countedBid 6 = .ok (.aload_n 0, 1) := by decide +kernel
theorem dX1_countedBid_7 : decode cX1_countedBid 7 = .ok (.getfield 33, 3) := by decide +kernel
theorem dX1_countedBid_10 : decode cX1_countedBid 10 = .ok (.iconst 2, 1) := by decide +kernel
theorem dX1_countedBid_11 : decode cX1_countedBid 11 = .ok (.idiv, 1) := by decide +kernel
theorem dX1_countedBid_12 : decode cX1_countedBid 12 = .ok (.invokestatic 98, 3) := by decide +kernel
theorem dX1_countedBid_15 : decode cX1_countedBid 15 = .ok (.ireturn, 1) := by decide +kernel
set_option maxRecDepth 20000 in
theorem ggX1_taker_X1_canTake : GoodIn wsX1_taker wsX1_canTake := goodIn_r _ [8, 9, 10, 11, 12, 7, 13, 14, 15, 26, 27, 28, 29, 30, 31, 32, 33, 34, 35, 36, 37, 38, 39, 40, 41, 42, 43, 44, 45] (by decide +kernel) (by decide +kernel)
set_option maxRecDepth 20000 in
theorem gX1_taker_X1_canTake : GoodIn wsX1_taker (wsV RX1 103 RX1 yX1_canTake wsX1_canTake) := goodIn_app (goodIn_of _ (by decide +kernel)) ggX1_taker_X1_canTake
set_option maxRecDepth 20000 in
theorem ggX1_taker_X1_countedBid : GoodIn wsX1_taker wsX1_countedBid := goodIn_r _ [19, 20, 21, 22, 23, 24, 25, 26, 27, 28, 29, 30, 31, 32, 33, 34, 35, 36, 37, 38, 39, 40, 41, 42, 43, 44, 45] (by decide +kernel) (by decide +kernel)
set_option maxRecDepth 20000 in
theorem gX1_taker_X1_countedBid : GoodIn wsX1_taker (wsV RX1 106 RX1 yX1_countedBid wsX1_countedBid) := goodIn_app (goodIn_of _ (by decide +kernel)) ggX1_taker_X1_countedBid
theorem dX1_taker_0 : decode cX1_taker 0 = .ok (.ldc 26, 2) := by decide +kernel
theorem dX1_taker_2 : decode cX1_taker 2 = .ok (.istore_n 2, 1) := by decide +kernel
theorem dX1_taker_3 : decode cX1_taker 3 = .ok (.aload_n 1, 1) := by decide +kernel
theorem dX1_taker_4 : decode cX1_taker 4 = .ok (.getfield 43, 3) := by decide +kernel
theorem dX1_taker_7 : decode cX1_taker 7 = .ok (.ifCond .le 15, 3) := by decide +kernel
theorem dX1_taker_10 : decode cX1_taker 10 = .ok (.aload_n 1, 1) := by decide +kernel
theorem dX1_taker_11 : decode cX1_taker 11 = .ok (.getfield 53, 3) := by decide +kernel
theorem dX1_taker_14 : decode cX1_taker 14 = .ok (.aload_n 1, 1) := by decide +kernel
theorem dX1_taker_15 : decode cX1_taker 15 = .ok (.getfield 43, 3) := by decide +kernel
theorem dX1_taker_18 : decode cX1_taker 18 = .ok (.irem, 1) := by decide +kernel
theorem dX1_taker_19 : decode cX1_taker 19 = .ok (.goto 4, 3) := by decide +kernel
theorem dX1_taker_22 : decode cX1_taker 22 = .ok (.iconst 0, 1) := by decide +kernel
theorem dX1_taker_23 : decode cX1_taker 23 = .ok (.istore_n 3, 1) := by decide +kernel
theorem dX1_taker_24 : decode cX1_taker 24 = .ok (.iconst 0, 1) := by decide +kernel
theorem dX1_taker_25 : decode cX1_taker 25 = .ok (.istore 4, 2) := by decide +kernel
theorem dX1_taker_27 : decode cX1_taker 27 = .ok (.iload 4, 2) := by decide +kernel
theorem dX1_taker_29 : decode cX1_taker 29 = .ok (.aload_n 1, 1) := by decide +kernel
theorem dX1_taker_30 : decode cX1_taker 30 = .ok (.getfield 43, 3) := by decide +kernel
theorem dX1_taker_33 : decode cX1_taker 33 = .ok (.if_icmp .ge 73, 3) := by decide +kernel
theorem dX1_taker_36 : decode cX1_taker 36 = .ok (.iload_n 3, 1) := by decide +kernel
theorem dX1_taker_37 : decode cX1_taker 37 = .ok (.iload 4, 2) := by decide +kernel
theorem dX1_taker_39 : decode cX1_taker 39 = .ok (.iadd, 1) := by decide +kernel
theorem dX1_taker_40 : decode cX1_taker 40 = .ok (.aload_n 1, 1) := by decide +kernel
theorem dX1_taker_41 : decode cX1_taker 41 = .ok (.getfield 43, 3) := by decide +kernel
theorem dX1_taker_44 : decode cX1_taker 44 = .ok (.if_icmp .ge 10, 3) := by decide +kernel
theorem dX1_taker_47 : decode cX1_taker 47 = .ok (.iload_n 3, 1) := by decide +kernel
theorem dX1_taker_48 : decode cX1_taker 48 = .ok (.iload 4, 2) := by decide +kernel
theorem dX1_taker_50 : decode cX1_taker 50 = .ok (.iadd, 1) := by decide +kernel
theorem dX1_taker_51 : decode cX1_taker 51 = .ok (.goto 12, 3) := by decide +kernel
theorem dX1_taker_54 : decode cX1_taker 54 = .ok (.iload_n 3, 1) := by decide +kernel
theorem dX1_taker_55 : decode cX1_taker 55 = .ok (.iload 4, 2) := by decide +kernel
theorem dX1_taker_57 : decode cX1_taker 57 = .ok (.iadd, 1) := by decide +kernel
theorem dX1_taker_58 : decode cX1_taker 58 = .ok (.aload_n 1, 1) := by decide +kernel
theorem dX1_taker_59 : decode cX1_taker 59 = .ok (.getfield 43, 3) := by decide +kernel
theorem dX1_taker_62 : decode cX1_taker 62 = .ok (.isub, 1) := by decide +kernel
theorem dX1_taker_63 : decode cX1_taker 63 = .ok (.istore 5, 2) := by decide +kernel
theorem dX1_taker_65 : decode cX1_taker 65 = .ok (.aload_n 0, 1) := by decide +kernel
theorem dX1_taker_66 : decode cX1_taker 66 = .ok (.aload_n 1, 1) := by decide +kernel
theorem dX1_taker_67 : decode cX1_taker 67 = .ok (.iload 5, 2) := by decide +kernel
theorem dX1_taker_69 : decode cX1_taker 69 = .ok (.invokevirtual 103, 3) := by decide +kernel
theorem dX1_taker_72 : decode cX1_taker 72 = .ok (.ifCond .eq 28, 3) := by decide +kernel
theorem dX1_taker_75 : decode cX1_taker 75 = .ok (.iload_n 2, 1) := by decide +kernel
theorem dX1_taker_76 : decode cX1_taker 76 = .ok (.ldc 26, 2) := by decide +kernel
theorem dX1_taker_78 : decode cX1_taker 78 = .ok (.if_icmp .eq 19, 3) := by decide +kernel
theorem dX1_taker_81 : decode cX1_taker 81 = .ok (.aload_n 0, 1) := by decide +kernel
theorem dX1_taker_82 : decode cX1_taker 82 = .ok (.aload_n 1, 1) := by decide +kernel
theorem dX1_taker_83 : decode cX1_taker 83 = .ok (.iload 5, 2) := by decide +kernel
theorem dX1_taker_85 : decode cX1_taker 85 = .ok (.invokevirtual 106, 3) := by decide +kernel
theorem dX1_taker_88 : decode cX1_taker 88 = .ok (.aload_n 0, 1) := by decide +kernel
theorem dX1_taker_89 : decode cX1_taker 89 = .ok (.aload_n 1, 1) := by decide +kernel
theorem dX1_taker_90 : decode cX1_taker 90 = .ok (.iload_n 2, 1) := by decide +kernel
theorem dX1_taker_91 : decode cX1_taker 91 = .ok (.invokevirtual 106, 3) := by decide +kernel
theorem dX1_taker_94 : decode cX1_taker 94 = .ok (.if_icmp .le 6, 3) := by decide +kernel
theorem dX1_taker_97 : decode cX1_taker 97 = .ok (.iload 5, 2) := by decide +kernel
theorem dX1_taker_99 : decode cX1_taker 99 = .ok (.istore_n 2, 1) := by decide +kernel
theorem dX1_taker_100 : decode cX1_taker 100 = .ok (.iinc 4 1, 3) := by decide +kernel
theorem dX1_taker_103 : decode cX1_taker 103 = .ok (.goto (-76), 3) := by decide +kernel
theorem dX1_taker_106 : decode cX1_taker 106 = .ok (.iload_n 2, 1) := by decide +kernel
theorem dX1_taker_107 : decode cX1_taker 107 = .ok (.ireturn, 1) := by decide +kernel
set_option maxRecDepth 20000 in
theorem ggX1_greatestBidBeside_X1_canTake : GoodIn wsX1_greatestBidBeside wsX1_canTake := goodIn_r _ [10, 11, 12, 13, 14, 9, 15, 16, 17, 27, 28, 29, 30, 31, 32, 33, 34, 35, 36, 37, 38, 39, 40, 41, 42, 43, 44, 45, 46] (by decide +kernel) (by decide +kernel)
set_option maxRecDepth 20000 in
theorem gX1_greatestBidBeside_X1_canTake : GoodIn wsX1_greatestBidBeside (wsV RX1 103 RX1 yX1_canTake wsX1_canTake) := goodIn_app (goodIn_of _ (by decide +kernel)) ggX1_greatestBidBeside_X1_canTake
set_option maxRecDepth 20000 in
theorem ggX1_greatestBidBeside_X1_countedBid : GoodIn wsX1_greatestBidBeside wsX1_countedBid := goodIn_r _ [21, 22, 23, 24, 25, 4, 26, 27, 28, 29, 30, 31, 32, 33, 34, 35, 36, 37, 38, 39, 40, 41, 42, 43, 44, 45, 46] (by decide +kernel) (by decide +kernel)
set_option maxRecDepth 20000 in
theorem gX1_greatestBidBeside_X1_countedBid : GoodIn wsX1_greatestBidBeside (wsV RX1 106 RX1 yX1_countedBid wsX1_countedBid) := goodIn_app (goodIn_of _ (by decide +kernel)) ggX1_greatestBidBeside_X1_countedBid
theorem dX1_greatestBidBeside_0 : decode cX1_greatestBidBeside 0 = .ok (.iconst 0, 1) := by decide +kernel
theorem dX1_greatestBidBeside_1 : decode cX1_greatestBidBeside 1 = .ok (.istore_n 3, 1) := by decide +kernel
theorem dX1_greatestBidBeside_2 : decode cX1_greatestBidBeside 2 = .ok (.iconst 0, 1) := by decide +kernel
theorem dX1_greatestBidBeside_3 : decode cX1_greatestBidBeside 3 = .ok (.istore 4, 2) := by decide +kernel
theorem dX1_greatestBidBeside_5 : decode cX1_greatestBidBeside 5 = .ok (.iload 4, 2) := by decide +kernel
theorem dX1_greatestBidBeside_7 : decode cX1_greatestBidBeside 7 = .ok (.aload_n 1, 1) := by decide +kernel
theorem dX1_greatestBidBeside_8 : decode cX1_greatestBidBeside 8 = .ok (.getfield 43, 3) := by decide +kernel
theorem dX1_greatestBidBeside_11 : decode cX1_greatestBidBeside 11 = .ok (.if_icmp .ge 37, 3) := by decide +kernel
theorem dX1_greatestBidBeside_14 : decode cX1_greatestBidBeside 14 = .ok (.iload 4, 2) := by decide +kernel
theorem dX1_greatestBidBeside_16 : decode cX1_greatestBidBeside 16 = .ok (.iload_n 2, 1) := by decide +kernel
theorem dX1_greatestBidBeside_17 : decode cX1_greatestBidBeside 17 = .ok (.if_icmp .eq 25, 3) := by decide +kernel
theorem dX1_greatestBidBeside_20 : decode cX1_greatestBidBeside 20 = .ok (.aload_n 0, 1) := by decide +kernel
theorem dX1_greatestBidBeside_21 : decode cX1_greatestBidBeside 21 = .ok (.aload_n 1, 1) := by decide +kernel
theorem dX1_greatestBidBeside_22 : decode cX1_greatestBidBeside 22 = .ok (.iload 4, 2) := by decide +kernel
theorem dX1_greatestBidBeside_24 : decode cX1_greatestBidBeside 24 = .ok (.invokevirtual 103, 3) := by decide +kernel
theorem dX1_greatestBidBeside_27 : decode cX1_greatestBidBeside 27 = .ok (.ifCond .eq 15, 3) := by decide +kernel
theorem dX1_greatestBidBeside_30 : decode cX1_greatestBidBeside 30 = .ok (.iload_n 3, 1) := by decide +kernel
theorem dX1_greatestBidBeside_31 : decode cX1_greatestBidBeside 31 = .ok (.aload_n 0, 1) := by decide +kernel
theorem dX1_greatestBidBeside_32 : decode cX1_greatestBidBeside 32 = .ok (.aload_n 1, 1) := by decide +kernel
theorem dX1_greatestBidBeside_33 : decode cX1_greatestBidBeside 33 = .ok (.iload 4, 2) := by decide +kernel
theorem dX1_greatestBidBeside_35 : decode cX1_greatestBidBeside 35 = .ok (.invokevirtual 106, 3) := by decide +kernel
theorem dX1_greatestBidBeside_38 : decode cX1_greatestBidBeside 38 = .ok (.invokestatic 110, 3) := by decide +kernel
theorem dX1_greatestBidBeside_41 : decode cX1_greatestBidBeside 41 = .ok (.istore_n 3, 1) := by decide +kernel
theorem dX1_greatestBidBeside_42 : decode cX1_greatestBidBeside 42 = .ok (.iinc 4 1, 3) := by decide +kernel
theorem dX1_greatestBidBeside_45 : decode cX1_greatestBidBeside 45 = .ok (.goto (-40), 3) := by decide +kernel
theorem dX1_greatestBidBeside_48 : decode cX1_greatestBidBeside 48 = .ok (.iload_n 3, 1) := by decide +kernel
theorem dX1_greatestBidBeside_49 : decode cX1_greatestBidBeside 49 = .ok (.ireturn, 1) := by decide +kernel
set_option maxRecDepth 20000 in
theorem ggX1_share_X1_takesPart : GoodIn wsX1_share wsX1_takesPart := goodIn_r _ [9, 10, 11, 22, 23, 24, 25, 26, 27, 28, 29, 30, 31, 32, 33, 34, 35, 36, 37, 38, 39, 40, 41] (by decide +kernel) (by decide +kernel)
set_option maxRecDepth 20000 in
theorem gX1_share_X1_takesPart : GoodIn wsX1_share (wsV RX1 91 RX1 yX1_takesPart wsX1_takesPart) := goodIn_app (goodIn_of _ (by decide +kernel)) ggX1_share_X1_takesPart
set_option maxRecDepth 20000 in
theorem ggX1_share_X1_countedBid : GoodIn wsX1_share wsX1_countedBid := goodIn_r _ [15, 16, 17, 18, 19, 20, 21, 22, 23, 24, 25, 26, 27, 28, 29, 30, 31, 32, 33, 34, 35, 36, 37, 38, 39, 40, 41] (by decide +kernel) (by decide +kernel)
set_option maxRecDepth 20000 in
theorem gX1_share_X1_countedBid : GoodIn wsX1_share (wsV RX1 106 RX1 yX1_countedBid wsX1_countedBid) := goodIn_app (goodIn_of _ (by decide +kernel)) ggX1_share_X1_countedBid
theorem dX1_share_0 : decode cX1_share 0 = .ok (.iconst 0, 1) := by decide +kernel
theorem dX1_share_1 : decode cX1_share 1 = .ok (.istore_n 3, 1) := by decide +kernel
theorem dX1_share_2 : decode cX1_share 2 = .ok (.iconst 0, 1) := by decide +kernel
theorem dX1_share_3 : decode cX1_share 3 = .ok (.istore 4, 2) := by decide +kernel
theorem dX1_share_5 : decode cX1_share 5 = .ok (.iload 4, 2) := by decide +kernel
theorem dX1_share_7 : decode cX1_share 7 = .ok (.aload_n 1, 1) := by decide +kernel
theorem dX1_share_8 : decode cX1_share 8 = .ok (.getfield 43, 3) := by decide +kernel
theorem dX1_share_11 : decode cX1_share 11 = .ok (.if_icmp .ge 28, 3) := by decide +kernel
theorem dX1_share_14 : decode cX1_share 14 = .ok (.iload 4, 2) := by decide +kernel
theorem dX1_share_16 : decode cX1_share 16 = .ok (.iload_n 2, 1) := by decide +kernel
theorem dX1_share_17 : decode cX1_share 17 = .ok (.if_icmp .eq 16, 3) := by decide +kernel
theorem dX1_share_20 : decode cX1_share 20 = .ok (.aload_n 0, 1) := by decide +kernel
theorem dX1_share_21 : decode cX1_share 21 = .ok (.aload_n 1, 1) := by decide +kernel
theorem dX1_share_22 : decode cX1_share 22 = .ok (.iload 4, 2) := by decide +kernel
theorem dX1_share_24 : decode cX1_share 24 = .ok (.invokevirtual 91, 3) := by decide +kernel
theorem dX1_share_27 : decode cX1_share 27 = .ok (.ifCond .eq 6, 3) := by decide +kernel
theorem dX1_share_30 : decode cX1_share 30 = .ok (.iinc 3 1, 3) := by decide +kernel
theorem dX1_share_33 : decode cX1_share 33 = .ok (.iinc 4 1, 3) := by decide +kernel
theorem dX1_share_36 : decode cX1_share 36 = .ok (.goto (-31), 3) := by decide +kernel
theorem dX1_share_39 : decode cX1_share 39 = .ok (.aload_n 0, 1) := by decide +kernel
theorem dX1_share_40 : decode cX1_share 40 = .ok (.aload_n 1, 1) := by decide +kernel
theorem dX1_share_41 : decode cX1_share 41 = .ok (.iload_n 2, 1) := by decide +kernel
theorem dX1_share_42 : decode cX1_share 42 = .ok (.invokevirtual 106, 3) := by decide +kernel
theorem dX1_share_45 : decode cX1_share 45 = .ok (.istore 4, 2) := by decide +kernel
theorem dX1_share_47 : decode cX1_share 47 = .ok (.iload_n 3, 1) := by decide +kernel
theorem dX1_share_48 : decode cX1_share 48 = .ok (.ifCond .le 10, 3) := by decide +kernel
theorem dX1_share_51 : decode cX1_share 51 = .ok (.iload 4, 2) := by decide +kernel
theorem dX1_share_53 : decode cX1_share 53 = .ok (.iload_n 3, 1) := by decide +kernel
theorem dX1_share_54 : decode cX1_share 54 = .ok (.idiv, 1) := by decide +kernel
theorem dX1_share_55 : decode cX1_share 55 = .ok (.goto 4, 3) := by decide +kernel
theorem dX1_share_58 : decode cX1_share 58 = .ok (.iconst 0, 1) := by decide +kernel
theorem dX1_share_59 : decode cX1_share 59 = .ok (.istore 5, 2) := by decide +kernel
theorem dX1_share_61 : decode cX1_share 61 = .ok (.iconst 0, 1) := by decide +kernel
theorem dX1_share_62 : decode cX1_share 62 = .ok (.istore 6, 2) := by decide +kernel
theorem dX1_share_64 : decode cX1_share 64 = .ok (.iload 6, 2) := by decide +kernel
theorem dX1_share_66 : decode cX1_share 66 = .ok (.aload_n 1, 1) := by decide +kernel
theorem dX1_share_67 : decode cX1_share 67 = .ok (.getfield 43, 3) := by decide +kernel
theorem dX1_share_70 : decode cX1_share 70 = .ok (.if_icmp .ge 49, 3) := by decide +kernel
theorem dX1_share_73 : decode cX1_share 73 = .ok (.iload 6, 2) := by decide +kernel
theorem dX1_share_75 : decode cX1_share 75 = .ok (.iload_n 2, 1) := by decide +kernel
theorem dX1_share_76 : decode cX1_share 76 = .ok (.if_icmp .eq 37, 3) := by decide +kernel
theorem dX1_share_79 : decode cX1_share 79 = .ok (.aload_n 0, 1) := by decide +kernel
theorem dX1_share_80 : decode cX1_share 80 = .ok (.aload_n 1, 1) := by decide +kernel
theorem dX1_share_81 : decode cX1_share 81 = .ok (.iload 6, 2) := by decide +kernel
theorem dX1_share_83 : decode cX1_share 83 = .ok (.invokevirtual 91, 3) := by decide +kernel
theorem dX1_share_86 : decode cX1_share 86 = .ok (.ifCond .eq 27, 3) := by decide +kernel
theorem dX1_share_89 : decode cX1_share 89 = .ok (.aload_n 1, 1) := by decide +kernel
theorem dX1_share_90 : decode cX1_share 90 = .ok (.getfield 59, 3) := by decide +kernel
theorem dX1_share_93 : decode cX1_share 93 = .ok (.iload 6, 2) := by decide +kernel
theorem dX1_share_95 : decode cX1_share 95 = .ok (.dup2, 1) := by decide +kernel
theorem dX1_share_96 : decode cX1_share 96 = .ok (.iaload, 1) := by decide +kernel
theorem dX1_share_97 : decode cX1_share 97 = .ok (.iload 5, 2) := by decide +kernel
theorem dX1_share_99 : decode cX1_share 99 = .ok (.iadd, 1) := by decide +kernel
theorem dX1_share_100 : decode cX1_share 100 = .ok (.iastore, 1) := by decide +kernel
theorem dX1_share_101 : decode cX1_share 101 = .ok (.aload_n 1, 1) := by decide +kernel
theorem dX1_share_102 : decode cX1_share 102 = .ok (.getfield 113, 3) := by decide +kernel
theorem dX1_share_105 : decode cX1_share 105 = .ok (.iload 6, 2) := by decide +kernel
theorem dX1_share_107 : decode cX1_share 107 = .ok (.dup2, 1) := by decide +kernel
theorem dX1_share_108 : decode cX1_share 108 = .ok (.iaload, 1) := by decide +kernel
theorem dX1_share_109 : decode cX1_share 109 = .ok (.iload 5, 2) := by decide +kernel
theorem dX1_share_111 : decode cX1_share 111 = .ok (.iadd, 1) := by decide +kernel
theorem dX1_share_112 : decode cX1_share 112 = .ok (.iastore, 1) := by decide +kernel
theorem dX1_share_113 : decode cX1_share 113 = .ok (.iinc 6 1, 3) := by decide +kernel
theorem dX1_share_116 : decode cX1_share 116 = .ok (.goto (-52), 3) := by decide +kernel
theorem dX1_share_119 : decode cX1_share 119 = .ok (.aload_n 1, 1) := by decide +kernel
theorem dX1_share_120 : decode cX1_share 120 = .ok (.dup, 1) := by decide +kernel
theorem dX1_share_121 : decode cX1_share 121 = .ok (.getfield 27, 3) := by decide +kernel
theorem dX1_share_124 : decode cX1_share 124 = .ok (.iload 4, 2) := by decide +kernel
theorem dX1_share_126 : decode cX1_share 126 = .ok (.iload 5, 2) := by decide +kernel
theorem dX1_share_128 : decode cX1_share 128 = .ok (.iload_n 3, 1) := by decide +kernel
theorem dX1_share_129 : decode cX1_share 129 = .ok (.imul, 1) := by decide +kernel
theorem dX1_share_130 : decode cX1_share 130 = .ok (.isub, 1) := by decide +kernel
theorem dX1_share_131 : decode cX1_share 131 = .ok (.iadd, 1) := by decide +kernel
theorem dX1_share_132 : decode cX1_share 132 = .ok (.putfield 27, 3) := by decide +kernel
theorem dX1_share_135 : decode cX1_share 135 = .ok (.return_, 1) := by decide +kernel
set_option maxRecDepth 20000 in
theorem ggX1_payOut_X1_countedBid : GoodIn wsX1_payOut wsX1_countedBid := goodIn_r _ [10, 11, 1, 12, 13, 14, 15, 30, 31, 32, 33, 34, 35, 36, 37, 38, 39, 40, 41, 42, 43, 44, 45, 46, 27, 28, 29] (by decide +kernel) (by decide +kernel)
set_option maxRecDepth 20000 in
theorem gX1_payOut_X1_countedBid : GoodIn wsX1_payOut (wsV RX1 106 RX1 yX1_countedBid wsX1_countedBid) := goodIn_app (goodIn_of _ (by decide +kernel)) ggX1_payOut_X1_countedBid
set_option maxRecDepth 20000 in
theorem ggX1_payOut_X3_settle : GoodIn wsX1_payOut wsX3_settle := goodIn_r _ [20, 21, 22, 13, 14, 15, 23, 24, 25, 19, 26, 30, 31, 32, 33, 34, 35, 36, 37, 38, 39, 40, 41, 42, 43, 44, 45, 46] (by decide +kernel) (by decide +kernel)
set_option maxRecDepth 20000 in
theorem gX1_payOut_X3_settle : GoodIn wsX1_payOut (wsV RX1 119 RX3 yX3_settle wsX3_settle) := goodIn_app (goodIn_of _ (by decide +kernel)) ggX1_payOut_X3_settle
theorem dX1_payOut_0 : decode cX1_payOut 0 = .ok (.aload_n 0, 1) := by decide +kernel
theorem dX1_payOut_1 : decode cX1_payOut 1 = .ok (.getfield 33, 3) := by decide +kernel
theorem dX1_payOut_4 : decode cX1_payOut 4 = .ok (.aload_n 0, 1) := by decide +kernel
theorem dX1_payOut_5 : decode cX1_payOut 5 = .ok (.aload_n 1, 1) := by decide +kernel
theorem dX1_payOut_6 : decode cX1_payOut 6 = .ok (.iload_n 2, 1) := by decide +kernel
theorem dX1_payOut_7 : decode cX1_payOut 7 = .ok (.invokevirtual 106, 3) := by decide +kernel
theorem dX1_payOut_10 : decode cX1_payOut 10 = .ok (.isub, 1) := by decide +kernel
theorem dX1_payOut_11 : decode cX1_payOut 11 = .ok (.istore_n 3, 1) := by decide +kernel
theorem dX1_payOut_12 : decode cX1_payOut 12 = .ok (.aload_n 1, 1) := by decide +kernel
theorem dX1_payOut_13 : decode cX1_payOut 13 = .ok (.getfield 116, 3) := by decide +kernel
theorem dX1_payOut_16 : decode cX1_payOut 16 = .ok (.iload_n 2, 1) := by decide +kernel
theorem dX1_payOut_17 : decode cX1_payOut 17 = .ok (.iload_n 3, 1) := by decide +kernel
theorem dX1_payOut_18 : decode cX1_payOut 18 = .ok (.iastore, 1) := by decide +kernel
theorem dX1_payOut_19 : decode cX1_payOut 19 = .ok (.aload_n 1, 1) := by decide +kernel
theorem dX1_payOut_20 : decode cX1_payOut 20 = .ok (.getfield 95, 3) := by decide +kernel
theorem dX1_payOut_23 : decode cX1_payOut 23 = .ok (.iload_n 2, 1) := by decide +kernel
theorem dX1_payOut_24 : decode cX1_payOut 24 = .ok (.iconst 1, 1) := by decide +kernel
theorem dX1_payOut_25 : decode cX1_payOut 25 = .ok (.bastore, 1) := by decide +kernel
theorem dX1_payOut_26 : decode cX1_payOut 26 = .ok (.iconst 0, 1) := by decide +kernel
theorem dX1_payOut_27 : decode cX1_payOut 27 = .ok (.istore 4, 2) := by decide +kernel
theorem dX1_payOut_29 : decode cX1_payOut 29 = .ok (.iload 4, 2) := by decide +kernel
theorem dX1_payOut_31 : decode cX1_payOut 31 = .ok (.aload_n 1, 1) := by decide +kernel
theorem dX1_payOut_32 : decode cX1_payOut 32 = .ok (.getfield 43, 3) := by decide +kernel
theorem dX1_payOut_35 : decode cX1_payOut 35 = .ok (.if_icmp .ge 20, 3) := by decide +kernel
theorem dX1_payOut_38 : decode cX1_payOut 38 = .ok (.iload_n 3, 1) := by decide +kernel
theorem dX1_payOut_39 : decode cX1_payOut 39 = .ok (.aload_n 1, 1) := by decide +kernel
theorem dX1_payOut_40 : decode cX1_payOut 40 = .ok (.iload_n 2, 1) := by decide +kernel
theorem dX1_payOut_41 : decode cX1_payOut 41 = .ok (.iload 4, 2) := by decide +kernel
theorem dX1_payOut_43 : decode cX1_payOut 43 = .ok (.iload_n 3, 1) := by decide +kernel
theorem dX1_payOut_44 : decode cX1_payOut 44 = .ok (.invokevirtual 119, 3) := by decide +kernel
theorem dX1_payOut_47 : decode cX1_payOut 47 = .ok (.isub, 1) := by decide +kernel
theorem dX1_payOut_48 : decode cX1_payOut 48 = .ok (.istore_n 3, 1) := by decide +kernel
theorem dX1_payOut_49 : decode cX1_payOut 49 = .ok (.iinc 4 1, 3) := by decide +kernel
theorem dX1_payOut_52 : decode cX1_payOut 52 = .ok (.goto (-23), 3) := by decide +kernel
theorem dX1_payOut_55 : decode cX1_payOut 55 = .ok (.aload_n 1, 1) := by decide +kernel
theorem dX1_payOut_56 : decode cX1_payOut 56 = .ok (.getfield 59, 3) := by decide +kernel
theorem dX1_payOut_59 : decode cX1_payOut 59 = .ok (.iload_n 2, 1) := by decide +kernel
theorem dX1_payOut_60 : decode cX1_payOut 60 = .ok (.dup2, 1) := by decide +kernel
theorem dX1_payOut_61 : decode cX1_payOut 61 = .ok (.iaload, 1) := by decide +kernel
theorem dX1_payOut_62 : decode cX1_payOut 62 = .ok (.iload_n 3, 1) := by decide +kernel
theorem dX1_payOut_63 : decode cX1_payOut 63 = .ok (.iadd, 1) := by decide +kernel
theorem dX1_payOut_64 : decode cX1_payOut 64 = .ok (.iastore, 1) := by decide +kernel
theorem dX1_payOut_65 : decode cX1_payOut 65 = .ok (.return_, 1) := by decide +kernel
set_option maxRecDepth 20000 in
theorem ggX2_init_X3_init : GoodIn wsX2_init wsX3_init := goodIn_r _ [13, 14, 2, 3, 15, 16, 17, 18, 19, 20, 21, 22, 23, 24, 25, 26, 27, 28, 29, 35, 36, 37, 38, 39, 40, 41, 42, 43, 44, 45, 46, 47, 48, 49, 50, 51] (by decide +kernel) (by decide +kernel)
set_option maxRecDepth 20000 in
theorem gX2_init_X3_init_n9 : GoodIn wsX2_init (wsX3_init) := ggX2_init_X3_init
set_option maxRecDepth 20000 in
theorem ggX2_init_X1_init : GoodIn wsX2_init wsX1_init := goodIn_r _ [31, 32, 2, 3, 20, 33, 34, 54, 55, 56] (by decide +kernel) (by decide +kernel)
set_option maxRecDepth 20000 in
theorem gX2_init_X1_init_n18 : GoodIn wsX2_init (wsX1_init) := ggX2_init_X1_init
theorem dX2_init_0 : decode cX2_init 0 = .ok (.aload_n 0, 1) := by decide +kernel
theorem dX2_init_1 : decode cX2_init 1 = .ok (.invokespecial 1, 3) := by decide +kernel
theorem dX2_init_4 : decode cX2_init 4 = .ok (.aload_n 0, 1) := by decide +kernel
theorem dX2_init_5 : decode cX2_init 5 = .ok (.new 7, 3) := by decide +kernel
theorem dX2_init_8 : decode cX2_init 8 = .ok (.dup, 1) := by decide +kernel
theorem dX2_init_9 : decode cX2_init 9 = .ok (.invokespecial 9, 3) := by decide +kernel
theorem dX2_init_12 : decode cX2_init 12 = .ok (.putfield 10, 3) := by decide +kernel
theorem dX2_init_15 : decode cX2_init 15 = .ok (.aload_n 0, 1) := by decide +kernel
theorem dX2_init_16 : decode cX2_init 16 = .ok (.new 16, 3) := by decide +kernel
theorem dX2_init_19 : decode cX2_init 19 = .ok (.dup, 1) := by decide +kernel
theorem dX2_init_20 : decode cX2_init 20 = .ok (.invokespecial 18, 3) := by decide +kernel
theorem dX2_init_23 : decode cX2_init 23 = .ok (.putfield 19, 3) := by decide +kernel
theorem dX2_init_26 : decode cX2_init 26 = .ok (.return_, 1) := by decide +kernel
set_option maxRecDepth 20000 in
theorem ggX2_succeeds_X2_monthsPass : GoodIn wsX2_succeeds wsX2_monthsPass := goodIn_r _ [8, 1, 9, 10, 11, 12, 13, 14, 15, 16, 17, 18, 19, 20, 21, 22, 23, 24, 25, 26, 27, 28, 29, 30, 31, 32, 33, 34, 35, 36, 37, 38, 39, 40, 41, 42, 43, 44, 45, 46, 47, 48, 49, 50, 51, 52, 53, 54, 55, 56, 57, 58, 59, 60, 61, 62, 63, 64, 65, 66, 67, 68, 69, 70, 71, 72, 73, 74, 75, 76, 77, 78, 79, 80, 81, 82, 83, 84, 85, 86, 87, 88, 89, 90, 91, 92, 93, 94, 95, 96, 97, 161, 162, 163, 164, 165, 166, 167, 168, 169, 170, 171, 172, 173, 174, 175, 176, 177, 178, 179, 180, 181, 182] (by decide +kernel) (by decide +kernel)
set_option maxRecDepth 20000 in
theorem gX2_succeeds_X2_monthsPass : GoodIn wsX2_succeeds (wsV RX2 23 RX2 yX2_monthsPass wsX2_monthsPass) := goodIn_app (goodIn_of _ (by decide +kernel)) ggX2_succeeds_X2_monthsPass
set_option maxRecDepth 20000 in
theorem ggX2_succeeds_X3_exists : GoodIn wsX2_succeeds wsX3_exists := goodIn_r _ [55, 20, 163, 164, 165, 166, 167, 168, 169, 170, 171, 172, 173, 174, 175, 176, 177, 178, 179] (by decide +kernel) (by decide +kernel)
set_option maxRecDepth 20000 in
theorem gX2_succeeds_X3_exists : GoodIn wsX2_succeeds (wsV RX2 27 RX3 yX3_exists wsX3_exists) := goodIn_app (goodIn_of _ (by decide +kernel)) ggX2_succeeds_X3_exists
set_option maxRecDepth 20000 in
theorem ggX2_succeeds_X2_bidOf : GoodIn wsX2_succeeds wsX2_bidOf := goodIn_r _ [102, 1, 103, 104, 105, 106, 13, 107, 21, 108, 161, 162, 163, 164, 165, 166, 167, 168, 169, 170, 171, 172, 173, 174, 175, 176, 177, 178, 179] (by decide +kernel) (by decide +kernel)
set_option maxRecDepth 20000 in
theorem gX2_succeeds_X2_bidOf : GoodIn wsX2_succeeds (wsV RX2 30 RX2 yX2_bidOf wsX2_bidOf) := goodIn_app (goodIn_of _ (by decide +kernel)) ggX2_succeeds_X2_bidOf
set_option maxRecDepth 20000 in
theorem ggX2_succeeds_X2_guarantorOf : GoodIn wsX2_succeeds wsX2_guarantorOf := goodIn_r _ [112, 1, 113, 98, 53, 54, 13, 55, 20, 161, 162, 163, 164, 165, 166, 167, 168, 169, 170, 171, 172, 173, 174, 175, 176, 177, 178, 179] (by decide +kernel) (by decide +kernel)
set_option maxRecDepth 20000 in
theorem gX2_succeeds_X2_guarantorOf : GoodIn wsX2_succeeds (wsV RX2 34 RX2 yX2_guarantorOf wsX2_guarantorOf) := goodIn_app (goodIn_of _ (by decide +kernel)) ggX2_succeeds_X2_guarantorOf
set_option maxRecDepth 20000 in
theorem ggX2_succeeds_X2_markOf : GoodIn wsX2_succeeds wsX2_markOf := goodIn_r _ [117, 1, 118, 161, 162, 163, 164, 165, 166, 167, 168, 169, 170, 171, 172, 173, 174, 175, 176, 177, 178, 179] (by decide +kernel) (by decide +kernel)
set_option maxRecDepth 20000 in
theorem gX2_succeeds_X2_markOf : GoodIn wsX2_succeeds (wsV RX2 37 RX2 yX2_markOf wsX2_markOf) := goodIn_app (goodIn_of _ (by decide +kernel)) ggX2_succeeds_X2_markOf
set_option maxRecDepth 20000 in
theorem ggX2_succeeds_X2_gift : GoodIn wsX2_succeeds wsX2_gift := goodIn_r _ [122, 1, 123, 124, 125, 13, 126, 127, 128, 129, 130, 131, 96, 161, 162, 163, 164, 165, 166, 167, 168, 169, 170, 171, 172, 173, 174, 175, 176, 177, 178, 179] (by decide +kernel) (by decide +kernel)
set_option maxRecDepth 20000 in
theorem gX2_succeeds_X2_gift : GoodIn wsX2_succeeds (wsV RX2 41 RX2 yX2_gift wsX2_gift) := goodIn_app (goodIn_of _ (by decide +kernel)) ggX2_succeeds_X2_gift
set_option maxRecDepth 20000 in
theorem ggX2_succeeds_X2_going : GoodIn wsX2_succeeds wsX2_going := goodIn_r _ [135, 1, 136, 137, 138, 13, 139, 21, 96, 140, 141, 142, 143, 108, 144, 145, 146, 95, 77, 78, 79, 147, 148, 149, 150, 20, 151, 152, 153, 154, 161, 162, 163, 164, 165, 166, 167, 168, 169, 170, 171, 172, 173, 174, 175, 176, 177, 178, 179] (by decide +kernel) (by decide +kernel)
set_option maxRecDepth 20000 in
theorem gX2_succeeds_X2_going : GoodIn wsX2_succeeds (wsV RX2 44 RX2 yX2_going wsX2_going) := goodIn_app (goodIn_of _ (by decide +kernel)) ggX2_succeeds_X2_going
set_option maxRecDepth 20000 in
theorem ggX2_succeeds_X2_owesAtMost : GoodIn wsX2_succeeds wsX2_owesAtMost := goodIn_r _ [158, 1, 159, 98, 53, 54, 13, 55, 20, 160, 57, 58, 161, 162, 163, 164, 165, 166, 167, 168, 169, 170, 171, 172, 173, 174, 175, 176, 177, 178, 179] (by decide +kernel) (by decide +kernel)
set_option maxRecDepth 20000 in
theorem gX2_succeeds_X2_owesAtMost : GoodIn wsX2_succeeds (wsV RX2 51 RX2 yX2_owesAtMost wsX2_owesAtMost) := goodIn_app (goodIn_of _ (by decide +kernel)) ggX2_succeeds_X2_owesAtMost
theorem dX2_succeeds_0 : decode cX2_succeeds 0 = .ok (.iload_n 1, 1) := by decide +kernel
theorem dX2_succeeds_1 : decode cX2_succeeds 1 = .ok (.sipush 10000, 3) := by decide +kernel
theorem dX2_succeeds_4 : decode cX2_succeeds 4 = .ok (.idiv, 1) := by decide +kernel
theorem dX2_succeeds_5 : decode cX2_succeeds 5 = .ok (.istore_n 2, 1) := by decide +kernel
theorem dX2_succeeds_6 : decode cX2_succeeds 6 = .ok (.iload_n 1, 1) := by decide +kernel
theorem dX2_succeeds_7 : decode cX2_succeeds 7 = .ok (.sipush 1000, 3) := by decide +kernel
theorem dX2_succeeds_10 : decode cX2_succeeds 10 = .ok (.idiv, 1) := by decide +kernel
theorem dX2_succeeds_11 : decode cX2_succeeds 11 = .ok (.bipush 10, 2) := by decide +kernel
theorem dX2_succeeds_13 : decode cX2_succeeds 13 = .ok (.irem, 1) := by decide +kernel
theorem dX2_succeeds_14 : decode cX2_succeeds 14 = .ok (.istore_n 3, 1) := by decide +kernel
theorem dX2_succeeds_15 : decode cX2_succeeds 15 = .ok (.iload_n 1, 1) := by decide +kernel
theorem dX2_succeeds_16 : decode cX2_succeeds 16 = .ok (.bipush 100, 2) := by decide +kernel
theorem dX2_succeeds_18 : decode cX2_succeeds 18 = .ok (.idiv, 1) := by decide +kernel
theorem dX2_succeeds_19 : decode cX2_succeeds 19 = .ok (.bipush 10, 2) := by decide +kernel
theorem dX2_succeeds_21 : decode cX2_succeeds 21 = .ok (.irem, 1) := by decide +kernel
theorem dX2_succeeds_22 : decode cX2_succeeds 22 = .ok (.istore 4, 2) := by decide +kernel
theorem dX2_succeeds_24 : decode cX2_succeeds 24 = .ok (.iload_n 1, 1) := by decide +kernel
theorem dX2_succeeds_25 : decode cX2_succeeds 25 = .ok (.sipush 1000, 3) := by decide +kernel
theorem dX2_succeeds_28 : decode cX2_succeeds 28 = .ok (.irem, 1) := by decide +kernel
theorem dX2_succeeds_29 : decode cX2_succeeds 29 = .ok (.istore 5, 2) := by decide +kernel
theorem dX2_succeeds_31 : decode cX2_succeeds 31 = .ok (.iload_n 1, 1) := by decide +kernel
theorem dX2_succeeds_32 : decode cX2_succeeds 32 = .ok (.bipush 100, 2) := by decide +kernel
theorem dX2_succeeds_34 : decode cX2_succeeds 34 = .ok (.irem, 1) := by decide +kernel
theorem dX2_succeeds_35 : decode cX2_succeeds 35 = .ok (.istore 6, 2) := by decide +kernel
theorem dX2_succeeds_37 : decode cX2_succeeds 37 = .ok (.iload_n 2, 1) := by decide +kernel
theorem dX2_succeeds_38 : decode cX2_succeeds 38 = .ok (.iconst 1, 1) := by decide +kernel
theorem dX2_succeeds_39 : decode cX2_succeeds 39 = .ok (.if_icmp .ne 29, 3) := by decide +kernel
theorem dX2_succeeds_42 : decode cX2_succeeds 42 = .ok (.iload_n 3, 1) := by decide +kernel
theorem dX2_succeeds_43 : decode cX2_succeeds 43 = .ok (.ifCond .ne 23, 3) := by decide +kernel
theorem dX2_succeeds_46 : decode cX2_succeeds 46 = .ok (.iload 5, 2) := by decide +kernel
theorem dX2_succeeds_48 : decode cX2_succeeds 48 = .ok (.bipush 10, 2) := by decide +kernel
theorem dX2_succeeds_50 : decode cX2_succeeds 50 = .ok (.if_icmp .ge 16, 3) := by decide +kernel
theorem dX2_succeeds_53 : decode cX2_succeeds 53 = .ok (.aload_n 0, 1) := by decide +kernel
theorem dX2_succeeds_54 : decode cX2_succeeds 54 = .ok (.iload 5, 2) := by decide +kernel
theorem dX2_succeeds_56 : decode cX2_succeeds 56 = .ok (.invokevirtual 23, 3) := by decide +kernel
theorem dX2_succeeds_59 : decode cX2_succeeds 59 = .ok (.ifCond .eq 7, 3) := by decide +kernel
theorem dX2_succeeds_62 : decode cX2_succeeds 62 = .ok (.iconst 1, 1) := by decide +kernel
theorem dX2_succeeds_63 : decode cX2_succeeds 63 = .ok (.goto 4, 3) := by decide +kernel
theorem dX2_succeeds_66 : decode cX2_succeeds 66 = .ok (.iconst 0, 1) := by decide +kernel
theorem dX2_succeeds_67 : decode cX2_succeeds 67 = .ok (.ireturn, 1) := by decide +kernel
theorem dX2_succeeds_68 : decode cX2_succeeds 68 = .ok (.aload_n 0, 1) := by decide +kernel
theorem dX2_succeeds_69 : decode cX2_succeeds 69 = .ok (.getfield 10, 3) := by decide +kernel
theorem dX2_succeeds_72 : decode cX2_succeeds 72 = .ok (.iload_n 3, 1) := by decide +kernel
theorem dX2_succeeds_73 : decode cX2_succeeds 73 = .ok (.invokevirtual 27, 3) := by decide +kernel
theorem dX2_succeeds_76 : decode cX2_succeeds 76 = .ok (.ifCond .ne 5, 3) := by decide +kernel
theorem dX2_succeeds_79 : decode cX2_succeeds 79 = .ok (.iconst 0, 1) := by decide +kernel
theorem dX2_succeeds_80 : decode cX2_succeeds 80 = .ok (.ireturn, 1) := by decide +kernel
theorem dX2_succeeds_81 : decode cX2_succeeds 81 = .ok (.iload_n 2, 1) := by decide +kernel
theorem dX2_succeeds_82 : decode cX2_succeeds 82 = .ok (.tableswitch 191 2 9 #[46, 54, 75, 111, 119, 138, 158, 168], 46) := by decide +kernel
theorem dX2_succeeds_128 : decode cX2_succeeds 128 = .ok (.aload_n 0, 1) := by decide +kernel
theorem dX2_succeeds_129 : decode cX2_succeeds 129 = .ok (.iload_n 3, 1) := by decide +kernel
theorem dX2_succeeds_130 : decode cX2_succeeds 130 = .ok (.iload 5, 2) := by decide +kernel
theorem dX2_succeeds_132 : decode cX2_succeeds 132 = .ok (.invokevirtual 30, 3) := by decide +kernel
theorem dX2_succeeds_135 : decode cX2_succeeds 135 = .ok (.ireturn, 1) := by decide +kernel
theorem dX2_succeeds_136 : decode cX2_succeeds 136 = .ok (.iload 6, 2) := by decide +kernel
theorem dX2_succeeds_138 : decode cX2_succeeds 138 = .ok (.ifCond .ne 17, 3) := by decide +kernel
theorem dX2_succeeds_141 : decode cX2_succeeds 141 = .ok (.aload_n 0, 1) := by decide +kernel
theorem dX2_succeeds_142 : decode cX2_succeeds 142 = .ok (.iload_n 3, 1) := by decide +kernel
theorem dX2_succeeds_143 : decode cX2_succeeds 143 = .ok (.iload 4, 2) := by decide +kernel
theorem dX2_succeeds_145 : decode cX2_succeeds 145 = .ok (.invokevirtual 34, 3) := by decide +kernel
theorem dX2_succeeds_148 : decode cX2_succeeds 148 = .ok (.ifCond .eq 7, 3) := by decide +kernel
theorem dX2_succeeds_151 : decode cX2_succeeds 151 = .ok (.iconst 1, 1) := by decide +kernel
theorem dX2_succeeds_152 : decode cX2_succeeds 152 = .ok (.goto 4, 3) := by decide +kernel
theorem dX2_succeeds_155 : decode cX2_succeeds 155 = .ok (.iconst 0, 1) := by decide +kernel
theorem dX2_succeeds_156 : decode cX2_succeeds 156 = .ok (.ireturn, 1) := by decide +kernel
theorem dX2_succeeds_157 : decode cX2_succeeds 157 = .ok (.iload 6, 2) := by decide +kernel
theorem dX2_succeeds_159 : decode cX2_succeeds 159 = .ok (.ifCond .ne 32, 3) := by decide +kernel
theorem dX2_succeeds_162 : decode cX2_succeeds 162 = .ok (.iload 4, 2) := by decide +kernel
theorem dX2_succeeds_164 : decode cX2_succeeds 164 = .ok (.iconst 1, 1) := by decide +kernel
theorem dX2_succeeds_165 : decode cX2_succeeds 165 = .ok (.if_icmp .gt 26, 3) := by decide +kernel
theorem dX2_succeeds_168 : decode cX2_succeeds 168 = .ok (.aload_n 0, 1) := by decide +kernel
theorem dX2_succeeds_169 : decode cX2_succeeds 169 = .ok (.iload_n 3, 1) := by decide +kernel
theorem dX2_succeeds_170 : decode cX2_succeeds 170 = .ok (.iload 4, 2) := by decide +kernel
theorem dX2_succeeds_172 : decode cX2_succeeds 172 = .ok (.iconst 1, 1) := by decide +kernel
theorem dX2_succeeds_173 : decode cX2_succeeds 173 = .ok (.if_icmp .ne 7, 3) := by decide +kernel
theorem dX2_succeeds_176 : decode cX2_succeeds 176 = .ok (.iconst 1, 1) := by decide +kernel
theorem dX2_succeeds_177 : decode cX2_succeeds 177 = .ok (.goto 4, 3) := by decide +kernel
theorem dX2_succeeds_180 : decode cX2_succeeds 180 = .ok (.iconst 0, 1) := by decide +kernel
theorem dX2_succeeds_181 : decode cX2_succeeds 181 = .ok (.invokevirtual 37, 3) := by decide +kernel
theorem dX2_succeeds_184 : decode cX2_succeeds 184 = .ok (.ifCond .eq 7, 3) := by decide +kernel
theorem dX2_succeeds_187 : decode cX2_succeeds 187 = .ok (.iconst 1, 1) := by decide +kernel
theorem dX2_succeeds_188 : decode cX2_succeeds 188 = .ok (.goto 4, 3) := by decide +kernel
theorem dX2_succeeds_191 : decode cX2_succeeds 191 = .ok (.iconst 0, 1) := by decide +kernel
theorem dX2_succeeds_192 : decode cX2_succeeds 192 = .ok (.ireturn, 1) := by decide +kernel
theorem dX2_succeeds_193 : decode cX2_succeeds 193 = .ok (.aload_n 0, 1) := by decide +kernel
theorem dX2_succeeds_194 : decode cX2_succeeds 194 = .ok (.iload_n 3, 1) := by decide +kernel
theorem dX2_succeeds_195 : decode cX2_succeeds 195 = .ok (.iload 5, 2) := by decide +kernel
theorem dX2_succeeds_197 : decode cX2_succeeds 197 = .ok (.invokevirtual 41, 3) := by decide +kernel
theorem dX2_succeeds_200 : decode cX2_succeeds 200 = .ok (.ireturn, 1) := by decide +kernel
theorem dX2_succeeds_201 : decode cX2_succeeds 201 = .ok (.iload 5, 2) := by decide +kernel
theorem dX2_succeeds_203 : decode cX2_succeeds 203 = .ok (.ifCond .ne 15, 3) := by decide +kernel
theorem dX2_succeeds_206 : decode cX2_succeeds 206 = .ok (.aload_n 0, 1) := by decide +kernel
theorem dX2_succeeds_207 : decode cX2_succeeds 207 = .ok (.iload_n 3, 1) := by decide +kernel
theorem dX2_succeeds_208 : decode cX2_succeeds 208 = .ok (.invokevirtual 44, 3) := by decide +kernel
theorem dX2_succeeds_211 : decode cX2_succeeds 211 = .ok (.ifCond .eq 7, 3) := by decide +kernel
theorem dX2_succeeds_214 : decode cX2_succeeds 214 = .ok (.iconst 1, 1) := by decide +kernel
theorem dX2_succeeds_215 : decode cX2_succeeds 215 = .ok (.goto 4, 3) := by decide +kernel
theorem dX2_succeeds_218 : decode cX2_succeeds 218 = .ok (.iconst 0, 1) := by decide +kernel
theorem dX2_succeeds_219 : decode cX2_succeeds 219 = .ok (.ireturn, 1) := by decide +kernel
theorem dX2_succeeds_220 : decode cX2_succeeds 220 = .ok (.aload_n 0, 1) := by decide +kernel
theorem dX2_succeeds_221 : decode cX2_succeeds 221 = .ok (.getfield 10, 3) := by decide +kernel
theorem dX2_succeeds_224 : decode cX2_succeeds 224 = .ok (.getfield 47, 3) := by decide +kernel
theorem dX2_succeeds_227 : decode cX2_succeeds 227 = .ok (.iload_n 3, 1) := by decide +kernel
theorem dX2_succeeds_228 : decode cX2_succeeds 228 = .ok (.iaload, 1) := by decide +kernel
theorem dX2_succeeds_229 : decode cX2_succeeds 229 = .ok (.iload 5, 2) := by decide +kernel
theorem dX2_succeeds_231 : decode cX2_succeeds 231 = .ok (.if_icmp .lt 7, 3) := by decide +kernel
theorem dX2_succeeds_234 : decode cX2_succeeds 234 = .ok (.iconst 1, 1) := by decide +kernel
theorem dX2_succeeds_235 : decode cX2_succeeds 235 = .ok (.goto 4, 3) := by decide +kernel
theorem dX2_succeeds_238 : decode cX2_succeeds 238 = .ok (.iconst 0, 1) := by decide +kernel
theorem dX2_succeeds_239 : decode cX2_succeeds 239 = .ok (.ireturn, 1) := by decide +kernel
theorem dX2_succeeds_240 : decode cX2_succeeds 240 = .ok (.aload_n 0, 1) := by decide +kernel
theorem dX2_succeeds_241 : decode cX2_succeeds 241 = .ok (.iload_n 3, 1) := by decide +kernel
theorem dX2_succeeds_242 : decode cX2_succeeds 242 = .ok (.iload 4, 2) := by decide +kernel
theorem dX2_succeeds_244 : decode cX2_succeeds 244 = .ok (.iload 6, 2) := by decide +kernel
theorem dX2_succeeds_246 : decode cX2_succeeds 246 = .ok (.invokevirtual 51, 3) := by decide +kernel
theorem dX2_succeeds_249 : decode cX2_succeeds 249 = .ok (.ireturn, 1) := by decide +kernel
theorem dX2_succeeds_250 : decode cX2_succeeds 250 = .ok (.iload 5, 2) := by decide +kernel
theorem dX2_succeeds_252 : decode cX2_succeeds 252 = .ok (.ifCond .ne 19, 3) := by decide +kernel
theorem dX2_succeeds_255 : decode cX2_succeeds 255 = .ok (.aload_n 0, 1) := by decide +kernel
theorem dX2_succeeds_256 : decode cX2_succeeds 256 = .ok (.getfield 10, 3) := by decide +kernel
theorem dX2_succeeds_259 : decode cX2_succeeds 259 = .ok (.getfield 55, 3) := by decide +kernel
theorem dX2_succeeds_262 : decode cX2_succeeds 262 = .ok (.iload_n 3, 1) := by decide +kernel
theorem dX2_succeeds_263 : decode cX2_succeeds 263 = .ok (.baload, 1) := by decide +kernel
theorem dX2_succeeds_264 : decode cX2_succeeds 264 = .ok (.ifCond .eq 7, 3) := by decide +kernel
theorem dX2_succeeds_267 : decode cX2_succeeds 267 = .ok (.iconst 1, 1) := by decide +kernel
theorem dX2_succeeds_268 : decode cX2_succeeds 268 = .ok (.goto 4, 3) := by decide +kernel
theorem dX2_succeeds_271 : decode cX2_succeeds 271 = .ok (.iconst 0, 1) := by decide +kernel
theorem dX2_succeeds_272 : decode cX2_succeeds 272 = .ok (.ireturn, 1) := by decide +kernel
theorem dX2_succeeds_273 : decode cX2_succeeds 273 = .ok (.iconst 0, 1) := by decide +kernel
theorem dX2_succeeds_274 : decode cX2_succeeds 274 = .ok (.ireturn, 1) := by decide +kernel
set_option maxRecDepth 20000 in
theorem ggX2_monthsPass_X3_mayPass : GoodIn wsX2_monthsPass wsX3_mayPass := goodIn_r _ [7, 8, 9, 10, 11, 6, 12, 13, 14, 93, 94, 95, 96, 97, 98, 99, 100, 101, 102, 103, 104, 105, 106, 107, 108, 109] (by decide +kernel) (by decide +kernel)
set_option maxRecDepth 20000 in
theorem gX2_monthsPass_X3_mayPass : GoodIn wsX2_monthsPass (wsV RX2 59 RX3 yX3_mayPass wsX3_mayPass) := goodIn_app (goodIn_of _ (by decide +kernel)) ggX2_monthsPass_X3_mayPass
set_option maxRecDepth 20000 in
theorem ggX2_monthsPass_X1_pass : GoodIn wsX2_monthsPass wsX1_pass := goodIn_r _ [19, 20, 21, 22, 23, 24, 25, 26, 27, 28, 29, 18, 30, 31, 32, 33, 34, 35, 36, 37, 38, 39, 40, 41, 42, 43, 44, 45, 46, 47, 6, 48, 13, 49, 50, 51, 52, 53, 54, 55, 56, 57, 58, 59, 60, 61, 62, 63, 64, 65, 66, 67, 68, 69, 70, 71, 72, 73, 74, 75, 76, 77, 78, 79, 80, 81, 82, 83, 84, 85, 86, 87, 88, 89, 90, 93, 94, 95, 96, 97, 98, 99, 100, 101, 102, 103, 104, 105, 106, 107, 108, 109, 110, 111, 112] (by decide +kernel) (by decide +kernel)
set_option maxRecDepth 20000 in
theorem gX2_monthsPass_X1_pass : GoodIn wsX2_monthsPass (wsV RX2 63 RX1 yX1_pass wsX1_pass) := goodIn_app (goodIn_of _ (by decide +kernel)) ggX2_monthsPass_X1_pass
theorem dX2_monthsPass_0 : decode cX2_monthsPass 0 = .ok (.iconst 0, 1) := by decide +kernel
theorem dX2_monthsPass_1 : decode cX2_monthsPass 1 = .ok (.istore_n 2, 1) := by decide +kernel
theorem dX2_monthsPass_2 : decode cX2_monthsPass 2 = .ok (.iload_n 2, 1) := by decide +kernel
theorem dX2_monthsPass_3 : decode cX2_monthsPass 3 = .ok (.iload_n 1, 1) := by decide +kernel
theorem dX2_monthsPass_4 : decode cX2_monthsPass 4 = .ok (.if_icmp .ge 33, 3) := by decide +kernel
theorem dX2_monthsPass_7 : decode cX2_monthsPass 7 = .ok (.aload_n 0, 1) := by decide +kernel
theorem dX2_monthsPass_8 : decode cX2_monthsPass 8 = .ok (.getfield 10, 3) := by decide +kernel
theorem dX2_monthsPass_11 : decode cX2_monthsPass 11 = .ok (.invokevirtual 59, 3) := by decide +kernel
theorem dX2_monthsPass_14 : decode cX2_monthsPass 14 = .ok (.ifCond .ne 5, 3) := by decide +kernel
theorem dX2_monthsPass_17 : decode cX2_monthsPass 17 = .ok (.iconst 0, 1) := by decide +kernel
theorem dX2_monthsPass_18 : decode cX2_monthsPass 18 = .ok (.ireturn, 1) := by decide +kernel
theorem dX2_monthsPass_19 : decode cX2_monthsPass 19 = .ok (.aload_n 0, 1) := by decide +kernel
theorem dX2_monthsPass_20 : decode cX2_monthsPass 20 = .ok (.getfield 19, 3) := by decide +kernel
theorem dX2_monthsPass_23 : decode cX2_monthsPass 23 = .ok (.aload_n 0, 1) := by decide +kernel
theorem dX2_monthsPass_24 : decode cX2_monthsPass 24 = .ok (.getfield 10, 3) := by decide +kernel
theorem dX2_monthsPass_27 : decode cX2_monthsPass 27 = .ok (.invokevirtual 63, 3) := by decide +kernel
theorem dX2_monthsPass_30 : decode cX2_monthsPass 30 = .ok (.pop, 1) := by decide +kernel
theorem dX2_monthsPass_31 : decode cX2_monthsPass 31 = .ok (.iinc 2 1, 3) := by decide +kernel
theorem dX2_monthsPass_34 : decode cX2_monthsPass 34 = .ok (.goto (-32), 3) := by decide +kernel
theorem dX2_monthsPass_37 : decode cX2_monthsPass 37 = .ok (.iload_n 1, 1) := by decide +kernel
theorem dX2_monthsPass_38 : decode cX2_monthsPass 38 = .ok (.ifCond .le 7, 3) := by decide +kernel
theorem dX2_monthsPass_41 : decode cX2_monthsPass 41 = .ok (.iconst 1, 1) := by decide +kernel
theorem dX2_monthsPass_42 : decode cX2_monthsPass 42 = .ok (.goto 4, 3) := by decide +kernel
theorem dX2_monthsPass_45 : decode cX2_monthsPass 45 = .ok (.iconst 0, 1) := by decide +kernel
theorem dX2_monthsPass_46 : decode cX2_monthsPass 46 = .ok (.ireturn, 1) := by decide +kernel
set_option maxRecDepth 20000 in
theorem ggX2_bidOf_X3_mayBid : GoodIn wsX2_bidOf wsX3_mayBid := goodIn_r _ [7, 8, 9, 12, 13, 14, 15, 16, 17, 18, 19, 20, 21, 22, 23, 24, 25, 26, 27, 28] (by decide +kernel) (by decide +kernel)
set_option maxRecDepth 20000 in
theorem gX2_bidOf_X3_mayBid : GoodIn wsX2_bidOf (wsV RX2 67 RX3 yX3_mayBid wsX3_mayBid) := goodIn_app (goodIn_of _ (by decide +kernel)) ggX2_bidOf_X3_mayBid
theorem dX2_bidOf_0 : decode cX2_bidOf 0 = .ok (.aload_n 0, 1) := by decide +kernel
theorem dX2_bidOf_1 : decode cX2_bidOf 1 = .ok (.getfield 10, 3) := by decide +kernel
theorem dX2_bidOf_4 : decode cX2_bidOf 4 = .ok (.iload_n 1, 1) := by decide +kernel
theorem dX2_bidOf_5 : decode cX2_bidOf 5 = .ok (.invokevirtual 67, 3) := by decide +kernel
theorem dX2_bidOf_8 : decode cX2_bidOf 8 = .ok (.ifCond .ne 5, 3) := by decide +kernel
theorem dX2_bidOf_11 : decode cX2_bidOf 11 = .ok (.iconst 0, 1) := by decide +kernel
theorem dX2_bidOf_12 : decode cX2_bidOf 12 = .ok (.ireturn, 1) := by decide +kernel
theorem dX2_bidOf_13 : decode cX2_bidOf 13 = .ok (.aload_n 0, 1) := by decide +kernel
theorem dX2_bidOf_14 : decode cX2_bidOf 14 = .ok (.getfield 10, 3) := by decide +kernel
theorem dX2_bidOf_17 : decode cX2_bidOf 17 = .ok (.getfield 70, 3) := by decide +kernel
theorem dX2_bidOf_20 : decode cX2_bidOf 20 = .ok (.iload_n 1, 1) := by decide +kernel
theorem dX2_bidOf_21 : decode cX2_bidOf 21 = .ok (.iload_n 2, 1) := by decide +kernel
theorem dX2_bidOf_22 : decode cX2_bidOf 22 = .ok (.iastore, 1) := by decide +kernel
theorem dX2_bidOf_23 : decode cX2_bidOf 23 = .ok (.iconst 1, 1) := by decide +kernel
theorem dX2_bidOf_24 : decode cX2_bidOf 24 = .ok (.ireturn, 1) := by decide +kernel
set_option maxRecDepth 20000 in
theorem ggX2_guarantorOf_X3_exists : GoodIn wsX2_guarantorOf wsX3_exists := goodIn_r _ [7, 8, 11, 12, 13, 14, 15, 16, 17, 18, 19, 20, 21, 22, 23, 24, 25, 26, 27] (by decide +kernel) (by decide +kernel)
set_option maxRecDepth 20000 in
theorem gX2_guarantorOf_X3_exists : GoodIn wsX2_guarantorOf (wsV RX2 27 RX3 yX3_exists wsX3_exists) := goodIn_app (goodIn_of _ (by decide +kernel)) ggX2_guarantorOf_X3_exists
theorem dX2_guarantorOf_0 : decode cX2_guarantorOf 0 = .ok (.aload_n 0, 1) := by decide +kernel
theorem dX2_guarantorOf_1 : decode cX2_guarantorOf 1 = .ok (.getfield 10, 3) := by decide +kernel
theorem dX2_guarantorOf_4 : decode cX2_guarantorOf 4 = .ok (.iload_n 2, 1) := by decide +kernel
theorem dX2_guarantorOf_5 : decode cX2_guarantorOf 5 = .ok (.invokevirtual 27, 3) := by decide +kernel
theorem dX2_guarantorOf_8 : decode cX2_guarantorOf 8 = .ok (.ifCond .eq 8, 3) := by decide +kernel
theorem dX2_guarantorOf_11 : decode cX2_guarantorOf 11 = .ok (.iload_n 2, 1) := by decide +kernel
theorem dX2_guarantorOf_12 : decode cX2_guarantorOf 12 = .ok (.iload_n 1, 1) := by decide +kernel
theorem dX2_guarantorOf_13 : decode cX2_guarantorOf 13 = .ok (.if_icmp .ne 5, 3) := by decide +kernel
theorem dX2_guarantorOf_16 : decode cX2_guarantorOf 16 = .ok (.iconst 0, 1) := by decide +kernel
theorem dX2_guarantorOf_17 : decode cX2_guarantorOf 17 = .ok (.ireturn, 1) := by decide +kernel
theorem dX2_guarantorOf_18 : decode cX2_guarantorOf 18 = .ok (.aload_n 0, 1) := by decide +kernel
theorem dX2_guarantorOf_19 : decode cX2_guarantorOf 19 = .ok (.getfield 10, 3) := by decide +kernel
theorem dX2_guarantorOf_22 : decode cX2_guarantorOf 22 = .ok (.getfield 73, 3) := by decide +kernel
theorem dX2_guarantorOf_25 : decode cX2_guarantorOf 25 = .ok (.iload_n 1, 1) := by decide +kernel
theorem dX2_guarantorOf_26 : decode cX2_guarantorOf 26 = .ok (.iload_n 2, 1) := by decide +kernel
theorem dX2_guarantorOf_27 : decode cX2_guarantorOf 27 = .ok (.iastore, 1) := by decide +kernel
theorem dX2_guarantorOf_28 : decode cX2_guarantorOf 28 = .ok (.iconst 1, 1) := by decide +kernel
theorem dX2_guarantorOf_29 : decode cX2_guarantorOf 29 = .ok (.ireturn, 1) := by decide +kernel
theorem dX2_markOf_0 : decode cX2_markOf 0 = .ok (.aload_n 0, 1) := by decide +kernel
theorem dX2_markOf_1 : decode cX2_markOf 1 = .ok (.getfield 10, 3) := by decide +kernel
theorem dX2_markOf_4 : decode cX2_markOf 4 = .ok (.getfield 76, 3) := by decide +kernel
theorem dX2_markOf_7 : decode cX2_markOf 7 = .ok (.iload_n 1, 1) := by decide +kernel
theorem dX2_markOf_8 : decode cX2_markOf 8 = .ok (.iload_n 2, 1) := by decide +kernel
theorem dX2_markOf_9 : decode cX2_markOf 9 = .ok (.bastore, 1) := by decide +kernel
theorem dX2_markOf_10 : decode cX2_markOf 10 = .ok (.iconst 1, 1) := by decide +kernel
theorem dX2_markOf_11 : decode cX2_markOf 11 = .ok (.ireturn, 1) := by decide +kernel
set_option maxRecDepth 20000 in
theorem ggX2_gift_X3_mayReceive : GoodIn wsX2_gift wsX3_mayReceive := goodIn_r _ [6, 7, 15, 16, 17, 18, 19, 20, 21, 22, 23, 24, 25, 26, 27, 28, 29, 30, 31] (by decide +kernel) (by decide +kernel)
set_option maxRecDepth 20000 in
theorem gX2_gift_X3_mayReceive : GoodIn wsX2_gift (wsV RX2 79 RX3 yX3_mayReceive wsX3_mayReceive) := goodIn_app (goodIn_of _ (by decide +kernel)) ggX2_gift_X3_mayReceive
set_option maxRecDepth 20000 in
theorem ggX2_gift_X3_receive : GoodIn wsX2_gift wsX3_receive := goodIn_r _ [11, 12, 7, 15, 16, 17, 18, 19, 20, 21, 22, 23, 24, 25, 26, 27, 28, 29, 30, 31] (by decide +kernel) (by decide +kernel)
set_option maxRecDepth 20000 in
theorem gX2_gift_X3_receive : GoodIn wsX2_gift (wsV RX2 82 RX3 yX3_receive wsX3_receive) := goodIn_app (goodIn_of _ (by decide +kernel)) ggX2_gift_X3_receive
theorem dX2_gift_0 : decode cX2_gift 0 = .ok (.iload_n 2, 1) := by decide +kernel
theorem dX2_gift_1 : decode cX2_gift 1 = .ok (.ifCond .eq 14, 3) := by decide +kernel
theorem dX2_gift_4 : decode cX2_gift 4 = .ok (.aload_n 0, 1) := by decide +kernel
theorem dX2_gift_5 : decode cX2_gift 5 = .ok (.getfield 10, 3) := by decide +kernel
theorem dX2_gift_8 : decode cX2_gift 8 = .ok (.iload_n 2, 1) := by decide +kernel
theorem dX2_gift_9 : decode cX2_gift 9 = .ok (.invokevirtual 79, 3) := by decide +kernel
theorem dX2_gift_12 : decode cX2_gift 12 = .ok (.ifCond .ne 5, 3) := by decide +kernel
theorem dX2_gift_15 : decode cX2_gift 15 = .ok (.iconst 0, 1) := by decide +kernel
theorem dX2_gift_16 : decode cX2_gift 16 = .ok (.ireturn, 1) := by decide +kernel
theorem dX2_gift_17 : decode cX2_gift 17 = .ok (.aload_n 0, 1) := by decide +kernel
theorem dX2_gift_18 : decode cX2_gift 18 = .ok (.getfield 10, 3) := by decide +kernel
theorem dX2_gift_21 : decode cX2_gift 21 = .ok (.iload_n 1, 1) := by decide +kernel
theorem dX2_gift_22 : decode cX2_gift 22 = .ok (.iload_n 2, 1) := by decide +kernel
theorem dX2_gift_23 : decode cX2_gift 23 = .ok (.invokevirtual 82, 3) := by decide +kernel
theorem dX2_gift_26 : decode cX2_gift 26 = .ok (.iconst 1, 1) := by decide +kernel
theorem dX2_gift_27 : decode cX2_gift 27 = .ok (.ireturn, 1) := by decide +kernel
set_option maxRecDepth 20000 in
theorem ggX2_going_X3_mayGo : GoodIn wsX2_going wsX3_mayGo := goodIn_r _ [6, 7, 8, 9, 10, 11, 5, 12, 13, 14, 15, 16, 17, 18, 19, 20, 21, 22, 23, 24, 25, 32, 33, 34, 35, 36, 37, 38, 39, 40, 41, 42, 43, 44, 45, 46, 47, 48] (by decide +kernel) (by decide +kernel)
set_option maxRecDepth 20000 in
theorem gX2_going_X3_mayGo : GoodIn wsX2_going (wsV RX2 86 RX3 yX3_mayGo wsX3_mayGo) := goodIn_app (goodIn_of _ (by decide +kernel)) ggX2_going_X3_mayGo
set_option maxRecDepth 20000 in
theorem ggX2_going_X3_go : GoodIn wsX2_going wsX3_go := goodIn_r _ [29, 8, 16, 7, 9, 10, 11, 5, 12, 13, 14, 15, 17, 18, 19, 20, 21, 22, 23, 24, 25, 32, 33, 34, 35, 36, 37, 38, 39, 40, 41, 42, 43, 44, 45, 46, 47, 48] (by decide +kernel) (by decide +kernel)
set_option maxRecDepth 20000 in
theorem gX2_going_X3_go : GoodIn wsX2_going (wsV RX2 89 RX3 yX3_go wsX3_go) := goodIn_app (goodIn_of _ (by decide +kernel)) ggX2_going_X3_go
theorem dX2_going_0 : decode cX2_going 0 = .ok (.aload_n 0, 1) := by decide +kernel
theorem dX2_going_1 : decode cX2_going 1 = .ok (.getfield 10, 3) := by decide +kernel
theorem dX2_going_4 : decode cX2_going 4 = .ok (.iload_n 1, 1) := by decide +kernel
theorem dX2_going_5 : decode cX2_going 5 = .ok (.invokevirtual 86, 3) := by decide +kernel
theorem dX2_going_8 : decode cX2_going 8 = .ok (.ifCond .ne 5, 3) := by decide +kernel
theorem dX2_going_11 : decode cX2_going 11 = .ok (.iconst 0, 1) := by decide +kernel
theorem dX2_going_12 : decode cX2_going 12 = .ok (.ireturn, 1) := by decide +kernel
theorem dX2_going_13 : decode cX2_going 13 = .ok (.aload_n 0, 1) := by decide +kernel
theorem dX2_going_14 : decode cX2_going 14 = .ok (.getfield 10, 3) := by decide +kernel
theorem dX2_going_17 : decode cX2_going 17 = .ok (.iload_n 1, 1) := by decide +kernel
theorem dX2_going_18 : decode cX2_going 18 = .ok (.invokevirtual 89, 3) := by decide +kernel
theorem dX2_going_21 : decode cX2_going 21 = .ok (.pop, 1) := by decide +kernel
theorem dX2_going_22 : decode cX2_going 22 = .ok (.iconst 1, 1) := by decide +kernel
theorem dX2_going_23 : decode cX2_going 23 = .ok (.ireturn, 1) := by decide +kernel
set_option maxRecDepth 20000 in
theorem ggX2_owesAtMost_X3_exists : GoodIn wsX2_owesAtMost wsX3_exists := goodIn_r _ [7, 8, 14, 15, 16, 17, 18, 19, 20, 21, 22, 23, 24, 25, 26, 27, 28, 29, 30] (by decide +kernel) (by decide +kernel)
set_option maxRecDepth 20000 in
theorem gX2_owesAtMost_X3_exists : GoodIn wsX2_owesAtMost (wsV RX2 27 RX3 yX3_exists wsX3_exists) := goodIn_app (goodIn_of _ (by decide +kernel)) ggX2_owesAtMost_X3_exists
set_option maxRecDepth 20000 in
theorem ggX2_owesAtMost_X3_pair : GoodIn wsX2_owesAtMost wsX3_pair := goodIn_r _ [11] (by decide +kernel) (by decide +kernel)
set_option maxRecDepth 20000 in
theorem gX2_owesAtMost_X3_pair : GoodIn wsX2_owesAtMost (va_wsS RX2 96 yX3_pair wsX3_pair) := goodIn_app (goodIn_of _ (by decide +kernel)) ggX2_owesAtMost_X3_pair
theorem dX2_owesAtMost_0 : decode cX2_owesAtMost 0 = .ok (.aload_n 0, 1) := by decide +kernel
theorem dX2_owesAtMost_1 : decode cX2_owesAtMost 1 = .ok (.getfield 10, 3) := by decide +kernel
theorem dX2_owesAtMost_4 : decode cX2_owesAtMost 4 = .ok (.iload_n 2, 1) := by decide +kernel
theorem dX2_owesAtMost_5 : decode cX2_owesAtMost 5 = .ok (.invokevirtual 27, 3) := by decide +kernel
theorem dX2_owesAtMost_8 : decode cX2_owesAtMost 8 = .ok (.ifCond .eq 29, 3) := by decide +kernel
theorem dX2_owesAtMost_11 : decode cX2_owesAtMost 11 = .ok (.iload_n 1, 1) := by decide +kernel
theorem dX2_owesAtMost_12 : decode cX2_owesAtMost 12 = .ok (.iload_n 2, 1) := by decide +kernel
theorem dX2_owesAtMost_13 : decode cX2_owesAtMost 13 = .ok (.if_icmp .eq 24, 3) := by decide +kernel
theorem dX2_owesAtMost_16 : decode cX2_owesAtMost 16 = .ok (.aload_n 0, 1) := by decide +kernel
theorem dX2_owesAtMost_17 : decode cX2_owesAtMost 17 = .ok (.getfield 10, 3) := by decide +kernel
theorem dX2_owesAtMost_20 : decode cX2_owesAtMost 20 = .ok (.getfield 93, 3) := by decide +kernel
theorem dX2_owesAtMost_23 : decode cX2_owesAtMost 23 = .ok (.iload_n 1, 1) := by decide +kernel
theorem dX2_owesAtMost_24 : decode cX2_owesAtMost 24 = .ok (.iload_n 2, 1) := by decide +kernel
theorem dX2_owesAtMost_25 : decode cX2_owesAtMost 25 = .ok (.invokestatic 96, 3) := by decide +kernel
theorem dX2_owesAtMost_28 : decode cX2_owesAtMost 28 = .ok (.iaload, 1) := by decide +kernel
theorem dX2_owesAtMost_29 : decode cX2_owesAtMost 29 = .ok (.iload_n 3, 1) := by decide +kernel
theorem dX2_owesAtMost_30 : decode cX2_owesAtMost 30 = .ok (.if_icmp .gt 7, 3) := by decide +kernel
theorem dX2_owesAtMost_33 : decode cX2_owesAtMost 33 = .ok (.iconst 1, 1) := by decide +kernel
theorem dX2_owesAtMost_34 : decode cX2_owesAtMost 34 = .ok (.goto 4, 3) := by decide +kernel
theorem dX2_owesAtMost_37 : decode cX2_owesAtMost 37 = .ok (.iconst 0, 1) := by decide +kernel
theorem dX2_owesAtMost_38 : decode cX2_owesAtMost 38 = .ok (.ireturn, 1) := by decide +kernel
theorem dX3_init_0 : decode cX3_init 0 = .ok (.aload_n 0, 1) := by decide +kernel
theorem dX3_init_1 : decode cX3_init 1 = .ok (.invokespecial 3, 3) := by decide +kernel
theorem dX3_init_4 : decode cX3_init 4 = .ok (.aload_n 0, 1) := by decide +kernel
theorem dX3_init_5 : decode cX3_init 5 = .ok (.bipush 10, 2) := by decide +kernel
theorem dX3_init_7 : decode cX3_init 7 = .ok (.putfield 9, 3) := by decide +kernel
theorem dX3_init_10 : decode cX3_init 10 = .ok (.aload_n 0, 1) := by decide +kernel
theorem dX3_init_11 : decode cX3_init 11 = .ok (.bipush 8, 2) := by decide +kernel
theorem dX3_init_13 : decode cX3_init 13 = .ok (.newarray .int, 2) := by decide +kernel
theorem dX3_init_15 : decode cX3_init 15 = .ok (.putfield 15, 3) := by decide +kernel
theorem dX3_init_18 : decode cX3_init 18 = .ok (.aload_n 0, 1) := by decide +kernel
theorem dX3_init_19 : decode cX3_init 19 = .ok (.bipush 8, 2) := by decide +kernel
theorem dX3_init_21 : decode cX3_init 21 = .ok (.newarray .int, 2) := by decide +kernel
theorem dX3_init_23 : decode cX3_init 23 = .ok (.putfield 19, 3) := by decide +kernel
theorem dX3_init_26 : decode cX3_init 26 = .ok (.aload_n 0, 1) := by decide +kernel
theorem dX3_init_27 : decode cX3_init 27 = .ok (.bipush 8, 2) := by decide +kernel
theorem dX3_init_29 : decode cX3_init 29 = .ok (.newarray .int, 2) := by decide +kernel
theorem dX3_init_31 : decode cX3_init 31 = .ok (.putfield 22, 3) := by decide +kernel
theorem dX3_init_34 : decode cX3_init 34 = .ok (.aload_n 0, 1) := by decide +kernel
theorem dX3_init_35 : decode cX3_init 35 = .ok (.bipush 8, 2) := by decide +kernel
theorem dX3_init_37 : decode cX3_init 37 = .ok (.newarray .boolean, 2) := by decide +kernel
theorem dX3_init_39 : decode cX3_init 39 = .ok (.putfield 25, 3) := by decide +kernel
theorem dX3_init_42 : decode cX3_init 42 = .ok (.aload_n 0, 1) := by decide +kernel
theorem dX3_init_43 : decode cX3_init 43 = .ok (.bipush 8, 2) := by decide +kernel
theorem dX3_init_45 : decode cX3_init 45 = .ok (.newarray .boolean, 2) := by decide +kernel
theorem dX3_init_47 : decode cX3_init 47 = .ok (.putfield 29, 3) := by decide +kernel
theorem dX3_init_50 : decode cX3_init 50 = .ok (.aload_n 0, 1) := by decide +kernel
theorem dX3_init_51 : decode cX3_init 51 = .ok (.bipush 8, 2) := by decide +kernel
theorem dX3_init_53 : decode cX3_init 53 = .ok (.newarray .boolean, 2) := by decide +kernel
theorem dX3_init_55 : decode cX3_init 55 = .ok (.putfield 32, 3) := by decide +kernel
theorem dX3_init_58 : decode cX3_init 58 = .ok (.aload_n 0, 1) := by decide +kernel
theorem dX3_init_59 : decode cX3_init 59 = .ok (.bipush 8, 2) := by decide +kernel
theorem dX3_init_61 : decode cX3_init 61 = .ok (.newarray .int, 2) := by decide +kernel
theorem dX3_init_63 : decode cX3_init 63 = .ok (.putfield 35, 3) := by decide +kernel
theorem dX3_init_66 : decode cX3_init 66 = .ok (.aload_n 0, 1) := by decide +kernel
theorem dX3_init_67 : decode cX3_init 67 = .ok (.bipush 8, 2) := by decide +kernel
theorem dX3_init_69 : decode cX3_init 69 = .ok (.newarray .int, 2) := by decide +kernel
theorem dX3_init_71 : decode cX3_init 71 = .ok (.putfield 38, 3) := by decide +kernel
theorem dX3_init_74 : decode cX3_init 74 = .ok (.aload_n 0, 1) := by decide +kernel
theorem dX3_init_75 : decode cX3_init 75 = .ok (.bipush 8, 2) := by decide +kernel
theorem dX3_init_77 : decode cX3_init 77 = .ok (.newarray .int, 2) := by decide +kernel
theorem dX3_init_79 : decode cX3_init 79 = .ok (.putfield 41, 3) := by decide +kernel
theorem dX3_init_82 : decode cX3_init 82 = .ok (.aload_n 0, 1) := by decide +kernel
theorem dX3_init_83 : decode cX3_init 83 = .ok (.bipush 8, 2) := by decide +kernel
theorem dX3_init_85 : decode cX3_init 85 = .ok (.newarray .int, 2) := by decide +kernel
theorem dX3_init_87 : decode cX3_init 87 = .ok (.putfield 44, 3) := by decide +kernel
theorem dX3_init_90 : decode cX3_init 90 = .ok (.aload_n 0, 1) := by decide +kernel
theorem dX3_init_91 : decode cX3_init 91 = .ok (.bipush 8, 2) := by decide +kernel
theorem dX3_init_93 : decode cX3_init 93 = .ok (.newarray .int, 2) := by decide +kernel
theorem dX3_init_95 : decode cX3_init 95 = .ok (.putfield 47, 3) := by decide +kernel
theorem dX3_init_98 : decode cX3_init 98 = .ok (.aload_n 0, 1) := by decide +kernel
theorem dX3_init_99 : decode cX3_init 99 = .ok (.bipush 64, 2) := by decide +kernel
theorem dX3_init_101 : decode cX3_init 101 = .ok (.newarray .int, 2) := by decide +kernel
theorem dX3_init_103 : decode cX3_init 103 = .ok (.putfield 50, 3) := by decide +kernel
theorem dX3_init_106 : decode cX3_init 106 = .ok (.return_, 1) := by decide +kernel
theorem dX3_pair_0 : decode cX3_pair 0 = .ok (.iload_n 0, 1) := by decide +kernel
theorem dX3_pair_1 : decode cX3_pair 1 = .ok (.bipush 8, 2) := by decide +kernel
theorem dX3_pair_3 : decode cX3_pair 3 = .ok (.imul, 1) := by decide +kernel
theorem dX3_pair_4 : decode cX3_pair 4 = .ok (.iload_n 1, 1) := by decide +kernel
theorem dX3_pair_5 : decode cX3_pair 5 = .ok (.iadd, 1) := by decide +kernel
theorem dX3_pair_6 : decode cX3_pair 6 = .ok (.ireturn, 1) := by decide +kernel
theorem dX3_copyFrom_0 : decode cX3_copyFrom 0 = .ok (.aload_n 0, 1) := by decide +kernel
theorem dX3_copyFrom_1 : decode cX3_copyFrom 1 = .ok (.aload_n 1, 1) := by decide +kernel
theorem dX3_copyFrom_2 : decode cX3_copyFrom 2 = .ok (.getfield 53, 3) := by decide +kernel
theorem dX3_copyFrom_5 : decode cX3_copyFrom 5 = .ok (.putfield 53, 3) := by decide +kernel
theorem dX3_copyFrom_8 : decode cX3_copyFrom 8 = .ok (.aload_n 0, 1) := by decide +kernel
theorem dX3_copyFrom_9 : decode cX3_copyFrom 9 = .ok (.aload_n 1, 1) := by decide +kernel
theorem dX3_copyFrom_10 : decode cX3_copyFrom 10 = .ok (.getfield 56, 3) := by decide +kernel
theorem dX3_copyFrom_13 : decode cX3_copyFrom 13 = .ok (.putfield 56, 3) := by decide +kernel
theorem dX3_copyFrom_16 : decode cX3_copyFrom 16 = .ok (.aload_n 0, 1) := by decide +kernel
theorem dX3_copyFrom_17 : decode cX3_copyFrom 17 = .ok (.aload_n 1, 1) := by decide +kernel
theorem dX3_copyFrom_18 : decode cX3_copyFrom 18 = .ok (.getfield 9, 3) := by decide +kernel
theorem dX3_copyFrom_21 : decode cX3_copyFrom 21 = .ok (.putfield 9, 3) := by decide +kernel
theorem dX3_copyFrom_24 : decode cX3_copyFrom 24 = .ok (.aload_n 0, 1) := by decide +kernel
theorem dX3_copyFrom_25 : decode cX3_copyFrom 25 = .ok (.aload_n 1, 1) := by decide +kernel
theorem dX3_copyFrom_26 : decode cX3_copyFrom 26 = .ok (.getfield 59, 3) := by decide +kernel
theorem dX3_copyFrom_29 : decode cX3_copyFrom 29 = .ok (.putfield 59, 3) := by decide +kernel
theorem dX3_copyFrom_32 : decode cX3_copyFrom 32 = .ok (.aload_n 0, 1) := by decide +kernel
theorem dX3_copyFrom_33 : decode cX3_copyFrom 33 = .ok (.aload_n 1, 1) := by decide +kernel
theorem dX3_copyFrom_34 : decode cX3_copyFrom 34 = .ok (.getfield 62, 3) := by decide +kernel
theorem dX3_copyFrom_37 : decode cX3_copyFrom 37 = .ok (.putfield 62, 3) := by decide +kernel
theorem dX3_copyFrom_40 : decode cX3_copyFrom 40 = .ok (.iconst 0, 1) := by decide +kernel
theorem dX3_copyFrom_41 : decode cX3_copyFrom 41 = .ok (.istore_n 2, 1) := by decide +kernel
theorem dX3_copyFrom_42 : decode cX3_copyFrom 42 = .ok (.iload_n 2, 1) := by decide +kernel
theorem dX3_copyFrom_43 : decode cX3_copyFrom 43 = .ok (.bipush 8, 2) := by decide +kernel
theorem dX3_copyFrom_45 : decode cX3_copyFrom 45 = .ok (.if_icmp .ge 141, 3) := by decide +kernel
theorem dX3_copyFrom_48 : decode cX3_copyFrom 48 = .ok (.aload_n 0, 1) := by decide +kernel
theorem dX3_copyFrom_49 : decode cX3_copyFrom 49 = .ok (.getfield 15, 3) := by decide +kernel
theorem dX3_copyFrom_52 : decode cX3_copyFrom 52 = .ok (.iload_n 2, 1) := by decide +kernel
theorem dX3_copyFrom_53 : decode cX3_copyFrom 53 = .ok (.aload_n 1, 1) := by decide +kernel
theorem dX3_copyFrom_54 : decode cX3_copyFrom 54 = .ok (.getfield 15, 3) := by decide +kernel
theorem dX3_copyFrom_57 : decode cX3_copyFrom 57 = .ok (.iload_n 2, 1) := by decide +kernel
theorem dX3_copyFrom_58 : decode cX3_copyFrom 58 = .ok (.iaload, 1) := by decide +kernel
theorem dX3_copyFrom_59 : decode cX3_copyFrom 59 = .ok (.iastore, 1) := by decide +kernel
theorem dX3_copyFrom_60 : decode cX3_copyFrom 60 = .ok (.aload_n 0, 1) := by decide +kernel
theorem dX3_copyFrom_61 : decode cX3_copyFrom 61 = .ok (.getfield 19, 3) := by decide +kernel
theorem dX3_copyFrom_64 : decode cX3_copyFrom 64 = .ok (.iload_n 2, 1) := by decide +kernel
theorem dX3_copyFrom_65 : decode cX3_copyFrom 65 = .ok (.aload_n 1, 1) := by decide +kernel
theorem dX3_copyFrom_66 : decode cX3_copyFrom 66 = .ok (.getfield 19, 3) := by decide +kernel
theorem dX3_copyFrom_69 : decode cX3_copyFrom 69 = .ok (.iload_n 2, 1) := by decide +kernel
theorem dX3_copyFrom_70 : decode cX3_copyFrom 70 = .ok (.iaload, 1) := by decide +kernel
theorem dX3_copyFrom_71 : decode cX3_copyFrom 71 = .ok (.iastore, 1) := by decide +kernel
theorem dX3_copyFrom_72 : decode cX3_copyFrom 72 = .ok (.aload_n 0, 1) := by decide +kernel
theorem dX3_copyFrom_73 : decode cX3_copyFrom 73 = .ok (.getfield 22, 3) := by decide +kernel
theorem dX3_copyFrom_76 : decode cX3_copyFrom 76 = .ok (.iload_n 2, 1) := by decide +kernel
theorem dX3_copyFrom_77 : decode cX3_copyFrom 77 = .ok (.aload_n 1, 1) := by decide +kernel
theorem dX3_copyFrom_78 : decode cX3_copyFrom 78 = .ok (.getfield 22, 3) := by decide +kernel
theorem dX3_copyFrom_81 : decode cX3_copyFrom 81 = .ok (.iload_n 2, 1) := by decide +kernel
theorem dX3_copyFrom_82 : decode cX3_copyFrom 82 = .ok (.iaload, 1) := by decide +kernel
theorem dX3_copyFrom_83 : decode cX3_copyFrom 83 = .ok (.iastore, 1) := by decide +kernel
theorem dX3_copyFrom_84 : decode cX3_copyFrom 84 = .ok (.aload_n 0, 1) := by decide +kernel
theorem dX3_copyFrom_85 : decode cX3_copyFrom 85 = .ok (.getfield 25, 3) := by decide +kernel
theorem dX3_copyFrom_88 : decode cX3_copyFrom 88 = .ok (.iload_n 2, 1) := by decide +kernel
theorem dX3_copyFrom_89 : decode cX3_copyFrom 89 = .ok (.aload_n 1, 1) := by decide +kernel
theorem dX3_copyFrom_90 : decode cX3_copyFrom 90 = .ok (.getfield 25, 3) := by decide +kernel
theorem dX3_copyFrom_93 : decode cX3_copyFrom 93 = .ok (.iload_n 2, 1) := by decide +kernel
theorem dX3_copyFrom_94 : decode cX3_copyFrom 94 = .ok (.baload, 1) := by decide +kernel
theorem dX3_copyFrom_95 : decode cX3_copyFrom 95 = .ok (.bastore, 1) := by decide +kernel
theorem dX3_copyFrom_96 : decode cX3_copyFrom 96 = .ok (.aload_n 0, 1) := by decide +kernel
theorem dX3_copyFrom_97 : decode cX3_copyFrom 97 = .ok (.getfield 29, 3) := by decide +kernel
theorem dX3_copyFrom_100 : decode cX3_copyFrom 100 = .ok (.iload_n 2, 1) := by decide +kernel
theorem dX3_copyFrom_101 : decode cX3_copyFrom 101 = .ok (.aload_n 1, 1) := by decide +kernel
theorem dX3_copyFrom_102 : decode cX3_copyFrom 102 = .ok (.getfield 29, 3) := by decide +kernel
theorem dX3_copyFrom_105 : decode cX3_copyFrom 105 = .ok (.iload_n 2, 1) := by decide +kernel
theorem dX3_copyFrom_106 : decode cX3_copyFrom 106 = .ok (.baload, 1) := by decide +kernel
theorem dX3_copyFrom_107 : decode cX3_copyFrom 107 = .ok (.bastore, 1) := by decide +kernel
theorem dX3_copyFrom_108 : decode cX3_copyFrom 108 = .ok (.aload_n 0, 1) := by decide +kernel
theorem dX3_copyFrom_109 : decode cX3_copyFrom 109 = .ok (.getfield 32, 3) := by decide +kernel
theorem dX3_copyFrom_112 : decode cX3_copyFrom 112 = .ok (.iload_n 2, 1) := by decide +kernel
theorem dX3_copyFrom_113 : decode cX3_copyFrom 113 = .ok (.aload_n 1, 1) := by decide +kernel
theorem dX3_copyFrom_114 : decode cX3_copyFrom 114 = .ok (.getfield 32, 3) := by decide +kernel
theorem dX3_copyFrom_117 : decode cX3_copyFrom 117 = .ok (.iload_n 2, 1) := by decide +kernel
theorem dX3_copyFrom_118 : decode cX3_copyFrom 118 = .ok (.baload, 1) := by decide +kernel
theorem dX3_copyFrom_119 : decode cX3_copyFrom 119 = .ok (.bastore, 1) := by decide +kernel
theorem dX3_copyFrom_120 : decode cX3_copyFrom 120 = .ok (.aload_n 0, 1) := by decide +kernel
theorem dX3_copyFrom_121 : decode cX3_copyFrom 121 = .ok (.getfield 35, 3) := by decide +kernel
theorem dX3_copyFrom_124 : decode cX3_copyFrom 124 = .ok (.iload_n 2, 1) := by decide +kernel
theorem dX3_copyFrom_125 : decode cX3_copyFrom 125 = .ok (.aload_n 1, 1) := by decide +kernel
theorem dX3_copyFrom_126 : decode cX3_copyFrom 126 = .ok (.getfield 35, 3) := by decide +kernel
theorem dX3_copyFrom_129 : decode cX3_copyFrom 129 = .ok (.iload_n 2, 1) := by decide +kernel
theorem dX3_copyFrom_130 : decode cX3_copyFrom 130 = .ok (.iaload, 1) := by decide +kernel
theorem dX3_copyFrom_131 : decode cX3_copyFrom 131 = .ok (.iastore, 1) := by decide +kernel
theorem dX3_copyFrom_132 : decode cX3_copyFrom 132 = .ok (.aload_n 0, 1) := by decide +kernel
theorem dX3_copyFrom_133 : decode cX3_copyFrom 133 = .ok (.getfield 38, 3) := by decide +kernel
theorem dX3_copyFrom_136 : decode cX3_copyFrom 136 = .ok (.iload_n 2, 1) := by decide +kernel
theorem dX3_copyFrom_137 : decode cX3_copyFrom 137 = .ok (.aload_n 1, 1) := by decide +kernel
theorem dX3_copyFrom_138 : decode cX3_copyFrom 138 = .ok (.getfield 38, 3) := by decide +kernel
theorem dX3_copyFrom_141 : decode cX3_copyFrom 141 = .ok (.iload_n 2, 1) := by decide +kernel
theorem dX3_copyFrom_142 : decode cX3_copyFrom 142 = .ok (.iaload, 1) := by decide +kernel
theorem dX3_copyFrom_143 : decode cX3_copyFrom 143 = .ok (.iastore, 1) := by decide +kernel
theorem dX3_copyFrom_144 : decode cX3_copyFrom 144 = .ok (.aload_n 0, 1) := by decide +kernel
theorem dX3_copyFrom_145 : decode cX3_copyFrom 145 = .ok (.getfield 41, 3) := by decide +kernel
theorem dX3_copyFrom_148 : decode cX3_copyFrom 148 = .ok (.iload_n 2, 1) := by decide +kernel
theorem dX3_copyFrom_149 : decode cX3_copyFrom 149 = .ok (.aload_n 1, 1) := by decide +kernel
theorem dX3_copyFrom_150 : decode cX3_copyFrom 150 = .ok (.getfield 41, 3) := by decide +kernel
theorem dX3_copyFrom_153 : decode cX3_copyFrom 153 = .ok (.iload_n 2, 1) := by decide +kernel
theorem dX3_copyFrom_154 : decode cX3_copyFrom 154 = .ok (.iaload, 1) := by decide +kernel
theorem dX3_copyFrom_155 : decode cX3_copyFrom 155 = .ok (.iastore, 1) := by decide +kernel
theorem dX3_copyFrom_156 : decode cX3_copyFrom 156 = .ok (.aload_n 0, 1) := by decide +kernel
theorem dX3_copyFrom_157 : decode cX3_copyFrom 157 = .ok (.getfield 44, 3) := by decide +kernel
theorem dX3_copyFrom_160 : decode cX3_copyFrom 160 = .ok (.iload_n 2, 1) := by decide +kernel
theorem dX3_copyFrom_161 : decode cX3_copyFrom 161 = .ok (.aload_n 1, 1) := by decide +kernel
theorem dX3_copyFrom_162 : decode cX3_copyFrom 162 = .ok (.getfield 44, 3) := by decide +kernel
theorem dX3_copyFrom_165 : decode cX3_copyFrom 165 = .ok (.iload_n 2, 1) := by decide +kernel
theorem dX3_copyFrom_166 : decode cX3_copyFrom 166 = .ok (.iaload, 1) := by decide +kernel
theorem dX3_copyFrom_167 : decode cX3_copyFrom 167 = .ok (.iastore, 1) := by decide +kernel
theorem dX3_copyFrom_168 : decode cX3_copyFrom 168 = .ok (.aload_n 0, 1) := by decide +kernel
theorem dX3_copyFrom_169 : decode cX3_copyFrom 169 = .ok (.getfield 47, 3) := by decide +kernel
theorem dX3_copyFrom_172 : decode cX3_copyFrom 172 = .ok (.iload_n 2, 1) := by decide +kernel
theorem dX3_copyFrom_173 : decode cX3_copyFrom 173 = .ok (.aload_n 1, 1) := by decide +kernel
theorem dX3_copyFrom_174 : decode cX3_copyFrom 174 = .ok (.getfield 47, 3) := by decide +kernel
theorem dX3_copyFrom_177 : decode cX3_copyFrom 177 = .ok (.iload_n 2, 1) := by decide +kernel
theorem dX3_copyFrom_178 : decode cX3_copyFrom 178 = .ok (.iaload, 1) := by decide +kernel
theorem dX3_copyFrom_179 : decode cX3_copyFrom 179 = .ok (.iastore, 1) := by decide +kernel
theorem dX3_copyFrom_180 : decode cX3_copyFrom 180 = .ok (.iinc 2 1, 3) := by decide +kernel
theorem dX3_copyFrom_183 : decode cX3_copyFrom 183 = .ok (.goto (-141), 3) := by decide +kernel
theorem dX3_copyFrom_186 : decode cX3_copyFrom 186 = .ok (.iconst 0, 1) := by decide +kernel
theorem dX3_copyFrom_187 : decode cX3_copyFrom 187 = .ok (.istore_n 2, 1) := by decide +kernel
theorem dX3_copyFrom_188 : decode cX3_copyFrom 188 = .ok (.iload_n 2, 1) := by decide +kernel
theorem dX3_copyFrom_189 : decode cX3_copyFrom 189 = .ok (.aload_n 0, 1) := by decide +kernel
theorem dX3_copyFrom_190 : decode cX3_copyFrom 190 = .ok (.getfield 50, 3) := by decide +kernel
theorem dX3_copyFrom_193 : decode cX3_copyFrom 193 = .ok (.arraylength, 1) := by decide +kernel
theorem dX3_copyFrom_194 : decode cX3_copyFrom 194 = .ok (.if_icmp .ge 21, 3) := by decide +kernel
theorem dX3_copyFrom_197 : decode cX3_copyFrom 197 = .ok (.aload_n 0, 1) := by decide +kernel
theorem dX3_copyFrom_198 : decode cX3_copyFrom 198 = .ok (.getfield 50, 3) := by decide +kernel
theorem dX3_copyFrom_201 : decode cX3_copyFrom 201 = .ok (.iload_n 2, 1) := by decide +kernel
theorem dX3_copyFrom_202 : decode cX3_copyFrom 202 = .ok (.aload_n 1, 1) := by decide +kernel
theorem dX3_copyFrom_203 : decode cX3_copyFrom 203 = .ok (.getfield 50, 3) := by decide +kernel
theorem dX3_copyFrom_206 : decode cX3_copyFrom 206 = .ok (.iload_n 2, 1) := by decide +kernel
theorem dX3_copyFrom_207 : decode cX3_copyFrom 207 = .ok (.iaload, 1) := by decide +kernel
theorem dX3_copyFrom_208 : decode cX3_copyFrom 208 = .ok (.iastore, 1) := by decide +kernel
theorem dX3_copyFrom_209 : decode cX3_copyFrom 209 = .ok (.iinc 2 1, 3) := by decide +kernel
theorem dX3_copyFrom_212 : decode cX3_copyFrom 212 = .ok (.goto (-24), 3) := by decide +kernel
theorem dX3_copyFrom_215 : decode cX3_copyFrom 215 = .ok (.return_, 1) := by decide +kernel
theorem dX3_becomeEmpty_0 : decode cX3_becomeEmpty 0 = .ok (.aload_n 0, 1) := by decide +kernel
theorem dX3_becomeEmpty_1 : decode cX3_becomeEmpty 1 = .ok (.iconst 0, 1) := by decide +kernel
theorem dX3_becomeEmpty_2 : decode cX3_becomeEmpty 2 = .ok (.putfield 53, 3) := by decide +kernel
theorem dX3_becomeEmpty_5 : decode cX3_becomeEmpty 5 = .ok (.aload_n 0, 1) := by decide +kernel
theorem dX3_becomeEmpty_6 : decode cX3_becomeEmpty 6 = .ok (.iconst 0, 1) := by decide +kernel
theorem dX3_becomeEmpty_7 : decode cX3_becomeEmpty 7 = .ok (.putfield 56, 3) := by decide +kernel
theorem dX3_becomeEmpty_10 : decode cX3_becomeEmpty 10 = .ok (.aload_n 0, 1) := by decide +kernel
theorem dX3_becomeEmpty_11 : decode cX3_becomeEmpty 11 = .ok (.iload_n 1, 1) := by decide +kernel
theorem dX3_becomeEmpty_12 : decode cX3_becomeEmpty 12 = .ok (.putfield 9, 3) := by decide +kernel
theorem dX3_becomeEmpty_15 : decode cX3_becomeEmpty 15 = .ok (.aload_n 0, 1) := by decide +kernel
theorem dX3_becomeEmpty_16 : decode cX3_becomeEmpty 16 = .ok (.iconst 0, 1) := by decide +kernel
theorem dX3_becomeEmpty_17 : decode cX3_becomeEmpty 17 = .ok (.putfield 59, 3) := by decide +kernel
theorem dX3_becomeEmpty_20 : decode cX3_becomeEmpty 20 = .ok (.aload_n 0, 1) := by decide +kernel
theorem dX3_becomeEmpty_21 : decode cX3_becomeEmpty 21 = .ok (.iconst 0, 1) := by decide +kernel
theorem dX3_becomeEmpty_22 : decode cX3_becomeEmpty 22 = .ok (.putfield 62, 3) := by decide +kernel
theorem dX3_becomeEmpty_25 : decode cX3_becomeEmpty 25 = .ok (.iconst 0, 1) := by decide +kernel
theorem dX3_becomeEmpty_26 : decode cX3_becomeEmpty 26 = .ok (.istore_n 2, 1) := by decide +kernel
theorem dX3_becomeEmpty_27 : decode cX3_becomeEmpty 27 = .ok (.iload_n 2, 1) := by decide +kernel
theorem dX3_becomeEmpty_28 : decode cX3_becomeEmpty 28 = .ok (.aload_n 0, 1) := by decide +kernel
theorem dX3_becomeEmpty_29 : decode cX3_becomeEmpty 29 = .ok (.getfield 50, 3) := by decide +kernel
theorem dX3_becomeEmpty_32 : decode cX3_becomeEmpty 32 = .ok (.arraylength, 1) := by decide +kernel
theorem dX3_becomeEmpty_33 : decode cX3_becomeEmpty 33 = .ok (.if_icmp .ge 16, 3) := by decide +kernel
theorem dX3_becomeEmpty_36 : decode cX3_becomeEmpty 36 = .ok (.aload_n 0, 1) := by decide +kernel
theorem dX3_becomeEmpty_37 : decode cX3_becomeEmpty 37 = .ok (.getfield 50, 3) := by decide +kernel
theorem dX3_becomeEmpty_40 : decode cX3_becomeEmpty 40 = .ok (.iload_n 2, 1) := by decide +kernel
theorem dX3_becomeEmpty_41 : decode cX3_becomeEmpty 41 = .ok (.iconst 0, 1) := by decide +kernel
theorem dX3_becomeEmpty_42 : decode cX3_becomeEmpty 42 = .ok (.iastore, 1) := by decide +kernel
theorem dX3_becomeEmpty_43 : decode cX3_becomeEmpty 43 = .ok (.iinc 2 1, 3) := by decide +kernel
theorem dX3_becomeEmpty_46 : decode cX3_becomeEmpty 46 = .ok (.goto (-19), 3) := by decide +kernel
theorem dX3_becomeEmpty_49 : decode cX3_becomeEmpty 49 = .ok (.return_, 1) := by decide +kernel
theorem dX3_exists_0 : decode cX3_exists 0 = .ok (.iload_n 1, 1) := by decide +kernel
theorem dX3_exists_1 : decode cX3_exists 1 = .ok (.ifCond .lt 15, 3) := by decide +kernel
theorem dX3_exists_4 : decode cX3_exists 4 = .ok (.iload_n 1, 1) := by decide +kernel
theorem dX3_exists_5 : decode cX3_exists 5 = .ok (.aload_n 0, 1) := by decide +kernel
theorem dX3_exists_6 : decode cX3_exists 6 = .ok (.getfield 53, 3) := by decide +kernel
theorem dX3_exists_9 : decode cX3_exists 9 = .ok (.if_icmp .ge 7, 3) := by decide +kernel
theorem dX3_exists_12 : decode cX3_exists 12 = .ok (.iconst 1, 1) := by decide +kernel
theorem dX3_exists_13 : decode cX3_exists 13 = .ok (.goto 4, 3) := by decide +kernel
theorem dX3_exists_16 : decode cX3_exists 16 = .ok (.iconst 0, 1) := by decide +kernel
theorem dX3_exists_17 : decode cX3_exists 17 = .ok (.ireturn, 1) := by decide +kernel
theorem dX3_join_0 : decode cX3_join 0 = .ok (.aload_n 0, 1) := by decide +kernel
theorem dX3_join_1 : decode cX3_join 1 = .ok (.getfield 53, 3) := by decide +kernel
theorem dX3_join_4 : decode cX3_join 4 = .ok (.istore_n 2, 1) := by decide +kernel
theorem dX3_join_5 : decode cX3_join 5 = .ok (.aload_n 0, 1) := by decide +kernel
theorem dX3_join_6 : decode cX3_join 6 = .ok (.getfield 15, 3) := by decide +kernel
theorem dX3_join_9 : decode cX3_join 9 = .ok (.iload_n 2, 1) := by decide +kernel
theorem dX3_join_10 : decode cX3_join 10 = .ok (.iload_n 1, 1) := by decide +kernel
theorem dX3_join_11 : decode cX3_join 11 = .ok (.iastore, 1) := by decide +kernel
theorem dX3_join_12 : decode cX3_join 12 = .ok (.aload_n 0, 1) := by decide +kernel
theorem dX3_join_13 : decode cX3_join 13 = .ok (.getfield 19, 3) := by decide +kernel
theorem dX3_join_16 : decode cX3_join 16 = .ok (.iload_n 2, 1) := by decide +kernel
theorem dX3_join_17 : decode cX3_join 17 = .ok (.ldc 65, 2) := by decide +kernel
theorem dX3_join_19 : decode cX3_join 19 = .ok (.iastore, 1) := by decide +kernel
theorem dX3_join_20 : decode cX3_join 20 = .ok (.aload_n 0, 1) := by decide +kernel
theorem dX3_join_21 : decode cX3_join 21 = .ok (.getfield 22, 3) := by decide +kernel
theorem dX3_join_24 : decode cX3_join 24 = .ok (.iload_n 2, 1) := by decide +kernel
theorem dX3_join_25 : decode cX3_join 25 = .ok (.iconst 0, 1) := by decide +kernel
theorem dX3_join_26 : decode cX3_join 26 = .ok (.iastore, 1) := by decide +kernel
theorem dX3_join_27 : decode cX3_join 27 = .ok (.aload_n 0, 1) := by decide +kernel
theorem dX3_join_28 : decode cX3_join 28 = .ok (.getfield 25, 3) := by decide +kernel
theorem dX3_join_31 : decode cX3_join 31 = .ok (.iload_n 2, 1) := by decide +kernel
theorem dX3_join_32 : decode cX3_join 32 = .ok (.iconst 0, 1) := by decide +kernel
theorem dX3_join_33 : decode cX3_join 33 = .ok (.bastore, 1) := by decide +kernel
theorem dX3_join_34 : decode cX3_join 34 = .ok (.aload_n 0, 1) := by decide +kernel
theorem dX3_join_35 : decode cX3_join 35 = .ok (.getfield 29, 3) := by decide +kernel
theorem dX3_join_38 : decode cX3_join 38 = .ok (.iload_n 2, 1) := by decide +kernel
theorem dX3_join_39 : decode cX3_join 39 = .ok (.iconst 0, 1) := by decide +kernel
theorem dX3_join_40 : decode cX3_join 40 = .ok (.bastore, 1) := by decide +kernel
theorem dX3_join_41 : decode cX3_join 41 = .ok (.aload_n 0, 1) := by decide +kernel
theorem dX3_join_42 : decode cX3_join 42 = .ok (.getfield 32, 3) := by decide +kernel
theorem dX3_join_45 : decode cX3_join 45 = .ok (.iload_n 2, 1) := by decide +kernel
theorem dX3_join_46 : decode cX3_join 46 = .ok (.iconst 1, 1) := by decide +kernel
theorem dX3_join_47 : decode cX3_join 47 = .ok (.bastore, 1) := by decide +kernel
theorem dX3_join_48 : decode cX3_join 48 = .ok (.aload_n 0, 1) := by decide +kernel
theorem dX3_join_49 : decode cX3_join 49 = .ok (.getfield 35, 3) := by decide +kernel
theorem dX3_join_52 : decode cX3_join 52 = .ok (.iload_n 2, 1) := by decide +kernel
theorem dX3_join_53 : decode cX3_join 53 = .ok (.iconst 0, 1) := by decide +kernel
theorem dX3_join_54 : decode cX3_join 54 = .ok (.iastore, 1) := by decide +kernel
theorem dX3_join_55 : decode cX3_join 55 = .ok (.aload_n 0, 1) := by decide +kernel
theorem dX3_join_56 : decode cX3_join 56 = .ok (.getfield 38, 3) := by decide +kernel
theorem dX3_join_59 : decode cX3_join 59 = .ok (.iload_n 2, 1) := by decide +kernel
theorem dX3_join_60 : decode cX3_join 60 = .ok (.iconst 0, 1) := by decide +kernel
theorem dX3_join_61 : decode cX3_join 61 = .ok (.iastore, 1) := by decide +kernel
theorem dX3_join_62 : decode cX3_join 62 = .ok (.aload_n 0, 1) := by decide +kernel
theorem dX3_join_63 : decode cX3_join 63 = .ok (.getfield 41, 3) := by decide +kernel
theorem dX3_join_66 : decode cX3_join 66 = .ok (.iload_n 2, 1) := by decide +kernel
theorem dX3_join_67 : decode cX3_join 67 = .ok (.iconst 0, 1) := by decide +kernel
theorem dX3_join_68 : decode cX3_join 68 = .ok (.iastore, 1) := by decide +kernel
theorem dX3_join_69 : decode cX3_join 69 = .ok (.aload_n 0, 1) := by decide +kernel
theorem dX3_join_70 : decode cX3_join 70 = .ok (.getfield 44, 3) := by decide +kernel
theorem dX3_join_73 : decode cX3_join 73 = .ok (.iload_n 2, 1) := by decide +kernel
theorem dX3_join_74 : decode cX3_join 74 = .ok (.iconst 0, 1) := by decide +kernel
theorem dX3_join_75 : decode cX3_join 75 = .ok (.iastore, 1) := by decide +kernel
theorem dX3_join_76 : decode cX3_join 76 = .ok (.aload_n 0, 1) := by decide +kernel
theorem dX3_join_77 : decode cX3_join 77 = .ok (.getfield 47, 3) := by decide +kernel
theorem dX3_join_80 : decode cX3_join 80 = .ok (.iload_n 2, 1) := by decide +kernel
theorem dX3_join_81 : decode cX3_join 81 = .ok (.iconst 0, 1) := by decide +kernel
theorem dX3_join_82 : decode cX3_join 82 = .ok (.iastore, 1) := by decide +kernel
theorem dX3_join_83 : decode cX3_join 83 = .ok (.aload_n 0, 1) := by decide +kernel
theorem dX3_join_84 : decode cX3_join 84 = .ok (.dup, 1) := by decide +kernel
theorem dX3_join_85 : decode cX3_join 85 = .ok (.getfield 62, 3) := by decide +kernel
theorem dX3_join_88 : decode cX3_join 88 = .ok (.iload_n 1, 1) := by decide +kernel
theorem dX3_join_89 : decode cX3_join 89 = .ok (.iadd, 1) := by decide +kernel
theorem dX3_join_90 : decode cX3_join 90 = .ok (.putfield 62, 3) := by decide +kernel
theorem dX3_join_93 : decode cX3_join 93 = .ok (.aload_n 0, 1) := by decide +kernel
theorem dX3_join_94 : decode cX3_join 94 = .ok (.dup, 1) := by decide +kernel
theorem dX3_join_95 : decode cX3_join 95 = .ok (.getfield 53, 3) := by decide +kernel
theorem dX3_join_98 : decode cX3_join 98 = .ok (.iconst 1, 1) := by decide +kernel
theorem dX3_join_99 : decode cX3_join 99 = .ok (.iadd, 1) := by decide +kernel
theorem dX3_join_100 : decode cX3_join 100 = .ok (.putfield 53, 3) := by decide +kernel
theorem dX3_join_103 : decode cX3_join 103 = .ok (.iload_n 2, 1) := by decide +kernel
theorem dX3_join_104 : decode cX3_join 104 = .ok (.ireturn, 1) := by decide +kernel
theorem dX3_countInside_0 : decode cX3_countInside 0 = .ok (.iconst 0, 1) := by decide +kernel
theorem dX3_countInside_1 : decode cX3_countInside 1 = .ok (.istore_n 1, 1) := by decide +kernel
theorem dX3_countInside_2 : decode cX3_countInside 2 = .ok (.iconst 0, 1) := by decide +kernel
theorem dX3_countInside_3 : decode cX3_countInside 3 = .ok (.istore_n 2, 1) := by decide +kernel
theorem dX3_countInside_4 : decode cX3_countInside 4 = .ok (.iload_n 2, 1) := by decide +kernel
theorem dX3_countInside_5 : decode cX3_countInside 5 = .ok (.aload_n 0, 1) := by decide +kernel
theorem dX3_countInside_6 : decode cX3_countInside 6 = .ok (.getfield 53, 3) := by decide +kernel
theorem dX3_countInside_9 : decode cX3_countInside 9 = .ok (.if_icmp .ge 21, 3) := by decide +kernel
theorem dX3_countInside_12 : decode cX3_countInside 12 = .ok (.aload_n 0, 1) := by decide +kernel
theorem dX3_countInside_13 : decode cX3_countInside 13 = .ok (.getfield 32, 3) := by decide +kernel
theorem dX3_countInside_16 : decode cX3_countInside 16 = .ok (.iload_n 2, 1) := by decide +kernel
theorem dX3_countInside_17 : decode cX3_countInside 17 = .ok (.baload, 1) := by decide +kernel
theorem dX3_countInside_18 : decode cX3_countInside 18 = .ok (.ifCond .eq 6, 3) := by decide +kernel
theorem dX3_countInside_21 : decode cX3_countInside 21 = .ok (.iinc 1 1, 3) := by decide +kernel
theorem dX3_countInside_24 : decode cX3_countInside 24 = .ok (.iinc 2 1, 3) := by decide +kernel
theorem dX3_countInside_27 : decode cX3_countInside 27 = .ok (.goto (-23), 3) := by decide +kernel
theorem dX3_countInside_30 : decode cX3_countInside 30 = .ok (.iload_n 1, 1) := by decide +kernel
theorem dX3_countInside_31 : decode cX3_countInside 31 = .ok (.ireturn, 1) := by decide +kernel
theorem dX3_countWaiting_0 : decode cX3_countWaiting 0 = .ok (.iconst 0, 1) := by decide +kernel
theorem dX3_countWaiting_1 : decode cX3_countWaiting 1 = .ok (.istore_n 1, 1) := by decide +kernel
theorem dX3_countWaiting_2 : decode cX3_countWaiting 2 = .ok (.iconst 0, 1) := by decide +kernel
theorem dX3_countWaiting_3 : decode cX3_countWaiting 3 = .ok (.istore_n 2, 1) := by decide +kernel
theorem dX3_countWaiting_4 : decode cX3_countWaiting 4 = .ok (.iload_n 2, 1) := by decide +kernel
theorem dX3_countWaiting_5 : decode cX3_countWaiting 5 = .ok (.aload_n 0, 1) := by decide +kernel
theorem dX3_countWaiting_6 : decode cX3_countWaiting 6 = .ok (.getfield 53, 3) := by decide +kernel
theorem dX3_countWaiting_9 : decode cX3_countWaiting 9 = .ok (.if_icmp .ge 30, 3) := by decide +kernel
theorem dX3_countWaiting_12 : decode cX3_countWaiting 12 = .ok (.aload_n 0, 1) := by decide +kernel
theorem dX3_countWaiting_13 : decode cX3_countWaiting 13 = .ok (.getfield 32, 3) := by decide +kernel
theorem dX3_countWaiting_16 : decode cX3_countWaiting 16 = .ok (.iload_n 2, 1) := by decide +kernel
theorem dX3_countWaiting_17 : decode cX3_countWaiting 17 = .ok (.baload, 1) := by decide +kernel
theorem dX3_countWaiting_18 : decode cX3_countWaiting 18 = .ok (.ifCond .eq 15, 3) := by decide +kernel
theorem dX3_countWaiting_21 : decode cX3_countWaiting 21 = .ok (.aload_n 0, 1) := by decide +kernel
theorem dX3_countWaiting_22 : decode cX3_countWaiting 22 = .ok (.getfield 29, 3) := by decide +kernel
theorem dX3_countWaiting_25 : decode cX3_countWaiting 25 = .ok (.iload_n 2, 1) := by decide +kernel
theorem dX3_countWaiting_26 : decode cX3_countWaiting 26 = .ok (.baload, 1) := by decide +kernel
theorem dX3_countWaiting_27 : decode cX3_countWaiting 27 = .ok (.ifCond .ne 6, 3) := by decide +kernel
theorem dX3_countWaiting_30 : decode cX3_countWaiting 30 = .ok (.iinc 1 1, 3) := by decide +kernel
theorem dX3_countWaiting_33 : decode cX3_countWaiting 33 = .ok (.iinc 2 1, 3) := by decide +kernel
theorem dX3_countWaiting_36 : decode cX3_countWaiting 36 = .ok (.goto (-32), 3) := by decide +kernel
theorem dX3_countWaiting_39 : decode cX3_countWaiting 39 = .ok (.iload_n 1, 1) := by decide +kernel
theorem dX3_countWaiting_40 : decode cX3_countWaiting 40 = .ok (.ireturn, 1) := by decide +kernel
theorem dX3_countTaken_0 : decode cX3_countTaken 0 = .ok (.iconst 0, 1) := by decide +kernel
theorem dX3_countTaken_1 : decode cX3_countTaken 1 = .ok (.istore_n 1, 1) := by decide +kernel
theorem dX3_countTaken_2 : decode cX3_countTaken 2 = .ok (.iconst 0, 1) := by decide +kernel
theorem dX3_countTaken_3 : decode cX3_countTaken 3 = .ok (.istore_n 2, 1) := by decide +kernel
theorem dX3_countTaken_4 : decode cX3_countTaken 4 = .ok (.iload_n 2, 1) := by decide +kernel
theorem dX3_countTaken_5 : decode cX3_countTaken 5 = .ok (.aload_n 0, 1) := by decide +kernel
theorem dX3_countTaken_6 : decode cX3_countTaken 6 = .ok (.getfield 53, 3) := by decide +kernel
theorem dX3_countTaken_9 : decode cX3_countTaken 9 = .ok (.if_icmp .ge 21, 3) := by decide +kernel
theorem dX3_countTaken_12 : decode cX3_countTaken 12 = .ok (.aload_n 0, 1) := by decide +kernel
theorem dX3_countTaken_13 : decode cX3_countTaken 13 = .ok (.getfield 29, 3) := by decide +kernel
theorem dX3_countTaken_16 : decode cX3_countTaken 16 = .ok (.iload_n 2, 1) := by decide +kernel
theorem dX3_countTaken_17 : decode cX3_countTaken 17 = .ok (.baload, 1) := by decide +kernel
theorem dX3_countTaken_18 : decode cX3_countTaken 18 = .ok (.ifCond .eq 6, 3) := by decide +kernel
theorem dX3_countTaken_21 : decode cX3_countTaken 21 = .ok (.iinc 1 1, 3) := by decide +kernel
theorem dX3_countTaken_24 : decode cX3_countTaken 24 = .ok (.iinc 2 1, 3) := by decide +kernel
theorem dX3_countTaken_27 : decode cX3_countTaken 27 = .ok (.goto (-23), 3) := by decide +kernel
theorem dX3_countTaken_30 : decode cX3_countTaken 30 = .ok (.iload_n 1, 1) := by decide +kernel
theorem dX3_countTaken_31 : decode cX3_countTaken 31 = .ok (.ireturn, 1) := by decide +kernel
theorem dX3_sumOfPurses_0 : decode cX3_sumOfPurses 0 = .ok (.iconst 0, 1) := by decide +kernel
theorem dX3_sumOfPurses_1 : decode cX3_sumOfPurses 1 = .ok (.istore_n 1, 1) := by decide +kernel
theorem dX3_sumOfPurses_2 : decode cX3_sumOfPurses 2 = .ok (.iconst 0, 1) := by decide +kernel
theorem dX3_sumOfPurses_3 : decode cX3_sumOfPurses 3 = .ok (.istore_n 2, 1) := by decide +kernel
theorem dX3_sumOfPurses_4 : decode cX3_sumOfPurses 4 = .ok (.iload_n 2, 1) := by decide +kernel
theorem dX3_sumOfPurses_5 : decode cX3_sumOfPurses 5 = .ok (.aload_n 0, 1) := by decide +kernel
theorem dX3_sumOfPurses_6 : decode cX3_sumOfPurses 6 = .ok (.getfield 53, 3) := by decide +kernel
theorem dX3_sumOfPurses_9 : decode cX3_sumOfPurses 9 = .ok (.if_icmp .ge 18, 3) := by decide +kernel
theorem dX3_sumOfPurses_12 : decode cX3_sumOfPurses 12 = .ok (.iload_n 1, 1) := by decide +kernel
theorem dX3_sumOfPurses_13 : decode cX3_sumOfPurses 13 = .ok (.aload_n 0, 1) := by decide +kernel
theorem dX3_sumOfPurses_14 : decode cX3_sumOfPurses 14 = .ok (.getfield 15, 3) := by decide +kernel
theorem dX3_sumOfPurses_17 : decode cX3_sumOfPurses 17 = .ok (.iload_n 2, 1) := by decide +kernel
theorem dX3_sumOfPurses_18 : decode cX3_sumOfPurses 18 = .ok (.iaload, 1) := by decide +kernel
theorem dX3_sumOfPurses_19 : decode cX3_sumOfPurses 19 = .ok (.iadd, 1) := by decide +kernel
theorem dX3_sumOfPurses_20 : decode cX3_sumOfPurses 20 = .ok (.istore_n 1, 1) := by decide +kernel
theorem dX3_sumOfPurses_21 : decode cX3_sumOfPurses 21 = .ok (.iinc 2 1, 3) := by decide +kernel
theorem dX3_sumOfPurses_24 : decode cX3_sumOfPurses 24 = .ok (.goto (-20), 3) := by decide +kernel
theorem dX3_sumOfPurses_27 : decode cX3_sumOfPurses 27 = .ok (.iload_n 1, 1) := by decide +kernel
theorem dX3_sumOfPurses_28 : decode cX3_sumOfPurses 28 = .ok (.ireturn, 1) := by decide +kernel
theorem dX3_sumOfDebts_0 : decode cX3_sumOfDebts 0 = .ok (.iconst 0, 1) := by decide +kernel
theorem dX3_sumOfDebts_1 : decode cX3_sumOfDebts 1 = .ok (.istore_n 1, 1) := by decide +kernel
theorem dX3_sumOfDebts_2 : decode cX3_sumOfDebts 2 = .ok (.iconst 0, 1) := by decide +kernel
theorem dX3_sumOfDebts_3 : decode cX3_sumOfDebts 3 = .ok (.istore_n 2, 1) := by decide +kernel
theorem dX3_sumOfDebts_4 : decode cX3_sumOfDebts 4 = .ok (.iload_n 2, 1) := by decide +kernel
theorem dX3_sumOfDebts_5 : decode cX3_sumOfDebts 5 = .ok (.aload_n 0, 1) := by decide +kernel
theorem dX3_sumOfDebts_6 : decode cX3_sumOfDebts 6 = .ok (.getfield 50, 3) := by decide +kernel
theorem dX3_sumOfDebts_9 : decode cX3_sumOfDebts 9 = .ok (.arraylength, 1) := by decide +kernel
theorem dX3_sumOfDebts_10 : decode cX3_sumOfDebts 10 = .ok (.if_icmp .ge 18, 3) := by decide +kernel
theorem dX3_sumOfDebts_13 : decode cX3_sumOfDebts 13 = .ok (.iload_n 1, 1) := by decide +kernel
theorem dX3_sumOfDebts_14 : decode cX3_sumOfDebts 14 = .ok (.aload_n 0, 1) := by decide +kernel
theorem dX3_sumOfDebts_15 : decode cX3_sumOfDebts 15 = .ok (.getfield 50, 3) := by decide +kernel
theorem dX3_sumOfDebts_18 : decode cX3_sumOfDebts 18 = .ok (.iload_n 2, 1) := by decide +kernel
theorem dX3_sumOfDebts_19 : decode cX3_sumOfDebts 19 = .ok (.iaload, 1) := by decide +kernel
theorem dX3_sumOfDebts_20 : decode cX3_sumOfDebts 20 = .ok (.iadd, 1) := by decide +kernel
theorem dX3_sumOfDebts_21 : decode cX3_sumOfDebts 21 = .ok (.istore_n 1, 1) := by decide +kernel
theorem dX3_sumOfDebts_22 : decode cX3_sumOfDebts 22 = .ok (.iinc 2 1, 3) := by decide +kernel
theorem dX3_sumOfDebts_25 : decode cX3_sumOfDebts 25 = .ok (.goto (-21), 3) := by decide +kernel
theorem dX3_sumOfDebts_28 : decode cX3_sumOfDebts 28 = .ok (.iload_n 1, 1) := by decide +kernel
theorem dX3_sumOfDebts_29 : decode cX3_sumOfDebts 29 = .ok (.ireturn, 1) := by decide +kernel
theorem dX3_sumOfMisses_0 : decode cX3_sumOfMisses 0 = .ok (.iconst 0, 1) := by decide +kernel
theorem dX3_sumOfMisses_1 : decode cX3_sumOfMisses 1 = .ok (.istore_n 1, 1) := by decide +kernel
theorem dX3_sumOfMisses_2 : decode cX3_sumOfMisses 2 = .ok (.iconst 0, 1) := by decide +kernel
theorem dX3_sumOfMisses_3 : decode cX3_sumOfMisses 3 = .ok (.istore_n 2, 1) := by decide +kernel
theorem dX3_sumOfMisses_4 : decode cX3_sumOfMisses 4 = .ok (.iload_n 2, 1) := by decide +kernel
theorem dX3_sumOfMisses_5 : decode cX3_sumOfMisses 5 = .ok (.aload_n 0, 1) := by decide +kernel
theorem dX3_sumOfMisses_6 : decode cX3_sumOfMisses 6 = .ok (.getfield 53, 3) := by decide +kernel
theorem dX3_sumOfMisses_9 : decode cX3_sumOfMisses 9 = .ok (.if_icmp .ge 18, 3) := by decide +kernel
theorem dX3_sumOfMisses_12 : decode cX3_sumOfMisses 12 = .ok (.iload_n 1, 1) := by decide +kernel
theorem dX3_sumOfMisses_13 : decode cX3_sumOfMisses 13 = .ok (.aload_n 0, 1) := by decide +kernel
theorem dX3_sumOfMisses_14 : decode cX3_sumOfMisses 14 = .ok (.getfield 47, 3) := by decide +kernel
theorem dX3_sumOfMisses_17 : decode cX3_sumOfMisses 17 = .ok (.iload_n 2, 1) := by decide +kernel
theorem dX3_sumOfMisses_18 : decode cX3_sumOfMisses 18 = .ok (.iaload, 1) := by decide +kernel
theorem dX3_sumOfMisses_19 : decode cX3_sumOfMisses 19 = .ok (.iadd, 1) := by decide +kernel
theorem dX3_sumOfMisses_20 : decode cX3_sumOfMisses 20 = .ok (.istore_n 1, 1) := by decide +kernel
theorem dX3_sumOfMisses_21 : decode cX3_sumOfMisses 21 = .ok (.iinc 2 1, 3) := by decide +kernel
theorem dX3_sumOfMisses_24 : decode cX3_sumOfMisses 24 = .ok (.goto (-20), 3) := by decide +kernel
theorem dX3_sumOfMisses_27 : decode cX3_sumOfMisses 27 = .ok (.iload_n 1, 1) := by decide +kernel
theorem dX3_sumOfMisses_28 : decode cX3_sumOfMisses 28 = .ok (.ireturn, 1) := by decide +kernel
set_option maxRecDepth 20000 in
theorem ggX3_chainLength_X3_exists : GoodIn wsX3_chainLength wsX3_exists := goodIn_r _ [6, 7, 8, 9, 10, 11, 12, 13, 14, 15, 16, 17, 18, 19, 20, 21, 22, 23, 24] (by decide +kernel) (by decide +kernel)
set_option maxRecDepth 20000 in
theorem gX3_chainLength_X3_exists : GoodIn wsX3_chainLength (wsV RX3 66 RX3 yX3_exists wsX3_exists) := goodIn_app (goodIn_of _ (by decide +kernel)) ggX3_chainLength_X3_exists
theorem dX3_chainLength_0 : decode cX3_chainLength 0 = .ok (.iconst 0, 1) := by decide +kernel
theorem dX3_chainLength_1 : decode cX3_chainLength 1 = .ok (.istore_n 2, 1) := by decide +kernel
theorem dX3_chainLength_2 : decode cX3_chainLength 2 = .ok (.iconst 0, 1) := by decide +kernel
theorem dX3_chainLength_3 : decode cX3_chainLength 3 = .ok (.istore_n 3, 1) := by decide +kernel
theorem dX3_chainLength_4 : decode cX3_chainLength 4 = .ok (.iload_n 1, 1) := by decide +kernel
theorem dX3_chainLength_5 : decode cX3_chainLength 5 = .ok (.istore 4, 2) := by decide +kernel
theorem dX3_chainLength_7 : decode cX3_chainLength 7 = .ok (.iload_n 3, 1) := by decide +kernel
theorem dX3_chainLength_8 : decode cX3_chainLength 8 = .ok (.bipush 8, 2) := by decide +kernel
theorem dX3_chainLength_10 : decode cX3_chainLength 10 = .ok (.if_icmp .ge 43, 3) := by decide +kernel
theorem dX3_chainLength_13 : decode cX3_chainLength 13 = .ok (.aload_n 0, 1) := by decide +kernel
theorem dX3_chainLength_14 : decode cX3_chainLength 14 = .ok (.iload 4, 2) := by decide +kernel
theorem dX3_chainLength_16 : decode cX3_chainLength 16 = .ok (.invokevirtual 66, 3) := by decide +kernel
theorem dX3_chainLength_19 : decode cX3_chainLength 19 = .ok (.ifCond .eq 34, 3) := by decide +kernel
theorem dX3_chainLength_22 : decode cX3_chainLength 22 = .ok (.iload_n 2, 1) := by decide +kernel
theorem dX3_chainLength_23 : decode cX3_chainLength 23 = .ok (.iload 4, 2) := by decide +kernel
theorem dX3_chainLength_25 : decode cX3_chainLength 25 = .ok (.ishr, 1) := by decide +kernel
theorem dX3_chainLength_26 : decode cX3_chainLength 26 = .ok (.iconst 1, 1) := by decide +kernel
theorem dX3_chainLength_27 : decode cX3_chainLength 27 = .ok (.iand, 1) := by decide +kernel
theorem dX3_chainLength_28 : decode cX3_chainLength 28 = .ok (.ifCond .ne 25, 3) := by decide +kernel
theorem dX3_chainLength_31 : decode cX3_chainLength 31 = .ok (.iload_n 2, 1) := by decide +kernel
theorem dX3_chainLength_32 : decode cX3_chainLength 32 = .ok (.iconst 1, 1) := by decide +kernel
theorem dX3_chainLength_33 : decode cX3_chainLength 33 = .ok (.iload 4, 2) := by decide +kernel
theorem dX3_chainLength_35 : decode cX3_chainLength 35 = .ok (.ishl, 1) := by decide +kernel
theorem dX3_chainLength_36 : decode cX3_chainLength 36 = .ok (.ior, 1) := by decide +kernel
theorem dX3_chainLength_37 : decode cX3_chainLength 37 = .ok (.istore_n 2, 1) := by decide +kernel
theorem dX3_chainLength_38 : decode cX3_chainLength 38 = .ok (.iinc 3 1, 3) := by decide +kernel
theorem dX3_chainLength_41 : decode cX3_chainLength 41 = .ok (.aload_n 0, 1) := by decide +kernel
theorem dX3_chainLength_42 : decode cX3_chainLength 42 = .ok (.getfield 19, 3) := by decide +kernel
theorem dX3_chainLength_45 : decode cX3_chainLength 45 = .ok (.iload 4, 2) := by decide +kernel
theorem dX3_chainLength_47 : decode cX3_chainLength 47 = .ok (.iaload, 1) := by decide +kernel
theorem dX3_chainLength_48 : decode cX3_chainLength 48 = .ok (.istore 4, 2) := by decide +kernel
theorem dX3_chainLength_50 : decode cX3_chainLength 50 = .ok (.goto (-43), 3) := by decide +kernel
theorem dX3_chainLength_53 : decode cX3_chainLength 53 = .ok (.iload_n 3, 1) := by decide +kernel
theorem dX3_chainLength_54 : decode cX3_chainLength 54 = .ok (.ireturn, 1) := by decide +kernel
theorem dX3_mayBid_0 : decode cX3_mayBid 0 = .ok (.aload_n 0, 1) := by decide +kernel
theorem dX3_mayBid_1 : decode cX3_mayBid 1 = .ok (.getfield 32, 3) := by decide +kernel
theorem dX3_mayBid_4 : decode cX3_mayBid 4 = .ok (.iload_n 1, 1) := by decide +kernel
theorem dX3_mayBid_5 : decode cX3_mayBid 5 = .ok (.baload, 1) := by decide +kernel
theorem dX3_mayBid_6 : decode cX3_mayBid 6 = .ok (.ifCond .eq 16, 3) := by decide +kernel
theorem dX3_mayBid_9 : decode cX3_mayBid 9 = .ok (.aload_n 0, 1) := by decide +kernel
theorem dX3_mayBid_10 : decode cX3_mayBid 10 = .ok (.getfield 29, 3) := by decide +kernel
theorem dX3_mayBid_13 : decode cX3_mayBid 13 = .ok (.iload_n 1, 1) := by decide +kernel
theorem dX3_mayBid_14 : decode cX3_mayBid 14 = .ok (.baload, 1) := by decide +kernel
theorem dX3_mayBid_15 : decode cX3_mayBid 15 = .ok (.ifCond .ne 7, 3) := by decide +kernel
theorem dX3_mayBid_18 : decode cX3_mayBid 18 = .ok (.iconst 1, 1) := by decide +kernel
theorem dX3_mayBid_19 : decode cX3_mayBid 19 = .ok (.goto 4, 3) := by decide +kernel
theorem dX3_mayBid_22 : decode cX3_mayBid 22 = .ok (.iconst 0, 1) := by decide +kernel
theorem dX3_mayBid_23 : decode cX3_mayBid 23 = .ok (.ireturn, 1) := by decide +kernel
theorem dX3_mayReceive_0 : decode cX3_mayReceive 0 = .ok (.aload_n 0, 1) := by decide +kernel
theorem dX3_mayReceive_1 : decode cX3_mayReceive 1 = .ok (.getfield 62, 3) := by decide +kernel
theorem dX3_mayReceive_4 : decode cX3_mayReceive 4 = .ok (.iload_n 1, 1) := by decide +kernel
theorem dX3_mayReceive_5 : decode cX3_mayReceive 5 = .ok (.iadd, 1) := by decide +kernel
theorem dX3_mayReceive_6 : decode cX3_mayReceive 6 = .ok (.sipush 9000, 3) := by decide +kernel
theorem dX3_mayReceive_9 : decode cX3_mayReceive 9 = .ok (.if_icmp .gt 7, 3) := by decide +kernel
theorem dX3_mayReceive_12 : decode cX3_mayReceive 12 = .ok (.iconst 1, 1) := by decide +kernel
theorem dX3_mayReceive_13 : decode cX3_mayReceive 13 = .ok (.goto 4, 3) := by decide +kernel
theorem dX3_mayReceive_16 : decode cX3_mayReceive 16 = .ok (.iconst 0, 1) := by decide +kernel
theorem dX3_mayReceive_17 : decode cX3_mayReceive 17 = .ok (.ireturn, 1) := by decide +kernel
theorem dX3_receive_0 : decode cX3_receive 0 = .ok (.aload_n 0, 1) := by decide +kernel
theorem dX3_receive_1 : decode cX3_receive 1 = .ok (.getfield 15, 3) := by decide +kernel
theorem dX3_receive_4 : decode cX3_receive 4 = .ok (.iload_n 1, 1) := by decide +kernel
theorem dX3_receive_5 : decode cX3_receive 5 = .ok (.dup2, 1) := by decide +kernel
theorem dX3_receive_6 : decode cX3_receive 6 = .ok (.iaload, 1) := by decide +kernel
theorem dX3_receive_7 : decode cX3_receive 7 = .ok (.iload_n 2, 1) := by decide +kernel
theorem dX3_receive_8 : decode cX3_receive 8 = .ok (.iadd, 1) := by decide +kernel
theorem dX3_receive_9 : decode cX3_receive 9 = .ok (.iastore, 1) := by decide +kernel
theorem dX3_receive_10 : decode cX3_receive 10 = .ok (.aload_n 0, 1) := by decide +kernel
theorem dX3_receive_11 : decode cX3_receive 11 = .ok (.dup, 1) := by decide +kernel
theorem dX3_receive_12 : decode cX3_receive 12 = .ok (.getfield 62, 3) := by decide +kernel
theorem dX3_receive_15 : decode cX3_receive 15 = .ok (.iload_n 2, 1) := by decide +kernel
theorem dX3_receive_16 : decode cX3_receive 16 = .ok (.iadd, 1) := by decide +kernel
theorem dX3_receive_17 : decode cX3_receive 17 = .ok (.putfield 62, 3) := by decide +kernel
theorem dX3_receive_20 : decode cX3_receive 20 = .ok (.return_, 1) := by decide +kernel
set_option maxRecDepth 20000 in
theorem ggX3_mayPass_X3_countInside : GoodIn wsX3_mayPass wsX3_countInside := goodIn_r _ [6, 7, 8, 9, 10, 11, 12, 13, 14, 15, 16, 17, 18, 19, 20, 21, 22, 23, 24, 25] (by decide +kernel) (by decide +kernel)
set_option maxRecDepth 20000 in
theorem gX3_mayPass_X3_countInside : GoodIn wsX3_mayPass (wsV RX3 70 RX3 yX3_countInside wsX3_countInside) := goodIn_app (goodIn_of _ (by decide +kernel)) ggX3_mayPass_X3_countInside
theorem dX3_mayPass_0 : decode cX3_mayPass 0 = .ok (.aload_n 0, 1) := by decide +kernel
theorem dX3_mayPass_1 : decode cX3_mayPass 1 = .ok (.getfield 56, 3) := by decide +kernel
theorem dX3_mayPass_4 : decode cX3_mayPass 4 = .ok (.bipush 99, 2) := by decide +kernel
theorem dX3_mayPass_6 : decode cX3_mayPass 6 = .ok (.if_icmp .ge 14, 3) := by decide +kernel
theorem dX3_mayPass_9 : decode cX3_mayPass 9 = .ok (.aload_n 0, 1) := by decide +kernel
theorem dX3_mayPass_10 : decode cX3_mayPass 10 = .ok (.invokevirtual 70, 3) := by decide +kernel
theorem dX3_mayPass_13 : decode cX3_mayPass 13 = .ok (.ifCond .le 7, 3) := by decide +kernel
theorem dX3_mayPass_16 : decode cX3_mayPass 16 = .ok (.iconst 1, 1) := by decide +kernel
theorem dX3_mayPass_17 : decode cX3_mayPass 17 = .ok (.goto 4, 3) := by decide +kernel
theorem dX3_mayPass_20 : decode cX3_mayPass 20 = .ok (.iconst 0, 1) := by decide +kernel
theorem dX3_mayPass_21 : decode cX3_mayPass 21 = .ok (.ireturn, 1) := by decide +kernel
set_option maxRecDepth 20000 in
theorem ggX3_mayGo_X3_gainOfGoing : GoodIn wsX3_mayGo wsX3_gainOfGoing := goodIn_r _ [7, 8, 9, 10, 11, 12, 13, 14, 15, 16, 17, 18, 6, 19, 20, 1, 21, 22, 23, 24, 25, 26, 27, 28, 29, 30, 31, 32, 33, 34, 35, 36, 37] (by decide +kernel) (by decide +kernel)
set_option maxRecDepth 20000 in
theorem gX3_mayGo_X3_gainOfGoing : GoodIn wsX3_mayGo (wsV RX3 74 RX3 yX3_gainOfGoing wsX3_gainOfGoing) := goodIn_app (goodIn_of _ (by decide +kernel)) ggX3_mayGo_X3_gainOfGoing
theorem dX3_mayGo_0 : decode cX3_mayGo 0 = .ok (.aload_n 0, 1) := by decide +kernel
theorem dX3_mayGo_1 : decode cX3_mayGo 1 = .ok (.getfield 32, 3) := by decide +kernel
theorem dX3_mayGo_4 : decode cX3_mayGo 4 = .ok (.iload_n 1, 1) := by decide +kernel
theorem dX3_mayGo_5 : decode cX3_mayGo 5 = .ok (.baload, 1) := by decide +kernel
theorem dX3_mayGo_6 : decode cX3_mayGo 6 = .ok (.ifCond .eq 22, 3) := by decide +kernel
theorem dX3_mayGo_9 : decode cX3_mayGo 9 = .ok (.aload_n 0, 1) := by decide +kernel
theorem dX3_mayGo_10 : decode cX3_mayGo 10 = .ok (.getfield 15, 3) := by decide +kernel
theorem dX3_mayGo_13 : decode cX3_mayGo 13 = .ok (.iload_n 1, 1) := by decide +kernel
theorem dX3_mayGo_14 : decode cX3_mayGo 14 = .ok (.iaload, 1) := by decide +kernel
theorem dX3_mayGo_15 : decode cX3_mayGo 15 = .ok (.aload_n 0, 1) := by decide +kernel
theorem dX3_mayGo_16 : decode cX3_mayGo 16 = .ok (.iload_n 1, 1) := by decide +kernel
theorem dX3_mayGo_17 : decode cX3_mayGo 17 = .ok (.invokevirtual 74, 3) := by decide +kernel
theorem dX3_mayGo_20 : decode cX3_mayGo 20 = .ok (.iadd, 1) := by decide +kernel
theorem dX3_mayGo_21 : decode cX3_mayGo 21 = .ok (.ifCond .lt 7, 3) := by decide +kernel
theorem dX3_mayGo_24 : decode cX3_mayGo 24 = .ok (.iconst 1, 1) := by decide +kernel
theorem dX3_mayGo_25 : decode cX3_mayGo 25 = .ok (.goto 4, 3) := by decide +kernel
theorem dX3_mayGo_28 : decode cX3_mayGo 28 = .ok (.iconst 0, 1) := by decide +kernel
theorem dX3_mayGo_29 : decode cX3_mayGo 29 = .ok (.ireturn, 1) := by decide +kernel
set_option maxRecDepth 20000 in
theorem ggX3_gainOfGoing_X3_countWaiting : GoodIn wsX3_gainOfGoing wsX3_countWaiting := goodIn_r _ [13, 14, 15, 1, 16, 17, 18, 19, 20, 21, 22, 23, 24, 25, 26, 27, 28, 29, 30, 31, 32] (by decide +kernel) (by decide +kernel)
set_option maxRecDepth 20000 in
theorem gX3_gainOfGoing_X3_countWaiting : GoodIn wsX3_gainOfGoing (wsV RX3 78 RX3 yX3_countWaiting wsX3_countWaiting) := goodIn_app (goodIn_of _ (by decide +kernel)) ggX3_gainOfGoing_X3_countWaiting
theorem dX3_gainOfGoing_0 : decode cX3_gainOfGoing 0 = .ok (.aload_n 0, 1) := by decide +kernel
theorem dX3_gainOfGoing_1 : decode cX3_gainOfGoing 1 = .ok (.getfield 29, 3) := by decide +kernel
theorem dX3_gainOfGoing_4 : decode cX3_gainOfGoing 4 = .ok (.iload_n 1, 1) := by decide +kernel
theorem dX3_gainOfGoing_5 : decode cX3_gainOfGoing 5 = .ok (.baload, 1) := by decide +kernel
theorem dX3_gainOfGoing_6 : decode cX3_gainOfGoing 6 = .ok (.ifCond .eq 14, 3) := by decide +kernel
theorem dX3_gainOfGoing_9 : decode cX3_gainOfGoing 9 = .ok (.aload_n 0, 1) := by decide +kernel
theorem dX3_gainOfGoing_10 : decode cX3_gainOfGoing 10 = .ok (.getfield 9, 3) := by decide +kernel
theorem dX3_gainOfGoing_13 : decode cX3_gainOfGoing 13 = .ok (.ineg, 1) := by decide +kernel
theorem dX3_gainOfGoing_14 : decode cX3_gainOfGoing 14 = .ok (.aload_n 0, 1) := by decide +kernel
theorem dX3_gainOfGoing_15 : decode cX3_gainOfGoing 15 = .ok (.invokevirtual 78, 3) := by decide +kernel
theorem dX3_gainOfGoing_18 : decode cX3_gainOfGoing 18 = .ok (.imul, 1) := by decide +kernel
theorem dX3_gainOfGoing_19 : decode cX3_gainOfGoing 19 = .ok (.ireturn, 1) := by decide +kernel
theorem dX3_gainOfGoing_20 : decode cX3_gainOfGoing 20 = .ok (.aload_n 0, 1) := by decide +kernel
theorem dX3_gainOfGoing_21 : decode cX3_gainOfGoing 21 = .ok (.getfield 35, 3) := by decide +kernel
theorem dX3_gainOfGoing_24 : decode cX3_gainOfGoing 24 = .ok (.iload_n 1, 1) := by decide +kernel
theorem dX3_gainOfGoing_25 : decode cX3_gainOfGoing 25 = .ok (.iaload, 1) := by decide +kernel
theorem dX3_gainOfGoing_26 : decode cX3_gainOfGoing 26 = .ok (.iconst 2, 1) := by decide +kernel
theorem dX3_gainOfGoing_27 : decode cX3_gainOfGoing 27 = .ok (.idiv, 1) := by decide +kernel
theorem dX3_gainOfGoing_28 : decode cX3_gainOfGoing 28 = .ok (.aload_n 0, 1) := by decide +kernel
theorem dX3_gainOfGoing_29 : decode cX3_gainOfGoing 29 = .ok (.getfield 59, 3) := by decide +kernel
theorem dX3_gainOfGoing_32 : decode cX3_gainOfGoing 32 = .ok (.invokestatic 81, 3) := by decide +kernel
theorem dX3_gainOfGoing_35 : decode cX3_gainOfGoing 35 = .ok (.ireturn, 1) := by decide +kernel
set_option maxRecDepth 20000 in
theorem ggX3_go_X3_gainOfGoing : GoodIn wsX3_go wsX3_gainOfGoing := goodIn_r _ [8, 9, 10, 11, 2, 12, 13, 14, 15, 16, 17, 18, 7, 19, 20, 3, 21, 22, 23, 24, 25, 26, 27, 28, 29, 30, 31, 32, 33, 34, 35, 36, 37] (by decide +kernel) (by decide +kernel)
set_option maxRecDepth 20000 in
theorem gX3_go_X3_gainOfGoing : GoodIn wsX3_go (wsV RX3 74 RX3 yX3_gainOfGoing wsX3_gainOfGoing) := goodIn_app (goodIn_of _ (by decide +kernel)) ggX3_go_X3_gainOfGoing
theorem dX3_go_0 : decode cX3_go 0 = .ok (.aload_n 0, 1) := by decide +kernel
theorem dX3_go_1 : decode cX3_go 1 = .ok (.iload_n 1, 1) := by decide +kernel
theorem dX3_go_2 : decode cX3_go 2 = .ok (.invokevirtual 74, 3) := by decide +kernel
theorem dX3_go_5 : decode cX3_go 5 = .ok (.istore_n 2, 1) := by decide +kernel
theorem dX3_go_6 : decode cX3_go 6 = .ok (.aload_n 0, 1) := by decide +kernel
theorem dX3_go_7 : decode cX3_go 7 = .ok (.getfield 15, 3) := by decide +kernel
theorem dX3_go_10 : decode cX3_go 10 = .ok (.iload_n 1, 1) := by decide +kernel
theorem dX3_go_11 : decode cX3_go 11 = .ok (.dup2, 1) := by decide +kernel
theorem dX3_go_12 : decode cX3_go 12 = .ok (.iaload, 1) := by decide +kernel
theorem dX3_go_13 : decode cX3_go 13 = .ok (.iload_n 2, 1) := by decide +kernel
theorem dX3_go_14 : decode cX3_go 14 = .ok (.iadd, 1) := by decide +kernel
theorem dX3_go_15 : decode cX3_go 15 = .ok (.iastore, 1) := by decide +kernel
theorem dX3_go_16 : decode cX3_go 16 = .ok (.aload_n 0, 1) := by decide +kernel
theorem dX3_go_17 : decode cX3_go 17 = .ok (.dup, 1) := by decide +kernel
theorem dX3_go_18 : decode cX3_go 18 = .ok (.getfield 59, 3) := by decide +kernel
theorem dX3_go_21 : decode cX3_go 21 = .ok (.iload_n 2, 1) := by decide +kernel
theorem dX3_go_22 : decode cX3_go 22 = .ok (.isub, 1) := by decide +kernel
theorem dX3_go_23 : decode cX3_go 23 = .ok (.putfield 59, 3) := by decide +kernel
theorem dX3_go_26 : decode cX3_go 26 = .ok (.aload_n 0, 1) := by decide +kernel
theorem dX3_go_27 : decode cX3_go 27 = .ok (.getfield 32, 3) := by decide +kernel
theorem dX3_go_30 : decode cX3_go 30 = .ok (.iload_n 1, 1) := by decide +kernel
theorem dX3_go_31 : decode cX3_go 31 = .ok (.iconst 0, 1) := by decide +kernel
theorem dX3_go_32 : decode cX3_go 32 = .ok (.bastore, 1) := by decide +kernel
theorem dX3_go_33 : decode cX3_go 33 = .ok (.iload_n 2, 1) := by decide +kernel
theorem dX3_go_34 : decode cX3_go 34 = .ok (.ireturn, 1) := by decide +kernel
set_option maxRecDepth 20000 in
theorem ggX3_settle_X3_pair : GoodIn wsX3_settle wsX3_pair := goodIn_r _ [10] (by decide +kernel) (by decide +kernel)
set_option maxRecDepth 20000 in
theorem gX3_settle_X3_pair : GoodIn wsX3_settle (va_wsS RX3 87 yX3_pair wsX3_pair) := goodIn_app (goodIn_of _ (by decide +kernel)) ggX3_settle_X3_pair
theorem dX3_settle_0 : decode cX3_settle 0 = .ok (.iload_n 1, 1) := by decide +kernel
theorem dX3_settle_1 : decode cX3_settle 1 = .ok (.iload_n 2, 1) := by decide +kernel
theorem dX3_settle_2 : decode cX3_settle 2 = .ok (.invokestatic 87, 3) := by decide +kernel
theorem dX3_settle_5 : decode cX3_settle 5 = .ok (.istore 4, 2) := by decide +kernel
theorem dX3_settle_7 : decode cX3_settle 7 = .ok (.aload_n 0, 1) := by decide +kernel
theorem dX3_settle_8 : decode cX3_settle 8 = .ok (.getfield 50, 3) := by decide +kernel
theorem dX3_settle_11 : decode cX3_settle 11 = .ok (.iload 4, 2) := by decide +kernel
theorem dX3_settle_13 : decode cX3_settle 13 = .ok (.iaload, 1) := by decide +kernel
theorem dX3_settle_14 : decode cX3_settle 14 = .ok (.iload_n 3, 1) := by decide +kernel
theorem dX3_settle_15 : decode cX3_settle 15 = .ok (.invokestatic 81, 3) := by decide +kernel
theorem dX3_settle_18 : decode cX3_settle 18 = .ok (.istore 5, 2) := by decide +kernel
theorem dX3_settle_20 : decode cX3_settle 20 = .ok (.aload_n 0, 1) := by decide +kernel
theorem dX3_settle_21 : decode cX3_settle 21 = .ok (.getfield 50, 3) := by decide +kernel
theorem dX3_settle_24 : decode cX3_settle 24 = .ok (.iload 4, 2) := by decide +kernel
theorem dX3_settle_26 : decode cX3_settle 26 = .ok (.dup2, 1) := by decide +kernel
theorem dX3_settle_27 : decode cX3_settle 27 = .ok (.iaload, 1) := by decide +kernel
theorem dX3_settle_28 : decode cX3_settle 28 = .ok (.iload 5, 2) := by decide +kernel
theorem dX3_settle_30 : decode cX3_settle 30 = .ok (.isub, 1) := by decide +kernel
theorem dX3_settle_31 : decode cX3_settle 31 = .ok (.iastore, 1) := by decide +kernel
theorem dX3_settle_32 : decode cX3_settle 32 = .ok (.aload_n 0, 1) := by decide +kernel
theorem dX3_settle_33 : decode cX3_settle 33 = .ok (.getfield 15, 3) := by decide +kernel
theorem dX3_settle_36 : decode cX3_settle 36 = .ok (.iload_n 2, 1) := by decide +kernel
theorem dX3_settle_37 : decode cX3_settle 37 = .ok (.dup2, 1) := by decide +kernel
theorem dX3_settle_38 : decode cX3_settle 38 = .ok (.iaload, 1) := by decide +kernel
theorem dX3_settle_39 : decode cX3_settle 39 = .ok (.iload 5, 2) := by decide +kernel
theorem dX3_settle_41 : decode cX3_settle 41 = .ok (.iadd, 1) := by decide +kernel
theorem dX3_settle_42 : decode cX3_settle 42 = .ok (.iastore, 1) := by decide +kernel
theorem dX3_settle_43 : decode cX3_settle 43 = .ok (.iload 5, 2) := by decide +kernel
theorem dX3_settle_45 : decode cX3_settle 45 = .ok (.ireturn, 1) := by decide +kernel
theorem dX3_decide_0 : decode cX3_decide 0 = .ok (.aload_n 0, 1) := by decide +kernel
theorem dX3_decide_1 : decode cX3_decide 1 = .ok (.getfield 32, 3) := by decide +kernel
theorem dX3_decide_4 : decode cX3_decide 4 = .ok (.iload_n 1, 1) := by decide +kernel
theorem dX3_decide_5 : decode cX3_decide 5 = .ok (.baload, 1) := by decide +kernel
theorem dX3_decide_6 : decode cX3_decide 6 = .ok (.ifCond .ne 4, 3) := by decide +kernel
theorem dX3_decide_9 : decode cX3_decide 9 = .ok (.return_, 1) := by decide +kernel
theorem dX3_decide_10 : decode cX3_decide 10 = .ok (.aload_n 0, 1) := by decide +kernel
theorem dX3_decide_11 : decode cX3_decide 11 = .ok (.getfield 25, 3) := by decide +kernel
theorem dX3_decide_14 : decode cX3_decide 14 = .ok (.iload_n 1, 1) := by decide +kernel
theorem dX3_decide_15 : decode cX3_decide 15 = .ok (.iload_n 2, 1) := by decide +kernel
theorem dX3_decide_16 : decode cX3_decide 16 = .ok (.bipush 8, 2) := by decide +kernel
theorem dX3_decide_18 : decode cX3_decide 18 = .ok (.irem, 1) := by decide +kernel
theorem dX3_decide_19 : decode cX3_decide 19 = .ok (.ifCond .ne 7, 3) := by decide +kernel
theorem dX3_decide_22 : decode cX3_decide 22 = .ok (.iconst 1, 1) := by decide +kernel
theorem dX3_decide_23 : decode cX3_decide 23 = .ok (.goto 4, 3) := by decide +kernel
theorem dX3_decide_26 : decode cX3_decide 26 = .ok (.iconst 0, 1) := by decide +kernel
theorem dX3_decide_27 : decode cX3_decide 27 = .ok (.bastore, 1) := by decide +kernel
theorem dX3_decide_28 : decode cX3_decide 28 = .ok (.aload_n 0, 1) := by decide +kernel
theorem dX3_decide_29 : decode cX3_decide 29 = .ok (.getfield 29, 3) := by decide +kernel
theorem dX3_decide_32 : decode cX3_decide 32 = .ok (.iload_n 1, 1) := by decide +kernel
theorem dX3_decide_33 : decode cX3_decide 33 = .ok (.baload, 1) := by decide +kernel
theorem dX3_decide_34 : decode cX3_decide 34 = .ok (.ifCond .ne 16, 3) := by decide +kernel
theorem dX3_decide_37 : decode cX3_decide 37 = .ok (.aload_n 0, 1) := by decide +kernel
theorem dX3_decide_38 : decode cX3_decide 38 = .ok (.getfield 22, 3) := by decide +kernel
theorem dX3_decide_41 : decode cX3_decide 41 = .ok (.iload_n 1, 1) := by decide +kernel
theorem dX3_decide_42 : decode cX3_decide 42 = .ok (.iload_n 2, 1) := by decide +kernel
theorem dX3_decide_43 : decode cX3_decide 43 = .ok (.bipush 8, 2) := by decide +kernel
theorem dX3_decide_45 : decode cX3_decide 45 = .ok (.idiv, 1) := by decide +kernel
theorem dX3_decide_46 : decode cX3_decide 46 = .ok (.bipush 40, 2) := by decide +kernel
theorem dX3_decide_48 : decode cX3_decide 48 = .ok (.irem, 1) := by decide +kernel
theorem dX3_decide_49 : decode cX3_decide 49 = .ok (.iastore, 1) := by decide +kernel
theorem dX3_decide_50 : decode cX3_decide 50 = .ok (.return_, 1) := by decide +kernel
theorem dX4_init_0 : decode cX4_init 0 = .ok (.aload_n 0, 1) := by decide +kernel
theorem dX4_init_1 : decode cX4_init 1 = .ok (.invokespecial 3, 3) := by decide +kernel
theorem dX4_init_4 : decode cX4_init 4 = .ok (.aload_n 0, 1) := by decide +kernel
theorem dX4_init_5 : decode cX4_init 5 = .ok (.bipush 100, 2) := by decide +kernel
theorem dX4_init_7 : decode cX4_init 7 = .ok (.newarray .int, 2) := by decide +kernel
theorem dX4_init_9 : decode cX4_init 9 = .ok (.putfield 9, 3) := by decide +kernel
theorem dX4_init_12 : decode cX4_init 12 = .ok (.return_, 1) := by decide +kernel
theorem dX4_add_0 : decode cX4_add 0 = .ok (.aload_n 0, 1) := by decide +kernel
theorem dX4_add_1 : decode cX4_add 1 = .ok (.getfield 9, 3) := by decide +kernel
theorem dX4_add_4 : decode cX4_add 4 = .ok (.aload_n 0, 1) := by decide +kernel
theorem dX4_add_5 : decode cX4_add 5 = .ok (.getfield 15, 3) := by decide +kernel
theorem dX4_add_8 : decode cX4_add 8 = .ok (.iload_n 1, 1) := by decide +kernel
theorem dX4_add_9 : decode cX4_add 9 = .ok (.iastore, 1) := by decide +kernel
theorem dX4_add_10 : decode cX4_add 10 = .ok (.aload_n 0, 1) := by decide +kernel
theorem dX4_add_11 : decode cX4_add 11 = .ok (.dup, 1) := by decide +kernel
theorem dX4_add_12 : decode cX4_add 12 = .ok (.getfield 15, 3) := by decide +kernel
theorem dX4_add_15 : decode cX4_add 15 = .ok (.iconst 1, 1) := by decide +kernel
theorem dX4_add_16 : decode cX4_add 16 = .ok (.iadd, 1) := by decide +kernel
theorem dX4_add_17 : decode cX4_add 17 = .ok (.putfield 15, 3) := by decide +kernel
theorem dX4_add_20 : decode cX4_add 20 = .ok (.aload_n 0, 1) := by decide +kernel
theorem dX4_add_21 : decode cX4_add 21 = .ok (.getfield 15, 3) := by decide +kernel
theorem dX4_add_24 : decode cX4_add 24 = .ok (.ireturn, 1) := by decide +kernel
set_option maxRecDepth 20000 in
theorem ggX4_readInto_X4_readContribution : GoodIn wsX4_readInto wsX4_readContribution := goodIn_r _ [7, 1, 8, 9, 2, 10, 11, 12, 6, 13, 14, 15, 16, 17, 18, 19, 20, 21, 22, 23, 24, 68, 69, 70, 71, 72, 73, 74, 75, 76, 77, 78, 79, 80, 81, 82, 83, 84, 85, 86, 87] (by decide +kernel) (by decide +kernel)
set_option maxRecDepth 20000 in
theorem gX4_readInto_X4_readContribution : GoodIn wsX4_readInto (wsV RX4 22 RX4 yX4_readContribution wsX4_readContribution) := goodIn_app (goodIn_of _ (by decide +kernel)) ggX4_readInto_X4_readContribution
set_option maxRecDepth 20000 in
theorem ggX4_readInto_X4_readParts : GoodIn wsX4_readInto wsX4_readParts := goodIn_r _ [28, 1, 8, 29, 30, 31, 6, 32, 9, 33, 34, 35, 36, 37, 2, 38, 39, 40, 41, 10, 11, 12, 13, 42, 43, 44, 17, 45, 19, 46, 47, 48, 49, 50, 51, 52, 53, 54, 55, 56, 57, 23, 58, 59, 60, 61, 62, 63, 64, 65, 66, 67, 68, 69, 70, 71, 72, 73, 74, 75, 76, 77, 78, 79, 80, 81, 82, 83, 84, 85, 86, 87] (by decide +kernel) (by decide +kernel)
set_option maxRecDepth 20000 in
theorem gX4_readInto_X4_readParts : GoodIn wsX4_readInto (wsV RX4 26 RX4 yX4_readParts wsX4_readParts) := goodIn_app (goodIn_of _ (by decide +kernel)) ggX4_readInto_X4_readParts
theorem dX4_readInto_0 : decode cX4_readInto 0 = .ok (.aload_n 0, 1) := by decide +kernel
theorem dX4_readInto_1 : decode cX4_readInto 1 = .ok (.iconst 0, 1) := by decide +kernel
theorem dX4_readInto_2 : decode cX4_readInto 2 = .ok (.putfield 19, 3) := by decide +kernel
theorem dX4_readInto_5 : decode cX4_readInto 5 = .ok (.aload_n 0, 1) := by decide +kernel
theorem dX4_readInto_6 : decode cX4_readInto 6 = .ok (.aload_n 1, 1) := by decide +kernel
theorem dX4_readInto_7 : decode cX4_readInto 7 = .ok (.invokevirtual 22, 3) := by decide +kernel
theorem dX4_readInto_10 : decode cX4_readInto 10 = .ok (.ifCond .eq 16, 3) := by decide +kernel
theorem dX4_readInto_13 : decode cX4_readInto 13 = .ok (.aload_n 0, 1) := by decide +kernel
theorem dX4_readInto_14 : decode cX4_readInto 14 = .ok (.aload_n 1, 1) := by decide +kernel
theorem dX4_readInto_15 : decode cX4_readInto 15 = .ok (.invokevirtual 26, 3) := by decide +kernel
theorem dX4_readInto_18 : decode cX4_readInto 18 = .ok (.ifCond .eq 8, 3) := by decide +kernel
theorem dX4_readInto_21 : decode cX4_readInto 21 = .ok (.ldc 29, 2) := by decide +kernel
theorem dX4_readInto_23 : decode cX4_readInto 23 = .ok (.goto 7, 3) := by decide +kernel
theorem dX4_readInto_26 : decode cX4_readInto 26 = .ok (.aload_n 0, 1) := by decide +kernel
theorem dX4_readInto_27 : decode cX4_readInto 27 = .ok (.getfield 19, 3) := by decide +kernel
theorem dX4_readInto_30 : decode cX4_readInto 30 = .ok (.ireturn, 1) := by decide +kernel
set_option maxRecDepth 20000 in
theorem ggX4_readContribution_X4_readDigit : GoodIn wsX4_readContribution wsX4_readDigit := goodIn_r _ [9, 1, 2, 4, 3, 21, 22, 23] (by decide +kernel) (by decide +kernel)
set_option maxRecDepth 20000 in
theorem gX4_readContribution_X4_readDigit : GoodIn wsX4_readContribution (wsV RX4 30 RX4 yX4_readDigit wsX4_readDigit) := goodIn_app (goodIn_of _ (by decide +kernel)) ggX4_readContribution_X4_readDigit
set_option maxRecDepth 20000 in
theorem ggX4_readContribution_X3_becomeEmpty : GoodIn wsX4_readContribution wsX3_becomeEmpty := goodIn_r _ [14, 15, 16, 17, 18, 19, 20, 24, 25, 26, 27, 28, 29, 30, 31, 32, 33, 34, 35, 36, 37, 38, 39, 40] (by decide +kernel) (by decide +kernel)
set_option maxRecDepth 20000 in
theorem gX4_readContribution_X3_becomeEmpty : GoodIn wsX4_readContribution (wsV RX4 34 RX3 yX3_becomeEmpty wsX3_becomeEmpty) := goodIn_app (goodIn_of _ (by decide +kernel)) ggX4_readContribution_X3_becomeEmpty
theorem dX4_readContribution_0 : decode cX4_readContribution 0 = .ok (.aload_n 0, 1) := by decide +kernel
theorem dX4_readContribution_1 : decode cX4_readContribution 1 = .ok (.getfield 19, 3) := by decide +kernel
theorem dX4_readContribution_4 : decode cX4_readContribution 4 = .ok (.aload_n 0, 1) := by decide +kernel
theorem dX4_readContribution_5 : decode cX4_readContribution 5 = .ok (.getfield 15, 3) := by decide +kernel
theorem dX4_readContribution_8 : decode cX4_readContribution 8 = .ok (.if_icmp .ge 17, 3) := by decide +kernel
theorem dX4_readContribution_11 : decode cX4_readContribution 11 = .ok (.aload_n 0, 1) := by decide +kernel
theorem dX4_readContribution_12 : decode cX4_readContribution 12 = .ok (.getfield 9, 3) := by decide +kernel
theorem dX4_readContribution_15 : decode cX4_readContribution 15 = .ok (.aload_n 0, 1) := by decide +kernel
theorem dX4_readContribution_16 : decode cX4_readContribution 16 = .ok (.getfield 19, 3) := by decide +kernel
theorem dX4_readContribution_19 : decode cX4_readContribution 19 = .ok (.iaload, 1) := by decide +kernel
theorem dX4_readContribution_20 : decode cX4_readContribution 20 = .ok (.bipush 67, 2) := by decide +kernel
theorem dX4_readContribution_22 : decode cX4_readContribution 22 = .ok (.if_icmp .eq 5, 3) := by decide +kernel
theorem dX4_readContribution_25 : decode cX4_readContribution 25 = .ok (.iconst 0, 1) := by decide +kernel
theorem dX4_readContribution_26 : decode cX4_readContribution 26 = .ok (.ireturn, 1) := by decide +kernel
theorem dX4_readContribution_27 : decode cX4_readContribution 27 = .ok (.aload_n 0, 1) := by decide +kernel
theorem dX4_readContribution_28 : decode cX4_readContribution 28 = .ok (.dup, 1) := by decide +kernel
theorem dX4_readContribution_29 : decode cX4_readContribution 29 = .ok (.getfield 19, 3) := by decide +kernel
theorem dX4_readContribution_32 : decode cX4_readContribution 32 = .ok (.iconst 1, 1) := by decide +kernel
theorem dX4_readContribution_33 : decode cX4_readContribution 33 = .ok (.iadd, 1) := by decide +kernel
theorem dX4_readContribution_34 : decode cX4_readContribution 34 = .ok (.putfield 19, 3) := by decide +kernel
theorem dX4_readContribution_37 : decode cX4_readContribution 37 = .ok (.aload_n 0, 1) := by decide +kernel
theorem dX4_readContribution_38 : decode cX4_readContribution 38 = .ok (.iconst 0, 1) := by decide +kernel
theorem dX4_readContribution_39 : decode cX4_readContribution 39 = .ok (.iconst 5, 1) := by decide +kernel
theorem dX4_readContribution_40 : decode cX4_readContribution 40 = .ok (.ldc 29, 2) := by decide +kernel
theorem dX4_readContribution_42 : decode cX4_readContribution 42 = .ok (.invokevirtual 30, 3) := by decide +kernel
theorem dX4_readContribution_45 : decode cX4_readContribution 45 = .ok (.istore_n 2, 1) := by decide +kernel
theorem dX4_readContribution_46 : decode cX4_readContribution 46 = .ok (.iload_n 2, 1) := by decide +kernel
theorem dX4_readContribution_47 : decode cX4_readContribution 47 = .ok (.ldc 29, 2) := by decide +kernel
theorem dX4_readContribution_49 : decode cX4_readContribution 49 = .ok (.if_icmp .ne 5, 3) := by decide +kernel
theorem dX4_readContribution_52 : decode cX4_readContribution 52 = .ok (.iconst 0, 1) := by decide +kernel
theorem dX4_readContribution_53 : decode cX4_readContribution 53 = .ok (.ireturn, 1) := by decide +kernel
theorem dX4_readContribution_54 : decode cX4_readContribution 54 = .ok (.aload_n 0, 1) := by decide +kernel
theorem dX4_readContribution_55 : decode cX4_readContribution 55 = .ok (.iload_n 2, 1) := by decide +kernel
theorem dX4_readContribution_56 : decode cX4_readContribution 56 = .ok (.ifCond .ne 7, 3) := by decide +kernel
theorem dX4_readContribution_59 : decode cX4_readContribution 59 = .ok (.iconst 1, 1) := by decide +kernel
theorem dX4_readContribution_60 : decode cX4_readContribution 60 = .ok (.goto 4, 3) := by decide +kernel
theorem dX4_readContribution_63 : decode cX4_readContribution 63 = .ok (.iconst 0, 1) := by decide +kernel
theorem dX4_readContribution_64 : decode cX4_readContribution 64 = .ok (.iload_n 2, 1) := by decide +kernel
theorem dX4_readContribution_65 : decode cX4_readContribution 65 = .ok (.iconst 5, 1) := by decide +kernel
theorem dX4_readContribution_66 : decode cX4_readContribution 66 = .ok (.if_icmp .ne 7, 3) := by decide +kernel
theorem dX4_readContribution_69 : decode cX4_readContribution 69 = .ok (.iconst 0, 1) := by decide +kernel
theorem dX4_readContribution_70 : decode cX4_readContribution 70 = .ok (.goto 5, 3) := by decide +kernel
theorem dX4_readContribution_73 : decode cX4_readContribution 73 = .ok (.bipush 9, 2) := by decide +kernel
theorem dX4_readContribution_75 : decode cX4_readContribution 75 = .ok (.ldc 29, 2) := by decide +kernel
theorem dX4_readContribution_77 : decode cX4_readContribution 77 = .ok (.invokevirtual 30, 3) := by decide +kernel
theorem dX4_readContribution_80 : decode cX4_readContribution 80 = .ok (.istore_n 3, 1) := by decide +kernel
theorem dX4_readContribution_81 : decode cX4_readContribution 81 = .ok (.iload_n 3, 1) := by decide +kernel
theorem dX4_readContribution_82 : decode cX4_readContribution 82 = .ok (.ldc 29, 2) := by decide +kernel
theorem dX4_readContribution_84 : decode cX4_readContribution 84 = .ok (.if_icmp .ne 5, 3) := by decide +kernel
theorem dX4_readContribution_87 : decode cX4_readContribution 87 = .ok (.iconst 0, 1) := by decide +kernel
theorem dX4_readContribution_88 : decode cX4_readContribution 88 = .ok (.ireturn, 1) := by decide +kernel
theorem dX4_readContribution_89 : decode cX4_readContribution 89 = .ok (.aload_n 1, 1) := by decide +kernel
theorem dX4_readContribution_90 : decode cX4_readContribution 90 = .ok (.bipush 10, 2) := by decide +kernel
theorem dX4_readContribution_92 : decode cX4_readContribution 92 = .ok (.iload_n 2, 1) := by decide +kernel
theorem dX4_readContribution_93 : decode cX4_readContribution 93 = .ok (.imul, 1) := by decide +kernel
theorem dX4_readContribution_94 : decode cX4_readContribution 94 = .ok (.iload_n 3, 1) := by decide +kernel
theorem dX4_readContribution_95 : decode cX4_readContribution 95 = .ok (.iadd, 1) := by decide +kernel
theorem dX4_readContribution_96 : decode cX4_readContribution 96 = .ok (.invokevirtual 34, 3) := by decide +kernel
theorem dX4_readContribution_99 : decode cX4_readContribution 99 = .ok (.iconst 1, 1) := by decide +kernel
theorem dX4_readContribution_100 : decode cX4_readContribution 100 = .ok (.ireturn, 1) := by decide +kernel
set_option maxRecDepth 20000 in
theorem ggX4_readParts_X4_readPart : GoodIn wsX4_readParts wsX4_readPart := goodIn_r _ [7, 1, 2, 8, 9, 10, 11, 12, 6, 13, 14, 15, 16, 17, 18, 19, 20, 21, 22, 23, 24, 25, 26, 27, 28, 29, 30, 31, 32, 33, 34, 35, 36, 37, 38, 39, 40, 41, 42, 43, 44, 45, 46, 47, 48, 49, 50, 51, 52, 53, 54, 55, 56, 57, 58, 59, 60, 61, 62, 63, 64, 65, 66, 67, 68, 69, 70, 71] (by decide +kernel) (by decide +kernel)
set_option maxRecDepth 20000 in
theorem gX4_readParts_X4_readPart : GoodIn wsX4_readParts (wsV RX4 40 RX4 yX4_readPart wsX4_readPart) := goodIn_app (goodIn_of _ (by decide +kernel)) ggX4_readParts_X4_readPart
theorem dX4_readParts_0 : decode cX4_readParts 0 = .ok (.iconst 0, 1) := by decide +kernel
theorem dX4_readParts_1 : decode cX4_readParts 1 = .ok (.istore_n 2, 1) := by decide +kernel
theorem dX4_readParts_2 : decode cX4_readParts 2 = .ok (.iload_n 2, 1) := by decide +kernel
theorem dX4_readParts_3 : decode cX4_readParts 3 = .ok (.bipush 100, 2) := by decide +kernel
theorem dX4_readParts_5 : decode cX4_readParts 5 = .ok (.if_icmp .ge 30, 3) := by decide +kernel
theorem dX4_readParts_8 : decode cX4_readParts 8 = .ok (.aload_n 0, 1) := by decide +kernel
theorem dX4_readParts_9 : decode cX4_readParts 9 = .ok (.getfield 19, 3) := by decide +kernel
theorem dX4_readParts_12 : decode cX4_readParts 12 = .ok (.aload_n 0, 1) := by decide +kernel
theorem dX4_readParts_13 : decode cX4_readParts 13 = .ok (.getfield 15, 3) := by decide +kernel
theorem dX4_readParts_16 : decode cX4_readParts 16 = .ok (.if_icmp .ge 19, 3) := by decide +kernel
theorem dX4_readParts_19 : decode cX4_readParts 19 = .ok (.aload_n 0, 1) := by decide +kernel
theorem dX4_readParts_20 : decode cX4_readParts 20 = .ok (.aload_n 1, 1) := by decide +kernel
theorem dX4_readParts_21 : decode cX4_readParts 21 = .ok (.invokevirtual 40, 3) := by decide +kernel
theorem dX4_readParts_24 : decode cX4_readParts 24 = .ok (.ifCond .ne 5, 3) := by decide +kernel
theorem dX4_readParts_27 : decode cX4_readParts 27 = .ok (.iconst 0, 1) := by decide +kernel
theorem dX4_readParts_28 : decode cX4_readParts 28 = .ok (.ireturn, 1) := by decide +kernel
theorem dX4_readParts_29 : decode cX4_readParts 29 = .ok (.iinc 2 1, 3) := by decide +kernel
theorem dX4_readParts_32 : decode cX4_readParts 32 = .ok (.goto (-30), 3) := by decide +kernel
theorem dX4_readParts_35 : decode cX4_readParts 35 = .ok (.iconst 1, 1) := by decide +kernel
theorem dX4_readParts_36 : decode cX4_readParts 36 = .ok (.ireturn, 1) := by decide +kernel
set_option maxRecDepth 20000 in
theorem ggX4_readPart_X4_readMember : GoodIn wsX4_readPart wsX4_readMember := goodIn_r _ [9, 10, 11, 12, 13, 8, 14, 15, 16, 17, 18, 1, 2, 3, 19, 20, 21, 22, 23, 24, 25, 26, 27, 28, 29, 30, 31, 32, 33, 34, 35, 36, 37, 48, 49, 50, 51, 52, 53, 54, 55, 56, 57, 58, 59, 60, 61, 62, 63, 64, 65, 66, 67] (by decide +kernel) (by decide +kernel)
set_option maxRecDepth 20000 in
theorem gX4_readPart_X4_readMember : GoodIn wsX4_readPart (wsV RX4 46 RX4 yX4_readMember wsX4_readMember) := goodIn_app (goodIn_of _ (by decide +kernel)) ggX4_readPart_X4_readMember
set_option maxRecDepth 20000 in
theorem ggX4_readPart_X4_readGuarantor : GoodIn wsX4_readPart wsX4_readGuarantor := goodIn_r _ [41, 4, 10, 42, 15, 16, 17, 8, 18, 1, 2, 3, 51, 52, 53, 54, 55, 56, 57, 58, 59, 60, 61, 62, 63, 64, 65, 66, 67, 48, 49, 50] (by decide +kernel) (by decide +kernel)
set_option maxRecDepth 20000 in
theorem gX4_readPart_X4_readGuarantor : GoodIn wsX4_readPart (wsV RX4 49 RX4 yX4_readGuarantor wsX4_readGuarantor) := goodIn_app (goodIn_of _ (by decide +kernel)) ggX4_readPart_X4_readGuarantor
set_option maxRecDepth 20000 in
theorem ggX4_readPart_X4_readBid : GoodIn wsX4_readPart wsX4_readBid := goodIn_r _ [46, 4, 10, 47, 15, 16, 17, 8, 18, 1, 2, 3, 11, 12, 13, 14, 51, 52, 53, 54, 55, 56, 57, 58, 59, 60, 61, 62, 63, 64, 65, 66, 67, 48, 49, 50] (by decide +kernel) (by decide +kernel)
set_option maxRecDepth 20000 in
theorem gX4_readPart_X4_readBid : GoodIn wsX4_readPart (wsV RX4 52 RX4 yX4_readBid wsX4_readBid) := goodIn_app (goodIn_of _ (by decide +kernel)) ggX4_readPart_X4_readBid
theorem dX4_readPart_0 : decode cX4_readPart 0 = .ok (.aload_n 0, 1) := by decide +kernel
theorem dX4_readPart_1 : decode cX4_readPart 1 = .ok (.getfield 19, 3) := by decide +kernel
theorem dX4_readPart_4 : decode cX4_readPart 4 = .ok (.aload_n 0, 1) := by decide +kernel
theorem dX4_readPart_5 : decode cX4_readPart 5 = .ok (.getfield 15, 3) := by decide +kernel
theorem dX4_readPart_8 : decode cX4_readPart 8 = .ok (.if_icmp .ge 15, 3) := by decide +kernel
theorem dX4_readPart_11 : decode cX4_readPart 11 = .ok (.aload_n 0, 1) := by decide +kernel
theorem dX4_readPart_12 : decode cX4_readPart 12 = .ok (.getfield 9, 3) := by decide +kernel
theorem dX4_readPart_15 : decode cX4_readPart 15 = .ok (.aload_n 0, 1) := by decide +kernel
theorem dX4_readPart_16 : decode cX4_readPart 16 = .ok (.getfield 19, 3) := by decide +kernel
theorem dX4_readPart_19 : decode cX4_readPart 19 = .ok (.iaload, 1) := by decide +kernel
theorem dX4_readPart_20 : decode cX4_readPart 20 = .ok (.goto 4, 3) := by decide +kernel
theorem dX4_readPart_23 : decode cX4_readPart 23 = .ok (.iconst 0, 1) := by decide +kernel
theorem dX4_readPart_24 : decode cX4_readPart 24 = .ok (.istore_n 2, 1) := by decide +kernel
theorem dX4_readPart_25 : decode cX4_readPart 25 = .ok (.iload_n 2, 1) := by decide +kernel
theorem dX4_readPart_26 : decode cX4_readPart 26 = .ok (.bipush 109, 2) := by decide +kernel
theorem dX4_readPart_28 : decode cX4_readPart 28 = .ok (.if_icmp .ne 28, 3) := by decide +kernel
theorem dX4_readPart_31 : decode cX4_readPart 31 = .ok (.aload_n 1, 1) := by decide +kernel
theorem dX4_readPart_32 : decode cX4_readPart 32 = .ok (.getfield 43, 3) := by decide +kernel
theorem dX4_readPart_35 : decode cX4_readPart 35 = .ok (.bipush 8, 2) := by decide +kernel
theorem dX4_readPart_37 : decode cX4_readPart 37 = .ok (.if_icmp .ge 19, 3) := by decide +kernel
theorem dX4_readPart_40 : decode cX4_readPart 40 = .ok (.aload_n 0, 1) := by decide +kernel
theorem dX4_readPart_41 : decode cX4_readPart 41 = .ok (.dup, 1) := by decide +kernel
theorem dX4_readPart_42 : decode cX4_readPart 42 = .ok (.getfield 19, 3) := by decide +kernel
theorem dX4_readPart_45 : decode cX4_readPart 45 = .ok (.iconst 1, 1) := by decide +kernel
theorem dX4_readPart_46 : decode cX4_readPart 46 = .ok (.iadd, 1) := by decide +kernel
theorem dX4_readPart_47 : decode cX4_readPart 47 = .ok (.putfield 19, 3) := by decide +kernel
theorem dX4_readPart_50 : decode cX4_readPart 50 = .ok (.aload_n 0, 1) := by decide +kernel
theorem dX4_readPart_51 : decode cX4_readPart 51 = .ok (.aload_n 1, 1) := by decide +kernel
theorem dX4_readPart_52 : decode cX4_readPart 52 = .ok (.invokevirtual 46, 3) := by decide +kernel
theorem dX4_readPart_55 : decode cX4_readPart 55 = .ok (.ireturn, 1) := by decide +kernel
theorem dX4_readPart_56 : decode cX4_readPart 56 = .ok (.iload_n 2, 1) := by decide +kernel
theorem dX4_readPart_57 : decode cX4_readPart 57 = .ok (.bipush 103, 2) := by decide +kernel
theorem dX4_readPart_59 : decode cX4_readPart 59 = .ok (.if_icmp .ne 27, 3) := by decide +kernel
theorem dX4_readPart_62 : decode cX4_readPart 62 = .ok (.aload_n 1, 1) := by decide +kernel
theorem dX4_readPart_63 : decode cX4_readPart 63 = .ok (.getfield 43, 3) := by decide +kernel
theorem dX4_readPart_66 : decode cX4_readPart 66 = .ok (.iconst 2, 1) := by decide +kernel
theorem dX4_readPart_67 : decode cX4_readPart 67 = .ok (.if_icmp .lt 19, 3) := by decide +kernel
theorem dX4_readPart_70 : decode cX4_readPart 70 = .ok (.aload_n 0, 1) := by decide +kernel
theorem dX4_readPart_71 : decode cX4_readPart 71 = .ok (.dup, 1) := by decide +kernel
theorem dX4_readPart_72 : decode cX4_readPart 72 = .ok (.getfield 19, 3) := by decide +kernel
theorem dX4_readPart_75 : decode cX4_readPart 75 = .ok (.iconst 1, 1) := by decide +kernel
theorem dX4_readPart_76 : decode cX4_readPart 76 = .ok (.iadd, 1) := by decide +kernel
theorem dX4_readPart_77 : decode cX4_readPart 77 = .ok (.putfield 19, 3) := by decide +kernel
theorem dX4_readPart_80 : decode cX4_readPart 80 = .ok (.aload_n 0, 1) := by decide +kernel
theorem dX4_readPart_81 : decode cX4_readPart 81 = .ok (.aload_n 1, 1) := by decide +kernel
theorem dX4_readPart_82 : decode cX4_readPart 82 = .ok (.invokevirtual 49, 3) := by decide +kernel
theorem dX4_readPart_85 : decode cX4_readPart 85 = .ok (.ireturn, 1) := by decide +kernel
theorem dX4_readPart_86 : decode cX4_readPart 86 = .ok (.iload_n 2, 1) := by decide +kernel
theorem dX4_readPart_87 : decode cX4_readPart 87 = .ok (.bipush 98, 2) := by decide +kernel
theorem dX4_readPart_89 : decode cX4_readPart 89 = .ok (.if_icmp .ne 27, 3) := by decide +kernel
theorem dX4_readPart_92 : decode cX4_readPart 92 = .ok (.aload_n 1, 1) := by decide +kernel
theorem dX4_readPart_93 : decode cX4_readPart 93 = .ok (.getfield 43, 3) := by decide +kernel
theorem dX4_readPart_96 : decode cX4_readPart 96 = .ok (.iconst 1, 1) := by decide +kernel
theorem dX4_readPart_97 : decode cX4_readPart 97 = .ok (.if_icmp .lt 19, 3) := by decide +kernel
theorem dX4_readPart_100 : decode cX4_readPart 100 = .ok (.aload_n 0, 1) := by decide +kernel
theorem dX4_readPart_101 : decode cX4_readPart 101 = .ok (.dup, 1) := by decide +kernel
theorem dX4_readPart_102 : decode cX4_readPart 102 = .ok (.getfield 19, 3) := by decide +kernel
theorem dX4_readPart_105 : decode cX4_readPart 105 = .ok (.iconst 1, 1) := by decide +kernel
theorem dX4_readPart_106 : decode cX4_readPart 106 = .ok (.iadd, 1) := by decide +kernel
theorem dX4_readPart_107 : decode cX4_readPart 107 = .ok (.putfield 19, 3) := by decide +kernel
theorem dX4_readPart_110 : decode cX4_readPart 110 = .ok (.aload_n 0, 1) := by decide +kernel
theorem dX4_readPart_111 : decode cX4_readPart 111 = .ok (.aload_n 1, 1) := by decide +kernel
theorem dX4_readPart_112 : decode cX4_readPart 112 = .ok (.invokevirtual 52, 3) := by decide +kernel
theorem dX4_readPart_115 : decode cX4_readPart 115 = .ok (.ireturn, 1) := by decide +kernel
theorem dX4_readPart_116 : decode cX4_readPart 116 = .ok (.iconst 0, 1) := by decide +kernel
theorem dX4_readPart_117 : decode cX4_readPart 117 = .ok (.ireturn, 1) := by decide +kernel
set_option maxRecDepth 20000 in
theorem ggX4_readMember_X4_readThreeDigits : GoodIn wsX4_readMember wsX4_readThreeDigits := goodIn_r _ [6, 1, 7, 8, 9, 5, 10, 11, 12, 13, 33, 34, 35] (by decide +kernel) (by decide +kernel)
set_option maxRecDepth 20000 in
theorem gX4_readMember_X4_readThreeDigits : GoodIn wsX4_readMember (wsV RX4 55 RX4 yX4_readThreeDigits wsX4_readThreeDigits) := goodIn_app (goodIn_of _ (by decide +kernel)) ggX4_readMember_X4_readThreeDigits
set_option maxRecDepth 20000 in
theorem ggX4_readMember_X3_join : GoodIn wsX4_readMember wsX3_join := goodIn_r _ [18, 19, 20, 21, 22, 23, 24, 25, 26, 27, 28, 29, 30, 31, 32, 36, 37, 38, 39, 40, 41, 42, 43, 44, 45, 46, 47, 48, 49, 50, 51, 52] (by decide +kernel) (by decide +kernel)
set_option maxRecDepth 20000 in
theorem gX4_readMember_X3_join : GoodIn wsX4_readMember (wsV RX4 59 RX3 yX3_join wsX3_join) := goodIn_app (goodIn_of _ (by decide +kernel)) ggX4_readMember_X3_join
theorem dX4_readMember_0 : decode cX4_readMember 0 = .ok (.aload_n 0, 1) := by decide +kernel
theorem dX4_readMember_1 : decode cX4_readMember 1 = .ok (.invokevirtual 55, 3) := by decide +kernel
theorem dX4_readMember_4 : decode cX4_readMember 4 = .ok (.istore_n 2, 1) := by decide +kernel
theorem dX4_readMember_5 : decode cX4_readMember 5 = .ok (.iload_n 2, 1) := by decide +kernel
theorem dX4_readMember_6 : decode cX4_readMember 6 = .ok (.ldc 29, 2) := by decide +kernel
theorem dX4_readMember_8 : decode cX4_readMember 8 = .ok (.if_icmp .ne 5, 3) := by decide +kernel
theorem dX4_readMember_11 : decode cX4_readMember 11 = .ok (.iconst 0, 1) := by decide +kernel
theorem dX4_readMember_12 : decode cX4_readMember 12 = .ok (.ireturn, 1) := by decide +kernel
theorem dX4_readMember_13 : decode cX4_readMember 13 = .ok (.aload_n 1, 1) := by decide +kernel
theorem dX4_readMember_14 : decode cX4_readMember 14 = .ok (.iload_n 2, 1) := by decide +kernel
theorem dX4_readMember_15 : decode cX4_readMember 15 = .ok (.invokevirtual 59, 3) := by decide +kernel
theorem dX4_readMember_18 : decode cX4_readMember 18 = .ok (.pop, 1) := by decide +kernel
theorem dX4_readMember_19 : decode cX4_readMember 19 = .ok (.iconst 1, 1) := by decide +kernel
theorem dX4_readMember_20 : decode cX4_readMember 20 = .ok (.ireturn, 1) := by decide +kernel
set_option maxRecDepth 20000 in
theorem ggX4_readGuarantor_X4_readDigit : GoodIn wsX4_readGuarantor wsX4_readDigit := goodIn_r _ [8, 9, 10, 2, 11, 29, 30, 31] (by decide +kernel) (by decide +kernel)
set_option maxRecDepth 20000 in
theorem gX4_readGuarantor_X4_readDigit : GoodIn wsX4_readGuarantor (wsV RX4 30 RX4 yX4_readDigit wsX4_readDigit) := goodIn_app (goodIn_of _ (by decide +kernel)) ggX4_readGuarantor_X4_readDigit
theorem dX4_readGuarantor_0 : decode cX4_readGuarantor 0 = .ok (.aload_n 0, 1) := by decide +kernel
theorem dX4_readGuarantor_1 : decode cX4_readGuarantor 1 = .ok (.iconst 0, 1) := by decide +kernel
theorem dX4_readGuarantor_2 : decode cX4_readGuarantor 2 = .ok (.aload_n 1, 1) := by decide +kernel
theorem dX4_readGuarantor_3 : decode cX4_readGuarantor 3 = .ok (.getfield 43, 3) := by decide +kernel
theorem dX4_readGuarantor_6 : decode cX4_readGuarantor 6 = .ok (.iconst 1, 1) := by decide +kernel
theorem dX4_readGuarantor_7 : decode cX4_readGuarantor 7 = .ok (.isub, 1) := by decide +kernel
theorem dX4_readGuarantor_8 : decode cX4_readGuarantor 8 = .ok (.ldc 29, 2) := by decide +kernel
theorem dX4_readGuarantor_10 : decode cX4_readGuarantor 10 = .ok (.invokevirtual 30, 3) := by decide +kernel
theorem dX4_readGuarantor_13 : decode cX4_readGuarantor 13 = .ok (.istore_n 2, 1) := by decide +kernel
theorem dX4_readGuarantor_14 : decode cX4_readGuarantor 14 = .ok (.iload_n 2, 1) := by decide +kernel
theorem dX4_readGuarantor_15 : decode cX4_readGuarantor 15 = .ok (.ldc 29, 2) := by decide +kernel
theorem dX4_readGuarantor_17 : decode cX4_readGuarantor 17 = .ok (.if_icmp .ne 5, 3) := by decide +kernel
theorem dX4_readGuarantor_20 : decode cX4_readGuarantor 20 = .ok (.iconst 0, 1) := by decide +kernel
theorem dX4_readGuarantor_21 : decode cX4_readGuarantor 21 = .ok (.ireturn, 1) := by decide +kernel
theorem dX4_readGuarantor_22 : decode cX4_readGuarantor 22 = .ok (.aload_n 0, 1) := by decide +kernel
theorem dX4_readGuarantor_23 : decode cX4_readGuarantor 23 = .ok (.iconst 0, 1) := by decide +kernel
theorem dX4_readGuarantor_24 : decode cX4_readGuarantor 24 = .ok (.aload_n 1, 1) := by decide +kernel
theorem dX4_readGuarantor_25 : decode cX4_readGuarantor 25 = .ok (.getfield 43, 3) := by decide +kernel
theorem dX4_readGuarantor_28 : decode cX4_readGuarantor 28 = .ok (.iconst 1, 1) := by decide +kernel
theorem dX4_readGuarantor_29 : decode cX4_readGuarantor 29 = .ok (.isub, 1) := by decide +kernel
theorem dX4_readGuarantor_30 : decode cX4_readGuarantor 30 = .ok (.iload_n 2, 1) := by decide +kernel
theorem dX4_readGuarantor_31 : decode cX4_readGuarantor 31 = .ok (.invokevirtual 30, 3) := by decide +kernel
theorem dX4_readGuarantor_34 : decode cX4_readGuarantor 34 = .ok (.istore_n 3, 1) := by decide +kernel
theorem dX4_readGuarantor_35 : decode cX4_readGuarantor 35 = .ok (.iload_n 3, 1) := by decide +kernel
theorem dX4_readGuarantor_36 : decode cX4_readGuarantor 36 = .ok (.ldc 29, 2) := by decide +kernel
theorem dX4_readGuarantor_38 : decode cX4_readGuarantor 38 = .ok (.if_icmp .ne 5, 3) := by decide +kernel
theorem dX4_readGuarantor_41 : decode cX4_readGuarantor 41 = .ok (.iconst 0, 1) := by decide +kernel
theorem dX4_readGuarantor_42 : decode cX4_readGuarantor 42 = .ok (.ireturn, 1) := by decide +kernel
theorem dX4_readGuarantor_43 : decode cX4_readGuarantor 43 = .ok (.aload_n 1, 1) := by decide +kernel
theorem dX4_readGuarantor_44 : decode cX4_readGuarantor 44 = .ok (.getfield 63, 3) := by decide +kernel
theorem dX4_readGuarantor_47 : decode cX4_readGuarantor 47 = .ok (.iload_n 2, 1) := by decide +kernel
theorem dX4_readGuarantor_48 : decode cX4_readGuarantor 48 = .ok (.iload_n 3, 1) := by decide +kernel
theorem dX4_readGuarantor_49 : decode cX4_readGuarantor 49 = .ok (.iastore, 1) := by decide +kernel
theorem dX4_readGuarantor_50 : decode cX4_readGuarantor 50 = .ok (.iconst 1, 1) := by decide +kernel
theorem dX4_readGuarantor_51 : decode cX4_readGuarantor 51 = .ok (.ireturn, 1) := by decide +kernel
set_option maxRecDepth 20000 in
theorem ggX4_readBid_X4_readDigit : GoodIn wsX4_readBid wsX4_readDigit := goodIn_r _ [8, 9, 10, 2, 11, 33, 34, 35] (by decide +kernel) (by decide +kernel)
set_option maxRecDepth 20000 in
theorem gX4_readBid_X4_readDigit : GoodIn wsX4_readBid (wsV RX4 30 RX4 yX4_readDigit wsX4_readDigit) := goodIn_app (goodIn_of _ (by decide +kernel)) ggX4_readBid_X4_readDigit
set_option maxRecDepth 20000 in
theorem ggX4_readBid_X4_readThreeDigits : GoodIn wsX4_readBid wsX4_readThreeDigits := goodIn_r _ [15, 2, 4, 5, 6, 7, 8, 9, 10, 11, 33, 34, 35] (by decide +kernel) (by decide +kernel)
set_option maxRecDepth 20000 in
theorem gX4_readBid_X4_readThreeDigits : GoodIn wsX4_readBid (wsV RX4 55 RX4 yX4_readThreeDigits wsX4_readThreeDigits) := goodIn_app (goodIn_of _ (by decide +kernel)) ggX4_readBid_X4_readThreeDigits
theorem dX4_readBid_0 : decode cX4_readBid 0 = .ok (.aload_n 0, 1) := by decide +kernel
theorem dX4_readBid_1 : decode cX4_readBid 1 = .ok (.iconst 0, 1) := by decide +kernel
theorem dX4_readBid_2 : decode cX4_readBid 2 = .ok (.aload_n 1, 1) := by decide +kernel
theorem dX4_readBid_3 : decode cX4_readBid 3 = .ok (.getfield 43, 3) := by decide +kernel
theorem dX4_readBid_6 : decode cX4_readBid 6 = .ok (.iconst 1, 1) := by decide +kernel
theorem dX4_readBid_7 : decode cX4_readBid 7 = .ok (.isub, 1) := by decide +kernel
theorem dX4_readBid_8 : decode cX4_readBid 8 = .ok (.ldc 29, 2) := by decide +kernel
theorem dX4_readBid_10 : decode cX4_readBid 10 = .ok (.invokevirtual 30, 3) := by decide +kernel
theorem dX4_readBid_13 : decode cX4_readBid 13 = .ok (.istore_n 2, 1) := by decide +kernel
theorem dX4_readBid_14 : decode cX4_readBid 14 = .ok (.iload_n 2, 1) := by decide +kernel
theorem dX4_readBid_15 : decode cX4_readBid 15 = .ok (.ldc 29, 2) := by decide +kernel
theorem dX4_readBid_17 : decode cX4_readBid 17 = .ok (.if_icmp .ne 5, 3) := by decide +kernel
theorem dX4_readBid_20 : decode cX4_readBid 20 = .ok (.iconst 0, 1) := by decide +kernel
theorem dX4_readBid_21 : decode cX4_readBid 21 = .ok (.ireturn, 1) := by decide +kernel
theorem dX4_readBid_22 : decode cX4_readBid 22 = .ok (.aload_n 0, 1) := by decide +kernel
theorem dX4_readBid_23 : decode cX4_readBid 23 = .ok (.invokevirtual 55, 3) := by decide +kernel
theorem dX4_readBid_26 : decode cX4_readBid 26 = .ok (.istore_n 3, 1) := by decide +kernel
theorem dX4_readBid_27 : decode cX4_readBid 27 = .ok (.iload_n 3, 1) := by decide +kernel
theorem dX4_readBid_28 : decode cX4_readBid 28 = .ok (.ldc 29, 2) := by decide +kernel
theorem dX4_readBid_30 : decode cX4_readBid 30 = .ok (.if_icmp .ne 5, 3) := by decide +kernel
theorem dX4_readBid_33 : decode cX4_readBid 33 = .ok (.iconst 0, 1) := by decide +kernel
theorem dX4_readBid_34 : decode cX4_readBid 34 = .ok (.ireturn, 1) := by decide +kernel
theorem dX4_readBid_35 : decode cX4_readBid 35 = .ok (.aload_n 1, 1) := by decide +kernel
theorem dX4_readBid_36 : decode cX4_readBid 36 = .ok (.getfield 66, 3) := by decide +kernel
theorem dX4_readBid_39 : decode cX4_readBid 39 = .ok (.iload_n 2, 1) := by decide +kernel
theorem dX4_readBid_40 : decode cX4_readBid 40 = .ok (.iload_n 3, 1) := by decide +kernel
theorem dX4_readBid_41 : decode cX4_readBid 41 = .ok (.iastore, 1) := by decide +kernel
theorem dX4_readBid_42 : decode cX4_readBid 42 = .ok (.iconst 1, 1) := by decide +kernel
theorem dX4_readBid_43 : decode cX4_readBid 43 = .ok (.ireturn, 1) := by decide +kernel
set_option maxRecDepth 20000 in
theorem ggX4_readThreeDigits_X4_readDigit : GoodIn wsX4_readThreeDigits wsX4_readDigit := goodIn_r _ [6, 7, 8, 1, 9, 10, 11, 12] (by decide +kernel) (by decide +kernel)
set_option maxRecDepth 20000 in
theorem gX4_readThreeDigits_X4_readDigit : GoodIn wsX4_readThreeDigits (wsV RX4 30 RX4 yX4_readDigit wsX4_readDigit) := goodIn_app (goodIn_of _ (by decide +kernel)) ggX4_readThreeDigits_X4_readDigit
theorem dX4_readThreeDigits_0 : decode cX4_readThreeDigits 0 = .ok (.iconst 0, 1) := by decide +kernel
theorem dX4_readThreeDigits_1 : decode cX4_readThreeDigits 1 = .ok (.istore_n 1, 1) := by decide +kernel
theorem dX4_readThreeDigits_2 : decode cX4_readThreeDigits 2 = .ok (.iconst 0, 1) := by decide +kernel
theorem dX4_readThreeDigits_3 : decode cX4_readThreeDigits 3 = .ok (.istore_n 2, 1) := by decide +kernel
theorem dX4_readThreeDigits_4 : decode cX4_readThreeDigits 4 = .ok (.iload_n 2, 1) := by decide +kernel
theorem dX4_readThreeDigits_5 : decode cX4_readThreeDigits 5 = .ok (.iconst 3, 1) := by decide +kernel
theorem dX4_readThreeDigits_6 : decode cX4_readThreeDigits 6 = .ok (.if_icmp .ge 35, 3) := by decide +kernel
theorem dX4_readThreeDigits_9 : decode cX4_readThreeDigits 9 = .ok (.aload_n 0, 1) := by decide +kernel
theorem dX4_readThreeDigits_10 : decode cX4_readThreeDigits 10 = .ok (.iconst 0, 1) := by decide +kernel
theorem dX4_readThreeDigits_11 : decode cX4_readThreeDigits 11 = .ok (.bipush 9, 2) := by decide +kernel
theorem dX4_readThreeDigits_13 : decode cX4_readThreeDigits 13 = .ok (.ldc 29, 2) := by decide +kernel
theorem dX4_readThreeDigits_15 : decode cX4_readThreeDigits 15 = .ok (.invokevirtual 30, 3) := by decide +kernel
theorem dX4_readThreeDigits_18 : decode cX4_readThreeDigits 18 = .ok (.istore_n 3, 1) := by decide +kernel
theorem dX4_readThreeDigits_19 : decode cX4_readThreeDigits 19 = .ok (.iload_n 3, 1) := by decide +kernel
theorem dX4_readThreeDigits_20 : decode cX4_readThreeDigits 20 = .ok (.ldc 29, 2) := by decide +kernel
theorem dX4_readThreeDigits_22 : decode cX4_readThreeDigits 22 = .ok (.if_icmp .ne 6, 3) := by decide +kernel
theorem dX4_readThreeDigits_25 : decode cX4_readThreeDigits 25 = .ok (.ldc 29, 2) := by decide +kernel
theorem dX4_readThreeDigits_27 : decode cX4_readThreeDigits 27 = .ok (.ireturn, 1) := by decide +kernel
theorem dX4_readThreeDigits_28 : decode cX4_readThreeDigits 28 = .ok (.bipush 10, 2) := by decide +kernel
theorem dX4_readThreeDigits_30 : decode cX4_readThreeDigits 30 = .ok (.iload_n 1, 1) := by decide +kernel
theorem dX4_readThreeDigits_31 : decode cX4_readThreeDigits 31 = .ok (.imul, 1) := by decide +kernel
theorem dX4_readThreeDigits_32 : decode cX4_readThreeDigits 32 = .ok (.iload_n 3, 1) := by decide +kernel
theorem dX4_readThreeDigits_33 : decode cX4_readThreeDigits 33 = .ok (.iadd, 1) := by decide +kernel
theorem dX4_readThreeDigits_34 : decode cX4_readThreeDigits 34 = .ok (.istore_n 1, 1) := by decide +kernel
theorem dX4_readThreeDigits_35 : decode cX4_readThreeDigits 35 = .ok (.iinc 2 1, 3) := by decide +kernel
theorem dX4_readThreeDigits_38 : decode cX4_readThreeDigits 38 = .ok (.goto (-34), 3) := by decide +kernel
theorem dX4_readThreeDigits_41 : decode cX4_readThreeDigits 41 = .ok (.iload_n 1, 1) := by decide +kernel
theorem dX4_readThreeDigits_42 : decode cX4_readThreeDigits 42 = .ok (.ireturn, 1) := by decide +kernel
theorem dX4_readDigit_0 : decode cX4_readDigit 0 = .ok (.aload_n 0, 1) := by decide +kernel
theorem dX4_readDigit_1 : decode cX4_readDigit 1 = .ok (.getfield 19, 3) := by decide +kernel
theorem dX4_readDigit_4 : decode cX4_readDigit 4 = .ok (.aload_n 0, 1) := by decide +kernel
theorem dX4_readDigit_5 : decode cX4_readDigit 5 = .ok (.getfield 15, 3) := by decide +kernel
theorem dX4_readDigit_8 : decode cX4_readDigit 8 = .ok (.if_icmp .lt 6, 3) := by decide +kernel
theorem dX4_readDigit_11 : decode cX4_readDigit 11 = .ok (.ldc 29, 2) := by decide +kernel
theorem dX4_readDigit_13 : decode cX4_readDigit 13 = .ok (.ireturn, 1) := by decide +kernel
theorem dX4_readDigit_14 : decode cX4_readDigit 14 = .ok (.aload_n 0, 1) := by decide +kernel
theorem dX4_readDigit_15 : decode cX4_readDigit 15 = .ok (.getfield 9, 3) := by decide +kernel
theorem dX4_readDigit_18 : decode cX4_readDigit 18 = .ok (.aload_n 0, 1) := by decide +kernel
theorem dX4_readDigit_19 : decode cX4_readDigit 19 = .ok (.getfield 19, 3) := by decide +kernel
theorem dX4_readDigit_22 : decode cX4_readDigit 22 = .ok (.iaload, 1) := by decide +kernel
theorem dX4_readDigit_23 : decode cX4_readDigit 23 = .ok (.bipush 48, 2) := by decide +kernel
theorem dX4_readDigit_25 : decode cX4_readDigit 25 = .ok (.isub, 1) := by decide +kernel
theorem dX4_readDigit_26 : decode cX4_readDigit 26 = .ok (.istore 4, 2) := by decide +kernel
theorem dX4_readDigit_28 : decode cX4_readDigit 28 = .ok (.iload 4, 2) := by decide +kernel
theorem dX4_readDigit_30 : decode cX4_readDigit 30 = .ok (.iload_n 1, 1) := by decide +kernel
theorem dX4_readDigit_31 : decode cX4_readDigit 31 = .ok (.if_icmp .lt 15, 3) := by decide +kernel
theorem dX4_readDigit_34 : decode cX4_readDigit 34 = .ok (.iload 4, 2) := by decide +kernel
theorem dX4_readDigit_36 : decode cX4_readDigit 36 = .ok (.iload_n 2, 1) := by decide +kernel
theorem dX4_readDigit_37 : decode cX4_readDigit 37 = .ok (.if_icmp .gt 9, 3) := by decide +kernel
theorem dX4_readDigit_40 : decode cX4_readDigit 40 = .ok (.iload 4, 2) := by decide +kernel
theorem dX4_readDigit_42 : decode cX4_readDigit 42 = .ok (.iload_n 3, 1) := by decide +kernel
theorem dX4_readDigit_43 : decode cX4_readDigit 43 = .ok (.if_icmp .ne 6, 3) := by decide +kernel
theorem dX4_readDigit_46 : decode cX4_readDigit 46 = .ok (.ldc 29, 2) := by decide +kernel
theorem dX4_readDigit_48 : decode cX4_readDigit 48 = .ok (.ireturn, 1) := by decide +kernel
theorem dX4_readDigit_49 : decode cX4_readDigit 49 = .ok (.aload_n 0, 1) := by decide +kernel
theorem dX4_readDigit_50 : decode cX4_readDigit 50 = .ok (.dup, 1) := by decide +kernel
theorem dX4_readDigit_51 : decode cX4_readDigit 51 = .ok (.getfield 19, 3) := by decide +kernel
theorem dX4_readDigit_54 : decode cX4_readDigit 54 = .ok (.iconst 1, 1) := by decide +kernel
theorem dX4_readDigit_55 : decode cX4_readDigit 55 = .ok (.iadd, 1) := by decide +kernel
theorem dX4_readDigit_56 : decode cX4_readDigit 56 = .ok (.putfield 19, 3) := by decide +kernel
theorem dX4_readDigit_59 : decode cX4_readDigit 59 = .ok (.iload 4, 2) := by decide +kernel
theorem dX4_readDigit_61 : decode cX4_readDigit 61 = .ok (.ireturn, 1) := by decide +kernel
set_option maxRecDepth 20000 in
theorem ggX5_init_X3_init : GoodIn wsX5_init wsX3_init := goodIn_r _ [29, 30, 2, 3, 31, 32, 33, 34, 35, 26, 36, 37, 38, 39, 40, 41, 42, 43, 44, 67, 68, 69, 70, 71, 72, 73, 74, 75, 76, 77, 78, 79, 80, 81, 82, 83] (by decide +kernel) (by decide +kernel)
set_option maxRecDepth 20000 in
theorem gX5_init_X3_init_n9 : GoodIn wsX5_init (wsX3_init) := ggX5_init_X3_init
set_option maxRecDepth 20000 in
theorem ggX5_init_X1_init : GoodIn wsX5_init wsX1_init := goodIn_r _ [46, 47, 2, 3, 26, 48, 49, 92, 93, 94] (by decide +kernel) (by decide +kernel)
set_option maxRecDepth 20000 in
theorem gX5_init_X1_init_n21 : GoodIn wsX5_init (wsX1_init) := ggX5_init_X1_init
set_option maxRecDepth 20000 in
theorem ggX5_init_X2_init : GoodIn wsX5_init wsX2_init := goodIn_r _ [51, 52, 2, 3, 53, 5, 6, 54, 55, 10, 11, 56, 28, 29, 30, 31, 32, 33, 34, 35, 26, 36, 37, 38, 39, 40, 41, 42, 43, 44, 45, 46, 47, 48, 49, 67, 68, 69, 70, 71, 72, 73, 74, 75, 76, 77, 78, 79, 80, 81, 82, 83, 95, 96, 92, 93, 94] (by decide +kernel) (by decide +kernel)
set_option maxRecDepth 20000 in
theorem gX5_init_X2_init_n28 : GoodIn wsX5_init (wsX2_init) := ggX5_init_X2_init
set_option maxRecDepth 20000 in
theorem ggX5_init_X0_init : GoodIn wsX5_init wsX0_init := goodIn_r _ [59, 60, 2, 3, 61, 62, 5, 6, 28, 29, 30, 31, 32, 33, 34, 35, 26, 36, 37, 38, 39, 40, 41, 42, 43, 44, 97, 98, 99, 67, 68, 69, 70, 71, 72, 73, 74, 75, 76, 77, 78, 79, 80, 81, 82, 83] (by decide +kernel) (by decide +kernel)
set_option maxRecDepth 20000 in
theorem gX5_init_X0_init : GoodIn wsX5_init (wsX0_init) := ggX5_init_X0_init
set_option maxRecDepth 20000 in
theorem ggX5_init_X4_init : GoodIn wsX5_init wsX4_init := goodIn_r _ [64, 65, 2, 3, 32, 66, 100, 101, 102] (by decide +kernel) (by decide +kernel)
set_option maxRecDepth 20000 in
theorem gX5_init_X4_init_n42 : GoodIn wsX5_init (wsX4_init) := ggX5_init_X4_init
theorem dX5_init_0 : decode cX5_init 0 = .ok (.aload_n 0, 1) := by decide +kernel
theorem dX5_init_1 : decode cX5_init 1 = .ok (.invokespecial 1, 3) := by decide +kernel
theorem dX5_init_4 : decode cX5_init 4 = .ok (.aload_n 0, 1) := by decide +kernel
theorem dX5_init_5 : decode cX5_init 5 = .ok (.new 7, 3) := by decide +kernel
theorem dX5_init_8 : decode cX5_init 8 = .ok (.dup, 1) := by decide +kernel
theorem dX5_init_9 : decode cX5_init 9 = .ok (.invokespecial 9, 3) := by decide +kernel
theorem dX5_init_12 : decode cX5_init 12 = .ok (.putfield 10, 3) := by decide +kernel
theorem dX5_init_15 : decode cX5_init 15 = .ok (.aload_n 0, 1) := by decide +kernel
theorem dX5_init_16 : decode cX5_init 16 = .ok (.new 7, 3) := by decide +kernel
theorem dX5_init_19 : decode cX5_init 19 = .ok (.dup, 1) := by decide +kernel
theorem dX5_init_20 : decode cX5_init 20 = .ok (.invokespecial 9, 3) := by decide +kernel
theorem dX5_init_23 : decode cX5_init 23 = .ok (.putfield 16, 3) := by decide +kernel
theorem dX5_init_26 : decode cX5_init 26 = .ok (.aload_n 0, 1) := by decide +kernel
theorem dX5_init_27 : decode cX5_init 27 = .ok (.new 19, 3) := by decide +kernel
theorem dX5_init_30 : decode cX5_init 30 = .ok (.dup, 1) := by decide +kernel
theorem dX5_init_31 : decode cX5_init 31 = .ok (.invokespecial 21, 3) := by decide +kernel
theorem dX5_init_34 : decode cX5_init 34 = .ok (.putfield 22, 3) := by decide +kernel
theorem dX5_init_37 : decode cX5_init 37 = .ok (.aload_n 0, 1) := by decide +kernel
theorem dX5_init_38 : decode cX5_init 38 = .ok (.new 26, 3) := by decide +kernel
theorem dX5_init_41 : decode cX5_init 41 = .ok (.dup, 1) := by decide +kernel
theorem dX5_init_42 : decode cX5_init 42 = .ok (.invokespecial 28, 3) := by decide +kernel
theorem dX5_init_45 : decode cX5_init 45 = .ok (.putfield 29, 3) := by decide +kernel
theorem dX5_init_48 : decode cX5_init 48 = .ok (.aload_n 0, 1) := by decide +kernel
theorem dX5_init_49 : decode cX5_init 49 = .ok (.new 33, 3) := by decide +kernel
theorem dX5_init_52 : decode cX5_init 52 = .ok (.dup, 1) := by decide +kernel
theorem dX5_init_53 : decode cX5_init 53 = .ok (.invokespecial 35, 3) := by decide +kernel
theorem dX5_init_56 : decode cX5_init 56 = .ok (.putfield 36, 3) := by decide +kernel
theorem dX5_init_59 : decode cX5_init 59 = .ok (.aload_n 0, 1) := by decide +kernel
theorem dX5_init_60 : decode cX5_init 60 = .ok (.new 40, 3) := by decide +kernel
theorem dX5_init_63 : decode cX5_init 63 = .ok (.dup, 1) := by decide +kernel
theorem dX5_init_64 : decode cX5_init 64 = .ok (.invokespecial 42, 3) := by decide +kernel
theorem dX5_init_67 : decode cX5_init 67 = .ok (.putfield 43, 3) := by decide +kernel
theorem dX5_init_70 : decode cX5_init 70 = .ok (.aload_n 0, 1) := by decide +kernel
theorem dX5_init_71 : decode cX5_init 71 = .ok (.iconst 2, 1) := by decide +kernel
theorem dX5_init_72 : decode cX5_init 72 = .ok (.anewarray 7, 3) := by decide +kernel
theorem dX5_init_75 : decode cX5_init 75 = .ok (.putfield 47, 3) := by decide +kernel
theorem dX5_init_78 : decode cX5_init 78 = .ok (.aload_n 0, 1) := by decide +kernel
theorem dX5_init_79 : decode cX5_init 79 = .ok (.iconst 2, 1) := by decide +kernel
theorem dX5_init_80 : decode cX5_init 80 = .ok (.newarray .boolean, 2) := by decide +kernel
theorem dX5_init_82 : decode cX5_init 82 = .ok (.putfield 51, 3) := by decide +kernel
theorem dX5_init_85 : decode cX5_init 85 = .ok (.iconst 0, 1) := by decide +kernel
theorem dX5_init_86 : decode cX5_init 86 = .ok (.istore_n 1, 1) := by decide +kernel
theorem dX5_init_87 : decode cX5_init 87 = .ok (.iload_n 1, 1) := by decide +kernel
theorem dX5_init_88 : decode cX5_init 88 = .ok (.iconst 2, 1) := by decide +kernel
theorem dX5_init_89 : decode cX5_init 89 = .ok (.if_icmp .ge 22, 3) := by decide +kernel
theorem dX5_init_92 : decode cX5_init 92 = .ok (.aload_n 0, 1) := by decide +kernel
theorem dX5_init_93 : decode cX5_init 93 = .ok (.getfield 47, 3) := by decide +kernel
theorem dX5_init_96 : decode cX5_init 96 = .ok (.iload_n 1, 1) := by decide +kernel
theorem dX5_init_97 : decode cX5_init 97 = .ok (.new 7, 3) := by decide +kernel
theorem dX5_init_100 : decode cX5_init 100 = .ok (.dup, 1) := by decide +kernel
theorem dX5_init_101 : decode cX5_init 101 = .ok (.invokespecial 9, 3) := by decide +kernel
theorem dX5_init_104 : decode cX5_init 104 = .ok (.aastore, 1) := by decide +kernel
theorem dX5_init_105 : decode cX5_init 105 = .ok (.iinc 1 1, 3) := by decide +kernel
theorem dX5_init_108 : decode cX5_init 108 = .ok (.goto (-21), 3) := by decide +kernel
theorem dX5_init_111 : decode cX5_init 111 = .ok (.return_, 1) := by decide +kernel
set_option maxRecDepth 20000 in
theorem ggX5_append_X5_requireRange : GoodIn wsX5_append wsX5_requireRange := goodIn_ca (goodIn_r _ [8, 9, 10] (by decide +kernel) (by decide +kernel)) (goodIn_sub (fun _ h => List.mem_cons_of_mem _ (List.mem_append_right _ h)) (by decide +kernel))
set_option maxRecDepth 20000 in
theorem gX5_append_X5_requireRange : GoodIn wsX5_append (va_wsS RX5 55 yX5_requireRange wsX5_requireRange) := goodIn_app (goodIn_of _ (by decide +kernel)) ggX5_append_X5_requireRange
set_option maxRecDepth 20000 in
theorem ggX5_append_X4_add : GoodIn wsX5_append wsX4_add := goodIn_r _ [15, 16, 17, 26, 27, 28] (by decide +kernel) (by decide +kernel)
set_option maxRecDepth 20000 in
theorem gX5_append_X4_add : GoodIn wsX5_append (wsV RX5 70 RX4 yX4_add wsX4_add) := goodIn_app (goodIn_of _ (by decide +kernel)) ggX5_append_X4_add
theorem dX5_append_0 : decode cX5_append 0 = .ok (.iload_n 1, 1) := by decide +kernel
theorem dX5_append_1 : decode cX5_append 1 = .ok (.iconst 0, 1) := by decide +kernel
theorem dX5_append_2 : decode cX5_append 2 = .ok (.sipush 255, 3) := by decide +kernel
theorem dX5_append_5 : decode cX5_append 5 = .ok (.invokestatic 55, 3) := by decide +kernel
theorem dX5_append_8 : decode cX5_append 8 = .ok (.aload_n 0, 1) := by decide +kernel
theorem dX5_append_9 : decode cX5_append 9 = .ok (.getfield 43, 3) := by decide +kernel
theorem dX5_append_12 : decode cX5_append 12 = .ok (.getfield 59, 3) := by decide +kernel
theorem dX5_append_15 : decode cX5_append 15 = .ok (.bipush 100, 2) := by decide +kernel
theorem dX5_append_17 : decode cX5_append 17 = .ok (.if_icmp .lt 13, 3) := by decide +kernel
theorem dX5_append_20 : decode cX5_append 20 = .ok (.new 63, 3) := by decide +kernel
theorem dX5_append_23 : decode cX5_append 23 = .ok (.dup, 1) := by decide +kernel
theorem dX5_append_24 : decode cX5_append 24 = .ok (.ldc 65, 2) := by decide +kernel
theorem dX5_append_26 : decode cX5_append 26 = .ok (.invokespecial 67, 3) := by decide +kernel
theorem dX5_append_29 : decode cX5_append 29 = .ok (.athrow, 1) := by decide +kernel
theorem dX5_append_30 : decode cX5_append 30 = .ok (.aload_n 0, 1) := by decide +kernel
theorem dX5_append_31 : decode cX5_append 31 = .ok (.getfield 43, 3) := by decide +kernel
theorem dX5_append_34 : decode cX5_append 34 = .ok (.iload_n 1, 1) := by decide +kernel
theorem dX5_append_35 : decode cX5_append 35 = .ok (.invokevirtual 70, 3) := by decide +kernel
theorem dX5_append_38 : decode cX5_append 38 = .ok (.ireturn, 1) := by decide +kernel
theorem dX5_clearText_0 : decode cX5_clearText 0 = .ok (.aload_n 0, 1) := by decide +kernel
theorem dX5_clearText_1 : decode cX5_clearText 1 = .ok (.getfield 43, 3) := by decide +kernel
theorem dX5_clearText_4 : decode cX5_clearText 4 = .ok (.getfield 59, 3) := by decide +kernel
theorem dX5_clearText_7 : decode cX5_clearText 7 = .ok (.istore_n 1, 1) := by decide +kernel
theorem dX5_clearText_8 : decode cX5_clearText 8 = .ok (.aload_n 0, 1) := by decide +kernel
theorem dX5_clearText_9 : decode cX5_clearText 9 = .ok (.getfield 43, 3) := by decide +kernel
theorem dX5_clearText_12 : decode cX5_clearText 12 = .ok (.iconst 0, 1) := by decide +kernel
theorem dX5_clearText_13 : decode cX5_clearText 13 = .ok (.putfield 59, 3) := by decide +kernel
theorem dX5_clearText_16 : decode cX5_clearText 16 = .ok (.iload_n 1, 1) := by decide +kernel
theorem dX5_clearText_17 : decode cX5_clearText 17 = .ok (.ireturn, 1) := by decide +kernel
set_option maxRecDepth 20000 in
theorem ggX5_errorPosition_X4_readInto : GoodIn wsX5_errorPosition wsX4_readInto := goodIn_r _ [7, 8, 9, 10, 11, 12, 6, 13, 14, 15, 16, 17, 18, 19, 20, 21, 22, 23, 24, 25, 26, 27, 28, 29, 30, 31, 32, 33, 34, 35, 36, 37, 38, 39, 40, 41, 42, 43, 44, 45, 46, 47, 48, 49, 50, 51, 52, 53, 54, 55, 56, 57, 58, 59, 60, 61, 62, 63, 64, 65, 66, 67, 68, 69, 70, 71, 72, 73, 82, 83, 84, 85, 86, 87, 88, 89, 90, 91, 92, 93, 94, 95, 96, 97, 98, 99, 100, 101] (by decide +kernel) (by decide +kernel)
set_option maxRecDepth 20000 in
theorem gX5_errorPosition_X4_readInto : GoodIn wsX5_errorPosition (wsV RX5 74 RX4 yX4_readInto wsX4_readInto) := goodIn_app (goodIn_of _ (by decide +kernel)) ggX5_errorPosition_X4_readInto
theorem dX5_errorPosition_0 : decode cX5_errorPosition 0 = .ok (.aload_n 0, 1) := by decide +kernel
theorem dX5_errorPosition_1 : decode cX5_errorPosition 1 = .ok (.getfield 43, 3) := by decide +kernel
theorem dX5_errorPosition_4 : decode cX5_errorPosition 4 = .ok (.aload_n 0, 1) := by decide +kernel
theorem dX5_errorPosition_5 : decode cX5_errorPosition 5 = .ok (.getfield 16, 3) := by decide +kernel
theorem dX5_errorPosition_8 : decode cX5_errorPosition 8 = .ok (.invokevirtual 74, 3) := by decide +kernel
theorem dX5_errorPosition_11 : decode cX5_errorPosition 11 = .ok (.ireturn, 1) := by decide +kernel
set_option maxRecDepth 20000 in
theorem ggX5_load_X4_readInto : GoodIn wsX5_load wsX4_readInto := goodIn_r _ [14, 15, 16, 17, 18, 19, 13, 20, 21, 22, 23, 24, 25, 26, 27, 28, 29, 30, 31, 32, 33, 34, 35, 36, 37, 38, 39, 40, 41, 42, 43, 44, 45, 46, 47, 48, 49, 50, 51, 52, 53, 54, 55, 56, 57, 58, 59, 60, 61, 62, 63, 64, 65, 66, 67, 68, 69, 70, 71, 72, 73, 74, 75, 76, 77, 78, 79, 80, 116, 117, 118, 99, 100, 101, 102, 103, 104, 105, 106, 107, 108, 109, 110, 111, 112, 113, 114, 115] (by decide +kernel) (by decide +kernel)
set_option maxRecDepth 20000 in
theorem gX5_load_X4_readInto : GoodIn wsX5_load (wsV RX5 74 RX4 yX4_readInto wsX4_readInto) := goodIn_app (goodIn_of _ (by decide +kernel)) ggX5_load_X4_readInto
set_option maxRecDepth 20000 in
theorem ggX5_load_X3_copyFrom : GoodIn wsX5_load wsX3_copyFrom := goodIn_r _ [84, 32, 33, 34, 35, 36, 59, 60, 62, 63, 64, 65, 66, 67, 68, 69, 70, 37, 99, 100, 101, 102, 103, 104, 105, 106, 107, 108, 109, 110, 111, 112, 113, 114, 115] (by decide +kernel) (by decide +kernel)
set_option maxRecDepth 20000 in
theorem gX5_load_X3_copyFrom : GoodIn wsX5_load (wsV RX5 81 RX3 yX3_copyFrom wsX3_copyFrom) := goodIn_app (goodIn_of _ (by decide +kernel)) ggX5_load_X3_copyFrom
set_option maxRecDepth 20000 in
theorem ggX5_load_X0_forgetAll : GoodIn wsX5_load wsX0_forgetAll := goodIn_r _ [89, 90, 119, 120, 121] (by decide +kernel) (by decide +kernel)
set_option maxRecDepth 20000 in
theorem gX5_load_X0_forgetAll : GoodIn wsX5_load (wsV RX5 85 RX0 yX0_forgetAll wsX0_forgetAll) := goodIn_app (goodIn_of _ (by decide +kernel)) ggX5_load_X0_forgetAll
theorem dX5_load_0 : decode cX5_load 0 = .ok (.aload_n 0, 1) := by decide +kernel
theorem dX5_load_1 : decode cX5_load 1 = .ok (.getfield 43, 3) := by decide +kernel
theorem dX5_load_4 : decode cX5_load 4 = .ok (.aload_n 0, 1) := by decide +kernel
theorem dX5_load_5 : decode cX5_load 5 = .ok (.getfield 16, 3) := by decide +kernel
theorem dX5_load_8 : decode cX5_load 8 = .ok (.invokevirtual 74, 3) := by decide +kernel
theorem dX5_load_11 : decode cX5_load 11 = .ok (.ldc 78, 2) := by decide +kernel
theorem dX5_load_13 : decode cX5_load 13 = .ok (.if_icmp .eq 13, 3) := by decide +kernel
theorem dX5_load_16 : decode cX5_load 16 = .ok (.new 63, 3) := by decide +kernel
theorem dX5_load_19 : decode cX5_load 19 = .ok (.dup, 1) := by decide +kernel
theorem dX5_load_20 : decode cX5_load 20 = .ok (.ldc 79, 2) := by decide +kernel
theorem dX5_load_22 : decode cX5_load 22 = .ok (.invokespecial 67, 3) := by decide +kernel
theorem dX5_load_25 : decode cX5_load 25 = .ok (.athrow, 1) := by decide +kernel
theorem dX5_load_26 : decode cX5_load 26 = .ok (.aload_n 0, 1) := by decide +kernel
theorem dX5_load_27 : decode cX5_load 27 = .ok (.getfield 10, 3) := by decide +kernel
theorem dX5_load_30 : decode cX5_load 30 = .ok (.aload_n 0, 1) := by decide +kernel
theorem dX5_load_31 : decode cX5_load 31 = .ok (.getfield 16, 3) := by decide +kernel
theorem dX5_load_34 : decode cX5_load 34 = .ok (.invokevirtual 81, 3) := by decide +kernel
theorem dX5_load_37 : decode cX5_load 37 = .ok (.aload_n 0, 1) := by decide +kernel
theorem dX5_load_38 : decode cX5_load 38 = .ok (.getfield 36, 3) := by decide +kernel
theorem dX5_load_41 : decode cX5_load 41 = .ok (.invokevirtual 85, 3) := by decide +kernel
theorem dX5_load_44 : decode cX5_load 44 = .ok (.iconst 0, 1) := by decide +kernel
theorem dX5_load_45 : decode cX5_load 45 = .ok (.istore_n 1, 1) := by decide +kernel
theorem dX5_load_46 : decode cX5_load 46 = .ok (.iload_n 1, 1) := by decide +kernel
theorem dX5_load_47 : decode cX5_load 47 = .ok (.iconst 2, 1) := by decide +kernel
theorem dX5_load_48 : decode cX5_load 48 = .ok (.if_icmp .ge 16, 3) := by decide +kernel
theorem dX5_load_51 : decode cX5_load 51 = .ok (.aload_n 0, 1) := by decide +kernel
theorem dX5_load_52 : decode cX5_load 52 = .ok (.getfield 51, 3) := by decide +kernel
theorem dX5_load_55 : decode cX5_load 55 = .ok (.iload_n 1, 1) := by decide +kernel
theorem dX5_load_56 : decode cX5_load 56 = .ok (.iconst 0, 1) := by decide +kernel
theorem dX5_load_57 : decode cX5_load 57 = .ok (.bastore, 1) := by decide +kernel
theorem dX5_load_58 : decode cX5_load 58 = .ok (.iinc 1 1, 3) := by decide +kernel
theorem dX5_load_61 : decode cX5_load 61 = .ok (.goto (-15), 3) := by decide +kernel
theorem dX5_load_64 : decode cX5_load 64 = .ok (.aload_n 0, 1) := by decide +kernel
theorem dX5_load_65 : decode cX5_load 65 = .ok (.getfield 10, 3) := by decide +kernel
theorem dX5_load_68 : decode cX5_load 68 = .ok (.getfield 88, 3) := by decide +kernel
theorem dX5_load_71 : decode cX5_load 71 = .ok (.ireturn, 1) := by decide +kernel
set_option maxRecDepth 20000 in
theorem ggX5_about_X3_countInside : GoodIn wsX5_about wsX3_countInside := goodIn_r _ [13, 14, 15, 39, 40, 41, 42, 43, 44, 45, 46, 47, 48, 49, 50, 51, 52, 53, 54, 55] (by decide +kernel) (by decide +kernel)
set_option maxRecDepth 20000 in
theorem gX5_about_X3_countInside : GoodIn wsX5_about (wsV RX5 91 RX3 yX3_countInside wsX3_countInside) := goodIn_app (goodIn_of _ (by decide +kernel)) ggX5_about_X3_countInside
set_option maxRecDepth 20000 in
theorem ggX5_about_X3_sumOfPurses : GoodIn wsX5_about wsX3_sumOfPurses := goodIn_r _ [19, 14, 20, 39, 40, 41, 42, 43, 44, 45, 46, 47, 48, 49, 50, 51, 52, 53, 54, 55] (by decide +kernel) (by decide +kernel)
set_option maxRecDepth 20000 in
theorem gX5_about_X3_sumOfPurses : GoodIn wsX5_about (wsV RX5 104 RX3 yX3_sumOfPurses wsX3_sumOfPurses) := goodIn_app (goodIn_of _ (by decide +kernel)) ggX5_about_X3_sumOfPurses
set_option maxRecDepth 20000 in
theorem ggX5_about_X3_countWaiting : GoodIn wsX5_about wsX3_countWaiting := goodIn_r _ [24, 14, 15, 25, 39, 40, 41, 42, 43, 44, 45, 46, 47, 48, 49, 50, 51, 52, 53, 54, 55] (by decide +kernel) (by decide +kernel)
set_option maxRecDepth 20000 in
theorem gX5_about_X3_countWaiting : GoodIn wsX5_about (wsV RX5 107 RX3 yX3_countWaiting wsX3_countWaiting) := goodIn_app (goodIn_of _ (by decide +kernel)) ggX5_about_X3_countWaiting
set_option maxRecDepth 20000 in
theorem ggX5_about_X3_sumOfDebts : GoodIn wsX5_about wsX3_sumOfDebts := goodIn_r _ [29, 30, 39, 40, 41, 42, 43, 44, 45, 46, 47, 48, 49, 50, 51, 52, 53, 54, 55] (by decide +kernel) (by decide +kernel)
set_option maxRecDepth 20000 in
theorem gX5_about_X3_sumOfDebts : GoodIn wsX5_about (wsV RX5 110 RX3 yX3_sumOfDebts wsX3_sumOfDebts) := goodIn_app (goodIn_of _ (by decide +kernel)) ggX5_about_X3_sumOfDebts
theorem dX5_about_0 : decode cX5_about 0 = .ok (.iload_n 1, 1) := by decide +kernel
theorem dX5_about_1 : decode cX5_about 1 = .ok (.tableswitch 123 0 8 #[51, 59, 67, 75, 83, 91, 99, 107, 115], 51) := by decide +kernel
theorem dX5_about_52 : decode cX5_about 52 = .ok (.aload_n 0, 1) := by decide +kernel
theorem dX5_about_53 : decode cX5_about 53 = .ok (.getfield 10, 3) := by decide +kernel
theorem dX5_about_56 : decode cX5_about 56 = .ok (.getfield 88, 3) := by decide +kernel
theorem dX5_about_59 : decode cX5_about 59 = .ok (.ireturn, 1) := by decide +kernel
theorem dX5_about_60 : decode cX5_about 60 = .ok (.aload_n 0, 1) := by decide +kernel
theorem dX5_about_61 : decode cX5_about 61 = .ok (.getfield 10, 3) := by decide +kernel
theorem dX5_about_64 : decode cX5_about 64 = .ok (.invokevirtual 91, 3) := by decide +kernel
theorem dX5_about_67 : decode cX5_about 67 = .ok (.ireturn, 1) := by decide +kernel
theorem dX5_about_68 : decode cX5_about 68 = .ok (.aload_n 0, 1) := by decide +kernel
theorem dX5_about_69 : decode cX5_about 69 = .ok (.getfield 10, 3) := by decide +kernel
theorem dX5_about_72 : decode cX5_about 72 = .ok (.getfield 95, 3) := by decide +kernel
theorem dX5_about_75 : decode cX5_about 75 = .ok (.ireturn, 1) := by decide +kernel
theorem dX5_about_76 : decode cX5_about 76 = .ok (.aload_n 0, 1) := by decide +kernel
theorem dX5_about_77 : decode cX5_about 77 = .ok (.getfield 10, 3) := by decide +kernel
theorem dX5_about_80 : decode cX5_about 80 = .ok (.getfield 98, 3) := by decide +kernel
theorem dX5_about_83 : decode cX5_about 83 = .ok (.ireturn, 1) := by decide +kernel
theorem dX5_about_84 : decode cX5_about 84 = .ok (.aload_n 0, 1) := by decide +kernel
theorem dX5_about_85 : decode cX5_about 85 = .ok (.getfield 10, 3) := by decide +kernel
theorem dX5_about_88 : decode cX5_about 88 = .ok (.getfield 101, 3) := by decide +kernel
theorem dX5_about_91 : decode cX5_about 91 = .ok (.ireturn, 1) := by decide +kernel
theorem dX5_about_92 : decode cX5_about 92 = .ok (.aload_n 0, 1) := by decide +kernel
theorem dX5_about_93 : decode cX5_about 93 = .ok (.getfield 10, 3) := by decide +kernel
theorem dX5_about_96 : decode cX5_about 96 = .ok (.invokevirtual 104, 3) := by decide +kernel
theorem dX5_about_99 : decode cX5_about 99 = .ok (.ireturn, 1) := by decide +kernel
theorem dX5_about_100 : decode cX5_about 100 = .ok (.aload_n 0, 1) := by decide +kernel
theorem dX5_about_101 : decode cX5_about 101 = .ok (.getfield 10, 3) := by decide +kernel
theorem dX5_about_104 : decode cX5_about 104 = .ok (.invokevirtual 107, 3) := by decide +kernel
theorem dX5_about_107 : decode cX5_about 107 = .ok (.ireturn, 1) := by decide +kernel
theorem dX5_about_108 : decode cX5_about 108 = .ok (.aload_n 0, 1) := by decide +kernel
theorem dX5_about_109 : decode cX5_about 109 = .ok (.getfield 10, 3) := by decide +kernel
theorem dX5_about_112 : decode cX5_about 112 = .ok (.invokevirtual 110, 3) := by decide +kernel
theorem dX5_about_115 : decode cX5_about 115 = .ok (.ireturn, 1) := by decide +kernel
theorem dX5_about_116 : decode cX5_about 116 = .ok (.aload_n 0, 1) := by decide +kernel
theorem dX5_about_117 : decode cX5_about 117 = .ok (.getfield 10, 3) := by decide +kernel
theorem dX5_about_120 : decode cX5_about 120 = .ok (.getfield 113, 3) := by decide +kernel
theorem dX5_about_123 : decode cX5_about 123 = .ok (.ireturn, 1) := by decide +kernel
theorem dX5_about_124 : decode cX5_about 124 = .ok (.new 116, 3) := by decide +kernel
theorem dX5_about_127 : decode cX5_about 127 = .ok (.dup, 1) := by decide +kernel
theorem dX5_about_128 : decode cX5_about 128 = .ok (.ldc 118, 2) := by decide +kernel
theorem dX5_about_130 : decode cX5_about 130 = .ok (.invokespecial 120, 3) := by decide +kernel
theorem dX5_about_133 : decode cX5_about 133 = .ok (.athrow, 1) := by decide +kernel
set_option maxRecDepth 20000 in
theorem ggX5_member_X5_requireMember : GoodIn wsX5_member wsX5_requireMember := goodIn_ca (goodIn_r _ [19, 20, 21, 3, 22, 23, 24, 25, 26, 27, 28, 29, 30, 31, 32, 33, 34, 35, 36, 37, 38, 39, 40, 41, 42, 43, 44, 45, 46, 47, 48, 49, 50, 51, 52] (by decide +kernel) (by decide +kernel)) (goodIn_sub (fun _ h => List.mem_cons_of_mem _ (List.mem_append_right _ h)) (by decide +kernel))
set_option maxRecDepth 20000 in
theorem gX5_member_X5_requireMember : GoodIn wsX5_member (wsV RX5 121 RX5 yX5_requireMember wsX5_requireMember) := goodIn_app (goodIn_of _ (by decide +kernel)) ggX5_member_X5_requireMember
theorem dX5_member_0 : decode cX5_member 0 = .ok (.aload_n 0, 1) := by decide +kernel
theorem dX5_member_1 : decode cX5_member 1 = .ok (.iload_n 1, 1) := by decide +kernel
theorem dX5_member_2 : decode cX5_member 2 = .ok (.invokevirtual 121, 3) := by decide +kernel
theorem dX5_member_5 : decode cX5_member 5 = .ok (.iload_n 2, 1) := by decide +kernel
theorem dX5_member_6 : decode cX5_member 6 = .ok (.tableswitch 192 0 10 #[58, 68, 78, 88, 106, 124, 142, 152, 162, 172, 182], 58) := by decide +kernel
theorem dX5_member_64 : decode cX5_member 64 = .ok (.aload_n 0, 1) := by decide +kernel
theorem dX5_member_65 : decode cX5_member 65 = .ok (.getfield 10, 3) := by decide +kernel
theorem dX5_member_68 : decode cX5_member 68 = .ok (.getfield 125, 3) := by decide +kernel
theorem dX5_member_71 : decode cX5_member 71 = .ok (.iload_n 1, 1) := by decide +kernel
theorem dX5_member_72 : decode cX5_member 72 = .ok (.iaload, 1) := by decide +kernel
theorem dX5_member_73 : decode cX5_member 73 = .ok (.ireturn, 1) := by decide +kernel
theorem dX5_member_74 : decode cX5_member 74 = .ok (.aload_n 0, 1) := by decide +kernel
theorem dX5_member_75 : decode cX5_member 75 = .ok (.getfield 10, 3) := by decide +kernel
theorem dX5_member_78 : decode cX5_member 78 = .ok (.getfield 129, 3) := by decide +kernel
theorem dX5_member_81 : decode cX5_member 81 = .ok (.iload_n 1, 1) := by decide +kernel
theorem dX5_member_82 : decode cX5_member 82 = .ok (.iaload, 1) := by decide +kernel
theorem dX5_member_83 : decode cX5_member 83 = .ok (.ireturn, 1) := by decide +kernel
theorem dX5_member_84 : decode cX5_member 84 = .ok (.aload_n 0, 1) := by decide +kernel
theorem dX5_member_85 : decode cX5_member 85 = .ok (.getfield 10, 3) := by decide +kernel
theorem dX5_member_88 : decode cX5_member 88 = .ok (.getfield 132, 3) := by decide +kernel
theorem dX5_member_91 : decode cX5_member 91 = .ok (.iload_n 1, 1) := by decide +kernel
theorem dX5_member_92 : decode cX5_member 92 = .ok (.iaload, 1) := by decide +kernel
theorem dX5_member_93 : decode cX5_member 93 = .ok (.ireturn, 1) := by decide +kernel
theorem dX5_member_94 : decode cX5_member 94 = .ok (.aload_n 0, 1) := by decide +kernel
theorem dX5_member_95 : decode cX5_member 95 = .ok (.getfield 10, 3) := by decide +kernel
theorem dX5_member_98 : decode cX5_member 98 = .ok (.getfield 135, 3) := by decide +kernel
theorem dX5_member_101 : decode cX5_member 101 = .ok (.iload_n 1, 1) := by decide +kernel
theorem dX5_member_102 : decode cX5_member 102 = .ok (.baload, 1) := by decide +kernel
theorem dX5_member_103 : decode cX5_member 103 = .ok (.ifCond .eq 7, 3) := by decide +kernel
theorem dX5_member_106 : decode cX5_member 106 = .ok (.iconst 1, 1) := by decide +kernel
theorem dX5_member_107 : decode cX5_member 107 = .ok (.goto 4, 3) := by decide +kernel
theorem dX5_member_110 : decode cX5_member 110 = .ok (.iconst 0, 1) := by decide +kernel
theorem dX5_member_111 : decode cX5_member 111 = .ok (.ireturn, 1) := by decide +kernel
theorem dX5_member_112 : decode cX5_member 112 = .ok (.aload_n 0, 1) := by decide +kernel
theorem dX5_member_113 : decode cX5_member 113 = .ok (.getfield 10, 3) := by decide +kernel
theorem dX5_member_116 : decode cX5_member 116 = .ok (.getfield 138, 3) := by decide +kernel
theorem dX5_member_119 : decode cX5_member 119 = .ok (.iload_n 1, 1) := by decide +kernel
theorem dX5_member_120 : decode cX5_member 120 = .ok (.baload, 1) := by decide +kernel
theorem dX5_member_121 : decode cX5_member 121 = .ok (.ifCond .eq 7, 3) := by decide +kernel
theorem dX5_member_124 : decode cX5_member 124 = .ok (.iconst 1, 1) := by decide +kernel
theorem dX5_member_125 : decode cX5_member 125 = .ok (.goto 4, 3) := by decide +kernel
theorem dX5_member_128 : decode cX5_member 128 = .ok (.iconst 0, 1) := by decide +kernel
theorem dX5_member_129 : decode cX5_member 129 = .ok (.ireturn, 1) := by decide +kernel
theorem dX5_member_130 : decode cX5_member 130 = .ok (.aload_n 0, 1) := by decide +kernel
theorem dX5_member_131 : decode cX5_member 131 = .ok (.getfield 10, 3) := by decide +kernel
theorem dX5_member_134 : decode cX5_member 134 = .ok (.getfield 141, 3) := by decide +kernel
theorem dX5_member_137 : decode cX5_member 137 = .ok (.iload_n 1, 1) := by decide +kernel
theorem dX5_member_138 : decode cX5_member 138 = .ok (.baload, 1) := by decide +kernel
theorem dX5_member_139 : decode cX5_member 139 = .ok (.ifCond .eq 7, 3) := by decide +kernel
theorem dX5_member_142 : decode cX5_member 142 = .ok (.iconst 1, 1) := by decide +kernel
theorem dX5_member_143 : decode cX5_member 143 = .ok (.goto 4, 3) := by decide +kernel
theorem dX5_member_146 : decode cX5_member 146 = .ok (.iconst 0, 1) := by decide +kernel
theorem dX5_member_147 : decode cX5_member 147 = .ok (.ireturn, 1) := by decide +kernel
theorem dX5_member_148 : decode cX5_member 148 = .ok (.aload_n 0, 1) := by decide +kernel
theorem dX5_member_149 : decode cX5_member 149 = .ok (.getfield 10, 3) := by decide +kernel
theorem dX5_member_152 : decode cX5_member 152 = .ok (.getfield 144, 3) := by decide +kernel
theorem dX5_member_155 : decode cX5_member 155 = .ok (.iload_n 1, 1) := by decide +kernel
theorem dX5_member_156 : decode cX5_member 156 = .ok (.iaload, 1) := by decide +kernel
theorem dX5_member_157 : decode cX5_member 157 = .ok (.ireturn, 1) := by decide +kernel
theorem dX5_member_158 : decode cX5_member 158 = .ok (.aload_n 0, 1) := by decide +kernel
theorem dX5_member_159 : decode cX5_member 159 = .ok (.getfield 10, 3) := by decide +kernel
theorem dX5_member_162 : decode cX5_member 162 = .ok (.getfield 147, 3) := by decide +kernel
theorem dX5_member_165 : decode cX5_member 165 = .ok (.iload_n 1, 1) := by decide +kernel
theorem dX5_member_166 : decode cX5_member 166 = .ok (.iaload, 1) := by decide +kernel
theorem dX5_member_167 : decode cX5_member 167 = .ok (.ireturn, 1) := by decide +kernel
theorem dX5_member_168 : decode cX5_member 168 = .ok (.aload_n 0, 1) := by decide +kernel
theorem dX5_member_169 : decode cX5_member 169 = .ok (.getfield 10, 3) := by decide +kernel
theorem dX5_member_172 : decode cX5_member 172 = .ok (.getfield 150, 3) := by decide +kernel
theorem dX5_member_175 : decode cX5_member 175 = .ok (.iload_n 1, 1) := by decide +kernel
theorem dX5_member_176 : decode cX5_member 176 = .ok (.iaload, 1) := by decide +kernel
theorem dX5_member_177 : decode cX5_member 177 = .ok (.ireturn, 1) := by decide +kernel
theorem dX5_member_178 : decode cX5_member 178 = .ok (.aload_n 0, 1) := by decide +kernel
theorem dX5_member_179 : decode cX5_member 179 = .ok (.getfield 10, 3) := by decide +kernel
theorem dX5_member_182 : decode cX5_member 182 = .ok (.getfield 153, 3) := by decide +kernel
theorem dX5_member_185 : decode cX5_member 185 = .ok (.iload_n 1, 1) := by decide +kernel
theorem dX5_member_186 : decode cX5_member 186 = .ok (.iaload, 1) := by decide +kernel
theorem dX5_member_187 : decode cX5_member 187 = .ok (.ireturn, 1) := by decide +kernel
theorem dX5_member_188 : decode cX5_member 188 = .ok (.aload_n 0, 1) := by decide +kernel
theorem dX5_member_189 : decode cX5_member 189 = .ok (.getfield 10, 3) := by decide +kernel
theorem dX5_member_192 : decode cX5_member 192 = .ok (.getfield 156, 3) := by decide +kernel
theorem dX5_member_195 : decode cX5_member 195 = .ok (.iload_n 1, 1) := by decide +kernel
theorem dX5_member_196 : decode cX5_member 196 = .ok (.iaload, 1) := by decide +kernel
theorem dX5_member_197 : decode cX5_member 197 = .ok (.ireturn, 1) := by decide +kernel
theorem dX5_member_198 : decode cX5_member 198 = .ok (.new 116, 3) := by decide +kernel
theorem dX5_member_201 : decode cX5_member 201 = .ok (.dup, 1) := by decide +kernel
theorem dX5_member_202 : decode cX5_member 202 = .ok (.ldc 159, 2) := by decide +kernel
theorem dX5_member_204 : decode cX5_member 204 = .ok (.invokespecial 120, 3) := by decide +kernel
theorem dX5_member_207 : decode cX5_member 207 = .ok (.athrow, 1) := by decide +kernel
set_option maxRecDepth 20000 in
theorem ggX5_owes_X5_requireTwoMembers : GoodIn wsX5_owes wsX5_requireTwoMembers := goodIn_ca (goodIn_ca (goodIn_r _ [7, 8, 9, 10, 11, 12, 6, 13, 14, 15, 1, 16, 17, 18, 19, 20, 21, 25, 26, 27, 28, 29, 30, 31, 32, 33, 34, 35, 36, 37, 38, 39, 40, 41, 42, 43, 44, 45, 46, 47, 48, 49] (by decide +kernel) (by decide +kernel)) (goodIn_sub (fun _ h => List.mem_cons_of_mem _ (List.mem_append_left _ (List.mem_append_right _ h))) (by decide +kernel))) (goodIn_sub (fun _ h => List.mem_cons_of_mem _ (List.mem_append_right _ h)) (by decide +kernel))
set_option maxRecDepth 20000 in
theorem gX5_owes_X5_requireTwoMembers : GoodIn wsX5_owes (wsV RX5 161 RX5 yX5_requireTwoMembers wsX5_requireTwoMembers) := goodIn_app (goodIn_of _ (by decide +kernel)) ggX5_owes_X5_requireTwoMembers
set_option maxRecDepth 20000 in
theorem ggX5_owes_X3_pair : GoodIn wsX5_owes wsX3_pair := goodIn_r _ [24] (by decide +kernel) (by decide +kernel)
set_option maxRecDepth 20000 in
theorem gX5_owes_X3_pair : GoodIn wsX5_owes (va_wsS RX5 168 yX3_pair wsX3_pair) := goodIn_app (goodIn_of _ (by decide +kernel)) ggX5_owes_X3_pair
theorem dX5_owes_0 : decode cX5_owes 0 = .ok (.aload_n 0, 1) := by decide +kernel
theorem dX5_owes_1 : decode cX5_owes 1 = .ok (.iload_n 1, 1) := by decide +kernel
theorem dX5_owes_2 : decode cX5_owes 2 = .ok (.iload_n 2, 1) := by decide +kernel
theorem dX5_owes_3 : decode cX5_owes 3 = .ok (.invokevirtual 161, 3) := by decide +kernel
theorem dX5_owes_6 : decode cX5_owes 6 = .ok (.aload_n 0, 1) := by decide +kernel
theorem dX5_owes_7 : decode cX5_owes 7 = .ok (.getfield 10, 3) := by decide +kernel
theorem dX5_owes_10 : decode cX5_owes 10 = .ok (.getfield 165, 3) := by decide +kernel
theorem dX5_owes_13 : decode cX5_owes 13 = .ok (.iload_n 1, 1) := by decide +kernel
theorem dX5_owes_14 : decode cX5_owes 14 = .ok (.iload_n 2, 1) := by decide +kernel
theorem dX5_owes_15 : decode cX5_owes 15 = .ok (.invokestatic 168, 3) := by decide +kernel
theorem dX5_owes_18 : decode cX5_owes 18 = .ok (.iaload, 1) := by decide +kernel
theorem dX5_owes_19 : decode cX5_owes 19 = .ok (.ireturn, 1) := by decide +kernel
set_option maxRecDepth 20000 in
theorem ggX5_chain_X5_requireMember : GoodIn wsX5_chain wsX5_requireMember := goodIn_ca (goodIn_r _ [6, 7, 8, 1, 9, 10, 11, 12, 13, 14, 21, 22, 23, 24, 25, 26, 27, 28, 29, 30, 31, 32, 33, 34, 35, 36, 37, 38, 39, 40, 41, 42, 43, 44, 45] (by decide +kernel) (by decide +kernel)) (goodIn_sub (fun _ h => List.mem_cons_of_mem _ (List.mem_append_right _ h)) (by decide +kernel))
set_option maxRecDepth 20000 in
theorem gX5_chain_X5_requireMember : GoodIn wsX5_chain (wsV RX5 121 RX5 yX5_requireMember wsX5_requireMember) := goodIn_app (goodIn_of _ (by decide +kernel)) ggX5_chain_X5_requireMember
set_option maxRecDepth 20000 in
theorem ggX5_chain_X3_chainLength : GoodIn wsX5_chain wsX3_chainLength := goodIn_r _ [18, 19, 20, 10, 11, 12, 13, 14, 29, 30, 31, 32, 33, 34, 35, 36, 37, 38, 39, 40, 41, 42, 43, 44, 45] (by decide +kernel) (by decide +kernel)
set_option maxRecDepth 20000 in
theorem gX5_chain_X3_chainLength : GoodIn wsX5_chain (wsV RX5 172 RX3 yX3_chainLength wsX3_chainLength) := goodIn_app (goodIn_of _ (by decide +kernel)) ggX5_chain_X3_chainLength
theorem dX5_chain_0 : decode cX5_chain 0 = .ok (.aload_n 0, 1) := by decide +kernel
theorem dX5_chain_1 : decode cX5_chain 1 = .ok (.iload_n 1, 1) := by decide +kernel
theorem dX5_chain_2 : decode cX5_chain 2 = .ok (.invokevirtual 121, 3) := by decide +kernel
theorem dX5_chain_5 : decode cX5_chain 5 = .ok (.aload_n 0, 1) := by decide +kernel
theorem dX5_chain_6 : decode cX5_chain 6 = .ok (.getfield 10, 3) := by decide +kernel
theorem dX5_chain_9 : decode cX5_chain 9 = .ok (.iload_n 1, 1) := by decide +kernel
theorem dX5_chain_10 : decode cX5_chain 10 = .ok (.invokevirtual 172, 3) := by decide +kernel
theorem dX5_chain_13 : decode cX5_chain 13 = .ok (.ireturn, 1) := by decide +kernel
set_option maxRecDepth 20000 in
theorem ggX5_rate_X5_requireMember : GoodIn wsX5_rate wsX5_requireMember := goodIn_ca (goodIn_r _ [10, 11, 12, 1, 13, 14, 15, 16, 17, 18, 24, 25, 26, 27, 28, 29, 30, 31, 32, 33, 34, 35, 36, 37, 38, 39, 40, 41, 42, 43, 44, 45, 46, 47, 48] (by decide +kernel) (by decide +kernel)) (goodIn_sub (fun _ h => List.mem_cons_of_mem _ (List.mem_append_right _ h)) (by decide +kernel))
set_option maxRecDepth 20000 in
theorem gX5_rate_X5_requireMember : GoodIn wsX5_rate (wsV RX5 121 RX5 yX5_requireMember wsX5_requireMember) := goodIn_app (goodIn_of _ (by decide +kernel)) ggX5_rate_X5_requireMember
set_option maxRecDepth 20000 in
theorem ggX5_rate_X5_bitsOf : GoodIn wsX5_rate wsX5_bitsOf := goodIn_r _ [21, 22, 23] (by decide +kernel) (by decide +kernel)
set_option maxRecDepth 20000 in
theorem gX5_rate_X5_bitsOf : GoodIn wsX5_rate (va_wsS RX5 175 yX5_bitsOf wsX5_bitsOf) := goodIn_app (goodIn_of _ (by decide +kernel)) ggX5_rate_X5_bitsOf
theorem dX5_rate_0 : decode cX5_rate 0 = .ok (.aload_n 0, 1) := by decide +kernel
theorem dX5_rate_1 : decode cX5_rate 1 = .ok (.iload_n 1, 1) := by decide +kernel
theorem dX5_rate_2 : decode cX5_rate 2 = .ok (.invokevirtual 121, 3) := by decide +kernel
theorem dX5_rate_5 : decode cX5_rate 5 = .ok (.aload_n 0, 1) := by decide +kernel
theorem dX5_rate_6 : decode cX5_rate 6 = .ok (.getfield 10, 3) := by decide +kernel
theorem dX5_rate_9 : decode cX5_rate 9 = .ok (.getfield 150, 3) := by decide +kernel
theorem dX5_rate_12 : decode cX5_rate 12 = .ok (.iload_n 1, 1) := by decide +kernel
theorem dX5_rate_13 : decode cX5_rate 13 = .ok (.iaload, 1) := by decide +kernel
theorem dX5_rate_14 : decode cX5_rate 14 = .ok (.aload_n 0, 1) := by decide +kernel
theorem dX5_rate_15 : decode cX5_rate 15 = .ok (.getfield 10, 3) := by decide +kernel
theorem dX5_rate_18 : decode cX5_rate 18 = .ok (.getfield 153, 3) := by decide +kernel
theorem dX5_rate_21 : decode cX5_rate 21 = .ok (.iload_n 1, 1) := by decide +kernel
theorem dX5_rate_22 : decode cX5_rate 22 = .ok (.iaload, 1) := by decide +kernel
theorem dX5_rate_23 : decode cX5_rate 23 = .ok (.iadd, 1) := by decide +kernel
theorem dX5_rate_24 : decode cX5_rate 24 = .ok (.istore_n 2, 1) := by decide +kernel
theorem dX5_rate_25 : decode cX5_rate 25 = .ok (.aload_n 0, 1) := by decide +kernel
theorem dX5_rate_26 : decode cX5_rate 26 = .ok (.getfield 10, 3) := by decide +kernel
theorem dX5_rate_29 : decode cX5_rate 29 = .ok (.getfield 144, 3) := by decide +kernel
theorem dX5_rate_32 : decode cX5_rate 32 = .ok (.iload_n 1, 1) := by decide +kernel
theorem dX5_rate_33 : decode cX5_rate 33 = .ok (.iaload, 1) := by decide +kernel
theorem dX5_rate_34 : decode cX5_rate 34 = .ok (.aload_n 0, 1) := by decide +kernel
theorem dX5_rate_35 : decode cX5_rate 35 = .ok (.getfield 10, 3) := by decide +kernel
theorem dX5_rate_38 : decode cX5_rate 38 = .ok (.getfield 147, 3) := by decide +kernel
theorem dX5_rate_41 : decode cX5_rate 41 = .ok (.iload_n 1, 1) := by decide +kernel
theorem dX5_rate_42 : decode cX5_rate 42 = .ok (.iaload, 1) := by decide +kernel
theorem dX5_rate_43 : decode cX5_rate 43 = .ok (.iadd, 1) := by decide +kernel
theorem dX5_rate_44 : decode cX5_rate 44 = .ok (.istore_n 3, 1) := by decide +kernel
theorem dX5_rate_45 : decode cX5_rate 45 = .ok (.iload_n 3, 1) := by decide +kernel
theorem dX5_rate_46 : decode cX5_rate 46 = .ok (.ifCond .ne 5, 3) := by decide +kernel
theorem dX5_rate_49 : decode cX5_rate 49 = .ok (.iconst 0, 1) := by decide +kernel
theorem dX5_rate_50 : decode cX5_rate 50 = .ok (.ireturn, 1) := by decide +kernel
theorem dX5_rate_51 : decode cX5_rate 51 = .ok (.iload_n 2, 1) := by decide +kernel
theorem dX5_rate_52 : decode cX5_rate 52 = .ok (.i2f, 1) := by decide +kernel
theorem dX5_rate_53 : decode cX5_rate 53 = .ok (.iload_n 3, 1) := by decide +kernel
theorem dX5_rate_54 : decode cX5_rate 54 = .ok (.i2f, 1) := by decide +kernel
theorem dX5_rate_55 : decode cX5_rate 55 = .ok (.fdiv, 1) := by decide +kernel
theorem dX5_rate_56 : decode cX5_rate 56 = .ok (.invokestatic 175, 3) := by decide +kernel
theorem dX5_rate_59 : decode cX5_rate 59 = .ok (.ireturn, 1) := by decide +kernel
set_option maxRecDepth 20000 in
theorem ggX5_addMember_X5_requireRange : GoodIn wsX5_addMember wsX5_requireRange := goodIn_ca (goodIn_r _ [9, 10, 11] (by decide +kernel) (by decide +kernel)) (goodIn_sub (fun _ h => List.mem_cons_of_mem _ (List.mem_append_right _ h)) (by decide +kernel))
set_option maxRecDepth 20000 in
theorem gX5_addMember_X5_requireRange : GoodIn wsX5_addMember (va_wsS RX5 55 yX5_requireRange wsX5_requireRange) := goodIn_app (goodIn_of _ (by decide +kernel)) ggX5_addMember_X5_requireRange
set_option maxRecDepth 20000 in
theorem ggX5_addMember_X0_remember : GoodIn wsX5_addMember wsX0_remember := goodIn_r _ [16, 17, 18, 19, 20, 21, 22, 23, 24, 25, 26, 27, 28, 29, 30, 31, 32, 33, 34, 35, 36, 37, 38, 39, 40, 41, 42, 43, 44, 45, 76, 77, 78, 59, 60, 61, 62, 63, 64, 65, 66, 67, 68, 69, 70, 71, 72, 73, 74, 75] (by decide +kernel) (by decide +kernel)
set_option maxRecDepth 20000 in
theorem gX5_addMember_X0_remember : GoodIn wsX5_addMember (wsV RX5 181 RX0 yX0_remember wsX0_remember) := goodIn_app (goodIn_of _ (by decide +kernel)) ggX5_addMember_X0_remember
set_option maxRecDepth 20000 in
theorem ggX5_addMember_X3_join : GoodIn wsX5_addMember wsX3_join := goodIn_r _ [49, 29, 34, 35, 50, 36, 37, 38, 39, 40, 41, 42, 43, 44, 33, 59, 60, 61, 62, 63, 64, 65, 66, 67, 68, 69, 70, 71, 72, 73, 74, 75] (by decide +kernel) (by decide +kernel)
set_option maxRecDepth 20000 in
theorem gX5_addMember_X3_join : GoodIn wsX5_addMember (wsV RX5 184 RX3 yX3_join wsX3_join) := goodIn_app (goodIn_of _ (by decide +kernel)) ggX5_addMember_X3_join
theorem dX5_addMember_0 : decode cX5_addMember 0 = .ok (.iload_n 1, 1) := by decide +kernel
theorem dX5_addMember_1 : decode cX5_addMember 1 = .ok (.iconst 0, 1) := by decide +kernel
theorem dX5_addMember_2 : decode cX5_addMember 2 = .ok (.sipush 999, 3) := by decide +kernel
theorem dX5_addMember_5 : decode cX5_addMember 5 = .ok (.invokestatic 55, 3) := by decide +kernel
theorem dX5_addMember_8 : decode cX5_addMember 8 = .ok (.aload_n 0, 1) := by decide +kernel
theorem dX5_addMember_9 : decode cX5_addMember 9 = .ok (.getfield 10, 3) := by decide +kernel
theorem dX5_addMember_12 : decode cX5_addMember 12 = .ok (.getfield 88, 3) := by decide +kernel
theorem dX5_addMember_15 : decode cX5_addMember 15 = .ok (.bipush 8, 2) := by decide +kernel
theorem dX5_addMember_17 : decode cX5_addMember 17 = .ok (.if_icmp .lt 13, 3) := by decide +kernel
theorem dX5_addMember_20 : decode cX5_addMember 20 = .ok (.new 63, 3) := by decide +kernel
theorem dX5_addMember_23 : decode cX5_addMember 23 = .ok (.dup, 1) := by decide +kernel
theorem dX5_addMember_24 : decode cX5_addMember 24 = .ok (.ldc 179, 2) := by decide +kernel
theorem dX5_addMember_26 : decode cX5_addMember 26 = .ok (.invokespecial 67, 3) := by decide +kernel
theorem dX5_addMember_29 : decode cX5_addMember 29 = .ok (.athrow, 1) := by decide +kernel
theorem dX5_addMember_30 : decode cX5_addMember 30 = .ok (.aload_n 0, 1) := by decide +kernel
theorem dX5_addMember_31 : decode cX5_addMember 31 = .ok (.getfield 36, 3) := by decide +kernel
theorem dX5_addMember_34 : decode cX5_addMember 34 = .ok (.aload_n 0, 1) := by decide +kernel
theorem dX5_addMember_35 : decode cX5_addMember 35 = .ok (.getfield 10, 3) := by decide +kernel
theorem dX5_addMember_38 : decode cX5_addMember 38 = .ok (.invokevirtual 181, 3) := by decide +kernel
theorem dX5_addMember_41 : decode cX5_addMember 41 = .ok (.aload_n 0, 1) := by decide +kernel
theorem dX5_addMember_42 : decode cX5_addMember 42 = .ok (.getfield 10, 3) := by decide +kernel
theorem dX5_addMember_45 : decode cX5_addMember 45 = .ok (.iload_n 1, 1) := by decide +kernel
theorem dX5_addMember_46 : decode cX5_addMember 46 = .ok (.invokevirtual 184, 3) := by decide +kernel
theorem dX5_addMember_49 : decode cX5_addMember 49 = .ok (.ireturn, 1) := by decide +kernel
set_option maxRecDepth 20000 in
theorem ggX5_setContribution_X5_requireRange : GoodIn wsX5_setContribution wsX5_requireRange := goodIn_ca (goodIn_r _ [7, 8, 9] (by decide +kernel) (by decide +kernel)) (goodIn_sub (fun _ h => List.mem_cons_of_mem _ (List.mem_append_right _ h)) (by decide +kernel))
set_option maxRecDepth 20000 in
theorem gX5_setContribution_X5_requireRange : GoodIn wsX5_setContribution (va_wsS RX5 55 yX5_requireRange wsX5_requireRange) := goodIn_app (goodIn_of _ (by decide +kernel)) ggX5_setContribution_X5_requireRange
set_option maxRecDepth 20000 in
theorem ggX5_setContribution_X0_remember : GoodIn wsX5_setContribution wsX0_remember := goodIn_r _ [14, 15, 16, 17, 18, 19, 20, 21, 22, 23, 24, 25, 26, 27, 28, 29, 30, 31, 32, 33, 34, 35, 36, 37, 38, 39, 40, 41, 42, 43, 69, 70, 71, 52, 53, 54, 55, 56, 57, 58, 59, 60, 61, 62, 63, 64, 65, 66, 67, 68] (by decide +kernel) (by decide +kernel)
set_option maxRecDepth 20000 in
theorem gX5_setContribution_X0_remember : GoodIn wsX5_setContribution (wsV RX5 181 RX0 yX0_remember wsX0_remember) := goodIn_app (goodIn_of _ (by decide +kernel)) ggX5_setContribution_X0_remember
theorem dX5_setContribution_0 : decode cX5_setContribution 0 = .ok (.iload_n 1, 1) := by decide +kernel
theorem dX5_setContribution_1 : decode cX5_setContribution 1 = .ok (.iconst 1, 1) := by decide +kernel
theorem dX5_setContribution_2 : decode cX5_setContribution 2 = .ok (.bipush 50, 2) := by decide +kernel
theorem dX5_setContribution_4 : decode cX5_setContribution 4 = .ok (.invokestatic 55, 3) := by decide +kernel
theorem dX5_setContribution_7 : decode cX5_setContribution 7 = .ok (.aload_n 0, 1) := by decide +kernel
theorem dX5_setContribution_8 : decode cX5_setContribution 8 = .ok (.getfield 36, 3) := by decide +kernel
theorem dX5_setContribution_11 : decode cX5_setContribution 11 = .ok (.aload_n 0, 1) := by decide +kernel
theorem dX5_setContribution_12 : decode cX5_setContribution 12 = .ok (.getfield 10, 3) := by decide +kernel
theorem dX5_setContribution_15 : decode cX5_setContribution 15 = .ok (.invokevirtual 181, 3) := by decide +kernel
theorem dX5_setContribution_18 : decode cX5_setContribution 18 = .ok (.aload_n 0, 1) := by decide +kernel
theorem dX5_setContribution_19 : decode cX5_setContribution 19 = .ok (.getfield 10, 3) := by decide +kernel
theorem dX5_setContribution_22 : decode cX5_setContribution 22 = .ok (.getfield 98, 3) := by decide +kernel
theorem dX5_setContribution_25 : decode cX5_setContribution 25 = .ok (.istore_n 2, 1) := by decide +kernel
theorem dX5_setContribution_26 : decode cX5_setContribution 26 = .ok (.aload_n 0, 1) := by decide +kernel
theorem dX5_setContribution_27 : decode cX5_setContribution 27 = .ok (.getfield 10, 3) := by decide +kernel
theorem dX5_setContribution_30 : decode cX5_setContribution 30 = .ok (.iload_n 1, 1) := by decide +kernel
theorem dX5_setContribution_31 : decode cX5_setContribution 31 = .ok (.putfield 98, 3) := by decide +kernel
theorem dX5_setContribution_34 : decode cX5_setContribution 34 = .ok (.iload_n 2, 1) := by decide +kernel
theorem dX5_setContribution_35 : decode cX5_setContribution 35 = .ok (.ireturn, 1) := by decide +kernel
set_option maxRecDepth 20000 in
theorem ggX5_setGuarantor_X5_requireMember : GoodIn wsX5_setGuarantor wsX5_requireMember := goodIn_ca (goodIn_r _ [9, 10, 11, 3, 12, 13, 14, 15, 16, 17, 56, 57, 58, 59, 60, 61, 62, 63, 64, 65, 66, 67, 68, 69, 70, 71, 72, 73, 74, 75, 76, 77, 78, 79, 80] (by decide +kernel) (by decide +kernel)) (goodIn_sub (fun _ h => List.mem_cons_of_mem _ (List.mem_append_left _ (List.mem_append_right _ h))) (by decide +kernel))
set_option maxRecDepth 20000 in
theorem gX5_setGuarantor_X5_requireMember : GoodIn wsX5_setGuarantor (wsV RX5 121 RX5 yX5_requireMember wsX5_requireMember) := goodIn_app (goodIn_of _ (by decide +kernel)) ggX5_setGuarantor_X5_requireMember
set_option maxRecDepth 20000 in
theorem ggX5_setGuarantor_X5_requireTwoMembers : GoodIn wsX5_setGuarantor wsX5_requireTwoMembers := goodIn_ca (goodIn_ca (goodIn_r _ [21, 22, 23, 5, 6, 7, 8, 9, 10, 11, 3, 12, 13, 14, 15, 16, 17, 56, 57, 58, 59, 60, 61, 62, 63, 64, 65, 66, 67, 68, 69, 70, 71, 72, 73, 74, 75, 76, 77, 78, 79, 80] (by decide +kernel) (by decide +kernel)) (goodIn_sub (fun _ h => List.mem_cons_of_mem _ (List.mem_append_right _ h)) (by decide +kernel))) (goodIn_sub (fun _ h => List.mem_cons_of_mem _ (List.mem_append_left _ (List.mem_append_right _ h))) (by decide +kernel))
set_option maxRecDepth 20000 in
theorem gX5_setGuarantor_X5_requireTwoMembers : GoodIn wsX5_setGuarantor (wsV RX5 161 RX5 yX5_requireTwoMembers wsX5_requireTwoMembers) := goodIn_app (goodIn_of _ (by decide +kernel)) ggX5_setGuarantor_X5_requireTwoMembers
set_option maxRecDepth 20000 in
theorem ggX5_setGuarantor_X0_remember : GoodIn wsX5_setGuarantor wsX0_remember := goodIn_r _ [28, 29, 30, 31, 32, 33, 34, 35, 36, 37, 38, 15, 39, 17, 40, 41, 42, 43, 44, 45, 46, 47, 48, 49, 50, 51, 52, 53, 54, 55, 81, 82, 83, 64, 65, 66, 67, 68, 69, 70, 71, 72, 73, 74, 75, 76, 77, 78, 79, 80] (by decide +kernel) (by decide +kernel)
set_option maxRecDepth 20000 in
theorem gX5_setGuarantor_X0_remember : GoodIn wsX5_setGuarantor (wsV RX5 181 RX0 yX0_remember wsX0_remember) := goodIn_app (goodIn_of _ (by decide +kernel)) ggX5_setGuarantor_X0_remember
theorem dX5_setGuarantor_0 : decode cX5_setGuarantor 0 = .ok (.iload_n 2, 1) := by decide +kernel
theorem dX5_setGuarantor_1 : decode cX5_setGuarantor 1 = .ok (.ldc 78, 2) := by decide +kernel
theorem dX5_setGuarantor_3 : decode cX5_setGuarantor 3 = .ok (.if_icmp .ne 11, 3) := by decide +kernel
theorem dX5_setGuarantor_6 : decode cX5_setGuarantor 6 = .ok (.aload_n 0, 1) := by decide +kernel
theorem dX5_setGuarantor_7 : decode cX5_setGuarantor 7 = .ok (.iload_n 1, 1) := by decide +kernel
theorem dX5_setGuarantor_8 : decode cX5_setGuarantor 8 = .ok (.invokevirtual 121, 3) := by decide +kernel
theorem dX5_setGuarantor_11 : decode cX5_setGuarantor 11 = .ok (.goto 9, 3) := by decide +kernel
theorem dX5_setGuarantor_14 : decode cX5_setGuarantor 14 = .ok (.aload_n 0, 1) := by decide +kernel
theorem dX5_setGuarantor_15 : decode cX5_setGuarantor 15 = .ok (.iload_n 1, 1) := by decide +kernel
theorem dX5_setGuarantor_16 : decode cX5_setGuarantor 16 = .ok (.iload_n 2, 1) := by decide +kernel
theorem dX5_setGuarantor_17 : decode cX5_setGuarantor 17 = .ok (.invokevirtual 161, 3) := by decide +kernel
theorem dX5_setGuarantor_20 : decode cX5_setGuarantor 20 = .ok (.aload_n 0, 1) := by decide +kernel
theorem dX5_setGuarantor_21 : decode cX5_setGuarantor 21 = .ok (.getfield 36, 3) := by decide +kernel
theorem dX5_setGuarantor_24 : decode cX5_setGuarantor 24 = .ok (.aload_n 0, 1) := by decide +kernel
theorem dX5_setGuarantor_25 : decode cX5_setGuarantor 25 = .ok (.getfield 10, 3) := by decide +kernel
theorem dX5_setGuarantor_28 : decode cX5_setGuarantor 28 = .ok (.invokevirtual 181, 3) := by decide +kernel
theorem dX5_setGuarantor_31 : decode cX5_setGuarantor 31 = .ok (.aload_n 0, 1) := by decide +kernel
theorem dX5_setGuarantor_32 : decode cX5_setGuarantor 32 = .ok (.getfield 10, 3) := by decide +kernel
theorem dX5_setGuarantor_35 : decode cX5_setGuarantor 35 = .ok (.getfield 129, 3) := by decide +kernel
theorem dX5_setGuarantor_38 : decode cX5_setGuarantor 38 = .ok (.iload_n 1, 1) := by decide +kernel
theorem dX5_setGuarantor_39 : decode cX5_setGuarantor 39 = .ok (.iaload, 1) := by decide +kernel
theorem dX5_setGuarantor_40 : decode cX5_setGuarantor 40 = .ok (.istore_n 3, 1) := by decide +kernel
theorem dX5_setGuarantor_41 : decode cX5_setGuarantor 41 = .ok (.aload_n 0, 1) := by decide +kernel
theorem dX5_setGuarantor_42 : decode cX5_setGuarantor 42 = .ok (.getfield 10, 3) := by decide +kernel
theorem dX5_setGuarantor_45 : decode cX5_setGuarantor 45 = .ok (.getfield 129, 3) := by decide +kernel
theorem dX5_setGuarantor_48 : decode cX5_setGuarantor 48 = .ok (.iload_n 1, 1) := by decide +kernel
theorem dX5_setGuarantor_49 : decode cX5_setGuarantor 49 = .ok (.iload_n 2, 1) := by decide +kernel
theorem dX5_setGuarantor_50 : decode cX5_setGuarantor 50 = .ok (.iastore, 1) := by decide +kernel
theorem dX5_setGuarantor_51 : decode cX5_setGuarantor 51 = .ok (.iload_n 3, 1) := by decide +kernel
theorem dX5_setGuarantor_52 : decode cX5_setGuarantor 52 = .ok (.ireturn, 1) := by decide +kernel
set_option maxRecDepth 20000 in
theorem ggX5_bid_X5_requireMember : GoodIn wsX5_bid wsX5_requireMember := goodIn_ca (goodIn_r _ [10, 11, 12, 3, 13, 14, 15, 16, 17, 18, 60, 61, 62, 63, 64, 65, 66, 67, 68, 69, 70, 71, 72, 73, 74, 75, 76, 77, 78, 79, 80, 81, 82, 83, 84] (by decide +kernel) (by decide +kernel)) (goodIn_sub (fun _ h => List.mem_cons_of_mem _ (List.mem_append_left _ (List.mem_append_right _ h))) (by decide +kernel))
set_option maxRecDepth 20000 in
theorem gX5_bid_X5_requireMember : GoodIn wsX5_bid (wsV RX5 121 RX5 yX5_requireMember wsX5_requireMember) := goodIn_app (goodIn_of _ (by decide +kernel)) ggX5_bid_X5_requireMember
set_option maxRecDepth 20000 in
theorem ggX5_bid_X5_requireRange : GoodIn wsX5_bid wsX5_requireRange := goodIn_ca (goodIn_r _ [21, 22, 23] (by decide +kernel) (by decide +kernel)) (goodIn_sub (fun _ h => List.mem_cons_of_mem _ (List.mem_append_right _ h)) (by decide +kernel))
set_option maxRecDepth 20000 in
theorem gX5_bid_X5_requireRange : GoodIn wsX5_bid (va_wsS RX5 55 yX5_requireRange wsX5_requireRange) := goodIn_app (goodIn_of _ (by decide +kernel)) ggX5_bid_X5_requireRange
set_option maxRecDepth 20000 in
theorem ggX5_bid_X3_mayBid : GoodIn wsX5_bid wsX3_mayBid := goodIn_r _ [27, 28, 29, 68, 69, 70, 71, 72, 73, 74, 75, 76, 77, 78, 79, 80, 81, 82, 83, 84] (by decide +kernel) (by decide +kernel)
set_option maxRecDepth 20000 in
theorem gX5_bid_X3_mayBid : GoodIn wsX5_bid (wsV RX5 187 RX3 yX3_mayBid wsX3_mayBid) := goodIn_app (goodIn_of _ (by decide +kernel)) ggX5_bid_X3_mayBid
set_option maxRecDepth 20000 in
theorem ggX5_bid_X0_remember : GoodIn wsX5_bid wsX0_remember := goodIn_r _ [34, 35, 36, 37, 38, 39, 40, 41, 42, 43, 44, 16, 45, 18, 46, 47, 48, 49, 50, 51, 52, 53, 29, 28, 54, 55, 56, 57, 58, 59, 85, 86, 87, 68, 69, 70, 71, 72, 73, 74, 75, 76, 77, 78, 79, 80, 81, 82, 83, 84] (by decide +kernel) (by decide +kernel)
set_option maxRecDepth 20000 in
theorem gX5_bid_X0_remember : GoodIn wsX5_bid (wsV RX5 181 RX0 yX0_remember wsX0_remember) := goodIn_app (goodIn_of _ (by decide +kernel)) ggX5_bid_X0_remember
theorem dX5_bid_0 : decode cX5_bid 0 = .ok (.aload_n 0, 1) := by decide +kernel
theorem dX5_bid_1 : decode cX5_bid 1 = .ok (.iload_n 1, 1) := by decide +kernel
theorem dX5_bid_2 : decode cX5_bid 2 = .ok (.invokevirtual 121, 3) := by decide +kernel
theorem dX5_bid_5 : decode cX5_bid 5 = .ok (.iload_n 2, 1) := by decide +kernel
theorem dX5_bid_6 : decode cX5_bid 6 = .ok (.iconst 0, 1) := by decide +kernel
theorem dX5_bid_7 : decode cX5_bid 7 = .ok (.sipush 999, 3) := by decide +kernel
theorem dX5_bid_10 : decode cX5_bid 10 = .ok (.invokestatic 55, 3) := by decide +kernel
theorem dX5_bid_13 : decode cX5_bid 13 = .ok (.aload_n 0, 1) := by decide +kernel
theorem dX5_bid_14 : decode cX5_bid 14 = .ok (.getfield 10, 3) := by decide +kernel
theorem dX5_bid_17 : decode cX5_bid 17 = .ok (.iload_n 1, 1) := by decide +kernel
theorem dX5_bid_18 : decode cX5_bid 18 = .ok (.invokevirtual 187, 3) := by decide +kernel
theorem dX5_bid_21 : decode cX5_bid 21 = .ok (.ifCond .ne 13, 3) := by decide +kernel
theorem dX5_bid_24 : decode cX5_bid 24 = .ok (.new 63, 3) := by decide +kernel
theorem dX5_bid_27 : decode cX5_bid 27 = .ok (.dup, 1) := by decide +kernel
theorem dX5_bid_28 : decode cX5_bid 28 = .ok (.ldc 191, 2) := by decide +kernel
theorem dX5_bid_30 : decode cX5_bid 30 = .ok (.invokespecial 67, 3) := by decide +kernel
theorem dX5_bid_33 : decode cX5_bid 33 = .ok (.athrow, 1) := by decide +kernel
theorem dX5_bid_34 : decode cX5_bid 34 = .ok (.aload_n 0, 1) := by decide +kernel
theorem dX5_bid_35 : decode cX5_bid 35 = .ok (.getfield 36, 3) := by decide +kernel
theorem dX5_bid_38 : decode cX5_bid 38 = .ok (.aload_n 0, 1) := by decide +kernel
theorem dX5_bid_39 : decode cX5_bid 39 = .ok (.getfield 10, 3) := by decide +kernel
theorem dX5_bid_42 : decode cX5_bid 42 = .ok (.invokevirtual 181, 3) := by decide +kernel
theorem dX5_bid_45 : decode cX5_bid 45 = .ok (.aload_n 0, 1) := by decide +kernel
theorem dX5_bid_46 : decode cX5_bid 46 = .ok (.getfield 10, 3) := by decide +kernel
theorem dX5_bid_49 : decode cX5_bid 49 = .ok (.getfield 132, 3) := by decide +kernel
theorem dX5_bid_52 : decode cX5_bid 52 = .ok (.iload_n 1, 1) := by decide +kernel
theorem dX5_bid_53 : decode cX5_bid 53 = .ok (.iaload, 1) := by decide +kernel
theorem dX5_bid_54 : decode cX5_bid 54 = .ok (.istore_n 3, 1) := by decide +kernel
theorem dX5_bid_55 : decode cX5_bid 55 = .ok (.aload_n 0, 1) := by decide +kernel
theorem dX5_bid_56 : decode cX5_bid 56 = .ok (.getfield 10, 3) := by decide +kernel
theorem dX5_bid_59 : decode cX5_bid 59 = .ok (.getfield 132, 3) := by decide +kernel
theorem dX5_bid_62 : decode cX5_bid 62 = .ok (.iload_n 1, 1) := by decide +kernel
theorem dX5_bid_63 : decode cX5_bid 63 = .ok (.iload_n 2, 1) := by decide +kernel
theorem dX5_bid_64 : decode cX5_bid 64 = .ok (.iastore, 1) := by decide +kernel
theorem dX5_bid_65 : decode cX5_bid 65 = .ok (.iload_n 3, 1) := by decide +kernel
theorem dX5_bid_66 : decode cX5_bid 66 = .ok (.ireturn, 1) := by decide +kernel
set_option maxRecDepth 20000 in
theorem ggX5_stayAway_X5_requireMember : GoodIn wsX5_stayAway wsX5_requireMember := goodIn_ca (goodIn_r _ [8, 9, 10, 2, 11, 12, 13, 14, 15, 16, 49, 50, 51, 52, 53, 54, 55, 56, 57, 58, 59, 60, 61, 62, 63, 64, 65, 66, 67, 68, 69, 70, 71, 72, 73] (by decide +kernel) (by decide +kernel)) (goodIn_sub (fun _ h => List.mem_cons_of_mem _ (List.mem_append_right _ h)) (by decide +kernel))
set_option maxRecDepth 20000 in
theorem gX5_stayAway_X5_requireMember : GoodIn wsX5_stayAway (wsV RX5 121 RX5 yX5_requireMember wsX5_requireMember) := goodIn_app (goodIn_of _ (by decide +kernel)) ggX5_stayAway_X5_requireMember
set_option maxRecDepth 20000 in
theorem ggX5_stayAway_X0_remember : GoodIn wsX5_stayAway wsX0_remember := goodIn_r _ [21, 22, 23, 24, 25, 26, 27, 28, 29, 30, 31, 14, 32, 16, 33, 34, 35, 36, 37, 38, 39, 40, 41, 42, 43, 44, 45, 46, 47, 48, 74, 75, 76, 57, 58, 59, 60, 61, 62, 63, 64, 65, 66, 67, 68, 69, 70, 71, 72, 73] (by decide +kernel) (by decide +kernel)
set_option maxRecDepth 20000 in
theorem gX5_stayAway_X0_remember : GoodIn wsX5_stayAway (wsV RX5 181 RX0 yX0_remember wsX0_remember) := goodIn_app (goodIn_of _ (by decide +kernel)) ggX5_stayAway_X0_remember
theorem dX5_stayAway_0 : decode cX5_stayAway 0 = .ok (.aload_n 0, 1) := by decide +kernel
theorem dX5_stayAway_1 : decode cX5_stayAway 1 = .ok (.iload_n 1, 1) := by decide +kernel
theorem dX5_stayAway_2 : decode cX5_stayAway 2 = .ok (.invokevirtual 121, 3) := by decide +kernel
theorem dX5_stayAway_5 : decode cX5_stayAway 5 = .ok (.aload_n 0, 1) := by decide +kernel
theorem dX5_stayAway_6 : decode cX5_stayAway 6 = .ok (.getfield 36, 3) := by decide +kernel
theorem dX5_stayAway_9 : decode cX5_stayAway 9 = .ok (.aload_n 0, 1) := by decide +kernel
theorem dX5_stayAway_10 : decode cX5_stayAway 10 = .ok (.getfield 10, 3) := by decide +kernel
theorem dX5_stayAway_13 : decode cX5_stayAway 13 = .ok (.invokevirtual 181, 3) := by decide +kernel
theorem dX5_stayAway_16 : decode cX5_stayAway 16 = .ok (.aload_n 0, 1) := by decide +kernel
theorem dX5_stayAway_17 : decode cX5_stayAway 17 = .ok (.getfield 10, 3) := by decide +kernel
theorem dX5_stayAway_20 : decode cX5_stayAway 20 = .ok (.getfield 135, 3) := by decide +kernel
theorem dX5_stayAway_23 : decode cX5_stayAway 23 = .ok (.iload_n 1, 1) := by decide +kernel
theorem dX5_stayAway_24 : decode cX5_stayAway 24 = .ok (.baload, 1) := by decide +kernel
theorem dX5_stayAway_25 : decode cX5_stayAway 25 = .ok (.istore_n 3, 1) := by decide +kernel
theorem dX5_stayAway_26 : decode cX5_stayAway 26 = .ok (.aload_n 0, 1) := by decide +kernel
theorem dX5_stayAway_27 : decode cX5_stayAway 27 = .ok (.getfield 10, 3) := by decide +kernel
theorem dX5_stayAway_30 : decode cX5_stayAway 30 = .ok (.getfield 135, 3) := by decide +kernel
theorem dX5_stayAway_33 : decode cX5_stayAway 33 = .ok (.iload_n 1, 1) := by decide +kernel
theorem dX5_stayAway_34 : decode cX5_stayAway 34 = .ok (.iload_n 2, 1) := by decide +kernel
theorem dX5_stayAway_35 : decode cX5_stayAway 35 = .ok (.bastore, 1) := by decide +kernel
theorem dX5_stayAway_36 : decode cX5_stayAway 36 = .ok (.iload_n 3, 1) := by decide +kernel
theorem dX5_stayAway_37 : decode cX5_stayAway 37 = .ok (.ireturn, 1) := by decide +kernel
set_option maxRecDepth 20000 in
theorem ggX5_give_X5_requireMember : GoodIn wsX5_give wsX5_requireMember := goodIn_ca (goodIn_r _ [10, 11, 12, 3, 13, 14, 15, 16, 17, 18, 64, 65, 66, 67, 68, 69, 70, 71, 72, 73, 74, 75, 76, 77, 78, 79, 80, 81, 82, 83, 84, 85, 86, 87, 88] (by decide +kernel) (by decide +kernel)) (goodIn_sub (fun _ h => List.mem_cons_of_mem _ (List.mem_append_left _ (List.mem_append_right _ h))) (by decide +kernel))
set_option maxRecDepth 20000 in
theorem gX5_give_X5_requireMember : GoodIn wsX5_give (wsV RX5 121 RX5 yX5_requireMember wsX5_requireMember) := goodIn_app (goodIn_of _ (by decide +kernel)) ggX5_give_X5_requireMember
set_option maxRecDepth 20000 in
theorem ggX5_give_X5_requireRange : GoodIn wsX5_give wsX5_requireRange := goodIn_ca (goodIn_r _ [21, 22, 23] (by decide +kernel) (by decide +kernel)) (goodIn_sub (fun _ h => List.mem_cons_of_mem _ (List.mem_append_right _ h)) (by decide +kernel))
set_option maxRecDepth 20000 in
theorem gX5_give_X5_requireRange : GoodIn wsX5_give (va_wsS RX5 55 yX5_requireRange wsX5_requireRange) := goodIn_app (goodIn_of _ (by decide +kernel)) ggX5_give_X5_requireRange
set_option maxRecDepth 20000 in
theorem ggX5_give_X3_mayReceive : GoodIn wsX5_give wsX3_mayReceive := goodIn_r _ [27, 28, 72, 73, 74, 75, 76, 77, 78, 79, 80, 81, 82, 83, 84, 85, 86, 87, 88] (by decide +kernel) (by decide +kernel)
set_option maxRecDepth 20000 in
theorem gX5_give_X3_mayReceive : GoodIn wsX5_give (wsV RX5 193 RX3 yX3_mayReceive wsX3_mayReceive) := goodIn_app (goodIn_of _ (by decide +kernel)) ggX5_give_X3_mayReceive
set_option maxRecDepth 20000 in
theorem ggX5_give_X0_remember : GoodIn wsX5_give wsX0_remember := goodIn_r _ [33, 34, 35, 36, 37, 38, 39, 40, 41, 42, 43, 16, 44, 18, 45, 46, 47, 28, 48, 49, 50, 51, 52, 53, 54, 55, 56, 57, 58, 59, 89, 90, 91, 72, 73, 74, 75, 76, 77, 78, 79, 80, 81, 82, 83, 84, 85, 86, 87, 88] (by decide +kernel) (by decide +kernel)
set_option maxRecDepth 20000 in
theorem gX5_give_X0_remember : GoodIn wsX5_give (wsV RX5 181 RX0 yX0_remember wsX0_remember) := goodIn_app (goodIn_of _ (by decide +kernel)) ggX5_give_X0_remember
set_option maxRecDepth 20000 in
theorem ggX5_give_X3_receive : GoodIn wsX5_give wsX3_receive := goodIn_r _ [63, 48, 28, 72, 73, 74, 75, 76, 77, 78, 79, 80, 81, 82, 83, 84, 85, 86, 87, 88] (by decide +kernel) (by decide +kernel)
set_option maxRecDepth 20000 in
theorem gX5_give_X3_receive : GoodIn wsX5_give (wsV RX5 198 RX3 yX3_receive wsX3_receive) := goodIn_app (goodIn_of _ (by decide +kernel)) ggX5_give_X3_receive
theorem dX5_give_0 : decode cX5_give 0 = .ok (.aload_n 0, 1) := by decide +kernel
theorem dX5_give_1 : decode cX5_give 1 = .ok (.iload_n 1, 1) := by decide +kernel
theorem dX5_give_2 : decode cX5_give 2 = .ok (.invokevirtual 121, 3) := by decide +kernel
theorem dX5_give_5 : decode cX5_give 5 = .ok (.iload_n 2, 1) := by decide +kernel
theorem dX5_give_6 : decode cX5_give 6 = .ok (.iconst 1, 1) := by decide +kernel
theorem dX5_give_7 : decode cX5_give 7 = .ok (.sipush 999, 3) := by decide +kernel
theorem dX5_give_10 : decode cX5_give 10 = .ok (.invokestatic 55, 3) := by decide +kernel
theorem dX5_give_13 : decode cX5_give 13 = .ok (.aload_n 0, 1) := by decide +kernel
theorem dX5_give_14 : decode cX5_give 14 = .ok (.getfield 10, 3) := by decide +kernel
theorem dX5_give_17 : decode cX5_give 17 = .ok (.iload_n 2, 1) := by decide +kernel
theorem dX5_give_18 : decode cX5_give 18 = .ok (.invokevirtual 193, 3) := by decide +kernel
theorem dX5_give_21 : decode cX5_give 21 = .ok (.ifCond .ne 13, 3) := by decide +kernel
theorem dX5_give_24 : decode cX5_give 24 = .ok (.new 63, 3) := by decide +kernel
theorem dX5_give_27 : decode cX5_give 27 = .ok (.dup, 1) := by decide +kernel
theorem dX5_give_28 : decode cX5_give 28 = .ok (.ldc 196, 2) := by decide +kernel
theorem dX5_give_30 : decode cX5_give 30 = .ok (.invokespecial 67, 3) := by decide +kernel
theorem dX5_give_33 : decode cX5_give 33 = .ok (.athrow, 1) := by decide +kernel
theorem dX5_give_34 : decode cX5_give 34 = .ok (.aload_n 0, 1) := by decide +kernel
theorem dX5_give_35 : decode cX5_give 35 = .ok (.getfield 36, 3) := by decide +kernel
theorem dX5_give_38 : decode cX5_give 38 = .ok (.aload_n 0, 1) := by decide +kernel
theorem dX5_give_39 : decode cX5_give 39 = .ok (.getfield 10, 3) := by decide +kernel
theorem dX5_give_42 : decode cX5_give 42 = .ok (.invokevirtual 181, 3) := by decide +kernel
theorem dX5_give_45 : decode cX5_give 45 = .ok (.aload_n 0, 1) := by decide +kernel
theorem dX5_give_46 : decode cX5_give 46 = .ok (.getfield 10, 3) := by decide +kernel
theorem dX5_give_49 : decode cX5_give 49 = .ok (.iload_n 1, 1) := by decide +kernel
theorem dX5_give_50 : decode cX5_give 50 = .ok (.iload_n 2, 1) := by decide +kernel
theorem dX5_give_51 : decode cX5_give 51 = .ok (.invokevirtual 198, 3) := by decide +kernel
theorem dX5_give_54 : decode cX5_give 54 = .ok (.aload_n 0, 1) := by decide +kernel
theorem dX5_give_55 : decode cX5_give 55 = .ok (.getfield 10, 3) := by decide +kernel
theorem dX5_give_58 : decode cX5_give 58 = .ok (.getfield 125, 3) := by decide +kernel
theorem dX5_give_61 : decode cX5_give 61 = .ok (.iload_n 1, 1) := by decide +kernel
theorem dX5_give_62 : decode cX5_give 62 = .ok (.iaload, 1) := by decide +kernel
theorem dX5_give_63 : decode cX5_give 63 = .ok (.ireturn, 1) := by decide +kernel
set_option maxRecDepth 20000 in
theorem ggX5_month_X3_mayPass : GoodIn wsX5_month wsX3_mayPass := goodIn_r _ [10, 11, 12, 13, 14, 9, 15, 16, 17, 127, 128, 129, 130, 131, 132, 133, 134, 135, 136, 137, 138, 139, 140, 141, 142, 143] (by decide +kernel) (by decide +kernel)
set_option maxRecDepth 20000 in
theorem gX5_month_X3_mayPass : GoodIn wsX5_month (wsV RX5 201 RX3 yX3_mayPass wsX3_mayPass) := goodIn_app (goodIn_of _ (by decide +kernel)) ggX5_month_X3_mayPass
set_option maxRecDepth 20000 in
theorem ggX5_month_X0_remember : GoodIn wsX5_month wsX0_remember := goodIn_r _ [22, 23, 24, 25, 26, 27, 28, 29, 30, 31, 32, 9, 33, 16, 11, 34, 35, 36, 37, 38, 39, 40, 41, 17, 42, 43, 44, 45, 46, 47, 144, 145, 146, 127, 128, 129, 130, 131, 132, 133, 134, 135, 136, 137, 138, 139, 140, 141, 142, 143] (by decide +kernel) (by decide +kernel)
set_option maxRecDepth 20000 in
theorem gX5_month_X0_remember : GoodIn wsX5_month (wsV RX5 181 RX0 yX0_remember wsX0_remember) := goodIn_app (goodIn_of _ (by decide +kernel)) ggX5_month_X0_remember
set_option maxRecDepth 20000 in
theorem ggX5_month_X1_pass : GoodIn wsX5_month wsX1_pass := goodIn_r _ [52, 53, 54, 55, 56, 57, 58, 59, 60, 61, 62, 51, 63, 64, 65, 66, 67, 68, 69, 70, 71, 72, 73, 74, 75, 76, 77, 78, 79, 80, 9, 81, 16, 82, 83, 84, 85, 86, 87, 88, 89, 90, 91, 92, 93, 94, 95, 96, 97, 98, 99, 100, 101, 102, 27, 28, 29, 103, 104, 105, 106, 107, 108, 109, 110, 111, 112, 113, 114, 115, 116, 47, 117, 37, 118, 127, 128, 129, 130, 131, 132, 133, 134, 135, 136, 137, 138, 139, 140, 141, 142, 143, 147, 148, 149] (by decide +kernel) (by decide +kernel)
set_option maxRecDepth 20000 in
theorem gX5_month_X1_pass : GoodIn wsX5_month (wsV RX5 207 RX1 yX1_pass wsX1_pass) := goodIn_app (goodIn_of _ (by decide +kernel)) ggX5_month_X1_pass
theorem dX5_month_0 : decode cX5_month 0 = .ok (.aload_n 0, 1) := by decide +kernel
theorem dX5_month_1 : decode cX5_month 1 = .ok (.getfield 10, 3) := by decide +kernel
theorem dX5_month_4 : decode cX5_month 4 = .ok (.invokevirtual 201, 3) := by decide +kernel
theorem dX5_month_7 : decode cX5_month 7 = .ok (.ifCond .ne 13, 3) := by decide +kernel
theorem dX5_month_10 : decode cX5_month 10 = .ok (.new 63, 3) := by decide +kernel
theorem dX5_month_13 : decode cX5_month 13 = .ok (.dup, 1) := by decide +kernel
theorem dX5_month_14 : decode cX5_month 14 = .ok (.ldc 205, 2) := by decide +kernel
theorem dX5_month_16 : decode cX5_month 16 = .ok (.invokespecial 67, 3) := by decide +kernel
theorem dX5_month_19 : decode cX5_month 19 = .ok (.athrow, 1) := by decide +kernel
theorem dX5_month_20 : decode cX5_month 20 = .ok (.aload_n 0, 1) := by decide +kernel
theorem dX5_month_21 : decode cX5_month 21 = .ok (.getfield 36, 3) := by decide +kernel
theorem dX5_month_24 : decode cX5_month 24 = .ok (.aload_n 0, 1) := by decide +kernel
theorem dX5_month_25 : decode cX5_month 25 = .ok (.getfield 10, 3) := by decide +kernel
theorem dX5_month_28 : decode cX5_month 28 = .ok (.invokevirtual 181, 3) := by decide +kernel
theorem dX5_month_31 : decode cX5_month 31 = .ok (.aload_n 0, 1) := by decide +kernel
theorem dX5_month_32 : decode cX5_month 32 = .ok (.getfield 22, 3) := by decide +kernel
theorem dX5_month_35 : decode cX5_month 35 = .ok (.aload_n 0, 1) := by decide +kernel
theorem dX5_month_36 : decode cX5_month 36 = .ok (.getfield 10, 3) := by decide +kernel
theorem dX5_month_39 : decode cX5_month 39 = .ok (.invokevirtual 207, 3) := by decide +kernel
theorem dX5_month_42 : decode cX5_month 42 = .ok (.ireturn, 1) := by decide +kernel
set_option maxRecDepth 20000 in
theorem ggX5_leave_X5_requireMember : GoodIn wsX5_leave wsX5_requireMember := goodIn_ca (goodIn_r _ [9, 10, 11, 3, 12, 13, 14, 15, 16, 17, 67, 68, 69, 70, 71, 72, 73, 74, 75, 76, 77, 78, 79, 80, 81, 82, 83, 84, 85, 86, 87, 88, 89, 90, 91] (by decide +kernel) (by decide +kernel)) (goodIn_sub (fun _ h => List.mem_cons_of_mem _ (List.mem_append_right _ h)) (by decide +kernel))
set_option maxRecDepth 20000 in
theorem gX5_leave_X5_requireMember : GoodIn wsX5_leave (wsV RX5 121 RX5 yX5_requireMember wsX5_requireMember) := goodIn_app (goodIn_of _ (by decide +kernel)) ggX5_leave_X5_requireMember
set_option maxRecDepth 20000 in
theorem ggX5_leave_X3_mayGo : GoodIn wsX5_leave wsX3_mayGo := goodIn_r _ [21, 22, 23, 24, 25, 26, 15, 27, 28, 29, 30, 31, 32, 33, 34, 35, 36, 37, 38, 39, 17, 75, 76, 77, 78, 79, 80, 81, 82, 83, 84, 85, 86, 87, 88, 89, 90, 91] (by decide +kernel) (by decide +kernel)
set_option maxRecDepth 20000 in
theorem gX5_leave_X3_mayGo : GoodIn wsX5_leave (wsV RX5 210 RX3 yX3_mayGo wsX3_mayGo) := goodIn_app (goodIn_of _ (by decide +kernel)) ggX5_leave_X3_mayGo
set_option maxRecDepth 20000 in
theorem ggX5_leave_X0_remember : GoodIn wsX5_leave wsX0_remember := goodIn_r _ [44, 45, 46, 47, 48, 33, 34, 35, 49, 50, 51, 15, 52, 17, 53, 29, 31, 54, 23, 55, 56, 57, 28, 22, 30, 58, 59, 60, 61, 62, 92, 93, 94, 75, 76, 77, 78, 79, 80, 81, 82, 83, 84, 85, 86, 87, 88, 89, 90, 91] (by decide +kernel) (by decide +kernel)
set_option maxRecDepth 20000 in
theorem gX5_leave_X0_remember : GoodIn wsX5_leave (wsV RX5 181 RX0 yX0_remember wsX0_remember) := goodIn_app (goodIn_of _ (by decide +kernel)) ggX5_leave_X0_remember
set_option maxRecDepth 20000 in
theorem ggX5_leave_X3_go : GoodIn wsX5_leave wsX3_go := goodIn_r _ [66, 23, 31, 22, 24, 25, 26, 15, 27, 28, 29, 30, 32, 33, 34, 35, 36, 37, 38, 39, 17, 75, 76, 77, 78, 79, 80, 81, 82, 83, 84, 85, 86, 87, 88, 89, 90, 91] (by decide +kernel) (by decide +kernel)
set_option maxRecDepth 20000 in
theorem gX5_leave_X3_go : GoodIn wsX5_leave (wsV RX5 215 RX3 yX3_go wsX3_go) := goodIn_app (goodIn_of _ (by decide +kernel)) ggX5_leave_X3_go
theorem dX5_leave_0 : decode cX5_leave 0 = .ok (.aload_n 0, 1) := by decide +kernel
theorem dX5_leave_1 : decode cX5_leave 1 = .ok (.iload_n 1, 1) := by decide +kernel
theorem dX5_leave_2 : decode cX5_leave 2 = .ok (.invokevirtual 121, 3) := by decide +kernel
theorem dX5_leave_5 : decode cX5_leave 5 = .ok (.aload_n 0, 1) := by decide +kernel
theorem dX5_leave_6 : decode cX5_leave 6 = .ok (.getfield 10, 3) := by decide +kernel
theorem dX5_leave_9 : decode cX5_leave 9 = .ok (.iload_n 1, 1) := by decide +kernel
theorem dX5_leave_10 : decode cX5_leave 10 = .ok (.invokevirtual 210, 3) := by decide +kernel
theorem dX5_leave_13 : decode cX5_leave 13 = .ok (.ifCond .ne 13, 3) := by decide +kernel
theorem dX5_leave_16 : decode cX5_leave 16 = .ok (.new 63, 3) := by decide +kernel
theorem dX5_leave_19 : decode cX5_leave 19 = .ok (.dup, 1) := by decide +kernel
theorem dX5_leave_20 : decode cX5_leave 20 = .ok (.ldc 213, 2) := by decide +kernel
theorem dX5_leave_22 : decode cX5_leave 22 = .ok (.invokespecial 67, 3) := by decide +kernel
theorem dX5_leave_25 : decode cX5_leave 25 = .ok (.athrow, 1) := by decide +kernel
theorem dX5_leave_26 : decode cX5_leave 26 = .ok (.aload_n 0, 1) := by decide +kernel
theorem dX5_leave_27 : decode cX5_leave 27 = .ok (.getfield 36, 3) := by decide +kernel
theorem dX5_leave_30 : decode cX5_leave 30 = .ok (.aload_n 0, 1) := by decide +kernel
theorem dX5_leave_31 : decode cX5_leave 31 = .ok (.getfield 10, 3) := by decide +kernel
theorem dX5_leave_34 : decode cX5_leave 34 = .ok (.invokevirtual 181, 3) := by decide +kernel
theorem dX5_leave_37 : decode cX5_leave 37 = .ok (.aload_n 0, 1) := by decide +kernel
theorem dX5_leave_38 : decode cX5_leave 38 = .ok (.getfield 10, 3) := by decide +kernel
theorem dX5_leave_41 : decode cX5_leave 41 = .ok (.iload_n 1, 1) := by decide +kernel
theorem dX5_leave_42 : decode cX5_leave 42 = .ok (.invokevirtual 215, 3) := by decide +kernel
theorem dX5_leave_45 : decode cX5_leave 45 = .ok (.ireturn, 1) := by decide +kernel
set_option maxRecDepth 20000 in
theorem ggX5_repay_X5_requireTwoMembers : GoodIn wsX5_repay wsX5_requireTwoMembers := goodIn_ca (goodIn_ca (goodIn_r _ [8, 9, 10, 11, 12, 13, 7, 14, 15, 16, 2, 17, 18, 19, 20, 21, 22, 63, 64, 65, 66, 67, 68, 69, 70, 71, 72, 73, 74, 75, 76, 77, 78, 79, 80, 81, 82, 83, 84, 85, 86, 87] (by decide +kernel) (by decide +kernel)) (goodIn_sub (fun _ h => List.mem_cons_of_mem _ (List.mem_append_left _ (List.mem_append_right _ h))) (by decide +kernel))) (goodIn_sub (fun _ h => List.mem_cons_of_mem _ (List.mem_append_right _ h)) (by decide +kernel))
set_option maxRecDepth 20000 in
theorem gX5_repay_X5_requireTwoMembers : GoodIn wsX5_repay (wsV RX5 161 RX5 yX5_requireTwoMembers wsX5_requireTwoMembers) := goodIn_app (goodIn_of _ (by decide +kernel)) ggX5_repay_X5_requireTwoMembers
set_option maxRecDepth 20000 in
theorem ggX5_repay_X0_remember : GoodIn wsX5_repay wsX0_remember := goodIn_r _ [27, 28, 29, 30, 31, 32, 33, 34, 35, 36, 37, 20, 38, 22, 39, 40, 41, 42, 43, 44, 45, 46, 47, 48, 49, 50, 51, 52, 53, 54, 88, 89, 90, 71, 72, 73, 74, 75, 76, 77, 78, 79, 80, 81, 82, 83, 84, 85, 86, 87] (by decide +kernel) (by decide +kernel)
set_option maxRecDepth 20000 in
theorem gX5_repay_X0_remember : GoodIn wsX5_repay (wsV RX5 181 RX0 yX0_remember wsX0_remember) := goodIn_app (goodIn_of _ (by decide +kernel)) ggX5_repay_X0_remember
set_option maxRecDepth 20000 in
theorem ggX5_repay_X3_settle : GoodIn wsX5_repay wsX3_settle := goodIn_r _ [58, 54, 59, 32, 33, 34, 43, 60, 61, 20, 62, 71, 72, 73, 74, 75, 76, 77, 78, 79, 80, 81, 82, 83, 84, 85, 86, 87] (by decide +kernel) (by decide +kernel)
set_option maxRecDepth 20000 in
theorem gX5_repay_X3_settle : GoodIn wsX5_repay (wsV RX5 218 RX3 yX3_settle wsX3_settle) := goodIn_app (goodIn_of _ (by decide +kernel)) ggX5_repay_X3_settle
theorem dX5_repay_0 : decode cX5_repay 0 = .ok (.aload_n 0, 1) := by decide +kernel
theorem dX5_repay_1 : decode cX5_repay 1 = .ok (.iload_n 1, 1) := by decide +kernel
theorem dX5_repay_2 : decode cX5_repay 2 = .ok (.iload_n 2, 1) := by decide +kernel
theorem dX5_repay_3 : decode cX5_repay 3 = .ok (.invokevirtual 161, 3) := by decide +kernel
theorem dX5_repay_6 : decode cX5_repay 6 = .ok (.aload_n 0, 1) := by decide +kernel
theorem dX5_repay_7 : decode cX5_repay 7 = .ok (.getfield 36, 3) := by decide +kernel
theorem dX5_repay_10 : decode cX5_repay 10 = .ok (.aload_n 0, 1) := by decide +kernel
theorem dX5_repay_11 : decode cX5_repay 11 = .ok (.getfield 10, 3) := by decide +kernel
theorem dX5_repay_14 : decode cX5_repay 14 = .ok (.invokevirtual 181, 3) := by decide +kernel
theorem dX5_repay_17 : decode cX5_repay 17 = .ok (.aload_n 0, 1) := by decide +kernel
theorem dX5_repay_18 : decode cX5_repay 18 = .ok (.getfield 10, 3) := by decide +kernel
theorem dX5_repay_21 : decode cX5_repay 21 = .ok (.iload_n 1, 1) := by decide +kernel
theorem dX5_repay_22 : decode cX5_repay 22 = .ok (.iload_n 2, 1) := by decide +kernel
theorem dX5_repay_23 : decode cX5_repay 23 = .ok (.aload_n 0, 1) := by decide +kernel
theorem dX5_repay_24 : decode cX5_repay 24 = .ok (.getfield 10, 3) := by decide +kernel
theorem dX5_repay_27 : decode cX5_repay 27 = .ok (.getfield 125, 3) := by decide +kernel
theorem dX5_repay_30 : decode cX5_repay 30 = .ok (.iload_n 1, 1) := by decide +kernel
theorem dX5_repay_31 : decode cX5_repay 31 = .ok (.iaload, 1) := by decide +kernel
theorem dX5_repay_32 : decode cX5_repay 32 = .ok (.invokevirtual 218, 3) := by decide +kernel
theorem dX5_repay_35 : decode cX5_repay 35 = .ok (.istore_n 3, 1) := by decide +kernel
theorem dX5_repay_36 : decode cX5_repay 36 = .ok (.aload_n 0, 1) := by decide +kernel
theorem dX5_repay_37 : decode cX5_repay 37 = .ok (.getfield 10, 3) := by decide +kernel
theorem dX5_repay_40 : decode cX5_repay 40 = .ok (.getfield 125, 3) := by decide +kernel
theorem dX5_repay_43 : decode cX5_repay 43 = .ok (.iload_n 1, 1) := by decide +kernel
theorem dX5_repay_44 : decode cX5_repay 44 = .ok (.dup2, 1) := by decide +kernel
theorem dX5_repay_45 : decode cX5_repay 45 = .ok (.iaload, 1) := by decide +kernel
theorem dX5_repay_46 : decode cX5_repay 46 = .ok (.iload_n 3, 1) := by decide +kernel
theorem dX5_repay_47 : decode cX5_repay 47 = .ok (.isub, 1) := by decide +kernel
theorem dX5_repay_48 : decode cX5_repay 48 = .ok (.iastore, 1) := by decide +kernel
theorem dX5_repay_49 : decode cX5_repay 49 = .ok (.iload_n 3, 1) := by decide +kernel
theorem dX5_repay_50 : decode cX5_repay 50 = .ok (.ireturn, 1) := by decide +kernel
set_option maxRecDepth 20000 in
theorem ggX5_undo_X0_takeBack : GoodIn wsX5_undo wsX0_takeBack := goodIn_r _ [10, 11, 12, 13, 14, 15, 16, 17, 18, 19, 20, 21, 22, 23, 24, 25, 26, 27, 28, 29, 30, 31, 32, 33, 34, 35, 44, 45, 46, 47, 48, 49, 50, 51, 52, 53, 54, 55, 56, 57, 58, 59, 60, 61, 62, 63] (by decide +kernel) (by decide +kernel)
set_option maxRecDepth 20000 in
theorem gX5_undo_X0_takeBack : GoodIn wsX5_undo (wsV RX5 227 RX0 yX0_takeBack wsX0_takeBack) := goodIn_app (goodIn_of _ (by decide +kernel)) ggX5_undo_X0_takeBack
theorem dX5_undo_0 : decode cX5_undo 0 = .ok (.aload_n 0, 1) := by decide +kernel
theorem dX5_undo_1 : decode cX5_undo 1 = .ok (.getfield 36, 3) := by decide +kernel
theorem dX5_undo_4 : decode cX5_undo 4 = .ok (.getfield 222, 3) := by decide +kernel
theorem dX5_undo_7 : decode cX5_undo 7 = .ok (.ifCond .gt 13, 3) := by decide +kernel
theorem dX5_undo_10 : decode cX5_undo 10 = .ok (.new 63, 3) := by decide +kernel
theorem dX5_undo_13 : decode cX5_undo 13 = .ok (.dup, 1) := by decide +kernel
theorem dX5_undo_14 : decode cX5_undo 14 = .ok (.ldc 225, 2) := by decide +kernel
theorem dX5_undo_16 : decode cX5_undo 16 = .ok (.invokespecial 67, 3) := by decide +kernel
theorem dX5_undo_19 : decode cX5_undo 19 = .ok (.athrow, 1) := by decide +kernel
theorem dX5_undo_20 : decode cX5_undo 20 = .ok (.aload_n 0, 1) := by decide +kernel
theorem dX5_undo_21 : decode cX5_undo 21 = .ok (.getfield 36, 3) := by decide +kernel
theorem dX5_undo_24 : decode cX5_undo 24 = .ok (.aload_n 0, 1) := by decide +kernel
theorem dX5_undo_25 : decode cX5_undo 25 = .ok (.getfield 10, 3) := by decide +kernel
theorem dX5_undo_28 : decode cX5_undo 28 = .ok (.invokevirtual 227, 3) := by decide +kernel
theorem dX5_undo_31 : decode cX5_undo 31 = .ok (.ireturn, 1) := by decide +kernel
set_option maxRecDepth 20000 in
theorem ggX5_winner_X3_copyFrom : GoodIn wsX5_winner wsX3_copyFrom := goodIn_r _ [8, 9, 10, 11, 12, 13, 14, 15, 16, 17, 18, 19, 20, 21, 22, 23, 24, 25, 108, 109, 110, 111, 112, 113, 114, 115, 116, 117, 118, 119, 120, 121, 122, 123, 124] (by decide +kernel) (by decide +kernel)
set_option maxRecDepth 20000 in
theorem gX5_winner_X3_copyFrom : GoodIn wsX5_winner (wsV RX5 81 RX3 yX3_copyFrom wsX3_copyFrom) := goodIn_app (goodIn_of _ (by decide +kernel)) ggX5_winner_X3_copyFrom
set_option maxRecDepth 20000 in
theorem ggX5_winner_X1_pass : GoodIn wsX5_winner wsX1_pass := goodIn_r _ [30, 31, 32, 33, 34, 35, 36, 37, 38, 39, 40, 29, 41, 42, 43, 44, 45, 46, 47, 48, 49, 50, 51, 52, 53, 54, 55, 56, 57, 58, 7, 59, 9, 60, 61, 62, 63, 64, 65, 66, 67, 68, 69, 70, 71, 72, 73, 74, 75, 76, 77, 78, 79, 80, 81, 82, 83, 84, 85, 86, 87, 88, 89, 90, 91, 92, 93, 94, 95, 96, 97, 25, 98, 14, 99, 108, 109, 110, 111, 112, 113, 114, 115, 116, 117, 118, 119, 120, 121, 122, 123, 124, 125, 126, 127] (by decide +kernel) (by decide +kernel)
set_option maxRecDepth 20000 in
theorem gX5_winner_X1_pass : GoodIn wsX5_winner (wsV RX5 207 RX1 yX1_pass wsX1_pass) := goodIn_app (goodIn_of _ (by decide +kernel)) ggX5_winner_X1_pass
theorem dX5_winner_0 : decode cX5_winner 0 = .ok (.aload_n 0, 1) := by decide +kernel
theorem dX5_winner_1 : decode cX5_winner 1 = .ok (.getfield 16, 3) := by decide +kernel
theorem dX5_winner_4 : decode cX5_winner 4 = .ok (.aload_n 0, 1) := by decide +kernel
theorem dX5_winner_5 : decode cX5_winner 5 = .ok (.getfield 10, 3) := by decide +kernel
theorem dX5_winner_8 : decode cX5_winner 8 = .ok (.invokevirtual 81, 3) := by decide +kernel
theorem dX5_winner_11 : decode cX5_winner 11 = .ok (.aload_n 0, 1) := by decide +kernel
theorem dX5_winner_12 : decode cX5_winner 12 = .ok (.getfield 22, 3) := by decide +kernel
theorem dX5_winner_15 : decode cX5_winner 15 = .ok (.aload_n 0, 1) := by decide +kernel
theorem dX5_winner_16 : decode cX5_winner 16 = .ok (.getfield 16, 3) := by decide +kernel
theorem dX5_winner_19 : decode cX5_winner 19 = .ok (.invokevirtual 207, 3) := by decide +kernel
theorem dX5_winner_22 : decode cX5_winner 22 = .ok (.ireturn, 1) := by decide +kernel
set_option maxRecDepth 20000 in
theorem ggX5_pot_X3_copyFrom : GoodIn wsX5_pot wsX3_copyFrom := goodIn_r _ [9, 10, 11, 12, 13, 14, 15, 16, 17, 18, 19, 20, 21, 22, 23, 24, 25, 26, 67, 68, 69, 70, 71, 72, 73, 74, 75, 76, 77, 78, 79, 80, 81, 82, 83] (by decide +kernel) (by decide +kernel)
set_option maxRecDepth 20000 in
theorem gX5_pot_X3_copyFrom : GoodIn wsX5_pot (wsV RX5 81 RX3 yX3_copyFrom wsX3_copyFrom) := goodIn_app (goodIn_of _ (by decide +kernel)) ggX5_pot_X3_copyFrom
set_option maxRecDepth 20000 in
theorem ggX5_pot_X1_payIn : GoodIn wsX5_pot wsX1_payIn := goodIn_r _ [31, 32, 33, 34, 35, 36, 37, 38, 39, 40, 41, 42, 43, 30, 44, 45, 46, 47, 48, 49, 50, 51, 8, 52, 10, 53, 54, 55, 64, 65, 66, 67, 68, 69, 70, 71, 72, 73, 74, 75, 76, 77, 78, 79, 80, 81, 82, 83] (by decide +kernel) (by decide +kernel)
set_option maxRecDepth 20000 in
theorem gX5_pot_X1_payIn : GoodIn wsX5_pot (wsV RX5 230 RX1 yX1_payIn wsX1_payIn) := goodIn_app (goodIn_of _ (by decide +kernel)) ggX5_pot_X1_payIn
theorem dX5_pot_0 : decode cX5_pot 0 = .ok (.aload_n 0, 1) := by decide +kernel
theorem dX5_pot_1 : decode cX5_pot 1 = .ok (.getfield 16, 3) := by decide +kernel
theorem dX5_pot_4 : decode cX5_pot 4 = .ok (.aload_n 0, 1) := by decide +kernel
theorem dX5_pot_5 : decode cX5_pot 5 = .ok (.getfield 10, 3) := by decide +kernel
theorem dX5_pot_8 : decode cX5_pot 8 = .ok (.invokevirtual 81, 3) := by decide +kernel
theorem dX5_pot_11 : decode cX5_pot 11 = .ok (.aload_n 0, 1) := by decide +kernel
theorem dX5_pot_12 : decode cX5_pot 12 = .ok (.getfield 22, 3) := by decide +kernel
theorem dX5_pot_15 : decode cX5_pot 15 = .ok (.aload_n 0, 1) := by decide +kernel
theorem dX5_pot_16 : decode cX5_pot 16 = .ok (.getfield 16, 3) := by decide +kernel
theorem dX5_pot_19 : decode cX5_pot 19 = .ok (.invokevirtual 230, 3) := by decide +kernel
theorem dX5_pot_22 : decode cX5_pot 22 = .ok (.aload_n 0, 1) := by decide +kernel
theorem dX5_pot_23 : decode cX5_pot 23 = .ok (.getfield 22, 3) := by decide +kernel
theorem dX5_pot_26 : decode cX5_pot 26 = .ok (.getfield 233, 3) := by decide +kernel
theorem dX5_pot_29 : decode cX5_pot 29 = .ok (.ireturn, 1) := by decide +kernel
set_option maxRecDepth 20000 in
theorem ggX5_change_X5_requireMember : GoodIn wsX5_change wsX5_requireMember := goodIn_ca (goodIn_r _ [9, 10, 11, 2, 12, 13, 14, 15, 16, 17, 109, 110, 111, 112, 113, 114, 115, 116, 117, 118, 119, 120, 121, 122, 123, 124, 125, 126, 127, 128, 129, 130, 131, 132, 133] (by decide +kernel) (by decide +kernel)) (goodIn_sub (fun _ h => List.mem_cons_of_mem _ (List.mem_append_right _ h)) (by decide +kernel))
set_option maxRecDepth 20000 in
theorem gX5_change_X5_requireMember : GoodIn wsX5_change (wsV RX5 121 RX5 yX5_requireMember wsX5_requireMember) := goodIn_app (goodIn_of _ (by decide +kernel)) ggX5_change_X5_requireMember
set_option maxRecDepth 20000 in
theorem ggX5_change_X3_copyFrom : GoodIn wsX5_change wsX3_copyFrom := goodIn_r _ [21, 17, 22, 23, 24, 25, 26, 27, 28, 29, 30, 31, 32, 33, 34, 35, 36, 37, 117, 118, 119, 120, 121, 122, 123, 124, 125, 126, 127, 128, 129, 130, 131, 132, 133] (by decide +kernel) (by decide +kernel)
set_option maxRecDepth 20000 in
theorem gX5_change_X3_copyFrom : GoodIn wsX5_change (wsV RX5 81 RX3 yX3_copyFrom wsX3_copyFrom) := goodIn_app (goodIn_of _ (by decide +kernel)) ggX5_change_X3_copyFrom
set_option maxRecDepth 20000 in
theorem ggX5_change_X1_pass : GoodIn wsX5_change wsX1_pass := goodIn_r _ [42, 43, 44, 45, 46, 47, 48, 49, 50, 51, 52, 41, 53, 54, 55, 56, 57, 58, 59, 60, 61, 62, 63, 64, 65, 66, 67, 68, 13, 14, 15, 16, 17, 69, 70, 71, 72, 73, 74, 75, 76, 77, 78, 79, 80, 81, 82, 83, 84, 85, 86, 87, 88, 89, 90, 91, 92, 93, 94, 95, 96, 97, 98, 99, 100, 101, 102, 103, 104, 105, 106, 37, 107, 26, 108, 117, 118, 119, 120, 121, 122, 123, 124, 125, 126, 127, 128, 129, 130, 131, 132, 133, 134, 135, 136] (by decide +kernel) (by decide +kernel)
set_option maxRecDepth 20000 in
theorem gX5_change_X1_pass : GoodIn wsX5_change (wsV RX5 207 RX1 yX1_pass wsX1_pass) := goodIn_app (goodIn_of _ (by decide +kernel)) ggX5_change_X1_pass
theorem dX5_change_0 : decode cX5_change 0 = .ok (.aload_n 0, 1) := by decide +kernel
theorem dX5_change_1 : decode cX5_change 1 = .ok (.iload_n 1, 1) := by decide +kernel
theorem dX5_change_2 : decode cX5_change 2 = .ok (.invokevirtual 121, 3) := by decide +kernel
theorem dX5_change_5 : decode cX5_change 5 = .ok (.aload_n 0, 1) := by decide +kernel
theorem dX5_change_6 : decode cX5_change 6 = .ok (.getfield 16, 3) := by decide +kernel
theorem dX5_change_9 : decode cX5_change 9 = .ok (.aload_n 0, 1) := by decide +kernel
theorem dX5_change_10 : decode cX5_change 10 = .ok (.getfield 10, 3) := by decide +kernel
theorem dX5_change_13 : decode cX5_change 13 = .ok (.invokevirtual 81, 3) := by decide +kernel
theorem dX5_change_16 : decode cX5_change 16 = .ok (.aload_n 0, 1) := by decide +kernel
theorem dX5_change_17 : decode cX5_change 17 = .ok (.getfield 22, 3) := by decide +kernel
theorem dX5_change_20 : decode cX5_change 20 = .ok (.aload_n 0, 1) := by decide +kernel
theorem dX5_change_21 : decode cX5_change 21 = .ok (.getfield 16, 3) := by decide +kernel
theorem dX5_change_24 : decode cX5_change 24 = .ok (.invokevirtual 207, 3) := by decide +kernel
theorem dX5_change_27 : decode cX5_change 27 = .ok (.pop, 1) := by decide +kernel
theorem dX5_change_28 : decode cX5_change 28 = .ok (.aload_n 0, 1) := by decide +kernel
theorem dX5_change_29 : decode cX5_change 29 = .ok (.getfield 16, 3) := by decide +kernel
theorem dX5_change_32 : decode cX5_change 32 = .ok (.getfield 125, 3) := by decide +kernel
theorem dX5_change_35 : decode cX5_change 35 = .ok (.iload_n 1, 1) := by decide +kernel
theorem dX5_change_36 : decode cX5_change 36 = .ok (.iaload, 1) := by decide +kernel
theorem dX5_change_37 : decode cX5_change 37 = .ok (.aload_n 0, 1) := by decide +kernel
theorem dX5_change_38 : decode cX5_change 38 = .ok (.getfield 10, 3) := by decide +kernel
theorem dX5_change_41 : decode cX5_change 41 = .ok (.getfield 125, 3) := by decide +kernel
theorem dX5_change_44 : decode cX5_change 44 = .ok (.iload_n 1, 1) := by decide +kernel
theorem dX5_change_45 : decode cX5_change 45 = .ok (.iaload, 1) := by decide +kernel
theorem dX5_change_46 : decode cX5_change 46 = .ok (.isub, 1) := by decide +kernel
theorem dX5_change_47 : decode cX5_change 47 = .ok (.ireturn, 1) := by decide +kernel
set_option maxRecDepth 20000 in
theorem ggX5_leastBid_X5_requireMember : GoodIn wsX5_leastBid wsX5_requireMember := goodIn_ca (goodIn_r _ [10, 11, 12, 2, 13, 14, 15, 16, 17, 18, 97, 98, 99, 100, 101, 102, 103, 104, 105, 106, 107, 108, 109, 110, 111, 112, 113, 114, 115, 116, 117, 118, 119, 120, 121] (by decide +kernel) (by decide +kernel)) (goodIn_sub (fun _ h => List.mem_cons_of_mem _ (List.mem_append_right _ h)) (by decide +kernel))
set_option maxRecDepth 20000 in
theorem gX5_leastBid_X5_requireMember : GoodIn wsX5_leastBid (wsV RX5 121 RX5 yX5_requireMember wsX5_requireMember) := goodIn_app (goodIn_of _ (by decide +kernel)) ggX5_leastBid_X5_requireMember
set_option maxRecDepth 20000 in
theorem ggX5_leastBid_X3_copyFrom : GoodIn wsX5_leastBid wsX3_copyFrom := goodIn_r _ [22, 18, 23, 24, 25, 26, 27, 28, 29, 30, 31, 32, 33, 34, 35, 36, 37, 38, 105, 106, 107, 108, 109, 110, 111, 112, 113, 114, 115, 116, 117, 118, 119, 120, 121] (by decide +kernel) (by decide +kernel)
set_option maxRecDepth 20000 in
theorem gX5_leastBid_X3_copyFrom : GoodIn wsX5_leastBid (wsV RX5 81 RX3 yX3_copyFrom wsX3_copyFrom) := goodIn_app (goodIn_of _ (by decide +kernel)) ggX5_leastBid_X3_copyFrom
set_option maxRecDepth 20000 in
theorem ggX5_leastBid_X1_payIn : GoodIn wsX5_leastBid wsX1_payIn := goodIn_r _ [43, 44, 45, 46, 47, 48, 49, 50, 51, 52, 53, 54, 55, 42, 56, 57, 58, 59, 60, 61, 14, 15, 16, 17, 18, 62, 63, 64, 122, 123, 124, 105, 106, 107, 108, 109, 110, 111, 112, 113, 114, 115, 116, 117, 118, 119, 120, 121] (by decide +kernel) (by decide +kernel)
set_option maxRecDepth 20000 in
theorem gX5_leastBid_X1_payIn : GoodIn wsX5_leastBid (wsV RX5 230 RX1 yX1_payIn wsX1_payIn) := goodIn_app (goodIn_of _ (by decide +kernel)) ggX5_leastBid_X1_payIn
set_option maxRecDepth 20000 in
theorem ggX5_leastBid_X1_canTake : GoodIn wsX5_leastBid wsX1_canTake := goodIn_r _ [68, 69, 70, 71, 72, 42, 73, 48, 46, 105, 106, 107, 108, 109, 110, 111, 112, 113, 114, 115, 116, 117, 118, 119, 120, 121, 122, 123, 124] (by decide +kernel) (by decide +kernel)
set_option maxRecDepth 20000 in
theorem gX5_leastBid_X1_canTake : GoodIn wsX5_leastBid (wsV RX5 236 RX1 yX1_canTake wsX1_canTake) := goodIn_app (goodIn_of _ (by decide +kernel)) ggX5_leastBid_X1_canTake
set_option maxRecDepth 20000 in
theorem ggX5_leastBid_X1_greatestBidBeside : GoodIn wsX5_leastBid wsX1_greatestBidBeside := goodIn_r _ [77, 45, 78, 79, 80, 81, 82, 66, 67, 42, 68, 69, 70, 71, 72, 73, 48, 46, 83, 84, 85, 86, 87, 44, 88, 89, 90, 105, 106, 107, 108, 109, 110, 111, 112, 113, 114, 115, 116, 117, 118, 119, 120, 121, 122, 123, 124] (by decide +kernel) (by decide +kernel)
set_option maxRecDepth 20000 in
theorem gX5_leastBid_X1_greatestBidBeside : GoodIn wsX5_leastBid (wsV RX5 240 RX1 yX1_greatestBidBeside wsX1_greatestBidBeside) := goodIn_app (goodIn_of _ (by decide +kernel)) ggX5_leastBid_X1_greatestBidBeside
set_option maxRecDepth 20000 in
theorem ggX5_leastBid_X1_taker : GoodIn wsX5_leastBid wsX1_taker := goodIn_r _ [94, 95, 45, 96, 82, 66, 67, 42, 68, 69, 70, 71, 72, 73, 48, 46, 83, 84, 85, 86, 87, 44, 88, 89, 80, 90, 105, 106, 107, 108, 109, 110, 111, 112, 113, 114, 115, 116, 117, 118, 119, 120, 121, 122, 123, 124] (by decide +kernel) (by decide +kernel)
set_option maxRecDepth 20000 in
theorem gX5_leastBid_X1_taker : GoodIn wsX5_leastBid (wsV RX5 244 RX1 yX1_taker wsX1_taker) := goodIn_app (goodIn_of _ (by decide +kernel)) ggX5_leastBid_X1_taker
theorem dX5_leastBid_0 : decode cX5_leastBid 0 = .ok (.aload_n 0, 1) := by decide +kernel
theorem dX5_leastBid_1 : decode cX5_leastBid 1 = .ok (.iload_n 1, 1) := by decide +kernel
theorem dX5_leastBid_2 : decode cX5_leastBid 2 = .ok (.invokevirtual 121, 3) := by decide +kernel
theorem dX5_leastBid_5 : decode cX5_leastBid 5 = .ok (.aload_n 0, 1) := by decide +kernel
theorem dX5_leastBid_6 : decode cX5_leastBid 6 = .ok (.getfield 16, 3) := by decide +kernel
theorem dX5_leastBid_9 : decode cX5_leastBid 9 = .ok (.aload_n 0, 1) := by decide +kernel
theorem dX5_leastBid_10 : decode cX5_leastBid 10 = .ok (.getfield 10, 3) := by decide +kernel
theorem dX5_leastBid_13 : decode cX5_leastBid 13 = .ok (.invokevirtual 81, 3) := by decide +kernel
theorem dX5_leastBid_16 : decode cX5_leastBid 16 = .ok (.aload_n 0, 1) := by decide +kernel
theorem dX5_leastBid_17 : decode cX5_leastBid 17 = .ok (.getfield 22, 3) := by decide +kernel
theorem dX5_leastBid_20 : decode cX5_leastBid 20 = .ok (.aload_n 0, 1) := by decide +kernel
theorem dX5_leastBid_21 : decode cX5_leastBid 21 = .ok (.getfield 16, 3) := by decide +kernel
theorem dX5_leastBid_24 : decode cX5_leastBid 24 = .ok (.invokevirtual 230, 3) := by decide +kernel
theorem dX5_leastBid_27 : decode cX5_leastBid 27 = .ok (.aload_n 0, 1) := by decide +kernel
theorem dX5_leastBid_28 : decode cX5_leastBid 28 = .ok (.getfield 22, 3) := by decide +kernel
theorem dX5_leastBid_31 : decode cX5_leastBid 31 = .ok (.aload_n 0, 1) := by decide +kernel
theorem dX5_leastBid_32 : decode cX5_leastBid 32 = .ok (.getfield 16, 3) := by decide +kernel
theorem dX5_leastBid_35 : decode cX5_leastBid 35 = .ok (.iload_n 1, 1) := by decide +kernel
theorem dX5_leastBid_36 : decode cX5_leastBid 36 = .ok (.invokevirtual 236, 3) := by decide +kernel
theorem dX5_leastBid_39 : decode cX5_leastBid 39 = .ok (.ifCond .ne 6, 3) := by decide +kernel
theorem dX5_leastBid_42 : decode cX5_leastBid 42 = .ok (.ldc 78, 2) := by decide +kernel
theorem dX5_leastBid_44 : decode cX5_leastBid 44 = .ok (.ireturn, 1) := by decide +kernel
theorem dX5_leastBid_45 : decode cX5_leastBid 45 = .ok (.aload_n 0, 1) := by decide +kernel
theorem dX5_leastBid_46 : decode cX5_leastBid 46 = .ok (.getfield 22, 3) := by decide +kernel
theorem dX5_leastBid_49 : decode cX5_leastBid 49 = .ok (.aload_n 0, 1) := by decide +kernel
theorem dX5_leastBid_50 : decode cX5_leastBid 50 = .ok (.getfield 16, 3) := by decide +kernel
theorem dX5_leastBid_53 : decode cX5_leastBid 53 = .ok (.iload_n 1, 1) := by decide +kernel
theorem dX5_leastBid_54 : decode cX5_leastBid 54 = .ok (.invokevirtual 240, 3) := by decide +kernel
theorem dX5_leastBid_57 : decode cX5_leastBid 57 = .ok (.istore_n 2, 1) := by decide +kernel
theorem dX5_leastBid_58 : decode cX5_leastBid 58 = .ok (.iload_n 2, 1) := by decide +kernel
theorem dX5_leastBid_59 : decode cX5_leastBid 59 = .ok (.istore_n 3, 1) := by decide +kernel
theorem dX5_leastBid_60 : decode cX5_leastBid 60 = .ok (.iload_n 3, 1) := by decide +kernel
theorem dX5_leastBid_61 : decode cX5_leastBid 61 = .ok (.iload_n 2, 1) := by decide +kernel
theorem dX5_leastBid_62 : decode cX5_leastBid 62 = .ok (.iconst 1, 1) := by decide +kernel
theorem dX5_leastBid_63 : decode cX5_leastBid 63 = .ok (.iadd, 1) := by decide +kernel
theorem dX5_leastBid_64 : decode cX5_leastBid 64 = .ok (.if_icmp .gt 36, 3) := by decide +kernel
theorem dX5_leastBid_67 : decode cX5_leastBid 67 = .ok (.aload_n 0, 1) := by decide +kernel
theorem dX5_leastBid_68 : decode cX5_leastBid 68 = .ok (.getfield 16, 3) := by decide +kernel
theorem dX5_leastBid_71 : decode cX5_leastBid 71 = .ok (.getfield 132, 3) := by decide +kernel
theorem dX5_leastBid_74 : decode cX5_leastBid 74 = .ok (.iload_n 1, 1) := by decide +kernel
theorem dX5_leastBid_75 : decode cX5_leastBid 75 = .ok (.iload_n 3, 1) := by decide +kernel
theorem dX5_leastBid_76 : decode cX5_leastBid 76 = .ok (.iastore, 1) := by decide +kernel
theorem dX5_leastBid_77 : decode cX5_leastBid 77 = .ok (.aload_n 0, 1) := by decide +kernel
theorem dX5_leastBid_78 : decode cX5_leastBid 78 = .ok (.getfield 22, 3) := by decide +kernel
theorem dX5_leastBid_81 : decode cX5_leastBid 81 = .ok (.aload_n 0, 1) := by decide +kernel
theorem dX5_leastBid_82 : decode cX5_leastBid 82 = .ok (.getfield 16, 3) := by decide +kernel
theorem dX5_leastBid_85 : decode cX5_leastBid 85 = .ok (.invokevirtual 244, 3) := by decide +kernel
theorem dX5_leastBid_88 : decode cX5_leastBid 88 = .ok (.iload_n 1, 1) := by decide +kernel
theorem dX5_leastBid_89 : decode cX5_leastBid 89 = .ok (.if_icmp .ne 5, 3) := by decide +kernel
theorem dX5_leastBid_92 : decode cX5_leastBid 92 = .ok (.iload_n 3, 1) := by decide +kernel
theorem dX5_leastBid_93 : decode cX5_leastBid 93 = .ok (.ireturn, 1) := by decide +kernel
theorem dX5_leastBid_94 : decode cX5_leastBid 94 = .ok (.iinc 3 1, 3) := by decide +kernel
theorem dX5_leastBid_97 : decode cX5_leastBid 97 = .ok (.goto (-37), 3) := by decide +kernel
theorem dX5_leastBid_100 : decode cX5_leastBid 100 = .ok (.ldc 78, 2) := by decide +kernel
theorem dX5_leastBid_102 : decode cX5_leastBid 102 = .ok (.ireturn, 1) := by decide +kernel
set_option maxRecDepth 20000 in
theorem ggX5_pillar_X5_potWithout : GoodIn wsX5_pillar wsX5_potWithout := goodIn_r _ [9, 10, 2, 11, 12, 13, 14, 15, 16, 17, 18, 19, 20, 21, 22, 23, 24, 25, 26, 27, 28, 29, 30, 31, 32, 33, 34, 35, 36, 37, 38, 39, 40, 41, 42, 43, 44, 45, 46, 47, 48, 49, 50, 51, 52, 53, 54, 55, 56, 57, 58, 59, 60, 61, 62, 63, 64, 65, 66, 67, 68, 69, 70, 71, 72, 73, 74, 75, 76, 77, 78, 79, 80, 81, 82, 83, 84, 85, 86, 87, 88, 89, 90, 91, 92] (by decide +kernel) (by decide +kernel)
set_option maxRecDepth 20000 in
theorem gX5_pillar_X5_potWithout : GoodIn wsX5_pillar (wsV RX5 247 RX5 yX5_potWithout wsX5_potWithout) := goodIn_app (goodIn_of _ (by decide +kernel)) ggX5_pillar_X5_potWithout
theorem dX5_pillar_0 : decode cX5_pillar 0 = .ok (.ldc 78, 2) := by decide +kernel
theorem dX5_pillar_2 : decode cX5_pillar 2 = .ok (.istore_n 1, 1) := by decide +kernel
theorem dX5_pillar_3 : decode cX5_pillar 3 = .ok (.iconst 0, 1) := by decide +kernel
theorem dX5_pillar_4 : decode cX5_pillar 4 = .ok (.istore_n 2, 1) := by decide +kernel
theorem dX5_pillar_5 : decode cX5_pillar 5 = .ok (.iconst 0, 1) := by decide +kernel
theorem dX5_pillar_6 : decode cX5_pillar 6 = .ok (.istore_n 3, 1) := by decide +kernel
theorem dX5_pillar_7 : decode cX5_pillar 7 = .ok (.iload_n 3, 1) := by decide +kernel
theorem dX5_pillar_8 : decode cX5_pillar 8 = .ok (.aload_n 0, 1) := by decide +kernel
theorem dX5_pillar_9 : decode cX5_pillar 9 = .ok (.getfield 10, 3) := by decide +kernel
theorem dX5_pillar_12 : decode cX5_pillar 12 = .ok (.getfield 88, 3) := by decide +kernel
theorem dX5_pillar_15 : decode cX5_pillar 15 = .ok (.if_icmp .ge 45, 3) := by decide +kernel
theorem dX5_pillar_18 : decode cX5_pillar 18 = .ok (.aload_n 0, 1) := by decide +kernel
theorem dX5_pillar_19 : decode cX5_pillar 19 = .ok (.getfield 10, 3) := by decide +kernel
theorem dX5_pillar_22 : decode cX5_pillar 22 = .ok (.getfield 141, 3) := by decide +kernel
theorem dX5_pillar_25 : decode cX5_pillar 25 = .ok (.iload_n 3, 1) := by decide +kernel
theorem dX5_pillar_26 : decode cX5_pillar 26 = .ok (.baload, 1) := by decide +kernel
theorem dX5_pillar_27 : decode cX5_pillar 27 = .ok (.ifCond .eq 27, 3) := by decide +kernel
theorem dX5_pillar_30 : decode cX5_pillar 30 = .ok (.aload_n 0, 1) := by decide +kernel
theorem dX5_pillar_31 : decode cX5_pillar 31 = .ok (.iload_n 3, 1) := by decide +kernel
theorem dX5_pillar_32 : decode cX5_pillar 32 = .ok (.invokevirtual 247, 3) := by decide +kernel
theorem dX5_pillar_35 : decode cX5_pillar 35 = .ok (.istore 4, 2) := by decide +kernel
theorem dX5_pillar_37 : decode cX5_pillar 37 = .ok (.iload_n 1, 1) := by decide +kernel
theorem dX5_pillar_38 : decode cX5_pillar 38 = .ok (.ldc 78, 2) := by decide +kernel
theorem dX5_pillar_40 : decode cX5_pillar 40 = .ok (.if_icmp .eq 9, 3) := by decide +kernel
theorem dX5_pillar_43 : decode cX5_pillar 43 = .ok (.iload 4, 2) := by decide +kernel
theorem dX5_pillar_45 : decode cX5_pillar 45 = .ok (.iload_n 2, 1) := by decide +kernel
theorem dX5_pillar_46 : decode cX5_pillar 46 = .ok (.if_icmp .ge 8, 3) := by decide +kernel
theorem dX5_pillar_49 : decode cX5_pillar 49 = .ok (.iload_n 3, 1) := by decide +kernel
theorem dX5_pillar_50 : decode cX5_pillar 50 = .ok (.istore_n 1, 1) := by decide +kernel
theorem dX5_pillar_51 : decode cX5_pillar 51 = .ok (.iload 4, 2) := by decide +kernel
theorem dX5_pillar_53 : decode cX5_pillar 53 = .ok (.istore_n 2, 1) := by decide +kernel
theorem dX5_pillar_54 : decode cX5_pillar 54 = .ok (.iinc 3 1, 3) := by decide +kernel
theorem dX5_pillar_57 : decode cX5_pillar 57 = .ok (.goto (-50), 3) := by decide +kernel
theorem dX5_pillar_60 : decode cX5_pillar 60 = .ok (.iload_n 1, 1) := by decide +kernel
theorem dX5_pillar_61 : decode cX5_pillar 61 = .ok (.ireturn, 1) := by decide +kernel
set_option maxRecDepth 20000 in
theorem ggX5_when_X5_requireMember : GoodIn wsX5_when wsX5_requireMember := goodIn_ca (goodIn_r _ [10, 11, 12, 2, 13, 14, 15, 16, 17, 18, 118, 119, 120, 121, 122, 123, 124, 125, 126, 127, 128, 129, 130, 131, 132, 133, 134, 135, 136, 137, 138, 139, 140, 141, 142] (by decide +kernel) (by decide +kernel)) (goodIn_sub (fun _ h => List.mem_cons_of_mem _ (List.mem_append_right _ h)) (by decide +kernel))
set_option maxRecDepth 20000 in
theorem gX5_when_X5_requireMember : GoodIn wsX5_when (wsV RX5 121 RX5 yX5_requireMember wsX5_requireMember) := goodIn_app (goodIn_of _ (by decide +kernel)) ggX5_when_X5_requireMember
set_option maxRecDepth 20000 in
theorem ggX5_when_X3_copyFrom : GoodIn wsX5_when wsX3_copyFrom := goodIn_r _ [22, 18, 23, 24, 25, 26, 27, 28, 29, 30, 31, 32, 33, 34, 35, 36, 37, 38, 126, 127, 128, 129, 130, 131, 132, 133, 134, 135, 136, 137, 138, 139, 140, 141, 142] (by decide +kernel) (by decide +kernel)
set_option maxRecDepth 20000 in
theorem gX5_when_X3_copyFrom : GoodIn wsX5_when (wsV RX5 81 RX3 yX3_copyFrom wsX3_copyFrom) := goodIn_app (goodIn_of _ (by decide +kernel)) ggX5_when_X3_copyFrom
set_option maxRecDepth 20000 in
theorem ggX5_when_X3_mayPass : GoodIn wsX5_when wsX3_mayPass := goodIn_r _ [42, 23, 43, 44, 45, 16, 46, 18, 32, 126, 127, 128, 129, 130, 131, 132, 133, 134, 135, 136, 137, 138, 139, 140, 141, 142] (by decide +kernel) (by decide +kernel)
set_option maxRecDepth 20000 in
theorem gX5_when_X3_mayPass : GoodIn wsX5_when (wsV RX5 201 RX3 yX3_mayPass wsX3_mayPass) := goodIn_app (goodIn_of _ (by decide +kernel)) ggX5_when_X3_mayPass
set_option maxRecDepth 20000 in
theorem ggX5_when_X1_pass : GoodIn wsX5_when wsX1_pass := goodIn_r _ [51, 52, 53, 54, 55, 56, 57, 58, 59, 60, 61, 50, 62, 63, 64, 65, 66, 67, 68, 69, 70, 71, 72, 73, 74, 75, 76, 77, 14, 15, 16, 17, 18, 78, 79, 80, 81, 82, 83, 84, 85, 86, 87, 88, 89, 90, 91, 92, 93, 94, 95, 96, 97, 98, 99, 100, 101, 102, 103, 104, 105, 106, 107, 108, 109, 110, 111, 112, 113, 114, 115, 38, 116, 27, 117, 126, 127, 128, 129, 130, 131, 132, 133, 134, 135, 136, 137, 138, 139, 140, 141, 142, 143, 144, 145] (by decide +kernel) (by decide +kernel)
set_option maxRecDepth 20000 in
theorem gX5_when_X1_pass : GoodIn wsX5_when (wsV RX5 207 RX1 yX1_pass wsX1_pass) := goodIn_app (goodIn_of _ (by decide +kernel)) ggX5_when_X1_pass
theorem dX5_when_0 : decode cX5_when 0 = .ok (.aload_n 0, 1) := by decide +kernel
theorem dX5_when_1 : decode cX5_when 1 = .ok (.iload_n 1, 1) := by decide +kernel
theorem dX5_when_2 : decode cX5_when 2 = .ok (.invokevirtual 121, 3) := by decide +kernel
theorem dX5_when_5 : decode cX5_when 5 = .ok (.aload_n 0, 1) := by decide +kernel
theorem dX5_when_6 : decode cX5_when 6 = .ok (.getfield 16, 3) := by decide +kernel
theorem dX5_when_9 : decode cX5_when 9 = .ok (.aload_n 0, 1) := by decide +kernel
theorem dX5_when_10 : decode cX5_when 10 = .ok (.getfield 10, 3) := by decide +kernel
theorem dX5_when_13 : decode cX5_when 13 = .ok (.invokevirtual 81, 3) := by decide +kernel
theorem dX5_when_16 : decode cX5_when 16 = .ok (.iconst 0, 1) := by decide +kernel
theorem dX5_when_17 : decode cX5_when 17 = .ok (.istore_n 2, 1) := by decide +kernel
theorem dX5_when_18 : decode cX5_when 18 = .ok (.iload_n 2, 1) := by decide +kernel
theorem dX5_when_19 : decode cX5_when 19 = .ok (.bipush 20, 2) := by decide +kernel
theorem dX5_when_21 : decode cX5_when 21 = .ok (.if_icmp .ge 44, 3) := by decide +kernel
theorem dX5_when_24 : decode cX5_when 24 = .ok (.aload_n 0, 1) := by decide +kernel
theorem dX5_when_25 : decode cX5_when 25 = .ok (.getfield 16, 3) := by decide +kernel
theorem dX5_when_28 : decode cX5_when 28 = .ok (.invokevirtual 201, 3) := by decide +kernel
theorem dX5_when_31 : decode cX5_when 31 = .ok (.ifCond .eq 34, 3) := by decide +kernel
theorem dX5_when_34 : decode cX5_when 34 = .ok (.aload_n 0, 1) := by decide +kernel
theorem dX5_when_35 : decode cX5_when 35 = .ok (.getfield 16, 3) := by decide +kernel
theorem dX5_when_38 : decode cX5_when 38 = .ok (.getfield 95, 3) := by decide +kernel
theorem dX5_when_41 : decode cX5_when 41 = .ok (.istore_n 3, 1) := by decide +kernel
theorem dX5_when_42 : decode cX5_when 42 = .ok (.aload_n 0, 1) := by decide +kernel
theorem dX5_when_43 : decode cX5_when 43 = .ok (.getfield 22, 3) := by decide +kernel
theorem dX5_when_46 : decode cX5_when 46 = .ok (.aload_n 0, 1) := by decide +kernel
theorem dX5_when_47 : decode cX5_when 47 = .ok (.getfield 16, 3) := by decide +kernel
theorem dX5_when_50 : decode cX5_when 50 = .ok (.invokevirtual 207, 3) := by decide +kernel
theorem dX5_when_53 : decode cX5_when 53 = .ok (.iload_n 1, 1) := by decide +kernel
theorem dX5_when_54 : decode cX5_when 54 = .ok (.if_icmp .ne 5, 3) := by decide +kernel
theorem dX5_when_57 : decode cX5_when 57 = .ok (.iload_n 3, 1) := by decide +kernel
theorem dX5_when_58 : decode cX5_when 58 = .ok (.ireturn, 1) := by decide +kernel
theorem dX5_when_59 : decode cX5_when 59 = .ok (.iinc 2 1, 3) := by decide +kernel
theorem dX5_when_62 : decode cX5_when 62 = .ok (.goto (-44), 3) := by decide +kernel
theorem dX5_when_65 : decode cX5_when 65 = .ok (.ldc 78, 2) := by decide +kernel
theorem dX5_when_67 : decode cX5_when 67 = .ok (.ireturn, 1) := by decide +kernel
set_option maxRecDepth 20000 in
theorem ggX5_inTheEnd_X5_requireMember : GoodIn wsX5_inTheEnd wsX5_requireMember := goodIn_ca (goodIn_r _ [9, 10, 11, 2, 12, 13, 14, 15, 16, 17, 121, 122, 123, 124, 125, 126, 127, 128, 129, 130, 131, 132, 133, 134, 135, 136, 137, 138, 139, 140, 141, 142, 143, 144, 145] (by decide +kernel) (by decide +kernel)) (goodIn_sub (fun _ h => List.mem_cons_of_mem _ (List.mem_append_right _ h)) (by decide +kernel))
set_option maxRecDepth 20000 in
theorem gX5_inTheEnd_X5_requireMember : GoodIn wsX5_inTheEnd (wsV RX5 121 RX5 yX5_requireMember wsX5_requireMember) := goodIn_app (goodIn_of _ (by decide +kernel)) ggX5_inTheEnd_X5_requireMember
set_option maxRecDepth 20000 in
theorem ggX5_inTheEnd_X3_copyFrom : GoodIn wsX5_inTheEnd wsX3_copyFrom := goodIn_r _ [21, 17, 22, 23, 24, 25, 26, 27, 28, 29, 30, 31, 32, 33, 34, 35, 36, 37, 129, 130, 131, 132, 133, 134, 135, 136, 137, 138, 139, 140, 141, 142, 143, 144, 145] (by decide +kernel) (by decide +kernel)
set_option maxRecDepth 20000 in
theorem gX5_inTheEnd_X3_copyFrom : GoodIn wsX5_inTheEnd (wsV RX5 81 RX3 yX3_copyFrom wsX3_copyFrom) := goodIn_app (goodIn_of _ (by decide +kernel)) ggX5_inTheEnd_X3_copyFrom
set_option maxRecDepth 20000 in
theorem ggX5_inTheEnd_X3_countWaiting : GoodIn wsX5_inTheEnd wsX3_countWaiting := goodIn_r _ [41, 17, 31, 30, 129, 130, 131, 132, 133, 134, 135, 136, 137, 138, 139, 140, 141, 142, 143, 144, 145] (by decide +kernel) (by decide +kernel)
set_option maxRecDepth 20000 in
theorem gX5_inTheEnd_X3_countWaiting : GoodIn wsX5_inTheEnd (wsV RX5 107 RX3 yX3_countWaiting wsX3_countWaiting) := goodIn_app (goodIn_of _ (by decide +kernel)) ggX5_inTheEnd_X3_countWaiting
set_option maxRecDepth 20000 in
theorem ggX5_inTheEnd_X3_mayPass : GoodIn wsX5_inTheEnd wsX3_mayPass := goodIn_r _ [45, 22, 46, 47, 48, 15, 49, 17, 31, 129, 130, 131, 132, 133, 134, 135, 136, 137, 138, 139, 140, 141, 142, 143, 144, 145] (by decide +kernel) (by decide +kernel)
set_option maxRecDepth 20000 in
theorem gX5_inTheEnd_X3_mayPass : GoodIn wsX5_inTheEnd (wsV RX5 201 RX3 yX3_mayPass wsX3_mayPass) := goodIn_app (goodIn_of _ (by decide +kernel)) ggX5_inTheEnd_X3_mayPass
set_option maxRecDepth 20000 in
theorem ggX5_inTheEnd_X1_pass : GoodIn wsX5_inTheEnd wsX1_pass := goodIn_r _ [54, 55, 56, 57, 58, 59, 60, 61, 62, 63, 64, 53, 65, 66, 67, 68, 69, 70, 71, 72, 73, 74, 75, 76, 77, 78, 79, 80, 13, 14, 15, 16, 17, 81, 82, 83, 84, 85, 86, 87, 88, 89, 90, 91, 92, 93, 94, 95, 96, 97, 98, 99, 100, 101, 102, 103, 104, 105, 106, 107, 108, 109, 110, 111, 112, 113, 114, 115, 116, 117, 118, 37, 119, 26, 120, 129, 130, 131, 132, 133, 134, 135, 136, 137, 138, 139, 140, 141, 142, 143, 144, 145, 146, 147, 148] (by decide +kernel) (by decide +kernel)
set_option maxRecDepth 20000 in
theorem gX5_inTheEnd_X1_pass : GoodIn wsX5_inTheEnd (wsV RX5 207 RX1 yX1_pass wsX1_pass) := goodIn_app (goodIn_of _ (by decide +kernel)) ggX5_inTheEnd_X1_pass
theorem dX5_inTheEnd_0 : decode cX5_inTheEnd 0 = .ok (.aload_n 0, 1) := by decide +kernel
theorem dX5_inTheEnd_1 : decode cX5_inTheEnd 1 = .ok (.iload_n 1, 1) := by decide +kernel
theorem dX5_inTheEnd_2 : decode cX5_inTheEnd 2 = .ok (.invokevirtual 121, 3) := by decide +kernel
theorem dX5_inTheEnd_5 : decode cX5_inTheEnd 5 = .ok (.aload_n 0, 1) := by decide +kernel
theorem dX5_inTheEnd_6 : decode cX5_inTheEnd 6 = .ok (.getfield 16, 3) := by decide +kernel
theorem dX5_inTheEnd_9 : decode cX5_inTheEnd 9 = .ok (.aload_n 0, 1) := by decide +kernel
theorem dX5_inTheEnd_10 : decode cX5_inTheEnd 10 = .ok (.getfield 10, 3) := by decide +kernel
theorem dX5_inTheEnd_13 : decode cX5_inTheEnd 13 = .ok (.invokevirtual 81, 3) := by decide +kernel
theorem dX5_inTheEnd_16 : decode cX5_inTheEnd 16 = .ok (.iconst 0, 1) := by decide +kernel
theorem dX5_inTheEnd_17 : decode cX5_inTheEnd 17 = .ok (.istore_n 2, 1) := by decide +kernel
theorem dX5_inTheEnd_18 : decode cX5_inTheEnd 18 = .ok (.iload_n 2, 1) := by decide +kernel
theorem dX5_inTheEnd_19 : decode cX5_inTheEnd 19 = .ok (.bipush 20, 2) := by decide +kernel
theorem dX5_inTheEnd_21 : decode cX5_inTheEnd 21 = .ok (.if_icmp .ge 41, 3) := by decide +kernel
theorem dX5_inTheEnd_24 : decode cX5_inTheEnd 24 = .ok (.aload_n 0, 1) := by decide +kernel
theorem dX5_inTheEnd_25 : decode cX5_inTheEnd 25 = .ok (.getfield 16, 3) := by decide +kernel
theorem dX5_inTheEnd_28 : decode cX5_inTheEnd 28 = .ok (.invokevirtual 107, 3) := by decide +kernel
theorem dX5_inTheEnd_31 : decode cX5_inTheEnd 31 = .ok (.ifCond .le 31, 3) := by decide +kernel
theorem dX5_inTheEnd_34 : decode cX5_inTheEnd 34 = .ok (.aload_n 0, 1) := by decide +kernel
theorem dX5_inTheEnd_35 : decode cX5_inTheEnd 35 = .ok (.getfield 16, 3) := by decide +kernel
theorem dX5_inTheEnd_38 : decode cX5_inTheEnd 38 = .ok (.invokevirtual 201, 3) := by decide +kernel
theorem dX5_inTheEnd_41 : decode cX5_inTheEnd 41 = .ok (.ifCond .eq 21, 3) := by decide +kernel
theorem dX5_inTheEnd_44 : decode cX5_inTheEnd 44 = .ok (.aload_n 0, 1) := by decide +kernel
theorem dX5_inTheEnd_45 : decode cX5_inTheEnd 45 = .ok (.getfield 22, 3) := by decide +kernel
theorem dX5_inTheEnd_48 : decode cX5_inTheEnd 48 = .ok (.aload_n 0, 1) := by decide +kernel
theorem dX5_inTheEnd_49 : decode cX5_inTheEnd 49 = .ok (.getfield 16, 3) := by decide +kernel
theorem dX5_inTheEnd_52 : decode cX5_inTheEnd 52 = .ok (.invokevirtual 207, 3) := by decide +kernel
theorem dX5_inTheEnd_55 : decode cX5_inTheEnd 55 = .ok (.pop, 1) := by decide +kernel
theorem dX5_inTheEnd_56 : decode cX5_inTheEnd 56 = .ok (.iinc 2 1, 3) := by decide +kernel
theorem dX5_inTheEnd_59 : decode cX5_inTheEnd 59 = .ok (.goto (-41), 3) := by decide +kernel
theorem dX5_inTheEnd_62 : decode cX5_inTheEnd 62 = .ok (.aload_n 0, 1) := by decide +kernel
theorem dX5_inTheEnd_63 : decode cX5_inTheEnd 63 = .ok (.getfield 16, 3) := by decide +kernel
theorem dX5_inTheEnd_66 : decode cX5_inTheEnd 66 = .ok (.getfield 125, 3) := by decide +kernel
theorem dX5_inTheEnd_69 : decode cX5_inTheEnd 69 = .ok (.iload_n 1, 1) := by decide +kernel
theorem dX5_inTheEnd_70 : decode cX5_inTheEnd 70 = .ok (.iaload, 1) := by decide +kernel
theorem dX5_inTheEnd_71 : decode cX5_inTheEnd 71 = .ok (.ireturn, 1) := by decide +kernel
set_option maxRecDepth 20000 in
theorem ggX5_runScript_X5_requireRange : GoodIn wsX5_runScript wsX5_requireRange := goodIn_ca (goodIn_r _ [11, 1, 2] (by decide +kernel) (by decide +kernel)) (goodIn_sub (fun _ h => List.mem_cons_of_mem _ (List.mem_append_right _ h)) (by decide +kernel))
set_option maxRecDepth 20000 in
theorem gX5_runScript_X5_requireRange : GoodIn wsX5_runScript (va_wsS RX5 55 yX5_requireRange wsX5_requireRange) := goodIn_app (goodIn_of _ (by decide +kernel)) ggX5_runScript_X5_requireRange
set_option maxRecDepth 20000 in
theorem ggX5_runScript_X5_withoutLowGroups : GoodIn wsX5_runScript wsX5_withoutLowGroups := goodIn_r _ [14, 6] (by decide +kernel) (by decide +kernel)
set_option maxRecDepth 20000 in
theorem gX5_runScript_X5_withoutLowGroups : GoodIn wsX5_runScript (va_wsS RX5 250 yX5_withoutLowGroups wsX5_withoutLowGroups) := goodIn_app (goodIn_of _ (by decide +kernel)) ggX5_runScript_X5_withoutLowGroups
set_option maxRecDepth 20000 in
theorem ggX5_runScript_X3_copyFrom : GoodIn wsX5_runScript wsX3_copyFrom := goodIn_r _ [19, 20, 21, 22, 23, 24, 25, 26, 27, 28, 29, 30, 31, 32, 33, 34, 35, 36, 200, 201, 202, 203, 204, 205, 206, 207, 208, 209, 210, 211, 212, 213, 214, 215, 216] (by decide +kernel) (by decide +kernel)
set_option maxRecDepth 20000 in
theorem gX5_runScript_X3_copyFrom : GoodIn wsX5_runScript (wsV RX5 81 RX3 yX3_copyFrom wsX3_copyFrom) := goodIn_app (goodIn_of _ (by decide +kernel)) ggX5_runScript_X3_copyFrom
set_option maxRecDepth 20000 in
theorem ggX5_runScript_X2_succeeds : GoodIn wsX5_runScript wsX2_succeeds := goodIn_r _ [41, 42, 43, 44, 45, 46, 47, 40, 48, 49, 50, 51, 52, 18, 53, 21, 54, 55, 56, 57, 20, 30, 58, 59, 60, 61, 62, 63, 64, 65, 66, 67, 68, 69, 70, 71, 72, 73, 74, 75, 76, 77, 78, 79, 80, 81, 82, 83, 84, 85, 86, 87, 88, 89, 90, 91, 92, 93, 94, 95, 96, 97, 98, 99, 100, 101, 102, 103, 104, 105, 106, 107, 108, 109, 110, 111, 112, 113, 114, 115, 116, 117, 118, 119, 120, 121, 122, 123, 124, 125, 126, 127, 128, 129, 36, 130, 25, 131, 132, 133, 134, 135, 136, 137, 138, 139, 140, 141, 29, 142, 143, 144, 145, 146, 147, 148, 149, 150, 151, 152, 153, 154, 155, 156, 157, 158, 159, 24, 160, 161, 162, 163, 164, 165, 166, 167, 168, 169, 170, 171, 172, 173, 174, 175, 22, 31, 23, 176, 177, 178, 179, 180, 181, 182, 183, 184, 185, 186, 187, 188, 189, 198, 199, 200, 201, 202, 203, 204, 205, 206, 207, 208, 209, 210, 211, 212, 213, 214, 215, 216, 217, 218, 219] (by decide +kernel) (by decide +kernel)
set_option maxRecDepth 20000 in
theorem gX5_runScript_X2_succeeds : GoodIn wsX5_runScript (wsV RX5 261 RX2 yX2_succeeds wsX2_succeeds) := goodIn_app (goodIn_of _ (by decide +kernel)) ggX5_runScript_X2_succeeds
theorem dX5_runScript_0 : decode cX5_runScript 0 = .ok (.iload_n 1, 1) := by decide +kernel
theorem dX5_runScript_1 : decode cX5_runScript 1 = .ok (.iconst 1, 1) := by decide +kernel
theorem dX5_runScript_2 : decode cX5_runScript 2 = .ok (.iconst 3, 1) := by decide +kernel
theorem dX5_runScript_3 : decode cX5_runScript 3 = .ok (.invokestatic 55, 3) := by decide +kernel
theorem dX5_runScript_6 : decode cX5_runScript 6 = .ok (.lload_n 2, 1) := by decide +kernel
theorem dX5_runScript_7 : decode cX5_runScript 7 = .ok (.lconst 0, 1) := by decide +kernel
theorem dX5_runScript_8 : decode cX5_runScript 8 = .ok (.lcmp, 1) := by decide +kernel
theorem dX5_runScript_9 : decode cX5_runScript 9 = .ok (.ifCond .lt 13, 3) := by decide +kernel
theorem dX5_runScript_12 : decode cX5_runScript 12 = .ok (.lload_n 2, 1) := by decide +kernel
theorem dX5_runScript_13 : decode cX5_runScript 13 = .ok (.iload_n 1, 1) := by decide +kernel
theorem dX5_runScript_14 : decode cX5_runScript 14 = .ok (.invokestatic 250, 3) := by decide +kernel
theorem dX5_runScript_17 : decode cX5_runScript 17 = .ok (.lconst 0, 1) := by decide +kernel
theorem dX5_runScript_18 : decode cX5_runScript 18 = .ok (.lcmp, 1) := by decide +kernel
theorem dX5_runScript_19 : decode cX5_runScript 19 = .ok (.ifCond .eq 13, 3) := by decide +kernel
theorem dX5_runScript_22 : decode cX5_runScript 22 = .ok (.new 116, 3) := by decide +kernel
theorem dX5_runScript_25 : decode cX5_runScript 25 = .ok (.dup, 1) := by decide +kernel
theorem dX5_runScript_26 : decode cX5_runScript 26 = .ok (.ldc 254, 2) := by decide +kernel
theorem dX5_runScript_28 : decode cX5_runScript 28 = .ok (.invokespecial 120, 3) := by decide +kernel
theorem dX5_runScript_31 : decode cX5_runScript 31 = .ok (.athrow, 1) := by decide +kernel
theorem dX5_runScript_32 : decode cX5_runScript 32 = .ok (.aload_n 0, 1) := by decide +kernel
theorem dX5_runScript_33 : decode cX5_runScript 33 = .ok (.getfield 29, 3) := by decide +kernel
theorem dX5_runScript_36 : decode cX5_runScript 36 = .ok (.getfield 256, 3) := by decide +kernel
theorem dX5_runScript_39 : decode cX5_runScript 39 = .ok (.aload_n 0, 1) := by decide +kernel
theorem dX5_runScript_40 : decode cX5_runScript 40 = .ok (.getfield 10, 3) := by decide +kernel
theorem dX5_runScript_43 : decode cX5_runScript 43 = .ok (.invokevirtual 81, 3) := by decide +kernel
theorem dX5_runScript_46 : decode cX5_runScript 46 = .ok (.iconst 0, 1) := by decide +kernel
theorem dX5_runScript_47 : decode cX5_runScript 47 = .ok (.istore 4, 2) := by decide +kernel
theorem dX5_runScript_49 : decode cX5_runScript 49 = .ok (.iload 4, 2) := by decide +kernel
theorem dX5_runScript_51 : decode cX5_runScript 51 = .ok (.iload_n 1, 1) := by decide +kernel
theorem dX5_runScript_52 : decode cX5_runScript 52 = .ok (.if_icmp .ge 41, 3) := by decide +kernel
theorem dX5_runScript_55 : decode cX5_runScript 55 = .ok (.lload_n 2, 1) := by decide +kernel
theorem dX5_runScript_56 : decode cX5_runScript 56 = .ok (.iload_n 1, 1) := by decide +kernel
theorem dX5_runScript_57 : decode cX5_runScript 57 = .ok (.iconst 1, 1) := by decide +kernel
theorem dX5_runScript_58 : decode cX5_runScript 58 = .ok (.isub, 1) := by decide +kernel
theorem dX5_runScript_59 : decode cX5_runScript 59 = .ok (.iload 4, 2) := by decide +kernel
theorem dX5_runScript_61 : decode cX5_runScript 61 = .ok (.isub, 1) := by decide +kernel
theorem dX5_runScript_62 : decode cX5_runScript 62 = .ok (.invokestatic 250, 3) := by decide +kernel
theorem dX5_runScript_65 : decode cX5_runScript 65 = .ok (.ldc2_w 259, 3) := by decide +kernel
theorem dX5_runScript_68 : decode cX5_runScript 68 = .ok (.lrem, 1) := by decide +kernel
theorem dX5_runScript_69 : decode cX5_runScript 69 = .ok (.l2i, 1) := by decide +kernel
theorem dX5_runScript_70 : decode cX5_runScript 70 = .ok (.istore 5, 2) := by decide +kernel
theorem dX5_runScript_72 : decode cX5_runScript 72 = .ok (.aload_n 0, 1) := by decide +kernel
theorem dX5_runScript_73 : decode cX5_runScript 73 = .ok (.getfield 29, 3) := by decide +kernel
theorem dX5_runScript_76 : decode cX5_runScript 76 = .ok (.iload 5, 2) := by decide +kernel
theorem dX5_runScript_78 : decode cX5_runScript 78 = .ok (.invokevirtual 261, 3) := by decide +kernel
theorem dX5_runScript_81 : decode cX5_runScript 81 = .ok (.ifCond .ne 6, 3) := by decide +kernel
theorem dX5_runScript_84 : decode cX5_runScript 84 = .ok (.iload 4, 2) := by decide +kernel
theorem dX5_runScript_86 : decode cX5_runScript 86 = .ok (.ireturn, 1) := by decide +kernel
theorem dX5_runScript_87 : decode cX5_runScript 87 = .ok (.iinc 4 1, 3) := by decide +kernel
theorem dX5_runScript_90 : decode cX5_runScript 90 = .ok (.goto (-41), 3) := by decide +kernel
theorem dX5_runScript_93 : decode cX5_runScript 93 = .ok (.ldc 78, 2) := by decide +kernel
theorem dX5_runScript_95 : decode cX5_runScript 95 = .ok (.ireturn, 1) := by decide +kernel
set_option maxRecDepth 20000 in
theorem ggX5_simulate_X5_requireRange : GoodIn wsX5_simulate wsX5_requireRange := goodIn_ca (goodIn_r _ [14, 15, 16] (by decide +kernel) (by decide +kernel)) (goodIn_sub (fun _ h => List.mem_cons_of_mem _ (List.mem_append_right _ h)) (by decide +kernel))
set_option maxRecDepth 20000 in
theorem gX5_simulate_X5_requireRange : GoodIn wsX5_simulate (va_wsS RX5 55 yX5_requireRange wsX5_requireRange) := goodIn_app (goodIn_of _ (by decide +kernel)) ggX5_simulate_X5_requireRange
set_option maxRecDepth 20000 in
theorem ggX5_simulate_X3_copyFrom : GoodIn wsX5_simulate wsX3_copyFrom := goodIn_r _ [21, 22, 23, 24, 25, 26, 27, 28, 29, 30, 31, 32, 33, 34, 35, 36, 37, 38, 138, 139, 140, 141, 142, 143, 144, 145, 146, 147, 148, 149, 150, 151, 152, 153, 154] (by decide +kernel) (by decide +kernel)
set_option maxRecDepth 20000 in
theorem gX5_simulate_X3_copyFrom : GoodIn wsX5_simulate (wsV RX5 81 RX3 yX3_copyFrom wsX3_copyFrom) := goodIn_app (goodIn_of _ (by decide +kernel)) ggX5_simulate_X3_copyFrom
set_option maxRecDepth 20000 in
theorem ggX5_simulate_X3_sumOfMisses : GoodIn wsX5_simulate wsX3_sumOfMisses := goodIn_r _ [42, 22, 37, 138, 139, 140, 141, 142, 143, 144, 145, 146, 147, 148, 149, 150, 151, 152, 153, 154] (by decide +kernel) (by decide +kernel)
set_option maxRecDepth 20000 in
theorem gX5_simulate_X3_sumOfMisses : GoodIn wsX5_simulate (wsV RX5 264 RX3 yX3_sumOfMisses wsX3_sumOfMisses) := goodIn_app (goodIn_of _ (by decide +kernel)) ggX5_simulate_X3_sumOfMisses
set_option maxRecDepth 20000 in
theorem ggX5_simulate_X3_decide : GoodIn wsX5_simulate wsX3_decide := goodIn_r _ [46, 32, 30, 31, 29, 138, 139, 140, 141, 142, 143, 144, 145, 146, 147, 148, 149, 150, 151, 152, 153, 154] (by decide +kernel) (by decide +kernel)
set_option maxRecDepth 20000 in
theorem gX5_simulate_X3_decide : GoodIn wsX5_simulate (wsV RX5 271 RX3 yX3_decide wsX3_decide) := goodIn_app (goodIn_of _ (by decide +kernel)) ggX5_simulate_X3_decide
set_option maxRecDepth 20000 in
theorem ggX5_simulate_X3_mayPass : GoodIn wsX5_simulate wsX3_mayPass := goodIn_r _ [50, 23, 51, 52, 53, 20, 54, 22, 32, 138, 139, 140, 141, 142, 143, 144, 145, 146, 147, 148, 149, 150, 151, 152, 153, 154] (by decide +kernel) (by decide +kernel)
set_option maxRecDepth 20000 in
theorem gX5_simulate_X3_mayPass : GoodIn wsX5_simulate (wsV RX5 201 RX3 yX3_mayPass wsX3_mayPass) := goodIn_app (goodIn_of _ (by decide +kernel)) ggX5_simulate_X3_mayPass
set_option maxRecDepth 20000 in
theorem ggX5_simulate_X1_pass : GoodIn wsX5_simulate wsX1_pass := goodIn_r _ [59, 60, 61, 62, 63, 64, 65, 66, 67, 68, 69, 58, 70, 71, 72, 73, 74, 75, 76, 77, 78, 79, 80, 81, 82, 83, 84, 85, 86, 87, 20, 88, 22, 89, 90, 91, 92, 93, 94, 95, 96, 97, 98, 99, 100, 101, 102, 103, 104, 105, 106, 107, 108, 109, 8, 9, 10, 110, 111, 112, 113, 114, 115, 116, 117, 118, 119, 120, 121, 122, 123, 38, 124, 27, 125, 138, 139, 140, 141, 142, 143, 144, 145, 146, 147, 148, 149, 150, 151, 152, 153, 154, 155, 156, 157] (by decide +kernel) (by decide +kernel)
set_option maxRecDepth 20000 in
theorem gX5_simulate_X1_pass : GoodIn wsX5_simulate (wsV RX5 207 RX1 yX1_pass wsX1_pass) := goodIn_app (goodIn_of _ (by decide +kernel)) ggX5_simulate_X1_pass
set_option maxRecDepth 20000 in
theorem ggX5_simulate_X3_countTaken : GoodIn wsX5_simulate wsX3_countTaken := goodIn_r _ [129, 22, 31, 138, 139, 140, 141, 142, 143, 144, 145, 146, 147, 148, 149, 150, 151, 152, 153, 154] (by decide +kernel) (by decide +kernel)
set_option maxRecDepth 20000 in
theorem gX5_simulate_X3_countTaken : GoodIn wsX5_simulate (wsV RX5 274 RX3 yX3_countTaken wsX3_countTaken) := goodIn_app (goodIn_of _ (by decide +kernel)) ggX5_simulate_X3_countTaken
theorem dX5_simulate_0 : decode cX5_simulate 0 = .ok (.iload_n 3, 1) := by decide +kernel
theorem dX5_simulate_1 : decode cX5_simulate 1 = .ok (.iconst 1, 1) := by decide +kernel
theorem dX5_simulate_2 : decode cX5_simulate 2 = .ok (.bipush 40, 2) := by decide +kernel
theorem dX5_simulate_4 : decode cX5_simulate 4 = .ok (.invokestatic 55, 3) := by decide +kernel
theorem dX5_simulate_7 : decode cX5_simulate 7 = .ok (.aload_n 0, 1) := by decide +kernel
theorem dX5_simulate_8 : decode cX5_simulate 8 = .ok (.getfield 16, 3) := by decide +kernel
theorem dX5_simulate_11 : decode cX5_simulate 11 = .ok (.aload_n 0, 1) := by decide +kernel
theorem dX5_simulate_12 : decode cX5_simulate 12 = .ok (.getfield 10, 3) := by decide +kernel
theorem dX5_simulate_15 : decode cX5_simulate 15 = .ok (.invokevirtual 81, 3) := by decide +kernel
theorem dX5_simulate_18 : decode cX5_simulate 18 = .ok (.aload_n 0, 1) := by decide +kernel
theorem dX5_simulate_19 : decode cX5_simulate 19 = .ok (.getfield 16, 3) := by decide +kernel
theorem dX5_simulate_22 : decode cX5_simulate 22 = .ok (.invokevirtual 264, 3) := by decide +kernel
theorem dX5_simulate_25 : decode cX5_simulate 25 = .ok (.istore 4, 2) := by decide +kernel
theorem dX5_simulate_27 : decode cX5_simulate 27 = .ok (.lload_n 1, 1) := by decide +kernel
theorem dX5_simulate_28 : decode cX5_simulate 28 = .ok (.lstore 5, 2) := by decide +kernel
theorem dX5_simulate_30 : decode cX5_simulate 30 = .ok (.iconst 0, 1) := by decide +kernel
theorem dX5_simulate_31 : decode cX5_simulate 31 = .ok (.istore 7, 2) := by decide +kernel
theorem dX5_simulate_33 : decode cX5_simulate 33 = .ok (.iload 7, 2) := by decide +kernel
theorem dX5_simulate_35 : decode cX5_simulate 35 = .ok (.iload_n 3, 1) := by decide +kernel
theorem dX5_simulate_36 : decode cX5_simulate 36 = .ok (.if_icmp .ge 79, 3) := by decide +kernel
theorem dX5_simulate_39 : decode cX5_simulate 39 = .ok (.iconst 0, 1) := by decide +kernel
theorem dX5_simulate_40 : decode cX5_simulate 40 = .ok (.istore 8, 2) := by decide +kernel
theorem dX5_simulate_42 : decode cX5_simulate 42 = .ok (.iload 8, 2) := by decide +kernel
theorem dX5_simulate_44 : decode cX5_simulate 44 = .ok (.aload_n 0, 1) := by decide +kernel
theorem dX5_simulate_45 : decode cX5_simulate 45 = .ok (.getfield 16, 3) := by decide +kernel
theorem dX5_simulate_48 : decode cX5_simulate 48 = .ok (.getfield 88, 3) := by decide +kernel
theorem dX5_simulate_51 : decode cX5_simulate 51 = .ok (.if_icmp .ge 36, 3) := by decide +kernel
theorem dX5_simulate_54 : decode cX5_simulate 54 = .ok (.lload 5, 2) := by decide +kernel
theorem dX5_simulate_56 : decode cX5_simulate 56 = .ok (.ldc2_w 267, 3) := by decide +kernel
theorem dX5_simulate_59 : decode cX5_simulate 59 = .ok (.lmul, 1) := by decide +kernel
theorem dX5_simulate_60 : decode cX5_simulate 60 = .ok (.ldc2_w 269, 3) := by decide +kernel
theorem dX5_simulate_63 : decode cX5_simulate 63 = .ok (.ladd, 1) := by decide +kernel
theorem dX5_simulate_64 : decode cX5_simulate 64 = .ok (.lstore 5, 2) := by decide +kernel
theorem dX5_simulate_66 : decode cX5_simulate 66 = .ok (.aload_n 0, 1) := by decide +kernel
theorem dX5_simulate_67 : decode cX5_simulate 67 = .ok (.getfield 16, 3) := by decide +kernel
theorem dX5_simulate_70 : decode cX5_simulate 70 = .ok (.iload 8, 2) := by decide +kernel
theorem dX5_simulate_72 : decode cX5_simulate 72 = .ok (.lload 5, 2) := by decide +kernel
theorem dX5_simulate_74 : decode cX5_simulate 74 = .ok (.bipush 33, 2) := by decide +kernel
theorem dX5_simulate_76 : decode cX5_simulate 76 = .ok (.lushr, 1) := by decide +kernel
theorem dX5_simulate_77 : decode cX5_simulate 77 = .ok (.l2i, 1) := by decide +kernel
theorem dX5_simulate_78 : decode cX5_simulate 78 = .ok (.invokevirtual 271, 3) := by decide +kernel
theorem dX5_simulate_81 : decode cX5_simulate 81 = .ok (.iinc 8 1, 3) := by decide +kernel
theorem dX5_simulate_84 : decode cX5_simulate 84 = .ok (.goto (-42), 3) := by decide +kernel
theorem dX5_simulate_87 : decode cX5_simulate 87 = .ok (.aload_n 0, 1) := by decide +kernel
theorem dX5_simulate_88 : decode cX5_simulate 88 = .ok (.getfield 16, 3) := by decide +kernel
theorem dX5_simulate_91 : decode cX5_simulate 91 = .ok (.invokevirtual 201, 3) := by decide +kernel
theorem dX5_simulate_94 : decode cX5_simulate 94 = .ok (.ifCond .eq 15, 3) := by decide +kernel
theorem dX5_simulate_97 : decode cX5_simulate 97 = .ok (.aload_n 0, 1) := by decide +kernel
theorem dX5_simulate_98 : decode cX5_simulate 98 = .ok (.getfield 22, 3) := by decide +kernel
theorem dX5_simulate_101 : decode cX5_simulate 101 = .ok (.aload_n 0, 1) := by decide +kernel
theorem dX5_simulate_102 : decode cX5_simulate 102 = .ok (.getfield 16, 3) := by decide +kernel
theorem dX5_simulate_105 : decode cX5_simulate 105 = .ok (.invokevirtual 207, 3) := by decide +kernel
theorem dX5_simulate_108 : decode cX5_simulate 108 = .ok (.pop, 1) := by decide +kernel
theorem dX5_simulate_109 : decode cX5_simulate 109 = .ok (.iinc 7 1, 3) := by decide +kernel
theorem dX5_simulate_112 : decode cX5_simulate 112 = .ok (.goto (-79), 3) := by decide +kernel
theorem dX5_simulate_115 : decode cX5_simulate 115 = .ok (.aload_n 0, 1) := by decide +kernel
theorem dX5_simulate_116 : decode cX5_simulate 116 = .ok (.getfield 16, 3) := by decide +kernel
theorem dX5_simulate_119 : decode cX5_simulate 119 = .ok (.invokevirtual 264, 3) := by decide +kernel
theorem dX5_simulate_122 : decode cX5_simulate 122 = .ok (.iload 4, 2) := by decide +kernel
theorem dX5_simulate_124 : decode cX5_simulate 124 = .ok (.isub, 1) := by decide +kernel
theorem dX5_simulate_125 : decode cX5_simulate 125 = .ok (.istore 7, 2) := by decide +kernel
theorem dX5_simulate_127 : decode cX5_simulate 127 = .ok (.sipush 1000, 3) := by decide +kernel
theorem dX5_simulate_130 : decode cX5_simulate 130 = .ok (.aload_n 0, 1) := by decide +kernel
theorem dX5_simulate_131 : decode cX5_simulate 131 = .ok (.getfield 16, 3) := by decide +kernel
theorem dX5_simulate_134 : decode cX5_simulate 134 = .ok (.invokevirtual 274, 3) := by decide +kernel
theorem dX5_simulate_137 : decode cX5_simulate 137 = .ok (.imul, 1) := by decide +kernel
theorem dX5_simulate_138 : decode cX5_simulate 138 = .ok (.iload 7, 2) := by decide +kernel
theorem dX5_simulate_140 : decode cX5_simulate 140 = .ok (.sipush 999, 3) := by decide +kernel
theorem dX5_simulate_143 : decode cX5_simulate 143 = .ok (.invokestatic 277, 3) := by decide +kernel
theorem dX5_simulate_146 : decode cX5_simulate 146 = .ok (.iadd, 1) := by decide +kernel
theorem dX5_simulate_147 : decode cX5_simulate 147 = .ok (.ireturn, 1) := by decide +kernel
set_option maxRecDepth 20000 in
theorem ggX5_save_X5_requireSlot : GoodIn wsX5_save wsX5_requireSlot := goodIn_ca (goodIn_r _ [8, 9, 10] (by decide +kernel) (by decide +kernel)) (goodIn_sub (fun _ h => List.mem_cons_of_mem _ (List.mem_append_right _ h)) (by decide +kernel))
set_option maxRecDepth 20000 in
theorem gX5_save_X5_requireSlot : GoodIn wsX5_save (va_wsS RX5 282 yX5_requireSlot wsX5_requireSlot) := goodIn_app (goodIn_of _ (by decide +kernel)) ggX5_save_X5_requireSlot
set_option maxRecDepth 20000 in
theorem ggX5_save_X3_copyFrom : GoodIn wsX5_save wsX3_copyFrom := goodIn_r _ [15, 16, 17, 18, 19, 20, 21, 22, 23, 24, 25, 26, 27, 28, 29, 30, 31, 32, 41, 42, 43, 44, 45, 46, 47, 48, 49, 50, 51, 52, 53, 54, 55, 56, 57] (by decide +kernel) (by decide +kernel)
set_option maxRecDepth 20000 in
theorem gX5_save_X3_copyFrom : GoodIn wsX5_save (wsV RX5 81 RX3 yX3_copyFrom wsX3_copyFrom) := goodIn_app (goodIn_of _ (by decide +kernel)) ggX5_save_X3_copyFrom
theorem dX5_save_0 : decode cX5_save 0 = .ok (.iload_n 1, 1) := by decide +kernel
theorem dX5_save_1 : decode cX5_save 1 = .ok (.invokestatic 282, 3) := by decide +kernel
theorem dX5_save_4 : decode cX5_save 4 = .ok (.aload_n 0, 1) := by decide +kernel
theorem dX5_save_5 : decode cX5_save 5 = .ok (.getfield 47, 3) := by decide +kernel
theorem dX5_save_8 : decode cX5_save 8 = .ok (.iload_n 1, 1) := by decide +kernel
theorem dX5_save_9 : decode cX5_save 9 = .ok (.aaload, 1) := by decide +kernel
theorem dX5_save_10 : decode cX5_save 10 = .ok (.aload_n 0, 1) := by decide +kernel
theorem dX5_save_11 : decode cX5_save 11 = .ok (.getfield 10, 3) := by decide +kernel
theorem dX5_save_14 : decode cX5_save 14 = .ok (.invokevirtual 81, 3) := by decide +kernel
theorem dX5_save_17 : decode cX5_save 17 = .ok (.aload_n 0, 1) := by decide +kernel
theorem dX5_save_18 : decode cX5_save 18 = .ok (.getfield 51, 3) := by decide +kernel
theorem dX5_save_21 : decode cX5_save 21 = .ok (.iload_n 1, 1) := by decide +kernel
theorem dX5_save_22 : decode cX5_save 22 = .ok (.iconst 1, 1) := by decide +kernel
theorem dX5_save_23 : decode cX5_save 23 = .ok (.bastore, 1) := by decide +kernel
theorem dX5_save_24 : decode cX5_save 24 = .ok (.aload_n 0, 1) := by decide +kernel
theorem dX5_save_25 : decode cX5_save 25 = .ok (.getfield 10, 3) := by decide +kernel
theorem dX5_save_28 : decode cX5_save 28 = .ok (.getfield 95, 3) := by decide +kernel
theorem dX5_save_31 : decode cX5_save 31 = .ok (.ireturn, 1) := by decide +kernel
set_option maxRecDepth 20000 in
theorem ggX5_restore_X5_requireSlot : GoodIn wsX5_restore wsX5_requireSlot := goodIn_ca (goodIn_r _ [11, 12, 13] (by decide +kernel) (by decide +kernel)) (goodIn_sub (fun _ h => List.mem_cons_of_mem _ (List.mem_append_right _ h)) (by decide +kernel))
set_option maxRecDepth 20000 in
theorem gX5_restore_X5_requireSlot : GoodIn wsX5_restore (va_wsS RX5 282 yX5_requireSlot wsX5_requireSlot) := goodIn_app (goodIn_of _ (by decide +kernel)) ggX5_restore_X5_requireSlot
set_option maxRecDepth 20000 in
theorem ggX5_restore_X3_copyFrom : GoodIn wsX5_restore wsX3_copyFrom := goodIn_r _ [18, 19, 20, 21, 22, 23, 24, 25, 26, 27, 28, 29, 30, 31, 32, 33, 34, 35, 50, 51, 52, 53, 54, 55, 56, 57, 58, 59, 60, 61, 62, 63, 64, 65, 66] (by decide +kernel) (by decide +kernel)
set_option maxRecDepth 20000 in
theorem gX5_restore_X3_copyFrom : GoodIn wsX5_restore (wsV RX5 81 RX3 yX3_copyFrom wsX3_copyFrom) := goodIn_app (goodIn_of _ (by decide +kernel)) ggX5_restore_X3_copyFrom
set_option maxRecDepth 20000 in
theorem ggX5_restore_X0_forgetAll : GoodIn wsX5_restore wsX0_forgetAll := goodIn_r _ [40, 41, 67, 68, 69] (by decide +kernel) (by decide +kernel)
set_option maxRecDepth 20000 in
theorem gX5_restore_X0_forgetAll : GoodIn wsX5_restore (wsV RX5 85 RX0 yX0_forgetAll wsX0_forgetAll) := goodIn_app (goodIn_of _ (by decide +kernel)) ggX5_restore_X0_forgetAll
theorem dX5_restore_0 : decode cX5_restore 0 = .ok (.iload_n 1, 1) := by decide +kernel
theorem dX5_restore_1 : decode cX5_restore 1 = .ok (.invokestatic 282, 3) := by decide +kernel
theorem dX5_restore_4 : decode cX5_restore 4 = .ok (.aload_n 0, 1) := by decide +kernel
theorem dX5_restore_5 : decode cX5_restore 5 = .ok (.getfield 51, 3) := by decide +kernel
theorem dX5_restore_8 : decode cX5_restore 8 = .ok (.iload_n 1, 1) := by decide +kernel
theorem dX5_restore_9 : decode cX5_restore 9 = .ok (.baload, 1) := by decide +kernel
theorem dX5_restore_10 : decode cX5_restore 10 = .ok (.ifCond .ne 14, 3) := by decide +kernel
theorem dX5_restore_13 : decode cX5_restore 13 = .ok (.new 63, 3) := by decide +kernel
theorem dX5_restore_16 : decode cX5_restore 16 = .ok (.dup, 1) := by decide +kernel
theorem dX5_restore_17 : decode cX5_restore 17 = .ok (.ldc_w 285, 3) := by decide +kernel
theorem dX5_restore_20 : decode cX5_restore 20 = .ok (.invokespecial 67, 3) := by decide +kernel
theorem dX5_restore_23 : decode cX5_restore 23 = .ok (.athrow, 1) := by decide +kernel
theorem dX5_restore_24 : decode cX5_restore 24 = .ok (.aload_n 0, 1) := by decide +kernel
theorem dX5_restore_25 : decode cX5_restore 25 = .ok (.getfield 10, 3) := by decide +kernel
theorem dX5_restore_28 : decode cX5_restore 28 = .ok (.aload_n 0, 1) := by decide +kernel
theorem dX5_restore_29 : decode cX5_restore 29 = .ok (.getfield 47, 3) := by decide +kernel
theorem dX5_restore_32 : decode cX5_restore 32 = .ok (.iload_n 1, 1) := by decide +kernel
theorem dX5_restore_33 : decode cX5_restore 33 = .ok (.aaload, 1) := by decide +kernel
theorem dX5_restore_34 : decode cX5_restore 34 = .ok (.invokevirtual 81, 3) := by decide +kernel
theorem dX5_restore_37 : decode cX5_restore 37 = .ok (.aload_n 0, 1) := by decide +kernel
theorem dX5_restore_38 : decode cX5_restore 38 = .ok (.getfield 36, 3) := by decide +kernel
theorem dX5_restore_41 : decode cX5_restore 41 = .ok (.invokevirtual 85, 3) := by decide +kernel
theorem dX5_restore_44 : decode cX5_restore 44 = .ok (.aload_n 0, 1) := by decide +kernel
theorem dX5_restore_45 : decode cX5_restore 45 = .ok (.getfield 10, 3) := by decide +kernel
theorem dX5_restore_48 : decode cX5_restore 48 = .ok (.getfield 95, 3) := by decide +kernel
theorem dX5_restore_51 : decode cX5_restore 51 = .ok (.ireturn, 1) := by decide +kernel
set_option maxRecDepth 20000 in
theorem ggX5_requireMember_X3_exists : GoodIn wsX5_requireMember wsX3_exists := goodIn_r _ [8, 9, 18, 19, 20, 21, 22, 23, 24, 25, 26, 27, 28, 29, 30, 31, 32, 33, 34] (by decide +kernel) (by decide +kernel)
set_option maxRecDepth 20000 in
theorem gX5_requireMember_X3_exists : GoodIn wsX5_requireMember (wsV RX5 287 RX3 yX3_exists wsX3_exists) := goodIn_app (goodIn_of _ (by decide +kernel)) ggX5_requireMember_X3_exists
theorem dX5_requireMember_0 : decode cX5_requireMember 0 = .ok (.aload_n 0, 1) := by decide +kernel
theorem dX5_requireMember_1 : decode cX5_requireMember 1 = .ok (.getfield 10, 3) := by decide +kernel
theorem dX5_requireMember_4 : decode cX5_requireMember 4 = .ok (.iload_n 1, 1) := by decide +kernel
theorem dX5_requireMember_5 : decode cX5_requireMember 5 = .ok (.invokevirtual 287, 3) := by decide +kernel
theorem dX5_requireMember_8 : decode cX5_requireMember 8 = .ok (.ifCond .ne 14, 3) := by decide +kernel
theorem dX5_requireMember_11 : decode cX5_requireMember 11 = .ok (.new 290, 3) := by decide +kernel
theorem dX5_requireMember_14 : decode cX5_requireMember 14 = .ok (.dup, 1) := by decide +kernel
theorem dX5_requireMember_15 : decode cX5_requireMember 15 = .ok (.ldc_w 292, 3) := by decide +kernel
theorem dX5_requireMember_18 : decode cX5_requireMember 18 = .ok (.invokespecial 294, 3) := by decide +kernel
theorem dX5_requireMember_21 : decode cX5_requireMember 21 = .ok (.athrow, 1) := by decide +kernel
theorem dX5_requireMember_22 : decode cX5_requireMember 22 = .ok (.return_, 1) := by decide +kernel
set_option maxRecDepth 20000 in
theorem ggX5_requireTwoMembers_X5_requireMember : GoodIn wsX5_requireTwoMembers wsX5_requireMember := goodIn_ca (goodIn_r _ [7, 8, 9, 10, 11, 12, 13, 14, 15, 16, 17, 18, 19, 20, 21, 22, 23, 24, 25, 26, 27, 28, 29, 30, 31, 32, 33, 34, 35, 36, 37, 38, 39, 40, 41] (by decide +kernel) (by decide +kernel)) (goodIn_sub (fun _ h => List.mem_cons_of_mem _ (List.mem_append_right _ h)) (by decide +kernel))
set_option maxRecDepth 20000 in
theorem gX5_requireTwoMembers_X5_requireMember : GoodIn wsX5_requireTwoMembers (wsV RX5 121 RX5 yX5_requireMember wsX5_requireMember) := goodIn_app (goodIn_of _ (by decide +kernel)) ggX5_requireTwoMembers_X5_requireMember
theorem dX5_requireTwoMembers_0 : decode cX5_requireTwoMembers 0 = .ok (.aload_n 0, 1) := by decide +kernel
theorem dX5_requireTwoMembers_1 : decode cX5_requireTwoMembers 1 = .ok (.iload_n 1, 1) := by decide +kernel
theorem dX5_requireTwoMembers_2 : decode cX5_requireTwoMembers 2 = .ok (.invokevirtual 121, 3) := by decide +kernel
theorem dX5_requireTwoMembers_5 : decode cX5_requireTwoMembers 5 = .ok (.aload_n 0, 1) := by decide +kernel
theorem dX5_requireTwoMembers_6 : decode cX5_requireTwoMembers 6 = .ok (.iload_n 2, 1) := by decide +kernel
theorem dX5_requireTwoMembers_7 : decode cX5_requireTwoMembers 7 = .ok (.invokevirtual 121, 3) := by decide +kernel
theorem dX5_requireTwoMembers_10 : decode cX5_requireTwoMembers 10 = .ok (.iload_n 1, 1) := by decide +kernel
theorem dX5_requireTwoMembers_11 : decode cX5_requireTwoMembers 11 = .ok (.iload_n 2, 1) := by decide +kernel
theorem dX5_requireTwoMembers_12 : decode cX5_requireTwoMembers 12 = .ok (.if_icmp .ne 14, 3) := by decide +kernel
theorem dX5_requireTwoMembers_15 : decode cX5_requireTwoMembers 15 = .ok (.new 116, 3) := by decide +kernel
theorem dX5_requireTwoMembers_18 : decode cX5_requireTwoMembers 18 = .ok (.dup, 1) := by decide +kernel
theorem dX5_requireTwoMembers_19 : decode cX5_requireTwoMembers 19 = .ok (.ldc_w 295, 3) := by decide +kernel
theorem dX5_requireTwoMembers_22 : decode cX5_requireTwoMembers 22 = .ok (.invokespecial 120, 3) := by decide +kernel
theorem dX5_requireTwoMembers_25 : decode cX5_requireTwoMembers 25 = .ok (.athrow, 1) := by decide +kernel
theorem dX5_requireTwoMembers_26 : decode cX5_requireTwoMembers 26 = .ok (.return_, 1) := by decide +kernel
theorem dX5_requireRange_0 : decode cX5_requireRange 0 = .ok (.iload_n 0, 1) := by decide +kernel
theorem dX5_requireRange_1 : decode cX5_requireRange 1 = .ok (.iload_n 1, 1) := by decide +kernel
theorem dX5_requireRange_2 : decode cX5_requireRange 2 = .ok (.if_icmp .lt 8, 3) := by decide +kernel
theorem dX5_requireRange_5 : decode cX5_requireRange 5 = .ok (.iload_n 0, 1) := by decide +kernel
theorem dX5_requireRange_6 : decode cX5_requireRange 6 = .ok (.iload_n 2, 1) := by decide +kernel
theorem dX5_requireRange_7 : decode cX5_requireRange 7 = .ok (.if_icmp .le 14, 3) := by decide +kernel
theorem dX5_requireRange_10 : decode cX5_requireRange 10 = .ok (.new 116, 3) := by decide +kernel
theorem dX5_requireRange_13 : decode cX5_requireRange 13 = .ok (.dup, 1) := by decide +kernel
theorem dX5_requireRange_14 : decode cX5_requireRange 14 = .ok (.ldc_w 297, 3) := by decide +kernel
theorem dX5_requireRange_17 : decode cX5_requireRange 17 = .ok (.invokespecial 120, 3) := by decide +kernel
theorem dX5_requireRange_20 : decode cX5_requireRange 20 = .ok (.athrow, 1) := by decide +kernel
theorem dX5_requireRange_21 : decode cX5_requireRange 21 = .ok (.return_, 1) := by decide +kernel
theorem dX5_requireSlot_0 : decode cX5_requireSlot 0 = .ok (.iload_n 0, 1) := by decide +kernel
theorem dX5_requireSlot_1 : decode cX5_requireSlot 1 = .ok (.ifCond .lt 8, 3) := by decide +kernel
theorem dX5_requireSlot_4 : decode cX5_requireSlot 4 = .ok (.iload_n 0, 1) := by decide +kernel
theorem dX5_requireSlot_5 : decode cX5_requireSlot 5 = .ok (.iconst 2, 1) := by decide +kernel
theorem dX5_requireSlot_6 : decode cX5_requireSlot 6 = .ok (.if_icmp .lt 14, 3) := by decide +kernel
theorem dX5_requireSlot_9 : decode cX5_requireSlot 9 = .ok (.new 290, 3) := by decide +kernel
theorem dX5_requireSlot_12 : decode cX5_requireSlot 12 = .ok (.dup, 1) := by decide +kernel
theorem dX5_requireSlot_13 : decode cX5_requireSlot 13 = .ok (.ldc_w 299, 3) := by decide +kernel
theorem dX5_requireSlot_16 : decode cX5_requireSlot 16 = .ok (.invokespecial 294, 3) := by decide +kernel
theorem dX5_requireSlot_19 : decode cX5_requireSlot 19 = .ok (.athrow, 1) := by decide +kernel
theorem dX5_requireSlot_20 : decode cX5_requireSlot 20 = .ok (.return_, 1) := by decide +kernel
set_option maxRecDepth 20000 in
theorem ggX5_potWithout_X3_copyFrom : GoodIn wsX5_potWithout wsX3_copyFrom := goodIn_r _ [10, 11, 12, 13, 14, 15, 16, 17, 18, 19, 20, 21, 22, 23, 24, 25, 26, 27, 65, 66, 67, 68, 69, 70, 71, 72, 73, 74, 75, 76, 77, 78, 79, 80, 81] (by decide +kernel) (by decide +kernel)
set_option maxRecDepth 20000 in
theorem gX5_potWithout_X3_copyFrom : GoodIn wsX5_potWithout (wsV RX5 81 RX3 yX3_copyFrom wsX3_copyFrom) := goodIn_app (goodIn_of _ (by decide +kernel)) ggX5_potWithout_X3_copyFrom
set_option maxRecDepth 20000 in
theorem ggX5_potWithout_X1_payIn : GoodIn wsX5_potWithout wsX1_payIn := goodIn_r _ [32, 33, 34, 35, 36, 37, 38, 39, 40, 41, 42, 43, 44, 31, 45, 46, 47, 48, 49, 50, 51, 52, 9, 53, 11, 54, 55, 56, 82, 83, 84, 65, 66, 67, 68, 69, 70, 71, 72, 73, 74, 75, 76, 77, 78, 79, 80, 81] (by decide +kernel) (by decide +kernel)
set_option maxRecDepth 20000 in
theorem gX5_potWithout_X1_payIn : GoodIn wsX5_potWithout (wsV RX5 230 RX1 yX1_payIn wsX1_payIn) := goodIn_app (goodIn_of _ (by decide +kernel)) ggX5_potWithout_X1_payIn
theorem dX5_potWithout_0 : decode cX5_potWithout 0 = .ok (.aload_n 0, 1) := by decide +kernel
theorem dX5_potWithout_1 : decode cX5_potWithout 1 = .ok (.getfield 16, 3) := by decide +kernel
theorem dX5_potWithout_4 : decode cX5_potWithout 4 = .ok (.aload_n 0, 1) := by decide +kernel
theorem dX5_potWithout_5 : decode cX5_potWithout 5 = .ok (.getfield 10, 3) := by decide +kernel
theorem dX5_potWithout_8 : decode cX5_potWithout 8 = .ok (.invokevirtual 81, 3) := by decide +kernel
theorem dX5_potWithout_11 : decode cX5_potWithout 11 = .ok (.aload_n 0, 1) := by decide +kernel
theorem dX5_potWithout_12 : decode cX5_potWithout 12 = .ok (.getfield 16, 3) := by decide +kernel
theorem dX5_potWithout_15 : decode cX5_potWithout 15 = .ok (.getfield 135, 3) := by decide +kernel
theorem dX5_potWithout_18 : decode cX5_potWithout 18 = .ok (.iload_n 1, 1) := by decide +kernel
theorem dX5_potWithout_19 : decode cX5_potWithout 19 = .ok (.iconst 1, 1) := by decide +kernel
theorem dX5_potWithout_20 : decode cX5_potWithout 20 = .ok (.bastore, 1) := by decide +kernel
theorem dX5_potWithout_21 : decode cX5_potWithout 21 = .ok (.aload_n 0, 1) := by decide +kernel
theorem dX5_potWithout_22 : decode cX5_potWithout 22 = .ok (.getfield 22, 3) := by decide +kernel
theorem dX5_potWithout_25 : decode cX5_potWithout 25 = .ok (.aload_n 0, 1) := by decide +kernel
theorem dX5_potWithout_26 : decode cX5_potWithout 26 = .ok (.getfield 16, 3) := by decide +kernel
theorem dX5_potWithout_29 : decode cX5_potWithout 29 = .ok (.invokevirtual 230, 3) := by decide +kernel
theorem dX5_potWithout_32 : decode cX5_potWithout 32 = .ok (.aload_n 0, 1) := by decide +kernel
theorem dX5_potWithout_33 : decode cX5_potWithout 33 = .ok (.getfield 22, 3) := by decide +kernel
theorem dX5_potWithout_36 : decode cX5_potWithout 36 = .ok (.getfield 233, 3) := by decide +kernel
theorem dX5_potWithout_39 : decode cX5_potWithout 39 = .ok (.ireturn, 1) := by decide +kernel
theorem dX5_withoutLowGroups_0 : decode cX5_withoutLowGroups 0 = .ok (.lload_n 0, 1) := by decide +kernel
theorem dX5_withoutLowGroups_1 : decode cX5_withoutLowGroups 1 = .ok (.lstore_n 3, 1) := by decide +kernel
theorem dX5_withoutLowGroups_2 : decode cX5_withoutLowGroups 2 = .ok (.iconst 0, 1) := by decide +kernel
theorem dX5_withoutLowGroups_3 : decode cX5_withoutLowGroups 3 = .ok (.istore 5, 2) := by decide +kernel
theorem dX5_withoutLowGroups_5 : decode cX5_withoutLowGroups 5 = .ok (.iload 5, 2) := by decide +kernel
theorem dX5_withoutLowGroups_7 : decode cX5_withoutLowGroups 7 = .ok (.iload_n 2, 1) := by decide +kernel
theorem dX5_withoutLowGroups_8 : decode cX5_withoutLowGroups 8 = .ok (.if_icmp .ge 15, 3) := by decide +kernel
theorem dX5_withoutLowGroups_11 : decode cX5_withoutLowGroups 11 = .ok (.lload_n 3, 1) := by decide +kernel
theorem dX5_withoutLowGroups_12 : decode cX5_withoutLowGroups 12 = .ok (.ldc2_w 259, 3) := by decide +kernel
theorem dX5_withoutLowGroups_15 : decode cX5_withoutLowGroups 15 = .ok (.ldiv, 1) := by decide +kernel
theorem dX5_withoutLowGroups_16 : decode cX5_withoutLowGroups 16 = .ok (.lstore_n 3, 1) := by decide +kernel
theorem dX5_withoutLowGroups_17 : decode cX5_withoutLowGroups 17 = .ok (.iinc 5 1, 3) := by decide +kernel
theorem dX5_withoutLowGroups_20 : decode cX5_withoutLowGroups 20 = .ok (.goto (-15), 3) := by decide +kernel
theorem dX5_withoutLowGroups_23 : decode cX5_withoutLowGroups 23 = .ok (.lload_n 3, 1) := by decide +kernel
theorem dX5_withoutLowGroups_24 : decode cX5_withoutLowGroups 24 = .ok (.lreturn, 1) := by decide +kernel
theorem dX5_bitsOf_0 : decode cX5_bitsOf 0 = .ok (.fload_n 0, 1) := by decide +kernel
theorem dX5_bitsOf_1 : decode cX5_bitsOf 1 = .ok (.fconst 0, 1) := by decide +kernel
theorem dX5_bitsOf_2 : decode cX5_bitsOf 2 = .ok (.fcmp .g, 1) := by decide +kernel
theorem dX5_bitsOf_3 : decode cX5_bitsOf 3 = .ok (.ifCond .gt 5, 3) := by decide +kernel
theorem dX5_bitsOf_6 : decode cX5_bitsOf 6 = .ok (.iconst 0, 1) := by decide +kernel
theorem dX5_bitsOf_7 : decode cX5_bitsOf 7 = .ok (.ireturn, 1) := by decide +kernel
theorem dX5_bitsOf_8 : decode cX5_bitsOf 8 = .ok (.fload_n 0, 1) := by decide +kernel
theorem dX5_bitsOf_9 : decode cX5_bitsOf 9 = .ok (.fstore_n 1, 1) := by decide +kernel
theorem dX5_bitsOf_10 : decode cX5_bitsOf 10 = .ok (.sipush 150, 3) := by decide +kernel
theorem dX5_bitsOf_13 : decode cX5_bitsOf 13 = .ok (.istore_n 2, 1) := by decide +kernel
theorem dX5_bitsOf_14 : decode cX5_bitsOf 14 = .ok (.iconst 0, 1) := by decide +kernel
theorem dX5_bitsOf_15 : decode cX5_bitsOf 15 = .ok (.istore_n 3, 1) := by decide +kernel
theorem dX5_bitsOf_16 : decode cX5_bitsOf 16 = .ok (.iload_n 3, 1) := by decide +kernel
theorem dX5_bitsOf_17 : decode cX5_bitsOf 17 = .ok (.bipush 126, 2) := by decide +kernel
theorem dX5_bitsOf_19 : decode cX5_bitsOf 19 = .ok (.if_icmp .ge 24, 3) := by decide +kernel
theorem dX5_bitsOf_22 : decode cX5_bitsOf 22 = .ok (.fload_n 1, 1) := by decide +kernel
theorem dX5_bitsOf_23 : decode cX5_bitsOf 23 = .ok (.ldc_w 301, 3) := by decide +kernel
theorem dX5_bitsOf_26 : decode cX5_bitsOf 26 = .ok (.fcmp .g, 1) := by decide +kernel
theorem dX5_bitsOf_27 : decode cX5_bitsOf 27 = .ok (.ifCond .ge 16, 3) := by decide +kernel
theorem dX5_bitsOf_30 : decode cX5_bitsOf 30 = .ok (.fload_n 1, 1) := by decide +kernel
theorem dX5_bitsOf_31 : decode cX5_bitsOf 31 = .ok (.fconst 2, 1) := by decide +kernel
theorem dX5_bitsOf_32 : decode cX5_bitsOf 32 = .ok (.fmul, 1) := by decide +kernel
theorem dX5_bitsOf_33 : decode cX5_bitsOf 33 = .ok (.fstore_n 1, 1) := by decide +kernel
