theorem wsL_law_x0 : ∀ w ∈ (vx_atS RX5 120 "java/lang/IllegalArgumentException" ["java/lang/RuntimeException", "java/lang/Exception"]).filter goodWord, w ∈ lw_tbl := by decide +kernel
theorem wsL_law_x1 : ∀ w ∈ (vx_atS RX5 67 "java/lang/IllegalStateException" ["java/lang/RuntimeException", "java/lang/Exception"]).filter goodWord, w ∈ lw_tbl := by decide +kernel
theorem wsL_law_x2 : ∀ w ∈ (vx_atS RX5 294 "java/lang/IndexOutOfBoundsException" ["java/lang/RuntimeException", "java/lang/Exception"]).filter goodWord, w ∈ lw_tbl := by decide +kernel
theorem wsL_law_in : ∀ w ∈ wsL_law, w ∈ lw_tbl := fun w h => (List.mem_append.mp h).elim (fun h => (List.mem_append.mp h).elim (fun h => (List.mem_append.mp h).elim (fun h => wsL_law_in0 w h) (fun h => wsL_law_x0 w h)) (fun h => wsL_law_x1 w h)) (fun h => wsL_law_x2 w h)
theorem inlX0 : ∀ w ∈ wsX00, w ∈ wsL_law := fun _ h => List.mem_append_left _ (List.mem_append_left _ (List.mem_append_left _ (List.mem_append_left _ (List.mem_append_left _ (List.mem_append_right _ h)))))
theorem inX0 : ∀ w ∈ wsX00, w ∈ lw_tbl := fun w h => wsL_law_in w (inlX0 w h)
theorem inlX1 : ∀ w ∈ wsX10, w ∈ wsL_law := fun _ h => List.mem_append_left _ (List.mem_append_left _ (List.mem_append_left _ (List.mem_append_left _ (List.mem_append_left _ (List.mem_append_left _ (List.mem_append_left _ (List.mem_append_right _ h)))))))
theorem inX1 : ∀ w ∈ wsX10, w ∈ lw_tbl := fun w h => wsL_law_in w (inlX1 w h)
theorem inlX2 : ∀ w ∈ wsX20, w ∈ wsL_law := fun _ h => List.mem_append_left _ (List.mem_append_left _ (List.mem_append_left _ (List.mem_append_left _ (List.mem_append_left _ (List.mem_append_left _ (List.mem_append_right _ h))))))
theorem inX2 : ∀ w ∈ wsX20, w ∈ lw_tbl := fun w h => wsL_law_in w (inlX2 w h)
theorem inlX3 : ∀ w ∈ wsX30, w ∈ wsL_law := fun _ h => List.mem_append_left _ (List.mem_append_left _ (List.mem_append_left _ (List.mem_append_left _ (List.mem_append_left _ (List.mem_append_left _ (List.mem_append_left _ (List.mem_append_left _ (List.mem_append_right _ h))))))))
theorem inX3 : ∀ w ∈ wsX30, w ∈ lw_tbl := fun w h => wsL_law_in w (inlX3 w h)
theorem inlX4 : ∀ w ∈ wsX40, w ∈ wsL_law := fun _ h => List.mem_append_left _ (List.mem_append_left _ (List.mem_append_left _ (List.mem_append_left _ (List.mem_append_right _ h))))
theorem inX4 : ∀ w ∈ wsX40, w ∈ lw_tbl := fun w h => wsL_law_in w (inlX4 w h)
theorem inlX5 : ∀ w ∈ wsX50, w ∈ wsL_law := fun _ h => List.mem_append_left _ (List.mem_append_left _ (List.mem_append_left _ (List.mem_append_left _ (List.mem_append_left _ (List.mem_append_left _ (List.mem_append_left _ (List.mem_append_left _ (List.mem_append_left _ (List.mem_append_right _ h)))))))))
theorem inX5 : ∀ w ∈ wsX50, w ∈ lw_tbl := fun w h => wsL_law_in w (inlX5 w h)
theorem inX6 : ∀ w ∈ wsX60, w ∈ lw_tbl := by decide +kernel
theorem inJ9 : ∀ w ∈ wsJ90, w ∈ lw_tbl := by decide +kernel
theorem inJ0 : ∀ w ∈ wsJ00, w ∈ lw_tbl := by decide +kernel
set_option maxRecDepth 20000 in
theorem ggX0_init_X3_init : GoodIn wsX0_init wsX3_init := goodIn_r _ [9, 10, 2, 3, 11, 12, 13, 14, 15, 16, 17, 18, 19, 20, 21, 22, 23, 24, 25, 29, 30, 31, 32, 33, 34, 35, 36, 37, 38, 39, 40, 41, 42, 43, 44, 45] (by decide +kernel) (by decide +kernel)
set_option maxRecDepth 20000 in
theorem gX0_init_X3_init_n17 : GoodIn wsX0_init (wsX3_init) := ggX0_init_X3_init
theorem dX0_init_0 : decode cX0_init 0 = .ok (.aload_n 0, 1) := by decide +kernel
theorem dX0_init_1 : decode cX0_init 1 = .ok (.invokespecial 3, 3) := by decide +kernel
theorem dX0_init_4 : decode cX0_init 4 = .ok (.aload_n 0, 1) := by decide +kernel
theorem dX0_init_5 : decode cX0_init 5 = .ok (.bipush 14, 2) := by decide +kernel
theorem dX0_init_7 : decode cX0_init 7 = .ok (.anewarray 9, 3) := by decide +kernel
theorem dX0_init_10 : decode cX0_init 10 = .ok (.putfield 11, 3) := by decide +kernel
theorem dX0_init_13 : decode cX0_init 13 = .ok (.iconst 0, 1) := by decide +kernel
theorem dX0_init_14 : decode cX0_init 14 = .ok (.istore_n 1, 1) := by decide +kernel
theorem dX0_init_15 : decode cX0_init 15 = .ok (.iload_n 1, 1) := by decide +kernel
theorem dX0_init_16 : decode cX0_init 16 = .ok (.bipush 14, 2) := by decide +kernel
theorem dX0_init_18 : decode cX0_init 18 = .ok (.if_icmp .ge 22, 3) := by decide +kernel
theorem dX0_init_21 : decode cX0_init 21 = .ok (.aload_n 0, 1) := by decide +kernel
theorem dX0_init_22 : decode cX0_init 22 = .ok (.getfield 11, 3) := by decide +kernel
theorem dX0_init_25 : decode cX0_init 25 = .ok (.iload_n 1, 1) := by decide +kernel
theorem dX0_init_26 : decode cX0_init 26 = .ok (.new 9, 3) := by decide +kernel
theorem dX0_init_29 : decode cX0_init 29 = .ok (.dup, 1) := by decide +kernel
theorem dX0_init_30 : decode cX0_init 30 = .ok (.invokespecial 17, 3) := by decide +kernel
theorem dX0_init_33 : decode cX0_init 33 = .ok (.aastore, 1) := by decide +kernel
theorem dX0_init_34 : decode cX0_init 34 = .ok (.iinc 1 1, 3) := by decide +kernel
theorem dX0_init_37 : decode cX0_init 37 = .ok (.goto (-22), 3) := by decide +kernel
theorem dX0_init_40 : decode cX0_init 40 = .ok (.return_, 1) := by decide +kernel
set_option maxRecDepth 20000 in
theorem ggX0_remember_X3_copyFrom : GoodIn wsX0_remember wsX3_copyFrom := goodIn_r _ [12, 13, 14, 15, 16, 17, 18, 19, 20, 21, 22, 23, 24, 25, 26, 27, 28, 29, 33, 34, 35, 36, 37, 38, 39, 40, 41, 42, 43, 44, 45, 46, 47, 48, 49] (by decide +kernel) (by decide +kernel)
set_option maxRecDepth 20000 in
theorem gX0_remember_X3_copyFrom : GoodIn wsX0_remember (wsV RX0 25 RX3 yX3_copyFrom wsX3_copyFrom) := goodIn_app (goodIn_of _ (by decide +kernel)) ggX0_remember_X3_copyFrom
theorem dX0_remember_0 : decode cX0_remember 0 = .ok (.aload_n 0, 1) := by decide +kernel
theorem dX0_remember_1 : decode cX0_remember 1 = .ok (.getfield 11, 3) := by decide +kernel
theorem dX0_remember_4 : decode cX0_remember 4 = .ok (.aload_n 0, 1) := by decide +kernel
theorem dX0_remember_5 : decode cX0_remember 5 = .ok (.getfield 22, 3) := by decide +kernel
theorem dX0_remember_8 : decode cX0_remember 8 = .ok (.aaload, 1) := by decide +kernel
theorem dX0_remember_9 : decode cX0_remember 9 = .ok (.aload_n 1, 1) := by decide +kernel
theorem dX0_remember_10 : decode cX0_remember 10 = .ok (.invokevirtual 25, 3) := by decide +kernel
theorem dX0_remember_13 : decode cX0_remember 13 = .ok (.aload_n 0, 1) := by decide +kernel
theorem dX0_remember_14 : decode cX0_remember 14 = .ok (.aload_n 0, 1) := by decide +kernel
theorem dX0_remember_15 : decode cX0_remember 15 = .ok (.getfield 22, 3) := by decide +kernel
theorem dX0_remember_18 : decode cX0_remember 18 = .ok (.iconst 1, 1) := by decide +kernel
theorem dX0_remember_19 : decode cX0_remember 19 = .ok (.iadd, 1) := by decide +kernel
theorem dX0_remember_20 : decode cX0_remember 20 = .ok (.bipush 14, 2) := by decide +kernel
theorem dX0_remember_22 : decode cX0_remember 22 = .ok (.if_icmp .ge 12, 3) := by decide +kernel
theorem dX0_remember_25 : decode cX0_remember 25 = .ok (.aload_n 0, 1) := by decide +kernel
theorem dX0_remember_26 : decode cX0_remember 26 = .ok (.getfield 22, 3) := by decide +kernel
theorem dX0_remember_29 : decode cX0_remember 29 = .ok (.iconst 1, 1) := by decide +kernel
theorem dX0_remember_30 : decode cX0_remember 30 = .ok (.iadd, 1) := by decide +kernel
theorem dX0_remember_31 : decode cX0_remember 31 = .ok (.goto 4, 3) := by decide +kernel
theorem dX0_remember_34 : decode cX0_remember 34 = .ok (.iconst 0, 1) := by decide +kernel
theorem dX0_remember_35 : decode cX0_remember 35 = .ok (.putfield 22, 3) := by decide +kernel
theorem dX0_remember_38 : decode cX0_remember 38 = .ok (.aload_n 0, 1) := by decide +kernel
theorem dX0_remember_39 : decode cX0_remember 39 = .ok (.aload_n 0, 1) := by decide +kernel
theorem dX0_remember_40 : decode cX0_remember 40 = .ok (.getfield 18, 3) := by decide +kernel
theorem dX0_remember_43 : decode cX0_remember 43 = .ok (.iconst 1, 1) := by decide +kernel
theorem dX0_remember_44 : decode cX0_remember 44 = .ok (.iadd, 1) := by decide +kernel
theorem dX0_remember_45 : decode cX0_remember 45 = .ok (.bipush 14, 2) := by decide +kernel
theorem dX0_remember_47 : decode cX0_remember 47 = .ok (.invokestatic 29, 3) := by decide +kernel
theorem dX0_remember_50 : decode cX0_remember 50 = .ok (.putfield 18, 3) := by decide +kernel
theorem dX0_remember_53 : decode cX0_remember 53 = .ok (.return_, 1) := by decide +kernel
set_option maxRecDepth 20000 in
theorem ggX0_takeBack_X3_copyFrom : GoodIn wsX0_takeBack wsX3_copyFrom := goodIn_r _ [8, 9, 10, 11, 12, 13, 14, 15, 16, 17, 18, 19, 20, 21, 22, 23, 24, 25, 29, 30, 31, 32, 33, 34, 35, 36, 37, 38, 39, 40, 41, 42, 43, 44, 45] (by decide +kernel) (by decide +kernel)
set_option maxRecDepth 20000 in
theorem gX0_takeBack_X3_copyFrom : GoodIn wsX0_takeBack (wsV RX0 25 RX3 yX3_copyFrom wsX3_copyFrom) := goodIn_app (goodIn_of _ (by decide +kernel)) ggX0_takeBack_X3_copyFrom
theorem dX0_takeBack_0 : decode cX0_takeBack 0 = .ok (.aload_n 0, 1) := by decide +kernel
theorem dX0_takeBack_1 : decode cX0_takeBack 1 = .ok (.aload_n 0, 1) := by decide +kernel
theorem dX0_takeBack_2 : decode cX0_takeBack 2 = .ok (.getfield 22, 3) := by decide +kernel
theorem dX0_takeBack_5 : decode cX0_takeBack 5 = .ok (.ifCond .le 12, 3) := by decide +kernel
theorem dX0_takeBack_8 : decode cX0_takeBack 8 = .ok (.aload_n 0, 1) := by decide +kernel
theorem dX0_takeBack_9 : decode cX0_takeBack 9 = .ok (.getfield 22, 3) := by decide +kernel
theorem dX0_takeBack_12 : decode cX0_takeBack 12 = .ok (.iconst 1, 1) := by decide +kernel
theorem dX0_takeBack_13 : decode cX0_takeBack 13 = .ok (.isub, 1) := by decide +kernel
theorem dX0_takeBack_14 : decode cX0_takeBack 14 = .ok (.goto 5, 3) := by decide +kernel
theorem dX0_takeBack_17 : decode cX0_takeBack 17 = .ok (.bipush 13, 2) := by decide +kernel
theorem dX0_takeBack_19 : decode cX0_takeBack 19 = .ok (.putfield 22, 3) := by decide +kernel
theorem dX0_takeBack_22 : decode cX0_takeBack 22 = .ok (.aload_n 0, 1) := by decide +kernel
theorem dX0_takeBack_23 : decode cX0_takeBack 23 = .ok (.dup, 1) := by decide +kernel
theorem dX0_takeBack_24 : decode cX0_takeBack 24 = .ok (.getfield 18, 3) := by decide +kernel
theorem dX0_takeBack_27 : decode cX0_takeBack 27 = .ok (.iconst 1, 1) := by decide +kernel
theorem dX0_takeBack_28 : decode cX0_takeBack 28 = .ok (.isub, 1) := by decide +kernel
theorem dX0_takeBack_29 : decode cX0_takeBack 29 = .ok (.putfield 18, 3) := by decide +kernel
theorem dX0_takeBack_32 : decode cX0_takeBack 32 = .ok (.aload_n 1, 1) := by decide +kernel
theorem dX0_takeBack_33 : decode cX0_takeBack 33 = .ok (.aload_n 0, 1) := by decide +kernel
theorem dX0_takeBack_34 : decode cX0_takeBack 34 = .ok (.getfield 11, 3) := by decide +kernel
theorem dX0_takeBack_37 : decode cX0_takeBack 37 = .ok (.aload_n 0, 1) := by decide +kernel
theorem dX0_takeBack_38 : decode cX0_takeBack 38 = .ok (.getfield 22, 3) := by decide +kernel
theorem dX0_takeBack_41 : decode cX0_takeBack 41 = .ok (.aaload, 1) := by decide +kernel
theorem dX0_takeBack_42 : decode cX0_takeBack 42 = .ok (.invokevirtual 25, 3) := by decide +kernel
theorem dX0_takeBack_45 : decode cX0_takeBack 45 = .ok (.aload_n 0, 1) := by decide +kernel
theorem dX0_takeBack_46 : decode cX0_takeBack 46 = .ok (.getfield 18, 3) := by decide +kernel
theorem dX0_takeBack_49 : decode cX0_takeBack 49 = .ok (.ireturn, 1) := by decide +kernel
theorem dX1_init_0 : decode cX1_init 0 = .ok (.aload_n 0, 1) := by decide +kernel
theorem dX1_init_1 : decode cX1_init 1 = .ok (.invokespecial 3, 3) := by decide +kernel
theorem dX1_init_4 : decode cX1_init 4 = .ok (.aload_n 0, 1) := by decide +kernel
theorem dX1_init_5 : decode cX1_init 5 = .ok (.bipush 8, 2) := by decide +kernel
theorem dX1_init_7 : decode cX1_init 7 = .ok (.newarray .boolean, 2) := by decide +kernel
theorem dX1_init_9 : decode cX1_init 9 = .ok (.putfield 9, 3) := by decide +kernel
theorem dX1_init_12 : decode cX1_init 12 = .ok (.aload_n 0, 1) := by decide +kernel
theorem dX1_init_13 : decode cX1_init 13 = .ok (.bipush 8, 2) := by decide +kernel
theorem dX1_init_15 : decode cX1_init 15 = .ok (.newarray .boolean, 2) := by decide +kernel
theorem dX1_init_17 : decode cX1_init 17 = .ok (.putfield 15, 3) := by decide +kernel
theorem dX1_init_20 : decode cX1_init 20 = .ok (.return_, 1) := by decide +kernel
set_option maxRecDepth 20000 in
theorem ggX1_pass_X1_payIn : GoodIn wsX1_pass wsX1_payIn := goodIn_r _ [12, 3, 4, 13, 14, 15, 6, 16, 17, 18, 19, 20, 21, 11, 22, 23, 24, 25, 26, 27, 28, 29, 30, 31, 32, 33, 34, 35, 92, 93, 94, 75, 76, 77, 78, 79, 80, 81, 82, 83, 84, 85, 86, 87, 88, 89, 90, 91] (by decide +kernel) (by decide +kernel)
set_option maxRecDepth 20000 in
theorem gX1_pass_X1_payIn : GoodIn wsX1_pass (wsV RX1 18 RX1 yX1_payIn wsX1_payIn) := goodIn_app (goodIn_of _ (by decide +kernel)) ggX1_pass_X1_payIn
set_option maxRecDepth 20000 in
theorem ggX1_pass_X1_taker : GoodIn wsX1_pass wsX1_taker := goodIn_r _ [39, 1, 4, 7, 40, 41, 42, 11, 43, 44, 45, 46, 47, 48, 15, 13, 49, 50, 51, 52, 5, 3, 53, 54, 55, 56, 75, 76, 77, 78, 79, 80, 81, 82, 83, 84, 85, 86, 87, 88, 89, 90, 91, 92, 93, 94] (by decide +kernel) (by decide +kernel)
set_option maxRecDepth 20000 in
theorem gX1_pass_X1_taker : GoodIn wsX1_pass (wsV RX1 22 RX1 yX1_taker wsX1_taker) := goodIn_app (goodIn_of _ (by decide +kernel)) ggX1_pass_X1_taker
set_option maxRecDepth 20000 in
theorem ggX1_pass_X1_share : GoodIn wsX1_pass wsX1_share := goodIn_r _ [60, 4, 16, 61, 2, 45, 46, 47, 11, 48, 15, 13, 49, 50, 51, 52, 5, 3, 53, 54, 55, 56, 75, 76, 77, 78, 79, 80, 81, 82, 83, 84, 85, 86, 87, 88, 89, 90, 91, 92, 93, 94] (by decide +kernel) (by decide +kernel)
set_option maxRecDepth 20000 in
theorem gX1_pass_X1_share : GoodIn wsX1_pass (wsV RX1 36 RX1 yX1_share wsX1_share) := goodIn_app (goodIn_of _ (by decide +kernel)) ggX1_pass_X1_share
set_option maxRecDepth 20000 in
theorem ggX1_pass_X1_payOut : GoodIn wsX1_pass wsX1_payOut := goodIn_r _ [65, 3, 66, 44, 4, 16, 49, 50, 51, 11, 52, 5, 53, 54, 55, 56, 67, 68, 69, 30, 70, 71, 72, 73, 74, 34, 35, 92, 93, 94, 75, 76, 77, 78, 79, 80, 81, 82, 83, 84, 85, 86, 87, 88, 89, 90, 91] (by decide +kernel) (by decide +kernel)
set_option maxRecDepth 20000 in
theorem gX1_pass_X1_payOut : GoodIn wsX1_pass (wsV RX1 40 RX1 yX1_payOut wsX1_payOut) := goodIn_app (goodIn_of _ (by decide +kernel)) ggX1_pass_X1_payOut
theorem dX1_pass_0 : decode cX1_pass 0 = .ok (.aload_n 0, 1) := by decide +kernel
theorem dX1_pass_1 : decode cX1_pass 1 = .ok (.aload_n 1, 1) := by decide +kernel
theorem dX1_pass_2 : decode cX1_pass 2 = .ok (.invokevirtual 18, 3) := by decide +kernel
theorem dX1_pass_5 : decode cX1_pass 5 = .ok (.aload_n 0, 1) := by decide +kernel
theorem dX1_pass_6 : decode cX1_pass 6 = .ok (.aload_n 1, 1) := by decide +kernel
theorem dX1_pass_7 : decode cX1_pass 7 = .ok (.invokevirtual 22, 3) := by decide +kernel
theorem dX1_pass_10 : decode cX1_pass 10 = .ok (.istore_n 2, 1) := by decide +kernel
theorem dX1_pass_11 : decode cX1_pass 11 = .ok (.iload_n 2, 1) := by decide +kernel
theorem dX1_pass_12 : decode cX1_pass 12 = .ok (.ldc 26, 2) := by decide +kernel
theorem dX1_pass_14 : decode cX1_pass 14 = .ok (.if_icmp .ne 19, 3) := by decide +kernel
theorem dX1_pass_17 : decode cX1_pass 17 = .ok (.aload_n 1, 1) := by decide +kernel
theorem dX1_pass_18 : decode cX1_pass 18 = .ok (.dup, 1) := by decide +kernel
theorem dX1_pass_19 : decode cX1_pass 19 = .ok (.getfield 27, 3) := by decide +kernel
theorem dX1_pass_22 : decode cX1_pass 22 = .ok (.aload_n 0, 1) := by decide +kernel
theorem dX1_pass_23 : decode cX1_pass 23 = .ok (.getfield 33, 3) := by decide +kernel
theorem dX1_pass_26 : decode cX1_pass 26 = .ok (.iadd, 1) := by decide +kernel
theorem dX1_pass_27 : decode cX1_pass 27 = .ok (.putfield 27, 3) := by decide +kernel
theorem dX1_pass_30 : decode cX1_pass 30 = .ok (.goto 15, 3) := by decide +kernel
theorem dX1_pass_33 : decode cX1_pass 33 = .ok (.aload_n 0, 1) := by decide +kernel
theorem dX1_pass_34 : decode cX1_pass 34 = .ok (.aload_n 1, 1) := by decide +kernel
theorem dX1_pass_35 : decode cX1_pass 35 = .ok (.iload_n 2, 1) := by decide +kernel
theorem dX1_pass_36 : decode cX1_pass 36 = .ok (.invokevirtual 36, 3) := by decide +kernel
theorem dX1_pass_39 : decode cX1_pass 39 = .ok (.aload_n 0, 1) := by decide +kernel
theorem dX1_pass_40 : decode cX1_pass 40 = .ok (.aload_n 1, 1) := by decide +kernel
theorem dX1_pass_41 : decode cX1_pass 41 = .ok (.iload_n 2, 1) := by decide +kernel
theorem dX1_pass_42 : decode cX1_pass 42 = .ok (.invokevirtual 40, 3) := by decide +kernel
theorem dX1_pass_45 : decode cX1_pass 45 = .ok (.iconst 0, 1) := by decide +kernel
theorem dX1_pass_46 : decode cX1_pass 46 = .ok (.istore_n 3, 1) := by decide +kernel
theorem dX1_pass_47 : decode cX1_pass 47 = .ok (.iload_n 3, 1) := by decide +kernel
theorem dX1_pass_48 : decode cX1_pass 48 = .ok (.aload_n 1, 1) := by decide +kernel
theorem dX1_pass_49 : decode cX1_pass 49 = .ok (.getfield 43, 3) := by decide +kernel
theorem dX1_pass_52 : decode cX1_pass 52 = .ok (.if_icmp .ge 23, 3) := by decide +kernel
theorem dX1_pass_55 : decode cX1_pass 55 = .ok (.aload_n 1, 1) := by decide +kernel
theorem dX1_pass_56 : decode cX1_pass 56 = .ok (.getfield 46, 3) := by decide +kernel
theorem dX1_pass_59 : decode cX1_pass 59 = .ok (.iload_n 3, 1) := by decide +kernel
theorem dX1_pass_60 : decode cX1_pass 60 = .ok (.iconst 0, 1) := by decide +kernel
theorem dX1_pass_61 : decode cX1_pass 61 = .ok (.iastore, 1) := by decide +kernel
theorem dX1_pass_62 : decode cX1_pass 62 = .ok (.aload_n 1, 1) := by decide +kernel
theorem dX1_pass_63 : decode cX1_pass 63 = .ok (.getfield 50, 3) := by decide +kernel
theorem dX1_pass_66 : decode cX1_pass 66 = .ok (.iload_n 3, 1) := by decide +kernel
theorem dX1_pass_67 : decode cX1_pass 67 = .ok (.iconst 0, 1) := by decide +kernel
theorem dX1_pass_68 : decode cX1_pass 68 = .ok (.bastore, 1) := by decide +kernel
theorem dX1_pass_69 : decode cX1_pass 69 = .ok (.iinc 3 1, 3) := by decide +kernel
theorem dX1_pass_72 : decode cX1_pass 72 = .ok (.goto (-25), 3) := by decide +kernel
theorem dX1_pass_75 : decode cX1_pass 75 = .ok (.aload_n 1, 1) := by decide +kernel
theorem dX1_pass_76 : decode cX1_pass 76 = .ok (.dup, 1) := by decide +kernel
theorem dX1_pass_77 : decode cX1_pass 77 = .ok (.getfield 53, 3) := by decide +kernel
theorem dX1_pass_80 : decode cX1_pass 80 = .ok (.iconst 1, 1) := by decide +kernel
theorem dX1_pass_81 : decode cX1_pass 81 = .ok (.iadd, 1) := by decide +kernel
theorem dX1_pass_82 : decode cX1_pass 82 = .ok (.putfield 53, 3) := by decide +kernel
theorem dX1_pass_85 : decode cX1_pass 85 = .ok (.iload_n 2, 1) := by decide +kernel
theorem dX1_pass_86 : decode cX1_pass 86 = .ok (.ireturn, 1) := by decide +kernel
set_option maxRecDepth 20000 in
theorem ggX1_payIn_X1_payForOther : GoodIn wsX1_payIn wsX1_payForOther := goodIn_r _ [14, 15, 4, 7, 8, 16, 17, 1, 3, 18, 19, 20, 21, 22, 23, 24, 25, 26, 27, 31, 32, 33, 34, 35, 36, 37, 38, 39, 40, 41, 42, 43, 44, 45, 46, 47, 28, 29, 30] (by decide +kernel) (by decide +kernel)
set_option maxRecDepth 20000 in
theorem gX1_payIn_X1_payForOther : GoodIn wsX1_payIn (wsV RX1 68 RX1 yX1_payForOther wsX1_payForOther) := goodIn_app (goodIn_of _ (by decide +kernel)) ggX1_payIn_X1_payForOther
theorem dX1_payIn_0 : decode cX1_payIn 0 = .ok (.aload_n 0, 1) := by decide +kernel
theorem dX1_payIn_1 : decode cX1_payIn 1 = .ok (.iconst 0, 1) := by decide +kernel
theorem dX1_payIn_2 : decode cX1_payIn 2 = .ok (.putfield 33, 3) := by decide +kernel
theorem dX1_payIn_5 : decode cX1_payIn 5 = .ok (.iconst 0, 1) := by decide +kernel
theorem dX1_payIn_6 : decode cX1_payIn 6 = .ok (.istore_n 2, 1) := by decide +kernel
theorem dX1_payIn_7 : decode cX1_payIn 7 = .ok (.iload_n 2, 1) := by decide +kernel
theorem dX1_payIn_8 : decode cX1_payIn 8 = .ok (.aload_n 1, 1) := by decide +kernel
theorem dX1_payIn_9 : decode cX1_payIn 9 = .ok (.getfield 43, 3) := by decide +kernel
theorem dX1_payIn_12 : decode cX1_payIn 12 = .ok (.if_icmp .ge 106, 3) := by decide +kernel
theorem dX1_payIn_15 : decode cX1_payIn 15 = .ok (.aload_n 0, 1) := by decide +kernel
theorem dX1_payIn_16 : decode cX1_payIn 16 = .ok (.getfield 15, 3) := by decide +kernel
theorem dX1_payIn_19 : decode cX1_payIn 19 = .ok (.iload_n 2, 1) := by decide +kernel
theorem dX1_payIn_20 : decode cX1_payIn 20 = .ok (.iconst 0, 1) := by decide +kernel
theorem dX1_payIn_21 : decode cX1_payIn 21 = .ok (.bastore, 1) := by decide +kernel
theorem dX1_payIn_22 : decode cX1_payIn 22 = .ok (.aload_n 0, 1) := by decide +kernel
theorem dX1_payIn_23 : decode cX1_payIn 23 = .ok (.getfield 9, 3) := by decide +kernel
theorem dX1_payIn_26 : decode cX1_payIn 26 = .ok (.iload_n 2, 1) := by decide +kernel
theorem dX1_payIn_27 : decode cX1_payIn 27 = .ok (.aload_n 1, 1) := by decide +kernel
theorem dX1_payIn_28 : decode cX1_payIn 28 = .ok (.getfield 56, 3) := by decide +kernel
theorem dX1_payIn_31 : decode cX1_payIn 31 = .ok (.iload_n 2, 1) := by decide +kernel
theorem dX1_payIn_32 : decode cX1_payIn 32 = .ok (.baload, 1) := by decide +kernel
theorem dX1_payIn_33 : decode cX1_payIn 33 = .ok (.ifCond .eq 29, 3) := by decide +kernel
theorem dX1_payIn_36 : decode cX1_payIn 36 = .ok (.aload_n 1, 1) := by decide +kernel
theorem dX1_payIn_37 : decode cX1_payIn 37 = .ok (.getfield 50, 3) := by decide +kernel
theorem dX1_payIn_40 : decode cX1_payIn 40 = .ok (.iload_n 2, 1) := by decide +kernel
theorem dX1_payIn_41 : decode cX1_payIn 41 = .ok (.baload, 1) := by decide +kernel
theorem dX1_payIn_42 : decode cX1_payIn 42 = .ok (.ifCond .ne 20, 3) := by decide +kernel
theorem dX1_payIn_45 : decode cX1_payIn 45 = .ok (.aload_n 1, 1) := by decide +kernel
theorem dX1_payIn_46 : decode cX1_payIn 46 = .ok (.getfield 59, 3) := by decide +kernel
theorem dX1_payIn_49 : decode cX1_payIn 49 = .ok (.iload_n 2, 1) := by decide +kernel
theorem dX1_payIn_50 : decode cX1_payIn 50 = .ok (.iaload, 1) := by decide +kernel
theorem dX1_payIn_51 : decode cX1_payIn 51 = .ok (.aload_n 1, 1) := by decide +kernel
theorem dX1_payIn_52 : decode cX1_payIn 52 = .ok (.getfield 62, 3) := by decide +kernel
theorem dX1_payIn_55 : decode cX1_payIn 55 = .ok (.if_icmp .lt 7, 3) := by decide +kernel
theorem dX1_payIn_58 : decode cX1_payIn 58 = .ok (.iconst 1, 1) := by decide +kernel
theorem dX1_payIn_59 : decode cX1_payIn 59 = .ok (.goto 4, 3) := by decide +kernel
theorem dX1_payIn_62 : decode cX1_payIn 62 = .ok (.iconst 0, 1) := by decide +kernel
theorem dX1_payIn_63 : decode cX1_payIn 63 = .ok (.bastore, 1) := by decide +kernel
theorem dX1_payIn_64 : decode cX1_payIn 64 = .ok (.aload_n 0, 1) := by decide +kernel
theorem dX1_payIn_65 : decode cX1_payIn 65 = .ok (.getfield 9, 3) := by decide +kernel
theorem dX1_payIn_68 : decode cX1_payIn 68 = .ok (.iload_n 2, 1) := by decide +kernel
theorem dX1_payIn_69 : decode cX1_payIn 69 = .ok (.baload, 1) := by decide +kernel
theorem dX1_payIn_70 : decode cX1_payIn 70 = .ok (.ifCond .eq 42, 3) := by decide +kernel
theorem dX1_payIn_73 : decode cX1_payIn 73 = .ok (.aload_n 1, 1) := by decide +kernel
theorem dX1_payIn_74 : decode cX1_payIn 74 = .ok (.getfield 59, 3) := by decide +kernel
theorem dX1_payIn_77 : decode cX1_payIn 77 = .ok (.iload_n 2, 1) := by decide +kernel
theorem dX1_payIn_78 : decode cX1_payIn 78 = .ok (.dup2, 1) := by decide +kernel
theorem dX1_payIn_79 : decode cX1_payIn 79 = .ok (.iaload, 1) := by decide +kernel
theorem dX1_payIn_80 : decode cX1_payIn 80 = .ok (.aload_n 1, 1) := by decide +kernel
theorem dX1_payIn_81 : decode cX1_payIn 81 = .ok (.getfield 62, 3) := by decide +kernel
theorem dX1_payIn_84 : decode cX1_payIn 84 = .ok (.isub, 1) := by decide +kernel
theorem dX1_payIn_85 : decode cX1_payIn 85 = .ok (.iastore, 1) := by decide +kernel
theorem dX1_payIn_86 : decode cX1_payIn 86 = .ok (.aload_n 1, 1) := by decide +kernel
theorem dX1_payIn_87 : decode cX1_payIn 87 = .ok (.getfield 65, 3) := by decide +kernel
theorem dX1_payIn_90 : decode cX1_payIn 90 = .ok (.iload_n 2, 1) := by decide +kernel
theorem dX1_payIn_91 : decode cX1_payIn 91 = .ok (.dup2, 1) := by decide +kernel
theorem dX1_payIn_92 : decode cX1_payIn 92 = .ok (.iaload, 1) := by decide +kernel
theorem dX1_payIn_93 : decode cX1_payIn 93 = .ok (.aload_n 1, 1) := by decide +kernel
theorem dX1_payIn_94 : decode cX1_payIn 94 = .ok (.getfield 62, 3) := by decide +kernel
theorem dX1_payIn_97 : decode cX1_payIn 97 = .ok (.iadd, 1) := by decide +kernel
theorem dX1_payIn_98 : decode cX1_payIn 98 = .ok (.iastore, 1) := by decide +kernel
theorem dX1_payIn_99 : decode cX1_payIn 99 = .ok (.aload_n 0, 1) := by decide +kernel
theorem dX1_payIn_100 : decode cX1_payIn 100 = .ok (.dup, 1) := by decide +kernel
theorem dX1_payIn_101 : decode cX1_payIn 101 = .ok (.getfield 33, 3) := by decide +kernel
theorem dX1_payIn_104 : decode cX1_payIn 104 = .ok (.aload_n 1, 1) := by decide +kernel
theorem dX1_payIn_105 : decode cX1_payIn 105 = .ok (.getfield 62, 3) := by decide +kernel
theorem dX1_payIn_108 : decode cX1_payIn 108 = .ok (.iadd, 1) := by decide +kernel
theorem dX1_payIn_109 : decode cX1_payIn 109 = .ok (.putfield 33, 3) := by decide +kernel
theorem dX1_payIn_112 : decode cX1_payIn 112 = .ok (.iinc 2 1, 3) := by decide +kernel
theorem dX1_payIn_115 : decode cX1_payIn 115 = .ok (.goto (-108), 3) := by decide +kernel
theorem dX1_payIn_118 : decode cX1_payIn 118 = .ok (.iconst 0, 1) := by decide +kernel
theorem dX1_payIn_119 : decode cX1_payIn 119 = .ok (.istore_n 2, 1) := by decide +kernel
theorem dX1_payIn_120 : decode cX1_payIn 120 = .ok (.iload_n 2, 1) := by decide +kernel
theorem dX1_payIn_121 : decode cX1_payIn 121 = .ok (.aload_n 1, 1) := by decide +kernel
theorem dX1_payIn_122 : decode cX1_payIn 122 = .ok (.getfield 43, 3) := by decide +kernel
theorem dX1_payIn_125 : decode cX1_payIn 125 = .ok (.if_icmp .ge 33, 3) := by decide +kernel
theorem dX1_payIn_128 : decode cX1_payIn 128 = .ok (.aload_n 1, 1) := by decide +kernel
theorem dX1_payIn_129 : decode cX1_payIn 129 = .ok (.getfield 56, 3) := by decide +kernel
theorem dX1_payIn_132 : decode cX1_payIn 132 = .ok (.iload_n 2, 1) := by decide +kernel
theorem dX1_payIn_133 : decode cX1_payIn 133 = .ok (.baload, 1) := by decide +kernel
theorem dX1_payIn_134 : decode cX1_payIn 134 = .ok (.ifCond .eq 18, 3) := by decide +kernel
theorem dX1_payIn_137 : decode cX1_payIn 137 = .ok (.aload_n 0, 1) := by decide +kernel
theorem dX1_payIn_138 : decode cX1_payIn 138 = .ok (.getfield 9, 3) := by decide +kernel
theorem dX1_payIn_141 : decode cX1_payIn 141 = .ok (.iload_n 2, 1) := by decide +kernel
theorem dX1_payIn_142 : decode cX1_payIn 142 = .ok (.baload, 1) := by decide +kernel
theorem dX1_payIn_143 : decode cX1_payIn 143 = .ok (.ifCond .ne 9, 3) := by decide +kernel
theorem dX1_payIn_146 : decode cX1_payIn 146 = .ok (.aload_n 0, 1) := by decide +kernel
theorem dX1_payIn_147 : decode cX1_payIn 147 = .ok (.aload_n 1, 1) := by decide +kernel
theorem dX1_payIn_148 : decode cX1_payIn 148 = .ok (.iload_n 2, 1) := by decide +kernel
theorem dX1_payIn_149 : decode cX1_payIn 149 = .ok (.invokevirtual 68, 3) := by decide +kernel
theorem dX1_payIn_152 : decode cX1_payIn 152 = .ok (.iinc 2 1, 3) := by decide +kernel
theorem dX1_payIn_155 : decode cX1_payIn 155 = .ok (.goto (-35), 3) := by decide +kernel
theorem dX1_payIn_158 : decode cX1_payIn 158 = .ok (.return_, 1) := by decide +kernel
set_option maxRecDepth 20000 in
theorem ggX1_payForOther_X3_exists : GoodIn wsX1_payForOther wsX3_exists := goodIn_r _ [14, 15, 19, 20, 21, 22, 23, 24, 25, 26, 27, 28, 29, 30, 31, 32, 33, 34, 35] (by decide +kernel) (by decide +kernel)
set_option maxRecDepth 20000 in
theorem gX1_payForOther_X3_exists : GoodIn wsX1_payForOther (wsV RX1 74 RX3 yX3_exists wsX3_exists) := goodIn_app (goodIn_of _ (by decide +kernel)) ggX1_payForOther_X3_exists
set_option maxRecDepth 20000 in
theorem ggX1_payForOther_X3_pair : GoodIn wsX1_payForOther wsX3_pair := goodIn_r _ [18] (by decide +kernel) (by decide +kernel)
set_option maxRecDepth 20000 in
theorem gX1_payForOther_X3_pair : GoodIn wsX1_payForOther (va_wsS RX1 84 yX3_pair wsX3_pair) := goodIn_app (goodIn_of _ (by decide +kernel)) ggX1_payForOther_X3_pair
theorem dX1_payForOther_0 : decode cX1_payForOther 0 = .ok (.aload_n 1, 1) := by decide +kernel
theorem dX1_payForOther_1 : decode cX1_payForOther 1 = .ok (.getfield 71, 3) := by decide +kernel
theorem dX1_payForOther_4 : decode cX1_payForOther 4 = .ok (.iload_n 2, 1) := by decide +kernel
theorem dX1_payForOther_5 : decode cX1_payForOther 5 = .ok (.iaload, 1) := by decide +kernel
theorem dX1_payForOther_6 : decode cX1_payForOther 6 = .ok (.istore_n 3, 1) := by decide +kernel
theorem dX1_payForOther_7 : decode cX1_payForOther 7 = .ok (.aload_n 1, 1) := by decide +kernel
theorem dX1_payForOther_8 : decode cX1_payForOther 8 = .ok (.iload_n 3, 1) := by decide +kernel
theorem dX1_payForOther_9 : decode cX1_payForOther 9 = .ok (.invokevirtual 74, 3) := by decide +kernel
theorem dX1_payForOther_12 : decode cX1_payForOther 12 = .ok (.ifCond .eq 84, 3) := by decide +kernel
theorem dX1_payForOther_15 : decode cX1_payForOther 15 = .ok (.aload_n 0, 1) := by decide +kernel
theorem dX1_payForOther_16 : decode cX1_payForOther 16 = .ok (.getfield 9, 3) := by decide +kernel
theorem dX1_payForOther_19 : decode cX1_payForOther 19 = .ok (.iload_n 3, 1) := by decide +kernel
theorem dX1_payForOther_20 : decode cX1_payForOther 20 = .ok (.baload, 1) := by decide +kernel
theorem dX1_payForOther_21 : decode cX1_payForOther 21 = .ok (.ifCond .eq 75, 3) := by decide +kernel
theorem dX1_payForOther_24 : decode cX1_payForOther 24 = .ok (.aload_n 1, 1) := by decide +kernel
theorem dX1_payForOther_25 : decode cX1_payForOther 25 = .ok (.getfield 59, 3) := by decide +kernel
theorem dX1_payForOther_28 : decode cX1_payForOther 28 = .ok (.iload_n 3, 1) := by decide +kernel
theorem dX1_payForOther_29 : decode cX1_payForOther 29 = .ok (.iaload, 1) := by decide +kernel
theorem dX1_payForOther_30 : decode cX1_payForOther 30 = .ok (.aload_n 1, 1) := by decide +kernel
theorem dX1_payForOther_31 : decode cX1_payForOther 31 = .ok (.getfield 62, 3) := by decide +kernel
theorem dX1_payForOther_34 : decode cX1_payForOther 34 = .ok (.if_icmp .lt 62, 3) := by decide +kernel
theorem dX1_payForOther_37 : decode cX1_payForOther 37 = .ok (.aload_n 1, 1) := by decide +kernel
theorem dX1_payForOther_38 : decode cX1_payForOther 38 = .ok (.getfield 59, 3) := by decide +kernel
theorem dX1_payForOther_41 : decode cX1_payForOther 41 = .ok (.iload_n 3, 1) := by decide +kernel
theorem dX1_payForOther_42 : decode cX1_payForOther 42 = .ok (.dup2, 1) := by decide +kernel
theorem dX1_payForOther_43 : decode cX1_payForOther 43 = .ok (.iaload, 1) := by decide +kernel
theorem dX1_payForOther_44 : decode cX1_payForOther 44 = .ok (.aload_n 1, 1) := by decide +kernel
theorem dX1_payForOther_45 : decode cX1_payForOther 45 = .ok (.getfield 62, 3) := by decide +kernel
theorem dX1_payForOther_48 : decode cX1_payForOther 48 = .ok (.isub, 1) := by decide +kernel
theorem dX1_payForOther_49 : decode cX1_payForOther 49 = .ok (.iastore, 1) := by decide +kernel
theorem dX1_payForOther_50 : decode cX1_payForOther 50 = .ok (.aload_n 1, 1) := by decide +kernel
theorem dX1_payForOther_51 : decode cX1_payForOther 51 = .ok (.getfield 78, 3) := by decide +kernel
theorem dX1_payForOther_54 : decode cX1_payForOther 54 = .ok (.iload_n 3, 1) := by decide +kernel
theorem dX1_payForOther_55 : decode cX1_payForOther 55 = .ok (.dup2, 1) := by decide +kernel
theorem dX1_payForOther_56 : decode cX1_payForOther 56 = .ok (.iaload, 1) := by decide +kernel
theorem dX1_payForOther_57 : decode cX1_payForOther 57 = .ok (.aload_n 1, 1) := by decide +kernel
theorem dX1_payForOther_58 : decode cX1_payForOther 58 = .ok (.getfield 62, 3) := by decide +kernel
theorem dX1_payForOther_61 : decode cX1_payForOther 61 = .ok (.iadd, 1) := by decide +kernel
theorem dX1_payForOther_62 : decode cX1_payForOther 62 = .ok (.iastore, 1) := by decide +kernel
theorem dX1_payForOther_63 : decode cX1_payForOther 63 = .ok (.aload_n 1, 1) := by decide +kernel
theorem dX1_payForOther_64 : decode cX1_payForOther 64 = .ok (.getfield 81, 3) := by decide +kernel
theorem dX1_payForOther_67 : decode cX1_payForOther 67 = .ok (.iload_n 2, 1) := by decide +kernel
theorem dX1_payForOther_68 : decode cX1_payForOther 68 = .ok (.iload_n 3, 1) := by decide +kernel
theorem dX1_payForOther_69 : decode cX1_payForOther 69 = .ok (.invokestatic 84, 3) := by decide +kernel
theorem dX1_payForOther_72 : decode cX1_payForOther 72 = .ok (.dup2, 1) := by decide +kernel
theorem dX1_payForOther_73 : decode cX1_payForOther 73 = .ok (.iaload, 1) := by decide +kernel
theorem dX1_payForOther_74 : decode cX1_payForOther 74 = .ok (.aload_n 1, 1) := by decide +kernel
theorem dX1_payForOther_75 : decode cX1_payForOther 75 = .ok (.getfield 62, 3) := by decide +kernel
theorem dX1_payForOther_78 : decode cX1_payForOther 78 = .ok (.iadd, 1) := by decide +kernel
theorem dX1_payForOther_79 : decode cX1_payForOther 79 = .ok (.iastore, 1) := by decide +kernel
theorem dX1_payForOther_80 : decode cX1_payForOther 80 = .ok (.aload_n 0, 1) := by decide +kernel
theorem dX1_payForOther_81 : decode cX1_payForOther 81 = .ok (.dup, 1) := by decide +kernel
theorem dX1_payForOther_82 : decode cX1_payForOther 82 = .ok (.getfield 33, 3) := by decide +kernel
theorem dX1_payForOther_85 : decode cX1_payForOther 85 = .ok (.aload_n 1, 1) := by decide +kernel
theorem dX1_payForOther_86 : decode cX1_payForOther 86 = .ok (.getfield 62, 3) := by decide +kernel
theorem dX1_payForOther_89 : decode cX1_payForOther 89 = .ok (.iadd, 1) := by decide +kernel
theorem dX1_payForOther_90 : decode cX1_payForOther 90 = .ok (.putfield 33, 3) := by decide +kernel
theorem dX1_payForOther_93 : decode cX1_payForOther 93 = .ok (.goto 20, 3) := by decide +kernel
theorem dX1_payForOther_96 : decode cX1_payForOther 96 = .ok (.aload_n 0, 1) := by decide +kernel
theorem dX1_payForOther_97 : decode cX1_payForOther 97 = .ok (.getfield 15, 3) := by decide +kernel
theorem dX1_payForOther_100 : decode cX1_payForOther 100 = .ok (.iload_n 2, 1) := by decide +kernel
theorem dX1_payForOther_101 : decode cX1_payForOther 101 = .ok (.iconst 1, 1) := by decide +kernel
theorem dX1_payForOther_102 : decode cX1_payForOther 102 = .ok (.bastore, 1) := by decide +kernel
theorem dX1_payForOther_103 : decode cX1_payForOther 103 = .ok (.aload_n 1, 1) := by decide +kernel
theorem dX1_payForOther_104 : decode cX1_payForOther 104 = .ok (.getfield 88, 3) := by decide +kernel
theorem dX1_payForOther_107 : decode cX1_payForOther 107 = .ok (.iload_n 2, 1) := by decide +kernel
theorem dX1_payForOther_108 : decode cX1_payForOther 108 = .ok (.dup2, 1) := by decide +kernel
theorem dX1_payForOther_109 : decode cX1_payForOther 109 = .ok (.iaload, 1) := by decide +kernel
theorem dX1_payForOther_110 : decode cX1_payForOther 110 = .ok (.iconst 1, 1) := by decide +kernel
theorem dX1_payForOther_111 : decode cX1_payForOther 111 = .ok (.iadd, 1) := by decide +kernel
theorem dX1_payForOther_112 : decode cX1_payForOther 112 = .ok (.iastore, 1) := by decide +kernel
theorem dX1_payForOther_113 : decode cX1_payForOther 113 = .ok (.return_, 1) := by decide +kernel
theorem dX1_takesPart_0 : decode cX1_takesPart 0 = .ok (.aload_n 1, 1) := by decide +kernel
theorem dX1_takesPart_1 : decode cX1_takesPart 1 = .ok (.getfield 56, 3) := by decide +kernel
theorem dX1_takesPart_4 : decode cX1_takesPart 4 = .ok (.iload_n 2, 1) := by decide +kernel
theorem dX1_takesPart_5 : decode cX1_takesPart 5 = .ok (.baload, 1) := by decide +kernel
theorem dX1_takesPart_6 : decode cX1_takesPart 6 = .ok (.ifCond .eq 16, 3) := by decide +kernel
theorem dX1_takesPart_9 : decode cX1_takesPart 9 = .ok (.aload_n 0, 1) := by decide +kernel
theorem dX1_takesPart_10 : decode cX1_takesPart 10 = .ok (.getfield 15, 3) := by decide +kernel
theorem dX1_takesPart_13 : decode cX1_takesPart 13 = .ok (.iload_n 2, 1) := by decide +kernel
theorem dX1_takesPart_14 : decode cX1_takesPart 14 = .ok (.baload, 1) := by decide +kernel
theorem dX1_takesPart_15 : decode cX1_takesPart 15 = .ok (.ifCond .ne 7, 3) := by decide +kernel
theorem dX1_takesPart_18 : decode cX1_takesPart 18 = .ok (.iconst 1, 1) := by decide +kernel
theorem dX1_takesPart_19 : decode cX1_takesPart 19 = .ok (.goto 4, 3) := by decide +kernel
theorem dX1_takesPart_22 : decode cX1_takesPart 22 = .ok (.iconst 0, 1) := by decide +kernel
theorem dX1_takesPart_23 : decode cX1_takesPart 23 = .ok (.ireturn, 1) := by decide +kernel
set_option maxRecDepth 20000 in
theorem ggX1_canTake_X1_takesPart : GoodIn wsX1_canTake wsX1_takesPart := goodIn_r _ [6, 7, 8, 9, 10, 11, 12, 13, 14, 15, 16, 17, 18, 19, 20, 21, 22, 23, 24, 25, 26, 27, 28] (by decide +kernel) (by decide +kernel)
set_option maxRecDepth 20000 in
theorem gX1_canTake_X1_takesPart : GoodIn wsX1_canTake (wsV RX1 91 RX1 yX1_takesPart wsX1_takesPart) := goodIn_app (goodIn_of _ (by decide +kernel)) ggX1_canTake_X1_takesPart
theorem dX1_canTake_0 : decode cX1_canTake 0 = .ok (.aload_n 0, 1) := by decide +kernel
theorem dX1_canTake_1 : decode cX1_canTake 1 = .ok (.aload_n 1, 1) := by decide +kernel
theorem dX1_canTake_2 : decode cX1_canTake 2 = .ok (.iload_n 2, 1) := by decide +kernel
theorem dX1_canTake_3 : decode cX1_canTake 3 = .ok (.invokevirtual 91, 3) := by decide +kernel
theorem dX1_canTake_6 : decode cX1_canTake 6 = .ok (.ifCond .eq 16, 3) := by decide +kernel
theorem dX1_canTake_9 : decode cX1_canTake 9 = .ok (.aload_n 1, 1) := by decide +kernel
theorem dX1_canTake_10 : decode cX1_canTake 10 = .ok (.getfield 95, 3) := by decide +kernel
theorem dX1_canTake_13 : decode cX1_canTake 13 = .ok (.iload_n 2, 1) := by decide +kernel
theorem dX1_canTake_14 : decode cX1_canTake 14 = .ok (.baload, 1) := by decide +kernel
theorem dX1_canTake_15 : decode cX1_canTake 15 = .ok (.ifCond .ne 7, 3) := by decide +kernel
theorem dX1_canTake_18 : decode cX1_canTake 18 = .ok (.iconst 1, 1) := by decide +kernel
theorem dX1_canTake_19 : decode cX1_canTake 19 = .ok (.goto 4, 3) := by decide +kernel
theorem dX1_canTake_22 : decode cX1_canTake 22 = .ok (.iconst 0, 1) := by decide +kernel
theorem dX1_canTake_23 : decode cX1_canTake 23 = .ok (.ireturn, 1) := by decide +kernel
theorem dX1_countedBid_0 : decode cX1_countedBid 0 = .ok (.aload_n 1, 1) := by decide +kernel
theorem dX1_countedBid_1 : decode cX1_countedBid 1 = .ok (.getfield 46, 3) := by decide +kernel
theorem dX1_countedBid_4 : decode cX1_countedBid 4 = .ok (.iload_n 2, 1) := by decide +kernel
theorem dX1_countedBid_5 : decode cX1_countedBid 5 = .ok (.iaload, 1) := by decide +kernel
theorem dX1_countedBid_6 : decode cX1_countedBid 6 = .ok (.aload_n 0, 1) := by decide +kernel
theorem dX1_countedBid_7 : decode cX1_countedBid 7 = .ok (.getfield 33, 3) := by decide +kernel
theorem dX1_countedBid_10 : decode cX1_countedBid 10 = .ok (.iconst 2, 1) := by decide +kernel
theorem dX1_countedBid_11 : decode cX1_countedBid 11 = .ok (.idiv, 1) := by decide +kernel
theorem dX1_countedBid_12 : decode cX1_countedBid 12 = .ok (.invokestatic 98, 3) := by decide +kernel
theorem dX1_countedBid_15 : decode cX1_countedBid 15 = .ok (.ireturn, 1) := by decide +kernel
set_option maxRecDepth 20000 in
theorem ggX1_taker_X1_canTake : GoodIn wsX1_taker wsX1_canTake := goodIn_r _ [8, 9, 10, 11, 12, 7, 13, 14, 15, 26, 27, 28, 29, 30, 31, 32, 33, 34, 35, 36, 37, 38, 39, 40, 41, 42, 43, 44, 45] (by decide +kernel) (by decide +kernel)
set_option maxRecDepth 20000 in
theorem gX1_taker_X1_canTake : GoodIn wsX1_taker (wsV RX1 103 RX1 yX1_canTake wsX1_canTake) := goodIn_app (goodIn_of _ (by decide +kernel)) ggX1_taker_X1_canTake
set_option maxRecDepth 20000 in
theorem ggX1_taker_X1_countedBid : GoodIn wsX1_taker wsX1_countedBid := goodIn_r _ [19, 20, 21, 22, 23, 24, 25, 26, 27, 28, 29, 30, 31, 32, 33, 34, 35, 36, 37, 38, 39, 40, 41, 42, 43, 44, 45] (by decide +kernel) (by decide +kernel)
set_option maxRecDepth 20000 in
theorem gX1_taker_X1_countedBid : GoodIn wsX1_taker (wsV RX1 106 RX1 yX1_countedBid wsX1_countedBid) := goodIn_app (goodIn_of _ (by decide +kernel)) ggX1_taker_X1_countedBid
theorem dX1_taker_0 : decode cX1_taker 0 = .ok (.ldc 26, 2) := by decide +kernel
theorem dX1_taker_2 : decode cX1_taker 2 = .ok (.istore_n 2, 1) := by decide +kernel
theorem dX1_taker_3 : decode cX1_taker 3 = .ok (.aload_n 1, 1) := by decide +kernel
theorem dX1_taker_4 : decode cX1_taker 4 = .ok (.getfield 43, 3) := by decide +kernel
theorem dX1_taker_7 : decode cX1_taker 7 = .ok (.ifCond .le 15, 3) := by decide +kernel
theorem dX1_taker_10 : decode cX1_taker 10 = .ok (.aload_n 1, 1) := by decide +kernel
theorem dX1_taker_11 : decode cX1_taker 11 = .ok (.getfield 53, 3) := by decide +kernel
theorem dX1_taker_14 : decode cX1_taker 14 = .ok (.aload_n 1, 1) := by decide +kernel
theorem dX1_taker_15 : decode cX1_taker 15 = .ok (.getfield 43, 3) := by decide +kernel
theorem dX1_taker_18 : decode cX1_taker 18 = .ok (.irem, 1) := by decide +kernel
theorem dX1_taker_19 : decode cX1_taker 19 = .ok (.goto 4, 3) := by decide +kernel
theorem dX1_taker_22 : decode cX1_taker 22 = .ok (.iconst 0, 1) := by decide +kernel
theorem dX1_taker_23 : decode cX1_taker 23 = .ok (.istore_n 3, 1) := by decide +kernel
theorem dX1_taker_24 : decode cX1_taker 24 = .ok (.iconst 0, 1) := by decide +kernel
theorem dX1_taker_25 : decode cX1_taker 25 = .ok (.istore 4, 2) := by decide +kernel
theorem dX1_taker_27 : decode cX1_taker 27 = .ok (.iload 4, 2) := by decide +kernel
theorem dX1_taker_29 : decode cX1_taker 29 = .ok (.aload_n 1, 1) := by decide +kernel
theorem dX1_taker_30 : decode cX1_taker 30 = .ok (.getfield 43, 3) := by decide +kernel
theorem dX1_taker_33 : decode cX1_taker 33 = .ok (.if_icmp .ge 73, 3) := by decide +kernel
theorem dX1_taker_36 : decode cX1_taker 36 = .ok (.iload_n 3, 1) := by decide +kernel
theorem dX1_taker_37 : decode cX1_taker 37 = .ok (.iload 4, 2) := by decide +kernel
theorem dX1_taker_39 : decode cX1_taker 39 = .ok (.iadd, 1) := by decide +kernel
theorem dX1_taker_40 : decode cX1_taker 40 = .ok (.aload_n 1, 1) := by decide +kernel
theorem dX1_taker_41 : decode cX1_taker 41 = .ok (.getfield 43, 3) := by decide +kernel
theorem dX1_taker_44 : decode cX1_taker 44 = .ok (.if_icmp .ge 10, 3) := by decide +kernel
theorem dX1_taker_47 : decode cX1_taker 47 = .ok (.iload_n 3, 1) := by decide +kernel
theorem dX1_taker_48 : decode cX1_taker 48 = .ok (.iload 4, 2) := by decide +kernel
theorem dX1_taker_50 : decode cX1_taker 50 = .ok (.iadd, 1) := by decide +kernel
theorem dX1_taker_51 : decode cX1_taker 51 = .ok (.goto 12, 3) := by decide +kernel
theorem dX1_taker_54 : decode cX1_taker 54 = .ok (.iload_n 3, 1) := by decide +kernel
theorem dX1_taker_55 : decode cX1_taker 55 = .ok (.iload 4, 2) := by decide +kernel
theorem dX1_taker_57 : decode cX1_taker 57 = .ok (.iadd, 1) := by decide +kernel
theorem dX1_taker_58 : decode cX1_taker 58 = .ok (.aload_n 1, 1) := by decide +kernel
theorem dX1_taker_59 : decode cX1_taker 59 = .ok (.getfield 43, 3) := by decide +kernel
theorem dX1_taker_62 : decode cX1_taker 62 = .ok (.isub, 1) := by decide +kernel
theorem dX1_taker_63 : decode cX1_taker 63 = .ok (.istore 5, 2) := by decide +kernel
theorem dX1_taker_65 : decode cX1_taker 65 = .ok (.aload_n 0, 1) := by decide +kernel
theorem dX1_taker_66 : decode cX1_taker 66 = .ok (.aload_n 1, 1) := by decide +kernel
theorem dX1_taker_67 : decode cX1_taker 67 = .ok (.iload 5, 2) := by decide +kernel
theorem dX1_taker_69 : decode cX1_taker 69 = .ok (.invokevirtual 103, 3) := by decide +kernel
theorem dX1_taker_72 : decode cX1_taker 72 = .ok (.ifCond .eq 28, 3) := by decide +kernel
theorem dX1_taker_75 : decode cX1_taker 75 = .ok (.iload_n 2, 1) := by decide +kernel
theorem dX1_taker_76 : decode cX1_taker 76 = .ok (.ldc 26, 2) := by decide +kernel
theorem dX1_taker_78 : decode cX1_taker 78 = .ok (.if_icmp .eq 19, 3) := by decide +kernel
theorem dX1_taker_81 : decode cX1_taker 81 = .ok (.aload_n 0, 1) := by decide +kernel
theorem dX1_taker_82 : decode cX1_taker 82 = .ok (.aload_n 1, 1) := by decide +kernel
theorem dX1_taker_83 : decode cX1_taker 83 = .ok (.iload 5, 2) := by decide +kernel
theorem dX1_taker_85 : decode cX1_taker 85 = .ok (.invokevirtual 106, 3) := by decide +kernel
theorem dX1_taker_88 : decode cX1_taker 88 = .ok (.aload_n 0, 1) := by decide +kernel
theorem dX1_taker_89 : decode cX1_taker 89 = .ok (.aload_n 1, 1) := by decide +kernel
theorem dX1_taker_90 : decode cX1_taker 90 = .ok (.iload_n 2, 1) := by decide +kernel
theorem dX1_taker_91 : decode cX1_taker 91 = .ok (.invokevirtual 106, 3) := by decide +kernel
theorem dX1_taker_94 : decode cX1_taker 94 = .ok (.if_icmp .le 6, 3) := by decide +kernel
theorem dX1_taker_97 : decode cX1_taker 97 = .ok (.iload 5, 2) := by decide +kernel
theorem dX1_taker_99 : decode cX1_taker 99 = .ok (.istore_n 2, 1) := by decide +kernel
theorem dX1_taker_100 : decode cX1_taker 100 = .ok (.iinc 4 1, 3) := by decide +kernel
theorem dX1_taker_103 : decode cX1_taker 103 = .ok (.goto (-76), 3) := by decide +kernel
theorem dX1_taker_106 : decode cX1_taker 106 = .ok (.iload_n 2, 1) := by decide +kernel
theorem dX1_taker_107 : decode cX1_taker 107 = .ok (.ireturn, 1) := by decide +kernel
set_option maxRecDepth 20000 in
theorem ggX1_greatestBidBeside_X1_canTake : GoodIn wsX1_greatestBidBeside wsX1_canTake := goodIn_r _ [10, 11, 12, 13, 14, 9, 15, 16, 17, 27, 28, 29, 30, 31, 32, 33, 34, 35, 36, 37, 38, 39, 40, 41, 42, 43, 44, 45, 46] (by decide +kernel) (by decide +kernel)
set_option maxRecDepth 20000 in
theorem gX1_greatestBidBeside_X1_canTake : GoodIn wsX1_greatestBidBeside (wsV RX1 103 RX1 yX1_canTake wsX1_canTake) := goodIn_app (goodIn_of _ (by decide +kernel)) ggX1_greatestBidBeside_X1_canTake
set_option maxRecDepth 20000 in
theorem ggX1_greatestBidBeside_X1_countedBid : GoodIn wsX1_greatestBidBeside wsX1_countedBid := goodIn_r _ [21, 22, 23, 24, 25, 4, 26, 27, 28, 29, 30, 31, 32, 33, 34, 35, 36, 37, 38, 39, 40, 41, 42, 43, 44, 45, 46] (by decide +kernel) (by decide +kernel)
set_option maxRecDepth 20000 in
theorem gX1_greatestBidBeside_X1_countedBid : GoodIn wsX1_greatestBidBeside (wsV RX1 106 RX1 yX1_countedBid wsX1_countedBid) := goodIn_app (goodIn_of _ (by decide +kernel)) ggX1_greatestBidBeside_X1_countedBid
theorem dX1_greatestBidBeside_0 : decode cX1_greatestBidBeside 0 = .ok (.iconst 0, 1) := by decide +kernel
theorem dX1_greatestBidBeside_1 : decode cX1_greatestBidBeside 1 = .ok (.istore_n 3, 1) := by decide +kernel
theorem dX1_greatestBidBeside_2 : decode cX1_greatestBidBeside 2 = .ok (.iconst 0, 1) := by decide +kernel
theorem dX1_greatestBidBeside_3 : decode cX1_greatestBidBeside 3 = .ok (.istore 4, 2) := by decide +kernel
theorem dX1_greatestBidBeside_5 : decode cX1_greatestBidBeside 5 = .ok (.iload 4, 2) := by decide +kernel
theorem dX1_greatestBidBeside_7 : decode cX1_greatestBidBeside 7 = .ok (.aload_n 1, 1) := by decide +kernel
theorem dX1_greatestBidBeside_8 : decode cX1_greatestBidBeside 8 = .ok (.getfield 43, 3) := by decide +kernel
theorem dX1_greatestBidBeside_11 : decode cX1_greatestBidBeside 11 = .ok (.if_icmp .ge 37, 3) := by decide +kernel
theorem dX1_greatestBidBeside_14 : decode cX1_greatestBidBeside 14 = .ok (.iload 4, 2) := by decide +kernel
theorem dX1_greatestBidBeside_16 : decode cX1_greatestBidBeside 16 = .ok (.iload_n 2, 1) := by decide +kernel
theorem dX1_greatestBidBeside_17 : decode cX1_greatestBidBeside 17 = .ok (.if_icmp .eq 25, 3) := by decide +kernel
theorem dX1_greatestBidBeside_20 : decode cX1_greatestBidBeside 20 = .ok (.aload_n 0, 1) := by decide +kernel
theorem dX1_greatestBidBeside_21 : decode cX1_greatestBidBeside 21 = .ok (.aload_n 1, 1) := by decide +kernel
theorem dX1_greatestBidBeside_22 : decode cX1_greatestBidBeside 22 = .ok (.iload 4, 2) := by decide +kernel
theorem dX1_greatestBidBeside_24 : decode cX1_greatestBidBeside 24 = .ok (.invokevirtual 103, 3) := by decide +kernel
theorem dX1_greatestBidBeside_27 : decode cX1_greatestBidBeside 27 = .ok (.ifCond .eq 15, 3) := by decide +kernel
theorem dX1_greatestBidBeside_30 : decode cX1_greatestBidBeside 30 = .ok (.iload_n 3, 1) := by decide +kernel
theorem dX1_greatestBidBeside_31 : decode cX1_greatestBidBeside 31 = .ok (.aload_n 0, 1) := by decide +kernel
theorem dX1_greatestBidBeside_32 : decode cX1_greatestBidBeside 32 = .ok (.aload_n 1, 1) := by decide +kernel
theorem dX1_greatestBidBeside_33 : decode cX1_greatestBidBeside 33 = .ok (.iload 4, 2) := by decide +kernel
theorem dX1_greatestBidBeside_35 : decode cX1_greatestBidBeside 35 = .ok (.invokevirtual 106, 3) := by decide +kernel
theorem dX1_greatestBidBeside_38 : decode cX1_greatestBidBeside 38 = .ok (.invokestatic 110, 3) := by decide +kernel
theorem dX1_greatestBidBeside_41 : decode cX1_greatestBidBeside 41 = .ok (.istore_n 3, 1) := by decide +kernel
theorem dX1_greatestBidBeside_42 : decode cX1_greatestBidBeside 42 = .ok (.iinc 4 1, 3) := by decide +kernel
theorem dX1_greatestBidBeside_45 : decode cX1_greatestBidBeside 45 = .ok (.goto (-40), 3) := by decide +kernel
theorem dX1_greatestBidBeside_48 : decode cX1_greatestBidBeside 48 = .ok (.iload_n 3, 1) := by decide +kernel
theorem dX1_greatestBidBeside_49 : decode cX1_greatestBidBeside 49 = .ok (.ireturn, 1) := by decide +kernel
set_option maxRecDepth 20000 in
theorem ggX1_share_X1_takesPart : GoodIn wsX1_share wsX1_takesPart := goodIn_r _ [9, 10, 11, 22, 23, 24, 25, 26, 27, 28, 29, 30, 31, 32, 33, 34, 35, 36, 37, 38, 39, 40, 41] (by decide +kernel) (by decide +kernel)
set_option maxRecDepth 20000 in
theorem gX1_share_X1_takesPart : GoodIn wsX1_share (wsV RX1 91 RX1 yX1_takesPart wsX1_takesPart) := goodIn_app (goodIn_of _ (by decide +kernel)) ggX1_share_X1_takesPart
set_option maxRecDepth 20000 in
theorem ggX1_share_X1_countedBid : GoodIn wsX1_share wsX1_countedBid := goodIn_r _ [15, 16, 17, 18, 19, 20, 21, 22, 23, 24, 25, 26, 27, 28, 29, 30, 31, 32, 33, 34, 35, 36, 37, 38, 39, 40, 41] (by decide +kernel) (by decide +kernel)
set_option maxRecDepth 20000 in
theorem gX1_share_X1_countedBid : GoodIn wsX1_share (wsV RX1 106 RX1 yX1_countedBid wsX1_countedBid) := goodIn_app (goodIn_of _ (by decide +kernel)) ggX1_share_X1_countedBid
theorem dX1_share_0 : decode cX1_share 0 = .ok (.iconst 0, 1) := by decide +kernel
theorem dX1_share_1 : decode cX1_share 1 = .ok (.istore_n 3, 1) := by decide +kernel
theorem dX1_share_2 : decode cX1_share 2 = .ok (.iconst 0, 1) := by decide +kernel
theorem dX1_share_3 : decode cX1_share 3 = .ok (.istore 4, 2) := by decide +kernel
theorem dX1_share_5 : decode cX1_share 5 = .ok (.iload 4, 2) := by decide +kernel
theorem dX1_share_7 : decode cX1_share 7 = .ok (.aload_n 1, 1) := by decide +kernel
theorem dX1_share_8 : decode cX1_share 8 = .ok (.getfield 43, 3) := by decide +kernel
theorem dX1_share_11 : decode cX1_share 11 = .ok (.if_icmp .ge 28, 3) := by decide +kernel
theorem dX1_share_14 : decode cX1_share 14 = .ok (.iload 4, 2) := by decide +kernel
theorem dX1_share_16 : decode cX1_share 16 = .ok (.iload_n 2, 1) := by decide +kernel
theorem dX1_share_17 : decode cX1_share 17 = .ok (.if_icmp .eq 16, 3) := by decide +kernel
theorem dX1_share_20 : decode cX1_share 20 = .ok (.aload_n 0, 1) := by decide +kernel
theorem dX1_share_21 : decode cX1_share 21 = .ok (.aload_n 1, 1) := by decide +kernel
theorem dX1_share_22 : decode cX1_share 22 = .ok (.iload 4, 2) := by decide +kernel
theorem dX1_share_24 : decode cX1_share 24 = .ok (.invokevirtual 91, 3) := by decide +kernel
theorem dX1_share_27 : decode cX1_share 27 = .ok (.ifCond .eq 6, 3) := by decide +kernel
theorem dX1_share_30 : decode cX1_share 30 = .ok (.iinc 3 1, 3) := by decide +kernel
theorem dX1_share_33 : decode cX1_share 33 = .ok (.iinc 4 1, 3) := by decide +kernel
theorem dX1_share_36 : decode cX1_share 36 = .ok (.goto (-31), 3) := by decide +kernel
theorem dX1_share_39 : decode cX1_share 39 = .ok (.aload_n 0, 1) := by decide +kernel
theorem dX1_share_40 : decode cX1_share 40 = .ok (.aload_n 1, 1) := by decide +kernel
theorem dX1_share_41 : decode cX1_share 41 = .ok (.iload_n 2, 1) := by decide +kernel
theorem dX1_share_42 : decode cX1_share 42 = .ok (.invokevirtual 106, 3) := by decide +kernel
theorem dX1_share_45 : decode cX1_share 45 = .ok (.istore 4, 2) := by decide +kernel
theorem dX1_share_47 : decode cX1_share 47 = .ok (.iload_n 3, 1) := by decide +kernel
theorem dX1_share_48 : decode cX1_share 48 = .ok (.ifCond .le 10, 3) := by decide +kernel
theorem dX1_share_51 : decode cX1_share 51 = .ok (.iload 4, 2) := by decide +kernel
theorem dX1_share_53 : decode cX1_share 53 = .ok (.iload_n 3, 1) := by decide +kernel
theorem dX1_share_54 : decode cX1_share 54 = .ok (.idiv, 1) := by decide +kernel
theorem dX1_share_55 : decode cX1_share 55 = .ok (.goto 4, 3) := by decide +kernel
theorem dX1_share_58 : decode cX1_share 58 = .ok (.iconst 0, 1) := by decide +kernel
theorem dX1_share_59 : decode cX1_share 59 = .ok (.istore 5, 2) := by decide +kernel
theorem dX1_share_61 : decode cX1_share 61 = .ok (.iconst 0, 1) := by decide +kernel
theorem dX1_share_62 : decode cX1_share 62 = .ok (.istore 6, 2) := by decide +kernel
theorem dX1_share_64 : decode cX1_share 64 = .ok (.iload 6, 2) := by decide +kernel
theorem dX1_share_66 : decode cX1_share 66 = .ok (.aload_n 1, 1) := by decide +kernel
theorem dX1_share_67 : decode cX1_share 67 = .ok (.getfield 43, 3) := by decide +kernel
theorem dX1_share_70 : decode cX1_share 70 = .ok (.if_icmp .ge 49, 3) := by decide +kernel
theorem dX1_share_73 : decode cX1_share 73 = .ok (.iload 6, 2) := by decide +kernel
theorem dX1_share_75 : decode cX1_share 75 = .ok (.iload_n 2, 1) := by decide +kernel
theorem dX1_share_76 : decode cX1_share 76 = .ok (.if_icmp .eq 37, 3) := by decide +kernel
theorem dX1_share_79 : decode cX1_share 79 = .ok (.aload_n 0, 1) := by decide +kernel
theorem dX1_share_80 : decode cX1_share 80 = .ok (.aload_n 1, 1) := by decide +kernel
theorem dX1_share_81 : decode cX1_share 81 = .ok (.iload 6, 2) := by decide +kernel
theorem dX1_share_83 : decode cX1_share 83 = .ok (.invokevirtual 91, 3) := by decide +kernel
theorem dX1_share_86 : decode cX1_share 86 = .ok (.ifCond .eq 27, 3) := by decide +kernel
theorem dX1_share_89 : decode cX1_share 89 = .ok (.aload_n 1, 1) := by decide +kernel
theorem dX1_share_90 : decode cX1_share 90 = .ok (.getfield 59, 3) := by decide +kernel
theorem dX1_share_93 : decode cX1_share 93 = .ok (.iload 6, 2) := by decide +kernel
theorem dX1_share_95 : decode cX1_share 95 = .ok (.dup2, 1) := by decide +kernel
theorem dX1_share_96 : decode cX1_share 96 = .ok (.iaload, 1) := by decide +kernel
theorem dX1_share_97 : decode cX1_share 97 = .ok (.iload 5, 2) := by decide +kernel
theorem dX1_share_99 : decode cX1_share 99 = .ok (.iadd, 1) := by decide +kernel
theorem dX1_share_100 : decode cX1_share 100 = .ok (.iastore, 1) := by decide +kernel
theorem dX1_share_101 : decode cX1_share 101 = .ok (.aload_n 1, 1) := by decide +kernel
theorem dX1_share_102 : decode cX1_share 102 = .ok (.getfield 113, 3) := by decide +kernel
theorem dX1_share_105 : decode cX1_share 105 = .ok (.iload 6, 2) := by decide +kernel
theorem dX1_share_107 : decode cX1_share 107 = .ok (.dup2, 1) := by decide +kernel
theorem dX1_share_108 : decode cX1_share 108 = .ok (.iaload, 1) := by decide +kernel
theorem dX1_share_109 : decode cX1_share 109 = .ok (.iload 5, 2) := by decide +kernel
theorem dX1_share_111 : decode cX1_share 111 = .ok (.iadd, 1) := by decide +kernel
theorem dX1_share_112 : decode cX1_share 112 = .ok (.iastore, 1) := by decide +kernel
theorem dX1_share_113 : decode cX1_share 113 = .ok (.iinc 6 1, 3) := by decide +kernel
theorem dX1_share_116 : decode cX1_share 116 = .ok (.goto (-52), 3) := by decide +kernel
theorem dX1_share_119 : decode cX1_share 119 = .ok (.aload_n 1, 1) := by decide +kernel
theorem dX1_share_120 : decode cX1_share 120 = .ok (.dup, 1) := by decide +kernel
theorem dX1_share_121 : decode cX1_share 121 = .ok (.getfield 27, 3) := by decide +kernel
theorem dX1_share_124 : decode cX1_share 124 = .ok (.iload 4, 2) := by decide +kernel
theorem dX1_share_126 : decode cX1_share 126 = .ok (.iload 5, 2) := by decide +kernel
theorem dX1_share_128 : decode cX1_share 128 = .ok (.iload_n 3, 1) := by decide +kernel
theorem dX1_share_129 : decode cX1_share 129 = .ok (.imul, 1) := by decide +kernel
theorem dX1_share_130 : decode cX1_share 130 = .ok (.isub, 1) := by decide +kernel
theorem dX1_share_131 : decode cX1_share 131 = .ok (.iadd, 1) := by decide +kernel
theorem dX1_share_132 : decode cX1_share 132 = .ok (.putfield 27, 3) := by decide +kernel
theorem dX1_share_135 : decode cX1_share 135 = .ok (.return_, 1) := by decide +kernel
set_option maxRecDepth 20000 in
theorem ggX1_payOut_X1_countedBid : GoodIn wsX1_payOut wsX1_countedBid := goodIn_r _ [10, 11, 1, 12, 13, 14, 15, 30, 31, 32, 33, 34, 35, 36, 37, 38, 39, 40, 41, 42, 43, 44, 45, 46, 27, 28, 29] (by decide +kernel) (by decide +kernel)
set_option maxRecDepth 20000 in
theorem gX1_payOut_X1_countedBid : GoodIn wsX1_payOut (wsV RX1 106 RX1 yX1_countedBid wsX1_countedBid) := goodIn_app (goodIn_of _ (by decide +kernel)) ggX1_payOut_X1_countedBid
set_option maxRecDepth 20000 in
theorem ggX1_payOut_X3_settle : GoodIn wsX1_payOut wsX3_settle := goodIn_r _ [20, 21, 22, 13, 14, 15, 23, 24, 25, 19, 26, 30, 31, 32, 33, 34, 35, 36, 37, 38, 39, 40, 41, 42, 43, 44, 45, 46] (by decide +kernel) (by decide +kernel)
set_option maxRecDepth 20000 in
theorem gX1_payOut_X3_settle : GoodIn wsX1_payOut (wsV RX1 119 RX3 yX3_settle wsX3_settle) := goodIn_app (goodIn_of _ (by decide +kernel)) ggX1_payOut_X3_settle
theorem dX1_payOut_0 : decode cX1_payOut 0 = .ok (.aload_n 0, 1) := by decide +kernel
theorem dX1_payOut_1 : decode cX1_payOut 1 = .ok (.getfield 33, 3) := by decide +kernel
theorem dX1_payOut_4 : decode cX1_payOut 4 = .ok (.aload_n 0, 1) := by decide +kernel
theorem dX1_payOut_5 : decode cX1_payOut 5 = .ok (.aload_n 1, 1) := by decide +kernel
theorem dX1_payOut_6 : decode cX1_payOut 6 = .ok (.iload_n 2, 1) := by decide +kernel
theorem dX1_payOut_7 : decode cX1_payOut 7 = .ok (.invokevirtual 106, 3) := by decide +kernel
theorem dX1_payOut_10 : decode cX1_payOut 10 = .ok (.isub, 1) := by decide +kernel
theorem dX1_payOut_11 : decode cX1_payOut 11 = .ok (.istore_n 3, 1) := by decide +kernel
theorem dX1_payOut_12 : decode cX1_payOut 12 = .ok (.aload_n 1, 1) := by decide +kernel
theorem dX1_payOut_13 : decode cX1_payOut 13 = .ok (.getfield 116, 3) := by decide +kernel
theorem dX1_payOut_16 : decode cX1_payOut 16 = .ok (.iload_n 2, 1) := by decide +kernel
theorem dX1_payOut_17 : decode cX1_payOut 17 = .ok (.iload_n 3, 1) := by decide +kernel
theorem dX1_payOut_18 : decode cX1_payOut 18 = .ok (.iastore, 1) := by decide +kernel
theorem dX1_payOut_19 : decode cX1_payOut 19 = .ok (.aload_n 1, 1) := by decide +kernel
theorem dX1_payOut_20 : decode cX1_payOut 20 = .ok (.getfield 95, 3) := by decide +kernel
theorem dX1_payOut_23 : decode cX1_payOut 23 = .ok (.iload_n 2, 1) := by decide +kernel
theorem dX1_payOut_24 : decode cX1_payOut 24 = .ok (.iconst 1, 1) := by decide +kernel
theorem dX1_payOut_25 : decode cX1_payOut 25 = .ok (.bastore, 1) := by decide +kernel
theorem dX1_payOut_26 : decode cX1_payOut 26 = .ok (.iconst 0, 1) := by decide +kernel
theorem dX1_payOut_27 : decode cX1_payOut 27 = .ok (.istore 4, 2) := by decide +kernel
theorem dX1_payOut_29 : decode cX1_payOut 29 = .ok (.iload 4, 2) := by decide +kernel
theorem dX1_payOut_31 : decode cX1_payOut 31 = .ok (.aload_n 1, 1) := by decide +kernel
theorem dX1_payOut_32 : decode cX1_payOut 32 = .ok (.getfield 43, 3) := by decide +kernel
theorem dX1_payOut_35 : decode cX1_payOut 35 = .ok (.if_icmp .ge 20, 3) := by decide +kernel
theorem dX1_payOut_38 : decode cX1_payOut 38 = .ok (.iload_n 3, 1) := by decide +kernel
theorem dX1_payOut_39 : decode cX1_payOut 39 = .ok (.aload_n 1, 1) := by decide +kernel
theorem dX1_payOut_40 : decode cX1_payOut 40 = .ok (.iload_n 2, 1) := by decide +kernel
theorem dX1_payOut_41 : decode cX1_payOut 41 = .ok (.iload 4, 2) := by decide +kernel
theorem dX1_payOut_43 : decode cX1_payOut 43 = .ok (.iload_n 3, 1) := by decide +kernel
theorem dX1_payOut_44 : decode cX1_payOut 44 = .ok (.invokevirtual 119, 3) := by decide +kernel
theorem dX1_payOut_47 : decode cX1_payOut 47 = .ok (.isub, 1) := by decide +kernel
theorem dX1_payOut_48 : decode cX1_payOut 48 = .ok (.istore_n 3, 1) := by decide +kernel
theorem dX1_payOut_49 : decode cX1_payOut 49 = .ok (.iinc 4 1, 3) := by decide +kernel
theorem dX1_payOut_52 : decode cX1_payOut 52 = .ok (.goto (-23), 3) := by decide +kernel
theorem dX1_payOut_55 : decode cX1_payOut 55 = .ok (.aload_n 1, 1) := by decide +kernel
theorem dX1_payOut_56 : decode cX1_payOut 56 = .ok (.getfield 59, 3) := by decide +kernel
theorem dX1_payOut_59 : decode cX1_payOut 59 = .ok (.iload_n 2, 1) := by decide +kernel
theorem dX1_payOut_60 : decode cX1_payOut 60 = .ok (.dup2, 1) := by decide +kernel
theorem dX1_payOut_61 : decode cX1_payOut 61 = .ok (.iaload, 1) := by decide +kernel
theorem dX1_payOut_62 : decode cX1_payOut 62 = .ok (.iload_n 3, 1) := by decide +kernel
theorem dX1_payOut_63 : decode cX1_payOut 63 = .ok (.iadd, 1) := by decide +kernel
theorem dX1_payOut_64 : decode cX1_payOut 64 = .ok (.iastore, 1) := by decide +kernel
theorem dX1_payOut_65 : decode cX1_payOut 65 = .ok (.return_, 1) := by decide +kernel
set_option maxRecDepth 20000 in
theorem ggX2_init_X3_init : GoodIn wsX2_init wsX3_init := goodIn_r _ [13, 14, 2, 3, 15, 16, 17, 18, 19, 20, 21, 22, 23, 24, 25, 26, 27, 28, 29, 35, 36, 37, 38, 39, 40, 41, 42, 43, 44, 45, 46, 47, 48, 49, 50, 51] (by decide +kernel) (by decide +kernel)
set_option maxRecDepth 20000 in
theorem gX2_init_X3_init_n9 : GoodIn wsX2_init (wsX3_init) := ggX2_init_X3_init
set_option maxRecDepth 20000 in
theorem ggX2_init_X1_init : GoodIn wsX2_init wsX1_init := goodIn_r _ [31, 32, 2, 3, 20, 33, 34, 54, 55, 56] (by decide +kernel) (by decide +kernel)
set_option maxRecDepth 20000 in
theorem gX2_init_X1_init_n18 : GoodIn wsX2_init (wsX1_init) := ggX2_init_X1_init
theorem dX2_init_0 : decode cX2_init 0 = .ok (.aload_n 0, 1) := by decide +kernel
theorem dX2_init_1 : decode cX2_init 1 = .ok (.invokespecial 1, 3) := by decide +kernel
theorem dX2_init_4 : decode cX2_init 4 = .ok (.aload_n 0, 1) := by decide +kernel
theorem dX2_init_5 : decode cX2_init 5 = .ok (.new 7, 3) := by decide +kernel
theorem dX2_init_8 : decode cX2_init 8 = .ok (.dup, 1) := by decide +kernel
theorem dX2_init_9 : decode cX2_init 9 = .ok (.invokespecial 9, 3) := by decide +kernel
theorem dX2_init_12 : decode cX2_init 12 = .ok (.putfield 10, 3) := by decide +kernel
theorem dX2_init_15 : decode cX2_init 15 = .ok (.aload_n 0, 1) := by decide +kernel
theorem dX2_init_16 : decode cX2_init 16 = .ok (.new 16, 3) := by decide +kernel
theorem dX2_init_19 : decode cX2_init 19 = .ok (.dup, 1) := by decide +kernel
theorem dX2_init_20 : decode cX2_init 20 = .ok (.invokespecial 18, 3) := by decide +kernel
theorem dX2_init_23 : decode cX2_init 23 = .ok (.putfield 19, 3) := by decide +kernel
theorem dX2_init_26 : decode cX2_init 26 = .ok (.return_, 1) := by decide +kernel
theorem dX3_init_0 : decode cX3_init 0 = .ok (.aload_n 0, 1) := by decide +kernel
theorem dX3_init_1 : decode cX3_init 1 = .ok (.invokespecial 3, 3) := by decide +kernel
theorem dX3_init_4 : decode cX3_init 4 = .ok (.aload_n 0, 1) := by decide +kernel
theorem dX3_init_5 : decode cX3_init 5 = .ok (.bipush 10, 2) := by decide +kernel
theorem dX3_init_7 : decode cX3_init 7 = .ok (.putfield 9, 3) := by decide +kernel
theorem dX3_init_10 : decode cX3_init 10 = .ok (.aload_n 0, 1) := by decide +kernel
theorem dX3_init_11 : decode cX3_init 11 = .ok (.bipush 8, 2) := by decide +kernel
theorem dX3_init_13 : decode cX3_init 13 = .ok (.newarray .int, 2) := by decide +kernel
theorem dX3_init_15 : decode cX3_init 15 = .ok (.putfield 15, 3) := by decide +kernel
theorem dX3_init_18 : decode cX3_init 18 = .ok (.aload_n 0, 1) := by decide +kernel
theorem dX3_init_19 : decode cX3_init 19 = .ok (.bipush 8, 2) := by decide +kernel
theorem dX3_init_21 : decode cX3_init 21 = .ok (.newarray .int, 2) := by decide +kernel
theorem dX3_init_23 : decode cX3_init 23 = .ok (.putfield 19, 3) := by decide +kernel
theorem dX3_init_26 : decode cX3_init 26 = .ok (.aload_n 0, 1) := by decide +kernel
theorem dX3_init_27 : decode cX3_init 27 = .ok (.bipush 8, 2) := by decide +kernel
theorem dX3_init_29 : decode cX3_init 29 = .ok (.newarray .int, 2) := by decide +kernel
theorem dX3_init_31 : decode cX3_init 31 = .ok (.putfield 22, 3) := by decide +kernel
theorem dX3_init_34 : decode cX3_init 34 = .ok (.aload_n 0, 1) := by decide +kernel
theorem dX3_init_35 : decode cX3_init 35 = .ok (.bipush 8, 2) := by decide +kernel
theorem dX3_init_37 : decode cX3_init 37 = .ok (.newarray .boolean, 2) := by decide +kernel
theorem dX3_init_39 : decode cX3_init 39 = .ok (.putfield 25, 3) := by decide +kernel
theorem dX3_init_42 : decode cX3_init 42 = .ok (.aload_n 0, 1) := by decide +kernel
theorem dX3_init_43 : decode cX3_init 43 = .ok (.bipush 8, 2) := by decide +kernel
theorem dX3_init_45 : decode cX3_init 45 = .ok (.newarray .boolean, 2) := by decide +kernel
theorem dX3_init_47 : decode cX3_init 47 = .ok (.putfield 29, 3) := by decide +kernel
theorem dX3_init_50 : decode cX3_init 50 = .ok (.aload_n 0, 1) := by decide +kernel
theorem dX3_init_51 : decode cX3_init 51 = .ok (.bipush 8, 2) := by decide +kernel
theorem dX3_init_53 : decode cX3_init 53 = .ok (.newarray .boolean, 2) := by decide +kernel
theorem dX3_init_55 : decode cX3_init 55 = .ok (.putfield 32, 3) := by decide +kernel
theorem dX3_init_58 : decode cX3_init 58 = .ok (.aload_n 0, 1) := by decide +kernel
theorem dX3_init_59 : decode cX3_init 59 = .ok (.bipush 8, 2) := by decide +kernel
theorem dX3_init_61 : decode cX3_init 61 = .ok (.newarray .int, 2) := by decide +kernel
theorem dX3_init_63 : decode cX3_init 63 = .ok (.putfield 35, 3) := by decide +kernel
theorem dX3_init_66 : decode cX3_init 66 = .ok (.aload_n 0, 1) := by decide +kernel
theorem dX3_init_67 : decode cX3_init 67 = .ok (.bipush 8, 2) := by decide +kernel
theorem dX3_init_69 : decode cX3_init 69 = .ok (.newarray .int, 2) := by decide +kernel
theorem dX3_init_71 : decode cX3_init 71 = .ok (.putfield 38, 3) := by decide +kernel
theorem dX3_init_74 : decode cX3_init 74 = .ok (.aload_n 0, 1) := by decide +kernel
theorem dX3_init_75 : decode cX3_init 75 = .ok (.bipush 8, 2) := by decide +kernel
theorem dX3_init_77 : decode cX3_init 77 = .ok (.newarray .int, 2) := by decide +kernel
theorem dX3_init_79 : decode cX3_init 79 = .ok (.putfield 41, 3) := by decide +kernel
theorem dX3_init_82 : decode cX3_init 82 = .ok (.aload_n 0, 1) := by decide +kernel
theorem dX3_init_83 : decode cX3_init 83 = .ok (.bipush 8, 2) := by decide +kernel
theorem dX3_init_85 : decode cX3_init 85 = .ok (.newarray .int, 2) := by decide +kernel
theorem dX3_init_87 : decode cX3_init 87 = .ok (.putfield 44, 3) := by decide +kernel
theorem dX3_init_90 : decode cX3_init 90 = .ok (.aload_n 0, 1) := by decide +kernel
theorem dX3_init_91 : decode cX3_init 91 = .ok (.bipush 8, 2) := by decide +kernel
theorem dX3_init_93 : decode cX3_init 93 = .ok (.newarray .int, 2) := by decide +kernel
theorem dX3_init_95 : decode cX3_init 95 = .ok (.putfield 47, 3) := by decide +kernel
theorem dX3_init_98 : decode cX3_init 98 = .ok (.aload_n 0, 1) := by decide +kernel
theorem dX3_init_99 : decode cX3_init 99 = .ok (.bipush 64, 2) := by decide +kernel
theorem dX3_init_101 : decode cX3_init 101 = .ok (.newarray .int, 2) := by decide +kernel
theorem dX3_init_103 : decode cX3_init 103 = .ok (.putfield 50, 3) := by decide +kernel
theorem dX3_init_106 : decode cX3_init 106 = .ok (.return_, 1) := by decide +kernel
theorem dX3_pair_0 : decode cX3_pair 0 = .ok (.iload_n 0, 1) := by decide +kernel
theorem dX3_pair_1 : decode cX3_pair 1 = .ok (.bipush 8, 2) := by decide +kernel
theorem dX3_pair_3 : decode cX3_pair 3 = .ok (.imul, 1) := by decide +kernel
theorem dX3_pair_4 : decode cX3_pair 4 = .ok (.iload_n 1, 1) := by decide +kernel
theorem dX3_pair_5 : decode cX3_pair 5 = .ok (.iadd, 1) := by decide +kernel
theorem dX3_pair_6 : decode cX3_pair 6 = .ok (.ireturn, 1) := by decide +kernel
theorem dX3_copyFrom_0 : decode cX3_copyFrom 0 = .ok (.aload_n 0, 1) := by decide +kernel
theorem dX3_copyFrom_1 : decode cX3_copyFrom 1 = .ok (.aload_n 1, 1) := by decide +kernel
theorem dX3_copyFrom_2 : decode cX3_copyFrom 2 = .ok (.getfield 53, 3) := by decide +kernel
theorem dX3_copyFrom_5 : decode cX3_copyFrom 5 = .ok (.putfield 53, 3) := by decide +kernel
theorem dX3_copyFrom_8 : decode cX3_copyFrom 8 = .ok (.aload_n 0, 1) := by decide +kernel
theorem dX3_copyFrom_9 : decode cX3_copyFrom 9 = .ok (.aload_n 1, 1) := by decide +kernel
theorem dX3_copyFrom_10 : decode cX3_copyFrom 10 = .ok (.getfield 56, 3) := by decide +kernel
theorem dX3_copyFrom_13 : decode cX3_copyFrom 13 = .ok (.putfield 56, 3) := by decide +kernel
theorem dX3_copyFrom_16 : decode cX3_copyFrom 16 = .ok (.aload_n 0, 1) := by decide +kernel
theorem dX3_copyFrom_17 : decode cX3_copyFrom 17 = .ok (.aload_n 1, 1) := by decide +kernel
theorem dX3_copyFrom_18 : decode cX3_copyFrom 18 = .ok (.getfield 9, 3) := by decide +kernel
theorem dX3_copyFrom_21 : decode cX3_copyFrom 21 = .ok (.putfield 9, 3) := by decide +kernel
theorem dX3_copyFrom_24 : decode cX3_copyFrom 24 = .ok (.aload_n 0, 1) := by decide +kernel
theorem dX3_copyFrom_25 : decode cX3_copyFrom 25 = .ok (.aload_n 1, 1) := by decide +kernel
theorem dX3_copyFrom_26 : decode cX3_copyFrom 26 = .ok (.getfield 59, 3) := by decide +kernel
theorem dX3_copyFrom_29 : decode cX3_copyFrom 29 = .ok (.putfield 59, 3) := by decide +kernel
theorem dX3_copyFrom_32 : decode cX3_copyFrom 32 = .ok (.aload_n 0, 1) := by decide +kernel
theorem dX3_copyFrom_33 : decode cX3_copyFrom 33 = .ok (.aload_n 1, 1) := by decide +kernel
theorem dX3_copyFrom_34 : decode cX3_copyFrom 34 = .ok (.getfield 62, 3) := by decide +kernel
theorem dX3_copyFrom_37 : decode cX3_copyFrom 37 = .ok (.putfield 62, 3) := by decide +kernel
theorem dX3_copyFrom_40 : decode cX3_copyFrom 40 = .ok (.iconst 0, 1) := by decide +kernel
theorem dX3_copyFrom_41 : decode cX3_copyFrom 41 = .ok (.istore_n 2, 1) := by decide +kernel
theorem dX3_copyFrom_42 : decode cX3_copyFrom 42 = .ok (.iload_n 2, 1) := by decide +kernel
theorem dX3_copyFrom_43 : decode cX3_copyFrom 43 = .ok (.bipush 8, 2) := by decide +kernel
theorem dX3_copyFrom_45 : decode cX3_copyFrom 45 = .ok (.if_icmp .ge 141, 3) := by decide +kernel
theorem dX3_copyFrom_48 : decode cX3_copyFrom 48 = .ok (.aload_n 0, 1) := by decide +kernel
theorem dX3_copyFrom_49 : decode cX3_copyFrom 49 = .ok (.getfield 15, 3) := by decide +kernel
theorem dX3_copyFrom_52 : decode cX3_copyFrom 52 = .ok (.iload_n 2, 1) := by decide +kernel
theorem dX3_copyFrom_53 : decode cX3_copyFrom 53 = .ok (.aload_n 1, 1) := by decide +kernel
theorem dX3_copyFrom_54 : decode cX3_copyFrom 54 = .ok (.getfield 15, 3) := by decide +kernel
theorem dX3_copyFrom_57 : decode cX3_copyFrom 57 = .ok (.iload_n 2, 1) := by decide +kernel
theorem dX3_copyFrom_58 : decode cX3_copyFrom 58 = .ok (.iaload, 1) := by decide +kernel
theorem dX3_copyFrom_59 : decode cX3_copyFrom 59 = .ok (.iastore, 1) := by decide +kernel
theorem dX3_copyFrom_60 : decode cX3_copyFrom 60 = .ok (.aload_n 0, 1) := by decide +kernel
theorem dX3_copyFrom_61 : decode cX3_copyFrom 61 = .ok (.getfield 19, 3) := by decide +kernel
theorem dX3_copyFrom_64 : decode cX3_copyFrom 64 = .ok (.iload_n 2, 1) := by decide +kernel
theorem dX3_copyFrom_65 : decode cX3_copyFrom 65 = .ok (.aload_n 1, 1) := by decide +kernel
theorem dX3_copyFrom_66 : decode cX3_copyFrom 66 = .ok (.getfield 19, 3) := by decide +kernel
theorem dX3_copyFrom_69 : decode cX3_copyFrom 69 = .ok (.iload_n 2, 1) := by decide +kernel
theorem dX3_copyFrom_70 : decode cX3_copyFrom 70 = .ok (.iaload, 1) := by decide +kernel
theorem dX3_copyFrom_71 : decode cX3_copyFrom 71 = .ok (.iastore, 1) := by decide +kernel
theorem dX3_copyFrom_72 : decode cX3_copyFrom 72 = .ok (.aload_n 0, 1) := by decide +kernel
theorem dX3_copyFrom_73 : decode cX3_copyFrom 73 = .ok (.getfield 22, 3) := by decide +kernel
theorem dX3_copyFrom_76 : decode cX3_copyFrom 76 = .ok (.iload_n 2, 1) := by decide +kernel
theorem dX3_copyFrom_77 : decode cX3_copyFrom 77 = .ok (.aload_n 1, 1) := by decide +kernel
theorem dX3_copyFrom_78 : decode cX3_copyFrom 78 = .ok (.getfield 22, 3) := by decide +kernel
theorem dX3_copyFrom_81 : decode cX3_copyFrom 81 = .ok (.iload_n 2, 1) := by decide +kernel
theorem dX3_copyFrom_82 : decode cX3_copyFrom 82 = .ok (.iaload, 1) := by decide +kernel
theorem dX3_copyFrom_83 : decode cX3_copyFrom 83 = .ok (.iastore, 1) := by decide +kernel
theorem dX3_copyFrom_84 : decode cX3_copyFrom 84 = .ok (.aload_n 0, 1) := by decide +kernel
theorem dX3_copyFrom_85 : decode cX3_copyFrom 85 = .ok (.getfield 25, 3) := by decide +kernel
theorem dX3_copyFrom_88 : decode cX3_copyFrom 88 = .ok (.iload_n 2, 1) := by decide +kernel
theorem dX3_copyFrom_89 : decode cX3_copyFrom 89 = .ok (.aload_n 1, 1) := by decide +kernel
theorem dX3_copyFrom_90 : decode cX3_copyFrom 90 = .ok (.getfield 25, 3) := by decide +kernel
theorem dX3_copyFrom_93 : decode cX3_copyFrom 93 = .ok (.iload_n 2, 1) := by decide +kernel
theorem dX3_copyFrom_94 : decode cX3_copyFrom 94 = .ok (.baload, 1) := by decide +kernel
theorem dX3_copyFrom_95 : decode cX3_copyFrom 95 = .ok (.bastore, 1) := by decide +kernel
theorem dX3_copyFrom_96 : decode cX3_copyFrom 96 = .ok (.aload_n 0, 1) := by decide +kernel
theorem dX3_copyFrom_97 : decode cX3_copyFrom 97 = .ok (.getfield 29, 3) := by decide +kernel
theorem dX3_copyFrom_100 : decode cX3_copyFrom 100 = .ok (.iload_n 2, 1) := by decide +kernel
theorem dX3_copyFrom_101 : decode cX3_copyFrom 101 = .ok (.aload_n 1, 1) := by decide +kernel
theorem dX3_copyFrom_102 : decode cX3_copyFrom 102 = .ok (.getfield 29, 3) := by decide +kernel
theorem dX3_copyFrom_105 : decode cX3_copyFrom 105 = .ok (.iload_n 2, 1) := by decide +kernel
theorem dX3_copyFrom_106 : decode cX3_copyFrom 106 = .ok (.baload, 1) := by decide +kernel
theorem dX3_copyFrom_107 : decode cX3_copyFrom 107 = .ok (.bastore, 1) := by decide +kernel
theorem dX3_copyFrom_108 : decode cX3_copyFrom 108 = .ok (.aload_n 0, 1) := by decide +kernel
theorem dX3_copyFrom_109 : decode cX3_copyFrom 109 = .ok (.getfield 32, 3) := by decide +kernel
theorem dX3_copyFrom_112 : decode cX3_copyFrom 112 = .ok (.iload_n 2, 1) := by decide +kernel
theorem dX3_copyFrom_113 : decode cX3_copyFrom 113 = .ok (.aload_n 1, 1) := by decide +kernel
theorem dX3_copyFrom_114 : decode cX3_copyFrom 114 = .ok (.getfield 32, 3) := by decide +kernel
theorem dX3_copyFrom_117 : decode cX3_copyFrom 117 = .ok (.iload_n 2, 1) := by decide +kernel
theorem dX3_copyFrom_118 : decode cX3_copyFrom 118 = .ok (.baload, 1) := by decide +kernel
theorem dX3_copyFrom_119 : decode cX3_copyFrom 119 = .ok (.bastore, 1) := by decide +kernel
theorem dX3_copyFrom_120 : decode cX3_copyFrom 120 = .ok (.aload_n 0, 1) := by decide +kernel
theorem dX3_copyFrom_121 : decode cX3_copyFrom 121 = .ok (.getfield 35, 3) := by decide +kernel
theorem dX3_copyFrom_124 : decode cX3_copyFrom 124 = .ok (.iload_n 2, 1) := by decide +kernel
theorem dX3_copyFrom_125 : decode cX3_copyFrom 125 = .ok (.aload_n 1, 1) := by decide +kernel
theorem dX3_copyFrom_126 : decode cX3_copyFrom 126 = .ok (.getfield 35, 3) := by decide +kernel
theorem dX3_copyFrom_129 : decode cX3_copyFrom 129 = .ok (.iload_n 2, 1) := by decide +kernel
theorem dX3_copyFrom_130 : decode cX3_copyFrom 130 = .ok (.iaload, 1) := by decide +kernel
theorem dX3_copyFrom_131 : decode cX3_copyFrom 131 = .ok (.iastore, 1) := by decide +kernel
theorem dX3_copyFrom_132 : decode cX3_copyFrom 132 = .ok (.aload_n 0, 1) := by decide +kernel
theorem dX3_copyFrom_133 : decode cX3_copyFrom 133 = .ok (.getfield 38, 3) := by decide +kernel
theorem dX3_copyFrom_136 : decode cX3_copyFrom 136 = .ok (.iload_n 2, 1) := by decide +kernel
theorem dX3_copyFrom_137 : decode cX3_copyFrom 137 = .ok (.aload_n 1, 1) := by decide +kernel
theorem dX3_copyFrom_138 : decode cX3_copyFrom 138 = .ok (.getfield 38, 3) := by decide +kernel
theorem dX3_copyFrom_141 : decode cX3_copyFrom 141 = .ok (.iload_n 2, 1) := by decide +kernel
theorem dX3_copyFrom_142 : decode cX3_copyFrom 142 = .ok (.iaload, 1) := by decide +kernel
theorem dX3_copyFrom_143 : decode cX3_copyFrom 143 = .ok (.iastore, 1) := by decide +kernel
theorem dX3_copyFrom_144 : decode cX3_copyFrom 144 = .ok (.aload_n 0, 1) := by decide +kernel
theorem dX3_copyFrom_145 : decode cX3_copyFrom 145 = .ok (.getfield 41, 3) := by decide +kernel
theorem dX3_copyFrom_148 : decode cX3_copyFrom 148 = .ok (.iload_n 2, 1) := by decide +kernel
theorem dX3_copyFrom_149 : decode cX3_copyFrom 149 = .ok (.aload_n 1, 1) := by decide +kernel
theorem dX3_copyFrom_150 : decode cX3_copyFrom 150 = .ok (.getfield 41, 3) := by decide +kernel
theorem dX3_copyFrom_153 : decode cX3_copyFrom 153 = .ok (.iload_n 2, 1) := by decide +kernel
theorem dX3_copyFrom_154 : decode cX3_copyFrom 154 = .ok (.iaload, 1) := by decide +kernel
theorem dX3_copyFrom_155 : decode cX3_copyFrom 155 = .ok (.iastore, 1) := by decide +kernel
theorem dX3_copyFrom_156 : decode cX3_copyFrom 156 = .ok (.aload_n 0, 1) := by decide +kernel
theorem dX3_copyFrom_157 : decode cX3_copyFrom 157 = .ok (.getfield 44, 3) := by decide +kernel
theorem dX3_copyFrom_160 : decode cX3_copyFrom 160 = .ok (.iload_n 2, 1) := by decide +kernel
theorem dX3_copyFrom_161 : decode cX3_copyFrom 161 = .ok (.aload_n 1, 1) := by decide +kernel
theorem dX3_copyFrom_162 : decode cX3_copyFrom 162 = .ok (.getfield 44, 3) := by decide +kernel
theorem dX3_copyFrom_165 : decode cX3_copyFrom 165 = .ok (.iload_n 2, 1) := by decide +kernel
theorem dX3_copyFrom_166 : decode cX3_copyFrom 166 = .ok (.iaload, 1) := by decide +kernel
theorem dX3_copyFrom_167 : decode cX3_copyFrom 167 = .ok (.iastore, 1) := by decide +kernel
theorem dX3_copyFrom_168 : decode cX3_copyFrom 168 = .ok (.aload_n 0, 1) := by decide +kernel
theorem dX3_copyFrom_169 : decode cX3_copyFrom 169 = .ok (.getfield 47, 3) := by decide +kernel
theorem dX3_copyFrom_172 : decode cX3_copyFrom 172 = .ok (.iload_n 2, 1) := by decide +kernel
theorem dX3_copyFrom_173 : decode cX3_copyFrom 173 = .ok (.aload_n 1, 1) := by decide +kernel
theorem dX3_copyFrom_174 : decode cX3_copyFrom 174 = .ok (.getfield 47, 3) := by decide +kernel
theorem dX3_copyFrom_177 : decode cX3_copyFrom 177 = .ok (.iload_n 2, 1) := by decide +kernel
theorem dX3_copyFrom_178 : decode cX3_copyFrom 178 = .ok (.iaload, 1) := by decide +kernel
theorem dX3_copyFrom_179 : decode cX3_copyFrom 179 = .ok (.iastore, 1) := by decide +kernel
theorem dX3_copyFrom_180 : decode cX3_copyFrom 180 = .ok (.iinc 2 1, 3) := by decide +kernel
theorem dX3_copyFrom_183 : decode cX3_copyFrom 183 = .ok (.goto (-141), 3) := by decide +kernel
theorem dX3_copyFrom_186 : decode cX3_copyFrom 186 = .ok (.iconst 0, 1) := by decide +kernel
theorem dX3_copyFrom_187 : decode cX3_copyFrom 187 = .ok (.istore_n 2, 1) := by decide +kernel
theorem dX3_copyFrom_188 : decode cX3_copyFrom 188 = .ok (.iload_n 2, 1) := by decide +kernel
theorem dX3_copyFrom_189 : decode cX3_copyFrom 189 = .ok (.aload_n 0, 1) := by decide +kernel
theorem dX3_copyFrom_190 : decode cX3_copyFrom 190 = .ok (.getfield 50, 3) := by decide +kernel
theorem dX3_copyFrom_193 : decode cX3_copyFrom 193 = .ok (.arraylength, 1) := by decide +kernel
theorem dX3_copyFrom_194 : decode cX3_copyFrom 194 = .ok (.if_icmp .ge 21, 3) := by decide +kernel
theorem dX3_copyFrom_197 : decode cX3_copyFrom 197 = .ok (.aload_n 0, 1) := by decide +kernel
theorem dX3_copyFrom_198 : decode cX3_copyFrom 198 = .ok (.getfield 50, 3) := by decide +kernel
theorem dX3_copyFrom_201 : decode cX3_copyFrom 201 = .ok (.iload_n 2, 1) := by decide +kernel
theorem dX3_copyFrom_202 : decode cX3_copyFrom 202 = .ok (.aload_n 1, 1) := by decide +kernel
theorem dX3_copyFrom_203 : decode cX3_copyFrom 203 = .ok (.getfield 50, 3) := by decide +kernel
theorem dX3_copyFrom_206 : decode cX3_copyFrom 206 = .ok (.iload_n 2, 1) := by decide +kernel
theorem dX3_copyFrom_207 : decode cX3_copyFrom 207 = .ok (.iaload, 1) := by decide +kernel
theorem dX3_copyFrom_208 : decode cX3_copyFrom 208 = .ok (.iastore, 1) := by decide +kernel
theorem dX3_copyFrom_209 : decode cX3_copyFrom 209 = .ok (.iinc 2 1, 3) := by decide +kernel
theorem dX3_copyFrom_212 : decode cX3_copyFrom 212 = .ok (.goto (-24), 3) := by decide +kernel
theorem dX3_copyFrom_215 : decode cX3_copyFrom 215 = .ok (.return_, 1) := by decide +kernel
theorem dX3_exists_0 : decode cX3_exists 0 = .ok (.iload_n 1, 1) := by decide +kernel
theorem dX3_exists_1 : decode cX3_exists 1 = .ok (.ifCond .lt 15, 3) := by decide +kernel
theorem dX3_exists_4 : decode cX3_exists 4 = .ok (.iload_n 1, 1) := by decide +kernel
theorem dX3_exists_5 : decode cX3_exists 5 = .ok (.aload_n 0, 1) := by decide +kernel
theorem dX3_exists_6 : decode cX3_exists 6 = .ok (.getfield 53, 3) := by decide +kernel
theorem dX3_exists_9 : decode cX3_exists 9 = .ok (.if_icmp .ge 7, 3) := by decide +kernel
theorem dX3_exists_12 : decode cX3_exists 12 = .ok (.iconst 1, 1) := by decide +kernel
theorem dX3_exists_13 : decode cX3_exists 13 = .ok (.goto 4, 3) := by decide +kernel
theorem dX3_exists_16 : decode cX3_exists 16 = .ok (.iconst 0, 1) := by decide +kernel
theorem dX3_exists_17 : decode cX3_exists 17 = .ok (.ireturn, 1) := by decide +kernel
theorem dX3_join_0 : decode cX3_join 0 = .ok (.aload_n 0, 1) := by decide +kernel
theorem dX3_join_1 : decode cX3_join 1 = .ok (.getfield 53, 3) := by decide +kernel
theorem dX3_join_4 : decode cX3_join 4 = .ok (.istore_n 2, 1) := by decide +kernel
theorem dX3_join_5 : decode cX3_join 5 = .ok (.aload_n 0, 1) := by decide +kernel
theorem dX3_join_6 : decode cX3_join 6 = .ok (.getfield 15, 3) := by decide +kernel
theorem dX3_join_9 : decode cX3_join 9 = .ok (.iload_n 2, 1) := by decide +kernel
theorem dX3_join_10 : decode cX3_join 10 = .ok (.iload_n 1, 1) := by decide +kernel
theorem dX3_join_11 : decode cX3_join 11 = .ok (.iastore, 1) := by decide +kernel
theorem dX3_join_12 : decode cX3_join 12 = .ok (.aload_n 0, 1) := by decide +kernel
theorem dX3_join_13 : decode cX3_join 13 = .ok (.getfield 19, 3) := by decide +kernel
theorem dX3_join_16 : decode cX3_join 16 = .ok (.iload_n 2, 1) := by decide +kernel
theorem dX3_join_17 : decode cX3_join 17 = .ok (.ldc 65, 2) := by decide +kernel
theorem dX3_join_19 : decode cX3_join 19 = .ok (.iastore, 1) := by decide +kernel
theorem dX3_join_20 : decode cX3_join 20 = .ok (.aload_n 0, 1) := by decide +kernel
theorem dX3_join_21 : decode cX3_join 21 = .ok (.getfield 22, 3) := by decide +kernel
theorem dX3_join_24 : decode cX3_join 24 = .ok (.iload_n 2, 1) := by decide +kernel
theorem dX3_join_25 : decode cX3_join 25 = .ok (.iconst 0, 1) := by decide +kernel
theorem dX3_join_26 : decode cX3_join 26 = .ok (.iastore, 1) := by decide +kernel
theorem dX3_join_27 : decode cX3_join 27 = .ok (.aload_n 0, 1) := by decide +kernel
theorem dX3_join_28 : decode cX3_join 28 = .ok (.getfield 25, 3) := by decide +kernel
theorem dX3_join_31 : decode cX3_join 31 = .ok (.iload_n 2, 1) := by decide +kernel
theorem dX3_join_32 : decode cX3_join 32 = .ok (.iconst 0, 1) := by decide +kernel
theorem dX3_join_33 : decode cX3_join 33 = .ok (.bastore, 1) := by decide +kernel
theorem dX3_join_34 : decode cX3_join 34 = .ok (.aload_n 0, 1) := by decide +kernel
theorem dX3_join_35 : decode cX3_join 35 = .ok (.getfield 29, 3) := by decide +kernel
theorem dX3_join_38 : decode cX3_join 38 = .ok (.iload_n 2, 1) := by decide +kernel
theorem dX3_join_39 : decode cX3_join 39 = .ok (.iconst 0, 1) := by decide +kernel
theorem dX3_join_40 : decode cX3_join 40 = .ok (.bastore, 1) := by decide +kernel
theorem dX3_join_41 : decode cX3_join 41 = .ok (.aload_n 0, 1) := by decide +kernel
theorem dX3_join_42 : decode cX3_join 42 = .ok (.getfield 32, 3) := by decide +kernel
theorem dX3_join_45 : decode cX3_join 45 = .ok (.iload_n 2, 1) := by decide +kernel
theorem dX3_join_46 : decode cX3_join 46 = .ok (.iconst 1, 1) := by decide +kernel
theorem dX3_join_47 : decode cX3_join 47 = .ok (.bastore, 1) := by decide +kernel
theorem dX3_join_48 : decode cX3_join 48 = .ok (.aload_n 0, 1) := by decide +kernel
theorem dX3_join_49 : decode cX3_join 49 = .ok (.getfield 35, 3) := by decide +kernel
theorem dX3_join_52 : decode cX3_join 52 = .ok (.iload_n 2, 1) := by decide +kernel
theorem dX3_join_53 : decode cX3_join 53 = .ok (.iconst 0, 1) := by decide +kernel
theorem dX3_join_54 : decode cX3_join 54 = .ok (.iastore, 1) := by decide +kernel
theorem dX3_join_55 : decode cX3_join 55 = .ok (.aload_n 0, 1) := by decide +kernel
theorem dX3_join_56 : decode cX3_join 56 = .ok (.getfield 38, 3) := by decide +kernel
theorem dX3_join_59 : decode cX3_join 59 = .ok (.iload_n 2, 1) := by decide +kernel
theorem dX3_join_60 : decode cX3_join 60 = .ok (.iconst 0, 1) := by decide +kernel
theorem dX3_join_61 : decode cX3_join 61 = .ok (.iastore, 1) := by decide +kernel
theorem dX3_join_62 : decode cX3_join 62 = .ok (.aload_n 0, 1) := by decide +kernel
theorem dX3_join_63 : decode cX3_join 63 = .ok (.getfield 41, 3) := by decide +kernel
theorem dX3_join_66 : decode cX3_join 66 = .ok (.iload_n 2, 1) := by decide +kernel
theorem dX3_join_67 : decode cX3_join 67 = .ok (.iconst 0, 1) := by decide +kernel
theorem dX3_join_68 : decode cX3_join 68 = .ok (.iastore, 1) := by decide +kernel
theorem dX3_join_69 : decode cX3_join 69 = .ok (.aload_n 0, 1) := by decide +kernel
theorem dX3_join_70 : decode cX3_join 70 = .ok (.getfield 44, 3) := by decide +kernel
theorem dX3_join_73 : decode cX3_join 73 = .ok (.iload_n 2, 1) := by decide +kernel
theorem dX3_join_74 : decode cX3_join 74 = .ok (.iconst 0, 1) := by decide +kernel
theorem dX3_join_75 : decode cX3_join 75 = .ok (.iastore, 1) := by decide +kernel
theorem dX3_join_76 : decode cX3_join 76 = .ok (.aload_n 0, 1) := by decide +kernel
theorem dX3_join_77 : decode cX3_join 77 = .ok (.getfield 47, 3) := by decide +kernel
theorem dX3_join_80 : decode cX3_join 80 = .ok (.iload_n 2, 1) := by decide +kernel
theorem dX3_join_81 : decode cX3_join 81 = .ok (.iconst 0, 1) := by decide +kernel
theorem dX3_join_82 : decode cX3_join 82 = .ok (.iastore, 1) := by decide +kernel
theorem dX3_join_83 : decode cX3_join 83 = .ok (.aload_n 0, 1) := by decide +kernel
theorem dX3_join_84 : decode cX3_join 84 = .ok (.dup, 1) := by decide +kernel
theorem dX3_join_85 : decode cX3_join 85 = .ok (.getfield 62, 3) := by decide +kernel
theorem dX3_join_88 : decode cX3_join 88 = .ok (.iload_n 1, 1) := by decide +kernel
theorem dX3_join_89 : decode cX3_join 89 = .ok (.iadd, 1) := by decide +kernel
theorem dX3_join_90 : decode cX3_join 90 = .ok (.putfield 62, 3) := by decide +kernel
theorem dX3_join_93 : decode cX3_join 93 = .ok (.aload_n 0, 1) := by decide +kernel
theorem dX3_join_94 : decode cX3_join 94 = .ok (.dup, 1) := by decide +kernel
theorem dX3_join_95 : decode cX3_join 95 = .ok (.getfield 53, 3) := by decide +kernel
theorem dX3_join_98 : decode cX3_join 98 = .ok (.iconst 1, 1) := by decide +kernel
theorem dX3_join_99 : decode cX3_join 99 = .ok (.iadd, 1) := by decide +kernel
theorem dX3_join_100 : decode cX3_join 100 = .ok (.putfield 53, 3) := by decide +kernel
theorem dX3_join_103 : decode cX3_join 103 = .ok (.iload_n 2, 1) := by decide +kernel
theorem dX3_join_104 : decode cX3_join 104 = .ok (.ireturn, 1) := by decide +kernel
theorem dX3_countInside_0 : decode cX3_countInside 0 = .ok (.iconst 0, 1) := by decide +kernel
theorem dX3_countInside_1 : decode cX3_countInside 1 = .ok (.istore_n 1, 1) := by decide +kernel
theorem dX3_countInside_2 : decode cX3_countInside 2 = .ok (.iconst 0, 1) := by decide +kernel
theorem dX3_countInside_3 : decode cX3_countInside 3 = .ok (.istore_n 2, 1) := by decide +kernel
theorem dX3_countInside_4 : decode cX3_countInside 4 = .ok (.iload_n 2, 1) := by decide +kernel
theorem dX3_countInside_5 : decode cX3_countInside 5 = .ok (.aload_n 0, 1) := by decide +kernel
theorem dX3_countInside_6 : decode cX3_countInside 6 = .ok (.getfield 53, 3) := by decide +kernel
theorem dX3_countInside_9 : decode cX3_countInside 9 = .ok (.if_icmp .ge 21, 3) := by decide +kernel
theorem dX3_countInside_12 : decode cX3_countInside 12 = .ok (.aload_n 0, 1) := by decide +kernel
theorem dX3_countInside_13 : decode cX3_countInside 13 = .ok (.getfield 32, 3) := by decide +kernel
theorem dX3_countInside_16 : decode cX3_countInside 16 = .ok (.iload_n 2, 1) := by decide +kernel
theorem dX3_countInside_17 : decode cX3_countInside 17 = .ok (.baload, 1) := by decide +kernel
theorem dX3_countInside_18 : decode cX3_countInside 18 = .ok (.ifCond .eq 6, 3) := by decide +kernel
theorem dX3_countInside_21 : decode cX3_countInside 21 = .ok (.iinc 1 1, 3) := by decide +kernel
theorem dX3_countInside_24 : decode cX3_countInside 24 = .ok (.iinc 2 1, 3) := by decide +kernel
theorem dX3_countInside_27 : decode cX3_countInside 27 = .ok (.goto (-23), 3) := by decide +kernel
theorem dX3_countInside_30 : decode cX3_countInside 30 = .ok (.iload_n 1, 1) := by decide +kernel
theorem dX3_countInside_31 : decode cX3_countInside 31 = .ok (.ireturn, 1) := by decide +kernel
theorem dX3_countWaiting_0 : decode cX3_countWaiting 0 = .ok (.iconst 0, 1) := by decide +kernel
theorem dX3_countWaiting_1 : decode cX3_countWaiting 1 = .ok (.istore_n 1, 1) := by decide +kernel
theorem dX3_countWaiting_2 : decode cX3_countWaiting 2 = .ok (.iconst 0, 1) := by decide +kernel
theorem dX3_countWaiting_3 : decode cX3_countWaiting 3 = .ok (.istore_n 2, 1) := by decide +kernel
theorem dX3_countWaiting_4 : decode cX3_countWaiting 4 = .ok (.iload_n 2, 1) := by decide +kernel
theorem dX3_countWaiting_5 : decode cX3_countWaiting 5 = .ok (.aload_n 0, 1) := by decide +kernel
theorem dX3_countWaiting_6 : decode cX3_countWaiting 6 = .ok (.getfield 53, 3) := by decide +kernel
theorem dX3_countWaiting_9 : decode cX3_countWaiting 9 = .ok (.if_icmp .ge 30, 3) := by decide +kernel
theorem dX3_countWaiting_12 : decode cX3_countWaiting 12 = .ok (.aload_n 0, 1) := by decide +kernel
theorem dX3_countWaiting_13 : decode cX3_countWaiting 13 = .ok (.getfield 32, 3) := by decide +kernel
theorem dX3_countWaiting_16 : decode cX3_countWaiting 16 = .ok (.iload_n 2, 1) := by decide +kernel
theorem dX3_countWaiting_17 : decode cX3_countWaiting 17 = .ok (.baload, 1) := by decide +kernel
theorem dX3_countWaiting_18 : decode cX3_countWaiting 18 = .ok (.ifCond .eq 15, 3) := by decide +kernel
theorem dX3_countWaiting_21 : decode cX3_countWaiting 21 = .ok (.aload_n 0, 1) := by decide +kernel
theorem dX3_countWaiting_22 : decode cX3_countWaiting 22 = .ok (.getfield 29, 3) := by decide +kernel
theorem dX3_countWaiting_25 : decode cX3_countWaiting 25 = .ok (.iload_n 2, 1) := by decide +kernel
theorem dX3_countWaiting_26 : decode cX3_countWaiting 26 = .ok (.baload, 1) := by decide +kernel
theorem dX3_countWaiting_27 : decode cX3_countWaiting 27 = .ok (.ifCond .ne 6, 3) := by decide +kernel
theorem dX3_countWaiting_30 : decode cX3_countWaiting 30 = .ok (.iinc 1 1, 3) := by decide +kernel
theorem dX3_countWaiting_33 : decode cX3_countWaiting 33 = .ok (.iinc 2 1, 3) := by decide +kernel
theorem dX3_countWaiting_36 : decode cX3_countWaiting 36 = .ok (.goto (-32), 3) := by decide +kernel
theorem dX3_countWaiting_39 : decode cX3_countWaiting 39 = .ok (.iload_n 1, 1) := by decide +kernel
theorem dX3_countWaiting_40 : decode cX3_countWaiting 40 = .ok (.ireturn, 1) := by decide +kernel
theorem dX3_sumOfPurses_0 : decode cX3_sumOfPurses 0 = .ok (.iconst 0, 1) := by decide +kernel
theorem dX3_sumOfPurses_1 : decode cX3_sumOfPurses 1 = .ok (.istore_n 1, 1) := by decide +kernel
theorem dX3_sumOfPurses_2 : decode cX3_sumOfPurses 2 = .ok (.iconst 0, 1) := by decide +kernel
theorem dX3_sumOfPurses_3 : decode cX3_sumOfPurses 3 = .ok (.istore_n 2, 1) := by decide +kernel
theorem dX3_sumOfPurses_4 : decode cX3_sumOfPurses 4 = .ok (.iload_n 2, 1) := by decide +kernel
theorem dX3_sumOfPurses_5 : decode cX3_sumOfPurses 5 = .ok (.aload_n 0, 1) := by decide +kernel
theorem dX3_sumOfPurses_6 : decode cX3_sumOfPurses 6 = .ok (.getfield 53, 3) := by decide +kernel
theorem dX3_sumOfPurses_9 : decode cX3_sumOfPurses 9 = .ok (.if_icmp .ge 18, 3) := by decide +kernel
theorem dX3_sumOfPurses_12 : decode cX3_sumOfPurses 12 = .ok (.iload_n 1, 1) := by decide +kernel
theorem dX3_sumOfPurses_13 : decode cX3_sumOfPurses 13 = .ok (.aload_n 0, 1) := by decide +kernel
theorem dX3_sumOfPurses_14 : decode cX3_sumOfPurses 14 = .ok (.getfield 15, 3) := by decide +kernel
theorem dX3_sumOfPurses_17 : decode cX3_sumOfPurses 17 = .ok (.iload_n 2, 1) := by decide +kernel
theorem dX3_sumOfPurses_18 : decode cX3_sumOfPurses 18 = .ok (.iaload, 1) := by decide +kernel
theorem dX3_sumOfPurses_19 : decode cX3_sumOfPurses 19 = .ok (.iadd, 1) := by decide +kernel
theorem dX3_sumOfPurses_20 : decode cX3_sumOfPurses 20 = .ok (.istore_n 1, 1) := by decide +kernel
theorem dX3_sumOfPurses_21 : decode cX3_sumOfPurses 21 = .ok (.iinc 2 1, 3) := by decide +kernel
theorem dX3_sumOfPurses_24 : decode cX3_sumOfPurses 24 = .ok (.goto (-20), 3) := by decide +kernel
theorem dX3_sumOfPurses_27 : decode cX3_sumOfPurses 27 = .ok (.iload_n 1, 1) := by decide +kernel
theorem dX3_sumOfPurses_28 : decode cX3_sumOfPurses 28 = .ok (.ireturn, 1) := by decide +kernel
theorem dX3_sumOfDebts_0 : decode cX3_sumOfDebts 0 = .ok (.iconst 0, 1) := by decide +kernel
theorem dX3_sumOfDebts_1 : decode cX3_sumOfDebts 1 = .ok (.istore_n 1, 1) := by decide +kernel
theorem dX3_sumOfDebts_2 : decode cX3_sumOfDebts 2 = .ok (.iconst 0, 1) := by decide +kernel
theorem dX3_sumOfDebts_3 : decode cX3_sumOfDebts 3 = .ok (.istore_n 2, 1) := by decide +kernel
theorem dX3_sumOfDebts_4 : decode cX3_sumOfDebts 4 = .ok (.iload_n 2, 1) := by decide +kernel
theorem dX3_sumOfDebts_5 : decode cX3_sumOfDebts 5 = .ok (.aload_n 0, 1) := by decide +kernel
theorem dX3_sumOfDebts_6 : decode cX3_sumOfDebts 6 = .ok (.getfield 50, 3) := by decide +kernel
theorem dX3_sumOfDebts_9 : decode cX3_sumOfDebts 9 = .ok (.arraylength, 1) := by decide +kernel
theorem dX3_sumOfDebts_10 : decode cX3_sumOfDebts 10 = .ok (.if_icmp .ge 18, 3) := by decide +kernel
theorem dX3_sumOfDebts_13 : decode cX3_sumOfDebts 13 = .ok (.iload_n 1, 1) := by decide +kernel
theorem dX3_sumOfDebts_14 : decode cX3_sumOfDebts 14 = .ok (.aload_n 0, 1) := by decide +kernel
theorem dX3_sumOfDebts_15 : decode cX3_sumOfDebts 15 = .ok (.getfield 50, 3) := by decide +kernel
theorem dX3_sumOfDebts_18 : decode cX3_sumOfDebts 18 = .ok (.iload_n 2, 1) := by decide +kernel
theorem dX3_sumOfDebts_19 : decode cX3_sumOfDebts 19 = .ok (.iaload, 1) := by decide +kernel
theorem dX3_sumOfDebts_20 : decode cX3_sumOfDebts 20 = .ok (.iadd, 1) := by decide +kernel
theorem dX3_sumOfDebts_21 : decode cX3_sumOfDebts 21 = .ok (.istore_n 1, 1) := by decide +kernel
theorem dX3_sumOfDebts_22 : decode cX3_sumOfDebts 22 = .ok (.iinc 2 1, 3) := by decide +kernel
theorem dX3_sumOfDebts_25 : decode cX3_sumOfDebts 25 = .ok (.goto (-21), 3) := by decide +kernel
theorem dX3_sumOfDebts_28 : decode cX3_sumOfDebts 28 = .ok (.iload_n 1, 1) := by decide +kernel
theorem dX3_sumOfDebts_29 : decode cX3_sumOfDebts 29 = .ok (.ireturn, 1) := by decide +kernel
set_option maxRecDepth 20000 in
theorem ggX3_chainLength_X3_exists : GoodIn wsX3_chainLength wsX3_exists := goodIn_r _ [6, 7, 8, 9, 10, 11, 12, 13, 14, 15, 16, 17, 18, 19, 20, 21, 22, 23, 24] (by decide +kernel) (by decide +kernel)
set_option maxRecDepth 20000 in
theorem gX3_chainLength_X3_exists : GoodIn wsX3_chainLength (wsV RX3 66 RX3 yX3_exists wsX3_exists) := goodIn_app (goodIn_of _ (by decide +kernel)) ggX3_chainLength_X3_exists
theorem dX3_chainLength_0 : decode cX3_chainLength 0 = .ok (.iconst 0, 1) := by decide +kernel
theorem dX3_chainLength_1 : decode cX3_chainLength 1 = .ok (.istore_n 2, 1) := by decide +kernel
theorem dX3_chainLength_2 : decode cX3_chainLength 2 = .ok (.iconst 0, 1) := by decide +kernel
theorem dX3_chainLength_3 : decode cX3_chainLength 3 = .ok (.istore_n 3, 1) := by decide +kernel
theorem dX3_chainLength_4 : decode cX3_chainLength 4 = .ok (.iload_n 1, 1) := by decide +kernel
theorem dX3_chainLength_5 : decode cX3_chainLength 5 = .ok (.istore 4, 2) := by decide +kernel
theorem dX3_chainLength_7 : decode cX3_chainLength 7 = .ok (.iload_n 3, 1) := by decide +kernel
theorem dX3_chainLength_8 : decode cX3_chainLength 8 = .ok (.bipush 8, 2) := by decide +kernel
theorem dX3_chainLength_10 : decode cX3_chainLength 10 = .ok (.if_icmp .ge 43, 3) := by decide +kernel
theorem dX3_chainLength_13 : decode cX3_chainLength 13 = .ok (.aload_n 0, 1) := by decide +kernel
theorem dX3_chainLength_14 : decode cX3_chainLength 14 = .ok (.iload 4, 2) := by decide +kernel
theorem dX3_chainLength_16 : decode cX3_chainLength 16 = .ok (.invokevirtual 66, 3) := by decide +kernel
theorem dX3_chainLength_19 : decode cX3_chainLength 19 = .ok (.ifCond .eq 34, 3) := by decide +kernel
theorem dX3_chainLength_22 : decode cX3_chainLength 22 = .ok (.iload_n 2, 1) := by decide +kernel
theorem dX3_chainLength_23 : decode cX3_chainLength 23 = .ok (.iload 4, 2) := by decide +kernel
theorem dX3_chainLength_25 : decode cX3_chainLength 25 = .ok (.ishr, 1) := by decide +kernel
theorem dX3_chainLength_26 : decode cX3_chainLength 26 = .ok (.iconst 1, 1) := by decide +kernel
theorem dX3_chainLength_27 : decode cX3_chainLength 27 = .ok (.iand, 1) := by decide +kernel
theorem dX3_chainLength_28 : decode cX3_chainLength 28 = .ok (.ifCond .ne 25, 3) := by decide +kernel
theorem dX3_chainLength_31 : decode cX3_chainLength 31 = .ok (.iload_n 2, 1) := by decide +kernel
theorem dX3_chainLength_32 : decode cX3_chainLength 32 = .ok (.iconst 1, 1) := by decide +kernel
theorem dX3_chainLength_33 : decode cX3_chainLength 33 = .ok (.iload 4, 2) := by decide +kernel
theorem dX3_chainLength_35 : decode cX3_chainLength 35 = .ok (.ishl, 1) := by decide +kernel
theorem dX3_chainLength_36 : decode cX3_chainLength 36 = .ok (.ior, 1) := by decide +kernel
theorem dX3_chainLength_37 : decode cX3_chainLength 37 = .ok (.istore_n 2, 1) := by decide +kernel
theorem dX3_chainLength_38 : decode cX3_chainLength 38 = .ok (.iinc 3 1, 3) := by decide +kernel
theorem dX3_chainLength_41 : decode cX3_chainLength 41 = .ok (.aload_n 0, 1) := by decide +kernel
theorem dX3_chainLength_42 : decode cX3_chainLength 42 = .ok (.getfield 19, 3) := by decide +kernel
theorem dX3_chainLength_45 : decode cX3_chainLength 45 = .ok (.iload 4, 2) := by decide +kernel
theorem dX3_chainLength_47 : decode cX3_chainLength 47 = .ok (.iaload, 1) := by decide +kernel
theorem dX3_chainLength_48 : decode cX3_chainLength 48 = .ok (.istore 4, 2) := by decide +kernel
theorem dX3_chainLength_50 : decode cX3_chainLength 50 = .ok (.goto (-43), 3) := by decide +kernel
theorem dX3_chainLength_53 : decode cX3_chainLength 53 = .ok (.iload_n 3, 1) := by decide +kernel
theorem dX3_chainLength_54 : decode cX3_chainLength 54 = .ok (.ireturn, 1) := by decide +kernel
theorem dX3_mayBid_0 : decode cX3_mayBid 0 = .ok (.aload_n 0, 1) := by decide +kernel
theorem dX3_mayBid_1 : decode cX3_mayBid 1 = .ok (.getfield 32, 3) := by decide +kernel
theorem dX3_mayBid_4 : decode cX3_mayBid 4 = .ok (.iload_n 1, 1) := by decide +kernel
theorem dX3_mayBid_5 : decode cX3_mayBid 5 = .ok (.baload, 1) := by decide +kernel
theorem dX3_mayBid_6 : decode cX3_mayBid 6 = .ok (.ifCond .eq 16, 3) := by decide +kernel
theorem dX3_mayBid_9 : decode cX3_mayBid 9 = .ok (.aload_n 0, 1) := by decide +kernel
theorem dX3_mayBid_10 : decode cX3_mayBid 10 = .ok (.getfield 29, 3) := by decide +kernel
theorem dX3_mayBid_13 : decode cX3_mayBid 13 = .ok (.iload_n 1, 1) := by decide +kernel
theorem dX3_mayBid_14 : decode cX3_mayBid 14 = .ok (.baload, 1) := by decide +kernel
theorem dX3_mayBid_15 : decode cX3_mayBid 15 = .ok (.ifCond .ne 7, 3) := by decide +kernel
theorem dX3_mayBid_18 : decode cX3_mayBid 18 = .ok (.iconst 1, 1) := by decide +kernel
theorem dX3_mayBid_19 : decode cX3_mayBid 19 = .ok (.goto 4, 3) := by decide +kernel
theorem dX3_mayBid_22 : decode cX3_mayBid 22 = .ok (.iconst 0, 1) := by decide +kernel
theorem dX3_mayBid_23 : decode cX3_mayBid 23 = .ok (.ireturn, 1) := by decide +kernel
theorem dX3_mayReceive_0 : decode cX3_mayReceive 0 = .ok (.aload_n 0, 1) := by decide +kernel
theorem dX3_mayReceive_1 : decode cX3_mayReceive 1 = .ok (.getfield 62, 3) := by decide +kernel
theorem dX3_mayReceive_4 : decode cX3_mayReceive 4 = .ok (.iload_n 1, 1) := by decide +kernel
theorem dX3_mayReceive_5 : decode cX3_mayReceive 5 = .ok (.iadd, 1) := by decide +kernel
theorem dX3_mayReceive_6 : decode cX3_mayReceive 6 = .ok (.sipush 9000, 3) := by decide +kernel
theorem dX3_mayReceive_9 : decode cX3_mayReceive 9 = .ok (.if_icmp .gt 7, 3) := by decide +kernel
theorem dX3_mayReceive_12 : decode cX3_mayReceive 12 = .ok (.iconst 1, 1) := by decide +kernel
theorem dX3_mayReceive_13 : decode cX3_mayReceive 13 = .ok (.goto 4, 3) := by decide +kernel
theorem dX3_mayReceive_16 : decode cX3_mayReceive 16 = .ok (.iconst 0, 1) := by decide +kernel
theorem dX3_mayReceive_17 : decode cX3_mayReceive 17 = .ok (.ireturn, 1) := by decide +kernel
theorem dX3_receive_0 : decode cX3_receive 0 = .ok (.aload_n 0, 1) := by decide +kernel
theorem dX3_receive_1 : decode cX3_receive 1 = .ok (.getfield 15, 3) := by decide +kernel
theorem dX3_receive_4 : decode cX3_receive 4 = .ok (.iload_n 1, 1) := by decide +kernel
theorem dX3_receive_5 : decode cX3_receive 5 = .ok (.dup2, 1) := by decide +kernel
theorem dX3_receive_6 : decode cX3_receive 6 = .ok (.iaload, 1) := by decide +kernel
theorem dX3_receive_7 : decode cX3_receive 7 = .ok (.iload_n 2, 1) := by decide +kernel
theorem dX3_receive_8 : decode cX3_receive 8 = .ok (.iadd, 1) := by decide +kernel
theorem dX3_receive_9 : decode cX3_receive 9 = .ok (.iastore, 1) := by decide +kernel
theorem dX3_receive_10 : decode cX3_receive 10 = .ok (.aload_n 0, 1) := by decide +kernel
theorem dX3_receive_11 : decode cX3_receive 11 = .ok (.dup, 1) := by decide +kernel
theorem dX3_receive_12 : decode cX3_receive 12 = .ok (.getfield 62, 3) := by decide +kernel
theorem dX3_receive_15 : decode cX3_receive 15 = .ok (.iload_n 2, 1) := by decide +kernel
theorem dX3_receive_16 : decode cX3_receive 16 = .ok (.iadd, 1) := by decide +kernel
theorem dX3_receive_17 : decode cX3_receive 17 = .ok (.putfield 62, 3) := by decide +kernel
theorem dX3_receive_20 : decode cX3_receive 20 = .ok (.return_, 1) := by decide +kernel
set_option maxRecDepth 20000 in
theorem ggX3_mayPass_X3_countInside : GoodIn wsX3_mayPass wsX3_countInside := goodIn_r _ [6, 7, 8, 9, 10, 11, 12, 13, 14, 15, 16, 17, 18, 19, 20, 21, 22, 23, 24, 25] (by decide +kernel) (by decide +kernel)
set_option maxRecDepth 20000 in
theorem gX3_mayPass_X3_countInside : GoodIn wsX3_mayPass (wsV RX3 70 RX3 yX3_countInside wsX3_countInside) := goodIn_app (goodIn_of _ (by decide +kernel)) ggX3_mayPass_X3_countInside
theorem dX3_mayPass_0 : decode cX3_mayPass 0 = .ok (.aload_n 0, 1) := by decide +kernel
theorem dX3_mayPass_1 : decode cX3_mayPass 1 = .ok (.getfield 56, 3) := by decide +kernel
theorem dX3_mayPass_4 : decode cX3_mayPass 4 = .ok (.bipush 99, 2) := by decide +kernel
theorem dX3_mayPass_6 : decode cX3_mayPass 6 = .ok (.if_icmp .ge 14, 3) := by decide +kernel
theorem dX3_mayPass_9 : decode cX3_mayPass 9 = .ok (.aload_n 0, 1) := by decide +kernel
theorem dX3_mayPass_10 : decode cX3_mayPass 10 = .ok (.invokevirtual 70, 3) := by decide +kernel
theorem dX3_mayPass_13 : decode cX3_mayPass 13 = .ok (.ifCond .le 7, 3) := by decide +kernel
theorem dX3_mayPass_16 : decode cX3_mayPass 16 = .ok (.iconst 1, 1) := by decide +kernel
theorem dX3_mayPass_17 : decode cX3_mayPass 17 = .ok (.goto 4, 3) := by decide +kernel
theorem dX3_mayPass_20 : decode cX3_mayPass 20 = .ok (.iconst 0, 1) := by decide +kernel
theorem dX3_mayPass_21 : decode cX3_mayPass 21 = .ok (.ireturn, 1) := by decide +kernel
set_option maxRecDepth 20000 in
theorem ggX3_mayGo_X3_gainOfGoing : GoodIn wsX3_mayGo wsX3_gainOfGoing := goodIn_r _ [7, 8, 9, 10, 11, 12, 13, 14, 15, 16, 17, 18, 6, 19, 20, 1, 21, 22, 23, 24, 25, 26, 27, 28, 29, 30, 31, 32, 33, 34, 35, 36, 37] (by decide +kernel) (by decide +kernel)
set_option maxRecDepth 20000 in
theorem gX3_mayGo_X3_gainOfGoing : GoodIn wsX3_mayGo (wsV RX3 74 RX3 yX3_gainOfGoing wsX3_gainOfGoing) := goodIn_app (goodIn_of _ (by decide +kernel)) ggX3_mayGo_X3_gainOfGoing
theorem dX3_mayGo_0 : decode cX3_mayGo 0 = .ok (.aload_n 0, 1) := by decide +kernel
theorem dX3_mayGo_1 : decode cX3_mayGo 1 = .ok (.getfield 32, 3) := by decide +kernel
theorem dX3_mayGo_4 : decode cX3_mayGo 4 = .ok (.iload_n 1, 1) := by decide +kernel
theorem dX3_mayGo_5 : decode cX3_mayGo 5 = .ok (.baload, 1) := by decide +kernel
theorem dX3_mayGo_6 : decode cX3_mayGo 6 = .ok (.ifCond .eq 22, 3) := by decide +kernel
theorem dX3_mayGo_9 : decode cX3_mayGo 9 = .ok (.aload_n 0, 1) := by decide +kernel
theorem dX3_mayGo_10 : decode cX3_mayGo 10 = .ok (.getfield 15, 3) := by decide +kernel
theorem dX3_mayGo_13 : decode cX3_mayGo 13 = .ok (.iload_n 1, 1) := by decide +kernel
theorem dX3_mayGo_14 : decode cX3_mayGo 14 = .ok (.iaload, 1) := by decide +kernel
theorem dX3_mayGo_15 : decode cX3_mayGo 15 = .ok (.aload_n 0, 1) := by decide +kernel
theorem dX3_mayGo_16 : decode cX3_mayGo 16 = .ok (.iload_n 1, 1) := by decide +kernel
theorem dX3_mayGo_17 : decode cX3_mayGo 17 = .ok (.invokevirtual 74, 3) := by decide +kernel
theorem dX3_mayGo_20 : decode cX3_mayGo 20 = .ok (.iadd, 1) := by decide +kernel
theorem dX3_mayGo_21 : decode cX3_mayGo 21 = .ok (.ifCond .lt 7, 3) := by decide +kernel
theorem dX3_mayGo_24 : decode cX3_mayGo 24 = .ok (.iconst 1, 1) := by decide +kernel
theorem dX3_mayGo_25 : decode cX3_mayGo 25 = .ok (.goto 4, 3) := by decide +kernel
theorem dX3_mayGo_28 : decode cX3_mayGo 28 = .ok (.iconst 0, 1) := by decide +kernel
theorem dX3_mayGo_29 : decode cX3_mayGo 29 = .ok (.ireturn, 1) := by decide +kernel
set_option maxRecDepth 20000 in
theorem ggX3_gainOfGoing_X3_countWaiting : GoodIn wsX3_gainOfGoing wsX3_countWaiting := goodIn_r _ [13, 14, 15, 1, 16, 17, 18, 19, 20, 21, 22, 23, 24, 25, 26, 27, 28, 29, 30, 31, 32] (by decide +kernel) (by decide +kernel)
set_option maxRecDepth 20000 in
theorem gX3_gainOfGoing_X3_countWaiting : GoodIn wsX3_gainOfGoing (wsV RX3 78 RX3 yX3_countWaiting wsX3_countWaiting) := goodIn_app (goodIn_of _ (by decide +kernel)) ggX3_gainOfGoing_X3_countWaiting
theorem dX3_gainOfGoing_0 : decode cX3_gainOfGoing 0 = .ok (.aload_n 0, 1) := by decide +kernel
theorem dX3_gainOfGoing_1 : decode cX3_gainOfGoing 1 = .ok (.getfield 29, 3) := by decide +kernel
theorem dX3_gainOfGoing_4 : decode cX3_gainOfGoing 4 = .ok (.iload_n 1, 1) := by decide +kernel
theorem dX3_gainOfGoing_5 : decode cX3_gainOfGoing 5 = .ok (.baload, 1) := by decide +kernel
theorem dX3_gainOfGoing_6 : decode cX3_gainOfGoing 6 = .ok (.ifCond .eq 14, 3) := by decide +kernel
theorem dX3_gainOfGoing_9 : decode cX3_gainOfGoing 9 = .ok (.aload_n 0, 1) := by decide +kernel
theorem dX3_gainOfGoing_10 : decode cX3_gainOfGoing 10 = .ok (.getfield 9, 3) := by decide +kernel
theorem dX3_gainOfGoing_13 : decode cX3_gainOfGoing 13 = .ok (.ineg, 1) := by decide +kernel
theorem dX3_gainOfGoing_14 : decode cX3_gainOfGoing 14 = .ok (.aload_n 0, 1) := by decide +kernel
theorem dX3_gainOfGoing_15 : decode cX3_gainOfGoing 15 = .ok (.invokevirtual 78, 3) := by decide +kernel
theorem dX3_gainOfGoing_18 : decode cX3_gainOfGoing 18 = .ok (.imul, 1) := by decide +kernel
theorem dX3_gainOfGoing_19 : decode cX3_gainOfGoing 19 = .ok (.ireturn, 1) := by decide +kernel
theorem dX3_gainOfGoing_20 : decode cX3_gainOfGoing 20 = .ok (.aload_n 0, 1) := by decide +kernel
theorem dX3_gainOfGoing_21 : decode cX3_gainOfGoing 21 = .ok (.getfield 35, 3) := by decide +kernel
theorem dX3_gainOfGoing_24 : decode cX3_gainOfGoing 24 = .ok (.iload_n 1, 1) := by decide +kernel
theorem dX3_gainOfGoing_25 : decode cX3_gainOfGoing 25 = .ok (.iaload, 1) := by decide +kernel
theorem dX3_gainOfGoing_26 : decode cX3_gainOfGoing 26 = .ok (.iconst 2, 1) := by decide +kernel
theorem dX3_gainOfGoing_27 : decode cX3_gainOfGoing 27 = .ok (.idiv, 1) := by decide +kernel
theorem dX3_gainOfGoing_28 : decode cX3_gainOfGoing 28 = .ok (.aload_n 0, 1) := by decide +kernel
theorem dX3_gainOfGoing_29 : decode cX3_gainOfGoing 29 = .ok (.getfield 59, 3) := by decide +kernel
theorem dX3_gainOfGoing_32 : decode cX3_gainOfGoing 32 = .ok (.invokestatic 81, 3) := by decide +kernel
theorem dX3_gainOfGoing_35 : decode cX3_gainOfGoing 35 = .ok (.ireturn, 1) := by decide +kernel
set_option maxRecDepth 20000 in
theorem ggX3_go_X3_gainOfGoing : GoodIn wsX3_go wsX3_gainOfGoing := goodIn_r _ [8, 9, 10, 11, 2, 12, 13, 14, 15, 16, 17, 18, 7, 19, 20, 3, 21, 22, 23, 24, 25, 26, 27, 28, 29, 30, 31, 32, 33, 34, 35, 36, 37] (by decide +kernel) (by decide +kernel)
set_option maxRecDepth 20000 in
theorem gX3_go_X3_gainOfGoing : GoodIn wsX3_go (wsV RX3 74 RX3 yX3_gainOfGoing wsX3_gainOfGoing) := goodIn_app (goodIn_of _ (by decide +kernel)) ggX3_go_X3_gainOfGoing
theorem dX3_go_0 : decode cX3_go 0 = .ok (.aload_n 0, 1) := by decide +kernel
theorem dX3_go_1 : decode cX3_go 1 = .ok (.iload_n 1, 1) := by decide +kernel
theorem dX3_go_2 : decode cX3_go 2 = .ok (.invokevirtual 74, 3) := by decide +kernel
theorem dX3_go_5 : decode cX3_go 5 = .ok (.istore_n 2, 1) := by decide +kernel
theorem dX3_go_6 : decode cX3_go 6 = .ok (.aload_n 0, 1) := by decide +kernel
theorem dX3_go_7 : decode cX3_go 7 = .ok (.getfield 15, 3) := by decide +kernel
theorem dX3_go_10 : decode cX3_go 10 = .ok (.iload_n 1, 1) := by decide +kernel
theorem dX3_go_11 : decode cX3_go 11 = .ok (.dup2, 1) := by decide +kernel
theorem dX3_go_12 : decode cX3_go 12 = .ok (.iaload, 1) := by decide +kernel
theorem dX3_go_13 : decode cX3_go 13 = .ok (.iload_n 2, 1) := by decide +kernel
theorem dX3_go_14 : decode cX3_go 14 = .ok (.iadd, 1) := by decide +kernel
theorem dX3_go_15 : decode cX3_go 15 = .ok (.iastore, 1) := by decide +kernel
theorem dX3_go_16 : decode cX3_go 16 = .ok (.aload_n 0, 1) := by decide +kernel
theorem dX3_go_17 : decode cX3_go 17 = .ok (.dup, 1) := by decide +kernel
theorem dX3_go_18 : decode cX3_go 18 = .ok (.getfield 59, 3) := by decide +kernel
theorem dX3_go_21 : decode cX3_go 21 = .ok (.iload_n 2, 1) := by decide +kernel
theorem dX3_go_22 : decode cX3_go 22 = .ok (.isub, 1) := by decide +kernel
theorem dX3_go_23 : decode cX3_go 23 = .ok (.putfield 59, 3) := by decide +kernel
theorem dX3_go_26 : decode cX3_go 26 = .ok (.aload_n 0, 1) := by decide +kernel
theorem dX3_go_27 : decode cX3_go 27 = .ok (.getfield 32, 3) := by decide +kernel
theorem dX3_go_30 : decode cX3_go 30 = .ok (.iload_n 1, 1) := by decide +kernel
theorem dX3_go_31 : decode cX3_go 31 = .ok (.iconst 0, 1) := by decide +kernel
theorem dX3_go_32 : decode cX3_go 32 = .ok (.bastore, 1) := by decide +kernel
theorem dX3_go_33 : decode cX3_go 33 = .ok (.iload_n 2, 1) := by decide +kernel
theorem dX3_go_34 : decode cX3_go 34 = .ok (.ireturn, 1) := by decide +kernel
set_option maxRecDepth 20000 in
theorem ggX3_settle_X3_pair : GoodIn wsX3_settle wsX3_pair := goodIn_r _ [10] (by decide +kernel) (by decide +kernel)
set_option maxRecDepth 20000 in
theorem gX3_settle_X3_pair : GoodIn wsX3_settle (va_wsS RX3 87 yX3_pair wsX3_pair) := goodIn_app (goodIn_of _ (by decide +kernel)) ggX3_settle_X3_pair
theorem dX3_settle_0 : decode cX3_settle 0 = .ok (.iload_n 1, 1) := by decide +kernel
theorem dX3_settle_1 : decode cX3_settle 1 = .ok (.iload_n 2, 1) := by decide +kernel
theorem dX3_settle_2 : decode cX3_settle 2 = .ok (.invokestatic 87, 3) := by decide +kernel
theorem dX3_settle_5 : decode cX3_settle 5 = .ok (.istore 4, 2) := by decide +kernel
theorem dX3_settle_7 : decode cX3_settle 7 = .ok (.aload_n 0, 1) := by decide +kernel
theorem dX3_settle_8 : decode cX3_settle 8 = .ok (.getfield 50, 3) := by decide +kernel
theorem dX3_settle_11 : decode cX3_settle 11 = .ok (.iload 4, 2) := by decide +kernel
theorem dX3_settle_13 : decode cX3_settle 13 = .ok (.iaload, 1) := by decide +kernel
theorem dX3_settle_14 : decode cX3_settle 14 = .ok (.iload_n 3, 1) := by decide +kernel
theorem dX3_settle_15 : decode cX3_settle 15 = .ok (.invokestatic 81, 3) := by decide +kernel
theorem dX3_settle_18 : decode cX3_settle 18 = .ok (.istore 5, 2) := by decide +kernel
theorem dX3_settle_20 : decode cX3_settle 20 = .ok (.aload_n 0, 1) := by decide +kernel
theorem dX3_settle_21 : decode cX3_settle 21 = .ok (.getfield 50, 3) := by decide +kernel
theorem dX3_settle_24 : decode cX3_settle 24 = .ok (.iload 4, 2) := by decide +kernel
theorem dX3_settle_26 : decode cX3_settle 26 = .ok (.dup2, 1) := by decide +kernel
theorem dX3_settle_27 : decode cX3_settle 27 = .ok (.iaload, 1) := by decide +kernel
theorem dX3_settle_28 : decode cX3_settle 28 = .ok (.iload 5, 2) := by decide +kernel
theorem dX3_settle_30 : decode cX3_settle 30 = .ok (.isub, 1) := by decide +kernel
theorem dX3_settle_31 : decode cX3_settle 31 = .ok (.iastore, 1) := by decide +kernel
theorem dX3_settle_32 : decode cX3_settle 32 = .ok (.aload_n 0, 1) := by decide +kernel
theorem dX3_settle_33 : decode cX3_settle 33 = .ok (.getfield 15, 3) := by decide +kernel
theorem dX3_settle_36 : decode cX3_settle 36 = .ok (.iload_n 2, 1) := by decide +kernel
theorem dX3_settle_37 : decode cX3_settle 37 = .ok (.dup2, 1) := by decide +kernel
theorem dX3_settle_38 : decode cX3_settle 38 = .ok (.iaload, 1) := by decide +kernel
theorem dX3_settle_39 : decode cX3_settle 39 = .ok (.iload 5, 2) := by decide +kernel
theorem dX3_settle_41 : decode cX3_settle 41 = .ok (.iadd, 1) := by decide +kernel
theorem dX3_settle_42 : decode cX3_settle 42 = .ok (.iastore, 1) := by decide +kernel
theorem dX3_settle_43 : decode cX3_settle 43 = .ok (.iload 5, 2) := by decide +kernel
theorem dX3_settle_45 : decode cX3_settle 45 = .ok (.ireturn, 1) := by decide +kernel
theorem dX4_init_0 : decode cX4_init 0 = .ok (.aload_n 0, 1) := by decide +kernel
theorem dX4_init_1 : decode cX4_init 1 = .ok (.invokespecial 3, 3) := by decide +kernel
theorem dX4_init_4 : decode cX4_init 4 = .ok (.aload_n 0, 1) := by decide +kernel
theorem dX4_init_5 : decode cX4_init 5 = .ok (.bipush 100, 2) := by decide +kernel
theorem dX4_init_7 : decode cX4_init 7 = .ok (.newarray .int, 2) := by decide +kernel
theorem dX4_init_9 : decode cX4_init 9 = .ok (.putfield 9, 3) := by decide +kernel
theorem dX4_init_12 : decode cX4_init 12 = .ok (.return_, 1) := by decide +kernel
set_option maxRecDepth 20000 in
theorem ggX5_init_X3_init : GoodIn wsX5_init wsX3_init := goodIn_r _ [29, 30, 2, 3, 31, 32, 33, 34, 35, 26, 36, 37, 38, 39, 40, 41, 42, 43, 44, 67, 68, 69, 70, 71, 72, 73, 74, 75, 76, 77, 78, 79, 80, 81, 82, 83] (by decide +kernel) (by decide +kernel)
set_option maxRecDepth 20000 in
theorem gX5_init_X3_init_n9 : GoodIn wsX5_init (wsX3_init) := ggX5_init_X3_init
set_option maxRecDepth 20000 in
theorem ggX5_init_X1_init : GoodIn wsX5_init wsX1_init := goodIn_r _ [46, 47, 2, 3, 26, 48, 49, 92, 93, 94] (by decide +kernel) (by decide +kernel)
set_option maxRecDepth 20000 in
theorem gX5_init_X1_init_n21 : GoodIn wsX5_init (wsX1_init) := ggX5_init_X1_init
set_option maxRecDepth 20000 in
theorem ggX5_init_X2_init : GoodIn wsX5_init wsX2_init := goodIn_r _ [51, 52, 2, 3, 53, 5, 6, 54, 55, 10, 11, 56, 28, 29, 30, 31, 32, 33, 34, 35, 26, 36, 37, 38, 39, 40, 41, 42, 43, 44, 45, 46, 47, 48, 49, 67, 68, 69, 70, 71, 72, 73, 74, 75, 76, 77, 78, 79, 80, 81, 82, 83, 95, 96, 92, 93, 94] (by decide +kernel) (by decide +kernel)
set_option maxRecDepth 20000 in
theorem gX5_init_X2_init_n28 : GoodIn wsX5_init (wsX2_init) := ggX5_init_X2_init
set_option maxRecDepth 20000 in
theorem ggX5_init_X0_init : GoodIn wsX5_init wsX0_init := goodIn_r _ [59, 60, 2, 3, 61, 62, 5, 6, 28, 29, 30, 31, 32, 33, 34, 35, 26, 36, 37, 38, 39, 40, 41, 42, 43, 44, 97, 98, 99, 67, 68, 69, 70, 71, 72, 73, 74, 75, 76, 77, 78, 79, 80, 81, 82, 83] (by decide +kernel) (by decide +kernel)
set_option maxRecDepth 20000 in
theorem gX5_init_X0_init : GoodIn wsX5_init (wsX0_init) := ggX5_init_X0_init
set_option maxRecDepth 20000 in
theorem ggX5_init_X4_init : GoodIn wsX5_init wsX4_init := goodIn_r _ [64, 65, 2, 3, 32, 66, 100, 101, 102] (by decide +kernel) (by decide +kernel)
set_option maxRecDepth 20000 in
theorem gX5_init_X4_init_n42 : GoodIn wsX5_init (wsX4_init) := ggX5_init_X4_init
theorem dX5_init_0 : decode cX5_init 0 = .ok (.aload_n 0, 1) := by decide +kernel
theorem dX5_init_1 : decode cX5_init 1 = .ok (.invokespecial 1, 3) := by decide +kernel
theorem dX5_init_4 : decode cX5_init 4 = .ok (.aload_n 0, 1) := by decide +kernel
theorem dX5_init_5 : decode cX5_init 5 = .ok (.new 7, 3) := by decide +kernel
theorem dX5_init_8 : decode cX5_init 8 = .ok (.dup, 1) := by decide +kernel
theorem dX5_init_9 : decode cX5_init 9 = .ok (.invokespecial 9, 3) := by decide +kernel
theorem dX5_init_12 : decode cX5_init 12 = .ok (.putfield 10, 3) := by decide +kernel
theorem dX5_init_15 : decode cX5_init 15 = .ok (.aload_n 0, 1) := by decide +kernel
theorem dX5_init_16 : decode cX5_init 16 = .ok (.new 7, 3) := by decide +kernel
theorem dX5_init_19 : decode cX5_init 19 = .ok (.dup, 1) := by decide +kernel
theorem dX5_init_20 : decode cX5_init 20 = .ok (.invokespecial 9, 3) := by decide +kernel
theorem dX5_init_23 : decode cX5_init 23 = .ok (.putfield 16, 3) := by decide +kernel
theorem dX5_init_26 : decode cX5_init 26 = .ok (.aload_n 0, 1) := by decide +kernel
theorem dX5_init_27 : decode cX5_init 27 = .ok (.new 19, 3) := by decide +kernel
theorem dX5_init_30 : decode cX5_init 30 = .ok (.dup, 1) := by decide +kernel
theorem dX5_init_31 : decode cX5_init 31 = .ok (.invokespecial 21, 3) := by decide +kernel
theorem dX5_init_34 : decode cX5_init 34 = .ok (.putfield 22, 3) := by decide +kernel
theorem dX5_init_37 : decode cX5_init 37 = .ok (.aload_n 0, 1) := by decide +kernel
theorem dX5_init_38 : decode cX5_init 38 = .ok (.new 26, 3) := by decide +kernel
theorem dX5_init_41 : decode cX5_init 41 = .ok (.dup, 1) := by decide +kernel
theorem dX5_init_42 : decode cX5_init 42 = .ok (.invokespecial 28, 3) := by decide +kernel
theorem dX5_init_45 : decode cX5_init 45 = .ok (.putfield 29, 3) := by decide +kernel
theorem dX5_init_48 : decode cX5_init 48 = .ok (.aload_n 0, 1) := by decide +kernel
theorem dX5_init_49 : decode cX5_init 49 = .ok (.new 33, 3) := by decide +kernel
theorem dX5_init_52 : decode cX5_init 52 = .ok (.dup, 1) := by decide +kernel
theorem dX5_init_53 : decode cX5_init 53 = .ok (.invokespecial 35, 3) := by decide +kernel
theorem dX5_init_56 : decode cX5_init 56 = .ok (.putfield 36, 3) := by decide +kernel
theorem dX5_init_59 : decode cX5_init 59 = .ok (.aload_n 0, 1) := by decide +kernel
theorem dX5_init_60 : decode cX5_init 60 = .ok (.new 40, 3) := by decide +kernel
theorem dX5_init_63 : decode cX5_init 63 = .ok (.dup, 1) := by decide +kernel
theorem dX5_init_64 : decode cX5_init 64 = .ok (.invokespecial 42, 3) := by decide +kernel
theorem dX5_init_67 : decode cX5_init 67 = .ok (.putfield 43, 3) := by decide +kernel
theorem dX5_init_70 : decode cX5_init 70 = .ok (.aload_n 0, 1) := by decide +kernel
theorem dX5_init_71 : decode cX5_init 71 = .ok (.iconst 2, 1) := by decide +kernel
theorem dX5_init_72 : decode cX5_init 72 = .ok (.anewarray 7, 3) := by decide +kernel
theorem dX5_init_75 : decode cX5_init 75 = .ok (.putfield 47, 3) := by decide +kernel
theorem dX5_init_78 : decode cX5_init 78 = .ok (.aload_n 0, 1) := by decide +kernel
theorem dX5_init_79 : decode cX5_init 79 = .ok (.iconst 2, 1) := by decide +kernel
theorem dX5_init_80 : decode cX5_init 80 = .ok (.newarray .boolean, 2) := by decide +kernel
theorem dX5_init_82 : decode cX5_init 82 = .ok (.putfield 51, 3) := by decide +kernel
theorem dX5_init_85 : decode cX5_init 85 = .ok (.iconst 0, 1) := by decide +kernel
theorem dX5_init_86 : decode cX5_init 86 = .ok (.istore_n 1, 1) := by decide +kernel
theorem dX5_init_87 : decode cX5_init 87 = .ok (.iload_n 1, 1) := by decide +kernel
theorem dX5_init_88 : decode cX5_init 88 = .ok (.iconst 2, 1) := by decide +kernel
theorem dX5_init_89 : decode cX5_init 89 = .ok (.if_icmp .ge 22, 3) := by decide +kernel
theorem dX5_init_92 : decode cX5_init 92 = .ok (.aload_n 0, 1) := by decide +kernel
theorem dX5_init_93 : decode cX5_init 93 = .ok (.getfield 47, 3) := by decide +kernel
theorem dX5_init_96 : decode cX5_init 96 = .ok (.iload_n 1, 1) := by decide +kernel
theorem dX5_init_97 : decode cX5_init 97 = .ok (.new 7, 3) := by decide +kernel
theorem dX5_init_100 : decode cX5_init 100 = .ok (.dup, 1) := by decide +kernel
theorem dX5_init_101 : decode cX5_init 101 = .ok (.invokespecial 9, 3) := by decide +kernel
theorem dX5_init_104 : decode cX5_init 104 = .ok (.aastore, 1) := by decide +kernel
theorem dX5_init_105 : decode cX5_init 105 = .ok (.iinc 1 1, 3) := by decide +kernel
theorem dX5_init_108 : decode cX5_init 108 = .ok (.goto (-21), 3) := by decide +kernel
theorem dX5_init_111 : decode cX5_init 111 = .ok (.return_, 1) := by decide +kernel
set_option maxRecDepth 20000 in
theorem ggX5_about_X3_countInside : GoodIn wsX5_about wsX3_countInside := goodIn_r _ [13, 14, 15, 39, 40, 41, 42, 43, 44, 45, 46, 47, 48, 49, 50, 51, 52, 53, 54, 55] (by decide +kernel) (by decide +kernel)
set_option maxRecDepth 20000 in
theorem gX5_about_X3_countInside : GoodIn wsX5_about (wsV RX5 91 RX3 yX3_countInside wsX3_countInside) := goodIn_app (goodIn_of _ (by decide +kernel)) ggX5_about_X3_countInside
set_option maxRecDepth 20000 in
theorem ggX5_about_X3_sumOfPurses : GoodIn wsX5_about wsX3_sumOfPurses := goodIn_r _ [19, 14, 20, 39, 40, 41, 42, 43, 44, 45, 46, 47, 48, 49, 50, 51, 52, 53, 54, 55] (by decide +kernel) (by decide +kernel)
set_option maxRecDepth 20000 in
theorem gX5_about_X3_sumOfPurses : GoodIn wsX5_about (wsV RX5 104 RX3 yX3_sumOfPurses wsX3_sumOfPurses) := goodIn_app (goodIn_of _ (by decide +kernel)) ggX5_about_X3_sumOfPurses
set_option maxRecDepth 20000 in
theorem ggX5_about_X3_countWaiting : GoodIn wsX5_about wsX3_countWaiting := goodIn_r _ [24, 14, 15, 25, 39, 40, 41, 42, 43, 44, 45, 46, 47, 48, 49, 50, 51, 52, 53, 54, 55] (by decide +kernel) (by decide +kernel)
set_option maxRecDepth 20000 in
theorem gX5_about_X3_countWaiting : GoodIn wsX5_about (wsV RX5 107 RX3 yX3_countWaiting wsX3_countWaiting) := goodIn_app (goodIn_of _ (by decide +kernel)) ggX5_about_X3_countWaiting
set_option maxRecDepth 20000 in
theorem ggX5_about_X3_sumOfDebts : GoodIn wsX5_about wsX3_sumOfDebts := goodIn_r _ [29, 30, 39, 40, 41, 42, 43, 44, 45, 46, 47, 48, 49, 50, 51, 52, 53, 54, 55] (by decide +kernel) (by decide +kernel)
set_option maxRecDepth 20000 in
theorem gX5_about_X3_sumOfDebts : GoodIn wsX5_about (wsV RX5 110 RX3 yX3_sumOfDebts wsX3_sumOfDebts) := goodIn_app (goodIn_of _ (by decide +kernel)) ggX5_about_X3_sumOfDebts
theorem dX5_about_0 : decode cX5_about 0 = .ok (.iload_n 1, 1) := by decide +kernel
theorem dX5_about_1 : decode cX5_about 1 = .ok (.tableswitch 123 0 8 #[51, 59, 67, 75, 83, 91, 99, 107, 115], 51) := by decide +kernel
theorem dX5_about_52 : decode cX5_about 52 = .ok (.aload_n 0, 1) := by decide +kernel
theorem dX5_about_53 : decode cX5_about 53 = .ok (.getfield 10, 3) := by decide +kernel
theorem dX5_about_56 : decode cX5_about 56 = .ok (.getfield 88, 3) := by decide +kernel
theorem dX5_about_59 : decode cX5_about 59 = .ok (.ireturn, 1) := by decide +kernel
theorem dX5_about_60 : decode cX5_about 60 = .ok (.aload_n 0, 1) := by decide +kernel
theorem dX5_about_61 : decode cX5_about 61 = .ok (.getfield 10, 3) := by decide +kernel
theorem dX5_about_64 : decode cX5_about 64 = .ok (.invokevirtual 91, 3) := by decide +kernel
theorem dX5_about_67 : decode cX5_about 67 = .ok (.ireturn, 1) := by decide +kernel
theorem dX5_about_68 : decode cX5_about 68 = .ok (.aload_n 0, 1) := by decide +kernel
theorem dX5_about_69 : decode cX5_about 69 = .ok (.getfield 10, 3) := by decide +kernel
theorem dX5_about_72 : decode cX5_about 72 = .ok (.getfield 95, 3) := by decide +kernel
theorem dX5_about_75 : decode cX5_about 75 = .ok (.ireturn, 1) := by decide +kernel
theorem dX5_about_76 : decode cX5_about 76 = .ok (.aload_n 0, 1) := by decide +kernel
theorem dX5_about_77 : decode cX5_about 77 = .ok (.getfield 10, 3) := by decide +kernel
theorem dX5_about_80 : decode cX5_about 80 = .ok (.getfield 98, 3) := by decide +kernel
theorem dX5_about_83 : decode cX5_about 83 = .ok (.ireturn, 1) := by decide +kernel
theorem dX5_about_84 : decode cX5_about 84 = .ok (.aload_n 0, 1) := by decide +kernel
theorem dX5_about_85 : decode cX5_about 85 = .ok (.getfield 10, 3) := by decide +kernel
theorem dX5_about_88 : decode cX5_about 88 = .ok (.getfield 101, 3) := by decide +kernel
theorem dX5_about_91 : decode cX5_about 91 = .ok (.ireturn, 1) := by decide +kernel
theorem dX5_about_92 : decode cX5_about 92 = .ok (.aload_n 0, 1) := by decide +kernel
theorem dX5_about_93 : decode cX5_about 93 = .ok (.getfield 10, 3) := by decide +kernel
theorem dX5_about_96 : decode cX5_about 96 = .ok (.invokevirtual 104, 3) := by decide +kernel
theorem dX5_about_99 : decode cX5_about 99 = .ok (.ireturn, 1) := by decide +kernel
theorem dX5_about_100 : decode cX5_about 100 = .ok (.aload_n 0, 1) := by decide +kernel
theorem dX5_about_101 : decode cX5_about 101 = .ok (.getfield 10, 3) := by decide +kernel
theorem dX5_about_104 : decode cX5_about 104 = .ok (.invokevirtual 107, 3) := by decide +kernel
theorem dX5_about_107 : decode cX5_about 107 = .ok (.ireturn, 1) := by decide +kernel
theorem dX5_about_108 : decode cX5_about 108 = .ok (.aload_n 0, 1) := by decide +kernel
theorem dX5_about_109 : decode cX5_about 109 = .ok (.getfield 10, 3) := by decide +kernel
theorem dX5_about_112 : decode cX5_about 112 = .ok (.invokevirtual 110, 3) := by decide +kernel
theorem dX5_about_115 : decode cX5_about 115 = .ok (.ireturn, 1) := by decide +kernel
theorem dX5_about_116 : decode cX5_about 116 = .ok (.aload_n 0, 1) := by decide +kernel
theorem dX5_about_117 : decode cX5_about 117 = .ok (.getfield 10, 3) := by decide +kernel
theorem dX5_about_120 : decode cX5_about 120 = .ok (.getfield 113, 3) := by decide +kernel
theorem dX5_about_123 : decode cX5_about 123 = .ok (.ireturn, 1) := by decide +kernel
theorem dX5_about_124 : decode cX5_about 124 = .ok (.new 116, 3) := by decide +kernel
theorem dX5_about_127 : decode cX5_about 127 = .ok (.dup, 1) := by decide +kernel
theorem dX5_about_128 : decode cX5_about 128 = .ok (.ldc 118, 2) := by decide +kernel
theorem dX5_about_130 : decode cX5_about 130 = .ok (.invokespecial 120, 3) := by decide +kernel
theorem dX5_about_133 : decode cX5_about 133 = .ok (.athrow, 1) := by decide +kernel
set_option maxRecDepth 20000 in
theorem ggX5_member_X5_requireMember : GoodIn wsX5_member wsX5_requireMember := goodIn_ca (goodIn_r _ [19, 20, 21, 3, 22, 23, 24, 25, 26, 27, 28, 29, 30, 31, 32, 33, 34, 35, 36, 37, 38, 39, 40, 41, 42, 43, 44, 45, 46, 47, 48, 49, 50, 51, 52] (by decide +kernel) (by decide +kernel)) (goodIn_sub (fun _ h => List.mem_cons_of_mem _ (List.mem_append_right _ h)) (by decide +kernel))
set_option maxRecDepth 20000 in
theorem gX5_member_X5_requireMember : GoodIn wsX5_member (wsV RX5 121 RX5 yX5_requireMember wsX5_requireMember) := goodIn_app (goodIn_of _ (by decide +kernel)) ggX5_member_X5_requireMember
theorem dX5_member_0 : decode cX5_member 0 = .ok (.aload_n 0, 1) := by decide +kernel
theorem dX5_member_1 : decode cX5_member 1 = .ok (.iload_n 1, 1) := by decide +kernel
theorem dX5_member_2 : decode cX5_member 2 = .ok (.invokevirtual 121, 3) := by decide +kernel
theorem dX5_member_5 : decode cX5_member 5 = .ok (.iload_n 2, 1) := by decide +kernel
theorem dX5_member_6 : decode cX5_member 6 = .ok (.tableswitch 192 0 10 #[58, 68, 78, 88, 106, 124, 142, 152, 162, 172, 182], 58) := by decide +kernel
theorem dX5_member_64 : decode cX5_member 64 = .ok (.aload_n 0, 1) := by decide +kernel
theorem dX5_member_65 : decode cX5_member 65 = .ok (.getfield 10, 3) := by decide +kernel
theorem dX5_member_68 : decode cX5_member 68 = .ok (.getfield 125, 3) := by decide +kernel
theorem dX5_member_71 : decode cX5_member 71 = .ok (.iload_n 1, 1) := by decide +kernel
theorem dX5_member_72 : decode cX5_member 72 = .ok (.iaload, 1) := by decide +kernel
theorem dX5_member_73 : decode cX5_member 73 = .ok (.ireturn, 1) := by decide +kernel
theorem dX5_member_74 : decode cX5_member 74 = .ok (.aload_n 0, 1) := by decide +kernel
theorem dX5_member_75 : decode cX5_member 75 = .ok (.getfield 10, 3) := by decide +kernel
theorem dX5_member_78 : decode cX5_member 78 = .ok (.getfield 129, 3) := by decide +kernel
theorem dX5_member_81 : decode cX5_member 81 = .ok (.iload_n 1, 1) := by decide +kernel
theorem dX5_member_82 : decode cX5_member 82 = .ok (.iaload, 1) := by decide +kernel
theorem dX5_member_83 : decode cX5_member 83 = .ok (.ireturn, 1) := by decide +kernel
theorem dX5_member_84 : decode cX5_member 84 = .ok (.aload_n 0, 1) := by decide +kernel
theorem dX5_member_85 : decode cX5_member 85 = .ok (.getfield 10, 3) := by decide +kernel
theorem dX5_member_88 : decode cX5_member 88 = .ok (.getfield 132, 3) := by decide +kernel
theorem dX5_member_91 : decode cX5_member 91 = .ok (.iload_n 1, 1) := by decide +kernel
theorem dX5_member_92 : decode cX5_member 92 = .ok (.iaload, 1) := by decide +kernel
theorem dX5_member_93 : decode cX5_member 93 = .ok (.ireturn, 1) := by decide +kernel
theorem dX5_member_94 : decode cX5_member 94 = .ok (.aload_n 0, 1) := by decide +kernel
theorem dX5_member_95 : decode cX5_member 95 = .ok (.getfield 10, 3) := by decide +kernel
theorem dX5_member_98 : decode cX5_member 98 = .ok (.getfield 135, 3) := by decide +kernel
theorem dX5_member_101 : decode cX5_member 101 = .ok (.iload_n 1, 1) := by decide +kernel
