theorem dX5_bitsOf_34 : decode cX5_bitsOf 34 = .ok (.iinc 2 (-1), 3) := by decide +kernel
theorem dX5_bitsOf_37 : decode cX5_bitsOf 37 = .ok (.iinc 3 1, 3) := by decide +kernel
theorem dX5_bitsOf_40 : decode cX5_bitsOf 40 = .ok (.goto (-24), 3) := by decide +kernel
theorem dX5_bitsOf_43 : decode cX5_bitsOf 43 = .ok (.iload_n 2, 1) := by decide +kernel
theorem dX5_bitsOf_44 : decode cX5_bitsOf 44 = .ok (.bipush 23, 2) := by decide +kernel
theorem dX5_bitsOf_46 : decode cX5_bitsOf 46 = .ok (.ishl, 1) := by decide +kernel
theorem dX5_bitsOf_47 : decode cX5_bitsOf 47 = .ok (.fload_n 1, 1) := by decide +kernel
theorem dX5_bitsOf_48 : decode cX5_bitsOf 48 = .ok (.f2i, 1) := by decide +kernel
theorem dX5_bitsOf_49 : decode cX5_bitsOf 49 = .ok (.ldc_w 302, 3) := by decide +kernel
theorem dX5_bitsOf_52 : decode cX5_bitsOf 52 = .ok (.isub, 1) := by decide +kernel
theorem dX5_bitsOf_53 : decode cX5_bitsOf 53 = .ok (.iadd, 1) := by decide +kernel
theorem dX5_bitsOf_54 : decode cX5_bitsOf 54 = .ok (.ireturn, 1) := by decide +kernel
theorem dX6_init_0 : decode cX6_init 0 = .ok (.aload_n 0, 1) := by decide +kernel
theorem dX6_init_1 : decode cX6_init 1 = .ok (.invokespecial 1, 3) := by decide +kernel
theorem dX6_init_4 : decode cX6_init 4 = .ok (.aload_n 0, 1) := by decide +kernel
theorem dX6_init_5 : decode cX6_init 5 = .ok (.sipush 157, 3) := by decide +kernel
theorem dX6_init_8 : decode cX6_init 8 = .ok (.newarray .int, 2) := by decide +kernel
theorem dX6_init_10 : decode cX6_init 10 = .ok (.putfield 7, 3) := by decide +kernel
theorem dX6_init_13 : decode cX6_init 13 = .ok (.aload_n 0, 1) := by decide +kernel
theorem dX6_init_14 : decode cX6_init 14 = .ok (.sipush 2198, 3) := by decide +kernel
theorem dX6_init_17 : decode cX6_init 17 = .ok (.newarray .int, 2) := by decide +kernel
theorem dX6_init_19 : decode cX6_init 19 = .ok (.putfield 13, 3) := by decide +kernel
theorem dX6_init_22 : decode cX6_init 22 = .ok (.aload_n 0, 1) := by decide +kernel
theorem dX6_init_23 : decode cX6_init 23 = .ok (.sipush 314, 3) := by decide +kernel
theorem dX6_init_26 : decode cX6_init 26 = .ok (.newarray .int, 2) := by decide +kernel
theorem dX6_init_28 : decode cX6_init 28 = .ok (.putfield 16, 3) := by decide +kernel
theorem dX6_init_31 : decode cX6_init 31 = .ok (.aload_n 0, 1) := by decide +kernel
theorem dX6_init_32 : decode cX6_init 32 = .ok (.iconst 2, 1) := by decide +kernel
theorem dX6_init_33 : decode cX6_init 33 = .ok (.newarray .boolean, 2) := by decide +kernel
theorem dX6_init_35 : decode cX6_init 35 = .ok (.putfield 19, 3) := by decide +kernel
theorem dX6_init_38 : decode cX6_init 38 = .ok (.aload_n 0, 1) := by decide +kernel
theorem dX6_init_39 : decode cX6_init 39 = .ok (.sipush 157, 3) := by decide +kernel
theorem dX6_init_42 : decode cX6_init 42 = .ok (.newarray .int, 2) := by decide +kernel
theorem dX6_init_44 : decode cX6_init 44 = .ok (.putfield 23, 3) := by decide +kernel
theorem dX6_init_47 : decode cX6_init 47 = .ok (.aload_n 0, 1) := by decide +kernel
theorem dX6_init_48 : decode cX6_init 48 = .ok (.bipush 100, 2) := by decide +kernel
theorem dX6_init_50 : decode cX6_init 50 = .ok (.newarray .int, 2) := by decide +kernel
theorem dX6_init_52 : decode cX6_init 52 = .ok (.putfield 26, 3) := by decide +kernel
theorem dX6_init_55 : decode cX6_init 55 = .ok (.aload_n 0, 1) := by decide +kernel
theorem dX6_init_56 : decode cX6_init 56 = .ok (.bipush 8, 2) := by decide +kernel
theorem dX6_init_58 : decode cX6_init 58 = .ok (.newarray .boolean, 2) := by decide +kernel
theorem dX6_init_60 : decode cX6_init 60 = .ok (.putfield 29, 3) := by decide +kernel
theorem dX6_init_63 : decode cX6_init 63 = .ok (.aload_n 0, 1) := by decide +kernel
theorem dX6_init_64 : decode cX6_init 64 = .ok (.bipush 8, 2) := by decide +kernel
theorem dX6_init_66 : decode cX6_init 66 = .ok (.newarray .boolean, 2) := by decide +kernel
theorem dX6_init_68 : decode cX6_init 68 = .ok (.putfield 32, 3) := by decide +kernel
theorem dX6_init_71 : decode cX6_init 71 = .ok (.aload_n 0, 1) := by decide +kernel
theorem dX6_init_72 : decode cX6_init 72 = .ok (.sipush 157, 3) := by decide +kernel
theorem dX6_init_75 : decode cX6_init 75 = .ok (.newarray .int, 2) := by decide +kernel
theorem dX6_init_77 : decode cX6_init 77 = .ok (.putfield 35, 3) := by decide +kernel
theorem dX6_init_80 : decode cX6_init 80 = .ok (.aload_n 0, 1) := by decide +kernel
theorem dX6_init_81 : decode cX6_init 81 = .ok (.getfield 7, 3) := by decide +kernel
theorem dX6_init_84 : decode cX6_init 84 = .ok (.iconst 1, 1) := by decide +kernel
theorem dX6_init_85 : decode cX6_init 85 = .ok (.bipush 10, 2) := by decide +kernel
theorem dX6_init_87 : decode cX6_init 87 = .ok (.iastore, 1) := by decide +kernel
theorem dX6_init_88 : decode cX6_init 88 = .ok (.return_, 1) := by decide +kernel
theorem dX6_thrown_0 : decode cX6_thrown 0 = .ok (.aload_n 0, 1) := by decide +kernel
theorem dX6_thrown_1 : decode cX6_thrown 1 = .ok (.getfield 38, 3) := by decide +kernel
theorem dX6_thrown_4 : decode cX6_thrown 4 = .ok (.ireturn, 1) := by decide +kernel
theorem dX6_in_0 : decode cX6_in 0 = .ok (.iload_n 0, 1) := by decide +kernel
theorem dX6_in_1 : decode cX6_in 1 = .ok (.iload_n 1, 1) := by decide +kernel
theorem dX6_in_2 : decode cX6_in 2 = .ok (.if_icmp .lt 12, 3) := by decide +kernel
theorem dX6_in_5 : decode cX6_in 5 = .ok (.iload_n 0, 1) := by decide +kernel
theorem dX6_in_6 : decode cX6_in 6 = .ok (.iload_n 2, 1) := by decide +kernel
theorem dX6_in_7 : decode cX6_in 7 = .ok (.if_icmp .gt 7, 3) := by decide +kernel
theorem dX6_in_10 : decode cX6_in 10 = .ok (.iconst 1, 1) := by decide +kernel
theorem dX6_in_11 : decode cX6_in 11 = .ok (.goto 4, 3) := by decide +kernel
theorem dX6_in_14 : decode cX6_in 14 = .ok (.iconst 0, 1) := by decide +kernel
theorem dX6_in_15 : decode cX6_in 15 = .ok (.ireturn, 1) := by decide +kernel
theorem dX6_isMember_0 : decode cX6_isMember 0 = .ok (.iload_n 1, 1) := by decide +kernel
theorem dX6_isMember_1 : decode cX6_isMember 1 = .ok (.ifCond .lt 17, 3) := by decide +kernel
theorem dX6_isMember_4 : decode cX6_isMember 4 = .ok (.iload_n 1, 1) := by decide +kernel
theorem dX6_isMember_5 : decode cX6_isMember 5 = .ok (.aload_n 0, 1) := by decide +kernel
theorem dX6_isMember_6 : decode cX6_isMember 6 = .ok (.getfield 7, 3) := by decide +kernel
theorem dX6_isMember_9 : decode cX6_isMember 9 = .ok (.iconst 0, 1) := by decide +kernel
theorem dX6_isMember_10 : decode cX6_isMember 10 = .ok (.iaload, 1) := by decide +kernel
theorem dX6_isMember_11 : decode cX6_isMember 11 = .ok (.if_icmp .ge 7, 3) := by decide +kernel
theorem dX6_isMember_14 : decode cX6_isMember 14 = .ok (.iconst 1, 1) := by decide +kernel
theorem dX6_isMember_15 : decode cX6_isMember 15 = .ok (.goto 4, 3) := by decide +kernel
theorem dX6_isMember_18 : decode cX6_isMember 18 = .ok (.iconst 0, 1) := by decide +kernel
theorem dX6_isMember_19 : decode cX6_isMember 19 = .ok (.ireturn, 1) := by decide +kernel
theorem dX6_remember_0 : decode cX6_remember 0 = .ok (.aload_n 0, 1) := by decide +kernel
theorem dX6_remember_1 : decode cX6_remember 1 = .ok (.getfield 42, 3) := by decide +kernel
theorem dX6_remember_4 : decode cX6_remember 4 = .ok (.bipush 14, 2) := by decide +kernel
theorem dX6_remember_6 : decode cX6_remember 6 = .ok (.if_icmp .ne 44, 3) := by decide +kernel
theorem dX6_remember_9 : decode cX6_remember 9 = .ok (.iconst 0, 1) := by decide +kernel
theorem dX6_remember_10 : decode cX6_remember 10 = .ok (.istore_n 1, 1) := by decide +kernel
theorem dX6_remember_11 : decode cX6_remember 11 = .ok (.iload_n 1, 1) := by decide +kernel
theorem dX6_remember_12 : decode cX6_remember 12 = .ok (.sipush 2041, 3) := by decide +kernel
theorem dX6_remember_15 : decode cX6_remember 15 = .ok (.if_icmp .ge 25, 3) := by decide +kernel
theorem dX6_remember_18 : decode cX6_remember 18 = .ok (.aload_n 0, 1) := by decide +kernel
theorem dX6_remember_19 : decode cX6_remember 19 = .ok (.getfield 13, 3) := by decide +kernel
theorem dX6_remember_22 : decode cX6_remember 22 = .ok (.iload_n 1, 1) := by decide +kernel
theorem dX6_remember_23 : decode cX6_remember 23 = .ok (.aload_n 0, 1) := by decide +kernel
theorem dX6_remember_24 : decode cX6_remember 24 = .ok (.getfield 13, 3) := by decide +kernel
theorem dX6_remember_27 : decode cX6_remember 27 = .ok (.iload_n 1, 1) := by decide +kernel
theorem dX6_remember_28 : decode cX6_remember 28 = .ok (.sipush 157, 3) := by decide +kernel
theorem dX6_remember_31 : decode cX6_remember 31 = .ok (.iadd, 1) := by decide +kernel
theorem dX6_remember_32 : decode cX6_remember 32 = .ok (.iaload, 1) := by decide +kernel
theorem dX6_remember_33 : decode cX6_remember 33 = .ok (.iastore, 1) := by decide +kernel
theorem dX6_remember_34 : decode cX6_remember 34 = .ok (.iinc 1 1, 3) := by decide +kernel
theorem dX6_remember_37 : decode cX6_remember 37 = .ok (.goto (-26), 3) := by decide +kernel
theorem dX6_remember_40 : decode cX6_remember 40 = .ok (.aload_n 0, 1) := by decide +kernel
theorem dX6_remember_41 : decode cX6_remember 41 = .ok (.dup, 1) := by decide +kernel
theorem dX6_remember_42 : decode cX6_remember 42 = .ok (.getfield 42, 3) := by decide +kernel
theorem dX6_remember_45 : decode cX6_remember 45 = .ok (.iconst 1, 1) := by decide +kernel
theorem dX6_remember_46 : decode cX6_remember 46 = .ok (.isub, 1) := by decide +kernel
theorem dX6_remember_47 : decode cX6_remember 47 = .ok (.putfield 42, 3) := by decide +kernel
theorem dX6_remember_50 : decode cX6_remember 50 = .ok (.iconst 0, 1) := by decide +kernel
theorem dX6_remember_51 : decode cX6_remember 51 = .ok (.istore_n 1, 1) := by decide +kernel
theorem dX6_remember_52 : decode cX6_remember 52 = .ok (.iload_n 1, 1) := by decide +kernel
theorem dX6_remember_53 : decode cX6_remember 53 = .ok (.sipush 157, 3) := by decide +kernel
theorem dX6_remember_56 : decode cX6_remember 56 = .ok (.if_icmp .ge 30, 3) := by decide +kernel
theorem dX6_remember_59 : decode cX6_remember 59 = .ok (.aload_n 0, 1) := by decide +kernel
theorem dX6_remember_60 : decode cX6_remember 60 = .ok (.getfield 13, 3) := by decide +kernel
theorem dX6_remember_63 : decode cX6_remember 63 = .ok (.aload_n 0, 1) := by decide +kernel
theorem dX6_remember_64 : decode cX6_remember 64 = .ok (.getfield 42, 3) := by decide +kernel
theorem dX6_remember_67 : decode cX6_remember 67 = .ok (.sipush 157, 3) := by decide +kernel
theorem dX6_remember_70 : decode cX6_remember 70 = .ok (.imul, 1) := by decide +kernel
theorem dX6_remember_71 : decode cX6_remember 71 = .ok (.iload_n 1, 1) := by decide +kernel
theorem dX6_remember_72 : decode cX6_remember 72 = .ok (.iadd, 1) := by decide +kernel
theorem dX6_remember_73 : decode cX6_remember 73 = .ok (.aload_n 0, 1) := by decide +kernel
theorem dX6_remember_74 : decode cX6_remember 74 = .ok (.getfield 7, 3) := by decide +kernel
theorem dX6_remember_77 : decode cX6_remember 77 = .ok (.iload_n 1, 1) := by decide +kernel
theorem dX6_remember_78 : decode cX6_remember 78 = .ok (.iaload, 1) := by decide +kernel
theorem dX6_remember_79 : decode cX6_remember 79 = .ok (.iastore, 1) := by decide +kernel
theorem dX6_remember_80 : decode cX6_remember 80 = .ok (.iinc 1 1, 3) := by decide +kernel
theorem dX6_remember_83 : decode cX6_remember 83 = .ok (.goto (-31), 3) := by decide +kernel
theorem dX6_remember_86 : decode cX6_remember 86 = .ok (.aload_n 0, 1) := by decide +kernel
theorem dX6_remember_87 : decode cX6_remember 87 = .ok (.dup, 1) := by decide +kernel
theorem dX6_remember_88 : decode cX6_remember 88 = .ok (.getfield 42, 3) := by decide +kernel
theorem dX6_remember_91 : decode cX6_remember 91 = .ok (.iconst 1, 1) := by decide +kernel
theorem dX6_remember_92 : decode cX6_remember 92 = .ok (.iadd, 1) := by decide +kernel
theorem dX6_remember_93 : decode cX6_remember 93 = .ok (.putfield 42, 3) := by decide +kernel
theorem dX6_remember_96 : decode cX6_remember 96 = .ok (.return_, 1) := by decide +kernel
theorem dX6_undo_0 : decode cX6_undo 0 = .ok (.aload_n 0, 1) := by decide +kernel
theorem dX6_undo_1 : decode cX6_undo 1 = .ok (.aload_n 0, 1) := by decide +kernel
theorem dX6_undo_2 : decode cX6_undo 2 = .ok (.getfield 42, 3) := by decide +kernel
theorem dX6_undo_5 : decode cX6_undo 5 = .ok (.ifCond .ne 7, 3) := by decide +kernel
theorem dX6_undo_8 : decode cX6_undo 8 = .ok (.iconst 1, 1) := by decide +kernel
theorem dX6_undo_9 : decode cX6_undo 9 = .ok (.goto 4, 3) := by decide +kernel
theorem dX6_undo_12 : decode cX6_undo 12 = .ok (.iconst 0, 1) := by decide +kernel
theorem dX6_undo_13 : decode cX6_undo 13 = .ok (.putfield 38, 3) := by decide +kernel
theorem dX6_undo_16 : decode cX6_undo 16 = .ok (.aload_n 0, 1) := by decide +kernel
theorem dX6_undo_17 : decode cX6_undo 17 = .ok (.getfield 38, 3) := by decide +kernel
theorem dX6_undo_20 : decode cX6_undo 20 = .ok (.ifCond .le 5, 3) := by decide +kernel
theorem dX6_undo_23 : decode cX6_undo 23 = .ok (.iconst 0, 1) := by decide +kernel
theorem dX6_undo_24 : decode cX6_undo 24 = .ok (.ireturn, 1) := by decide +kernel
theorem dX6_undo_25 : decode cX6_undo 25 = .ok (.aload_n 0, 1) := by decide +kernel
theorem dX6_undo_26 : decode cX6_undo 26 = .ok (.dup, 1) := by decide +kernel
theorem dX6_undo_27 : decode cX6_undo 27 = .ok (.getfield 42, 3) := by decide +kernel
theorem dX6_undo_30 : decode cX6_undo 30 = .ok (.iconst 1, 1) := by decide +kernel
theorem dX6_undo_31 : decode cX6_undo 31 = .ok (.isub, 1) := by decide +kernel
theorem dX6_undo_32 : decode cX6_undo 32 = .ok (.putfield 42, 3) := by decide +kernel
theorem dX6_undo_35 : decode cX6_undo 35 = .ok (.iconst 0, 1) := by decide +kernel
theorem dX6_undo_36 : decode cX6_undo 36 = .ok (.istore_n 1, 1) := by decide +kernel
theorem dX6_undo_37 : decode cX6_undo 37 = .ok (.iload_n 1, 1) := by decide +kernel
theorem dX6_undo_38 : decode cX6_undo 38 = .ok (.sipush 157, 3) := by decide +kernel
theorem dX6_undo_41 : decode cX6_undo 41 = .ok (.if_icmp .ge 30, 3) := by decide +kernel
theorem dX6_undo_44 : decode cX6_undo 44 = .ok (.aload_n 0, 1) := by decide +kernel
theorem dX6_undo_45 : decode cX6_undo 45 = .ok (.getfield 7, 3) := by decide +kernel
theorem dX6_undo_48 : decode cX6_undo 48 = .ok (.iload_n 1, 1) := by decide +kernel
theorem dX6_undo_49 : decode cX6_undo 49 = .ok (.aload_n 0, 1) := by decide +kernel
theorem dX6_undo_50 : decode cX6_undo 50 = .ok (.getfield 13, 3) := by decide +kernel
theorem dX6_undo_53 : decode cX6_undo 53 = .ok (.aload_n 0, 1) := by decide +kernel
theorem dX6_undo_54 : decode cX6_undo 54 = .ok (.getfield 42, 3) := by decide +kernel
theorem dX6_undo_57 : decode cX6_undo 57 = .ok (.sipush 157, 3) := by decide +kernel
theorem dX6_undo_60 : decode cX6_undo 60 = .ok (.imul, 1) := by decide +kernel
theorem dX6_undo_61 : decode cX6_undo 61 = .ok (.iload_n 1, 1) := by decide +kernel
theorem dX6_undo_62 : decode cX6_undo 62 = .ok (.iadd, 1) := by decide +kernel
theorem dX6_undo_63 : decode cX6_undo 63 = .ok (.iaload, 1) := by decide +kernel
theorem dX6_undo_64 : decode cX6_undo 64 = .ok (.iastore, 1) := by decide +kernel
theorem dX6_undo_65 : decode cX6_undo 65 = .ok (.iinc 1 1, 3) := by decide +kernel
theorem dX6_undo_68 : decode cX6_undo 68 = .ok (.goto (-31), 3) := by decide +kernel
theorem dX6_undo_71 : decode cX6_undo 71 = .ok (.aload_n 0, 1) := by decide +kernel
theorem dX6_undo_72 : decode cX6_undo 72 = .ok (.getfield 42, 3) := by decide +kernel
theorem dX6_undo_75 : decode cX6_undo 75 = .ok (.ireturn, 1) := by decide +kernel
set_option maxRecDepth 20000 in
theorem ggX6_save_X6_in : GoodIn wsX6_save wsX6_in := goodIn_r _ [8] (by decide +kernel) (by decide +kernel)
set_option maxRecDepth 20000 in
theorem gX6_save_X6_in : GoodIn wsX6_save (va_wsS RX6 45 yX6_in wsX6_in) := goodIn_app (goodIn_of _ (by decide +kernel)) ggX6_save_X6_in
theorem dX6_save_0 : decode cX6_save 0 = .ok (.aload_n 0, 1) := by decide +kernel
theorem dX6_save_1 : decode cX6_save 1 = .ok (.iload_n 1, 1) := by decide +kernel
theorem dX6_save_2 : decode cX6_save 2 = .ok (.iconst 0, 1) := by decide +kernel
theorem dX6_save_3 : decode cX6_save 3 = .ok (.iconst 1, 1) := by decide +kernel
theorem dX6_save_4 : decode cX6_save 4 = .ok (.invokestatic 45, 3) := by decide +kernel
theorem dX6_save_7 : decode cX6_save 7 = .ok (.ifCond .eq 7, 3) := by decide +kernel
theorem dX6_save_10 : decode cX6_save 10 = .ok (.iconst 0, 1) := by decide +kernel
theorem dX6_save_11 : decode cX6_save 11 = .ok (.goto 4, 3) := by decide +kernel
theorem dX6_save_14 : decode cX6_save 14 = .ok (.iconst 1, 1) := by decide +kernel
theorem dX6_save_15 : decode cX6_save 15 = .ok (.putfield 38, 3) := by decide +kernel
theorem dX6_save_18 : decode cX6_save 18 = .ok (.aload_n 0, 1) := by decide +kernel
theorem dX6_save_19 : decode cX6_save 19 = .ok (.getfield 38, 3) := by decide +kernel
theorem dX6_save_22 : decode cX6_save 22 = .ok (.ifCond .le 5, 3) := by decide +kernel
theorem dX6_save_25 : decode cX6_save 25 = .ok (.iconst 0, 1) := by decide +kernel
theorem dX6_save_26 : decode cX6_save 26 = .ok (.ireturn, 1) := by decide +kernel
theorem dX6_save_27 : decode cX6_save 27 = .ok (.aload_n 0, 1) := by decide +kernel
theorem dX6_save_28 : decode cX6_save 28 = .ok (.getfield 19, 3) := by decide +kernel
theorem dX6_save_31 : decode cX6_save 31 = .ok (.iload_n 1, 1) := by decide +kernel
theorem dX6_save_32 : decode cX6_save 32 = .ok (.iconst 1, 1) := by decide +kernel
theorem dX6_save_33 : decode cX6_save 33 = .ok (.bastore, 1) := by decide +kernel
theorem dX6_save_34 : decode cX6_save 34 = .ok (.iconst 0, 1) := by decide +kernel
theorem dX6_save_35 : decode cX6_save 35 = .ok (.istore_n 2, 1) := by decide +kernel
theorem dX6_save_36 : decode cX6_save 36 = .ok (.iload_n 2, 1) := by decide +kernel
theorem dX6_save_37 : decode cX6_save 37 = .ok (.sipush 157, 3) := by decide +kernel
theorem dX6_save_40 : decode cX6_save 40 = .ok (.if_icmp .ge 27, 3) := by decide +kernel
theorem dX6_save_43 : decode cX6_save 43 = .ok (.aload_n 0, 1) := by decide +kernel
theorem dX6_save_44 : decode cX6_save 44 = .ok (.getfield 16, 3) := by decide +kernel
theorem dX6_save_47 : decode cX6_save 47 = .ok (.iload_n 1, 1) := by decide +kernel
theorem dX6_save_48 : decode cX6_save 48 = .ok (.sipush 157, 3) := by decide +kernel
theorem dX6_save_51 : decode cX6_save 51 = .ok (.imul, 1) := by decide +kernel
theorem dX6_save_52 : decode cX6_save 52 = .ok (.iload_n 2, 1) := by decide +kernel
theorem dX6_save_53 : decode cX6_save 53 = .ok (.iadd, 1) := by decide +kernel
theorem dX6_save_54 : decode cX6_save 54 = .ok (.aload_n 0, 1) := by decide +kernel
theorem dX6_save_55 : decode cX6_save 55 = .ok (.getfield 7, 3) := by decide +kernel
theorem dX6_save_58 : decode cX6_save 58 = .ok (.iload_n 2, 1) := by decide +kernel
theorem dX6_save_59 : decode cX6_save 59 = .ok (.iaload, 1) := by decide +kernel
theorem dX6_save_60 : decode cX6_save 60 = .ok (.iastore, 1) := by decide +kernel
theorem dX6_save_61 : decode cX6_save 61 = .ok (.iinc 2 1, 3) := by decide +kernel
theorem dX6_save_64 : decode cX6_save 64 = .ok (.goto (-28), 3) := by decide +kernel
theorem dX6_save_67 : decode cX6_save 67 = .ok (.aload_n 0, 1) := by decide +kernel
theorem dX6_save_68 : decode cX6_save 68 = .ok (.getfield 7, 3) := by decide +kernel
theorem dX6_save_71 : decode cX6_save 71 = .ok (.iconst 2, 1) := by decide +kernel
theorem dX6_save_72 : decode cX6_save 72 = .ok (.iaload, 1) := by decide +kernel
theorem dX6_save_73 : decode cX6_save 73 = .ok (.ireturn, 1) := by decide +kernel
set_option maxRecDepth 20000 in
theorem ggX6_restore_X6_in : GoodIn wsX6_restore wsX6_in := goodIn_r _ [9] (by decide +kernel) (by decide +kernel)
set_option maxRecDepth 20000 in
theorem gX6_restore_X6_in : GoodIn wsX6_restore (va_wsS RX6 45 yX6_in wsX6_in) := goodIn_app (goodIn_of _ (by decide +kernel)) ggX6_restore_X6_in
theorem dX6_restore_0 : decode cX6_restore 0 = .ok (.aload_n 0, 1) := by decide +kernel
theorem dX6_restore_1 : decode cX6_restore 1 = .ok (.iload_n 1, 1) := by decide +kernel
theorem dX6_restore_2 : decode cX6_restore 2 = .ok (.iconst 0, 1) := by decide +kernel
theorem dX6_restore_3 : decode cX6_restore 3 = .ok (.iconst 1, 1) := by decide +kernel
theorem dX6_restore_4 : decode cX6_restore 4 = .ok (.invokestatic 45, 3) := by decide +kernel
theorem dX6_restore_7 : decode cX6_restore 7 = .ok (.ifCond .ne 7, 3) := by decide +kernel
theorem dX6_restore_10 : decode cX6_restore 10 = .ok (.iconst 1, 1) := by decide +kernel
theorem dX6_restore_11 : decode cX6_restore 11 = .ok (.goto 17, 3) := by decide +kernel
theorem dX6_restore_14 : decode cX6_restore 14 = .ok (.aload_n 0, 1) := by decide +kernel
theorem dX6_restore_15 : decode cX6_restore 15 = .ok (.getfield 19, 3) := by decide +kernel
theorem dX6_restore_18 : decode cX6_restore 18 = .ok (.iload_n 1, 1) := by decide +kernel
theorem dX6_restore_19 : decode cX6_restore 19 = .ok (.baload, 1) := by decide +kernel
theorem dX6_restore_20 : decode cX6_restore 20 = .ok (.ifCond .eq 7, 3) := by decide +kernel
theorem dX6_restore_23 : decode cX6_restore 23 = .ok (.iconst 0, 1) := by decide +kernel
theorem dX6_restore_24 : decode cX6_restore 24 = .ok (.goto 4, 3) := by decide +kernel
theorem dX6_restore_27 : decode cX6_restore 27 = .ok (.iconst 2, 1) := by decide +kernel
theorem dX6_restore_28 : decode cX6_restore 28 = .ok (.putfield 38, 3) := by decide +kernel
theorem dX6_restore_31 : decode cX6_restore 31 = .ok (.aload_n 0, 1) := by decide +kernel
theorem dX6_restore_32 : decode cX6_restore 32 = .ok (.getfield 38, 3) := by decide +kernel
theorem dX6_restore_35 : decode cX6_restore 35 = .ok (.ifCond .le 5, 3) := by decide +kernel
theorem dX6_restore_38 : decode cX6_restore 38 = .ok (.iconst 0, 1) := by decide +kernel
theorem dX6_restore_39 : decode cX6_restore 39 = .ok (.ireturn, 1) := by decide +kernel
theorem dX6_restore_40 : decode cX6_restore 40 = .ok (.iconst 0, 1) := by decide +kernel
theorem dX6_restore_41 : decode cX6_restore 41 = .ok (.istore_n 2, 1) := by decide +kernel
theorem dX6_restore_42 : decode cX6_restore 42 = .ok (.iload_n 2, 1) := by decide +kernel
theorem dX6_restore_43 : decode cX6_restore 43 = .ok (.sipush 157, 3) := by decide +kernel
theorem dX6_restore_46 : decode cX6_restore 46 = .ok (.if_icmp .ge 27, 3) := by decide +kernel
theorem dX6_restore_49 : decode cX6_restore 49 = .ok (.aload_n 0, 1) := by decide +kernel
theorem dX6_restore_50 : decode cX6_restore 50 = .ok (.getfield 7, 3) := by decide +kernel
theorem dX6_restore_53 : decode cX6_restore 53 = .ok (.iload_n 2, 1) := by decide +kernel
theorem dX6_restore_54 : decode cX6_restore 54 = .ok (.aload_n 0, 1) := by decide +kernel
theorem dX6_restore_55 : decode cX6_restore 55 = .ok (.getfield 16, 3) := by decide +kernel
theorem dX6_restore_58 : decode cX6_restore 58 = .ok (.iload_n 1, 1) := by decide +kernel
theorem dX6_restore_59 : decode cX6_restore 59 = .ok (.sipush 157, 3) := by decide +kernel
theorem dX6_restore_62 : decode cX6_restore 62 = .ok (.imul, 1) := by decide +kernel
theorem dX6_restore_63 : decode cX6_restore 63 = .ok (.iload_n 2, 1) := by decide +kernel
theorem dX6_restore_64 : decode cX6_restore 64 = .ok (.iadd, 1) := by decide +kernel
theorem dX6_restore_65 : decode cX6_restore 65 = .ok (.iaload, 1) := by decide +kernel
theorem dX6_restore_66 : decode cX6_restore 66 = .ok (.iastore, 1) := by decide +kernel
theorem dX6_restore_67 : decode cX6_restore 67 = .ok (.iinc 2 1, 3) := by decide +kernel
theorem dX6_restore_70 : decode cX6_restore 70 = .ok (.goto (-28), 3) := by decide +kernel
theorem dX6_restore_73 : decode cX6_restore 73 = .ok (.aload_n 0, 1) := by decide +kernel
theorem dX6_restore_74 : decode cX6_restore 74 = .ok (.iconst 0, 1) := by decide +kernel
theorem dX6_restore_75 : decode cX6_restore 75 = .ok (.putfield 42, 3) := by decide +kernel
theorem dX6_restore_78 : decode cX6_restore 78 = .ok (.aload_n 0, 1) := by decide +kernel
theorem dX6_restore_79 : decode cX6_restore 79 = .ok (.getfield 7, 3) := by decide +kernel
theorem dX6_restore_82 : decode cX6_restore 82 = .ok (.iconst 2, 1) := by decide +kernel
theorem dX6_restore_83 : decode cX6_restore 83 = .ok (.iaload, 1) := by decide +kernel
theorem dX6_restore_84 : decode cX6_restore 84 = .ok (.ireturn, 1) := by decide +kernel
theorem dX6_putAside_0 : decode cX6_putAside 0 = .ok (.iconst 0, 1) := by decide +kernel
theorem dX6_putAside_1 : decode cX6_putAside 1 = .ok (.istore_n 1, 1) := by decide +kernel
theorem dX6_putAside_2 : decode cX6_putAside 2 = .ok (.iload_n 1, 1) := by decide +kernel
theorem dX6_putAside_3 : decode cX6_putAside 3 = .ok (.sipush 157, 3) := by decide +kernel
theorem dX6_putAside_6 : decode cX6_putAside 6 = .ok (.if_icmp .ge 21, 3) := by decide +kernel
theorem dX6_putAside_9 : decode cX6_putAside 9 = .ok (.aload_n 0, 1) := by decide +kernel
theorem dX6_putAside_10 : decode cX6_putAside 10 = .ok (.getfield 23, 3) := by decide +kernel
theorem dX6_putAside_13 : decode cX6_putAside 13 = .ok (.iload_n 1, 1) := by decide +kernel
theorem dX6_putAside_14 : decode cX6_putAside 14 = .ok (.aload_n 0, 1) := by decide +kernel
theorem dX6_putAside_15 : decode cX6_putAside 15 = .ok (.getfield 7, 3) := by decide +kernel
theorem dX6_putAside_18 : decode cX6_putAside 18 = .ok (.iload_n 1, 1) := by decide +kernel
theorem dX6_putAside_19 : decode cX6_putAside 19 = .ok (.iaload, 1) := by decide +kernel
theorem dX6_putAside_20 : decode cX6_putAside 20 = .ok (.iastore, 1) := by decide +kernel
theorem dX6_putAside_21 : decode cX6_putAside 21 = .ok (.iinc 1 1, 3) := by decide +kernel
theorem dX6_putAside_24 : decode cX6_putAside 24 = .ok (.goto (-22), 3) := by decide +kernel
theorem dX6_putAside_27 : decode cX6_putAside 27 = .ok (.return_, 1) := by decide +kernel
theorem dX6_bringBack_0 : decode cX6_bringBack 0 = .ok (.iconst 0, 1) := by decide +kernel
theorem dX6_bringBack_1 : decode cX6_bringBack 1 = .ok (.istore_n 1, 1) := by decide +kernel
theorem dX6_bringBack_2 : decode cX6_bringBack 2 = .ok (.iload_n 1, 1) := by decide +kernel
theorem dX6_bringBack_3 : decode cX6_bringBack 3 = .ok (.sipush 157, 3) := by decide +kernel
theorem dX6_bringBack_6 : decode cX6_bringBack 6 = .ok (.if_icmp .ge 21, 3) := by decide +kernel
theorem dX6_bringBack_9 : decode cX6_bringBack 9 = .ok (.aload_n 0, 1) := by decide +kernel
theorem dX6_bringBack_10 : decode cX6_bringBack 10 = .ok (.getfield 7, 3) := by decide +kernel
theorem dX6_bringBack_13 : decode cX6_bringBack 13 = .ok (.iload_n 1, 1) := by decide +kernel
theorem dX6_bringBack_14 : decode cX6_bringBack 14 = .ok (.aload_n 0, 1) := by decide +kernel
theorem dX6_bringBack_15 : decode cX6_bringBack 15 = .ok (.getfield 23, 3) := by decide +kernel
theorem dX6_bringBack_18 : decode cX6_bringBack 18 = .ok (.iload_n 1, 1) := by decide +kernel
theorem dX6_bringBack_19 : decode cX6_bringBack 19 = .ok (.iaload, 1) := by decide +kernel
theorem dX6_bringBack_20 : decode cX6_bringBack 20 = .ok (.iastore, 1) := by decide +kernel
theorem dX6_bringBack_21 : decode cX6_bringBack 21 = .ok (.iinc 1 1, 3) := by decide +kernel
theorem dX6_bringBack_24 : decode cX6_bringBack 24 = .ok (.goto (-22), 3) := by decide +kernel
theorem dX6_bringBack_27 : decode cX6_bringBack 27 = .ok (.return_, 1) := by decide +kernel
theorem dX6_pay_0 : decode cX6_pay 0 = .ok (.aload_n 0, 1) := by decide +kernel
theorem dX6_pay_1 : decode cX6_pay 1 = .ok (.getfield 7, 3) := by decide +kernel
theorem dX6_pay_4 : decode cX6_pay 4 = .ok (.iconst 1, 1) := by decide +kernel
theorem dX6_pay_5 : decode cX6_pay 5 = .ok (.iaload, 1) := by decide +kernel
theorem dX6_pay_6 : decode cX6_pay 6 = .ok (.istore_n 1, 1) := by decide +kernel
theorem dX6_pay_7 : decode cX6_pay 7 = .ok (.iconst 0, 1) := by decide +kernel
theorem dX6_pay_8 : decode cX6_pay 8 = .ok (.istore_n 2, 1) := by decide +kernel
theorem dX6_pay_9 : decode cX6_pay 9 = .ok (.iconst 0, 1) := by decide +kernel
theorem dX6_pay_10 : decode cX6_pay 10 = .ok (.istore_n 3, 1) := by decide +kernel
theorem dX6_pay_11 : decode cX6_pay 11 = .ok (.iload_n 3, 1) := by decide +kernel
theorem dX6_pay_12 : decode cX6_pay 12 = .ok (.bipush 8, 2) := by decide +kernel
theorem dX6_pay_14 : decode cX6_pay 14 = .ok (.if_icmp .ge 112, 3) := by decide +kernel
theorem dX6_pay_17 : decode cX6_pay 17 = .ok (.aload_n 0, 1) := by decide +kernel
theorem dX6_pay_18 : decode cX6_pay 18 = .ok (.getfield 32, 3) := by decide +kernel
theorem dX6_pay_21 : decode cX6_pay 21 = .ok (.iload_n 3, 1) := by decide +kernel
theorem dX6_pay_22 : decode cX6_pay 22 = .ok (.iconst 0, 1) := by decide +kernel
theorem dX6_pay_23 : decode cX6_pay 23 = .ok (.bastore, 1) := by decide +kernel
theorem dX6_pay_24 : decode cX6_pay 24 = .ok (.aload_n 0, 1) := by decide +kernel
theorem dX6_pay_25 : decode cX6_pay 25 = .ok (.getfield 29, 3) := by decide +kernel
theorem dX6_pay_28 : decode cX6_pay 28 = .ok (.iload_n 3, 1) := by decide +kernel
theorem dX6_pay_29 : decode cX6_pay 29 = .ok (.iload_n 3, 1) := by decide +kernel
theorem dX6_pay_30 : decode cX6_pay 30 = .ok (.aload_n 0, 1) := by decide +kernel
theorem dX6_pay_31 : decode cX6_pay 31 = .ok (.getfield 7, 3) := by decide +kernel
theorem dX6_pay_34 : decode cX6_pay 34 = .ok (.iconst 0, 1) := by decide +kernel
theorem dX6_pay_35 : decode cX6_pay 35 = .ok (.iaload, 1) := by decide +kernel
theorem dX6_pay_36 : decode cX6_pay 36 = .ok (.if_icmp .ge 44, 3) := by decide +kernel
theorem dX6_pay_39 : decode cX6_pay 39 = .ok (.aload_n 0, 1) := by decide +kernel
theorem dX6_pay_40 : decode cX6_pay 40 = .ok (.getfield 7, 3) := by decide +kernel
theorem dX6_pay_43 : decode cX6_pay 43 = .ok (.bipush 45, 2) := by decide +kernel
theorem dX6_pay_45 : decode cX6_pay 45 = .ok (.iload_n 3, 1) := by decide +kernel
theorem dX6_pay_46 : decode cX6_pay 46 = .ok (.iadd, 1) := by decide +kernel
theorem dX6_pay_47 : decode cX6_pay 47 = .ok (.iaload, 1) := by decide +kernel
theorem dX6_pay_48 : decode cX6_pay 48 = .ok (.iconst 1, 1) := by decide +kernel
theorem dX6_pay_49 : decode cX6_pay 49 = .ok (.if_icmp .ne 31, 3) := by decide +kernel
theorem dX6_pay_52 : decode cX6_pay 52 = .ok (.aload_n 0, 1) := by decide +kernel
theorem dX6_pay_53 : decode cX6_pay 53 = .ok (.getfield 7, 3) := by decide +kernel
theorem dX6_pay_56 : decode cX6_pay 56 = .ok (.bipush 29, 2) := by decide +kernel
theorem dX6_pay_58 : decode cX6_pay 58 = .ok (.iload_n 3, 1) := by decide +kernel
theorem dX6_pay_59 : decode cX6_pay 59 = .ok (.iadd, 1) := by decide +kernel
theorem dX6_pay_60 : decode cX6_pay 60 = .ok (.iaload, 1) := by decide +kernel
theorem dX6_pay_61 : decode cX6_pay 61 = .ok (.ifCond .ne 19, 3) := by decide +kernel
theorem dX6_pay_64 : decode cX6_pay 64 = .ok (.aload_n 0, 1) := by decide +kernel
theorem dX6_pay_65 : decode cX6_pay 65 = .ok (.getfield 7, 3) := by decide +kernel
theorem dX6_pay_68 : decode cX6_pay 68 = .ok (.iconst 5, 1) := by decide +kernel
theorem dX6_pay_69 : decode cX6_pay 69 = .ok (.iload_n 3, 1) := by decide +kernel
theorem dX6_pay_70 : decode cX6_pay 70 = .ok (.iadd, 1) := by decide +kernel
theorem dX6_pay_71 : decode cX6_pay 71 = .ok (.iaload, 1) := by decide +kernel
theorem dX6_pay_72 : decode cX6_pay 72 = .ok (.iload_n 1, 1) := by decide +kernel
theorem dX6_pay_73 : decode cX6_pay 73 = .ok (.if_icmp .lt 7, 3) := by decide +kernel
theorem dX6_pay_76 : decode cX6_pay 76 = .ok (.iconst 1, 1) := by decide +kernel
theorem dX6_pay_77 : decode cX6_pay 77 = .ok (.goto 4, 3) := by decide +kernel
theorem dX6_pay_80 : decode cX6_pay 80 = .ok (.iconst 0, 1) := by decide +kernel
theorem dX6_pay_81 : decode cX6_pay 81 = .ok (.bastore, 1) := by decide +kernel
theorem dX6_pay_82 : decode cX6_pay 82 = .ok (.aload_n 0, 1) := by decide +kernel
theorem dX6_pay_83 : decode cX6_pay 83 = .ok (.getfield 29, 3) := by decide +kernel
theorem dX6_pay_86 : decode cX6_pay 86 = .ok (.iload_n 3, 1) := by decide +kernel
theorem dX6_pay_87 : decode cX6_pay 87 = .ok (.baload, 1) := by decide +kernel
theorem dX6_pay_88 : decode cX6_pay 88 = .ok (.ifCond .eq 32, 3) := by decide +kernel
theorem dX6_pay_91 : decode cX6_pay 91 = .ok (.aload_n 0, 1) := by decide +kernel
theorem dX6_pay_92 : decode cX6_pay 92 = .ok (.getfield 7, 3) := by decide +kernel
theorem dX6_pay_95 : decode cX6_pay 95 = .ok (.iconst 5, 1) := by decide +kernel
theorem dX6_pay_96 : decode cX6_pay 96 = .ok (.iload_n 3, 1) := by decide +kernel
theorem dX6_pay_97 : decode cX6_pay 97 = .ok (.iadd, 1) := by decide +kernel
theorem dX6_pay_98 : decode cX6_pay 98 = .ok (.dup2, 1) := by decide +kernel
theorem dX6_pay_99 : decode cX6_pay 99 = .ok (.iaload, 1) := by decide +kernel
theorem dX6_pay_100 : decode cX6_pay 100 = .ok (.iload_n 1, 1) := by decide +kernel
theorem dX6_pay_101 : decode cX6_pay 101 = .ok (.isub, 1) := by decide +kernel
theorem dX6_pay_102 : decode cX6_pay 102 = .ok (.iastore, 1) := by decide +kernel
theorem dX6_pay_103 : decode cX6_pay 103 = .ok (.aload_n 0, 1) := by decide +kernel
theorem dX6_pay_104 : decode cX6_pay 104 = .ok (.getfield 7, 3) := by decide +kernel
theorem dX6_pay_107 : decode cX6_pay 107 = .ok (.bipush 53, 2) := by decide +kernel
theorem dX6_pay_109 : decode cX6_pay 109 = .ok (.iload_n 3, 1) := by decide +kernel
theorem dX6_pay_110 : decode cX6_pay 110 = .ok (.iadd, 1) := by decide +kernel
theorem dX6_pay_111 : decode cX6_pay 111 = .ok (.dup2, 1) := by decide +kernel
theorem dX6_pay_112 : decode cX6_pay 112 = .ok (.iaload, 1) := by decide +kernel
theorem dX6_pay_113 : decode cX6_pay 113 = .ok (.iload_n 1, 1) := by decide +kernel
theorem dX6_pay_114 : decode cX6_pay 114 = .ok (.iadd, 1) := by decide +kernel
theorem dX6_pay_115 : decode cX6_pay 115 = .ok (.iastore, 1) := by decide +kernel
theorem dX6_pay_116 : decode cX6_pay 116 = .ok (.iload_n 2, 1) := by decide +kernel
theorem dX6_pay_117 : decode cX6_pay 117 = .ok (.iload_n 1, 1) := by decide +kernel
theorem dX6_pay_118 : decode cX6_pay 118 = .ok (.iadd, 1) := by decide +kernel
theorem dX6_pay_119 : decode cX6_pay 119 = .ok (.istore_n 2, 1) := by decide +kernel
theorem dX6_pay_120 : decode cX6_pay 120 = .ok (.iinc 3 1, 3) := by decide +kernel
theorem dX6_pay_123 : decode cX6_pay 123 = .ok (.goto (-112), 3) := by decide +kernel
theorem dX6_pay_126 : decode cX6_pay 126 = .ok (.iload_n 2, 1) := by decide +kernel
theorem dX6_pay_127 : decode cX6_pay 127 = .ok (.ireturn, 1) := by decide +kernel
theorem dX6_payForOthers_0 : decode cX6_payForOthers 0 = .ok (.aload_n 0, 1) := by decide +kernel
theorem dX6_payForOthers_1 : decode cX6_payForOthers 1 = .ok (.getfield 7, 3) := by decide +kernel
theorem dX6_payForOthers_4 : decode cX6_payForOthers 4 = .ok (.iconst 1, 1) := by decide +kernel
theorem dX6_payForOthers_5 : decode cX6_payForOthers 5 = .ok (.iaload, 1) := by decide +kernel
theorem dX6_payForOthers_6 : decode cX6_payForOthers 6 = .ok (.istore_n 1, 1) := by decide +kernel
theorem dX6_payForOthers_7 : decode cX6_payForOthers 7 = .ok (.iconst 0, 1) := by decide +kernel
theorem dX6_payForOthers_8 : decode cX6_payForOthers 8 = .ok (.istore_n 2, 1) := by decide +kernel
theorem dX6_payForOthers_9 : decode cX6_payForOthers 9 = .ok (.iconst 0, 1) := by decide +kernel
theorem dX6_payForOthers_10 : decode cX6_payForOthers 10 = .ok (.istore_n 3, 1) := by decide +kernel
theorem dX6_payForOthers_11 : decode cX6_payForOthers 11 = .ok (.iload_n 3, 1) := by decide +kernel
theorem dX6_payForOthers_12 : decode cX6_payForOthers 12 = .ok (.aload_n 0, 1) := by decide +kernel
theorem dX6_payForOthers_13 : decode cX6_payForOthers 13 = .ok (.getfield 7, 3) := by decide +kernel
theorem dX6_payForOthers_16 : decode cX6_payForOthers 16 = .ok (.iconst 0, 1) := by decide +kernel
theorem dX6_payForOthers_17 : decode cX6_payForOthers 17 = .ok (.iaload, 1) := by decide +kernel
theorem dX6_payForOthers_18 : decode cX6_payForOthers 18 = .ok (.if_icmp .ge 147, 3) := by decide +kernel
theorem dX6_payForOthers_21 : decode cX6_payForOthers 21 = .ok (.aload_n 0, 1) := by decide +kernel
theorem dX6_payForOthers_22 : decode cX6_payForOthers 22 = .ok (.getfield 7, 3) := by decide +kernel
theorem dX6_payForOthers_25 : decode cX6_payForOthers 25 = .ok (.bipush 45, 2) := by decide +kernel
theorem dX6_payForOthers_27 : decode cX6_payForOthers 27 = .ok (.iload_n 3, 1) := by decide +kernel
theorem dX6_payForOthers_28 : decode cX6_payForOthers 28 = .ok (.iadd, 1) := by decide +kernel
theorem dX6_payForOthers_29 : decode cX6_payForOthers 29 = .ok (.iaload, 1) := by decide +kernel
theorem dX6_payForOthers_30 : decode cX6_payForOthers 30 = .ok (.ifCond .eq 129, 3) := by decide +kernel
theorem dX6_payForOthers_33 : decode cX6_payForOthers 33 = .ok (.aload_n 0, 1) := by decide +kernel
theorem dX6_payForOthers_34 : decode cX6_payForOthers 34 = .ok (.getfield 29, 3) := by decide +kernel
theorem dX6_payForOthers_37 : decode cX6_payForOthers 37 = .ok (.iload_n 3, 1) := by decide +kernel
theorem dX6_payForOthers_38 : decode cX6_payForOthers 38 = .ok (.baload, 1) := by decide +kernel
theorem dX6_payForOthers_39 : decode cX6_payForOthers 39 = .ok (.ifCond .eq 6, 3) := by decide +kernel
theorem dX6_payForOthers_42 : decode cX6_payForOthers 42 = .ok (.goto 117, 3) := by decide +kernel
theorem dX6_payForOthers_45 : decode cX6_payForOthers 45 = .ok (.aload_n 0, 1) := by decide +kernel
theorem dX6_payForOthers_46 : decode cX6_payForOthers 46 = .ok (.getfield 7, 3) := by decide +kernel
theorem dX6_payForOthers_49 : decode cX6_payForOthers 49 = .ok (.bipush 13, 2) := by decide +kernel
theorem dX6_payForOthers_51 : decode cX6_payForOthers 51 = .ok (.iload_n 3, 1) := by decide +kernel
theorem dX6_payForOthers_52 : decode cX6_payForOthers 52 = .ok (.iadd, 1) := by decide +kernel
theorem dX6_payForOthers_53 : decode cX6_payForOthers 53 = .ok (.iaload, 1) := by decide +kernel
theorem dX6_payForOthers_54 : decode cX6_payForOthers 54 = .ok (.istore 4, 2) := by decide +kernel
theorem dX6_payForOthers_56 : decode cX6_payForOthers 56 = .ok (.iload 4, 2) := by decide +kernel
theorem dX6_payForOthers_58 : decode cX6_payForOthers 58 = .ok (.ldc 49, 2) := by decide +kernel
theorem dX6_payForOthers_60 : decode cX6_payForOthers 60 = .ok (.if_icmp .eq 79, 3) := by decide +kernel
theorem dX6_payForOthers_63 : decode cX6_payForOthers 63 = .ok (.aload_n 0, 1) := by decide +kernel
theorem dX6_payForOthers_64 : decode cX6_payForOthers 64 = .ok (.getfield 29, 3) := by decide +kernel
theorem dX6_payForOthers_67 : decode cX6_payForOthers 67 = .ok (.iload 4, 2) := by decide +kernel
theorem dX6_payForOthers_69 : decode cX6_payForOthers 69 = .ok (.baload, 1) := by decide +kernel
theorem dX6_payForOthers_70 : decode cX6_payForOthers 70 = .ok (.ifCond .eq 69, 3) := by decide +kernel
theorem dX6_payForOthers_73 : decode cX6_payForOthers 73 = .ok (.aload_n 0, 1) := by decide +kernel
theorem dX6_payForOthers_74 : decode cX6_payForOthers 74 = .ok (.getfield 7, 3) := by decide +kernel
theorem dX6_payForOthers_77 : decode cX6_payForOthers 77 = .ok (.iconst 5, 1) := by decide +kernel
theorem dX6_payForOthers_78 : decode cX6_payForOthers 78 = .ok (.iload 4, 2) := by decide +kernel
theorem dX6_payForOthers_80 : decode cX6_payForOthers 80 = .ok (.iadd, 1) := by decide +kernel
theorem dX6_payForOthers_81 : decode cX6_payForOthers 81 = .ok (.iaload, 1) := by decide +kernel
theorem dX6_payForOthers_82 : decode cX6_payForOthers 82 = .ok (.iload_n 1, 1) := by decide +kernel
theorem dX6_payForOthers_83 : decode cX6_payForOthers 83 = .ok (.if_icmp .lt 56, 3) := by decide +kernel
theorem dX6_payForOthers_86 : decode cX6_payForOthers 86 = .ok (.aload_n 0, 1) := by decide +kernel
theorem dX6_payForOthers_87 : decode cX6_payForOthers 87 = .ok (.getfield 7, 3) := by decide +kernel
theorem dX6_payForOthers_90 : decode cX6_payForOthers 90 = .ok (.iconst 5, 1) := by decide +kernel
theorem dX6_payForOthers_91 : decode cX6_payForOthers 91 = .ok (.iload 4, 2) := by decide +kernel
theorem dX6_payForOthers_93 : decode cX6_payForOthers 93 = .ok (.iadd, 1) := by decide +kernel
theorem dX6_payForOthers_94 : decode cX6_payForOthers 94 = .ok (.dup2, 1) := by decide +kernel
theorem dX6_payForOthers_95 : decode cX6_payForOthers 95 = .ok (.iaload, 1) := by decide +kernel
theorem dX6_payForOthers_96 : decode cX6_payForOthers 96 = .ok (.iload_n 1, 1) := by decide +kernel
theorem dX6_payForOthers_97 : decode cX6_payForOthers 97 = .ok (.isub, 1) := by decide +kernel
theorem dX6_payForOthers_98 : decode cX6_payForOthers 98 = .ok (.iastore, 1) := by decide +kernel
theorem dX6_payForOthers_99 : decode cX6_payForOthers 99 = .ok (.aload_n 0, 1) := by decide +kernel
theorem dX6_payForOthers_100 : decode cX6_payForOthers 100 = .ok (.getfield 7, 3) := by decide +kernel
theorem dX6_payForOthers_103 : decode cX6_payForOthers 103 = .ok (.bipush 61, 2) := by decide +kernel
theorem dX6_payForOthers_105 : decode cX6_payForOthers 105 = .ok (.iload 4, 2) := by decide +kernel
theorem dX6_payForOthers_107 : decode cX6_payForOthers 107 = .ok (.iadd, 1) := by decide +kernel
theorem dX6_payForOthers_108 : decode cX6_payForOthers 108 = .ok (.dup2, 1) := by decide +kernel
theorem dX6_payForOthers_109 : decode cX6_payForOthers 109 = .ok (.iaload, 1) := by decide +kernel
theorem dX6_payForOthers_110 : decode cX6_payForOthers 110 = .ok (.iload_n 1, 1) := by decide +kernel
theorem dX6_payForOthers_111 : decode cX6_payForOthers 111 = .ok (.iadd, 1) := by decide +kernel
theorem dX6_payForOthers_112 : decode cX6_payForOthers 112 = .ok (.iastore, 1) := by decide +kernel
theorem dX6_payForOthers_113 : decode cX6_payForOthers 113 = .ok (.aload_n 0, 1) := by decide +kernel
theorem dX6_payForOthers_114 : decode cX6_payForOthers 114 = .ok (.getfield 7, 3) := by decide +kernel
theorem dX6_payForOthers_117 : decode cX6_payForOthers 117 = .ok (.bipush 93, 2) := by decide +kernel
theorem dX6_payForOthers_119 : decode cX6_payForOthers 119 = .ok (.bipush 8, 2) := by decide +kernel
theorem dX6_payForOthers_121 : decode cX6_payForOthers 121 = .ok (.iload_n 3, 1) := by decide +kernel
theorem dX6_payForOthers_122 : decode cX6_payForOthers 122 = .ok (.imul, 1) := by decide +kernel
theorem dX6_payForOthers_123 : decode cX6_payForOthers 123 = .ok (.iadd, 1) := by decide +kernel
theorem dX6_payForOthers_124 : decode cX6_payForOthers 124 = .ok (.iload 4, 2) := by decide +kernel
theorem dX6_payForOthers_126 : decode cX6_payForOthers 126 = .ok (.iadd, 1) := by decide +kernel
theorem dX6_payForOthers_127 : decode cX6_payForOthers 127 = .ok (.dup2, 1) := by decide +kernel
theorem dX6_payForOthers_128 : decode cX6_payForOthers 128 = .ok (.iaload, 1) := by decide +kernel
theorem dX6_payForOthers_129 : decode cX6_payForOthers 129 = .ok (.iload_n 1, 1) := by decide +kernel
theorem dX6_payForOthers_130 : decode cX6_payForOthers 130 = .ok (.iadd, 1) := by decide +kernel
theorem dX6_payForOthers_131 : decode cX6_payForOthers 131 = .ok (.iastore, 1) := by decide +kernel
theorem dX6_payForOthers_132 : decode cX6_payForOthers 132 = .ok (.iload_n 2, 1) := by decide +kernel
theorem dX6_payForOthers_133 : decode cX6_payForOthers 133 = .ok (.iload_n 1, 1) := by decide +kernel
theorem dX6_payForOthers_134 : decode cX6_payForOthers 134 = .ok (.iadd, 1) := by decide +kernel
theorem dX6_payForOthers_135 : decode cX6_payForOthers 135 = .ok (.istore_n 2, 1) := by decide +kernel
theorem dX6_payForOthers_136 : decode cX6_payForOthers 136 = .ok (.goto 23, 3) := by decide +kernel
theorem dX6_payForOthers_139 : decode cX6_payForOthers 139 = .ok (.aload_n 0, 1) := by decide +kernel
theorem dX6_payForOthers_140 : decode cX6_payForOthers 140 = .ok (.getfield 32, 3) := by decide +kernel
theorem dX6_payForOthers_143 : decode cX6_payForOthers 143 = .ok (.iload_n 3, 1) := by decide +kernel
theorem dX6_payForOthers_144 : decode cX6_payForOthers 144 = .ok (.iconst 1, 1) := by decide +kernel
theorem dX6_payForOthers_145 : decode cX6_payForOthers 145 = .ok (.bastore, 1) := by decide +kernel
theorem dX6_payForOthers_146 : decode cX6_payForOthers 146 = .ok (.aload_n 0, 1) := by decide +kernel
theorem dX6_payForOthers_147 : decode cX6_payForOthers 147 = .ok (.getfield 7, 3) := by decide +kernel
theorem dX6_payForOthers_150 : decode cX6_payForOthers 150 = .ok (.bipush 85, 2) := by decide +kernel
theorem dX6_payForOthers_152 : decode cX6_payForOthers 152 = .ok (.iload_n 3, 1) := by decide +kernel
theorem dX6_payForOthers_153 : decode cX6_payForOthers 153 = .ok (.iadd, 1) := by decide +kernel
theorem dX6_payForOthers_154 : decode cX6_payForOthers 154 = .ok (.dup2, 1) := by decide +kernel
theorem dX6_payForOthers_155 : decode cX6_payForOthers 155 = .ok (.iaload, 1) := by decide +kernel
theorem dX6_payForOthers_156 : decode cX6_payForOthers 156 = .ok (.iconst 1, 1) := by decide +kernel
theorem dX6_payForOthers_157 : decode cX6_payForOthers 157 = .ok (.iadd, 1) := by decide +kernel
theorem dX6_payForOthers_158 : decode cX6_payForOthers 158 = .ok (.iastore, 1) := by decide +kernel
theorem dX6_payForOthers_159 : decode cX6_payForOthers 159 = .ok (.iinc 3 1, 3) := by decide +kernel
theorem dX6_payForOthers_162 : decode cX6_payForOthers 162 = .ok (.goto (-151), 3) := by decide +kernel
theorem dX6_payForOthers_165 : decode cX6_payForOthers 165 = .ok (.iload_n 2, 1) := by decide +kernel
theorem dX6_payForOthers_166 : decode cX6_payForOthers 166 = .ok (.ireturn, 1) := by decide +kernel
theorem dX6_takesPart_0 : decode cX6_takesPart 0 = .ok (.aload_n 0, 1) := by decide +kernel
theorem dX6_takesPart_1 : decode cX6_takesPart 1 = .ok (.getfield 7, 3) := by decide +kernel
theorem dX6_takesPart_4 : decode cX6_takesPart 4 = .ok (.bipush 45, 2) := by decide +kernel
theorem dX6_takesPart_6 : decode cX6_takesPart 6 = .ok (.iload_n 1, 1) := by decide +kernel
theorem dX6_takesPart_7 : decode cX6_takesPart 7 = .ok (.iadd, 1) := by decide +kernel
theorem dX6_takesPart_8 : decode cX6_takesPart 8 = .ok (.iaload, 1) := by decide +kernel
theorem dX6_takesPart_9 : decode cX6_takesPart 9 = .ok (.iconst 1, 1) := by decide +kernel
theorem dX6_takesPart_10 : decode cX6_takesPart 10 = .ok (.if_icmp .ne 16, 3) := by decide +kernel
theorem dX6_takesPart_13 : decode cX6_takesPart 13 = .ok (.aload_n 0, 1) := by decide +kernel
theorem dX6_takesPart_14 : decode cX6_takesPart 14 = .ok (.getfield 32, 3) := by decide +kernel
theorem dX6_takesPart_17 : decode cX6_takesPart 17 = .ok (.iload_n 1, 1) := by decide +kernel
theorem dX6_takesPart_18 : decode cX6_takesPart 18 = .ok (.baload, 1) := by decide +kernel
theorem dX6_takesPart_19 : decode cX6_takesPart 19 = .ok (.ifCond .ne 7, 3) := by decide +kernel
theorem dX6_takesPart_22 : decode cX6_takesPart 22 = .ok (.iconst 1, 1) := by decide +kernel
theorem dX6_takesPart_23 : decode cX6_takesPart 23 = .ok (.goto 4, 3) := by decide +kernel
theorem dX6_takesPart_26 : decode cX6_takesPart 26 = .ok (.iconst 0, 1) := by decide +kernel
theorem dX6_takesPart_27 : decode cX6_takesPart 27 = .ok (.ireturn, 1) := by decide +kernel
theorem dX6_bidOf_0 : decode cX6_bidOf 0 = .ok (.aload_n 0, 1) := by decide +kernel
theorem dX6_bidOf_1 : decode cX6_bidOf 1 = .ok (.getfield 7, 3) := by decide +kernel
theorem dX6_bidOf_4 : decode cX6_bidOf 4 = .ok (.bipush 21, 2) := by decide +kernel
theorem dX6_bidOf_6 : decode cX6_bidOf 6 = .ok (.iload_n 1, 1) := by decide +kernel
theorem dX6_bidOf_7 : decode cX6_bidOf 7 = .ok (.iadd, 1) := by decide +kernel
theorem dX6_bidOf_8 : decode cX6_bidOf 8 = .ok (.iaload, 1) := by decide +kernel
theorem dX6_bidOf_9 : decode cX6_bidOf 9 = .ok (.iload_n 2, 1) := by decide +kernel
theorem dX6_bidOf_10 : decode cX6_bidOf 10 = .ok (.iconst 2, 1) := by decide +kernel
theorem dX6_bidOf_11 : decode cX6_bidOf 11 = .ok (.idiv, 1) := by decide +kernel
theorem dX6_bidOf_12 : decode cX6_bidOf 12 = .ok (.if_icmp .le 9, 3) := by decide +kernel
theorem dX6_bidOf_15 : decode cX6_bidOf 15 = .ok (.iload_n 2, 1) := by decide +kernel
theorem dX6_bidOf_16 : decode cX6_bidOf 16 = .ok (.iconst 2, 1) := by decide +kernel
theorem dX6_bidOf_17 : decode cX6_bidOf 17 = .ok (.idiv, 1) := by decide +kernel
theorem dX6_bidOf_18 : decode cX6_bidOf 18 = .ok (.goto 12, 3) := by decide +kernel
theorem dX6_bidOf_21 : decode cX6_bidOf 21 = .ok (.aload_n 0, 1) := by decide +kernel
theorem dX6_bidOf_22 : decode cX6_bidOf 22 = .ok (.getfield 7, 3) := by decide +kernel
theorem dX6_bidOf_25 : decode cX6_bidOf 25 = .ok (.bipush 21, 2) := by decide +kernel
theorem dX6_bidOf_27 : decode cX6_bidOf 27 = .ok (.iload_n 1, 1) := by decide +kernel
theorem dX6_bidOf_28 : decode cX6_bidOf 28 = .ok (.iadd, 1) := by decide +kernel
theorem dX6_bidOf_29 : decode cX6_bidOf 29 = .ok (.iaload, 1) := by decide +kernel
theorem dX6_bidOf_30 : decode cX6_bidOf 30 = .ok (.ireturn, 1) := by decide +kernel
set_option maxRecDepth 20000 in
theorem ggX6_taker_X6_takesPart : GoodIn wsX6_taker wsX6_takesPart := goodIn_r _ [7, 2, 8, 13, 14, 15, 16, 17, 18, 19, 20, 21, 22, 23, 24, 25, 26, 27] (by decide +kernel) (by decide +kernel)
set_option maxRecDepth 20000 in
theorem gX6_taker_X6_takesPart : GoodIn wsX6_taker (wsV RX6 50 RX6 yX6_takesPart wsX6_takesPart) := goodIn_app (goodIn_of _ (by decide +kernel)) ggX6_taker_X6_takesPart
set_option maxRecDepth 20000 in
theorem ggX6_taker_X6_bidOf : GoodIn wsX6_taker wsX6_bidOf := goodIn_r _ [12, 2, 13, 14, 15, 16, 17, 18, 19, 20, 21, 22, 23, 24, 25, 26, 27] (by decide +kernel) (by decide +kernel)
set_option maxRecDepth 20000 in
theorem gX6_taker_X6_bidOf : GoodIn wsX6_taker (wsV RX6 54 RX6 yX6_bidOf wsX6_bidOf) := goodIn_app (goodIn_of _ (by decide +kernel)) ggX6_taker_X6_bidOf
theorem dX6_taker_0 : decode cX6_taker 0 = .ok (.ldc 49, 2) := by decide +kernel
theorem dX6_taker_2 : decode cX6_taker 2 = .ok (.istore_n 2, 1) := by decide +kernel
theorem dX6_taker_3 : decode cX6_taker 3 = .ok (.iconst 0, 1) := by decide +kernel
theorem dX6_taker_4 : decode cX6_taker 4 = .ok (.istore_n 3, 1) := by decide +kernel
theorem dX6_taker_5 : decode cX6_taker 5 = .ok (.iload_n 3, 1) := by decide +kernel
theorem dX6_taker_6 : decode cX6_taker 6 = .ok (.aload_n 0, 1) := by decide +kernel
theorem dX6_taker_7 : decode cX6_taker 7 = .ok (.getfield 7, 3) := by decide +kernel
theorem dX6_taker_10 : decode cX6_taker 10 = .ok (.iconst 0, 1) := by decide +kernel
theorem dX6_taker_11 : decode cX6_taker 11 = .ok (.iaload, 1) := by decide +kernel
theorem dX6_taker_12 : decode cX6_taker 12 = .ok (.if_icmp .ge 85, 3) := by decide +kernel
theorem dX6_taker_15 : decode cX6_taker 15 = .ok (.aload_n 0, 1) := by decide +kernel
theorem dX6_taker_16 : decode cX6_taker 16 = .ok (.getfield 7, 3) := by decide +kernel
theorem dX6_taker_19 : decode cX6_taker 19 = .ok (.iconst 2, 1) := by decide +kernel
theorem dX6_taker_20 : decode cX6_taker 20 = .ok (.iaload, 1) := by decide +kernel
theorem dX6_taker_21 : decode cX6_taker 21 = .ok (.iload_n 3, 1) := by decide +kernel
theorem dX6_taker_22 : decode cX6_taker 22 = .ok (.iadd, 1) := by decide +kernel
theorem dX6_taker_23 : decode cX6_taker 23 = .ok (.aload_n 0, 1) := by decide +kernel
theorem dX6_taker_24 : decode cX6_taker 24 = .ok (.getfield 7, 3) := by decide +kernel
theorem dX6_taker_27 : decode cX6_taker 27 = .ok (.iconst 0, 1) := by decide +kernel
theorem dX6_taker_28 : decode cX6_taker 28 = .ok (.iaload, 1) := by decide +kernel
theorem dX6_taker_29 : decode cX6_taker 29 = .ok (.irem, 1) := by decide +kernel
theorem dX6_taker_30 : decode cX6_taker 30 = .ok (.istore 4, 2) := by decide +kernel
theorem dX6_taker_32 : decode cX6_taker 32 = .ok (.aload_n 0, 1) := by decide +kernel
theorem dX6_taker_33 : decode cX6_taker 33 = .ok (.iload 4, 2) := by decide +kernel
theorem dX6_taker_35 : decode cX6_taker 35 = .ok (.invokevirtual 50, 3) := by decide +kernel
theorem dX6_taker_38 : decode cX6_taker 38 = .ok (.ifCond .eq 20, 3) := by decide +kernel
theorem dX6_taker_41 : decode cX6_taker 41 = .ok (.aload_n 0, 1) := by decide +kernel
theorem dX6_taker_42 : decode cX6_taker 42 = .ok (.getfield 7, 3) := by decide +kernel
theorem dX6_taker_45 : decode cX6_taker 45 = .ok (.bipush 37, 2) := by decide +kernel
theorem dX6_taker_47 : decode cX6_taker 47 = .ok (.iload 4, 2) := by decide +kernel
theorem dX6_taker_49 : decode cX6_taker 49 = .ok (.iadd, 1) := by decide +kernel
theorem dX6_taker_50 : decode cX6_taker 50 = .ok (.iaload, 1) := by decide +kernel
theorem dX6_taker_51 : decode cX6_taker 51 = .ok (.ifCond .ne 7, 3) := by decide +kernel
theorem dX6_taker_54 : decode cX6_taker 54 = .ok (.iconst 1, 1) := by decide +kernel
theorem dX6_taker_55 : decode cX6_taker 55 = .ok (.goto 4, 3) := by decide +kernel
theorem dX6_taker_58 : decode cX6_taker 58 = .ok (.iconst 0, 1) := by decide +kernel
theorem dX6_taker_59 : decode cX6_taker 59 = .ok (.istore 5, 2) := by decide +kernel
theorem dX6_taker_61 : decode cX6_taker 61 = .ok (.iload 5, 2) := by decide +kernel
theorem dX6_taker_63 : decode cX6_taker 63 = .ok (.ifCond .eq 28, 3) := by decide +kernel
theorem dX6_taker_66 : decode cX6_taker 66 = .ok (.iload_n 2, 1) := by decide +kernel
theorem dX6_taker_67 : decode cX6_taker 67 = .ok (.ldc 49, 2) := by decide +kernel
theorem dX6_taker_69 : decode cX6_taker 69 = .ok (.if_icmp .eq 19, 3) := by decide +kernel
theorem dX6_taker_72 : decode cX6_taker 72 = .ok (.aload_n 0, 1) := by decide +kernel
theorem dX6_taker_73 : decode cX6_taker 73 = .ok (.iload 4, 2) := by decide +kernel
theorem dX6_taker_75 : decode cX6_taker 75 = .ok (.iload_n 1, 1) := by decide +kernel
theorem dX6_taker_76 : decode cX6_taker 76 = .ok (.invokevirtual 54, 3) := by decide +kernel
theorem dX6_taker_79 : decode cX6_taker 79 = .ok (.aload_n 0, 1) := by decide +kernel
theorem dX6_taker_80 : decode cX6_taker 80 = .ok (.iload_n 2, 1) := by decide +kernel
theorem dX6_taker_81 : decode cX6_taker 81 = .ok (.iload_n 1, 1) := by decide +kernel
theorem dX6_taker_82 : decode cX6_taker 82 = .ok (.invokevirtual 54, 3) := by decide +kernel
theorem dX6_taker_85 : decode cX6_taker 85 = .ok (.if_icmp .le 6, 3) := by decide +kernel
theorem dX6_taker_88 : decode cX6_taker 88 = .ok (.iload 4, 2) := by decide +kernel
theorem dX6_taker_90 : decode cX6_taker 90 = .ok (.istore_n 2, 1) := by decide +kernel
theorem dX6_taker_91 : decode cX6_taker 91 = .ok (.iinc 3 1, 3) := by decide +kernel
theorem dX6_taker_94 : decode cX6_taker 94 = .ok (.goto (-89), 3) := by decide +kernel
theorem dX6_taker_97 : decode cX6_taker 97 = .ok (.iload_n 2, 1) := by decide +kernel
theorem dX6_taker_98 : decode cX6_taker 98 = .ok (.ireturn, 1) := by decide +kernel
set_option maxRecDepth 20000 in
theorem ggX6_share_X6_takesPart : GoodIn wsX6_share wsX6_takesPart := goodIn_r _ [6, 1, 7, 8, 9, 10, 11, 12, 13, 14, 15, 16, 17, 18, 19, 20, 21, 22] (by decide +kernel) (by decide +kernel)
set_option maxRecDepth 20000 in
theorem gX6_share_X6_takesPart : GoodIn wsX6_share (wsV RX6 50 RX6 yX6_takesPart wsX6_takesPart) := goodIn_app (goodIn_of _ (by decide +kernel)) ggX6_share_X6_takesPart
theorem dX6_share_0 : decode cX6_share 0 = .ok (.iconst 0, 1) := by decide +kernel
theorem dX6_share_1 : decode cX6_share 1 = .ok (.istore_n 3, 1) := by decide +kernel
theorem dX6_share_2 : decode cX6_share 2 = .ok (.iconst 0, 1) := by decide +kernel
theorem dX6_share_3 : decode cX6_share 3 = .ok (.istore 4, 2) := by decide +kernel
theorem dX6_share_5 : decode cX6_share 5 = .ok (.iload 4, 2) := by decide +kernel
theorem dX6_share_7 : decode cX6_share 7 = .ok (.aload_n 0, 1) := by decide +kernel
theorem dX6_share_8 : decode cX6_share 8 = .ok (.getfield 7, 3) := by decide +kernel
theorem dX6_share_11 : decode cX6_share 11 = .ok (.iconst 0, 1) := by decide +kernel
theorem dX6_share_12 : decode cX6_share 12 = .ok (.iaload, 1) := by decide +kernel
theorem dX6_share_13 : decode cX6_share 13 = .ok (.if_icmp .ge 32, 3) := by decide +kernel
theorem dX6_share_16 : decode cX6_share 16 = .ok (.iload_n 3, 1) := by decide +kernel
theorem dX6_share_17 : decode cX6_share 17 = .ok (.iload 4, 2) := by decide +kernel
theorem dX6_share_19 : decode cX6_share 19 = .ok (.iload_n 1, 1) := by decide +kernel
theorem dX6_share_20 : decode cX6_share 20 = .ok (.if_icmp .eq 16, 3) := by decide +kernel
theorem dX6_share_23 : decode cX6_share 23 = .ok (.aload_n 0, 1) := by decide +kernel
theorem dX6_share_24 : decode cX6_share 24 = .ok (.iload 4, 2) := by decide +kernel
theorem dX6_share_26 : decode cX6_share 26 = .ok (.invokevirtual 50, 3) := by decide +kernel
theorem dX6_share_29 : decode cX6_share 29 = .ok (.ifCond .eq 7, 3) := by decide +kernel
theorem dX6_share_32 : decode cX6_share 32 = .ok (.iconst 1, 1) := by decide +kernel
theorem dX6_share_33 : decode cX6_share 33 = .ok (.goto 4, 3) := by decide +kernel
theorem dX6_share_36 : decode cX6_share 36 = .ok (.iconst 0, 1) := by decide +kernel
theorem dX6_share_37 : decode cX6_share 37 = .ok (.iadd, 1) := by decide +kernel
theorem dX6_share_38 : decode cX6_share 38 = .ok (.istore_n 3, 1) := by decide +kernel
theorem dX6_share_39 : decode cX6_share 39 = .ok (.iinc 4 1, 3) := by decide +kernel
theorem dX6_share_42 : decode cX6_share 42 = .ok (.goto (-37), 3) := by decide +kernel
theorem dX6_share_45 : decode cX6_share 45 = .ok (.iload_n 3, 1) := by decide +kernel
theorem dX6_share_46 : decode cX6_share 46 = .ok (.ifCond .ne 7, 3) := by decide +kernel
theorem dX6_share_49 : decode cX6_share 49 = .ok (.iconst 0, 1) := by decide +kernel
theorem dX6_share_50 : decode cX6_share 50 = .ok (.goto 6, 3) := by decide +kernel
theorem dX6_share_53 : decode cX6_share 53 = .ok (.iload_n 2, 1) := by decide +kernel
theorem dX6_share_54 : decode cX6_share 54 = .ok (.iload_n 3, 1) := by decide +kernel
theorem dX6_share_55 : decode cX6_share 55 = .ok (.idiv, 1) := by decide +kernel
theorem dX6_share_56 : decode cX6_share 56 = .ok (.istore 4, 2) := by decide +kernel
theorem dX6_share_58 : decode cX6_share 58 = .ok (.iconst 0, 1) := by decide +kernel
theorem dX6_share_59 : decode cX6_share 59 = .ok (.istore 5, 2) := by decide +kernel
theorem dX6_share_61 : decode cX6_share 61 = .ok (.iload 5, 2) := by decide +kernel
theorem dX6_share_63 : decode cX6_share 63 = .ok (.aload_n 0, 1) := by decide +kernel
theorem dX6_share_64 : decode cX6_share 64 = .ok (.getfield 7, 3) := by decide +kernel
theorem dX6_share_67 : decode cX6_share 67 = .ok (.iconst 0, 1) := by decide +kernel
theorem dX6_share_68 : decode cX6_share 68 = .ok (.iaload, 1) := by decide +kernel
theorem dX6_share_69 : decode cX6_share 69 = .ok (.if_icmp .ge 61, 3) := by decide +kernel
theorem dX6_share_72 : decode cX6_share 72 = .ok (.iload 5, 2) := by decide +kernel
theorem dX6_share_74 : decode cX6_share 74 = .ok (.iload_n 1, 1) := by decide +kernel
theorem dX6_share_75 : decode cX6_share 75 = .ok (.if_icmp .eq 17, 3) := by decide +kernel
theorem dX6_share_78 : decode cX6_share 78 = .ok (.aload_n 0, 1) := by decide +kernel
theorem dX6_share_79 : decode cX6_share 79 = .ok (.iload 5, 2) := by decide +kernel
theorem dX6_share_81 : decode cX6_share 81 = .ok (.invokevirtual 50, 3) := by decide +kernel
theorem dX6_share_84 : decode cX6_share 84 = .ok (.ifCond .eq 8, 3) := by decide +kernel
theorem dX6_share_87 : decode cX6_share 87 = .ok (.iload 4, 2) := by decide +kernel
theorem dX6_share_89 : decode cX6_share 89 = .ok (.goto 4, 3) := by decide +kernel
theorem dX6_share_92 : decode cX6_share 92 = .ok (.iconst 0, 1) := by decide +kernel
theorem dX6_share_93 : decode cX6_share 93 = .ok (.istore 6, 2) := by decide +kernel
theorem dX6_share_95 : decode cX6_share 95 = .ok (.aload_n 0, 1) := by decide +kernel
theorem dX6_share_96 : decode cX6_share 96 = .ok (.getfield 7, 3) := by decide +kernel
theorem dX6_share_99 : decode cX6_share 99 = .ok (.iconst 5, 1) := by decide +kernel
theorem dX6_share_100 : decode cX6_share 100 = .ok (.iload 5, 2) := by decide +kernel
theorem dX6_share_102 : decode cX6_share 102 = .ok (.iadd, 1) := by decide +kernel
theorem dX6_share_103 : decode cX6_share 103 = .ok (.dup2, 1) := by decide +kernel
theorem dX6_share_104 : decode cX6_share 104 = .ok (.iaload, 1) := by decide +kernel
theorem dX6_share_105 : decode cX6_share 105 = .ok (.iload 6, 2) := by decide +kernel
theorem dX6_share_107 : decode cX6_share 107 = .ok (.iadd, 1) := by decide +kernel
theorem dX6_share_108 : decode cX6_share 108 = .ok (.iastore, 1) := by decide +kernel
theorem dX6_share_109 : decode cX6_share 109 = .ok (.aload_n 0, 1) := by decide +kernel
theorem dX6_share_110 : decode cX6_share 110 = .ok (.getfield 7, 3) := by decide +kernel
theorem dX6_share_113 : decode cX6_share 113 = .ok (.bipush 77, 2) := by decide +kernel
theorem dX6_share_115 : decode cX6_share 115 = .ok (.iload 5, 2) := by decide +kernel
theorem dX6_share_117 : decode cX6_share 117 = .ok (.iadd, 1) := by decide +kernel
theorem dX6_share_118 : decode cX6_share 118 = .ok (.dup2, 1) := by decide +kernel
theorem dX6_share_119 : decode cX6_share 119 = .ok (.iaload, 1) := by decide +kernel
theorem dX6_share_120 : decode cX6_share 120 = .ok (.iload 6, 2) := by decide +kernel
theorem dX6_share_122 : decode cX6_share 122 = .ok (.iadd, 1) := by decide +kernel
theorem dX6_share_123 : decode cX6_share 123 = .ok (.iastore, 1) := by decide +kernel
theorem dX6_share_124 : decode cX6_share 124 = .ok (.iinc 5 1, 3) := by decide +kernel
theorem dX6_share_127 : decode cX6_share 127 = .ok (.goto (-66), 3) := by decide +kernel
theorem dX6_share_130 : decode cX6_share 130 = .ok (.aload_n 0, 1) := by decide +kernel
theorem dX6_share_131 : decode cX6_share 131 = .ok (.getfield 7, 3) := by decide +kernel
theorem dX6_share_134 : decode cX6_share 134 = .ok (.iconst 3, 1) := by decide +kernel
theorem dX6_share_135 : decode cX6_share 135 = .ok (.dup2, 1) := by decide +kernel
theorem dX6_share_136 : decode cX6_share 136 = .ok (.iaload, 1) := by decide +kernel
theorem dX6_share_137 : decode cX6_share 137 = .ok (.iload_n 2, 1) := by decide +kernel
theorem dX6_share_138 : decode cX6_share 138 = .ok (.iload 4, 2) := by decide +kernel
theorem dX6_share_140 : decode cX6_share 140 = .ok (.iload_n 3, 1) := by decide +kernel
theorem dX6_share_141 : decode cX6_share 141 = .ok (.imul, 1) := by decide +kernel
theorem dX6_share_142 : decode cX6_share 142 = .ok (.isub, 1) := by decide +kernel
theorem dX6_share_143 : decode cX6_share 143 = .ok (.iadd, 1) := by decide +kernel
theorem dX6_share_144 : decode cX6_share 144 = .ok (.iastore, 1) := by decide +kernel
theorem dX6_share_145 : decode cX6_share 145 = .ok (.return_, 1) := by decide +kernel
theorem dX6_takeRest_0 : decode cX6_takeRest 0 = .ok (.iload_n 2, 1) := by decide +kernel
theorem dX6_takeRest_1 : decode cX6_takeRest 1 = .ok (.istore_n 3, 1) := by decide +kernel
theorem dX6_takeRest_2 : decode cX6_takeRest 2 = .ok (.iconst 0, 1) := by decide +kernel
theorem dX6_takeRest_3 : decode cX6_takeRest 3 = .ok (.istore 4, 2) := by decide +kernel
theorem dX6_takeRest_5 : decode cX6_takeRest 5 = .ok (.iload 4, 2) := by decide +kernel
theorem dX6_takeRest_7 : decode cX6_takeRest 7 = .ok (.aload_n 0, 1) := by decide +kernel
theorem dX6_takeRest_8 : decode cX6_takeRest 8 = .ok (.getfield 7, 3) := by decide +kernel
theorem dX6_takeRest_11 : decode cX6_takeRest 11 = .ok (.iconst 0, 1) := by decide +kernel
theorem dX6_takeRest_12 : decode cX6_takeRest 12 = .ok (.iaload, 1) := by decide +kernel
theorem dX6_takeRest_13 : decode cX6_takeRest 13 = .ok (.if_icmp .ge 79, 3) := by decide +kernel
theorem dX6_takeRest_16 : decode cX6_takeRest 16 = .ok (.aload_n 0, 1) := by decide +kernel
theorem dX6_takeRest_17 : decode cX6_takeRest 17 = .ok (.getfield 7, 3) := by decide +kernel
theorem dX6_takeRest_20 : decode cX6_takeRest 20 = .ok (.bipush 93, 2) := by decide +kernel
theorem dX6_takeRest_22 : decode cX6_takeRest 22 = .ok (.bipush 8, 2) := by decide +kernel
theorem dX6_takeRest_24 : decode cX6_takeRest 24 = .ok (.iload_n 1, 1) := by decide +kernel
theorem dX6_takeRest_25 : decode cX6_takeRest 25 = .ok (.imul, 1) := by decide +kernel
theorem dX6_takeRest_26 : decode cX6_takeRest 26 = .ok (.iadd, 1) := by decide +kernel
theorem dX6_takeRest_27 : decode cX6_takeRest 27 = .ok (.iload 4, 2) := by decide +kernel
theorem dX6_takeRest_29 : decode cX6_takeRest 29 = .ok (.iadd, 1) := by decide +kernel
theorem dX6_takeRest_30 : decode cX6_takeRest 30 = .ok (.iaload, 1) := by decide +kernel
theorem dX6_takeRest_31 : decode cX6_takeRest 31 = .ok (.istore 5, 2) := by decide +kernel
theorem dX6_takeRest_33 : decode cX6_takeRest 33 = .ok (.iload 5, 2) := by decide +kernel
theorem dX6_takeRest_35 : decode cX6_takeRest 35 = .ok (.iload_n 3, 1) := by decide +kernel
theorem dX6_takeRest_36 : decode cX6_takeRest 36 = .ok (.if_icmp .ge 8, 3) := by decide +kernel
theorem dX6_takeRest_39 : decode cX6_takeRest 39 = .ok (.iload 5, 2) := by decide +kernel
theorem dX6_takeRest_41 : decode cX6_takeRest 41 = .ok (.goto 4, 3) := by decide +kernel
theorem dX6_takeRest_44 : decode cX6_takeRest 44 = .ok (.iload_n 3, 1) := by decide +kernel
theorem dX6_takeRest_45 : decode cX6_takeRest 45 = .ok (.istore 6, 2) := by decide +kernel
theorem dX6_takeRest_47 : decode cX6_takeRest 47 = .ok (.aload_n 0, 1) := by decide +kernel
theorem dX6_takeRest_48 : decode cX6_takeRest 48 = .ok (.getfield 7, 3) := by decide +kernel
theorem dX6_takeRest_51 : decode cX6_takeRest 51 = .ok (.bipush 93, 2) := by decide +kernel
theorem dX6_takeRest_53 : decode cX6_takeRest 53 = .ok (.bipush 8, 2) := by decide +kernel
theorem dX6_takeRest_55 : decode cX6_takeRest 55 = .ok (.iload_n 1, 1) := by decide +kernel
theorem dX6_takeRest_56 : decode cX6_takeRest 56 = .ok (.imul, 1) := by decide +kernel
theorem dX6_takeRest_57 : decode cX6_takeRest 57 = .ok (.iadd, 1) := by decide +kernel
theorem dX6_takeRest_58 : decode cX6_takeRest 58 = .ok (.iload 4, 2) := by decide +kernel
theorem dX6_takeRest_60 : decode cX6_takeRest 60 = .ok (.iadd, 1) := by decide +kernel
theorem dX6_takeRest_61 : decode cX6_takeRest 61 = .ok (.dup2, 1) := by decide +kernel
theorem dX6_takeRest_62 : decode cX6_takeRest 62 = .ok (.iaload, 1) := by decide +kernel
theorem dX6_takeRest_63 : decode cX6_takeRest 63 = .ok (.iload 6, 2) := by decide +kernel
theorem dX6_takeRest_65 : decode cX6_takeRest 65 = .ok (.isub, 1) := by decide +kernel
theorem dX6_takeRest_66 : decode cX6_takeRest 66 = .ok (.iastore, 1) := by decide +kernel
theorem dX6_takeRest_67 : decode cX6_takeRest 67 = .ok (.aload_n 0, 1) := by decide +kernel
theorem dX6_takeRest_68 : decode cX6_takeRest 68 = .ok (.getfield 7, 3) := by decide +kernel
theorem dX6_takeRest_71 : decode cX6_takeRest 71 = .ok (.iconst 5, 1) := by decide +kernel
theorem dX6_takeRest_72 : decode cX6_takeRest 72 = .ok (.iload 4, 2) := by decide +kernel
theorem dX6_takeRest_74 : decode cX6_takeRest 74 = .ok (.iadd, 1) := by decide +kernel
theorem dX6_takeRest_75 : decode cX6_takeRest 75 = .ok (.dup2, 1) := by decide +kernel
theorem dX6_takeRest_76 : decode cX6_takeRest 76 = .ok (.iaload, 1) := by decide +kernel
theorem dX6_takeRest_77 : decode cX6_takeRest 77 = .ok (.iload 6, 2) := by decide +kernel
theorem dX6_takeRest_79 : decode cX6_takeRest 79 = .ok (.iadd, 1) := by decide +kernel
theorem dX6_takeRest_80 : decode cX6_takeRest 80 = .ok (.iastore, 1) := by decide +kernel
theorem dX6_takeRest_81 : decode cX6_takeRest 81 = .ok (.iload_n 3, 1) := by decide +kernel
theorem dX6_takeRest_82 : decode cX6_takeRest 82 = .ok (.iload 6, 2) := by decide +kernel
theorem dX6_takeRest_84 : decode cX6_takeRest 84 = .ok (.isub, 1) := by decide +kernel
theorem dX6_takeRest_85 : decode cX6_takeRest 85 = .ok (.istore_n 3, 1) := by decide +kernel
theorem dX6_takeRest_86 : decode cX6_takeRest 86 = .ok (.iinc 4 1, 3) := by decide +kernel
theorem dX6_takeRest_89 : decode cX6_takeRest 89 = .ok (.goto (-84), 3) := by decide +kernel
theorem dX6_takeRest_92 : decode cX6_takeRest 92 = .ok (.aload_n 0, 1) := by decide +kernel
theorem dX6_takeRest_93 : decode cX6_takeRest 93 = .ok (.getfield 7, 3) := by decide +kernel
theorem dX6_takeRest_96 : decode cX6_takeRest 96 = .ok (.iconst 5, 1) := by decide +kernel
theorem dX6_takeRest_97 : decode cX6_takeRest 97 = .ok (.iload_n 1, 1) := by decide +kernel
theorem dX6_takeRest_98 : decode cX6_takeRest 98 = .ok (.iadd, 1) := by decide +kernel
theorem dX6_takeRest_99 : decode cX6_takeRest 99 = .ok (.dup2, 1) := by decide +kernel
theorem dX6_takeRest_100 : decode cX6_takeRest 100 = .ok (.iaload, 1) := by decide +kernel
theorem dX6_takeRest_101 : decode cX6_takeRest 101 = .ok (.iload_n 3, 1) := by decide +kernel
theorem dX6_takeRest_102 : decode cX6_takeRest 102 = .ok (.iadd, 1) := by decide +kernel
theorem dX6_takeRest_103 : decode cX6_takeRest 103 = .ok (.iastore, 1) := by decide +kernel
theorem dX6_takeRest_104 : decode cX6_takeRest 104 = .ok (.aload_n 0, 1) := by decide +kernel
theorem dX6_takeRest_105 : decode cX6_takeRest 105 = .ok (.getfield 7, 3) := by decide +kernel
theorem dX6_takeRest_108 : decode cX6_takeRest 108 = .ok (.bipush 69, 2) := by decide +kernel
theorem dX6_takeRest_110 : decode cX6_takeRest 110 = .ok (.iload_n 1, 1) := by decide +kernel
theorem dX6_takeRest_111 : decode cX6_takeRest 111 = .ok (.iadd, 1) := by decide +kernel
theorem dX6_takeRest_112 : decode cX6_takeRest 112 = .ok (.iload_n 2, 1) := by decide +kernel
theorem dX6_takeRest_113 : decode cX6_takeRest 113 = .ok (.iastore, 1) := by decide +kernel
theorem dX6_takeRest_114 : decode cX6_takeRest 114 = .ok (.aload_n 0, 1) := by decide +kernel
theorem dX6_takeRest_115 : decode cX6_takeRest 115 = .ok (.getfield 7, 3) := by decide +kernel
theorem dX6_takeRest_118 : decode cX6_takeRest 118 = .ok (.bipush 37, 2) := by decide +kernel
theorem dX6_takeRest_120 : decode cX6_takeRest 120 = .ok (.iload_n 1, 1) := by decide +kernel
theorem dX6_takeRest_121 : decode cX6_takeRest 121 = .ok (.iadd, 1) := by decide +kernel
theorem dX6_takeRest_122 : decode cX6_takeRest 122 = .ok (.iconst 1, 1) := by decide +kernel
theorem dX6_takeRest_123 : decode cX6_takeRest 123 = .ok (.iastore, 1) := by decide +kernel
theorem dX6_takeRest_124 : decode cX6_takeRest 124 = .ok (.return_, 1) := by decide +kernel
set_option maxRecDepth 20000 in
theorem ggX6_goMonth_X6_pay : GoodIn wsX6_goMonth wsX6_pay := goodIn_r _ [8, 3, 9, 10, 35, 36, 37, 38, 39, 40, 41, 42, 43, 44, 45, 46, 47, 48, 49] (by decide +kernel) (by decide +kernel)
set_option maxRecDepth 20000 in
theorem gX6_goMonth_X6_pay : GoodIn wsX6_goMonth (wsV RX6 58 RX6 yX6_pay wsX6_pay) := goodIn_app (goodIn_of _ (by decide +kernel)) ggX6_goMonth_X6_pay
set_option maxRecDepth 20000 in
theorem ggX6_goMonth_X6_payForOthers : GoodIn wsX6_goMonth wsX6_payForOthers := goodIn_r _ [14, 3, 10, 2, 9, 35, 36, 37, 38, 39, 40, 41, 42, 43, 44, 45, 46, 47, 48, 49] (by decide +kernel) (by decide +kernel)
set_option maxRecDepth 20000 in
theorem gX6_goMonth_X6_payForOthers : GoodIn wsX6_goMonth (wsV RX6 62 RX6 yX6_payForOthers wsX6_payForOthers) := goodIn_app (goodIn_of _ (by decide +kernel)) ggX6_goMonth_X6_payForOthers
set_option maxRecDepth 20000 in
theorem ggX6_goMonth_X6_taker : GoodIn wsX6_goMonth wsX6_taker := goodIn_r _ [18, 2, 3, 19, 20, 21, 7, 22, 9, 23, 24, 25, 26, 35, 36, 37, 38, 39, 40, 41, 42, 43, 44, 45, 46, 47, 48, 49] (by decide +kernel) (by decide +kernel)
set_option maxRecDepth 20000 in
theorem gX6_goMonth_X6_taker : GoodIn wsX6_goMonth (wsV RX6 68 RX6 yX6_taker wsX6_taker) := goodIn_app (goodIn_of _ (by decide +kernel)) ggX6_goMonth_X6_taker
set_option maxRecDepth 20000 in
theorem ggX6_goMonth_X6_bidOf : GoodIn wsX6_goMonth wsX6_bidOf := goodIn_r _ [26, 3, 35, 36, 37, 38, 39, 40, 41, 42, 43, 44, 45, 46, 47, 48, 49] (by decide +kernel) (by decide +kernel)
set_option maxRecDepth 20000 in
theorem gX6_goMonth_X6_bidOf : GoodIn wsX6_goMonth (wsV RX6 54 RX6 yX6_bidOf wsX6_bidOf) := goodIn_app (goodIn_of _ (by decide +kernel)) ggX6_goMonth_X6_bidOf
set_option maxRecDepth 20000 in
theorem ggX6_goMonth_X6_share : GoodIn wsX6_goMonth wsX6_share := goodIn_r _ [30, 3, 19, 20, 21, 7, 22, 9, 35, 36, 37, 38, 39, 40, 41, 42, 43, 44, 45, 46, 47, 48, 49] (by decide +kernel) (by decide +kernel)
set_option maxRecDepth 20000 in
theorem gX6_goMonth_X6_share : GoodIn wsX6_goMonth (wsV RX6 72 RX6 yX6_share wsX6_share) := goodIn_app (goodIn_of _ (by decide +kernel)) ggX6_goMonth_X6_share
set_option maxRecDepth 20000 in
theorem ggX6_goMonth_X6_takeRest : GoodIn wsX6_goMonth wsX6_takeRest := goodIn_r _ [34, 3, 35, 36, 37, 38, 39, 40, 41, 42, 43, 44, 45, 46, 47, 48, 49] (by decide +kernel) (by decide +kernel)
set_option maxRecDepth 20000 in
theorem gX6_goMonth_X6_takeRest : GoodIn wsX6_goMonth (wsV RX6 76 RX6 yX6_takeRest wsX6_takeRest) := goodIn_app (goodIn_of _ (by decide +kernel)) ggX6_goMonth_X6_takeRest
theorem dX6_goMonth_0 : decode cX6_goMonth 0 = .ok (.aload_n 0, 1) := by decide +kernel
theorem dX6_goMonth_1 : decode cX6_goMonth 1 = .ok (.invokevirtual 58, 3) := by decide +kernel
theorem dX6_goMonth_4 : decode cX6_goMonth 4 = .ok (.istore_n 1, 1) := by decide +kernel
theorem dX6_goMonth_5 : decode cX6_goMonth 5 = .ok (.iload_n 1, 1) := by decide +kernel
theorem dX6_goMonth_6 : decode cX6_goMonth 6 = .ok (.aload_n 0, 1) := by decide +kernel
theorem dX6_goMonth_7 : decode cX6_goMonth 7 = .ok (.invokevirtual 62, 3) := by decide +kernel
theorem dX6_goMonth_10 : decode cX6_goMonth 10 = .ok (.iadd, 1) := by decide +kernel
theorem dX6_goMonth_11 : decode cX6_goMonth 11 = .ok (.istore_n 1, 1) := by decide +kernel
theorem dX6_goMonth_12 : decode cX6_goMonth 12 = .ok (.aload_n 0, 1) := by decide +kernel
theorem dX6_goMonth_13 : decode cX6_goMonth 13 = .ok (.iload_n 1, 1) := by decide +kernel
theorem dX6_goMonth_14 : decode cX6_goMonth 14 = .ok (.putfield 65, 3) := by decide +kernel
theorem dX6_goMonth_17 : decode cX6_goMonth 17 = .ok (.aload_n 0, 1) := by decide +kernel
theorem dX6_goMonth_18 : decode cX6_goMonth 18 = .ok (.iload_n 1, 1) := by decide +kernel
theorem dX6_goMonth_19 : decode cX6_goMonth 19 = .ok (.invokevirtual 68, 3) := by decide +kernel
theorem dX6_goMonth_22 : decode cX6_goMonth 22 = .ok (.istore_n 2, 1) := by decide +kernel
theorem dX6_goMonth_23 : decode cX6_goMonth 23 = .ok (.iload_n 2, 1) := by decide +kernel
theorem dX6_goMonth_24 : decode cX6_goMonth 24 = .ok (.ldc 49, 2) := by decide +kernel
theorem dX6_goMonth_26 : decode cX6_goMonth 26 = .ok (.if_icmp .ne 16, 3) := by decide +kernel
theorem dX6_goMonth_29 : decode cX6_goMonth 29 = .ok (.aload_n 0, 1) := by decide +kernel
theorem dX6_goMonth_30 : decode cX6_goMonth 30 = .ok (.getfield 7, 3) := by decide +kernel
theorem dX6_goMonth_33 : decode cX6_goMonth 33 = .ok (.iconst 3, 1) := by decide +kernel
theorem dX6_goMonth_34 : decode cX6_goMonth 34 = .ok (.dup2, 1) := by decide +kernel
theorem dX6_goMonth_35 : decode cX6_goMonth 35 = .ok (.iaload, 1) := by decide +kernel
theorem dX6_goMonth_36 : decode cX6_goMonth 36 = .ok (.iload_n 1, 1) := by decide +kernel
theorem dX6_goMonth_37 : decode cX6_goMonth 37 = .ok (.iadd, 1) := by decide +kernel
theorem dX6_goMonth_38 : decode cX6_goMonth 38 = .ok (.iastore, 1) := by decide +kernel
theorem dX6_goMonth_39 : decode cX6_goMonth 39 = .ok (.goto 24, 3) := by decide +kernel
theorem dX6_goMonth_42 : decode cX6_goMonth 42 = .ok (.aload_n 0, 1) := by decide +kernel
theorem dX6_goMonth_43 : decode cX6_goMonth 43 = .ok (.iload_n 2, 1) := by decide +kernel
theorem dX6_goMonth_44 : decode cX6_goMonth 44 = .ok (.iload_n 1, 1) := by decide +kernel
theorem dX6_goMonth_45 : decode cX6_goMonth 45 = .ok (.invokevirtual 54, 3) := by decide +kernel
theorem dX6_goMonth_48 : decode cX6_goMonth 48 = .ok (.istore_n 3, 1) := by decide +kernel
theorem dX6_goMonth_49 : decode cX6_goMonth 49 = .ok (.aload_n 0, 1) := by decide +kernel
theorem dX6_goMonth_50 : decode cX6_goMonth 50 = .ok (.iload_n 2, 1) := by decide +kernel
theorem dX6_goMonth_51 : decode cX6_goMonth 51 = .ok (.iload_n 3, 1) := by decide +kernel
theorem dX6_goMonth_52 : decode cX6_goMonth 52 = .ok (.invokevirtual 72, 3) := by decide +kernel
theorem dX6_goMonth_55 : decode cX6_goMonth 55 = .ok (.aload_n 0, 1) := by decide +kernel
theorem dX6_goMonth_56 : decode cX6_goMonth 56 = .ok (.iload_n 2, 1) := by decide +kernel
theorem dX6_goMonth_57 : decode cX6_goMonth 57 = .ok (.iload_n 1, 1) := by decide +kernel
theorem dX6_goMonth_58 : decode cX6_goMonth 58 = .ok (.iload_n 3, 1) := by decide +kernel
theorem dX6_goMonth_59 : decode cX6_goMonth 59 = .ok (.isub, 1) := by decide +kernel
theorem dX6_goMonth_60 : decode cX6_goMonth 60 = .ok (.invokevirtual 76, 3) := by decide +kernel
theorem dX6_goMonth_63 : decode cX6_goMonth 63 = .ok (.iconst 0, 1) := by decide +kernel
theorem dX6_goMonth_64 : decode cX6_goMonth 64 = .ok (.istore_n 3, 1) := by decide +kernel
theorem dX6_goMonth_65 : decode cX6_goMonth 65 = .ok (.iload_n 3, 1) := by decide +kernel
theorem dX6_goMonth_66 : decode cX6_goMonth 66 = .ok (.bipush 8, 2) := by decide +kernel
theorem dX6_goMonth_68 : decode cX6_goMonth 68 = .ok (.if_icmp .ge 29, 3) := by decide +kernel
theorem dX6_goMonth_71 : decode cX6_goMonth 71 = .ok (.aload_n 0, 1) := by decide +kernel
theorem dX6_goMonth_72 : decode cX6_goMonth 72 = .ok (.getfield 7, 3) := by decide +kernel
theorem dX6_goMonth_75 : decode cX6_goMonth 75 = .ok (.bipush 21, 2) := by decide +kernel
theorem dX6_goMonth_77 : decode cX6_goMonth 77 = .ok (.iload_n 3, 1) := by decide +kernel
theorem dX6_goMonth_78 : decode cX6_goMonth 78 = .ok (.iadd, 1) := by decide +kernel
theorem dX6_goMonth_79 : decode cX6_goMonth 79 = .ok (.iconst 0, 1) := by decide +kernel
theorem dX6_goMonth_80 : decode cX6_goMonth 80 = .ok (.iastore, 1) := by decide +kernel
theorem dX6_goMonth_81 : decode cX6_goMonth 81 = .ok (.aload_n 0, 1) := by decide +kernel
theorem dX6_goMonth_82 : decode cX6_goMonth 82 = .ok (.getfield 7, 3) := by decide +kernel
theorem dX6_goMonth_85 : decode cX6_goMonth 85 = .ok (.bipush 29, 2) := by decide +kernel
theorem dX6_goMonth_87 : decode cX6_goMonth 87 = .ok (.iload_n 3, 1) := by decide +kernel
theorem dX6_goMonth_88 : decode cX6_goMonth 88 = .ok (.iadd, 1) := by decide +kernel
theorem dX6_goMonth_89 : decode cX6_goMonth 89 = .ok (.iconst 0, 1) := by decide +kernel
theorem dX6_goMonth_90 : decode cX6_goMonth 90 = .ok (.iastore, 1) := by decide +kernel
theorem dX6_goMonth_91 : decode cX6_goMonth 91 = .ok (.iinc 3 1, 3) := by decide +kernel
theorem dX6_goMonth_94 : decode cX6_goMonth 94 = .ok (.goto (-29), 3) := by decide +kernel
theorem dX6_goMonth_97 : decode cX6_goMonth 97 = .ok (.aload_n 0, 1) := by decide +kernel
theorem dX6_goMonth_98 : decode cX6_goMonth 98 = .ok (.getfield 7, 3) := by decide +kernel
theorem dX6_goMonth_101 : decode cX6_goMonth 101 = .ok (.iconst 2, 1) := by decide +kernel
theorem dX6_goMonth_102 : decode cX6_goMonth 102 = .ok (.dup2, 1) := by decide +kernel
theorem dX6_goMonth_103 : decode cX6_goMonth 103 = .ok (.iaload, 1) := by decide +kernel
theorem dX6_goMonth_104 : decode cX6_goMonth 104 = .ok (.iconst 1, 1) := by decide +kernel
theorem dX6_goMonth_105 : decode cX6_goMonth 105 = .ok (.iadd, 1) := by decide +kernel
theorem dX6_goMonth_106 : decode cX6_goMonth 106 = .ok (.iastore, 1) := by decide +kernel
theorem dX6_goMonth_107 : decode cX6_goMonth 107 = .ok (.iload_n 2, 1) := by decide +kernel
theorem dX6_goMonth_108 : decode cX6_goMonth 108 = .ok (.ireturn, 1) := by decide +kernel
theorem dX6_insideMany_0 : decode cX6_insideMany 0 = .ok (.iconst 0, 1) := by decide +kernel
theorem dX6_insideMany_1 : decode cX6_insideMany 1 = .ok (.istore_n 1, 1) := by decide +kernel
theorem dX6_insideMany_2 : decode cX6_insideMany 2 = .ok (.iconst 0, 1) := by decide +kernel
theorem dX6_insideMany_3 : decode cX6_insideMany 3 = .ok (.istore_n 2, 1) := by decide +kernel
theorem dX6_insideMany_4 : decode cX6_insideMany 4 = .ok (.iload_n 2, 1) := by decide +kernel
theorem dX6_insideMany_5 : decode cX6_insideMany 5 = .ok (.aload_n 0, 1) := by decide +kernel
theorem dX6_insideMany_6 : decode cX6_insideMany 6 = .ok (.getfield 7, 3) := by decide +kernel
theorem dX6_insideMany_9 : decode cX6_insideMany 9 = .ok (.iconst 0, 1) := by decide +kernel
theorem dX6_insideMany_10 : decode cX6_insideMany 10 = .ok (.iaload, 1) := by decide +kernel
theorem dX6_insideMany_11 : decode cX6_insideMany 11 = .ok (.if_icmp .ge 21, 3) := by decide +kernel
theorem dX6_insideMany_14 : decode cX6_insideMany 14 = .ok (.iload_n 1, 1) := by decide +kernel
theorem dX6_insideMany_15 : decode cX6_insideMany 15 = .ok (.aload_n 0, 1) := by decide +kernel
theorem dX6_insideMany_16 : decode cX6_insideMany 16 = .ok (.getfield 7, 3) := by decide +kernel
theorem dX6_insideMany_19 : decode cX6_insideMany 19 = .ok (.bipush 45, 2) := by decide +kernel
theorem dX6_insideMany_21 : decode cX6_insideMany 21 = .ok (.iload_n 2, 1) := by decide +kernel
theorem dX6_insideMany_22 : decode cX6_insideMany 22 = .ok (.iadd, 1) := by decide +kernel
theorem dX6_insideMany_23 : decode cX6_insideMany 23 = .ok (.iaload, 1) := by decide +kernel
theorem dX6_insideMany_24 : decode cX6_insideMany 24 = .ok (.iadd, 1) := by decide +kernel
theorem dX6_insideMany_25 : decode cX6_insideMany 25 = .ok (.istore_n 1, 1) := by decide +kernel
theorem dX6_insideMany_26 : decode cX6_insideMany 26 = .ok (.iinc 2 1, 3) := by decide +kernel
theorem dX6_insideMany_29 : decode cX6_insideMany 29 = .ok (.goto (-25), 3) := by decide +kernel
theorem dX6_insideMany_32 : decode cX6_insideMany 32 = .ok (.iload_n 1, 1) := by decide +kernel
theorem dX6_insideMany_33 : decode cX6_insideMany 33 = .ok (.ireturn, 1) := by decide +kernel
set_option maxRecDepth 20000 in
theorem ggX6_canGo_X6_insideMany : GoodIn wsX6_canGo wsX6_insideMany := goodIn_r _ [6, 1, 7, 8, 9, 10, 11, 12, 13, 14, 15, 16, 17, 18, 19, 20, 21] (by decide +kernel) (by decide +kernel)
set_option maxRecDepth 20000 in
theorem gX6_canGo_X6_insideMany : GoodIn wsX6_canGo (wsV RX6 79 RX6 yX6_insideMany wsX6_insideMany) := goodIn_app (goodIn_of _ (by decide +kernel)) ggX6_canGo_X6_insideMany
theorem dX6_canGo_0 : decode cX6_canGo 0 = .ok (.aload_n 0, 1) := by decide +kernel
theorem dX6_canGo_1 : decode cX6_canGo 1 = .ok (.invokevirtual 79, 3) := by decide +kernel
theorem dX6_canGo_4 : decode cX6_canGo 4 = .ok (.ifCond .le 18, 3) := by decide +kernel
theorem dX6_canGo_7 : decode cX6_canGo 7 = .ok (.aload_n 0, 1) := by decide +kernel
theorem dX6_canGo_8 : decode cX6_canGo 8 = .ok (.getfield 7, 3) := by decide +kernel
theorem dX6_canGo_11 : decode cX6_canGo 11 = .ok (.iconst 2, 1) := by decide +kernel
theorem dX6_canGo_12 : decode cX6_canGo 12 = .ok (.iaload, 1) := by decide +kernel
theorem dX6_canGo_13 : decode cX6_canGo 13 = .ok (.bipush 99, 2) := by decide +kernel
theorem dX6_canGo_15 : decode cX6_canGo 15 = .ok (.if_icmp .ge 7, 3) := by decide +kernel
theorem dX6_canGo_18 : decode cX6_canGo 18 = .ok (.iconst 1, 1) := by decide +kernel
theorem dX6_canGo_19 : decode cX6_canGo 19 = .ok (.goto 4, 3) := by decide +kernel
theorem dX6_canGo_22 : decode cX6_canGo 22 = .ok (.iconst 0, 1) := by decide +kernel
theorem dX6_canGo_23 : decode cX6_canGo 23 = .ok (.ireturn, 1) := by decide +kernel
set_option maxRecDepth 20000 in
theorem ggX6_month_X6_canGo : GoodIn wsX6_month wsX6_canGo := goodIn_r _ [6, 7, 8, 9, 10, 5, 11, 54, 55, 56, 57, 58, 59, 60, 61, 62, 63, 64, 65, 66, 67, 68] (by decide +kernel) (by decide +kernel)
set_option maxRecDepth 20000 in
theorem gX6_month_X6_canGo : GoodIn wsX6_month (wsV RX6 82 RX6 yX6_canGo wsX6_canGo) := goodIn_app (goodIn_of _ (by decide +kernel)) ggX6_month_X6_canGo
set_option maxRecDepth 20000 in
theorem ggX6_month_X6_remember : GoodIn wsX6_month wsX6_remember := goodIn_r _ [15, 16, 17, 7, 54, 55, 56, 57, 58, 59, 60, 61, 62, 63, 64, 65, 66, 67, 68] (by decide +kernel) (by decide +kernel)
set_option maxRecDepth 20000 in
theorem gX6_month_X6_remember : GoodIn wsX6_month (wsV RX6 86 RX6 yX6_remember wsX6_remember) := goodIn_app (goodIn_of _ (by decide +kernel)) ggX6_month_X6_remember
set_option maxRecDepth 20000 in
theorem ggX6_month_X6_goMonth : GoodIn wsX6_month wsX6_goMonth := goodIn_r _ [21, 22, 23, 7, 24, 25, 26, 5, 27, 28, 29, 30, 31, 32, 33, 34, 35, 36, 37, 38, 39, 40, 41, 42, 43, 44, 45, 46, 47, 48, 49, 50, 51, 52, 53, 54, 55, 56, 57, 58, 59, 60, 61, 62, 63, 64, 65, 66, 67, 68] (by decide +kernel) (by decide +kernel)
set_option maxRecDepth 20000 in
theorem gX6_month_X6_goMonth : GoodIn wsX6_month (wsV RX6 89 RX6 yX6_goMonth wsX6_goMonth) := goodIn_app (goodIn_of _ (by decide +kernel)) ggX6_month_X6_goMonth
theorem dX6_month_0 : decode cX6_month 0 = .ok (.aload_n 0, 1) := by decide +kernel
theorem dX6_month_1 : decode cX6_month 1 = .ok (.aload_n 0, 1) := by decide +kernel
theorem dX6_month_2 : decode cX6_month 2 = .ok (.invokevirtual 82, 3) := by decide +kernel
theorem dX6_month_5 : decode cX6_month 5 = .ok (.ifCond .eq 7, 3) := by decide +kernel
theorem dX6_month_8 : decode cX6_month 8 = .ok (.iconst 0, 1) := by decide +kernel
theorem dX6_month_9 : decode cX6_month 9 = .ok (.goto 4, 3) := by decide +kernel
theorem dX6_month_12 : decode cX6_month 12 = .ok (.iconst 1, 1) := by decide +kernel
theorem dX6_month_13 : decode cX6_month 13 = .ok (.putfield 38, 3) := by decide +kernel
theorem dX6_month_16 : decode cX6_month 16 = .ok (.aload_n 0, 1) := by decide +kernel
theorem dX6_month_17 : decode cX6_month 17 = .ok (.getfield 38, 3) := by decide +kernel
theorem dX6_month_20 : decode cX6_month 20 = .ok (.ifCond .le 5, 3) := by decide +kernel
theorem dX6_month_23 : decode cX6_month 23 = .ok (.iconst 0, 1) := by decide +kernel
theorem dX6_month_24 : decode cX6_month 24 = .ok (.ireturn, 1) := by decide +kernel
theorem dX6_month_25 : decode cX6_month 25 = .ok (.aload_n 0, 1) := by decide +kernel
theorem dX6_month_26 : decode cX6_month 26 = .ok (.invokevirtual 86, 3) := by decide +kernel
theorem dX6_month_29 : decode cX6_month 29 = .ok (.aload_n 0, 1) := by decide +kernel
theorem dX6_month_30 : decode cX6_month 30 = .ok (.invokevirtual 89, 3) := by decide +kernel
theorem dX6_month_33 : decode cX6_month 33 = .ok (.ireturn, 1) := by decide +kernel
set_option maxRecDepth 20000 in
theorem ggX6_append_X6_in : GoodIn wsX6_append wsX6_in := goodIn_r _ [7] (by decide +kernel) (by decide +kernel)
set_option maxRecDepth 20000 in
theorem gX6_append_X6_in : GoodIn wsX6_append (va_wsS RX6 45 yX6_in wsX6_in) := goodIn_app (goodIn_of _ (by decide +kernel)) ggX6_append_X6_in
theorem dX6_append_0 : decode cX6_append 0 = .ok (.aload_n 0, 1) := by decide +kernel
theorem dX6_append_1 : decode cX6_append 1 = .ok (.iload_n 1, 1) := by decide +kernel
theorem dX6_append_2 : decode cX6_append 2 = .ok (.iconst 0, 1) := by decide +kernel
theorem dX6_append_3 : decode cX6_append 3 = .ok (.sipush 255, 3) := by decide +kernel
theorem dX6_append_6 : decode cX6_append 6 = .ok (.invokestatic 45, 3) := by decide +kernel
theorem dX6_append_9 : decode cX6_append 9 = .ok (.ifCond .ne 7, 3) := by decide +kernel
theorem dX6_append_12 : decode cX6_append 12 = .ok (.iconst 1, 1) := by decide +kernel
theorem dX6_append_13 : decode cX6_append 13 = .ok (.goto 17, 3) := by decide +kernel
theorem dX6_append_16 : decode cX6_append 16 = .ok (.aload_n 0, 1) := by decide +kernel
theorem dX6_append_17 : decode cX6_append 17 = .ok (.getfield 92, 3) := by decide +kernel
theorem dX6_append_20 : decode cX6_append 20 = .ok (.bipush 100, 2) := by decide +kernel
theorem dX6_append_22 : decode cX6_append 22 = .ok (.if_icmp .ne 7, 3) := by decide +kernel
theorem dX6_append_25 : decode cX6_append 25 = .ok (.iconst 2, 1) := by decide +kernel
theorem dX6_append_26 : decode cX6_append 26 = .ok (.goto 4, 3) := by decide +kernel
theorem dX6_append_29 : decode cX6_append 29 = .ok (.iconst 0, 1) := by decide +kernel
theorem dX6_append_30 : decode cX6_append 30 = .ok (.putfield 38, 3) := by decide +kernel
theorem dX6_append_33 : decode cX6_append 33 = .ok (.aload_n 0, 1) := by decide +kernel
theorem dX6_append_34 : decode cX6_append 34 = .ok (.getfield 38, 3) := by decide +kernel
theorem dX6_append_37 : decode cX6_append 37 = .ok (.ifCond .le 5, 3) := by decide +kernel
theorem dX6_append_40 : decode cX6_append 40 = .ok (.iconst 0, 1) := by decide +kernel
theorem dX6_append_41 : decode cX6_append 41 = .ok (.ireturn, 1) := by decide +kernel
theorem dX6_append_42 : decode cX6_append 42 = .ok (.aload_n 0, 1) := by decide +kernel
theorem dX6_append_43 : decode cX6_append 43 = .ok (.getfield 26, 3) := by decide +kernel
theorem dX6_append_46 : decode cX6_append 46 = .ok (.aload_n 0, 1) := by decide +kernel
theorem dX6_append_47 : decode cX6_append 47 = .ok (.getfield 92, 3) := by decide +kernel
theorem dX6_append_50 : decode cX6_append 50 = .ok (.iload_n 1, 1) := by decide +kernel
theorem dX6_append_51 : decode cX6_append 51 = .ok (.iastore, 1) := by decide +kernel
theorem dX6_append_52 : decode cX6_append 52 = .ok (.aload_n 0, 1) := by decide +kernel
theorem dX6_append_53 : decode cX6_append 53 = .ok (.dup, 1) := by decide +kernel
theorem dX6_append_54 : decode cX6_append 54 = .ok (.getfield 92, 3) := by decide +kernel
theorem dX6_append_57 : decode cX6_append 57 = .ok (.iconst 1, 1) := by decide +kernel
theorem dX6_append_58 : decode cX6_append 58 = .ok (.iadd, 1) := by decide +kernel
theorem dX6_append_59 : decode cX6_append 59 = .ok (.putfield 92, 3) := by decide +kernel
theorem dX6_append_62 : decode cX6_append 62 = .ok (.aload_n 0, 1) := by decide +kernel
theorem dX6_append_63 : decode cX6_append 63 = .ok (.getfield 92, 3) := by decide +kernel
theorem dX6_append_66 : decode cX6_append 66 = .ok (.ireturn, 1) := by decide +kernel
theorem dX6_clearText_0 : decode cX6_clearText 0 = .ok (.aload_n 0, 1) := by decide +kernel
theorem dX6_clearText_1 : decode cX6_clearText 1 = .ok (.iconst 0, 1) := by decide +kernel
theorem dX6_clearText_2 : decode cX6_clearText 2 = .ok (.putfield 38, 3) := by decide +kernel
theorem dX6_clearText_5 : decode cX6_clearText 5 = .ok (.aload_n 0, 1) := by decide +kernel
theorem dX6_clearText_6 : decode cX6_clearText 6 = .ok (.getfield 92, 3) := by decide +kernel
theorem dX6_clearText_9 : decode cX6_clearText 9 = .ok (.istore_n 1, 1) := by decide +kernel
theorem dX6_clearText_10 : decode cX6_clearText 10 = .ok (.aload_n 0, 1) := by decide +kernel
theorem dX6_clearText_11 : decode cX6_clearText 11 = .ok (.iconst 0, 1) := by decide +kernel
theorem dX6_clearText_12 : decode cX6_clearText 12 = .ok (.putfield 92, 3) := by decide +kernel
theorem dX6_clearText_15 : decode cX6_clearText 15 = .ok (.iload_n 1, 1) := by decide +kernel
theorem dX6_clearText_16 : decode cX6_clearText 16 = .ok (.ireturn, 1) := by decide +kernel
theorem dX6_letter_0 : decode cX6_letter 0 = .ok (.iload_n 1, 1) := by decide +kernel
theorem dX6_letter_1 : decode cX6_letter 1 = .ok (.aload_n 0, 1) := by decide +kernel
theorem dX6_letter_2 : decode cX6_letter 2 = .ok (.getfield 92, 3) := by decide +kernel
theorem dX6_letter_5 : decode cX6_letter 5 = .ok (.if_icmp .ge 12, 3) := by decide +kernel
theorem dX6_letter_8 : decode cX6_letter 8 = .ok (.aload_n 0, 1) := by decide +kernel
theorem dX6_letter_9 : decode cX6_letter 9 = .ok (.getfield 26, 3) := by decide +kernel
theorem dX6_letter_12 : decode cX6_letter 12 = .ok (.iload_n 1, 1) := by decide +kernel
theorem dX6_letter_13 : decode cX6_letter 13 = .ok (.iaload, 1) := by decide +kernel
theorem dX6_letter_14 : decode cX6_letter 14 = .ok (.goto 4, 3) := by decide +kernel
theorem dX6_letter_17 : decode cX6_letter 17 = .ok (.iconst (-1), 1) := by decide +kernel
theorem dX6_letter_18 : decode cX6_letter 18 = .ok (.ireturn, 1) := by decide +kernel
set_option maxRecDepth 20000 in
theorem ggX6_takes_X6_letter : GoodIn wsX6_takes wsX6_letter := goodIn_r _ [8, 9, 10, 14, 15, 16, 17, 18, 19, 20, 21, 22, 23, 24, 25, 26, 27, 28] (by decide +kernel) (by decide +kernel)
set_option maxRecDepth 20000 in
theorem gX6_takes_X6_letter : GoodIn wsX6_takes (wsV RX6 98 RX6 yX6_letter wsX6_letter) := goodIn_app (goodIn_of _ (by decide +kernel)) ggX6_takes_X6_letter
set_option maxRecDepth 20000 in
theorem ggX6_takes_X6_in : GoodIn wsX6_takes wsX6_in := goodIn_r _ [13] (by decide +kernel) (by decide +kernel)
set_option maxRecDepth 20000 in
theorem gX6_takes_X6_in : GoodIn wsX6_takes (va_wsS RX6 45 yX6_in wsX6_in) := goodIn_app (goodIn_of _ (by decide +kernel)) ggX6_takes_X6_in
theorem dX6_takes_0 : decode cX6_takes 0 = .ok (.aload_n 0, 1) := by decide +kernel
theorem dX6_takes_1 : decode cX6_takes 1 = .ok (.aload_n 0, 1) := by decide +kernel
theorem dX6_takes_2 : decode cX6_takes 2 = .ok (.getfield 95, 3) := by decide +kernel
theorem dX6_takes_5 : decode cX6_takes 5 = .ok (.invokevirtual 98, 3) := by decide +kernel
theorem dX6_takes_8 : decode cX6_takes 8 = .ok (.istore_n 3, 1) := by decide +kernel
theorem dX6_takes_9 : decode cX6_takes 9 = .ok (.aload_n 0, 1) := by decide +kernel
theorem dX6_takes_10 : decode cX6_takes 10 = .ok (.getfield 101, 3) := by decide +kernel
theorem dX6_takes_13 : decode cX6_takes 13 = .ok (.ldc 49, 2) := by decide +kernel
theorem dX6_takes_15 : decode cX6_takes 15 = .ok (.if_icmp .ne 26, 3) := by decide +kernel
theorem dX6_takes_18 : decode cX6_takes 18 = .ok (.iload_n 3, 1) := by decide +kernel
theorem dX6_takes_19 : decode cX6_takes 19 = .ok (.bipush 48, 2) := by decide +kernel
theorem dX6_takes_21 : decode cX6_takes 21 = .ok (.iload_n 1, 1) := by decide +kernel
theorem dX6_takes_22 : decode cX6_takes 22 = .ok (.iadd, 1) := by decide +kernel
theorem dX6_takes_23 : decode cX6_takes 23 = .ok (.bipush 48, 2) := by decide +kernel
theorem dX6_takes_25 : decode cX6_takes 25 = .ok (.iload_n 2, 1) := by decide +kernel
theorem dX6_takes_26 : decode cX6_takes 26 = .ok (.iadd, 1) := by decide +kernel
theorem dX6_takes_27 : decode cX6_takes 27 = .ok (.invokestatic 45, 3) := by decide +kernel
theorem dX6_takes_30 : decode cX6_takes 30 = .ok (.ifCond .ne 11, 3) := by decide +kernel
theorem dX6_takes_33 : decode cX6_takes 33 = .ok (.aload_n 0, 1) := by decide +kernel
theorem dX6_takes_34 : decode cX6_takes 34 = .ok (.aload_n 0, 1) := by decide +kernel
theorem dX6_takes_35 : decode cX6_takes 35 = .ok (.getfield 95, 3) := by decide +kernel
theorem dX6_takes_38 : decode cX6_takes 38 = .ok (.putfield 101, 3) := by decide +kernel
theorem dX6_takes_41 : decode cX6_takes 41 = .ok (.aload_n 0, 1) := by decide +kernel
theorem dX6_takes_42 : decode cX6_takes 42 = .ok (.dup, 1) := by decide +kernel
theorem dX6_takes_43 : decode cX6_takes 43 = .ok (.getfield 95, 3) := by decide +kernel
theorem dX6_takes_46 : decode cX6_takes 46 = .ok (.iconst 1, 1) := by decide +kernel
theorem dX6_takes_47 : decode cX6_takes 47 = .ok (.iadd, 1) := by decide +kernel
theorem dX6_takes_48 : decode cX6_takes 48 = .ok (.putfield 95, 3) := by decide +kernel
theorem dX6_takes_51 : decode cX6_takes 51 = .ok (.iload_n 3, 1) := by decide +kernel
theorem dX6_takes_52 : decode cX6_takes 52 = .ok (.bipush 48, 2) := by decide +kernel
theorem dX6_takes_54 : decode cX6_takes 54 = .ok (.isub, 1) := by decide +kernel
theorem dX6_takes_55 : decode cX6_takes 55 = .ok (.ireturn, 1) := by decide +kernel
set_option maxRecDepth 20000 in
theorem ggX6_takesThree_X6_takes : GoodIn wsX6_takesThree wsX6_takes := goodIn_r _ [5, 6, 7, 8, 9, 10, 11, 4, 12, 13, 14, 15, 16, 17, 18, 19, 20, 21, 22, 23, 24, 25, 26, 27, 28, 29, 30, 31, 32] (by decide +kernel) (by decide +kernel)
set_option maxRecDepth 20000 in
theorem gX6_takesThree_X6_takes : GoodIn wsX6_takesThree (wsV RX6 104 RX6 yX6_takes wsX6_takes) := goodIn_app (goodIn_of _ (by decide +kernel)) ggX6_takesThree_X6_takes
theorem dX6_takesThree_0 : decode cX6_takesThree 0 = .ok (.aload_n 0, 1) := by decide +kernel
theorem dX6_takesThree_1 : decode cX6_takesThree 1 = .ok (.iconst 0, 1) := by decide +kernel
theorem dX6_takesThree_2 : decode cX6_takesThree 2 = .ok (.bipush 9, 2) := by decide +kernel
theorem dX6_takesThree_4 : decode cX6_takesThree 4 = .ok (.invokevirtual 104, 3) := by decide +kernel
theorem dX6_takesThree_7 : decode cX6_takesThree 7 = .ok (.istore_n 1, 1) := by decide +kernel
theorem dX6_takesThree_8 : decode cX6_takesThree 8 = .ok (.aload_n 0, 1) := by decide +kernel
theorem dX6_takesThree_9 : decode cX6_takesThree 9 = .ok (.iconst 0, 1) := by decide +kernel
theorem dX6_takesThree_10 : decode cX6_takesThree 10 = .ok (.bipush 9, 2) := by decide +kernel
theorem dX6_takesThree_12 : decode cX6_takesThree 12 = .ok (.invokevirtual 104, 3) := by decide +kernel
theorem dX6_takesThree_15 : decode cX6_takesThree 15 = .ok (.istore_n 2, 1) := by decide +kernel
theorem dX6_takesThree_16 : decode cX6_takesThree 16 = .ok (.bipush 100, 2) := by decide +kernel
theorem dX6_takesThree_18 : decode cX6_takesThree 18 = .ok (.iload_n 1, 1) := by decide +kernel
theorem dX6_takesThree_19 : decode cX6_takesThree 19 = .ok (.imul, 1) := by decide +kernel
theorem dX6_takesThree_20 : decode cX6_takesThree 20 = .ok (.bipush 10, 2) := by decide +kernel
theorem dX6_takesThree_22 : decode cX6_takesThree 22 = .ok (.iload_n 2, 1) := by decide +kernel
theorem dX6_takesThree_23 : decode cX6_takesThree 23 = .ok (.imul, 1) := by decide +kernel
theorem dX6_takesThree_24 : decode cX6_takesThree 24 = .ok (.iadd, 1) := by decide +kernel
theorem dX6_takesThree_25 : decode cX6_takesThree 25 = .ok (.aload_n 0, 1) := by decide +kernel
theorem dX6_takesThree_26 : decode cX6_takesThree 26 = .ok (.iconst 0, 1) := by decide +kernel
theorem dX6_takesThree_27 : decode cX6_takesThree 27 = .ok (.bipush 9, 2) := by decide +kernel
theorem dX6_takesThree_29 : decode cX6_takesThree 29 = .ok (.invokevirtual 104, 3) := by decide +kernel
theorem dX6_takesThree_32 : decode cX6_takesThree 32 = .ok (.iadd, 1) := by decide +kernel
theorem dX6_takesThree_33 : decode cX6_takesThree 33 = .ok (.ireturn, 1) := by decide +kernel
set_option maxRecDepth 20000 in
theorem ggX6_readMember_X6_takesThree : GoodIn wsX6_readMember wsX6_takesThree := goodIn_r _ [9, 10, 11, 12, 8, 13, 2, 3, 4, 14, 15, 16, 17, 18, 19, 20, 21, 22, 23, 24, 25, 26, 27, 28, 29, 30, 31, 32, 33, 34, 35, 36, 37] (by decide +kernel) (by decide +kernel)
set_option maxRecDepth 20000 in
theorem gX6_readMember_X6_takesThree : GoodIn wsX6_readMember (wsV RX6 107 RX6 yX6_takesThree wsX6_takesThree) := goodIn_app (goodIn_of _ (by decide +kernel)) ggX6_readMember_X6_takesThree
theorem dX6_readMember_0 : decode cX6_readMember 0 = .ok (.aload_n 0, 1) := by decide +kernel
theorem dX6_readMember_1 : decode cX6_readMember 1 = .ok (.getfield 35, 3) := by decide +kernel
theorem dX6_readMember_4 : decode cX6_readMember 4 = .ok (.iconst 0, 1) := by decide +kernel
theorem dX6_readMember_5 : decode cX6_readMember 5 = .ok (.iaload, 1) := by decide +kernel
theorem dX6_readMember_6 : decode cX6_readMember 6 = .ok (.istore_n 1, 1) := by decide +kernel
theorem dX6_readMember_7 : decode cX6_readMember 7 = .ok (.iload_n 1, 1) := by decide +kernel
theorem dX6_readMember_8 : decode cX6_readMember 8 = .ok (.bipush 8, 2) := by decide +kernel
theorem dX6_readMember_10 : decode cX6_readMember 10 = .ok (.if_icmp .ne 12, 3) := by decide +kernel
theorem dX6_readMember_13 : decode cX6_readMember 13 = .ok (.aload_n 0, 1) := by decide +kernel
theorem dX6_readMember_14 : decode cX6_readMember 14 = .ok (.aload_n 0, 1) := by decide +kernel
theorem dX6_readMember_15 : decode cX6_readMember 15 = .ok (.getfield 95, 3) := by decide +kernel
theorem dX6_readMember_18 : decode cX6_readMember 18 = .ok (.putfield 101, 3) := by decide +kernel
theorem dX6_readMember_21 : decode cX6_readMember 21 = .ok (.return_, 1) := by decide +kernel
theorem dX6_readMember_22 : decode cX6_readMember 22 = .ok (.aload_n 0, 1) := by decide +kernel
theorem dX6_readMember_23 : decode cX6_readMember 23 = .ok (.dup, 1) := by decide +kernel
theorem dX6_readMember_24 : decode cX6_readMember 24 = .ok (.getfield 95, 3) := by decide +kernel
theorem dX6_readMember_27 : decode cX6_readMember 27 = .ok (.iconst 1, 1) := by decide +kernel
theorem dX6_readMember_28 : decode cX6_readMember 28 = .ok (.iadd, 1) := by decide +kernel
theorem dX6_readMember_29 : decode cX6_readMember 29 = .ok (.putfield 95, 3) := by decide +kernel
theorem dX6_readMember_32 : decode cX6_readMember 32 = .ok (.aload_n 0, 1) := by decide +kernel
theorem dX6_readMember_33 : decode cX6_readMember 33 = .ok (.invokevirtual 107, 3) := by decide +kernel
theorem dX6_readMember_36 : decode cX6_readMember 36 = .ok (.istore_n 2, 1) := by decide +kernel
theorem dX6_readMember_37 : decode cX6_readMember 37 = .ok (.aload_n 0, 1) := by decide +kernel
theorem dX6_readMember_38 : decode cX6_readMember 38 = .ok (.getfield 35, 3) := by decide +kernel
theorem dX6_readMember_41 : decode cX6_readMember 41 = .ok (.iconst 0, 1) := by decide +kernel
theorem dX6_readMember_42 : decode cX6_readMember 42 = .ok (.dup2, 1) := by decide +kernel
theorem dX6_readMember_43 : decode cX6_readMember 43 = .ok (.iaload, 1) := by decide +kernel
theorem dX6_readMember_44 : decode cX6_readMember 44 = .ok (.iconst 1, 1) := by decide +kernel
theorem dX6_readMember_45 : decode cX6_readMember 45 = .ok (.iadd, 1) := by decide +kernel
theorem dX6_readMember_46 : decode cX6_readMember 46 = .ok (.iastore, 1) := by decide +kernel
theorem dX6_readMember_47 : decode cX6_readMember 47 = .ok (.aload_n 0, 1) := by decide +kernel
theorem dX6_readMember_48 : decode cX6_readMember 48 = .ok (.getfield 35, 3) := by decide +kernel
theorem dX6_readMember_51 : decode cX6_readMember 51 = .ok (.iconst 5, 1) := by decide +kernel
theorem dX6_readMember_52 : decode cX6_readMember 52 = .ok (.iload_n 1, 1) := by decide +kernel
theorem dX6_readMember_53 : decode cX6_readMember 53 = .ok (.iadd, 1) := by decide +kernel
theorem dX6_readMember_54 : decode cX6_readMember 54 = .ok (.iload_n 2, 1) := by decide +kernel
theorem dX6_readMember_55 : decode cX6_readMember 55 = .ok (.iastore, 1) := by decide +kernel
theorem dX6_readMember_56 : decode cX6_readMember 56 = .ok (.aload_n 0, 1) := by decide +kernel
theorem dX6_readMember_57 : decode cX6_readMember 57 = .ok (.getfield 35, 3) := by decide +kernel
theorem dX6_readMember_60 : decode cX6_readMember 60 = .ok (.bipush 13, 2) := by decide +kernel
theorem dX6_readMember_62 : decode cX6_readMember 62 = .ok (.iload_n 1, 1) := by decide +kernel
theorem dX6_readMember_63 : decode cX6_readMember 63 = .ok (.iadd, 1) := by decide +kernel
theorem dX6_readMember_64 : decode cX6_readMember 64 = .ok (.ldc 49, 2) := by decide +kernel
theorem dX6_readMember_66 : decode cX6_readMember 66 = .ok (.iastore, 1) := by decide +kernel
theorem dX6_readMember_67 : decode cX6_readMember 67 = .ok (.aload_n 0, 1) := by decide +kernel
theorem dX6_readMember_68 : decode cX6_readMember 68 = .ok (.getfield 35, 3) := by decide +kernel
theorem dX6_readMember_71 : decode cX6_readMember 71 = .ok (.bipush 45, 2) := by decide +kernel
theorem dX6_readMember_73 : decode cX6_readMember 73 = .ok (.iload_n 1, 1) := by decide +kernel
theorem dX6_readMember_74 : decode cX6_readMember 74 = .ok (.iadd, 1) := by decide +kernel
theorem dX6_readMember_75 : decode cX6_readMember 75 = .ok (.iconst 1, 1) := by decide +kernel
theorem dX6_readMember_76 : decode cX6_readMember 76 = .ok (.iastore, 1) := by decide +kernel
theorem dX6_readMember_77 : decode cX6_readMember 77 = .ok (.aload_n 0, 1) := by decide +kernel
theorem dX6_readMember_78 : decode cX6_readMember 78 = .ok (.getfield 35, 3) := by decide +kernel
theorem dX6_readMember_81 : decode cX6_readMember 81 = .ok (.iconst 4, 1) := by decide +kernel
theorem dX6_readMember_82 : decode cX6_readMember 82 = .ok (.dup2, 1) := by decide +kernel
theorem dX6_readMember_83 : decode cX6_readMember 83 = .ok (.iaload, 1) := by decide +kernel
theorem dX6_readMember_84 : decode cX6_readMember 84 = .ok (.iload_n 2, 1) := by decide +kernel
theorem dX6_readMember_85 : decode cX6_readMember 85 = .ok (.iadd, 1) := by decide +kernel
theorem dX6_readMember_86 : decode cX6_readMember 86 = .ok (.iastore, 1) := by decide +kernel
theorem dX6_readMember_87 : decode cX6_readMember 87 = .ok (.return_, 1) := by decide +kernel
set_option maxRecDepth 20000 in
theorem ggX6_readGuarantor_X6_takes : GoodIn wsX6_readGuarantor wsX6_takes := goodIn_r _ [9, 2, 3, 4, 10, 11, 12, 8, 13, 14, 15, 16, 17, 18, 19, 20, 21, 22, 23, 24, 25, 26, 27, 28, 29, 30, 31, 32, 33] (by decide +kernel) (by decide +kernel)
set_option maxRecDepth 20000 in
theorem gX6_readGuarantor_X6_takes : GoodIn wsX6_readGuarantor (wsV RX6 104 RX6 yX6_takes wsX6_takes) := goodIn_app (goodIn_of _ (by decide +kernel)) ggX6_readGuarantor_X6_takes
theorem dX6_readGuarantor_0 : decode cX6_readGuarantor 0 = .ok (.aload_n 0, 1) := by decide +kernel
theorem dX6_readGuarantor_1 : decode cX6_readGuarantor 1 = .ok (.getfield 35, 3) := by decide +kernel
theorem dX6_readGuarantor_4 : decode cX6_readGuarantor 4 = .ok (.iconst 0, 1) := by decide +kernel
theorem dX6_readGuarantor_5 : decode cX6_readGuarantor 5 = .ok (.iaload, 1) := by decide +kernel
theorem dX6_readGuarantor_6 : decode cX6_readGuarantor 6 = .ok (.iconst 2, 1) := by decide +kernel
theorem dX6_readGuarantor_7 : decode cX6_readGuarantor 7 = .ok (.if_icmp .ge 12, 3) := by decide +kernel
theorem dX6_readGuarantor_10 : decode cX6_readGuarantor 10 = .ok (.aload_n 0, 1) := by decide +kernel
theorem dX6_readGuarantor_11 : decode cX6_readGuarantor 11 = .ok (.aload_n 0, 1) := by decide +kernel
theorem dX6_readGuarantor_12 : decode cX6_readGuarantor 12 = .ok (.getfield 95, 3) := by decide +kernel
theorem dX6_readGuarantor_15 : decode cX6_readGuarantor 15 = .ok (.putfield 101, 3) := by decide +kernel
theorem dX6_readGuarantor_18 : decode cX6_readGuarantor 18 = .ok (.return_, 1) := by decide +kernel
theorem dX6_readGuarantor_19 : decode cX6_readGuarantor 19 = .ok (.aload_n 0, 1) := by decide +kernel
theorem dX6_readGuarantor_20 : decode cX6_readGuarantor 20 = .ok (.dup, 1) := by decide +kernel
theorem dX6_readGuarantor_21 : decode cX6_readGuarantor 21 = .ok (.getfield 95, 3) := by decide +kernel
theorem dX6_readGuarantor_24 : decode cX6_readGuarantor 24 = .ok (.iconst 1, 1) := by decide +kernel
theorem dX6_readGuarantor_25 : decode cX6_readGuarantor 25 = .ok (.iadd, 1) := by decide +kernel
theorem dX6_readGuarantor_26 : decode cX6_readGuarantor 26 = .ok (.putfield 95, 3) := by decide +kernel
theorem dX6_readGuarantor_29 : decode cX6_readGuarantor 29 = .ok (.aload_n 0, 1) := by decide +kernel
theorem dX6_readGuarantor_30 : decode cX6_readGuarantor 30 = .ok (.iconst 0, 1) := by decide +kernel
theorem dX6_readGuarantor_31 : decode cX6_readGuarantor 31 = .ok (.aload_n 0, 1) := by decide +kernel
theorem dX6_readGuarantor_32 : decode cX6_readGuarantor 32 = .ok (.getfield 35, 3) := by decide +kernel
theorem dX6_readGuarantor_35 : decode cX6_readGuarantor 35 = .ok (.iconst 0, 1) := by decide +kernel
theorem dX6_readGuarantor_36 : decode cX6_readGuarantor 36 = .ok (.iaload, 1) := by decide +kernel
theorem dX6_readGuarantor_37 : decode cX6_readGuarantor 37 = .ok (.iconst 1, 1) := by decide +kernel
theorem dX6_readGuarantor_38 : decode cX6_readGuarantor 38 = .ok (.isub, 1) := by decide +kernel
theorem dX6_readGuarantor_39 : decode cX6_readGuarantor 39 = .ok (.invokevirtual 104, 3) := by decide +kernel
theorem dX6_readGuarantor_42 : decode cX6_readGuarantor 42 = .ok (.istore_n 1, 1) := by decide +kernel
theorem dX6_readGuarantor_43 : decode cX6_readGuarantor 43 = .ok (.aload_n 0, 1) := by decide +kernel
theorem dX6_readGuarantor_44 : decode cX6_readGuarantor 44 = .ok (.iconst 0, 1) := by decide +kernel
theorem dX6_readGuarantor_45 : decode cX6_readGuarantor 45 = .ok (.aload_n 0, 1) := by decide +kernel
theorem dX6_readGuarantor_46 : decode cX6_readGuarantor 46 = .ok (.getfield 35, 3) := by decide +kernel
theorem dX6_readGuarantor_49 : decode cX6_readGuarantor 49 = .ok (.iconst 0, 1) := by decide +kernel
theorem dX6_readGuarantor_50 : decode cX6_readGuarantor 50 = .ok (.iaload, 1) := by decide +kernel
theorem dX6_readGuarantor_51 : decode cX6_readGuarantor 51 = .ok (.iconst 1, 1) := by decide +kernel
theorem dX6_readGuarantor_52 : decode cX6_readGuarantor 52 = .ok (.isub, 1) := by decide +kernel
theorem dX6_readGuarantor_53 : decode cX6_readGuarantor 53 = .ok (.invokevirtual 104, 3) := by decide +kernel
theorem dX6_readGuarantor_56 : decode cX6_readGuarantor 56 = .ok (.istore_n 2, 1) := by decide +kernel
theorem dX6_readGuarantor_57 : decode cX6_readGuarantor 57 = .ok (.aload_n 0, 1) := by decide +kernel
theorem dX6_readGuarantor_58 : decode cX6_readGuarantor 58 = .ok (.getfield 101, 3) := by decide +kernel
theorem dX6_readGuarantor_61 : decode cX6_readGuarantor 61 = .ok (.ldc 49, 2) := by decide +kernel
theorem dX6_readGuarantor_63 : decode cX6_readGuarantor 63 = .ok (.if_icmp .ne 18, 3) := by decide +kernel
theorem dX6_readGuarantor_66 : decode cX6_readGuarantor 66 = .ok (.iload_n 1, 1) := by decide +kernel
theorem dX6_readGuarantor_67 : decode cX6_readGuarantor 67 = .ok (.iload_n 2, 1) := by decide +kernel
theorem dX6_readGuarantor_68 : decode cX6_readGuarantor 68 = .ok (.if_icmp .ne 13, 3) := by decide +kernel
theorem dX6_readGuarantor_71 : decode cX6_readGuarantor 71 = .ok (.aload_n 0, 1) := by decide +kernel
theorem dX6_readGuarantor_72 : decode cX6_readGuarantor 72 = .ok (.aload_n 0, 1) := by decide +kernel
theorem dX6_readGuarantor_73 : decode cX6_readGuarantor 73 = .ok (.getfield 95, 3) := by decide +kernel
theorem dX6_readGuarantor_76 : decode cX6_readGuarantor 76 = .ok (.iconst 1, 1) := by decide +kernel
theorem dX6_readGuarantor_77 : decode cX6_readGuarantor 77 = .ok (.isub, 1) := by decide +kernel
theorem dX6_readGuarantor_78 : decode cX6_readGuarantor 78 = .ok (.putfield 101, 3) := by decide +kernel
theorem dX6_readGuarantor_81 : decode cX6_readGuarantor 81 = .ok (.aload_n 0, 1) := by decide +kernel
theorem dX6_readGuarantor_82 : decode cX6_readGuarantor 82 = .ok (.getfield 101, 3) := by decide +kernel
theorem dX6_readGuarantor_85 : decode cX6_readGuarantor 85 = .ok (.ldc 49, 2) := by decide +kernel
theorem dX6_readGuarantor_87 : decode cX6_readGuarantor 87 = .ok (.if_icmp .ne 13, 3) := by decide +kernel
theorem dX6_readGuarantor_90 : decode cX6_readGuarantor 90 = .ok (.aload_n 0, 1) := by decide +kernel
theorem dX6_readGuarantor_91 : decode cX6_readGuarantor 91 = .ok (.getfield 35, 3) := by decide +kernel
theorem dX6_readGuarantor_94 : decode cX6_readGuarantor 94 = .ok (.bipush 13, 2) := by decide +kernel
theorem dX6_readGuarantor_96 : decode cX6_readGuarantor 96 = .ok (.iload_n 1, 1) := by decide +kernel
theorem dX6_readGuarantor_97 : decode cX6_readGuarantor 97 = .ok (.iadd, 1) := by decide +kernel
theorem dX6_readGuarantor_98 : decode cX6_readGuarantor 98 = .ok (.iload_n 2, 1) := by decide +kernel
theorem dX6_readGuarantor_99 : decode cX6_readGuarantor 99 = .ok (.iastore, 1) := by decide +kernel
theorem dX6_readGuarantor_100 : decode cX6_readGuarantor 100 = .ok (.return_, 1) := by decide +kernel
set_option maxRecDepth 20000 in
theorem ggX6_readBid_X6_takes : GoodIn wsX6_readBid wsX6_takes := goodIn_r _ [9, 2, 3, 4, 10, 11, 12, 8, 13, 14, 15, 16, 17, 18, 23, 24, 25, 26, 27, 28, 29, 30, 31, 32, 33, 34, 35, 36, 37] (by decide +kernel) (by decide +kernel)
set_option maxRecDepth 20000 in
theorem gX6_readBid_X6_takes : GoodIn wsX6_readBid (wsV RX6 104 RX6 yX6_takes wsX6_takes) := goodIn_app (goodIn_of _ (by decide +kernel)) ggX6_readBid_X6_takes
set_option maxRecDepth 20000 in
theorem ggX6_readBid_X6_takesThree : GoodIn wsX6_readBid wsX6_takesThree := goodIn_r _ [22, 5, 6, 7, 8, 9, 2, 3, 4, 10, 11, 12, 13, 14, 15, 16, 17, 18, 23, 24, 25, 26, 27, 28, 29, 30, 31, 32, 33, 34, 35, 36, 37] (by decide +kernel) (by decide +kernel)
set_option maxRecDepth 20000 in
theorem gX6_readBid_X6_takesThree : GoodIn wsX6_readBid (wsV RX6 107 RX6 yX6_takesThree wsX6_takesThree) := goodIn_app (goodIn_of _ (by decide +kernel)) ggX6_readBid_X6_takesThree
theorem dX6_readBid_0 : decode cX6_readBid 0 = .ok (.aload_n 0, 1) := by decide +kernel
theorem dX6_readBid_1 : decode cX6_readBid 1 = .ok (.getfield 35, 3) := by decide +kernel
theorem dX6_readBid_4 : decode cX6_readBid 4 = .ok (.iconst 0, 1) := by decide +kernel
theorem dX6_readBid_5 : decode cX6_readBid 5 = .ok (.iaload, 1) := by decide +kernel
theorem dX6_readBid_6 : decode cX6_readBid 6 = .ok (.iconst 1, 1) := by decide +kernel
theorem dX6_readBid_7 : decode cX6_readBid 7 = .ok (.if_icmp .ge 12, 3) := by decide +kernel
theorem dX6_readBid_10 : decode cX6_readBid 10 = .ok (.aload_n 0, 1) := by decide +kernel
theorem dX6_readBid_11 : decode cX6_readBid 11 = .ok (.aload_n 0, 1) := by decide +kernel
theorem dX6_readBid_12 : decode cX6_readBid 12 = .ok (.getfield 95, 3) := by decide +kernel
theorem dX6_readBid_15 : decode cX6_readBid 15 = .ok (.putfield 101, 3) := by decide +kernel
theorem dX6_readBid_18 : decode cX6_readBid 18 = .ok (.return_, 1) := by decide +kernel
theorem dX6_readBid_19 : decode cX6_readBid 19 = .ok (.aload_n 0, 1) := by decide +kernel
theorem dX6_readBid_20 : decode cX6_readBid 20 = .ok (.dup, 1) := by decide +kernel
theorem dX6_readBid_21 : decode cX6_readBid 21 = .ok (.getfield 95, 3) := by decide +kernel
theorem dX6_readBid_24 : decode cX6_readBid 24 = .ok (.iconst 1, 1) := by decide +kernel
theorem dX6_readBid_25 : decode cX6_readBid 25 = .ok (.iadd, 1) := by decide +kernel
theorem dX6_readBid_26 : decode cX6_readBid 26 = .ok (.putfield 95, 3) := by decide +kernel
theorem dX6_readBid_29 : decode cX6_readBid 29 = .ok (.aload_n 0, 1) := by decide +kernel
theorem dX6_readBid_30 : decode cX6_readBid 30 = .ok (.iconst 0, 1) := by decide +kernel
theorem dX6_readBid_31 : decode cX6_readBid 31 = .ok (.aload_n 0, 1) := by decide +kernel
theorem dX6_readBid_32 : decode cX6_readBid 32 = .ok (.getfield 35, 3) := by decide +kernel
theorem dX6_readBid_35 : decode cX6_readBid 35 = .ok (.iconst 0, 1) := by decide +kernel
theorem dX6_readBid_36 : decode cX6_readBid 36 = .ok (.iaload, 1) := by decide +kernel
theorem dX6_readBid_37 : decode cX6_readBid 37 = .ok (.iconst 1, 1) := by decide +kernel
theorem dX6_readBid_38 : decode cX6_readBid 38 = .ok (.isub, 1) := by decide +kernel
theorem dX6_readBid_39 : decode cX6_readBid 39 = .ok (.invokevirtual 104, 3) := by decide +kernel
theorem dX6_readBid_42 : decode cX6_readBid 42 = .ok (.istore_n 1, 1) := by decide +kernel
theorem dX6_readBid_43 : decode cX6_readBid 43 = .ok (.aload_n 0, 1) := by decide +kernel
theorem dX6_readBid_44 : decode cX6_readBid 44 = .ok (.getfield 101, 3) := by decide +kernel
theorem dX6_readBid_47 : decode cX6_readBid 47 = .ok (.ldc 49, 2) := by decide +kernel
theorem dX6_readBid_49 : decode cX6_readBid 49 = .ok (.if_icmp .ne 10, 3) := by decide +kernel
theorem dX6_readBid_52 : decode cX6_readBid 52 = .ok (.aload_n 0, 1) := by decide +kernel
theorem dX6_readBid_53 : decode cX6_readBid 53 = .ok (.invokevirtual 107, 3) := by decide +kernel
theorem dX6_readBid_56 : decode cX6_readBid 56 = .ok (.goto 4, 3) := by decide +kernel
theorem dX6_readBid_59 : decode cX6_readBid 59 = .ok (.iconst 0, 1) := by decide +kernel
theorem dX6_readBid_60 : decode cX6_readBid 60 = .ok (.istore_n 2, 1) := by decide +kernel
theorem dX6_readBid_61 : decode cX6_readBid 61 = .ok (.aload_n 0, 1) := by decide +kernel
theorem dX6_readBid_62 : decode cX6_readBid 62 = .ok (.getfield 101, 3) := by decide +kernel
theorem dX6_readBid_65 : decode cX6_readBid 65 = .ok (.ldc 49, 2) := by decide +kernel
theorem dX6_readBid_67 : decode cX6_readBid 67 = .ok (.if_icmp .ne 13, 3) := by decide +kernel
theorem dX6_readBid_70 : decode cX6_readBid 70 = .ok (.aload_n 0, 1) := by decide +kernel
theorem dX6_readBid_71 : decode cX6_readBid 71 = .ok (.getfield 35, 3) := by decide +kernel
theorem dX6_readBid_74 : decode cX6_readBid 74 = .ok (.bipush 21, 2) := by decide +kernel
theorem dX6_readBid_76 : decode cX6_readBid 76 = .ok (.iload_n 1, 1) := by decide +kernel
theorem dX6_readBid_77 : decode cX6_readBid 77 = .ok (.iadd, 1) := by decide +kernel
theorem dX6_readBid_78 : decode cX6_readBid 78 = .ok (.iload_n 2, 1) := by decide +kernel
theorem dX6_readBid_79 : decode cX6_readBid 79 = .ok (.iastore, 1) := by decide +kernel
theorem dX6_readBid_80 : decode cX6_readBid 80 = .ok (.return_, 1) := by decide +kernel
set_option maxRecDepth 20000 in
theorem ggX6_readContribution_X6_letter : GoodIn wsX6_readContribution wsX6_letter := goodIn_r _ [9, 10, 11, 19, 20, 21, 22, 23, 24, 25, 26, 27, 28, 29, 30, 31, 32, 33] (by decide +kernel) (by decide +kernel)
set_option maxRecDepth 20000 in
theorem gX6_readContribution_X6_letter : GoodIn wsX6_readContribution (wsV RX6 98 RX6 yX6_letter wsX6_letter) := goodIn_app (goodIn_of _ (by decide +kernel)) ggX6_readContribution_X6_letter
set_option maxRecDepth 20000 in
theorem ggX6_readContribution_X6_takes : GoodIn wsX6_readContribution wsX6_takes := goodIn_r _ [15, 2, 1, 3, 5, 6, 7, 8, 9, 10, 11, 16, 17, 18, 19, 20, 21, 22, 23, 24, 25, 26, 27, 28, 29, 30, 31, 32, 33] (by decide +kernel) (by decide +kernel)
set_option maxRecDepth 20000 in
theorem gX6_readContribution_X6_takes : GoodIn wsX6_readContribution (wsV RX6 104 RX6 yX6_takes wsX6_takes) := goodIn_app (goodIn_of _ (by decide +kernel)) ggX6_readContribution_X6_takes
theorem dX6_readContribution_0 : decode cX6_readContribution 0 = .ok (.aload_n 0, 1) := by decide +kernel
theorem dX6_readContribution_1 : decode cX6_readContribution 1 = .ok (.iconst 0, 1) := by decide +kernel
theorem dX6_readContribution_2 : decode cX6_readContribution 2 = .ok (.invokevirtual 98, 3) := by decide +kernel
theorem dX6_readContribution_5 : decode cX6_readContribution 5 = .ok (.bipush 67, 2) := by decide +kernel
theorem dX6_readContribution_7 : decode cX6_readContribution 7 = .ok (.if_icmp .eq 8, 3) := by decide +kernel
theorem dX6_readContribution_10 : decode cX6_readContribution 10 = .ok (.aload_n 0, 1) := by decide +kernel
theorem dX6_readContribution_11 : decode cX6_readContribution 11 = .ok (.iconst 0, 1) := by decide +kernel
theorem dX6_readContribution_12 : decode cX6_readContribution 12 = .ok (.putfield 101, 3) := by decide +kernel
theorem dX6_readContribution_15 : decode cX6_readContribution 15 = .ok (.aload_n 0, 1) := by decide +kernel
theorem dX6_readContribution_16 : decode cX6_readContribution 16 = .ok (.iconst 1, 1) := by decide +kernel
theorem dX6_readContribution_17 : decode cX6_readContribution 17 = .ok (.putfield 95, 3) := by decide +kernel
theorem dX6_readContribution_20 : decode cX6_readContribution 20 = .ok (.aload_n 0, 1) := by decide +kernel
theorem dX6_readContribution_21 : decode cX6_readContribution 21 = .ok (.getfield 101, 3) := by decide +kernel
theorem dX6_readContribution_24 : decode cX6_readContribution 24 = .ok (.ldc 49, 2) := by decide +kernel
theorem dX6_readContribution_26 : decode cX6_readContribution 26 = .ok (.if_icmp .ne 12, 3) := by decide +kernel
theorem dX6_readContribution_29 : decode cX6_readContribution 29 = .ok (.aload_n 0, 1) := by decide +kernel
theorem dX6_readContribution_30 : decode cX6_readContribution 30 = .ok (.iconst 0, 1) := by decide +kernel
theorem dX6_readContribution_31 : decode cX6_readContribution 31 = .ok (.iconst 5, 1) := by decide +kernel
theorem dX6_readContribution_32 : decode cX6_readContribution 32 = .ok (.invokevirtual 104, 3) := by decide +kernel
theorem dX6_readContribution_35 : decode cX6_readContribution 35 = .ok (.goto 4, 3) := by decide +kernel
theorem dX6_readContribution_38 : decode cX6_readContribution 38 = .ok (.iconst 0, 1) := by decide +kernel
theorem dX6_readContribution_39 : decode cX6_readContribution 39 = .ok (.istore_n 1, 1) := by decide +kernel
theorem dX6_readContribution_40 : decode cX6_readContribution 40 = .ok (.aload_n 0, 1) := by decide +kernel
theorem dX6_readContribution_41 : decode cX6_readContribution 41 = .ok (.getfield 101, 3) := by decide +kernel
theorem dX6_readContribution_44 : decode cX6_readContribution 44 = .ok (.ldc 49, 2) := by decide +kernel
theorem dX6_readContribution_46 : decode cX6_readContribution 46 = .ok (.if_icmp .ne 30, 3) := by decide +kernel
theorem dX6_readContribution_49 : decode cX6_readContribution 49 = .ok (.aload_n 0, 1) := by decide +kernel
theorem dX6_readContribution_50 : decode cX6_readContribution 50 = .ok (.iload_n 1, 1) := by decide +kernel
theorem dX6_readContribution_51 : decode cX6_readContribution 51 = .ok (.ifCond .ne 7, 3) := by decide +kernel
theorem dX6_readContribution_54 : decode cX6_readContribution 54 = .ok (.iconst 1, 1) := by decide +kernel
theorem dX6_readContribution_55 : decode cX6_readContribution 55 = .ok (.goto 4, 3) := by decide +kernel
theorem dX6_readContribution_58 : decode cX6_readContribution 58 = .ok (.iconst 0, 1) := by decide +kernel
theorem dX6_readContribution_59 : decode cX6_readContribution 59 = .ok (.iload_n 1, 1) := by decide +kernel
theorem dX6_readContribution_60 : decode cX6_readContribution 60 = .ok (.iconst 5, 1) := by decide +kernel
theorem dX6_readContribution_61 : decode cX6_readContribution 61 = .ok (.if_icmp .ne 7, 3) := by decide +kernel
theorem dX6_readContribution_64 : decode cX6_readContribution 64 = .ok (.iconst 0, 1) := by decide +kernel
theorem dX6_readContribution_65 : decode cX6_readContribution 65 = .ok (.goto 5, 3) := by decide +kernel
theorem dX6_readContribution_68 : decode cX6_readContribution 68 = .ok (.bipush 9, 2) := by decide +kernel
theorem dX6_readContribution_70 : decode cX6_readContribution 70 = .ok (.invokevirtual 104, 3) := by decide +kernel
theorem dX6_readContribution_73 : decode cX6_readContribution 73 = .ok (.goto 4, 3) := by decide +kernel
theorem dX6_readContribution_76 : decode cX6_readContribution 76 = .ok (.iconst 0, 1) := by decide +kernel
theorem dX6_readContribution_77 : decode cX6_readContribution 77 = .ok (.istore_n 2, 1) := by decide +kernel
theorem dX6_readContribution_78 : decode cX6_readContribution 78 = .ok (.aload_n 0, 1) := by decide +kernel
theorem dX6_readContribution_79 : decode cX6_readContribution 79 = .ok (.getfield 35, 3) := by decide +kernel
theorem dX6_readContribution_82 : decode cX6_readContribution 82 = .ok (.iconst 1, 1) := by decide +kernel
theorem dX6_readContribution_83 : decode cX6_readContribution 83 = .ok (.bipush 10, 2) := by decide +kernel
theorem dX6_readContribution_85 : decode cX6_readContribution 85 = .ok (.iload_n 1, 1) := by decide +kernel
theorem dX6_readContribution_86 : decode cX6_readContribution 86 = .ok (.imul, 1) := by decide +kernel
theorem dX6_readContribution_87 : decode cX6_readContribution 87 = .ok (.iload_n 2, 1) := by decide +kernel
theorem dX6_readContribution_88 : decode cX6_readContribution 88 = .ok (.iadd, 1) := by decide +kernel
theorem dX6_readContribution_89 : decode cX6_readContribution 89 = .ok (.iastore, 1) := by decide +kernel
theorem dX6_readContribution_90 : decode cX6_readContribution 90 = .ok (.return_, 1) := by decide +kernel
set_option maxRecDepth 20000 in
theorem ggX6_readText_X6_readContribution : GoodIn wsX6_readText wsX6_readContribution := goodIn_r _ [10, 3, 4, 2, 1, 11, 12, 13, 9, 14, 5, 15, 16, 17, 18, 19, 20, 21, 22, 39, 40, 41, 42, 43, 44, 45, 46, 47, 48, 49, 50, 51, 52, 53] (by decide +kernel) (by decide +kernel)
set_option maxRecDepth 20000 in
theorem gX6_readText_X6_readContribution : GoodIn wsX6_readText (wsV RX6 110 RX6 yX6_readContribution wsX6_readContribution) := goodIn_app (goodIn_of _ (by decide +kernel)) ggX6_readText_X6_readContribution
set_option maxRecDepth 20000 in
theorem ggX6_readText_X6_letter : GoodIn wsX6_readText wsX6_letter := goodIn_r _ [14, 5, 15, 39, 40, 41, 42, 43, 44, 45, 46, 47, 48, 49, 50, 51, 52, 53] (by decide +kernel) (by decide +kernel)
set_option maxRecDepth 20000 in
theorem gX6_readText_X6_letter : GoodIn wsX6_readText (wsV RX6 98 RX6 yX6_letter wsX6_letter) := goodIn_app (goodIn_of _ (by decide +kernel)) ggX6_readText_X6_letter
set_option maxRecDepth 20000 in
theorem ggX6_readText_X6_readMember : GoodIn wsX6_readText wsX6_readMember := goodIn_r _ [26, 1, 4, 3, 2, 27, 28, 29, 9, 30, 16, 17, 18, 19, 11, 12, 13, 14, 5, 15, 20, 21, 22, 39, 40, 41, 42, 43, 44, 45, 46, 47, 48, 49, 50, 51, 52, 53] (by decide +kernel) (by decide +kernel)
set_option maxRecDepth 20000 in
theorem gX6_readText_X6_readMember : GoodIn wsX6_readText (wsV RX6 113 RX6 yX6_readMember wsX6_readMember) := goodIn_app (goodIn_of _ (by decide +kernel)) ggX6_readText_X6_readMember
set_option maxRecDepth 20000 in
theorem ggX6_readText_X6_readGuarantor : GoodIn wsX6_readText wsX6_readGuarantor := goodIn_r _ [34, 1, 4, 3, 2, 16, 17, 18, 9, 19, 11, 12, 13, 14, 5, 15, 20, 21, 22, 39, 40, 41, 42, 43, 44, 45, 46, 47, 48, 49, 50, 51, 52, 53] (by decide +kernel) (by decide +kernel)
set_option maxRecDepth 20000 in
theorem gX6_readText_X6_readGuarantor : GoodIn wsX6_readText (wsV RX6 116 RX6 yX6_readGuarantor wsX6_readGuarantor) := goodIn_app (goodIn_of _ (by decide +kernel)) ggX6_readText_X6_readGuarantor
set_option maxRecDepth 20000 in
theorem ggX6_readText_X6_readBid : GoodIn wsX6_readText wsX6_readBid := goodIn_r _ [38, 1, 4, 3, 2, 16, 17, 18, 9, 19, 11, 12, 13, 14, 5, 15, 20, 21, 22, 27, 28, 29, 30, 39, 40, 41, 42, 43, 44, 45, 46, 47, 48, 49, 50, 51, 52, 53] (by decide +kernel) (by decide +kernel)
set_option maxRecDepth 20000 in
theorem gX6_readText_X6_readBid : GoodIn wsX6_readText (wsV RX6 119 RX6 yX6_readBid wsX6_readBid) := goodIn_app (goodIn_of _ (by decide +kernel)) ggX6_readText_X6_readBid
theorem dX6_readText_0 : decode cX6_readText 0 = .ok (.iconst 0, 1) := by decide +kernel
theorem dX6_readText_1 : decode cX6_readText 1 = .ok (.istore_n 1, 1) := by decide +kernel
theorem dX6_readText_2 : decode cX6_readText 2 = .ok (.iload_n 1, 1) := by decide +kernel
theorem dX6_readText_3 : decode cX6_readText 3 = .ok (.sipush 157, 3) := by decide +kernel
theorem dX6_readText_6 : decode cX6_readText 6 = .ok (.if_icmp .ge 16, 3) := by decide +kernel
theorem dX6_readText_9 : decode cX6_readText 9 = .ok (.aload_n 0, 1) := by decide +kernel
theorem dX6_readText_10 : decode cX6_readText 10 = .ok (.getfield 35, 3) := by decide +kernel
theorem dX6_readText_13 : decode cX6_readText 13 = .ok (.iload_n 1, 1) := by decide +kernel
theorem dX6_readText_14 : decode cX6_readText 14 = .ok (.iconst 0, 1) := by decide +kernel
theorem dX6_readText_15 : decode cX6_readText 15 = .ok (.iastore, 1) := by decide +kernel
theorem dX6_readText_16 : decode cX6_readText 16 = .ok (.iinc 1 1, 3) := by decide +kernel
theorem dX6_readText_19 : decode cX6_readText 19 = .ok (.goto (-17), 3) := by decide +kernel
theorem dX6_readText_22 : decode cX6_readText 22 = .ok (.aload_n 0, 1) := by decide +kernel
theorem dX6_readText_23 : decode cX6_readText 23 = .ok (.ldc 49, 2) := by decide +kernel
theorem dX6_readText_25 : decode cX6_readText 25 = .ok (.putfield 101, 3) := by decide +kernel
theorem dX6_readText_28 : decode cX6_readText 28 = .ok (.aload_n 0, 1) := by decide +kernel
theorem dX6_readText_29 : decode cX6_readText 29 = .ok (.invokevirtual 110, 3) := by decide +kernel
theorem dX6_readText_32 : decode cX6_readText 32 = .ok (.aload_n 0, 1) := by decide +kernel
theorem dX6_readText_33 : decode cX6_readText 33 = .ok (.getfield 101, 3) := by decide +kernel
theorem dX6_readText_36 : decode cX6_readText 36 = .ok (.ldc 49, 2) := by decide +kernel
theorem dX6_readText_38 : decode cX6_readText 38 = .ok (.if_icmp .ne 73, 3) := by decide +kernel
theorem dX6_readText_41 : decode cX6_readText 41 = .ok (.aload_n 0, 1) := by decide +kernel
theorem dX6_readText_42 : decode cX6_readText 42 = .ok (.getfield 95, 3) := by decide +kernel
theorem dX6_readText_45 : decode cX6_readText 45 = .ok (.aload_n 0, 1) := by decide +kernel
theorem dX6_readText_46 : decode cX6_readText 46 = .ok (.getfield 92, 3) := by decide +kernel
theorem dX6_readText_49 : decode cX6_readText 49 = .ok (.if_icmp .ge 62, 3) := by decide +kernel
theorem dX6_readText_52 : decode cX6_readText 52 = .ok (.aload_n 0, 1) := by decide +kernel
theorem dX6_readText_53 : decode cX6_readText 53 = .ok (.aload_n 0, 1) := by decide +kernel
theorem dX6_readText_54 : decode cX6_readText 54 = .ok (.getfield 95, 3) := by decide +kernel
theorem dX6_readText_57 : decode cX6_readText 57 = .ok (.invokevirtual 98, 3) := by decide +kernel
theorem dX6_readText_60 : decode cX6_readText 60 = .ok (.istore_n 1, 1) := by decide +kernel
theorem dX6_readText_61 : decode cX6_readText 61 = .ok (.iload_n 1, 1) := by decide +kernel
theorem dX6_readText_62 : decode cX6_readText 62 = .ok (.bipush 109, 2) := by decide +kernel
theorem dX6_readText_64 : decode cX6_readText 64 = .ok (.if_icmp .ne 10, 3) := by decide +kernel
theorem dX6_readText_67 : decode cX6_readText 67 = .ok (.aload_n 0, 1) := by decide +kernel
theorem dX6_readText_68 : decode cX6_readText 68 = .ok (.invokevirtual 113, 3) := by decide +kernel
theorem dX6_readText_71 : decode cX6_readText 71 = .ok (.goto 37, 3) := by decide +kernel
theorem dX6_readText_74 : decode cX6_readText 74 = .ok (.iload_n 1, 1) := by decide +kernel
theorem dX6_readText_75 : decode cX6_readText 75 = .ok (.bipush 103, 2) := by decide +kernel
theorem dX6_readText_77 : decode cX6_readText 77 = .ok (.if_icmp .ne 10, 3) := by decide +kernel
theorem dX6_readText_80 : decode cX6_readText 80 = .ok (.aload_n 0, 1) := by decide +kernel
theorem dX6_readText_81 : decode cX6_readText 81 = .ok (.invokevirtual 116, 3) := by decide +kernel
theorem dX6_readText_84 : decode cX6_readText 84 = .ok (.goto 24, 3) := by decide +kernel
theorem dX6_readText_87 : decode cX6_readText 87 = .ok (.iload_n 1, 1) := by decide +kernel
theorem dX6_readText_88 : decode cX6_readText 88 = .ok (.bipush 98, 2) := by decide +kernel
theorem dX6_readText_90 : decode cX6_readText 90 = .ok (.if_icmp .ne 10, 3) := by decide +kernel
theorem dX6_readText_93 : decode cX6_readText 93 = .ok (.aload_n 0, 1) := by decide +kernel
theorem dX6_readText_94 : decode cX6_readText 94 = .ok (.invokevirtual 119, 3) := by decide +kernel
theorem dX6_readText_97 : decode cX6_readText 97 = .ok (.goto 11, 3) := by decide +kernel
theorem dX6_readText_100 : decode cX6_readText 100 = .ok (.aload_n 0, 1) := by decide +kernel
theorem dX6_readText_101 : decode cX6_readText 101 = .ok (.aload_n 0, 1) := by decide +kernel
theorem dX6_readText_102 : decode cX6_readText 102 = .ok (.getfield 95, 3) := by decide +kernel
theorem dX6_readText_105 : decode cX6_readText 105 = .ok (.putfield 101, 3) := by decide +kernel
theorem dX6_readText_108 : decode cX6_readText 108 = .ok (.goto (-76), 3) := by decide +kernel
theorem dX6_readText_111 : decode cX6_readText 111 = .ok (.aload_n 0, 1) := by decide +kernel
theorem dX6_readText_112 : decode cX6_readText 112 = .ok (.getfield 101, 3) := by decide +kernel
theorem dX6_readText_115 : decode cX6_readText 115 = .ok (.ireturn, 1) := by decide +kernel
set_option maxRecDepth 20000 in
theorem ggX6_errorPosition_X6_readText : GoodIn wsX6_errorPosition wsX6_readText := goodIn_r _ [6, 7, 8, 9, 10, 11, 12, 13, 14, 5, 15, 16, 17, 18, 19, 20, 21, 22, 23, 24, 25, 26, 27, 28, 29, 30, 31, 32, 33, 34, 35, 36, 37, 38, 39, 40, 41, 42, 43, 44, 45, 46, 47, 48, 49, 50, 51, 52, 53, 54, 55, 56, 57, 58] (by decide +kernel) (by decide +kernel)
set_option maxRecDepth 20000 in
theorem gX6_errorPosition_X6_readText : GoodIn wsX6_errorPosition (wsV RX6 122 RX6 yX6_readText wsX6_readText) := goodIn_app (goodIn_of _ (by decide +kernel)) ggX6_errorPosition_X6_readText
theorem dX6_errorPosition_0 : decode cX6_errorPosition 0 = .ok (.aload_n 0, 1) := by decide +kernel
theorem dX6_errorPosition_1 : decode cX6_errorPosition 1 = .ok (.iconst 0, 1) := by decide +kernel
theorem dX6_errorPosition_2 : decode cX6_errorPosition 2 = .ok (.putfield 38, 3) := by decide +kernel
theorem dX6_errorPosition_5 : decode cX6_errorPosition 5 = .ok (.aload_n 0, 1) := by decide +kernel
theorem dX6_errorPosition_6 : decode cX6_errorPosition 6 = .ok (.invokevirtual 122, 3) := by decide +kernel
theorem dX6_errorPosition_9 : decode cX6_errorPosition 9 = .ok (.ireturn, 1) := by decide +kernel
set_option maxRecDepth 20000 in
theorem ggX6_load_X6_readText : GoodIn wsX6_load wsX6_readText := goodIn_r _ [11, 4, 1, 12, 13, 14, 15, 16, 17, 10, 18, 19, 20, 21, 22, 23, 24, 25, 26, 27, 28, 29, 30, 31, 32, 33, 34, 35, 36, 37, 38, 39, 40, 41, 42, 43, 44, 45, 46, 47, 48, 49, 50, 51, 52, 53, 54, 55, 56, 57, 58, 59, 60, 61] (by decide +kernel) (by decide +kernel)
set_option maxRecDepth 20000 in
theorem gX6_load_X6_readText : GoodIn wsX6_load (wsV RX6 122 RX6 yX6_readText wsX6_readText) := goodIn_app (goodIn_of _ (by decide +kernel)) ggX6_load_X6_readText
theorem dX6_load_0 : decode cX6_load 0 = .ok (.aload_n 0, 1) := by decide +kernel
theorem dX6_load_1 : decode cX6_load 1 = .ok (.aload_n 0, 1) := by decide +kernel
theorem dX6_load_2 : decode cX6_load 2 = .ok (.invokevirtual 122, 3) := by decide +kernel
theorem dX6_load_5 : decode cX6_load 5 = .ok (.ldc 49, 2) := by decide +kernel
theorem dX6_load_7 : decode cX6_load 7 = .ok (.if_icmp .ne 7, 3) := by decide +kernel
theorem dX6_load_10 : decode cX6_load 10 = .ok (.iconst 0, 1) := by decide +kernel
theorem dX6_load_11 : decode cX6_load 11 = .ok (.goto 4, 3) := by decide +kernel
theorem dX6_load_14 : decode cX6_load 14 = .ok (.iconst 1, 1) := by decide +kernel
theorem dX6_load_15 : decode cX6_load 15 = .ok (.putfield 38, 3) := by decide +kernel
theorem dX6_load_18 : decode cX6_load 18 = .ok (.aload_n 0, 1) := by decide +kernel
theorem dX6_load_19 : decode cX6_load 19 = .ok (.getfield 38, 3) := by decide +kernel
theorem dX6_load_22 : decode cX6_load 22 = .ok (.ifCond .le 5, 3) := by decide +kernel
theorem dX6_load_25 : decode cX6_load 25 = .ok (.iconst 0, 1) := by decide +kernel
theorem dX6_load_26 : decode cX6_load 26 = .ok (.ireturn, 1) := by decide +kernel
theorem dX6_load_27 : decode cX6_load 27 = .ok (.iconst 0, 1) := by decide +kernel
theorem dX6_load_28 : decode cX6_load 28 = .ok (.istore_n 1, 1) := by decide +kernel
theorem dX6_load_29 : decode cX6_load 29 = .ok (.iload_n 1, 1) := by decide +kernel
theorem dX6_load_30 : decode cX6_load 30 = .ok (.sipush 157, 3) := by decide +kernel
theorem dX6_load_33 : decode cX6_load 33 = .ok (.if_icmp .ge 21, 3) := by decide +kernel
theorem dX6_load_36 : decode cX6_load 36 = .ok (.aload_n 0, 1) := by decide +kernel
theorem dX6_load_37 : decode cX6_load 37 = .ok (.getfield 7, 3) := by decide +kernel
theorem dX6_load_40 : decode cX6_load 40 = .ok (.iload_n 1, 1) := by decide +kernel
theorem dX6_load_41 : decode cX6_load 41 = .ok (.aload_n 0, 1) := by decide +kernel
theorem dX6_load_42 : decode cX6_load 42 = .ok (.getfield 35, 3) := by decide +kernel
theorem dX6_load_45 : decode cX6_load 45 = .ok (.iload_n 1, 1) := by decide +kernel
theorem dX6_load_46 : decode cX6_load 46 = .ok (.iaload, 1) := by decide +kernel
theorem dX6_load_47 : decode cX6_load 47 = .ok (.iastore, 1) := by decide +kernel
theorem dX6_load_48 : decode cX6_load 48 = .ok (.iinc 1 1, 3) := by decide +kernel
theorem dX6_load_51 : decode cX6_load 51 = .ok (.goto (-22), 3) := by decide +kernel
theorem dX6_load_54 : decode cX6_load 54 = .ok (.aload_n 0, 1) := by decide +kernel
theorem dX6_load_55 : decode cX6_load 55 = .ok (.iconst 0, 1) := by decide +kernel
theorem dX6_load_56 : decode cX6_load 56 = .ok (.putfield 42, 3) := by decide +kernel
theorem dX6_load_59 : decode cX6_load 59 = .ok (.aload_n 0, 1) := by decide +kernel
theorem dX6_load_60 : decode cX6_load 60 = .ok (.getfield 19, 3) := by decide +kernel
theorem dX6_load_63 : decode cX6_load 63 = .ok (.iconst 0, 1) := by decide +kernel
theorem dX6_load_64 : decode cX6_load 64 = .ok (.iconst 0, 1) := by decide +kernel
theorem dX6_load_65 : decode cX6_load 65 = .ok (.bastore, 1) := by decide +kernel
theorem dX6_load_66 : decode cX6_load 66 = .ok (.aload_n 0, 1) := by decide +kernel
theorem dX6_load_67 : decode cX6_load 67 = .ok (.getfield 19, 3) := by decide +kernel
theorem dX6_load_70 : decode cX6_load 70 = .ok (.iconst 1, 1) := by decide +kernel
theorem dX6_load_71 : decode cX6_load 71 = .ok (.iconst 0, 1) := by decide +kernel
theorem dX6_load_72 : decode cX6_load 72 = .ok (.bastore, 1) := by decide +kernel
theorem dX6_load_73 : decode cX6_load 73 = .ok (.aload_n 0, 1) := by decide +kernel
theorem dX6_load_74 : decode cX6_load 74 = .ok (.getfield 7, 3) := by decide +kernel
theorem dX6_load_77 : decode cX6_load 77 = .ok (.iconst 0, 1) := by decide +kernel
theorem dX6_load_78 : decode cX6_load 78 = .ok (.iaload, 1) := by decide +kernel
theorem dX6_load_79 : decode cX6_load 79 = .ok (.ireturn, 1) := by decide +kernel
theorem dX6_sumOf_0 : decode cX6_sumOf 0 = .ok (.iconst 0, 1) := by decide +kernel
theorem dX6_sumOf_1 : decode cX6_sumOf 1 = .ok (.istore_n 3, 1) := by decide +kernel
theorem dX6_sumOf_2 : decode cX6_sumOf 2 = .ok (.iconst 0, 1) := by decide +kernel
theorem dX6_sumOf_3 : decode cX6_sumOf 3 = .ok (.istore 4, 2) := by decide +kernel
theorem dX6_sumOf_5 : decode cX6_sumOf 5 = .ok (.iload 4, 2) := by decide +kernel
theorem dX6_sumOf_7 : decode cX6_sumOf 7 = .ok (.iload_n 2, 1) := by decide +kernel
theorem dX6_sumOf_8 : decode cX6_sumOf 8 = .ok (.if_icmp .ge 21, 3) := by decide +kernel
theorem dX6_sumOf_11 : decode cX6_sumOf 11 = .ok (.iload_n 3, 1) := by decide +kernel
theorem dX6_sumOf_12 : decode cX6_sumOf 12 = .ok (.aload_n 0, 1) := by decide +kernel
theorem dX6_sumOf_13 : decode cX6_sumOf 13 = .ok (.getfield 7, 3) := by decide +kernel
theorem dX6_sumOf_16 : decode cX6_sumOf 16 = .ok (.iload_n 1, 1) := by decide +kernel
theorem dX6_sumOf_17 : decode cX6_sumOf 17 = .ok (.iload 4, 2) := by decide +kernel
theorem dX6_sumOf_19 : decode cX6_sumOf 19 = .ok (.iadd, 1) := by decide +kernel
theorem dX6_sumOf_20 : decode cX6_sumOf 20 = .ok (.iaload, 1) := by decide +kernel
theorem dX6_sumOf_21 : decode cX6_sumOf 21 = .ok (.iadd, 1) := by decide +kernel
theorem dX6_sumOf_22 : decode cX6_sumOf 22 = .ok (.istore_n 3, 1) := by decide +kernel
theorem dX6_sumOf_23 : decode cX6_sumOf 23 = .ok (.iinc 4 1, 3) := by decide +kernel
theorem dX6_sumOf_26 : decode cX6_sumOf 26 = .ok (.goto (-21), 3) := by decide +kernel
theorem dX6_sumOf_29 : decode cX6_sumOf 29 = .ok (.iload_n 3, 1) := by decide +kernel
theorem dX6_sumOf_30 : decode cX6_sumOf 30 = .ok (.ireturn, 1) := by decide +kernel
theorem dX6_waiting_0 : decode cX6_waiting 0 = .ok (.iconst 0, 1) := by decide +kernel
theorem dX6_waiting_1 : decode cX6_waiting 1 = .ok (.istore_n 1, 1) := by decide +kernel
theorem dX6_waiting_2 : decode cX6_waiting 2 = .ok (.iconst 0, 1) := by decide +kernel
theorem dX6_waiting_3 : decode cX6_waiting 3 = .ok (.istore_n 2, 1) := by decide +kernel
theorem dX6_waiting_4 : decode cX6_waiting 4 = .ok (.iload_n 2, 1) := by decide +kernel
theorem dX6_waiting_5 : decode cX6_waiting 5 = .ok (.aload_n 0, 1) := by decide +kernel
theorem dX6_waiting_6 : decode cX6_waiting 6 = .ok (.getfield 7, 3) := by decide +kernel
theorem dX6_waiting_9 : decode cX6_waiting 9 = .ok (.iconst 0, 1) := by decide +kernel
theorem dX6_waiting_10 : decode cX6_waiting 10 = .ok (.iaload, 1) := by decide +kernel
theorem dX6_waiting_11 : decode cX6_waiting 11 = .ok (.if_icmp .ge 42, 3) := by decide +kernel
theorem dX6_waiting_14 : decode cX6_waiting 14 = .ok (.iload_n 1, 1) := by decide +kernel
theorem dX6_waiting_15 : decode cX6_waiting 15 = .ok (.aload_n 0, 1) := by decide +kernel
theorem dX6_waiting_16 : decode cX6_waiting 16 = .ok (.getfield 7, 3) := by decide +kernel
theorem dX6_waiting_19 : decode cX6_waiting 19 = .ok (.bipush 45, 2) := by decide +kernel
theorem dX6_waiting_21 : decode cX6_waiting 21 = .ok (.iload_n 2, 1) := by decide +kernel
theorem dX6_waiting_22 : decode cX6_waiting 22 = .ok (.iadd, 1) := by decide +kernel
theorem dX6_waiting_23 : decode cX6_waiting 23 = .ok (.iaload, 1) := by decide +kernel
theorem dX6_waiting_24 : decode cX6_waiting 24 = .ok (.iconst 1, 1) := by decide +kernel
theorem dX6_waiting_25 : decode cX6_waiting 25 = .ok (.if_icmp .ne 19, 3) := by decide +kernel
theorem dX6_waiting_28 : decode cX6_waiting 28 = .ok (.aload_n 0, 1) := by decide +kernel
theorem dX6_waiting_29 : decode cX6_waiting 29 = .ok (.getfield 7, 3) := by decide +kernel
theorem dX6_waiting_32 : decode cX6_waiting 32 = .ok (.bipush 37, 2) := by decide +kernel
theorem dX6_waiting_34 : decode cX6_waiting 34 = .ok (.iload_n 2, 1) := by decide +kernel
theorem dX6_waiting_35 : decode cX6_waiting 35 = .ok (.iadd, 1) := by decide +kernel
theorem dX6_waiting_36 : decode cX6_waiting 36 = .ok (.iaload, 1) := by decide +kernel
theorem dX6_waiting_37 : decode cX6_waiting 37 = .ok (.ifCond .ne 7, 3) := by decide +kernel
theorem dX6_waiting_40 : decode cX6_waiting 40 = .ok (.iconst 1, 1) := by decide +kernel
theorem dX6_waiting_41 : decode cX6_waiting 41 = .ok (.goto 4, 3) := by decide +kernel
theorem dX6_waiting_44 : decode cX6_waiting 44 = .ok (.iconst 0, 1) := by decide +kernel
theorem dX6_waiting_45 : decode cX6_waiting 45 = .ok (.iadd, 1) := by decide +kernel
theorem dX6_waiting_46 : decode cX6_waiting 46 = .ok (.istore_n 1, 1) := by decide +kernel
theorem dX6_waiting_47 : decode cX6_waiting 47 = .ok (.iinc 2 1, 3) := by decide +kernel
theorem dX6_waiting_50 : decode cX6_waiting 50 = .ok (.goto (-46), 3) := by decide +kernel
theorem dX6_waiting_53 : decode cX6_waiting 53 = .ok (.iload_n 1, 1) := by decide +kernel
theorem dX6_waiting_54 : decode cX6_waiting 54 = .ok (.ireturn, 1) := by decide +kernel
set_option maxRecDepth 20000 in
theorem ggX6_about_X6_in : GoodIn wsX6_about wsX6_in := goodIn_r _ [6] (by decide +kernel) (by decide +kernel)
set_option maxRecDepth 20000 in
theorem gX6_about_X6_in : GoodIn wsX6_about (va_wsS RX6 45 yX6_in wsX6_in) := goodIn_app (goodIn_of _ (by decide +kernel)) ggX6_about_X6_in
set_option maxRecDepth 20000 in
theorem ggX6_about_X6_insideMany : GoodIn wsX6_about wsX6_insideMany := goodIn_r _ [10, 2, 19, 20, 21, 22, 23, 24, 25, 26, 27, 28, 29, 30, 31, 32, 33] (by decide +kernel) (by decide +kernel)
set_option maxRecDepth 20000 in
theorem gX6_about_X6_insideMany : GoodIn wsX6_about (wsV RX6 79 RX6 yX6_insideMany wsX6_insideMany) := goodIn_app (goodIn_of _ (by decide +kernel)) ggX6_about_X6_insideMany
set_option maxRecDepth 20000 in
theorem ggX6_about_X6_sumOf : GoodIn wsX6_about wsX6_sumOf := goodIn_r _ [14, 2, 19, 20, 21, 22, 23, 24, 25, 26, 27, 28, 29, 30, 31, 32, 33] (by decide +kernel) (by decide +kernel)
set_option maxRecDepth 20000 in
theorem gX6_about_X6_sumOf : GoodIn wsX6_about (wsV RX6 125 RX6 yX6_sumOf wsX6_sumOf) := goodIn_app (goodIn_of _ (by decide +kernel)) ggX6_about_X6_sumOf
set_option maxRecDepth 20000 in
theorem ggX6_about_X6_waiting : GoodIn wsX6_about wsX6_waiting := goodIn_r _ [18, 2, 19, 20, 21, 22, 23, 24, 25, 26, 27, 28, 29, 30, 31, 32, 33] (by decide +kernel) (by decide +kernel)
set_option maxRecDepth 20000 in
theorem gX6_about_X6_waiting : GoodIn wsX6_about (wsV RX6 128 RX6 yX6_waiting wsX6_waiting) := goodIn_app (goodIn_of _ (by decide +kernel)) ggX6_about_X6_waiting
theorem dX6_about_0 : decode cX6_about 0 = .ok (.aload_n 0, 1) := by decide +kernel
theorem dX6_about_1 : decode cX6_about 1 = .ok (.iload_n 1, 1) := by decide +kernel
theorem dX6_about_2 : decode cX6_about 2 = .ok (.iconst 0, 1) := by decide +kernel
theorem dX6_about_3 : decode cX6_about 3 = .ok (.bipush 8, 2) := by decide +kernel
theorem dX6_about_5 : decode cX6_about 5 = .ok (.invokestatic 45, 3) := by decide +kernel
theorem dX6_about_8 : decode cX6_about 8 = .ok (.ifCond .eq 7, 3) := by decide +kernel
theorem dX6_about_11 : decode cX6_about 11 = .ok (.iconst 0, 1) := by decide +kernel
theorem dX6_about_12 : decode cX6_about 12 = .ok (.goto 4, 3) := by decide +kernel
theorem dX6_about_15 : decode cX6_about 15 = .ok (.iconst 1, 1) := by decide +kernel
theorem dX6_about_16 : decode cX6_about 16 = .ok (.putfield 38, 3) := by decide +kernel
theorem dX6_about_19 : decode cX6_about 19 = .ok (.aload_n 0, 1) := by decide +kernel
theorem dX6_about_20 : decode cX6_about 20 = .ok (.getfield 38, 3) := by decide +kernel
theorem dX6_about_23 : decode cX6_about 23 = .ok (.ifCond .le 5, 3) := by decide +kernel
theorem dX6_about_26 : decode cX6_about 26 = .ok (.iconst 0, 1) := by decide +kernel
theorem dX6_about_27 : decode cX6_about 27 = .ok (.ireturn, 1) := by decide +kernel
theorem dX6_about_28 : decode cX6_about 28 = .ok (.iload_n 1, 1) := by decide +kernel
theorem dX6_about_29 : decode cX6_about 29 = .ok (.tableswitch 102 0 7 #[47, 54, 59, 66, 73, 80, 88, 93], 47) := by decide +kernel
theorem dX6_about_76 : decode cX6_about 76 = .ok (.aload_n 0, 1) := by decide +kernel
theorem dX6_about_77 : decode cX6_about 77 = .ok (.getfield 7, 3) := by decide +kernel
theorem dX6_about_80 : decode cX6_about 80 = .ok (.iconst 0, 1) := by decide +kernel
theorem dX6_about_81 : decode cX6_about 81 = .ok (.iaload, 1) := by decide +kernel
theorem dX6_about_82 : decode cX6_about 82 = .ok (.ireturn, 1) := by decide +kernel
theorem dX6_about_83 : decode cX6_about 83 = .ok (.aload_n 0, 1) := by decide +kernel
theorem dX6_about_84 : decode cX6_about 84 = .ok (.invokevirtual 79, 3) := by decide +kernel
theorem dX6_about_87 : decode cX6_about 87 = .ok (.ireturn, 1) := by decide +kernel
theorem dX6_about_88 : decode cX6_about 88 = .ok (.aload_n 0, 1) := by decide +kernel
theorem dX6_about_89 : decode cX6_about 89 = .ok (.getfield 7, 3) := by decide +kernel
theorem dX6_about_92 : decode cX6_about 92 = .ok (.iconst 2, 1) := by decide +kernel
theorem dX6_about_93 : decode cX6_about 93 = .ok (.iaload, 1) := by decide +kernel
theorem dX6_about_94 : decode cX6_about 94 = .ok (.ireturn, 1) := by decide +kernel
theorem dX6_about_95 : decode cX6_about 95 = .ok (.aload_n 0, 1) := by decide +kernel
theorem dX6_about_96 : decode cX6_about 96 = .ok (.getfield 7, 3) := by decide +kernel
theorem dX6_about_99 : decode cX6_about 99 = .ok (.iconst 1, 1) := by decide +kernel
theorem dX6_about_100 : decode cX6_about 100 = .ok (.iaload, 1) := by decide +kernel
theorem dX6_about_101 : decode cX6_about 101 = .ok (.ireturn, 1) := by decide +kernel
theorem dX6_about_102 : decode cX6_about 102 = .ok (.aload_n 0, 1) := by decide +kernel
theorem dX6_about_103 : decode cX6_about 103 = .ok (.getfield 7, 3) := by decide +kernel
theorem dX6_about_106 : decode cX6_about 106 = .ok (.iconst 3, 1) := by decide +kernel
theorem dX6_about_107 : decode cX6_about 107 = .ok (.iaload, 1) := by decide +kernel
theorem dX6_about_108 : decode cX6_about 108 = .ok (.ireturn, 1) := by decide +kernel
theorem dX6_about_109 : decode cX6_about 109 = .ok (.aload_n 0, 1) := by decide +kernel
theorem dX6_about_110 : decode cX6_about 110 = .ok (.iconst 5, 1) := by decide +kernel
theorem dX6_about_111 : decode cX6_about 111 = .ok (.bipush 8, 2) := by decide +kernel
theorem dX6_about_113 : decode cX6_about 113 = .ok (.invokevirtual 125, 3) := by decide +kernel
theorem dX6_about_116 : decode cX6_about 116 = .ok (.ireturn, 1) := by decide +kernel
theorem dX6_about_117 : decode cX6_about 117 = .ok (.aload_n 0, 1) := by decide +kernel
theorem dX6_about_118 : decode cX6_about 118 = .ok (.invokevirtual 128, 3) := by decide +kernel
theorem dX6_about_121 : decode cX6_about 121 = .ok (.ireturn, 1) := by decide +kernel
theorem dX6_about_122 : decode cX6_about 122 = .ok (.aload_n 0, 1) := by decide +kernel
theorem dX6_about_123 : decode cX6_about 123 = .ok (.bipush 93, 2) := by decide +kernel
theorem dX6_about_125 : decode cX6_about 125 = .ok (.bipush 64, 2) := by decide +kernel
theorem dX6_about_127 : decode cX6_about 127 = .ok (.invokevirtual 125, 3) := by decide +kernel
theorem dX6_about_130 : decode cX6_about 130 = .ok (.ireturn, 1) := by decide +kernel
theorem dX6_about_131 : decode cX6_about 131 = .ok (.aload_n 0, 1) := by decide +kernel
theorem dX6_about_132 : decode cX6_about 132 = .ok (.getfield 7, 3) := by decide +kernel
theorem dX6_about_135 : decode cX6_about 135 = .ok (.iconst 4, 1) := by decide +kernel
theorem dX6_about_136 : decode cX6_about 136 = .ok (.iaload, 1) := by decide +kernel
theorem dX6_about_137 : decode cX6_about 137 = .ok (.ireturn, 1) := by decide +kernel
set_option maxRecDepth 20000 in
theorem ggX6_member_X6_isMember : GoodIn wsX6_member wsX6_isMember := goodIn_r _ [7, 2, 11, 12, 13, 14, 15, 16, 17, 18, 19, 20, 21, 22, 23, 24, 25] (by decide +kernel) (by decide +kernel)
set_option maxRecDepth 20000 in
theorem gX6_member_X6_isMember : GoodIn wsX6_member (wsV RX6 131 RX6 yX6_isMember wsX6_isMember) := goodIn_app (goodIn_of _ (by decide +kernel)) ggX6_member_X6_isMember
set_option maxRecDepth 20000 in
theorem ggX6_member_X6_in : GoodIn wsX6_member wsX6_in := goodIn_r _ [10] (by decide +kernel) (by decide +kernel)
set_option maxRecDepth 20000 in
theorem gX6_member_X6_in : GoodIn wsX6_member (va_wsS RX6 45 yX6_in wsX6_in) := goodIn_app (goodIn_of _ (by decide +kernel)) ggX6_member_X6_in
theorem dX6_member_0 : decode cX6_member 0 = .ok (.aload_n 0, 1) := by decide +kernel
theorem dX6_member_1 : decode cX6_member 1 = .ok (.aload_n 0, 1) := by decide +kernel
theorem dX6_member_2 : decode cX6_member 2 = .ok (.iload_n 1, 1) := by decide +kernel
theorem dX6_member_3 : decode cX6_member 3 = .ok (.invokevirtual 131, 3) := by decide +kernel
theorem dX6_member_6 : decode cX6_member 6 = .ok (.ifCond .ne 7, 3) := by decide +kernel
theorem dX6_member_9 : decode cX6_member 9 = .ok (.iconst 1, 1) := by decide +kernel
theorem dX6_member_10 : decode cX6_member 10 = .ok (.goto 18, 3) := by decide +kernel
theorem dX6_member_13 : decode cX6_member 13 = .ok (.iload_n 2, 1) := by decide +kernel
theorem dX6_member_14 : decode cX6_member 14 = .ok (.iconst 0, 1) := by decide +kernel
theorem dX6_member_15 : decode cX6_member 15 = .ok (.bipush 10, 2) := by decide +kernel
theorem dX6_member_17 : decode cX6_member 17 = .ok (.invokestatic 45, 3) := by decide +kernel
theorem dX6_member_20 : decode cX6_member 20 = .ok (.ifCond .eq 7, 3) := by decide +kernel
theorem dX6_member_23 : decode cX6_member 23 = .ok (.iconst 0, 1) := by decide +kernel
theorem dX6_member_24 : decode cX6_member 24 = .ok (.goto 4, 3) := by decide +kernel
theorem dX6_member_27 : decode cX6_member 27 = .ok (.iconst 2, 1) := by decide +kernel
theorem dX6_member_28 : decode cX6_member 28 = .ok (.putfield 38, 3) := by decide +kernel
theorem dX6_member_31 : decode cX6_member 31 = .ok (.aload_n 0, 1) := by decide +kernel
theorem dX6_member_32 : decode cX6_member 32 = .ok (.getfield 38, 3) := by decide +kernel
theorem dX6_member_35 : decode cX6_member 35 = .ok (.ifCond .le 7, 3) := by decide +kernel
theorem dX6_member_38 : decode cX6_member 38 = .ok (.iconst 0, 1) := by decide +kernel
theorem dX6_member_39 : decode cX6_member 39 = .ok (.goto 16, 3) := by decide +kernel
theorem dX6_member_42 : decode cX6_member 42 = .ok (.aload_n 0, 1) := by decide +kernel
theorem dX6_member_43 : decode cX6_member 43 = .ok (.getfield 7, 3) := by decide +kernel
theorem dX6_member_46 : decode cX6_member 46 = .ok (.iconst 5, 1) := by decide +kernel
theorem dX6_member_47 : decode cX6_member 47 = .ok (.bipush 8, 2) := by decide +kernel
theorem dX6_member_49 : decode cX6_member 49 = .ok (.iload_n 2, 1) := by decide +kernel
theorem dX6_member_50 : decode cX6_member 50 = .ok (.imul, 1) := by decide +kernel
theorem dX6_member_51 : decode cX6_member 51 = .ok (.iadd, 1) := by decide +kernel
theorem dX6_member_52 : decode cX6_member 52 = .ok (.iload_n 1, 1) := by decide +kernel
theorem dX6_member_53 : decode cX6_member 53 = .ok (.iadd, 1) := by decide +kernel
theorem dX6_member_54 : decode cX6_member 54 = .ok (.iaload, 1) := by decide +kernel
theorem dX6_member_55 : decode cX6_member 55 = .ok (.ireturn, 1) := by decide +kernel
set_option maxRecDepth 20000 in
theorem ggX6_whyNotTwo_X6_isMember : GoodIn wsX6_whyNotTwo wsX6_isMember := goodIn_r _ [5, 6, 7, 8, 9, 10, 11, 12, 13, 14, 15, 16, 17, 18, 19, 20, 21] (by decide +kernel) (by decide +kernel)
set_option maxRecDepth 20000 in
theorem gX6_whyNotTwo_X6_isMember : GoodIn wsX6_whyNotTwo (wsV RX6 131 RX6 yX6_isMember wsX6_isMember) := goodIn_app (goodIn_of _ (by decide +kernel)) ggX6_whyNotTwo_X6_isMember
theorem dX6_whyNotTwo_0 : decode cX6_whyNotTwo 0 = .ok (.aload_n 0, 1) := by decide +kernel
theorem dX6_whyNotTwo_1 : decode cX6_whyNotTwo 1 = .ok (.iload_n 1, 1) := by decide +kernel
theorem dX6_whyNotTwo_2 : decode cX6_whyNotTwo 2 = .ok (.invokevirtual 131, 3) := by decide +kernel
theorem dX6_whyNotTwo_5 : decode cX6_whyNotTwo 5 = .ok (.ifCond .eq 11, 3) := by decide +kernel
theorem dX6_whyNotTwo_8 : decode cX6_whyNotTwo 8 = .ok (.aload_n 0, 1) := by decide +kernel
theorem dX6_whyNotTwo_9 : decode cX6_whyNotTwo 9 = .ok (.iload_n 2, 1) := by decide +kernel
theorem dX6_whyNotTwo_10 : decode cX6_whyNotTwo 10 = .ok (.invokevirtual 131, 3) := by decide +kernel
theorem dX6_whyNotTwo_13 : decode cX6_whyNotTwo 13 = .ok (.ifCond .ne 7, 3) := by decide +kernel
theorem dX6_whyNotTwo_16 : decode cX6_whyNotTwo 16 = .ok (.iconst 1, 1) := by decide +kernel
theorem dX6_whyNotTwo_17 : decode cX6_whyNotTwo 17 = .ok (.goto 13, 3) := by decide +kernel
theorem dX6_whyNotTwo_20 : decode cX6_whyNotTwo 20 = .ok (.iload_n 1, 1) := by decide +kernel
theorem dX6_whyNotTwo_21 : decode cX6_whyNotTwo 21 = .ok (.iload_n 2, 1) := by decide +kernel
theorem dX6_whyNotTwo_22 : decode cX6_whyNotTwo 22 = .ok (.if_icmp .ne 7, 3) := by decide +kernel
theorem dX6_whyNotTwo_25 : decode cX6_whyNotTwo 25 = .ok (.iconst 2, 1) := by decide +kernel
theorem dX6_whyNotTwo_26 : decode cX6_whyNotTwo 26 = .ok (.goto 4, 3) := by decide +kernel
theorem dX6_whyNotTwo_29 : decode cX6_whyNotTwo 29 = .ok (.iconst 0, 1) := by decide +kernel
theorem dX6_whyNotTwo_30 : decode cX6_whyNotTwo 30 = .ok (.ireturn, 1) := by decide +kernel
set_option maxRecDepth 20000 in
theorem ggX6_owes_X6_whyNotTwo : GoodIn wsX6_owes wsX6_whyNotTwo := goodIn_r _ [7, 8, 9, 10, 6, 11, 2, 12, 13, 14, 15, 16, 17, 18, 19, 20, 21, 22, 23, 24, 25, 26] (by decide +kernel) (by decide +kernel)
set_option maxRecDepth 20000 in
theorem gX6_owes_X6_whyNotTwo : GoodIn wsX6_owes (wsV RX6 134 RX6 yX6_whyNotTwo wsX6_whyNotTwo) := goodIn_app (goodIn_of _ (by decide +kernel)) ggX6_owes_X6_whyNotTwo
theorem dX6_owes_0 : decode cX6_owes 0 = .ok (.aload_n 0, 1) := by decide +kernel
theorem dX6_owes_1 : decode cX6_owes 1 = .ok (.aload_n 0, 1) := by decide +kernel
theorem dX6_owes_2 : decode cX6_owes 2 = .ok (.iload_n 1, 1) := by decide +kernel
theorem dX6_owes_3 : decode cX6_owes 3 = .ok (.iload_n 2, 1) := by decide +kernel
theorem dX6_owes_4 : decode cX6_owes 4 = .ok (.invokevirtual 134, 3) := by decide +kernel
theorem dX6_owes_7 : decode cX6_owes 7 = .ok (.putfield 38, 3) := by decide +kernel
theorem dX6_owes_10 : decode cX6_owes 10 = .ok (.aload_n 0, 1) := by decide +kernel
theorem dX6_owes_11 : decode cX6_owes 11 = .ok (.getfield 38, 3) := by decide +kernel
theorem dX6_owes_14 : decode cX6_owes 14 = .ok (.ifCond .le 7, 3) := by decide +kernel
theorem dX6_owes_17 : decode cX6_owes 17 = .ok (.iconst 0, 1) := by decide +kernel
theorem dX6_owes_18 : decode cX6_owes 18 = .ok (.goto 17, 3) := by decide +kernel
theorem dX6_owes_21 : decode cX6_owes 21 = .ok (.aload_n 0, 1) := by decide +kernel
theorem dX6_owes_22 : decode cX6_owes 22 = .ok (.getfield 7, 3) := by decide +kernel
theorem dX6_owes_25 : decode cX6_owes 25 = .ok (.bipush 93, 2) := by decide +kernel
theorem dX6_owes_27 : decode cX6_owes 27 = .ok (.bipush 8, 2) := by decide +kernel
theorem dX6_owes_29 : decode cX6_owes 29 = .ok (.iload_n 1, 1) := by decide +kernel
theorem dX6_owes_30 : decode cX6_owes 30 = .ok (.imul, 1) := by decide +kernel
theorem dX6_owes_31 : decode cX6_owes 31 = .ok (.iadd, 1) := by decide +kernel
theorem dX6_owes_32 : decode cX6_owes 32 = .ok (.iload_n 2, 1) := by decide +kernel
theorem dX6_owes_33 : decode cX6_owes 33 = .ok (.iadd, 1) := by decide +kernel
theorem dX6_owes_34 : decode cX6_owes 34 = .ok (.iaload, 1) := by decide +kernel
theorem dX6_owes_35 : decode cX6_owes 35 = .ok (.ireturn, 1) := by decide +kernel
set_option maxRecDepth 20000 in
theorem ggX6_chain_X6_isMember : GoodIn wsX6_chain wsX6_isMember := goodIn_r _ [8, 3, 9, 10, 11, 12, 13, 14, 15, 16, 17, 18, 19, 20, 21, 22, 23] (by decide +kernel) (by decide +kernel)
set_option maxRecDepth 20000 in
theorem gX6_chain_X6_isMember : GoodIn wsX6_chain (wsV RX6 131 RX6 yX6_isMember wsX6_isMember) := goodIn_app (goodIn_of _ (by decide +kernel)) ggX6_chain_X6_isMember
theorem dX6_chain_0 : decode cX6_chain 0 = .ok (.aload_n 0, 1) := by decide +kernel
theorem dX6_chain_1 : decode cX6_chain 1 = .ok (.aload_n 0, 1) := by decide +kernel
theorem dX6_chain_2 : decode cX6_chain 2 = .ok (.iload_n 1, 1) := by decide +kernel
theorem dX6_chain_3 : decode cX6_chain 3 = .ok (.invokevirtual 131, 3) := by decide +kernel
theorem dX6_chain_6 : decode cX6_chain 6 = .ok (.ifCond .eq 7, 3) := by decide +kernel
theorem dX6_chain_9 : decode cX6_chain 9 = .ok (.iconst 0, 1) := by decide +kernel
theorem dX6_chain_10 : decode cX6_chain 10 = .ok (.goto 4, 3) := by decide +kernel
theorem dX6_chain_13 : decode cX6_chain 13 = .ok (.iconst 1, 1) := by decide +kernel
theorem dX6_chain_14 : decode cX6_chain 14 = .ok (.putfield 38, 3) := by decide +kernel
theorem dX6_chain_17 : decode cX6_chain 17 = .ok (.aload_n 0, 1) := by decide +kernel
theorem dX6_chain_18 : decode cX6_chain 18 = .ok (.getfield 38, 3) := by decide +kernel
theorem dX6_chain_21 : decode cX6_chain 21 = .ok (.ifCond .le 5, 3) := by decide +kernel
theorem dX6_chain_24 : decode cX6_chain 24 = .ok (.iconst 0, 1) := by decide +kernel
theorem dX6_chain_25 : decode cX6_chain 25 = .ok (.ireturn, 1) := by decide +kernel
theorem dX6_chain_26 : decode cX6_chain 26 = .ok (.iconst 0, 1) := by decide +kernel
theorem dX6_chain_27 : decode cX6_chain 27 = .ok (.istore_n 2, 1) := by decide +kernel
theorem dX6_chain_28 : decode cX6_chain 28 = .ok (.iconst 0, 1) := by decide +kernel
theorem dX6_chain_29 : decode cX6_chain 29 = .ok (.istore_n 3, 1) := by decide +kernel
theorem dX6_chain_30 : decode cX6_chain 30 = .ok (.iload_n 1, 1) := by decide +kernel
theorem dX6_chain_31 : decode cX6_chain 31 = .ok (.istore 4, 2) := by decide +kernel
theorem dX6_chain_33 : decode cX6_chain 33 = .ok (.iload 4, 2) := by decide +kernel
theorem dX6_chain_35 : decode cX6_chain 35 = .ok (.ldc 49, 2) := by decide +kernel
theorem dX6_chain_37 : decode cX6_chain 37 = .ok (.if_icmp .eq 37, 3) := by decide +kernel
theorem dX6_chain_40 : decode cX6_chain 40 = .ok (.iload_n 2, 1) := by decide +kernel
theorem dX6_chain_41 : decode cX6_chain 41 = .ok (.iload 4, 2) := by decide +kernel
theorem dX6_chain_43 : decode cX6_chain 43 = .ok (.ishr, 1) := by decide +kernel
theorem dX6_chain_44 : decode cX6_chain 44 = .ok (.iconst 1, 1) := by decide +kernel
theorem dX6_chain_45 : decode cX6_chain 45 = .ok (.iand, 1) := by decide +kernel
theorem dX6_chain_46 : decode cX6_chain 46 = .ok (.ifCond .ne 28, 3) := by decide +kernel
theorem dX6_chain_49 : decode cX6_chain 49 = .ok (.iload_n 2, 1) := by decide +kernel
theorem dX6_chain_50 : decode cX6_chain 50 = .ok (.iconst 1, 1) := by decide +kernel
theorem dX6_chain_51 : decode cX6_chain 51 = .ok (.iload 4, 2) := by decide +kernel
theorem dX6_chain_53 : decode cX6_chain 53 = .ok (.ishl, 1) := by decide +kernel
theorem dX6_chain_54 : decode cX6_chain 54 = .ok (.ior, 1) := by decide +kernel
theorem dX6_chain_55 : decode cX6_chain 55 = .ok (.istore_n 2, 1) := by decide +kernel
theorem dX6_chain_56 : decode cX6_chain 56 = .ok (.iinc 3 1, 3) := by decide +kernel
theorem dX6_chain_59 : decode cX6_chain 59 = .ok (.aload_n 0, 1) := by decide +kernel
theorem dX6_chain_60 : decode cX6_chain 60 = .ok (.getfield 7, 3) := by decide +kernel
theorem dX6_chain_63 : decode cX6_chain 63 = .ok (.bipush 13, 2) := by decide +kernel
theorem dX6_chain_65 : decode cX6_chain 65 = .ok (.iload 4, 2) := by decide +kernel
theorem dX6_chain_67 : decode cX6_chain 67 = .ok (.iadd, 1) := by decide +kernel
theorem dX6_chain_68 : decode cX6_chain 68 = .ok (.iaload, 1) := by decide +kernel
theorem dX6_chain_69 : decode cX6_chain 69 = .ok (.istore 4, 2) := by decide +kernel
theorem dX6_chain_71 : decode cX6_chain 71 = .ok (.goto (-38), 3) := by decide +kernel
theorem dX6_chain_74 : decode cX6_chain 74 = .ok (.iload_n 3, 1) := by decide +kernel
theorem dX6_chain_75 : decode cX6_chain 75 = .ok (.ireturn, 1) := by decide +kernel
theorem dX6_bitsOf_0 : decode cX6_bitsOf 0 = .ok (.fload_n 0, 1) := by decide +kernel
theorem dX6_bitsOf_1 : decode cX6_bitsOf 1 = .ok (.fconst 0, 1) := by decide +kernel
theorem dX6_bitsOf_2 : decode cX6_bitsOf 2 = .ok (.fcmp .l, 1) := by decide +kernel
theorem dX6_bitsOf_3 : decode cX6_bitsOf 3 = .ok (.ifCond .ne 5, 3) := by decide +kernel
theorem dX6_bitsOf_6 : decode cX6_bitsOf 6 = .ok (.iconst 0, 1) := by decide +kernel
theorem dX6_bitsOf_7 : decode cX6_bitsOf 7 = .ok (.ireturn, 1) := by decide +kernel
theorem dX6_bitsOf_8 : decode cX6_bitsOf 8 = .ok (.fload_n 0, 1) := by decide +kernel
theorem dX6_bitsOf_9 : decode cX6_bitsOf 9 = .ok (.fstore_n 1, 1) := by decide +kernel
theorem dX6_bitsOf_10 : decode cX6_bitsOf 10 = .ok (.bipush 127, 2) := by decide +kernel
theorem dX6_bitsOf_12 : decode cX6_bitsOf 12 = .ok (.istore_n 2, 1) := by decide +kernel
theorem dX6_bitsOf_13 : decode cX6_bitsOf 13 = .ok (.fload_n 1, 1) := by decide +kernel
theorem dX6_bitsOf_14 : decode cX6_bitsOf 14 = .ok (.fconst 2, 1) := by decide +kernel
theorem dX6_bitsOf_15 : decode cX6_bitsOf 15 = .ok (.fcmp .l, 1) := by decide +kernel
theorem dX6_bitsOf_16 : decode cX6_bitsOf 16 = .ok (.ifCond .lt 13, 3) := by decide +kernel
theorem dX6_bitsOf_19 : decode cX6_bitsOf 19 = .ok (.fload_n 1, 1) := by decide +kernel
theorem dX6_bitsOf_20 : decode cX6_bitsOf 20 = .ok (.fconst 2, 1) := by decide +kernel
theorem dX6_bitsOf_21 : decode cX6_bitsOf 21 = .ok (.fdiv, 1) := by decide +kernel
theorem dX6_bitsOf_22 : decode cX6_bitsOf 22 = .ok (.fstore_n 1, 1) := by decide +kernel
theorem dX6_bitsOf_23 : decode cX6_bitsOf 23 = .ok (.iinc 2 1, 3) := by decide +kernel
theorem dX6_bitsOf_26 : decode cX6_bitsOf 26 = .ok (.goto (-13), 3) := by decide +kernel
theorem dX6_bitsOf_29 : decode cX6_bitsOf 29 = .ok (.fload_n 1, 1) := by decide +kernel
theorem dX6_bitsOf_30 : decode cX6_bitsOf 30 = .ok (.fconst 1, 1) := by decide +kernel
theorem dX6_bitsOf_31 : decode cX6_bitsOf 31 = .ok (.fcmp .g, 1) := by decide +kernel
theorem dX6_bitsOf_32 : decode cX6_bitsOf 32 = .ok (.ifCond .ge 13, 3) := by decide +kernel
theorem dX6_bitsOf_35 : decode cX6_bitsOf 35 = .ok (.fload_n 1, 1) := by decide +kernel
theorem dX6_bitsOf_36 : decode cX6_bitsOf 36 = .ok (.fconst 2, 1) := by decide +kernel
theorem dX6_bitsOf_37 : decode cX6_bitsOf 37 = .ok (.fmul, 1) := by decide +kernel
theorem dX6_bitsOf_38 : decode cX6_bitsOf 38 = .ok (.fstore_n 1, 1) := by decide +kernel
theorem dX6_bitsOf_39 : decode cX6_bitsOf 39 = .ok (.iinc 2 (-1), 3) := by decide +kernel
theorem dX6_bitsOf_42 : decode cX6_bitsOf 42 = .ok (.goto (-13), 3) := by decide +kernel
theorem dX6_bitsOf_45 : decode cX6_bitsOf 45 = .ok (.fload_n 1, 1) := by decide +kernel
theorem dX6_bitsOf_46 : decode cX6_bitsOf 46 = .ok (.ldc 137, 2) := by decide +kernel
theorem dX6_bitsOf_48 : decode cX6_bitsOf 48 = .ok (.fmul, 1) := by decide +kernel
theorem dX6_bitsOf_49 : decode cX6_bitsOf 49 = .ok (.f2i, 1) := by decide +kernel
theorem dX6_bitsOf_50 : decode cX6_bitsOf 50 = .ok (.ldc 138, 2) := by decide +kernel
theorem dX6_bitsOf_52 : decode cX6_bitsOf 52 = .ok (.isub, 1) := by decide +kernel
theorem dX6_bitsOf_53 : decode cX6_bitsOf 53 = .ok (.istore_n 3, 1) := by decide +kernel
theorem dX6_bitsOf_54 : decode cX6_bitsOf 54 = .ok (.iload_n 2, 1) := by decide +kernel
theorem dX6_bitsOf_55 : decode cX6_bitsOf 55 = .ok (.ldc 138, 2) := by decide +kernel
theorem dX6_bitsOf_57 : decode cX6_bitsOf 57 = .ok (.imul, 1) := by decide +kernel
theorem dX6_bitsOf_58 : decode cX6_bitsOf 58 = .ok (.iload_n 3, 1) := by decide +kernel
theorem dX6_bitsOf_59 : decode cX6_bitsOf 59 = .ok (.iadd, 1) := by decide +kernel
theorem dX6_bitsOf_60 : decode cX6_bitsOf 60 = .ok (.ireturn, 1) := by decide +kernel
set_option maxRecDepth 20000 in
theorem ggX6_rate_X6_isMember : GoodIn wsX6_rate wsX6_isMember := goodIn_r _ [7, 2, 13, 14, 15, 16, 17, 18, 19, 20, 21, 22, 23, 24, 25, 26, 27] (by decide +kernel) (by decide +kernel)
set_option maxRecDepth 20000 in
theorem gX6_rate_X6_isMember : GoodIn wsX6_rate (wsV RX6 131 RX6 yX6_isMember wsX6_isMember) := goodIn_app (goodIn_of _ (by decide +kernel)) ggX6_rate_X6_isMember
set_option maxRecDepth 20000 in
theorem ggX6_rate_X6_bitsOf : GoodIn wsX6_rate wsX6_bitsOf := goodIn_r _ [10, 11, 12] (by decide +kernel) (by decide +kernel)
set_option maxRecDepth 20000 in
theorem gX6_rate_X6_bitsOf : GoodIn wsX6_rate (va_wsS RX6 139 yX6_bitsOf wsX6_bitsOf) := goodIn_app (goodIn_of _ (by decide +kernel)) ggX6_rate_X6_bitsOf
theorem dX6_rate_0 : decode cX6_rate 0 = .ok (.aload_n 0, 1) := by decide +kernel
theorem dX6_rate_1 : decode cX6_rate 1 = .ok (.aload_n 0, 1) := by decide +kernel
theorem dX6_rate_2 : decode cX6_rate 2 = .ok (.iload_n 1, 1) := by decide +kernel
theorem dX6_rate_3 : decode cX6_rate 3 = .ok (.invokevirtual 131, 3) := by decide +kernel
theorem dX6_rate_6 : decode cX6_rate 6 = .ok (.ifCond .eq 7, 3) := by decide +kernel
theorem dX6_rate_9 : decode cX6_rate 9 = .ok (.iconst 0, 1) := by decide +kernel
theorem dX6_rate_10 : decode cX6_rate 10 = .ok (.goto 4, 3) := by decide +kernel
theorem dX6_rate_13 : decode cX6_rate 13 = .ok (.iconst 1, 1) := by decide +kernel
theorem dX6_rate_14 : decode cX6_rate 14 = .ok (.putfield 38, 3) := by decide +kernel
theorem dX6_rate_17 : decode cX6_rate 17 = .ok (.aload_n 0, 1) := by decide +kernel
theorem dX6_rate_18 : decode cX6_rate 18 = .ok (.getfield 38, 3) := by decide +kernel
theorem dX6_rate_21 : decode cX6_rate 21 = .ok (.ifCond .le 5, 3) := by decide +kernel
theorem dX6_rate_24 : decode cX6_rate 24 = .ok (.iconst 0, 1) := by decide +kernel
theorem dX6_rate_25 : decode cX6_rate 25 = .ok (.ireturn, 1) := by decide +kernel
theorem dX6_rate_26 : decode cX6_rate 26 = .ok (.aload_n 0, 1) := by decide +kernel
theorem dX6_rate_27 : decode cX6_rate 27 = .ok (.getfield 7, 3) := by decide +kernel
theorem dX6_rate_30 : decode cX6_rate 30 = .ok (.bipush 69, 2) := by decide +kernel
theorem dX6_rate_32 : decode cX6_rate 32 = .ok (.iload_n 1, 1) := by decide +kernel
theorem dX6_rate_33 : decode cX6_rate 33 = .ok (.iadd, 1) := by decide +kernel
theorem dX6_rate_34 : decode cX6_rate 34 = .ok (.iaload, 1) := by decide +kernel
theorem dX6_rate_35 : decode cX6_rate 35 = .ok (.aload_n 0, 1) := by decide +kernel
theorem dX6_rate_36 : decode cX6_rate 36 = .ok (.getfield 7, 3) := by decide +kernel
theorem dX6_rate_39 : decode cX6_rate 39 = .ok (.bipush 77, 2) := by decide +kernel
theorem dX6_rate_41 : decode cX6_rate 41 = .ok (.iload_n 1, 1) := by decide +kernel
theorem dX6_rate_42 : decode cX6_rate 42 = .ok (.iadd, 1) := by decide +kernel
theorem dX6_rate_43 : decode cX6_rate 43 = .ok (.iaload, 1) := by decide +kernel
theorem dX6_rate_44 : decode cX6_rate 44 = .ok (.iadd, 1) := by decide +kernel
theorem dX6_rate_45 : decode cX6_rate 45 = .ok (.istore_n 2, 1) := by decide +kernel
theorem dX6_rate_46 : decode cX6_rate 46 = .ok (.aload_n 0, 1) := by decide +kernel
theorem dX6_rate_47 : decode cX6_rate 47 = .ok (.getfield 7, 3) := by decide +kernel
theorem dX6_rate_50 : decode cX6_rate 50 = .ok (.bipush 53, 2) := by decide +kernel
theorem dX6_rate_52 : decode cX6_rate 52 = .ok (.iload_n 1, 1) := by decide +kernel
theorem dX6_rate_53 : decode cX6_rate 53 = .ok (.iadd, 1) := by decide +kernel
theorem dX6_rate_54 : decode cX6_rate 54 = .ok (.iaload, 1) := by decide +kernel
theorem dX6_rate_55 : decode cX6_rate 55 = .ok (.aload_n 0, 1) := by decide +kernel
theorem dX6_rate_56 : decode cX6_rate 56 = .ok (.getfield 7, 3) := by decide +kernel
theorem dX6_rate_59 : decode cX6_rate 59 = .ok (.bipush 61, 2) := by decide +kernel
theorem dX6_rate_61 : decode cX6_rate 61 = .ok (.iload_n 1, 1) := by decide +kernel
theorem dX6_rate_62 : decode cX6_rate 62 = .ok (.iadd, 1) := by decide +kernel
theorem dX6_rate_63 : decode cX6_rate 63 = .ok (.iaload, 1) := by decide +kernel
theorem dX6_rate_64 : decode cX6_rate 64 = .ok (.iadd, 1) := by decide +kernel
theorem dX6_rate_65 : decode cX6_rate 65 = .ok (.istore_n 3, 1) := by decide +kernel
theorem dX6_rate_66 : decode cX6_rate 66 = .ok (.iload_n 3, 1) := by decide +kernel
theorem dX6_rate_67 : decode cX6_rate 67 = .ok (.ifCond .ne 5, 3) := by decide +kernel
theorem dX6_rate_70 : decode cX6_rate 70 = .ok (.iconst 0, 1) := by decide +kernel
theorem dX6_rate_71 : decode cX6_rate 71 = .ok (.ireturn, 1) := by decide +kernel
theorem dX6_rate_72 : decode cX6_rate 72 = .ok (.iload_n 2, 1) := by decide +kernel
theorem dX6_rate_73 : decode cX6_rate 73 = .ok (.i2f, 1) := by decide +kernel
theorem dX6_rate_74 : decode cX6_rate 74 = .ok (.fstore 4, 2) := by decide +kernel
theorem dX6_rate_76 : decode cX6_rate 76 = .ok (.iload_n 3, 1) := by decide +kernel
theorem dX6_rate_77 : decode cX6_rate 77 = .ok (.i2f, 1) := by decide +kernel
theorem dX6_rate_78 : decode cX6_rate 78 = .ok (.fstore 5, 2) := by decide +kernel
theorem dX6_rate_80 : decode cX6_rate 80 = .ok (.fload 4, 2) := by decide +kernel
theorem dX6_rate_82 : decode cX6_rate 82 = .ok (.fload 5, 2) := by decide +kernel
theorem dX6_rate_84 : decode cX6_rate 84 = .ok (.fdiv, 1) := by decide +kernel
theorem dX6_rate_85 : decode cX6_rate 85 = .ok (.invokestatic 139, 3) := by decide +kernel
theorem dX6_rate_88 : decode cX6_rate 88 = .ok (.ireturn, 1) := by decide +kernel
set_option maxRecDepth 20000 in
theorem ggX6_addMember_X6_in : GoodIn wsX6_addMember wsX6_in := goodIn_r _ [7] (by decide +kernel) (by decide +kernel)
set_option maxRecDepth 20000 in
theorem gX6_addMember_X6_in : GoodIn wsX6_addMember (va_wsS RX6 45 yX6_in wsX6_in) := goodIn_app (goodIn_of _ (by decide +kernel)) ggX6_addMember_X6_in
set_option maxRecDepth 20000 in
theorem ggX6_addMember_X6_remember : GoodIn wsX6_addMember wsX6_remember := goodIn_r _ [11, 12, 13, 1, 14, 15, 16, 17, 18, 19, 20, 21, 22, 23, 24, 25, 26, 27, 28] (by decide +kernel) (by decide +kernel)
set_option maxRecDepth 20000 in
theorem gX6_addMember_X6_remember : GoodIn wsX6_addMember (wsV RX6 86 RX6 yX6_remember wsX6_remember) := goodIn_app (goodIn_of _ (by decide +kernel)) ggX6_addMember_X6_remember
theorem dX6_addMember_0 : decode cX6_addMember 0 = .ok (.aload_n 0, 1) := by decide +kernel
theorem dX6_addMember_1 : decode cX6_addMember 1 = .ok (.iload_n 1, 1) := by decide +kernel
theorem dX6_addMember_2 : decode cX6_addMember 2 = .ok (.iconst 0, 1) := by decide +kernel
theorem dX6_addMember_3 : decode cX6_addMember 3 = .ok (.sipush 999, 3) := by decide +kernel
theorem dX6_addMember_6 : decode cX6_addMember 6 = .ok (.invokestatic 45, 3) := by decide +kernel
theorem dX6_addMember_9 : decode cX6_addMember 9 = .ok (.ifCond .ne 7, 3) := by decide +kernel
theorem dX6_addMember_12 : decode cX6_addMember 12 = .ok (.iconst 1, 1) := by decide +kernel
theorem dX6_addMember_13 : decode cX6_addMember 13 = .ok (.goto 19, 3) := by decide +kernel
theorem dX6_addMember_16 : decode cX6_addMember 16 = .ok (.aload_n 0, 1) := by decide +kernel
theorem dX6_addMember_17 : decode cX6_addMember 17 = .ok (.getfield 7, 3) := by decide +kernel
theorem dX6_addMember_20 : decode cX6_addMember 20 = .ok (.iconst 0, 1) := by decide +kernel
theorem dX6_addMember_21 : decode cX6_addMember 21 = .ok (.iaload, 1) := by decide +kernel
theorem dX6_addMember_22 : decode cX6_addMember 22 = .ok (.bipush 8, 2) := by decide +kernel
theorem dX6_addMember_24 : decode cX6_addMember 24 = .ok (.if_icmp .ne 7, 3) := by decide +kernel
theorem dX6_addMember_27 : decode cX6_addMember 27 = .ok (.iconst 2, 1) := by decide +kernel
theorem dX6_addMember_28 : decode cX6_addMember 28 = .ok (.goto 4, 3) := by decide +kernel
theorem dX6_addMember_31 : decode cX6_addMember 31 = .ok (.iconst 0, 1) := by decide +kernel
theorem dX6_addMember_32 : decode cX6_addMember 32 = .ok (.putfield 38, 3) := by decide +kernel
theorem dX6_addMember_35 : decode cX6_addMember 35 = .ok (.aload_n 0, 1) := by decide +kernel
theorem dX6_addMember_36 : decode cX6_addMember 36 = .ok (.getfield 38, 3) := by decide +kernel
theorem dX6_addMember_39 : decode cX6_addMember 39 = .ok (.ifCond .le 5, 3) := by decide +kernel
theorem dX6_addMember_42 : decode cX6_addMember 42 = .ok (.iconst 0, 1) := by decide +kernel
theorem dX6_addMember_43 : decode cX6_addMember 43 = .ok (.ireturn, 1) := by decide +kernel
theorem dX6_addMember_44 : decode cX6_addMember 44 = .ok (.aload_n 0, 1) := by decide +kernel
theorem dX6_addMember_45 : decode cX6_addMember 45 = .ok (.invokevirtual 86, 3) := by decide +kernel
theorem dX6_addMember_48 : decode cX6_addMember 48 = .ok (.aload_n 0, 1) := by decide +kernel
theorem dX6_addMember_49 : decode cX6_addMember 49 = .ok (.getfield 7, 3) := by decide +kernel
theorem dX6_addMember_52 : decode cX6_addMember 52 = .ok (.iconst 0, 1) := by decide +kernel
theorem dX6_addMember_53 : decode cX6_addMember 53 = .ok (.iaload, 1) := by decide +kernel
theorem dX6_addMember_54 : decode cX6_addMember 54 = .ok (.istore_n 2, 1) := by decide +kernel
theorem dX6_addMember_55 : decode cX6_addMember 55 = .ok (.aload_n 0, 1) := by decide +kernel
theorem dX6_addMember_56 : decode cX6_addMember 56 = .ok (.getfield 7, 3) := by decide +kernel
theorem dX6_addMember_59 : decode cX6_addMember 59 = .ok (.iconst 0, 1) := by decide +kernel
theorem dX6_addMember_60 : decode cX6_addMember 60 = .ok (.dup2, 1) := by decide +kernel
theorem dX6_addMember_61 : decode cX6_addMember 61 = .ok (.iaload, 1) := by decide +kernel
theorem dX6_addMember_62 : decode cX6_addMember 62 = .ok (.iconst 1, 1) := by decide +kernel
theorem dX6_addMember_63 : decode cX6_addMember 63 = .ok (.iadd, 1) := by decide +kernel
theorem dX6_addMember_64 : decode cX6_addMember 64 = .ok (.iastore, 1) := by decide +kernel
theorem dX6_addMember_65 : decode cX6_addMember 65 = .ok (.aload_n 0, 1) := by decide +kernel
theorem dX6_addMember_66 : decode cX6_addMember 66 = .ok (.getfield 7, 3) := by decide +kernel
theorem dX6_addMember_69 : decode cX6_addMember 69 = .ok (.iconst 5, 1) := by decide +kernel
theorem dX6_addMember_70 : decode cX6_addMember 70 = .ok (.iload_n 2, 1) := by decide +kernel
theorem dX6_addMember_71 : decode cX6_addMember 71 = .ok (.iadd, 1) := by decide +kernel
theorem dX6_addMember_72 : decode cX6_addMember 72 = .ok (.iload_n 1, 1) := by decide +kernel
theorem dX6_addMember_73 : decode cX6_addMember 73 = .ok (.iastore, 1) := by decide +kernel
theorem dX6_addMember_74 : decode cX6_addMember 74 = .ok (.aload_n 0, 1) := by decide +kernel
theorem dX6_addMember_75 : decode cX6_addMember 75 = .ok (.getfield 7, 3) := by decide +kernel
theorem dX6_addMember_78 : decode cX6_addMember 78 = .ok (.bipush 13, 2) := by decide +kernel
theorem dX6_addMember_80 : decode cX6_addMember 80 = .ok (.iload_n 2, 1) := by decide +kernel
theorem dX6_addMember_81 : decode cX6_addMember 81 = .ok (.iadd, 1) := by decide +kernel
theorem dX6_addMember_82 : decode cX6_addMember 82 = .ok (.ldc 49, 2) := by decide +kernel
theorem dX6_addMember_84 : decode cX6_addMember 84 = .ok (.iastore, 1) := by decide +kernel
theorem dX6_addMember_85 : decode cX6_addMember 85 = .ok (.aload_n 0, 1) := by decide +kernel
theorem dX6_addMember_86 : decode cX6_addMember 86 = .ok (.getfield 7, 3) := by decide +kernel
theorem dX6_addMember_89 : decode cX6_addMember 89 = .ok (.bipush 45, 2) := by decide +kernel
theorem dX6_addMember_91 : decode cX6_addMember 91 = .ok (.iload_n 2, 1) := by decide +kernel
theorem dX6_addMember_92 : decode cX6_addMember 92 = .ok (.iadd, 1) := by decide +kernel
theorem dX6_addMember_93 : decode cX6_addMember 93 = .ok (.iconst 1, 1) := by decide +kernel
theorem dX6_addMember_94 : decode cX6_addMember 94 = .ok (.iastore, 1) := by decide +kernel
theorem dX6_addMember_95 : decode cX6_addMember 95 = .ok (.aload_n 0, 1) := by decide +kernel
theorem dX6_addMember_96 : decode cX6_addMember 96 = .ok (.getfield 7, 3) := by decide +kernel
theorem dX6_addMember_99 : decode cX6_addMember 99 = .ok (.iconst 4, 1) := by decide +kernel
theorem dX6_addMember_100 : decode cX6_addMember 100 = .ok (.dup2, 1) := by decide +kernel
theorem dX6_addMember_101 : decode cX6_addMember 101 = .ok (.iaload, 1) := by decide +kernel
theorem dX6_addMember_102 : decode cX6_addMember 102 = .ok (.iload_n 1, 1) := by decide +kernel
theorem dX6_addMember_103 : decode cX6_addMember 103 = .ok (.iadd, 1) := by decide +kernel
theorem dX6_addMember_104 : decode cX6_addMember 104 = .ok (.iastore, 1) := by decide +kernel
theorem dX6_addMember_105 : decode cX6_addMember 105 = .ok (.iload_n 2, 1) := by decide +kernel
theorem dX6_addMember_106 : decode cX6_addMember 106 = .ok (.ireturn, 1) := by decide +kernel
set_option maxRecDepth 20000 in
theorem ggX6_setContribution_X6_in : GoodIn wsX6_setContribution wsX6_in := goodIn_r _ [6] (by decide +kernel) (by decide +kernel)
set_option maxRecDepth 20000 in
theorem gX6_setContribution_X6_in : GoodIn wsX6_setContribution (va_wsS RX6 45 yX6_in wsX6_in) := goodIn_app (goodIn_of _ (by decide +kernel)) ggX6_setContribution_X6_in
set_option maxRecDepth 20000 in
theorem ggX6_setContribution_X6_remember : GoodIn wsX6_setContribution wsX6_remember := goodIn_r _ [10, 11, 12, 2, 13, 14, 15, 16, 17, 18, 19, 20, 21, 22, 23, 24, 25, 26, 27] (by decide +kernel) (by decide +kernel)
set_option maxRecDepth 20000 in
theorem gX6_setContribution_X6_remember : GoodIn wsX6_setContribution (wsV RX6 86 RX6 yX6_remember wsX6_remember) := goodIn_app (goodIn_of _ (by decide +kernel)) ggX6_setContribution_X6_remember
theorem dX6_setContribution_0 : decode cX6_setContribution 0 = .ok (.aload_n 0, 1) := by decide +kernel
theorem dX6_setContribution_1 : decode cX6_setContribution 1 = .ok (.iload_n 1, 1) := by decide +kernel
theorem dX6_setContribution_2 : decode cX6_setContribution 2 = .ok (.iconst 1, 1) := by decide +kernel
theorem dX6_setContribution_3 : decode cX6_setContribution 3 = .ok (.bipush 50, 2) := by decide +kernel
theorem dX6_setContribution_5 : decode cX6_setContribution 5 = .ok (.invokestatic 45, 3) := by decide +kernel
theorem dX6_setContribution_8 : decode cX6_setContribution 8 = .ok (.ifCond .eq 7, 3) := by decide +kernel
theorem dX6_setContribution_11 : decode cX6_setContribution 11 = .ok (.iconst 0, 1) := by decide +kernel
theorem dX6_setContribution_12 : decode cX6_setContribution 12 = .ok (.goto 4, 3) := by decide +kernel
theorem dX6_setContribution_15 : decode cX6_setContribution 15 = .ok (.iconst 1, 1) := by decide +kernel
theorem dX6_setContribution_16 : decode cX6_setContribution 16 = .ok (.putfield 38, 3) := by decide +kernel
theorem dX6_setContribution_19 : decode cX6_setContribution 19 = .ok (.aload_n 0, 1) := by decide +kernel
theorem dX6_setContribution_20 : decode cX6_setContribution 20 = .ok (.getfield 38, 3) := by decide +kernel
theorem dX6_setContribution_23 : decode cX6_setContribution 23 = .ok (.ifCond .le 5, 3) := by decide +kernel
theorem dX6_setContribution_26 : decode cX6_setContribution 26 = .ok (.iconst 0, 1) := by decide +kernel
theorem dX6_setContribution_27 : decode cX6_setContribution 27 = .ok (.ireturn, 1) := by decide +kernel
theorem dX6_setContribution_28 : decode cX6_setContribution 28 = .ok (.aload_n 0, 1) := by decide +kernel
theorem dX6_setContribution_29 : decode cX6_setContribution 29 = .ok (.invokevirtual 86, 3) := by decide +kernel
theorem dX6_setContribution_32 : decode cX6_setContribution 32 = .ok (.aload_n 0, 1) := by decide +kernel
theorem dX6_setContribution_33 : decode cX6_setContribution 33 = .ok (.getfield 7, 3) := by decide +kernel
theorem dX6_setContribution_36 : decode cX6_setContribution 36 = .ok (.iconst 1, 1) := by decide +kernel
theorem dX6_setContribution_37 : decode cX6_setContribution 37 = .ok (.iaload, 1) := by decide +kernel
theorem dX6_setContribution_38 : decode cX6_setContribution 38 = .ok (.istore_n 2, 1) := by decide +kernel
theorem dX6_setContribution_39 : decode cX6_setContribution 39 = .ok (.aload_n 0, 1) := by decide +kernel
theorem dX6_setContribution_40 : decode cX6_setContribution 40 = .ok (.getfield 7, 3) := by decide +kernel
theorem dX6_setContribution_43 : decode cX6_setContribution 43 = .ok (.iconst 1, 1) := by decide +kernel
theorem dX6_setContribution_44 : decode cX6_setContribution 44 = .ok (.iload_n 1, 1) := by decide +kernel
theorem dX6_setContribution_45 : decode cX6_setContribution 45 = .ok (.iastore, 1) := by decide +kernel
theorem dX6_setContribution_46 : decode cX6_setContribution 46 = .ok (.iload_n 2, 1) := by decide +kernel
theorem dX6_setContribution_47 : decode cX6_setContribution 47 = .ok (.ireturn, 1) := by decide +kernel
set_option maxRecDepth 20000 in
theorem ggX6_setGuarantor_X6_isMember : GoodIn wsX6_setGuarantor wsX6_isMember := goodIn_r _ [8, 3, 15, 16, 17, 18, 19, 20, 21, 22, 23, 24, 25, 26, 27, 28, 29] (by decide +kernel) (by decide +kernel)
set_option maxRecDepth 20000 in
theorem gX6_setGuarantor_X6_isMember : GoodIn wsX6_setGuarantor (wsV RX6 131 RX6 yX6_isMember wsX6_isMember) := goodIn_app (goodIn_of _ (by decide +kernel)) ggX6_setGuarantor_X6_isMember
set_option maxRecDepth 20000 in
theorem ggX6_setGuarantor_X6_remember : GoodIn wsX6_setGuarantor wsX6_remember := goodIn_r _ [12, 13, 14, 3, 15, 16, 17, 18, 19, 20, 21, 22, 23, 24, 25, 26, 27, 28, 29] (by decide +kernel) (by decide +kernel)
set_option maxRecDepth 20000 in
theorem gX6_setGuarantor_X6_remember : GoodIn wsX6_setGuarantor (wsV RX6 86 RX6 yX6_remember wsX6_remember) := goodIn_app (goodIn_of _ (by decide +kernel)) ggX6_setGuarantor_X6_remember
theorem dX6_setGuarantor_0 : decode cX6_setGuarantor 0 = .ok (.aload_n 0, 1) := by decide +kernel
theorem dX6_setGuarantor_1 : decode cX6_setGuarantor 1 = .ok (.aload_n 0, 1) := by decide +kernel
theorem dX6_setGuarantor_2 : decode cX6_setGuarantor 2 = .ok (.iload_n 1, 1) := by decide +kernel
theorem dX6_setGuarantor_3 : decode cX6_setGuarantor 3 = .ok (.invokevirtual 131, 3) := by decide +kernel
theorem dX6_setGuarantor_6 : decode cX6_setGuarantor 6 = .ok (.ifCond .eq 17, 3) := by decide +kernel
theorem dX6_setGuarantor_9 : decode cX6_setGuarantor 9 = .ok (.iload_n 2, 1) := by decide +kernel
theorem dX6_setGuarantor_10 : decode cX6_setGuarantor 10 = .ok (.ldc 49, 2) := by decide +kernel
theorem dX6_setGuarantor_12 : decode cX6_setGuarantor 12 = .ok (.if_icmp .eq 15, 3) := by decide +kernel
theorem dX6_setGuarantor_15 : decode cX6_setGuarantor 15 = .ok (.aload_n 0, 1) := by decide +kernel
theorem dX6_setGuarantor_16 : decode cX6_setGuarantor 16 = .ok (.iload_n 2, 1) := by decide +kernel
theorem dX6_setGuarantor_17 : decode cX6_setGuarantor 17 = .ok (.invokevirtual 131, 3) := by decide +kernel
theorem dX6_setGuarantor_20 : decode cX6_setGuarantor 20 = .ok (.ifCond .ne 7, 3) := by decide +kernel
theorem dX6_setGuarantor_23 : decode cX6_setGuarantor 23 = .ok (.iconst 1, 1) := by decide +kernel
theorem dX6_setGuarantor_24 : decode cX6_setGuarantor 24 = .ok (.goto 13, 3) := by decide +kernel
theorem dX6_setGuarantor_27 : decode cX6_setGuarantor 27 = .ok (.iload_n 1, 1) := by decide +kernel
theorem dX6_setGuarantor_28 : decode cX6_setGuarantor 28 = .ok (.iload_n 2, 1) := by decide +kernel
theorem dX6_setGuarantor_29 : decode cX6_setGuarantor 29 = .ok (.if_icmp .ne 7, 3) := by decide +kernel
theorem dX6_setGuarantor_32 : decode cX6_setGuarantor 32 = .ok (.iconst 2, 1) := by decide +kernel
theorem dX6_setGuarantor_33 : decode cX6_setGuarantor 33 = .ok (.goto 4, 3) := by decide +kernel
theorem dX6_setGuarantor_36 : decode cX6_setGuarantor 36 = .ok (.iconst 0, 1) := by decide +kernel
theorem dX6_setGuarantor_37 : decode cX6_setGuarantor 37 = .ok (.putfield 38, 3) := by decide +kernel
theorem dX6_setGuarantor_40 : decode cX6_setGuarantor 40 = .ok (.aload_n 0, 1) := by decide +kernel
theorem dX6_setGuarantor_41 : decode cX6_setGuarantor 41 = .ok (.getfield 38, 3) := by decide +kernel
theorem dX6_setGuarantor_44 : decode cX6_setGuarantor 44 = .ok (.ifCond .le 5, 3) := by decide +kernel
theorem dX6_setGuarantor_47 : decode cX6_setGuarantor 47 = .ok (.iconst 0, 1) := by decide +kernel
theorem dX6_setGuarantor_48 : decode cX6_setGuarantor 48 = .ok (.ireturn, 1) := by decide +kernel
theorem dX6_setGuarantor_49 : decode cX6_setGuarantor 49 = .ok (.aload_n 0, 1) := by decide +kernel
theorem dX6_setGuarantor_50 : decode cX6_setGuarantor 50 = .ok (.invokevirtual 86, 3) := by decide +kernel
theorem dX6_setGuarantor_53 : decode cX6_setGuarantor 53 = .ok (.aload_n 0, 1) := by decide +kernel
theorem dX6_setGuarantor_54 : decode cX6_setGuarantor 54 = .ok (.getfield 7, 3) := by decide +kernel
theorem dX6_setGuarantor_57 : decode cX6_setGuarantor 57 = .ok (.bipush 13, 2) := by decide +kernel
theorem dX6_setGuarantor_59 : decode cX6_setGuarantor 59 = .ok (.iload_n 1, 1) := by decide +kernel
theorem dX6_setGuarantor_60 : decode cX6_setGuarantor 60 = .ok (.iadd, 1) := by decide +kernel
theorem dX6_setGuarantor_61 : decode cX6_setGuarantor 61 = .ok (.iaload, 1) := by decide +kernel
theorem dX6_setGuarantor_62 : decode cX6_setGuarantor 62 = .ok (.istore_n 3, 1) := by decide +kernel
theorem dX6_setGuarantor_63 : decode cX6_setGuarantor 63 = .ok (.aload_n 0, 1) := by decide +kernel
theorem dX6_setGuarantor_64 : decode cX6_setGuarantor 64 = .ok (.getfield 7, 3) := by decide +kernel
theorem dX6_setGuarantor_67 : decode cX6_setGuarantor 67 = .ok (.bipush 13, 2) := by decide +kernel
theorem dX6_setGuarantor_69 : decode cX6_setGuarantor 69 = .ok (.iload_n 1, 1) := by decide +kernel
theorem dX6_setGuarantor_70 : decode cX6_setGuarantor 70 = .ok (.iadd, 1) := by decide +kernel
theorem dX6_setGuarantor_71 : decode cX6_setGuarantor 71 = .ok (.iload_n 2, 1) := by decide +kernel
theorem dX6_setGuarantor_72 : decode cX6_setGuarantor 72 = .ok (.iastore, 1) := by decide +kernel
theorem dX6_setGuarantor_73 : decode cX6_setGuarantor 73 = .ok (.iload_n 3, 1) := by decide +kernel
theorem dX6_setGuarantor_74 : decode cX6_setGuarantor 74 = .ok (.ireturn, 1) := by decide +kernel
set_option maxRecDepth 20000 in
theorem ggX6_whyNotBid_X6_isMember : GoodIn wsX6_whyNotBid wsX6_isMember := goodIn_r _ [6, 1, 10, 11, 12, 13, 14, 15, 16, 17, 18, 19, 20, 21, 22, 23, 24] (by decide +kernel) (by decide +kernel)
set_option maxRecDepth 20000 in
theorem gX6_whyNotBid_X6_isMember : GoodIn wsX6_whyNotBid (wsV RX6 131 RX6 yX6_isMember wsX6_isMember) := goodIn_app (goodIn_of _ (by decide +kernel)) ggX6_whyNotBid_X6_isMember
set_option maxRecDepth 20000 in
theorem ggX6_whyNotBid_X6_in : GoodIn wsX6_whyNotBid wsX6_in := goodIn_r _ [9] (by decide +kernel) (by decide +kernel)
set_option maxRecDepth 20000 in
theorem gX6_whyNotBid_X6_in : GoodIn wsX6_whyNotBid (va_wsS RX6 45 yX6_in wsX6_in) := goodIn_app (goodIn_of _ (by decide +kernel)) ggX6_whyNotBid_X6_in
theorem dX6_whyNotBid_0 : decode cX6_whyNotBid 0 = .ok (.aload_n 0, 1) := by decide +kernel
theorem dX6_whyNotBid_1 : decode cX6_whyNotBid 1 = .ok (.iload_n 1, 1) := by decide +kernel
theorem dX6_whyNotBid_2 : decode cX6_whyNotBid 2 = .ok (.invokevirtual 131, 3) := by decide +kernel
theorem dX6_whyNotBid_5 : decode cX6_whyNotBid 5 = .ok (.ifCond .ne 5, 3) := by decide +kernel
theorem dX6_whyNotBid_8 : decode cX6_whyNotBid 8 = .ok (.iconst 1, 1) := by decide +kernel
theorem dX6_whyNotBid_9 : decode cX6_whyNotBid 9 = .ok (.ireturn, 1) := by decide +kernel
theorem dX6_whyNotBid_10 : decode cX6_whyNotBid 10 = .ok (.iload_n 2, 1) := by decide +kernel
theorem dX6_whyNotBid_11 : decode cX6_whyNotBid 11 = .ok (.iconst 0, 1) := by decide +kernel
theorem dX6_whyNotBid_12 : decode cX6_whyNotBid 12 = .ok (.sipush 999, 3) := by decide +kernel
theorem dX6_whyNotBid_15 : decode cX6_whyNotBid 15 = .ok (.invokestatic 45, 3) := by decide +kernel
theorem dX6_whyNotBid_18 : decode cX6_whyNotBid 18 = .ok (.ifCond .ne 5, 3) := by decide +kernel
theorem dX6_whyNotBid_21 : decode cX6_whyNotBid 21 = .ok (.iconst 2, 1) := by decide +kernel
theorem dX6_whyNotBid_22 : decode cX6_whyNotBid 22 = .ok (.ireturn, 1) := by decide +kernel
theorem dX6_whyNotBid_23 : decode cX6_whyNotBid 23 = .ok (.aload_n 0, 1) := by decide +kernel
theorem dX6_whyNotBid_24 : decode cX6_whyNotBid 24 = .ok (.getfield 7, 3) := by decide +kernel
theorem dX6_whyNotBid_27 : decode cX6_whyNotBid 27 = .ok (.bipush 45, 2) := by decide +kernel
theorem dX6_whyNotBid_29 : decode cX6_whyNotBid 29 = .ok (.iload_n 1, 1) := by decide +kernel
theorem dX6_whyNotBid_30 : decode cX6_whyNotBid 30 = .ok (.iadd, 1) := by decide +kernel
theorem dX6_whyNotBid_31 : decode cX6_whyNotBid 31 = .ok (.iaload, 1) := by decide +kernel
theorem dX6_whyNotBid_32 : decode cX6_whyNotBid 32 = .ok (.ifCond .eq 16, 3) := by decide +kernel
theorem dX6_whyNotBid_35 : decode cX6_whyNotBid 35 = .ok (.aload_n 0, 1) := by decide +kernel
theorem dX6_whyNotBid_36 : decode cX6_whyNotBid 36 = .ok (.getfield 7, 3) := by decide +kernel
theorem dX6_whyNotBid_39 : decode cX6_whyNotBid 39 = .ok (.bipush 37, 2) := by decide +kernel
theorem dX6_whyNotBid_41 : decode cX6_whyNotBid 41 = .ok (.iload_n 1, 1) := by decide +kernel
theorem dX6_whyNotBid_42 : decode cX6_whyNotBid 42 = .ok (.iadd, 1) := by decide +kernel
theorem dX6_whyNotBid_43 : decode cX6_whyNotBid 43 = .ok (.iaload, 1) := by decide +kernel
theorem dX6_whyNotBid_44 : decode cX6_whyNotBid 44 = .ok (.iconst 1, 1) := by decide +kernel
theorem dX6_whyNotBid_45 : decode cX6_whyNotBid 45 = .ok (.if_icmp .ne 7, 3) := by decide +kernel
theorem dX6_whyNotBid_48 : decode cX6_whyNotBid 48 = .ok (.iconst 3, 1) := by decide +kernel
theorem dX6_whyNotBid_49 : decode cX6_whyNotBid 49 = .ok (.goto 4, 3) := by decide +kernel
theorem dX6_whyNotBid_52 : decode cX6_whyNotBid 52 = .ok (.iconst 0, 1) := by decide +kernel
theorem dX6_whyNotBid_53 : decode cX6_whyNotBid 53 = .ok (.ireturn, 1) := by decide +kernel
set_option maxRecDepth 20000 in
theorem ggX6_bid_X6_whyNotBid : GoodIn wsX6_bid wsX6_whyNotBid := goodIn_r _ [7, 2, 8, 9, 10, 6, 11, 12, 13, 14, 21, 22, 23, 24, 25, 26, 27, 28, 29, 30, 31, 32, 33, 34, 35] (by decide +kernel) (by decide +kernel)
set_option maxRecDepth 20000 in
theorem gX6_bid_X6_whyNotBid : GoodIn wsX6_bid (wsV RX6 143 RX6 yX6_whyNotBid wsX6_whyNotBid) := goodIn_app (goodIn_of _ (by decide +kernel)) ggX6_bid_X6_whyNotBid
set_option maxRecDepth 20000 in
theorem ggX6_bid_X6_remember : GoodIn wsX6_bid wsX6_remember := goodIn_r _ [18, 19, 20, 2, 21, 22, 23, 24, 25, 26, 27, 28, 29, 30, 31, 32, 33, 34, 35] (by decide +kernel) (by decide +kernel)
set_option maxRecDepth 20000 in
theorem gX6_bid_X6_remember : GoodIn wsX6_bid (wsV RX6 86 RX6 yX6_remember wsX6_remember) := goodIn_app (goodIn_of _ (by decide +kernel)) ggX6_bid_X6_remember
theorem dX6_bid_0 : decode cX6_bid 0 = .ok (.aload_n 0, 1) := by decide +kernel
theorem dX6_bid_1 : decode cX6_bid 1 = .ok (.aload_n 0, 1) := by decide +kernel
theorem dX6_bid_2 : decode cX6_bid 2 = .ok (.iload_n 1, 1) := by decide +kernel
theorem dX6_bid_3 : decode cX6_bid 3 = .ok (.iload_n 2, 1) := by decide +kernel
theorem dX6_bid_4 : decode cX6_bid 4 = .ok (.invokevirtual 143, 3) := by decide +kernel
theorem dX6_bid_7 : decode cX6_bid 7 = .ok (.putfield 38, 3) := by decide +kernel
theorem dX6_bid_10 : decode cX6_bid 10 = .ok (.aload_n 0, 1) := by decide +kernel
theorem dX6_bid_11 : decode cX6_bid 11 = .ok (.getfield 38, 3) := by decide +kernel
theorem dX6_bid_14 : decode cX6_bid 14 = .ok (.ifCond .le 5, 3) := by decide +kernel
theorem dX6_bid_17 : decode cX6_bid 17 = .ok (.iconst 0, 1) := by decide +kernel
theorem dX6_bid_18 : decode cX6_bid 18 = .ok (.ireturn, 1) := by decide +kernel
theorem dX6_bid_19 : decode cX6_bid 19 = .ok (.aload_n 0, 1) := by decide +kernel
theorem dX6_bid_20 : decode cX6_bid 20 = .ok (.invokevirtual 86, 3) := by decide +kernel
theorem dX6_bid_23 : decode cX6_bid 23 = .ok (.aload_n 0, 1) := by decide +kernel
theorem dX6_bid_24 : decode cX6_bid 24 = .ok (.getfield 7, 3) := by decide +kernel
theorem dX6_bid_27 : decode cX6_bid 27 = .ok (.bipush 21, 2) := by decide +kernel
theorem dX6_bid_29 : decode cX6_bid 29 = .ok (.iload_n 1, 1) := by decide +kernel
theorem dX6_bid_30 : decode cX6_bid 30 = .ok (.iadd, 1) := by decide +kernel
theorem dX6_bid_31 : decode cX6_bid 31 = .ok (.iaload, 1) := by decide +kernel
theorem dX6_bid_32 : decode cX6_bid 32 = .ok (.istore_n 3, 1) := by decide +kernel
theorem dX6_bid_33 : decode cX6_bid 33 = .ok (.aload_n 0, 1) := by decide +kernel
theorem dX6_bid_34 : decode cX6_bid 34 = .ok (.getfield 7, 3) := by decide +kernel
theorem dX6_bid_37 : decode cX6_bid 37 = .ok (.bipush 21, 2) := by decide +kernel
theorem dX6_bid_39 : decode cX6_bid 39 = .ok (.iload_n 1, 1) := by decide +kernel
theorem dX6_bid_40 : decode cX6_bid 40 = .ok (.iadd, 1) := by decide +kernel
theorem dX6_bid_41 : decode cX6_bid 41 = .ok (.iload_n 2, 1) := by decide +kernel
theorem dX6_bid_42 : decode cX6_bid 42 = .ok (.iastore, 1) := by decide +kernel
theorem dX6_bid_43 : decode cX6_bid 43 = .ok (.iload_n 3, 1) := by decide +kernel
theorem dX6_bid_44 : decode cX6_bid 44 = .ok (.ireturn, 1) := by decide +kernel
set_option maxRecDepth 20000 in
theorem ggX6_stayAway_X6_isMember : GoodIn wsX6_stayAway wsX6_isMember := goodIn_r _ [7, 2, 14, 15, 16, 17, 18, 19, 20, 21, 22, 23, 24, 25, 26, 27, 28] (by decide +kernel) (by decide +kernel)
set_option maxRecDepth 20000 in
theorem gX6_stayAway_X6_isMember : GoodIn wsX6_stayAway (wsV RX6 131 RX6 yX6_isMember wsX6_isMember) := goodIn_app (goodIn_of _ (by decide +kernel)) ggX6_stayAway_X6_isMember
set_option maxRecDepth 20000 in
theorem ggX6_stayAway_X6_remember : GoodIn wsX6_stayAway wsX6_remember := goodIn_r _ [11, 12, 13, 2, 14, 15, 16, 17, 18, 19, 20, 21, 22, 23, 24, 25, 26, 27, 28] (by decide +kernel) (by decide +kernel)
set_option maxRecDepth 20000 in
theorem gX6_stayAway_X6_remember : GoodIn wsX6_stayAway (wsV RX6 86 RX6 yX6_remember wsX6_remember) := goodIn_app (goodIn_of _ (by decide +kernel)) ggX6_stayAway_X6_remember
theorem dX6_stayAway_0 : decode cX6_stayAway 0 = .ok (.aload_n 0, 1) := by decide +kernel
theorem dX6_stayAway_1 : decode cX6_stayAway 1 = .ok (.aload_n 0, 1) := by decide +kernel
theorem dX6_stayAway_2 : decode cX6_stayAway 2 = .ok (.iload_n 1, 1) := by decide +kernel
theorem dX6_stayAway_3 : decode cX6_stayAway 3 = .ok (.invokevirtual 131, 3) := by decide +kernel
theorem dX6_stayAway_6 : decode cX6_stayAway 6 = .ok (.ifCond .eq 7, 3) := by decide +kernel
theorem dX6_stayAway_9 : decode cX6_stayAway 9 = .ok (.iconst 0, 1) := by decide +kernel
theorem dX6_stayAway_10 : decode cX6_stayAway 10 = .ok (.goto 4, 3) := by decide +kernel
theorem dX6_stayAway_13 : decode cX6_stayAway 13 = .ok (.iconst 1, 1) := by decide +kernel
theorem dX6_stayAway_14 : decode cX6_stayAway 14 = .ok (.putfield 38, 3) := by decide +kernel
theorem dX6_stayAway_17 : decode cX6_stayAway 17 = .ok (.aload_n 0, 1) := by decide +kernel
theorem dX6_stayAway_18 : decode cX6_stayAway 18 = .ok (.getfield 38, 3) := by decide +kernel
theorem dX6_stayAway_21 : decode cX6_stayAway 21 = .ok (.ifCond .le 5, 3) := by decide +kernel
theorem dX6_stayAway_24 : decode cX6_stayAway 24 = .ok (.iconst 0, 1) := by decide +kernel
theorem dX6_stayAway_25 : decode cX6_stayAway 25 = .ok (.ireturn, 1) := by decide +kernel
theorem dX6_stayAway_26 : decode cX6_stayAway 26 = .ok (.aload_n 0, 1) := by decide +kernel
theorem dX6_stayAway_27 : decode cX6_stayAway 27 = .ok (.invokevirtual 86, 3) := by decide +kernel
theorem dX6_stayAway_30 : decode cX6_stayAway 30 = .ok (.aload_n 0, 1) := by decide +kernel
theorem dX6_stayAway_31 : decode cX6_stayAway 31 = .ok (.getfield 7, 3) := by decide +kernel
theorem dX6_stayAway_34 : decode cX6_stayAway 34 = .ok (.bipush 29, 2) := by decide +kernel
theorem dX6_stayAway_36 : decode cX6_stayAway 36 = .ok (.iload_n 1, 1) := by decide +kernel
theorem dX6_stayAway_37 : decode cX6_stayAway 37 = .ok (.iadd, 1) := by decide +kernel
theorem dX6_stayAway_38 : decode cX6_stayAway 38 = .ok (.iaload, 1) := by decide +kernel
theorem dX6_stayAway_39 : decode cX6_stayAway 39 = .ok (.iconst 1, 1) := by decide +kernel
theorem dX6_stayAway_40 : decode cX6_stayAway 40 = .ok (.if_icmp .ne 7, 3) := by decide +kernel
theorem dX6_stayAway_43 : decode cX6_stayAway 43 = .ok (.iconst 1, 1) := by decide +kernel
theorem dX6_stayAway_44 : decode cX6_stayAway 44 = .ok (.goto 4, 3) := by decide +kernel
theorem dX6_stayAway_47 : decode cX6_stayAway 47 = .ok (.iconst 0, 1) := by decide +kernel
theorem dX6_stayAway_48 : decode cX6_stayAway 48 = .ok (.istore_n 3, 1) := by decide +kernel
theorem dX6_stayAway_49 : decode cX6_stayAway 49 = .ok (.aload_n 0, 1) := by decide +kernel
theorem dX6_stayAway_50 : decode cX6_stayAway 50 = .ok (.getfield 7, 3) := by decide +kernel
theorem dX6_stayAway_53 : decode cX6_stayAway 53 = .ok (.bipush 29, 2) := by decide +kernel
theorem dX6_stayAway_55 : decode cX6_stayAway 55 = .ok (.iload_n 1, 1) := by decide +kernel
theorem dX6_stayAway_56 : decode cX6_stayAway 56 = .ok (.iadd, 1) := by decide +kernel
theorem dX6_stayAway_57 : decode cX6_stayAway 57 = .ok (.iload_n 2, 1) := by decide +kernel
theorem dX6_stayAway_58 : decode cX6_stayAway 58 = .ok (.ifCond .eq 7, 3) := by decide +kernel
theorem dX6_stayAway_61 : decode cX6_stayAway 61 = .ok (.iconst 1, 1) := by decide +kernel
theorem dX6_stayAway_62 : decode cX6_stayAway 62 = .ok (.goto 4, 3) := by decide +kernel
theorem dX6_stayAway_65 : decode cX6_stayAway 65 = .ok (.iconst 0, 1) := by decide +kernel
theorem dX6_stayAway_66 : decode cX6_stayAway 66 = .ok (.iastore, 1) := by decide +kernel
theorem dX6_stayAway_67 : decode cX6_stayAway 67 = .ok (.iload_n 3, 1) := by decide +kernel
theorem dX6_stayAway_68 : decode cX6_stayAway 68 = .ok (.ireturn, 1) := by decide +kernel
set_option maxRecDepth 20000 in
theorem ggX6_whyNotGive_X6_isMember : GoodIn wsX6_whyNotGive wsX6_isMember := goodIn_r _ [6, 1, 10, 11, 12, 13, 14, 15, 16, 17, 18, 19, 20, 21, 22, 23, 24] (by decide +kernel) (by decide +kernel)
set_option maxRecDepth 20000 in
theorem gX6_whyNotGive_X6_isMember : GoodIn wsX6_whyNotGive (wsV RX6 131 RX6 yX6_isMember wsX6_isMember) := goodIn_app (goodIn_of _ (by decide +kernel)) ggX6_whyNotGive_X6_isMember
set_option maxRecDepth 20000 in
theorem ggX6_whyNotGive_X6_in : GoodIn wsX6_whyNotGive wsX6_in := goodIn_r _ [9] (by decide +kernel) (by decide +kernel)
set_option maxRecDepth 20000 in
theorem gX6_whyNotGive_X6_in : GoodIn wsX6_whyNotGive (va_wsS RX6 45 yX6_in wsX6_in) := goodIn_app (goodIn_of _ (by decide +kernel)) ggX6_whyNotGive_X6_in
theorem dX6_whyNotGive_0 : decode cX6_whyNotGive 0 = .ok (.aload_n 0, 1) := by decide +kernel
theorem dX6_whyNotGive_1 : decode cX6_whyNotGive 1 = .ok (.iload_n 1, 1) := by decide +kernel
theorem dX6_whyNotGive_2 : decode cX6_whyNotGive 2 = .ok (.invokevirtual 131, 3) := by decide +kernel
theorem dX6_whyNotGive_5 : decode cX6_whyNotGive 5 = .ok (.ifCond .ne 5, 3) := by decide +kernel
theorem dX6_whyNotGive_8 : decode cX6_whyNotGive 8 = .ok (.iconst 1, 1) := by decide +kernel
theorem dX6_whyNotGive_9 : decode cX6_whyNotGive 9 = .ok (.ireturn, 1) := by decide +kernel
theorem dX6_whyNotGive_10 : decode cX6_whyNotGive 10 = .ok (.iload_n 2, 1) := by decide +kernel
theorem dX6_whyNotGive_11 : decode cX6_whyNotGive 11 = .ok (.iconst 1, 1) := by decide +kernel
theorem dX6_whyNotGive_12 : decode cX6_whyNotGive 12 = .ok (.sipush 999, 3) := by decide +kernel
theorem dX6_whyNotGive_15 : decode cX6_whyNotGive 15 = .ok (.invokestatic 45, 3) := by decide +kernel
theorem dX6_whyNotGive_18 : decode cX6_whyNotGive 18 = .ok (.ifCond .ne 7, 3) := by decide +kernel
theorem dX6_whyNotGive_21 : decode cX6_whyNotGive 21 = .ok (.iconst 2, 1) := by decide +kernel
theorem dX6_whyNotGive_22 : decode cX6_whyNotGive 22 = .ok (.goto 22, 3) := by decide +kernel
theorem dX6_whyNotGive_25 : decode cX6_whyNotGive 25 = .ok (.aload_n 0, 1) := by decide +kernel
theorem dX6_whyNotGive_26 : decode cX6_whyNotGive 26 = .ok (.getfield 7, 3) := by decide +kernel
theorem dX6_whyNotGive_29 : decode cX6_whyNotGive 29 = .ok (.iconst 4, 1) := by decide +kernel
theorem dX6_whyNotGive_30 : decode cX6_whyNotGive 30 = .ok (.iaload, 1) := by decide +kernel
theorem dX6_whyNotGive_31 : decode cX6_whyNotGive 31 = .ok (.iload_n 2, 1) := by decide +kernel
theorem dX6_whyNotGive_32 : decode cX6_whyNotGive 32 = .ok (.iadd, 1) := by decide +kernel
theorem dX6_whyNotGive_33 : decode cX6_whyNotGive 33 = .ok (.sipush 9000, 3) := by decide +kernel
theorem dX6_whyNotGive_36 : decode cX6_whyNotGive 36 = .ok (.if_icmp .le 7, 3) := by decide +kernel
theorem dX6_whyNotGive_39 : decode cX6_whyNotGive 39 = .ok (.iconst 3, 1) := by decide +kernel
theorem dX6_whyNotGive_40 : decode cX6_whyNotGive 40 = .ok (.goto 4, 3) := by decide +kernel
theorem dX6_whyNotGive_43 : decode cX6_whyNotGive 43 = .ok (.iconst 0, 1) := by decide +kernel
theorem dX6_whyNotGive_44 : decode cX6_whyNotGive 44 = .ok (.ireturn, 1) := by decide +kernel
theorem dX6_putInto_0 : decode cX6_putInto 0 = .ok (.aload_n 0, 1) := by decide +kernel
theorem dX6_putInto_1 : decode cX6_putInto 1 = .ok (.getfield 7, 3) := by decide +kernel
theorem dX6_putInto_4 : decode cX6_putInto 4 = .ok (.iconst 5, 1) := by decide +kernel
theorem dX6_putInto_5 : decode cX6_putInto 5 = .ok (.iload_n 1, 1) := by decide +kernel
theorem dX6_putInto_6 : decode cX6_putInto 6 = .ok (.iadd, 1) := by decide +kernel
theorem dX6_putInto_7 : decode cX6_putInto 7 = .ok (.dup2, 1) := by decide +kernel
theorem dX6_putInto_8 : decode cX6_putInto 8 = .ok (.iaload, 1) := by decide +kernel
theorem dX6_putInto_9 : decode cX6_putInto 9 = .ok (.iload_n 2, 1) := by decide +kernel
theorem dX6_putInto_10 : decode cX6_putInto 10 = .ok (.iadd, 1) := by decide +kernel
theorem dX6_putInto_11 : decode cX6_putInto 11 = .ok (.iastore, 1) := by decide +kernel
theorem dX6_putInto_12 : decode cX6_putInto 12 = .ok (.aload_n 0, 1) := by decide +kernel
theorem dX6_putInto_13 : decode cX6_putInto 13 = .ok (.getfield 7, 3) := by decide +kernel
theorem dX6_putInto_16 : decode cX6_putInto 16 = .ok (.iconst 4, 1) := by decide +kernel
theorem dX6_putInto_17 : decode cX6_putInto 17 = .ok (.dup2, 1) := by decide +kernel
theorem dX6_putInto_18 : decode cX6_putInto 18 = .ok (.iaload, 1) := by decide +kernel
theorem dX6_putInto_19 : decode cX6_putInto 19 = .ok (.iload_n 2, 1) := by decide +kernel
theorem dX6_putInto_20 : decode cX6_putInto 20 = .ok (.iadd, 1) := by decide +kernel
theorem dX6_putInto_21 : decode cX6_putInto 21 = .ok (.iastore, 1) := by decide +kernel
theorem dX6_putInto_22 : decode cX6_putInto 22 = .ok (.return_, 1) := by decide +kernel
set_option maxRecDepth 20000 in
theorem ggX6_give_X6_whyNotGive : GoodIn wsX6_give wsX6_whyNotGive := goodIn_r _ [7, 2, 8, 9, 10, 6, 11, 12, 13, 14, 25, 26, 27, 28, 29, 30, 31, 32, 33, 34, 35, 36, 37, 38, 39] (by decide +kernel) (by decide +kernel)
set_option maxRecDepth 20000 in
theorem gX6_give_X6_whyNotGive : GoodIn wsX6_give (wsV RX6 146 RX6 yX6_whyNotGive wsX6_whyNotGive) := goodIn_app (goodIn_of _ (by decide +kernel)) ggX6_give_X6_whyNotGive
set_option maxRecDepth 20000 in
theorem ggX6_give_X6_remember : GoodIn wsX6_give wsX6_remember := goodIn_r _ [18, 19, 20, 2, 25, 26, 27, 28, 29, 30, 31, 32, 33, 34, 35, 36, 37, 38, 39] (by decide +kernel) (by decide +kernel)
set_option maxRecDepth 20000 in
theorem gX6_give_X6_remember : GoodIn wsX6_give (wsV RX6 86 RX6 yX6_remember wsX6_remember) := goodIn_app (goodIn_of _ (by decide +kernel)) ggX6_give_X6_remember
set_option maxRecDepth 20000 in
theorem ggX6_give_X6_putInto : GoodIn wsX6_give wsX6_putInto := goodIn_r _ [24, 2, 25, 26, 27, 28, 29, 30, 31, 32, 33, 34, 35, 36, 37, 38, 39] (by decide +kernel) (by decide +kernel)
set_option maxRecDepth 20000 in
theorem gX6_give_X6_putInto : GoodIn wsX6_give (wsV RX6 149 RX6 yX6_putInto wsX6_putInto) := goodIn_app (goodIn_of _ (by decide +kernel)) ggX6_give_X6_putInto
theorem dX6_give_0 : decode cX6_give 0 = .ok (.aload_n 0, 1) := by decide +kernel
theorem dX6_give_1 : decode cX6_give 1 = .ok (.aload_n 0, 1) := by decide +kernel
theorem dX6_give_2 : decode cX6_give 2 = .ok (.iload_n 1, 1) := by decide +kernel
theorem dX6_give_3 : decode cX6_give 3 = .ok (.iload_n 2, 1) := by decide +kernel
theorem dX6_give_4 : decode cX6_give 4 = .ok (.invokevirtual 146, 3) := by decide +kernel
theorem dX6_give_7 : decode cX6_give 7 = .ok (.putfield 38, 3) := by decide +kernel
theorem dX6_give_10 : decode cX6_give 10 = .ok (.aload_n 0, 1) := by decide +kernel
theorem dX6_give_11 : decode cX6_give 11 = .ok (.getfield 38, 3) := by decide +kernel
theorem dX6_give_14 : decode cX6_give 14 = .ok (.ifCond .le 5, 3) := by decide +kernel
theorem dX6_give_17 : decode cX6_give 17 = .ok (.iconst 0, 1) := by decide +kernel
theorem dX6_give_18 : decode cX6_give 18 = .ok (.ireturn, 1) := by decide +kernel
theorem dX6_give_19 : decode cX6_give 19 = .ok (.aload_n 0, 1) := by decide +kernel
theorem dX6_give_20 : decode cX6_give 20 = .ok (.invokevirtual 86, 3) := by decide +kernel
theorem dX6_give_23 : decode cX6_give 23 = .ok (.aload_n 0, 1) := by decide +kernel
theorem dX6_give_24 : decode cX6_give 24 = .ok (.iload_n 1, 1) := by decide +kernel
theorem dX6_give_25 : decode cX6_give 25 = .ok (.iload_n 2, 1) := by decide +kernel
theorem dX6_give_26 : decode cX6_give 26 = .ok (.invokevirtual 149, 3) := by decide +kernel
theorem dX6_give_29 : decode cX6_give 29 = .ok (.aload_n 0, 1) := by decide +kernel
theorem dX6_give_30 : decode cX6_give 30 = .ok (.getfield 7, 3) := by decide +kernel
theorem dX6_give_33 : decode cX6_give 33 = .ok (.iconst 5, 1) := by decide +kernel
theorem dX6_give_34 : decode cX6_give 34 = .ok (.iload_n 1, 1) := by decide +kernel
theorem dX6_give_35 : decode cX6_give 35 = .ok (.iadd, 1) := by decide +kernel
theorem dX6_give_36 : decode cX6_give 36 = .ok (.iaload, 1) := by decide +kernel
theorem dX6_give_37 : decode cX6_give 37 = .ok (.ireturn, 1) := by decide +kernel
set_option maxRecDepth 20000 in
theorem ggX6_getsAtLeave_X6_waiting : GoodIn wsX6_getsAtLeave wsX6_waiting := goodIn_r _ [6, 1, 7, 8, 9, 10, 11, 12, 13, 14, 15, 16, 17, 18, 19, 20, 21] (by decide +kernel) (by decide +kernel)
set_option maxRecDepth 20000 in
theorem gX6_getsAtLeave_X6_waiting : GoodIn wsX6_getsAtLeave (wsV RX6 128 RX6 yX6_waiting wsX6_waiting) := goodIn_app (goodIn_of _ (by decide +kernel)) ggX6_getsAtLeave_X6_waiting
theorem dX6_getsAtLeave_0 : decode cX6_getsAtLeave 0 = .ok (.aload_n 0, 1) := by decide +kernel
theorem dX6_getsAtLeave_1 : decode cX6_getsAtLeave 1 = .ok (.getfield 7, 3) := by decide +kernel
theorem dX6_getsAtLeave_4 : decode cX6_getsAtLeave 4 = .ok (.bipush 37, 2) := by decide +kernel
theorem dX6_getsAtLeave_6 : decode cX6_getsAtLeave 6 = .ok (.iload_n 1, 1) := by decide +kernel
theorem dX6_getsAtLeave_7 : decode cX6_getsAtLeave 7 = .ok (.iadd, 1) := by decide +kernel
theorem dX6_getsAtLeave_8 : decode cX6_getsAtLeave 8 = .ok (.iaload, 1) := by decide +kernel
theorem dX6_getsAtLeave_9 : decode cX6_getsAtLeave 9 = .ok (.ifCond .ne 36, 3) := by decide +kernel
theorem dX6_getsAtLeave_12 : decode cX6_getsAtLeave 12 = .ok (.aload_n 0, 1) := by decide +kernel
theorem dX6_getsAtLeave_13 : decode cX6_getsAtLeave 13 = .ok (.getfield 7, 3) := by decide +kernel
theorem dX6_getsAtLeave_16 : decode cX6_getsAtLeave 16 = .ok (.bipush 53, 2) := by decide +kernel
theorem dX6_getsAtLeave_18 : decode cX6_getsAtLeave 18 = .ok (.iload_n 1, 1) := by decide +kernel
theorem dX6_getsAtLeave_19 : decode cX6_getsAtLeave 19 = .ok (.iadd, 1) := by decide +kernel
theorem dX6_getsAtLeave_20 : decode cX6_getsAtLeave 20 = .ok (.iaload, 1) := by decide +kernel
theorem dX6_getsAtLeave_21 : decode cX6_getsAtLeave 21 = .ok (.iconst 2, 1) := by decide +kernel
theorem dX6_getsAtLeave_22 : decode cX6_getsAtLeave 22 = .ok (.idiv, 1) := by decide +kernel
theorem dX6_getsAtLeave_23 : decode cX6_getsAtLeave 23 = .ok (.istore_n 2, 1) := by decide +kernel
theorem dX6_getsAtLeave_24 : decode cX6_getsAtLeave 24 = .ok (.iload_n 2, 1) := by decide +kernel
theorem dX6_getsAtLeave_25 : decode cX6_getsAtLeave 25 = .ok (.aload_n 0, 1) := by decide +kernel
theorem dX6_getsAtLeave_26 : decode cX6_getsAtLeave 26 = .ok (.getfield 7, 3) := by decide +kernel
theorem dX6_getsAtLeave_29 : decode cX6_getsAtLeave 29 = .ok (.iconst 3, 1) := by decide +kernel
theorem dX6_getsAtLeave_30 : decode cX6_getsAtLeave 30 = .ok (.iaload, 1) := by decide +kernel
theorem dX6_getsAtLeave_31 : decode cX6_getsAtLeave 31 = .ok (.if_icmp .ge 7, 3) := by decide +kernel
theorem dX6_getsAtLeave_34 : decode cX6_getsAtLeave 34 = .ok (.iload_n 2, 1) := by decide +kernel
theorem dX6_getsAtLeave_35 : decode cX6_getsAtLeave 35 = .ok (.goto 9, 3) := by decide +kernel
theorem dX6_getsAtLeave_38 : decode cX6_getsAtLeave 38 = .ok (.aload_n 0, 1) := by decide +kernel
theorem dX6_getsAtLeave_39 : decode cX6_getsAtLeave 39 = .ok (.getfield 7, 3) := by decide +kernel
theorem dX6_getsAtLeave_42 : decode cX6_getsAtLeave 42 = .ok (.iconst 3, 1) := by decide +kernel
theorem dX6_getsAtLeave_43 : decode cX6_getsAtLeave 43 = .ok (.iaload, 1) := by decide +kernel
theorem dX6_getsAtLeave_44 : decode cX6_getsAtLeave 44 = .ok (.ireturn, 1) := by decide +kernel
theorem dX6_getsAtLeave_45 : decode cX6_getsAtLeave 45 = .ok (.aload_n 0, 1) := by decide +kernel
theorem dX6_getsAtLeave_46 : decode cX6_getsAtLeave 46 = .ok (.getfield 7, 3) := by decide +kernel
theorem dX6_getsAtLeave_49 : decode cX6_getsAtLeave 49 = .ok (.iconst 1, 1) := by decide +kernel
theorem dX6_getsAtLeave_50 : decode cX6_getsAtLeave 50 = .ok (.iaload, 1) := by decide +kernel
theorem dX6_getsAtLeave_51 : decode cX6_getsAtLeave 51 = .ok (.ineg, 1) := by decide +kernel
theorem dX6_getsAtLeave_52 : decode cX6_getsAtLeave 52 = .ok (.aload_n 0, 1) := by decide +kernel
theorem dX6_getsAtLeave_53 : decode cX6_getsAtLeave 53 = .ok (.invokevirtual 128, 3) := by decide +kernel
theorem dX6_getsAtLeave_56 : decode cX6_getsAtLeave 56 = .ok (.imul, 1) := by decide +kernel
theorem dX6_getsAtLeave_57 : decode cX6_getsAtLeave 57 = .ok (.ireturn, 1) := by decide +kernel
set_option maxRecDepth 20000 in
theorem ggX6_whyNotLeave_X6_isMember : GoodIn wsX6_whyNotLeave wsX6_isMember := goodIn_r _ [6, 1, 15, 16, 17, 18, 19, 20, 21, 22, 23, 24, 25, 26, 27, 28, 29] (by decide +kernel) (by decide +kernel)
set_option maxRecDepth 20000 in
theorem gX6_whyNotLeave_X6_isMember : GoodIn wsX6_whyNotLeave (wsV RX6 131 RX6 yX6_isMember wsX6_isMember) := goodIn_app (goodIn_of _ (by decide +kernel)) ggX6_whyNotLeave_X6_isMember
set_option maxRecDepth 20000 in
theorem ggX6_whyNotLeave_X6_getsAtLeave : GoodIn wsX6_whyNotLeave wsX6_getsAtLeave := goodIn_r _ [10, 1, 11, 12, 13, 5, 14, 15, 16, 17, 18, 19, 20, 21, 22, 23, 24, 25, 26, 27, 28, 29] (by decide +kernel) (by decide +kernel)
set_option maxRecDepth 20000 in
theorem gX6_whyNotLeave_X6_getsAtLeave : GoodIn wsX6_whyNotLeave (wsV RX6 152 RX6 yX6_getsAtLeave wsX6_getsAtLeave) := goodIn_app (goodIn_of _ (by decide +kernel)) ggX6_whyNotLeave_X6_getsAtLeave
theorem dX6_whyNotLeave_0 : decode cX6_whyNotLeave 0 = .ok (.aload_n 0, 1) := by decide +kernel
theorem dX6_whyNotLeave_1 : decode cX6_whyNotLeave 1 = .ok (.iload_n 1, 1) := by decide +kernel
theorem dX6_whyNotLeave_2 : decode cX6_whyNotLeave 2 = .ok (.invokevirtual 131, 3) := by decide +kernel
theorem dX6_whyNotLeave_5 : decode cX6_whyNotLeave 5 = .ok (.ifCond .ne 5, 3) := by decide +kernel
theorem dX6_whyNotLeave_8 : decode cX6_whyNotLeave 8 = .ok (.iconst 1, 1) := by decide +kernel
theorem dX6_whyNotLeave_9 : decode cX6_whyNotLeave 9 = .ok (.ireturn, 1) := by decide +kernel
theorem dX6_whyNotLeave_10 : decode cX6_whyNotLeave 10 = .ok (.aload_n 0, 1) := by decide +kernel
theorem dX6_whyNotLeave_11 : decode cX6_whyNotLeave 11 = .ok (.getfield 7, 3) := by decide +kernel
theorem dX6_whyNotLeave_14 : decode cX6_whyNotLeave 14 = .ok (.bipush 45, 2) := by decide +kernel
theorem dX6_whyNotLeave_16 : decode cX6_whyNotLeave 16 = .ok (.iload_n 1, 1) := by decide +kernel
theorem dX6_whyNotLeave_17 : decode cX6_whyNotLeave 17 = .ok (.iadd, 1) := by decide +kernel
theorem dX6_whyNotLeave_18 : decode cX6_whyNotLeave 18 = .ok (.iaload, 1) := by decide +kernel
theorem dX6_whyNotLeave_19 : decode cX6_whyNotLeave 19 = .ok (.ifCond .eq 20, 3) := by decide +kernel
theorem dX6_whyNotLeave_22 : decode cX6_whyNotLeave 22 = .ok (.aload_n 0, 1) := by decide +kernel
theorem dX6_whyNotLeave_23 : decode cX6_whyNotLeave 23 = .ok (.getfield 7, 3) := by decide +kernel
theorem dX6_whyNotLeave_26 : decode cX6_whyNotLeave 26 = .ok (.iconst 5, 1) := by decide +kernel
theorem dX6_whyNotLeave_27 : decode cX6_whyNotLeave 27 = .ok (.iload_n 1, 1) := by decide +kernel
theorem dX6_whyNotLeave_28 : decode cX6_whyNotLeave 28 = .ok (.iadd, 1) := by decide +kernel
theorem dX6_whyNotLeave_29 : decode cX6_whyNotLeave 29 = .ok (.iaload, 1) := by decide +kernel
theorem dX6_whyNotLeave_30 : decode cX6_whyNotLeave 30 = .ok (.aload_n 0, 1) := by decide +kernel
theorem dX6_whyNotLeave_31 : decode cX6_whyNotLeave 31 = .ok (.iload_n 1, 1) := by decide +kernel
theorem dX6_whyNotLeave_32 : decode cX6_whyNotLeave 32 = .ok (.invokevirtual 152, 3) := by decide +kernel
theorem dX6_whyNotLeave_35 : decode cX6_whyNotLeave 35 = .ok (.iadd, 1) := by decide +kernel
theorem dX6_whyNotLeave_36 : decode cX6_whyNotLeave 36 = .ok (.ifCond .ge 7, 3) := by decide +kernel
theorem dX6_whyNotLeave_39 : decode cX6_whyNotLeave 39 = .ok (.iconst 2, 1) := by decide +kernel
theorem dX6_whyNotLeave_40 : decode cX6_whyNotLeave 40 = .ok (.goto 4, 3) := by decide +kernel
theorem dX6_whyNotLeave_43 : decode cX6_whyNotLeave 43 = .ok (.iconst 0, 1) := by decide +kernel
theorem dX6_whyNotLeave_44 : decode cX6_whyNotLeave 44 = .ok (.ireturn, 1) := by decide +kernel
set_option maxRecDepth 20000 in
theorem ggX6_goAway_X6_getsAtLeave : GoodIn wsX6_goAway wsX6_getsAtLeave := goodIn_r _ [6, 1, 7, 8, 9, 5, 10, 11, 12, 13, 14, 15, 16, 17, 18, 19, 20, 21, 22, 23, 24, 25] (by decide +kernel) (by decide +kernel)
set_option maxRecDepth 20000 in
theorem gX6_goAway_X6_getsAtLeave : GoodIn wsX6_goAway (wsV RX6 152 RX6 yX6_getsAtLeave wsX6_getsAtLeave) := goodIn_app (goodIn_of _ (by decide +kernel)) ggX6_goAway_X6_getsAtLeave
theorem dX6_goAway_0 : decode cX6_goAway 0 = .ok (.aload_n 0, 1) := by decide +kernel
theorem dX6_goAway_1 : decode cX6_goAway 1 = .ok (.iload_n 1, 1) := by decide +kernel
theorem dX6_goAway_2 : decode cX6_goAway 2 = .ok (.invokevirtual 152, 3) := by decide +kernel
theorem dX6_goAway_5 : decode cX6_goAway 5 = .ok (.istore_n 2, 1) := by decide +kernel
theorem dX6_goAway_6 : decode cX6_goAway 6 = .ok (.aload_n 0, 1) := by decide +kernel
theorem dX6_goAway_7 : decode cX6_goAway 7 = .ok (.getfield 7, 3) := by decide +kernel
theorem dX6_goAway_10 : decode cX6_goAway 10 = .ok (.iconst 5, 1) := by decide +kernel
theorem dX6_goAway_11 : decode cX6_goAway 11 = .ok (.iload_n 1, 1) := by decide +kernel
theorem dX6_goAway_12 : decode cX6_goAway 12 = .ok (.iadd, 1) := by decide +kernel
theorem dX6_goAway_13 : decode cX6_goAway 13 = .ok (.dup2, 1) := by decide +kernel
theorem dX6_goAway_14 : decode cX6_goAway 14 = .ok (.iaload, 1) := by decide +kernel
theorem dX6_goAway_15 : decode cX6_goAway 15 = .ok (.iload_n 2, 1) := by decide +kernel
theorem dX6_goAway_16 : decode cX6_goAway 16 = .ok (.iadd, 1) := by decide +kernel
theorem dX6_goAway_17 : decode cX6_goAway 17 = .ok (.iastore, 1) := by decide +kernel
theorem dX6_goAway_18 : decode cX6_goAway 18 = .ok (.aload_n 0, 1) := by decide +kernel
theorem dX6_goAway_19 : decode cX6_goAway 19 = .ok (.getfield 7, 3) := by decide +kernel
theorem dX6_goAway_22 : decode cX6_goAway 22 = .ok (.iconst 3, 1) := by decide +kernel
theorem dX6_goAway_23 : decode cX6_goAway 23 = .ok (.dup2, 1) := by decide +kernel
theorem dX6_goAway_24 : decode cX6_goAway 24 = .ok (.iaload, 1) := by decide +kernel
theorem dX6_goAway_25 : decode cX6_goAway 25 = .ok (.iload_n 2, 1) := by decide +kernel
theorem dX6_goAway_26 : decode cX6_goAway 26 = .ok (.isub, 1) := by decide +kernel
theorem dX6_goAway_27 : decode cX6_goAway 27 = .ok (.iastore, 1) := by decide +kernel
theorem dX6_goAway_28 : decode cX6_goAway 28 = .ok (.aload_n 0, 1) := by decide +kernel
theorem dX6_goAway_29 : decode cX6_goAway 29 = .ok (.getfield 7, 3) := by decide +kernel
theorem dX6_goAway_32 : decode cX6_goAway 32 = .ok (.bipush 45, 2) := by decide +kernel
theorem dX6_goAway_34 : decode cX6_goAway 34 = .ok (.iload_n 1, 1) := by decide +kernel
theorem dX6_goAway_35 : decode cX6_goAway 35 = .ok (.iadd, 1) := by decide +kernel
theorem dX6_goAway_36 : decode cX6_goAway 36 = .ok (.iconst 0, 1) := by decide +kernel
theorem dX6_goAway_37 : decode cX6_goAway 37 = .ok (.iastore, 1) := by decide +kernel
theorem dX6_goAway_38 : decode cX6_goAway 38 = .ok (.iload_n 2, 1) := by decide +kernel
theorem dX6_goAway_39 : decode cX6_goAway 39 = .ok (.ireturn, 1) := by decide +kernel
set_option maxRecDepth 20000 in
theorem ggX6_leave_X6_whyNotLeave : GoodIn wsX6_leave wsX6_whyNotLeave := goodIn_r _ [6, 7, 8, 9, 10, 5, 11, 12, 13, 14, 15, 16, 17, 18, 19, 30, 31, 32, 33, 34, 35, 36, 37, 38, 39, 40, 41, 42, 43, 44] (by decide +kernel) (by decide +kernel)
set_option maxRecDepth 20000 in
theorem gX6_leave_X6_whyNotLeave : GoodIn wsX6_leave (wsV RX6 155 RX6 yX6_whyNotLeave wsX6_whyNotLeave) := goodIn_app (goodIn_of _ (by decide +kernel)) ggX6_leave_X6_whyNotLeave
set_option maxRecDepth 20000 in
theorem ggX6_leave_X6_remember : GoodIn wsX6_leave wsX6_remember := goodIn_r _ [23, 24, 25, 7, 30, 31, 32, 33, 34, 35, 36, 37, 38, 39, 40, 41, 42, 43, 44] (by decide +kernel) (by decide +kernel)
set_option maxRecDepth 20000 in
theorem gX6_leave_X6_remember : GoodIn wsX6_leave (wsV RX6 86 RX6 yX6_remember wsX6_remember) := goodIn_app (goodIn_of _ (by decide +kernel)) ggX6_leave_X6_remember
set_option maxRecDepth 20000 in
theorem ggX6_leave_X6_goAway : GoodIn wsX6_leave wsX6_goAway := goodIn_r _ [29, 7, 12, 13, 14, 5, 15, 16, 17, 18, 19, 30, 31, 32, 33, 34, 35, 36, 37, 38, 39, 40, 41, 42, 43, 44] (by decide +kernel) (by decide +kernel)
set_option maxRecDepth 20000 in
theorem gX6_leave_X6_goAway : GoodIn wsX6_leave (wsV RX6 158 RX6 yX6_goAway wsX6_goAway) := goodIn_app (goodIn_of _ (by decide +kernel)) ggX6_leave_X6_goAway
theorem dX6_leave_0 : decode cX6_leave 0 = .ok (.aload_n 0, 1) := by decide +kernel
theorem dX6_leave_1 : decode cX6_leave 1 = .ok (.aload_n 0, 1) := by decide +kernel
theorem dX6_leave_2 : decode cX6_leave 2 = .ok (.iload_n 1, 1) := by decide +kernel
theorem dX6_leave_3 : decode cX6_leave 3 = .ok (.invokevirtual 155, 3) := by decide +kernel
theorem dX6_leave_6 : decode cX6_leave 6 = .ok (.putfield 38, 3) := by decide +kernel
theorem dX6_leave_9 : decode cX6_leave 9 = .ok (.aload_n 0, 1) := by decide +kernel
theorem dX6_leave_10 : decode cX6_leave 10 = .ok (.getfield 38, 3) := by decide +kernel
theorem dX6_leave_13 : decode cX6_leave 13 = .ok (.ifCond .le 5, 3) := by decide +kernel
theorem dX6_leave_16 : decode cX6_leave 16 = .ok (.iconst 0, 1) := by decide +kernel
theorem dX6_leave_17 : decode cX6_leave 17 = .ok (.ireturn, 1) := by decide +kernel
theorem dX6_leave_18 : decode cX6_leave 18 = .ok (.aload_n 0, 1) := by decide +kernel
theorem dX6_leave_19 : decode cX6_leave 19 = .ok (.invokevirtual 86, 3) := by decide +kernel
theorem dX6_leave_22 : decode cX6_leave 22 = .ok (.aload_n 0, 1) := by decide +kernel
theorem dX6_leave_23 : decode cX6_leave 23 = .ok (.iload_n 1, 1) := by decide +kernel
theorem dX6_leave_24 : decode cX6_leave 24 = .ok (.invokevirtual 158, 3) := by decide +kernel
theorem dX6_leave_27 : decode cX6_leave 27 = .ok (.ireturn, 1) := by decide +kernel
set_option maxRecDepth 20000 in
theorem ggX6_repay_X6_whyNotTwo : GoodIn wsX6_repay wsX6_whyNotTwo := goodIn_r _ [7, 8, 9, 10, 6, 11, 2, 18, 19, 20, 21, 22, 23, 24, 25, 26, 27, 28, 29, 30, 31, 32] (by decide +kernel) (by decide +kernel)
set_option maxRecDepth 20000 in
theorem gX6_repay_X6_whyNotTwo : GoodIn wsX6_repay (wsV RX6 134 RX6 yX6_whyNotTwo wsX6_whyNotTwo) := goodIn_app (goodIn_of _ (by decide +kernel)) ggX6_repay_X6_whyNotTwo
set_option maxRecDepth 20000 in
theorem ggX6_repay_X6_remember : GoodIn wsX6_repay wsX6_remember := goodIn_r _ [15, 16, 17, 2, 18, 19, 20, 21, 22, 23, 24, 25, 26, 27, 28, 29, 30, 31, 32] (by decide +kernel) (by decide +kernel)
set_option maxRecDepth 20000 in
theorem gX6_repay_X6_remember : GoodIn wsX6_repay (wsV RX6 86 RX6 yX6_remember wsX6_remember) := goodIn_app (goodIn_of _ (by decide +kernel)) ggX6_repay_X6_remember
theorem dX6_repay_0 : decode cX6_repay 0 = .ok (.aload_n 0, 1) := by decide +kernel
theorem dX6_repay_1 : decode cX6_repay 1 = .ok (.aload_n 0, 1) := by decide +kernel
theorem dX6_repay_2 : decode cX6_repay 2 = .ok (.iload_n 1, 1) := by decide +kernel
theorem dX6_repay_3 : decode cX6_repay 3 = .ok (.iload_n 2, 1) := by decide +kernel
theorem dX6_repay_4 : decode cX6_repay 4 = .ok (.invokevirtual 134, 3) := by decide +kernel
theorem dX6_repay_7 : decode cX6_repay 7 = .ok (.putfield 38, 3) := by decide +kernel
theorem dX6_repay_10 : decode cX6_repay 10 = .ok (.aload_n 0, 1) := by decide +kernel
theorem dX6_repay_11 : decode cX6_repay 11 = .ok (.getfield 38, 3) := by decide +kernel
theorem dX6_repay_14 : decode cX6_repay 14 = .ok (.ifCond .le 5, 3) := by decide +kernel
theorem dX6_repay_17 : decode cX6_repay 17 = .ok (.iconst 0, 1) := by decide +kernel
theorem dX6_repay_18 : decode cX6_repay 18 = .ok (.ireturn, 1) := by decide +kernel
theorem dX6_repay_19 : decode cX6_repay 19 = .ok (.aload_n 0, 1) := by decide +kernel
theorem dX6_repay_20 : decode cX6_repay 20 = .ok (.invokevirtual 86, 3) := by decide +kernel
theorem dX6_repay_23 : decode cX6_repay 23 = .ok (.aload_n 0, 1) := by decide +kernel
theorem dX6_repay_24 : decode cX6_repay 24 = .ok (.getfield 7, 3) := by decide +kernel
theorem dX6_repay_27 : decode cX6_repay 27 = .ok (.bipush 93, 2) := by decide +kernel
theorem dX6_repay_29 : decode cX6_repay 29 = .ok (.bipush 8, 2) := by decide +kernel
theorem dX6_repay_31 : decode cX6_repay 31 = .ok (.iload_n 1, 1) := by decide +kernel
theorem dX6_repay_32 : decode cX6_repay 32 = .ok (.imul, 1) := by decide +kernel
theorem dX6_repay_33 : decode cX6_repay 33 = .ok (.iadd, 1) := by decide +kernel
theorem dX6_repay_34 : decode cX6_repay 34 = .ok (.iload_n 2, 1) := by decide +kernel
theorem dX6_repay_35 : decode cX6_repay 35 = .ok (.iadd, 1) := by decide +kernel
theorem dX6_repay_36 : decode cX6_repay 36 = .ok (.iaload, 1) := by decide +kernel
theorem dX6_repay_37 : decode cX6_repay 37 = .ok (.istore_n 3, 1) := by decide +kernel
theorem dX6_repay_38 : decode cX6_repay 38 = .ok (.iload_n 3, 1) := by decide +kernel
theorem dX6_repay_39 : decode cX6_repay 39 = .ok (.aload_n 0, 1) := by decide +kernel
theorem dX6_repay_40 : decode cX6_repay 40 = .ok (.getfield 7, 3) := by decide +kernel
theorem dX6_repay_43 : decode cX6_repay 43 = .ok (.iconst 5, 1) := by decide +kernel
theorem dX6_repay_44 : decode cX6_repay 44 = .ok (.iload_n 1, 1) := by decide +kernel
theorem dX6_repay_45 : decode cX6_repay 45 = .ok (.iadd, 1) := by decide +kernel
theorem dX6_repay_46 : decode cX6_repay 46 = .ok (.iaload, 1) := by decide +kernel
theorem dX6_repay_47 : decode cX6_repay 47 = .ok (.if_icmp .ge 7, 3) := by decide +kernel
theorem dX6_repay_50 : decode cX6_repay 50 = .ok (.iload_n 3, 1) := by decide +kernel
theorem dX6_repay_51 : decode cX6_repay 51 = .ok (.goto 11, 3) := by decide +kernel
theorem dX6_repay_54 : decode cX6_repay 54 = .ok (.aload_n 0, 1) := by decide +kernel
theorem dX6_repay_55 : decode cX6_repay 55 = .ok (.getfield 7, 3) := by decide +kernel
theorem dX6_repay_58 : decode cX6_repay 58 = .ok (.iconst 5, 1) := by decide +kernel
theorem dX6_repay_59 : decode cX6_repay 59 = .ok (.iload_n 1, 1) := by decide +kernel
theorem dX6_repay_60 : decode cX6_repay 60 = .ok (.iadd, 1) := by decide +kernel
theorem dX6_repay_61 : decode cX6_repay 61 = .ok (.iaload, 1) := by decide +kernel
theorem dX6_repay_62 : decode cX6_repay 62 = .ok (.istore 4, 2) := by decide +kernel
theorem dX6_repay_64 : decode cX6_repay 64 = .ok (.aload_n 0, 1) := by decide +kernel
theorem dX6_repay_65 : decode cX6_repay 65 = .ok (.getfield 7, 3) := by decide +kernel
theorem dX6_repay_68 : decode cX6_repay 68 = .ok (.bipush 93, 2) := by decide +kernel
theorem dX6_repay_70 : decode cX6_repay 70 = .ok (.bipush 8, 2) := by decide +kernel
theorem dX6_repay_72 : decode cX6_repay 72 = .ok (.iload_n 1, 1) := by decide +kernel
theorem dX6_repay_73 : decode cX6_repay 73 = .ok (.imul, 1) := by decide +kernel
theorem dX6_repay_74 : decode cX6_repay 74 = .ok (.iadd, 1) := by decide +kernel
theorem dX6_repay_75 : decode cX6_repay 75 = .ok (.iload_n 2, 1) := by decide +kernel
theorem dX6_repay_76 : decode cX6_repay 76 = .ok (.iadd, 1) := by decide +kernel
theorem dX6_repay_77 : decode cX6_repay 77 = .ok (.dup2, 1) := by decide +kernel
theorem dX6_repay_78 : decode cX6_repay 78 = .ok (.iaload, 1) := by decide +kernel
theorem dX6_repay_79 : decode cX6_repay 79 = .ok (.iload 4, 2) := by decide +kernel
theorem dX6_repay_81 : decode cX6_repay 81 = .ok (.isub, 1) := by decide +kernel
theorem dX6_repay_82 : decode cX6_repay 82 = .ok (.iastore, 1) := by decide +kernel
theorem dX6_repay_83 : decode cX6_repay 83 = .ok (.aload_n 0, 1) := by decide +kernel
theorem dX6_repay_84 : decode cX6_repay 84 = .ok (.getfield 7, 3) := by decide +kernel
theorem dX6_repay_87 : decode cX6_repay 87 = .ok (.iconst 5, 1) := by decide +kernel
theorem dX6_repay_88 : decode cX6_repay 88 = .ok (.iload_n 1, 1) := by decide +kernel
theorem dX6_repay_89 : decode cX6_repay 89 = .ok (.iadd, 1) := by decide +kernel
theorem dX6_repay_90 : decode cX6_repay 90 = .ok (.dup2, 1) := by decide +kernel
theorem dX6_repay_91 : decode cX6_repay 91 = .ok (.iaload, 1) := by decide +kernel
theorem dX6_repay_92 : decode cX6_repay 92 = .ok (.iload 4, 2) := by decide +kernel
theorem dX6_repay_94 : decode cX6_repay 94 = .ok (.isub, 1) := by decide +kernel
theorem dX6_repay_95 : decode cX6_repay 95 = .ok (.iastore, 1) := by decide +kernel
theorem dX6_repay_96 : decode cX6_repay 96 = .ok (.aload_n 0, 1) := by decide +kernel
theorem dX6_repay_97 : decode cX6_repay 97 = .ok (.getfield 7, 3) := by decide +kernel
theorem dX6_repay_100 : decode cX6_repay 100 = .ok (.iconst 5, 1) := by decide +kernel
theorem dX6_repay_101 : decode cX6_repay 101 = .ok (.iload_n 2, 1) := by decide +kernel
theorem dX6_repay_102 : decode cX6_repay 102 = .ok (.iadd, 1) := by decide +kernel
theorem dX6_repay_103 : decode cX6_repay 103 = .ok (.dup2, 1) := by decide +kernel
theorem dX6_repay_104 : decode cX6_repay 104 = .ok (.iaload, 1) := by decide +kernel
theorem dX6_repay_105 : decode cX6_repay 105 = .ok (.iload 4, 2) := by decide +kernel
theorem dX6_repay_107 : decode cX6_repay 107 = .ok (.iadd, 1) := by decide +kernel
theorem dX6_repay_108 : decode cX6_repay 108 = .ok (.iastore, 1) := by decide +kernel
theorem dX6_repay_109 : decode cX6_repay 109 = .ok (.iload 4, 2) := by decide +kernel
theorem dX6_repay_111 : decode cX6_repay 111 = .ok (.ireturn, 1) := by decide +kernel
set_option maxRecDepth 20000 in
theorem ggX6_winner_X6_putAside : GoodIn wsX6_winner wsX6_putAside := goodIn_r _ [6, 7, 8, 49, 50, 51, 52, 53, 54, 55, 56, 57, 58, 59, 60, 61, 62, 63] (by decide +kernel) (by decide +kernel)
set_option maxRecDepth 20000 in
theorem gX6_winner_X6_putAside : GoodIn wsX6_winner (wsV RX6 161 RX6 yX6_putAside wsX6_putAside) := goodIn_app (goodIn_of _ (by decide +kernel)) ggX6_winner_X6_putAside
set_option maxRecDepth 20000 in
theorem ggX6_winner_X6_goMonth : GoodIn wsX6_winner wsX6_goMonth := goodIn_r _ [12, 13, 14, 8, 15, 16, 17, 5, 18, 19, 20, 21, 22, 23, 24, 25, 26, 27, 28, 29, 30, 31, 32, 33, 34, 35, 36, 37, 38, 39, 40, 41, 42, 43, 44, 49, 50, 51, 52, 53, 54, 55, 56, 57, 58, 59, 60, 61, 62, 63] (by decide +kernel) (by decide +kernel)
set_option maxRecDepth 20000 in
theorem gX6_winner_X6_goMonth : GoodIn wsX6_winner (wsV RX6 89 RX6 yX6_goMonth wsX6_goMonth) := goodIn_app (goodIn_of _ (by decide +kernel)) ggX6_winner_X6_goMonth
set_option maxRecDepth 20000 in
theorem ggX6_winner_X6_bringBack : GoodIn wsX6_winner wsX6_bringBack := goodIn_r _ [48, 8, 7, 49, 50, 51, 52, 53, 54, 55, 56, 57, 58, 59, 60, 61, 62, 63] (by decide +kernel) (by decide +kernel)
set_option maxRecDepth 20000 in
theorem gX6_winner_X6_bringBack : GoodIn wsX6_winner (wsV RX6 164 RX6 yX6_bringBack wsX6_bringBack) := goodIn_app (goodIn_of _ (by decide +kernel)) ggX6_winner_X6_bringBack
theorem dX6_winner_0 : decode cX6_winner 0 = .ok (.aload_n 0, 1) := by decide +kernel
theorem dX6_winner_1 : decode cX6_winner 1 = .ok (.iconst 0, 1) := by decide +kernel
theorem dX6_winner_2 : decode cX6_winner 2 = .ok (.putfield 38, 3) := by decide +kernel
theorem dX6_winner_5 : decode cX6_winner 5 = .ok (.aload_n 0, 1) := by decide +kernel
theorem dX6_winner_6 : decode cX6_winner 6 = .ok (.invokevirtual 161, 3) := by decide +kernel
theorem dX6_winner_9 : decode cX6_winner 9 = .ok (.aload_n 0, 1) := by decide +kernel
theorem dX6_winner_10 : decode cX6_winner 10 = .ok (.invokevirtual 89, 3) := by decide +kernel
theorem dX6_winner_13 : decode cX6_winner 13 = .ok (.istore_n 1, 1) := by decide +kernel
theorem dX6_winner_14 : decode cX6_winner 14 = .ok (.aload_n 0, 1) := by decide +kernel
theorem dX6_winner_15 : decode cX6_winner 15 = .ok (.invokevirtual 164, 3) := by decide +kernel
theorem dX6_winner_18 : decode cX6_winner 18 = .ok (.iload_n 1, 1) := by decide +kernel
theorem dX6_winner_19 : decode cX6_winner 19 = .ok (.ireturn, 1) := by decide +kernel
set_option maxRecDepth 20000 in
theorem ggX6_pot_X6_putAside : GoodIn wsX6_pot wsX6_putAside := goodIn_r _ [7, 8, 9, 49, 50, 51, 52, 53, 54, 55, 56, 57, 58, 59, 60, 61, 62, 63] (by decide +kernel) (by decide +kernel)
set_option maxRecDepth 20000 in
theorem gX6_pot_X6_putAside : GoodIn wsX6_pot (wsV RX6 161 RX6 yX6_putAside wsX6_putAside) := goodIn_app (goodIn_of _ (by decide +kernel)) ggX6_pot_X6_putAside
set_option maxRecDepth 20000 in
theorem ggX6_pot_X6_goMonth : GoodIn wsX6_pot wsX6_goMonth := goodIn_r _ [13, 2, 14, 9, 15, 16, 17, 6, 18, 19, 20, 21, 22, 23, 24, 25, 26, 27, 28, 29, 30, 31, 32, 33, 34, 35, 36, 37, 38, 39, 40, 41, 42, 43, 44, 49, 50, 51, 52, 53, 54, 55, 56, 57, 58, 59, 60, 61, 62, 63] (by decide +kernel) (by decide +kernel)
set_option maxRecDepth 20000 in
theorem gX6_pot_X6_goMonth : GoodIn wsX6_pot (wsV RX6 89 RX6 yX6_goMonth wsX6_goMonth) := goodIn_app (goodIn_of _ (by decide +kernel)) ggX6_pot_X6_goMonth
set_option maxRecDepth 20000 in
theorem ggX6_pot_X6_bringBack : GoodIn wsX6_pot wsX6_bringBack := goodIn_r _ [48, 9, 8, 49, 50, 51, 52, 53, 54, 55, 56, 57, 58, 59, 60, 61, 62, 63] (by decide +kernel) (by decide +kernel)
set_option maxRecDepth 20000 in
theorem gX6_pot_X6_bringBack : GoodIn wsX6_pot (wsV RX6 164 RX6 yX6_bringBack wsX6_bringBack) := goodIn_app (goodIn_of _ (by decide +kernel)) ggX6_pot_X6_bringBack
theorem dX6_pot_0 : decode cX6_pot 0 = .ok (.aload_n 0, 1) := by decide +kernel
theorem dX6_pot_1 : decode cX6_pot 1 = .ok (.iconst 0, 1) := by decide +kernel
theorem dX6_pot_2 : decode cX6_pot 2 = .ok (.putfield 38, 3) := by decide +kernel
theorem dX6_pot_5 : decode cX6_pot 5 = .ok (.aload_n 0, 1) := by decide +kernel
theorem dX6_pot_6 : decode cX6_pot 6 = .ok (.invokevirtual 161, 3) := by decide +kernel
theorem dX6_pot_9 : decode cX6_pot 9 = .ok (.aload_n 0, 1) := by decide +kernel
theorem dX6_pot_10 : decode cX6_pot 10 = .ok (.invokevirtual 89, 3) := by decide +kernel
theorem dX6_pot_13 : decode cX6_pot 13 = .ok (.pop, 1) := by decide +kernel
theorem dX6_pot_14 : decode cX6_pot 14 = .ok (.aload_n 0, 1) := by decide +kernel
theorem dX6_pot_15 : decode cX6_pot 15 = .ok (.invokevirtual 164, 3) := by decide +kernel
theorem dX6_pot_18 : decode cX6_pot 18 = .ok (.aload_n 0, 1) := by decide +kernel
theorem dX6_pot_19 : decode cX6_pot 19 = .ok (.getfield 65, 3) := by decide +kernel
theorem dX6_pot_22 : decode cX6_pot 22 = .ok (.ireturn, 1) := by decide +kernel
set_option maxRecDepth 20000 in
theorem ggX6_change_X6_isMember : GoodIn wsX6_change wsX6_isMember := goodIn_r _ [8, 2, 53, 54, 55, 56, 57, 58, 59, 60, 61, 62, 63, 64, 65, 66, 67] (by decide +kernel) (by decide +kernel)
set_option maxRecDepth 20000 in
theorem gX6_change_X6_isMember : GoodIn wsX6_change (wsV RX6 131 RX6 yX6_isMember wsX6_isMember) := goodIn_app (goodIn_of _ (by decide +kernel)) ggX6_change_X6_isMember
set_option maxRecDepth 20000 in
theorem ggX6_change_X6_putAside : GoodIn wsX6_change wsX6_putAside := goodIn_r _ [12, 3, 2, 53, 54, 55, 56, 57, 58, 59, 60, 61, 62, 63, 64, 65, 66, 67] (by decide +kernel) (by decide +kernel)
set_option maxRecDepth 20000 in
theorem gX6_change_X6_putAside : GoodIn wsX6_change (wsV RX6 161 RX6 yX6_putAside wsX6_putAside) := goodIn_app (goodIn_of _ (by decide +kernel)) ggX6_change_X6_putAside
set_option maxRecDepth 20000 in
theorem ggX6_change_X6_goMonth : GoodIn wsX6_change wsX6_goMonth := goodIn_r _ [16, 17, 18, 2, 19, 20, 21, 7, 22, 23, 24, 25, 26, 27, 28, 29, 30, 31, 32, 33, 34, 35, 36, 37, 38, 39, 40, 41, 42, 43, 44, 45, 46, 47, 48, 53, 54, 55, 56, 57, 58, 59, 60, 61, 62, 63, 64, 65, 66, 67] (by decide +kernel) (by decide +kernel)
set_option maxRecDepth 20000 in
theorem gX6_change_X6_goMonth : GoodIn wsX6_change (wsV RX6 89 RX6 yX6_goMonth wsX6_goMonth) := goodIn_app (goodIn_of _ (by decide +kernel)) ggX6_change_X6_goMonth
set_option maxRecDepth 20000 in
theorem ggX6_change_X6_bringBack : GoodIn wsX6_change wsX6_bringBack := goodIn_r _ [52, 2, 3, 53, 54, 55, 56, 57, 58, 59, 60, 61, 62, 63, 64, 65, 66, 67] (by decide +kernel) (by decide +kernel)
set_option maxRecDepth 20000 in
theorem gX6_change_X6_bringBack : GoodIn wsX6_change (wsV RX6 164 RX6 yX6_bringBack wsX6_bringBack) := goodIn_app (goodIn_of _ (by decide +kernel)) ggX6_change_X6_bringBack
theorem dX6_change_0 : decode cX6_change 0 = .ok (.aload_n 0, 1) := by decide +kernel
theorem dX6_change_1 : decode cX6_change 1 = .ok (.aload_n 0, 1) := by decide +kernel
theorem dX6_change_2 : decode cX6_change 2 = .ok (.iload_n 1, 1) := by decide +kernel
theorem dX6_change_3 : decode cX6_change 3 = .ok (.invokevirtual 131, 3) := by decide +kernel
theorem dX6_change_6 : decode cX6_change 6 = .ok (.ifCond .eq 7, 3) := by decide +kernel
theorem dX6_change_9 : decode cX6_change 9 = .ok (.iconst 0, 1) := by decide +kernel
theorem dX6_change_10 : decode cX6_change 10 = .ok (.goto 4, 3) := by decide +kernel
theorem dX6_change_13 : decode cX6_change 13 = .ok (.iconst 1, 1) := by decide +kernel
theorem dX6_change_14 : decode cX6_change 14 = .ok (.putfield 38, 3) := by decide +kernel
theorem dX6_change_17 : decode cX6_change 17 = .ok (.aload_n 0, 1) := by decide +kernel
theorem dX6_change_18 : decode cX6_change 18 = .ok (.getfield 38, 3) := by decide +kernel
theorem dX6_change_21 : decode cX6_change 21 = .ok (.ifCond .le 5, 3) := by decide +kernel
theorem dX6_change_24 : decode cX6_change 24 = .ok (.iconst 0, 1) := by decide +kernel
theorem dX6_change_25 : decode cX6_change 25 = .ok (.ireturn, 1) := by decide +kernel
theorem dX6_change_26 : decode cX6_change 26 = .ok (.aload_n 0, 1) := by decide +kernel
theorem dX6_change_27 : decode cX6_change 27 = .ok (.invokevirtual 161, 3) := by decide +kernel
theorem dX6_change_30 : decode cX6_change 30 = .ok (.aload_n 0, 1) := by decide +kernel
theorem dX6_change_31 : decode cX6_change 31 = .ok (.invokevirtual 89, 3) := by decide +kernel
theorem dX6_change_34 : decode cX6_change 34 = .ok (.pop, 1) := by decide +kernel
theorem dX6_change_35 : decode cX6_change 35 = .ok (.aload_n 0, 1) := by decide +kernel
theorem dX6_change_36 : decode cX6_change 36 = .ok (.getfield 7, 3) := by decide +kernel
theorem dX6_change_39 : decode cX6_change 39 = .ok (.iconst 5, 1) := by decide +kernel
theorem dX6_change_40 : decode cX6_change 40 = .ok (.iload_n 1, 1) := by decide +kernel
theorem dX6_change_41 : decode cX6_change 41 = .ok (.iadd, 1) := by decide +kernel
theorem dX6_change_42 : decode cX6_change 42 = .ok (.iaload, 1) := by decide +kernel
theorem dX6_change_43 : decode cX6_change 43 = .ok (.aload_n 0, 1) := by decide +kernel
theorem dX6_change_44 : decode cX6_change 44 = .ok (.getfield 23, 3) := by decide +kernel
theorem dX6_change_47 : decode cX6_change 47 = .ok (.iconst 5, 1) := by decide +kernel
theorem dX6_change_48 : decode cX6_change 48 = .ok (.iload_n 1, 1) := by decide +kernel
theorem dX6_change_49 : decode cX6_change 49 = .ok (.iadd, 1) := by decide +kernel
theorem dX6_change_50 : decode cX6_change 50 = .ok (.iaload, 1) := by decide +kernel
theorem dX6_change_51 : decode cX6_change 51 = .ok (.isub, 1) := by decide +kernel
theorem dX6_change_52 : decode cX6_change 52 = .ok (.istore_n 2, 1) := by decide +kernel
theorem dX6_change_53 : decode cX6_change 53 = .ok (.aload_n 0, 1) := by decide +kernel
theorem dX6_change_54 : decode cX6_change 54 = .ok (.invokevirtual 164, 3) := by decide +kernel
theorem dX6_change_57 : decode cX6_change 57 = .ok (.iload_n 2, 1) := by decide +kernel
theorem dX6_change_58 : decode cX6_change 58 = .ok (.ireturn, 1) := by decide +kernel
set_option maxRecDepth 20000 in
theorem ggX6_leastBid_X6_isMember : GoodIn wsX6_leastBid wsX6_isMember := goodIn_r _ [8, 3, 53, 54, 55, 56, 57, 58, 59, 60, 61, 62, 63, 64, 65, 66, 67] (by decide +kernel) (by decide +kernel)
set_option maxRecDepth 20000 in
theorem gX6_leastBid_X6_isMember : GoodIn wsX6_leastBid (wsV RX6 131 RX6 yX6_isMember wsX6_isMember) := goodIn_app (goodIn_of _ (by decide +kernel)) ggX6_leastBid_X6_isMember
set_option maxRecDepth 20000 in
theorem ggX6_leastBid_X6_putAside : GoodIn wsX6_leastBid wsX6_putAside := goodIn_r _ [12, 13, 3, 53, 54, 55, 56, 57, 58, 59, 60, 61, 62, 63, 64, 65, 66, 67] (by decide +kernel) (by decide +kernel)
set_option maxRecDepth 20000 in
theorem gX6_leastBid_X6_putAside : GoodIn wsX6_leastBid (wsV RX6 161 RX6 yX6_putAside wsX6_putAside) := goodIn_app (goodIn_of _ (by decide +kernel)) ggX6_leastBid_X6_putAside
set_option maxRecDepth 20000 in
theorem ggX6_leastBid_X6_goMonth : GoodIn wsX6_leastBid wsX6_goMonth := goodIn_r _ [17, 18, 2, 3, 19, 20, 21, 7, 22, 23, 24, 25, 26, 27, 28, 29, 30, 31, 32, 33, 34, 35, 36, 37, 38, 39, 40, 41, 42, 43, 44, 45, 46, 47, 48, 53, 54, 55, 56, 57, 58, 59, 60, 61, 62, 63, 64, 65, 66, 67] (by decide +kernel) (by decide +kernel)
set_option maxRecDepth 20000 in
theorem gX6_leastBid_X6_goMonth : GoodIn wsX6_leastBid (wsV RX6 89 RX6 yX6_goMonth wsX6_goMonth) := goodIn_app (goodIn_of _ (by decide +kernel)) ggX6_leastBid_X6_goMonth
set_option maxRecDepth 20000 in
theorem ggX6_leastBid_X6_bringBack : GoodIn wsX6_leastBid wsX6_bringBack := goodIn_r _ [52, 3, 13, 53, 54, 55, 56, 57, 58, 59, 60, 61, 62, 63, 64, 65, 66, 67] (by decide +kernel) (by decide +kernel)
set_option maxRecDepth 20000 in
theorem gX6_leastBid_X6_bringBack : GoodIn wsX6_leastBid (wsV RX6 164 RX6 yX6_bringBack wsX6_bringBack) := goodIn_app (goodIn_of _ (by decide +kernel)) ggX6_leastBid_X6_bringBack
theorem dX6_leastBid_0 : decode cX6_leastBid 0 = .ok (.aload_n 0, 1) := by decide +kernel
theorem dX6_leastBid_1 : decode cX6_leastBid 1 = .ok (.aload_n 0, 1) := by decide +kernel
theorem dX6_leastBid_2 : decode cX6_leastBid 2 = .ok (.iload_n 1, 1) := by decide +kernel
theorem dX6_leastBid_3 : decode cX6_leastBid 3 = .ok (.invokevirtual 131, 3) := by decide +kernel
theorem dX6_leastBid_6 : decode cX6_leastBid 6 = .ok (.ifCond .eq 7, 3) := by decide +kernel
theorem dX6_leastBid_9 : decode cX6_leastBid 9 = .ok (.iconst 0, 1) := by decide +kernel
theorem dX6_leastBid_10 : decode cX6_leastBid 10 = .ok (.goto 4, 3) := by decide +kernel
theorem dX6_leastBid_13 : decode cX6_leastBid 13 = .ok (.iconst 1, 1) := by decide +kernel
theorem dX6_leastBid_14 : decode cX6_leastBid 14 = .ok (.putfield 38, 3) := by decide +kernel
theorem dX6_leastBid_17 : decode cX6_leastBid 17 = .ok (.aload_n 0, 1) := by decide +kernel
theorem dX6_leastBid_18 : decode cX6_leastBid 18 = .ok (.getfield 38, 3) := by decide +kernel
theorem dX6_leastBid_21 : decode cX6_leastBid 21 = .ok (.ifCond .le 5, 3) := by decide +kernel
theorem dX6_leastBid_24 : decode cX6_leastBid 24 = .ok (.iconst 0, 1) := by decide +kernel
theorem dX6_leastBid_25 : decode cX6_leastBid 25 = .ok (.ireturn, 1) := by decide +kernel
theorem dX6_leastBid_26 : decode cX6_leastBid 26 = .ok (.ldc 49, 2) := by decide +kernel
theorem dX6_leastBid_28 : decode cX6_leastBid 28 = .ok (.istore_n 2, 1) := by decide +kernel
theorem dX6_leastBid_29 : decode cX6_leastBid 29 = .ok (.aload_n 0, 1) := by decide +kernel
theorem dX6_leastBid_30 : decode cX6_leastBid 30 = .ok (.invokevirtual 161, 3) := by decide +kernel
theorem dX6_leastBid_33 : decode cX6_leastBid 33 = .ok (.iconst 0, 1) := by decide +kernel
theorem dX6_leastBid_34 : decode cX6_leastBid 34 = .ok (.istore_n 3, 1) := by decide +kernel
theorem dX6_leastBid_35 : decode cX6_leastBid 35 = .ok (.iload_n 3, 1) := by decide +kernel
theorem dX6_leastBid_36 : decode cX6_leastBid 36 = .ok (.sipush 999, 3) := by decide +kernel
theorem dX6_leastBid_39 : decode cX6_leastBid 39 = .ok (.if_icmp .gt 44, 3) := by decide +kernel
theorem dX6_leastBid_42 : decode cX6_leastBid 42 = .ok (.iload_n 2, 1) := by decide +kernel
theorem dX6_leastBid_43 : decode cX6_leastBid 43 = .ok (.ldc 49, 2) := by decide +kernel
theorem dX6_leastBid_45 : decode cX6_leastBid 45 = .ok (.if_icmp .ne 38, 3) := by decide +kernel
theorem dX6_leastBid_48 : decode cX6_leastBid 48 = .ok (.aload_n 0, 1) := by decide +kernel
theorem dX6_leastBid_49 : decode cX6_leastBid 49 = .ok (.getfield 7, 3) := by decide +kernel
theorem dX6_leastBid_52 : decode cX6_leastBid 52 = .ok (.bipush 21, 2) := by decide +kernel
theorem dX6_leastBid_54 : decode cX6_leastBid 54 = .ok (.iload_n 1, 1) := by decide +kernel
theorem dX6_leastBid_55 : decode cX6_leastBid 55 = .ok (.iadd, 1) := by decide +kernel
theorem dX6_leastBid_56 : decode cX6_leastBid 56 = .ok (.iload_n 3, 1) := by decide +kernel
theorem dX6_leastBid_57 : decode cX6_leastBid 57 = .ok (.iastore, 1) := by decide +kernel
theorem dX6_leastBid_58 : decode cX6_leastBid 58 = .ok (.aload_n 0, 1) := by decide +kernel
theorem dX6_leastBid_59 : decode cX6_leastBid 59 = .ok (.invokevirtual 89, 3) := by decide +kernel
theorem dX6_leastBid_62 : decode cX6_leastBid 62 = .ok (.iload_n 1, 1) := by decide +kernel
theorem dX6_leastBid_63 : decode cX6_leastBid 63 = .ok (.if_icmp .ne 7, 3) := by decide +kernel
theorem dX6_leastBid_66 : decode cX6_leastBid 66 = .ok (.iload_n 3, 1) := by decide +kernel
theorem dX6_leastBid_67 : decode cX6_leastBid 67 = .ok (.goto 5, 3) := by decide +kernel
theorem dX6_leastBid_70 : decode cX6_leastBid 70 = .ok (.ldc 49, 2) := by decide +kernel
theorem dX6_leastBid_72 : decode cX6_leastBid 72 = .ok (.istore_n 2, 1) := by decide +kernel
theorem dX6_leastBid_73 : decode cX6_leastBid 73 = .ok (.aload_n 0, 1) := by decide +kernel
theorem dX6_leastBid_74 : decode cX6_leastBid 74 = .ok (.invokevirtual 164, 3) := by decide +kernel
theorem dX6_leastBid_77 : decode cX6_leastBid 77 = .ok (.iinc 3 1, 3) := by decide +kernel
theorem dX6_leastBid_80 : decode cX6_leastBid 80 = .ok (.goto (-45), 3) := by decide +kernel
theorem dX6_leastBid_83 : decode cX6_leastBid 83 = .ok (.iload_n 2, 1) := by decide +kernel
theorem dX6_leastBid_84 : decode cX6_leastBid 84 = .ok (.ireturn, 1) := by decide +kernel
set_option maxRecDepth 20000 in
theorem ggX6_pillar_X6_putAside : GoodIn wsX6_pillar wsX6_putAside := goodIn_r _ [9, 10, 3, 49, 50, 51, 52, 53, 54, 55, 56, 57, 58, 59, 60, 61, 62, 63] (by decide +kernel) (by decide +kernel)
set_option maxRecDepth 20000 in
theorem gX6_pillar_X6_putAside : GoodIn wsX6_pillar (wsV RX6 161 RX6 yX6_putAside wsX6_putAside) := goodIn_app (goodIn_of _ (by decide +kernel)) ggX6_pillar_X6_putAside
set_option maxRecDepth 20000 in
theorem ggX6_pillar_X6_goMonth : GoodIn wsX6_pillar wsX6_goMonth := goodIn_r _ [14, 4, 2, 3, 15, 16, 17, 8, 18, 19, 20, 21, 22, 23, 24, 25, 26, 27, 28, 29, 30, 31, 32, 33, 34, 35, 36, 37, 38, 39, 40, 41, 42, 43, 44, 49, 50, 51, 52, 53, 54, 55, 56, 57, 58, 59, 60, 61, 62, 63] (by decide +kernel) (by decide +kernel)
set_option maxRecDepth 20000 in
theorem gX6_pillar_X6_goMonth : GoodIn wsX6_pillar (wsV RX6 89 RX6 yX6_goMonth wsX6_goMonth) := goodIn_app (goodIn_of _ (by decide +kernel)) ggX6_pillar_X6_goMonth
set_option maxRecDepth 20000 in
theorem ggX6_pillar_X6_bringBack : GoodIn wsX6_pillar wsX6_bringBack := goodIn_r _ [48, 3, 10, 49, 50, 51, 52, 53, 54, 55, 56, 57, 58, 59, 60, 61, 62, 63] (by decide +kernel) (by decide +kernel)
set_option maxRecDepth 20000 in
theorem gX6_pillar_X6_bringBack : GoodIn wsX6_pillar (wsV RX6 164 RX6 yX6_bringBack wsX6_bringBack) := goodIn_app (goodIn_of _ (by decide +kernel)) ggX6_pillar_X6_bringBack
theorem dX6_pillar_0 : decode cX6_pillar 0 = .ok (.aload_n 0, 1) := by decide +kernel
theorem dX6_pillar_1 : decode cX6_pillar 1 = .ok (.iconst 0, 1) := by decide +kernel
theorem dX6_pillar_2 : decode cX6_pillar 2 = .ok (.putfield 38, 3) := by decide +kernel
theorem dX6_pillar_5 : decode cX6_pillar 5 = .ok (.ldc 49, 2) := by decide +kernel
theorem dX6_pillar_7 : decode cX6_pillar 7 = .ok (.istore_n 1, 1) := by decide +kernel
theorem dX6_pillar_8 : decode cX6_pillar 8 = .ok (.iconst 0, 1) := by decide +kernel
theorem dX6_pillar_9 : decode cX6_pillar 9 = .ok (.istore_n 2, 1) := by decide +kernel
theorem dX6_pillar_10 : decode cX6_pillar 10 = .ok (.aload_n 0, 1) := by decide +kernel
theorem dX6_pillar_11 : decode cX6_pillar 11 = .ok (.invokevirtual 161, 3) := by decide +kernel
theorem dX6_pillar_14 : decode cX6_pillar 14 = .ok (.iconst 0, 1) := by decide +kernel
theorem dX6_pillar_15 : decode cX6_pillar 15 = .ok (.istore_n 3, 1) := by decide +kernel
theorem dX6_pillar_16 : decode cX6_pillar 16 = .ok (.iload_n 3, 1) := by decide +kernel
theorem dX6_pillar_17 : decode cX6_pillar 17 = .ok (.aload_n 0, 1) := by decide +kernel
theorem dX6_pillar_18 : decode cX6_pillar 18 = .ok (.getfield 7, 3) := by decide +kernel
theorem dX6_pillar_21 : decode cX6_pillar 21 = .ok (.iconst 0, 1) := by decide +kernel
theorem dX6_pillar_22 : decode cX6_pillar 22 = .ok (.iaload, 1) := by decide +kernel
theorem dX6_pillar_23 : decode cX6_pillar 23 = .ok (.if_icmp .ge 62, 3) := by decide +kernel
theorem dX6_pillar_26 : decode cX6_pillar 26 = .ok (.aload_n 0, 1) := by decide +kernel
theorem dX6_pillar_27 : decode cX6_pillar 27 = .ok (.getfield 7, 3) := by decide +kernel
theorem dX6_pillar_30 : decode cX6_pillar 30 = .ok (.bipush 45, 2) := by decide +kernel
theorem dX6_pillar_32 : decode cX6_pillar 32 = .ok (.iload_n 3, 1) := by decide +kernel
theorem dX6_pillar_33 : decode cX6_pillar 33 = .ok (.iadd, 1) := by decide +kernel
theorem dX6_pillar_34 : decode cX6_pillar 34 = .ok (.iaload, 1) := by decide +kernel
theorem dX6_pillar_35 : decode cX6_pillar 35 = .ok (.iconst 1, 1) := by decide +kernel
theorem dX6_pillar_36 : decode cX6_pillar 36 = .ok (.if_icmp .ne 43, 3) := by decide +kernel
theorem dX6_pillar_39 : decode cX6_pillar 39 = .ok (.aload_n 0, 1) := by decide +kernel
theorem dX6_pillar_40 : decode cX6_pillar 40 = .ok (.getfield 7, 3) := by decide +kernel
theorem dX6_pillar_43 : decode cX6_pillar 43 = .ok (.bipush 29, 2) := by decide +kernel
theorem dX6_pillar_45 : decode cX6_pillar 45 = .ok (.iload_n 3, 1) := by decide +kernel
theorem dX6_pillar_46 : decode cX6_pillar 46 = .ok (.iadd, 1) := by decide +kernel
theorem dX6_pillar_47 : decode cX6_pillar 47 = .ok (.iconst 1, 1) := by decide +kernel
theorem dX6_pillar_48 : decode cX6_pillar 48 = .ok (.iastore, 1) := by decide +kernel
theorem dX6_pillar_49 : decode cX6_pillar 49 = .ok (.aload_n 0, 1) := by decide +kernel
theorem dX6_pillar_50 : decode cX6_pillar 50 = .ok (.invokevirtual 89, 3) := by decide +kernel
theorem dX6_pillar_53 : decode cX6_pillar 53 = .ok (.pop, 1) := by decide +kernel
theorem dX6_pillar_54 : decode cX6_pillar 54 = .ok (.aload_n 0, 1) := by decide +kernel
theorem dX6_pillar_55 : decode cX6_pillar 55 = .ok (.invokevirtual 164, 3) := by decide +kernel
theorem dX6_pillar_58 : decode cX6_pillar 58 = .ok (.iload_n 1, 1) := by decide +kernel
theorem dX6_pillar_59 : decode cX6_pillar 59 = .ok (.ldc 49, 2) := by decide +kernel
theorem dX6_pillar_61 : decode cX6_pillar 61 = .ok (.if_icmp .eq 11, 3) := by decide +kernel
theorem dX6_pillar_64 : decode cX6_pillar 64 = .ok (.aload_n 0, 1) := by decide +kernel
theorem dX6_pillar_65 : decode cX6_pillar 65 = .ok (.getfield 65, 3) := by decide +kernel
theorem dX6_pillar_68 : decode cX6_pillar 68 = .ok (.iload_n 2, 1) := by decide +kernel
theorem dX6_pillar_69 : decode cX6_pillar 69 = .ok (.if_icmp .ge 10, 3) := by decide +kernel
theorem dX6_pillar_72 : decode cX6_pillar 72 = .ok (.iload_n 3, 1) := by decide +kernel
theorem dX6_pillar_73 : decode cX6_pillar 73 = .ok (.istore_n 1, 1) := by decide +kernel
theorem dX6_pillar_74 : decode cX6_pillar 74 = .ok (.aload_n 0, 1) := by decide +kernel
theorem dX6_pillar_75 : decode cX6_pillar 75 = .ok (.getfield 65, 3) := by decide +kernel
theorem dX6_pillar_78 : decode cX6_pillar 78 = .ok (.istore_n 2, 1) := by decide +kernel
theorem dX6_pillar_79 : decode cX6_pillar 79 = .ok (.iinc 3 1, 3) := by decide +kernel
theorem dX6_pillar_82 : decode cX6_pillar 82 = .ok (.goto (-66), 3) := by decide +kernel
theorem dX6_pillar_85 : decode cX6_pillar 85 = .ok (.iload_n 1, 1) := by decide +kernel
theorem dX6_pillar_86 : decode cX6_pillar 86 = .ok (.ireturn, 1) := by decide +kernel
set_option maxRecDepth 20000 in
theorem ggX6_when_X6_isMember : GoodIn wsX6_when wsX6_isMember := goodIn_r _ [8, 3, 61, 62, 63, 64, 65, 66, 67, 68, 69, 70, 71, 72, 73, 74, 75] (by decide +kernel) (by decide +kernel)
set_option maxRecDepth 20000 in
theorem gX6_when_X6_isMember : GoodIn wsX6_when (wsV RX6 131 RX6 yX6_isMember wsX6_isMember) := goodIn_app (goodIn_of _ (by decide +kernel)) ggX6_when_X6_isMember
set_option maxRecDepth 20000 in
theorem ggX6_when_X6_putAside : GoodIn wsX6_when wsX6_putAside := goodIn_r _ [12, 13, 3, 61, 62, 63, 64, 65, 66, 67, 68, 69, 70, 71, 72, 73, 74, 75] (by decide +kernel) (by decide +kernel)
set_option maxRecDepth 20000 in
theorem gX6_when_X6_putAside : GoodIn wsX6_when (wsV RX6 161 RX6 yX6_putAside wsX6_putAside) := goodIn_app (goodIn_of _ (by decide +kernel)) ggX6_when_X6_putAside
set_option maxRecDepth 20000 in
theorem ggX6_when_X6_canGo : GoodIn wsX6_when wsX6_canGo := goodIn_r _ [17, 3, 18, 19, 20, 7, 21, 61, 62, 63, 64, 65, 66, 67, 68, 69, 70, 71, 72, 73, 74, 75] (by decide +kernel) (by decide +kernel)
set_option maxRecDepth 20000 in
theorem gX6_when_X6_canGo : GoodIn wsX6_when (wsV RX6 82 RX6 yX6_canGo wsX6_canGo) := goodIn_app (goodIn_of _ (by decide +kernel)) ggX6_when_X6_canGo
set_option maxRecDepth 20000 in
theorem ggX6_when_X6_goMonth : GoodIn wsX6_when wsX6_goMonth := goodIn_r _ [25, 26, 2, 3, 27, 28, 29, 7, 30, 31, 32, 33, 34, 35, 36, 37, 38, 39, 40, 41, 42, 43, 44, 45, 46, 47, 48, 49, 50, 51, 52, 53, 54, 55, 56, 61, 62, 63, 64, 65, 66, 67, 68, 69, 70, 71, 72, 73, 74, 75] (by decide +kernel) (by decide +kernel)
set_option maxRecDepth 20000 in
theorem gX6_when_X6_goMonth : GoodIn wsX6_when (wsV RX6 89 RX6 yX6_goMonth wsX6_goMonth) := goodIn_app (goodIn_of _ (by decide +kernel)) ggX6_when_X6_goMonth
set_option maxRecDepth 20000 in
theorem ggX6_when_X6_bringBack : GoodIn wsX6_when wsX6_bringBack := goodIn_r _ [60, 3, 13, 61, 62, 63, 64, 65, 66, 67, 68, 69, 70, 71, 72, 73, 74, 75] (by decide +kernel) (by decide +kernel)
set_option maxRecDepth 20000 in
theorem gX6_when_X6_bringBack : GoodIn wsX6_when (wsV RX6 164 RX6 yX6_bringBack wsX6_bringBack) := goodIn_app (goodIn_of _ (by decide +kernel)) ggX6_when_X6_bringBack
theorem dX6_when_0 : decode cX6_when 0 = .ok (.aload_n 0, 1) := by decide +kernel
theorem dX6_when_1 : decode cX6_when 1 = .ok (.aload_n 0, 1) := by decide +kernel
theorem dX6_when_2 : decode cX6_when 2 = .ok (.iload_n 1, 1) := by decide +kernel
theorem dX6_when_3 : decode cX6_when 3 = .ok (.invokevirtual 131, 3) := by decide +kernel
theorem dX6_when_6 : decode cX6_when 6 = .ok (.ifCond .eq 7, 3) := by decide +kernel
theorem dX6_when_9 : decode cX6_when 9 = .ok (.iconst 0, 1) := by decide +kernel
theorem dX6_when_10 : decode cX6_when 10 = .ok (.goto 4, 3) := by decide +kernel
theorem dX6_when_13 : decode cX6_when 13 = .ok (.iconst 1, 1) := by decide +kernel
theorem dX6_when_14 : decode cX6_when 14 = .ok (.putfield 38, 3) := by decide +kernel
theorem dX6_when_17 : decode cX6_when 17 = .ok (.aload_n 0, 1) := by decide +kernel
theorem dX6_when_18 : decode cX6_when 18 = .ok (.getfield 38, 3) := by decide +kernel
theorem dX6_when_21 : decode cX6_when 21 = .ok (.ifCond .le 5, 3) := by decide +kernel
theorem dX6_when_24 : decode cX6_when 24 = .ok (.iconst 0, 1) := by decide +kernel
theorem dX6_when_25 : decode cX6_when 25 = .ok (.ireturn, 1) := by decide +kernel
theorem dX6_when_26 : decode cX6_when 26 = .ok (.aload_n 0, 1) := by decide +kernel
theorem dX6_when_27 : decode cX6_when 27 = .ok (.invokevirtual 161, 3) := by decide +kernel
theorem dX6_when_30 : decode cX6_when 30 = .ok (.ldc 49, 2) := by decide +kernel
theorem dX6_when_32 : decode cX6_when 32 = .ok (.istore_n 2, 1) := by decide +kernel
theorem dX6_when_33 : decode cX6_when 33 = .ok (.iconst 0, 1) := by decide +kernel
theorem dX6_when_34 : decode cX6_when 34 = .ok (.istore_n 3, 1) := by decide +kernel
theorem dX6_when_35 : decode cX6_when 35 = .ok (.iload_n 3, 1) := by decide +kernel
theorem dX6_when_36 : decode cX6_when 36 = .ok (.bipush 20, 2) := by decide +kernel
theorem dX6_when_38 : decode cX6_when 38 = .ok (.if_icmp .ge 46, 3) := by decide +kernel
theorem dX6_when_41 : decode cX6_when 41 = .ok (.aload_n 0, 1) := by decide +kernel
theorem dX6_when_42 : decode cX6_when 42 = .ok (.invokevirtual 82, 3) := by decide +kernel
theorem dX6_when_45 : decode cX6_when 45 = .ok (.ifCond .eq 39, 3) := by decide +kernel
theorem dX6_when_48 : decode cX6_when 48 = .ok (.iload_n 2, 1) := by decide +kernel
theorem dX6_when_49 : decode cX6_when 49 = .ok (.ldc 49, 2) := by decide +kernel
theorem dX6_when_51 : decode cX6_when 51 = .ok (.if_icmp .ne 33, 3) := by decide +kernel
theorem dX6_when_54 : decode cX6_when 54 = .ok (.aload_n 0, 1) := by decide +kernel
theorem dX6_when_55 : decode cX6_when 55 = .ok (.getfield 7, 3) := by decide +kernel
theorem dX6_when_58 : decode cX6_when 58 = .ok (.iconst 2, 1) := by decide +kernel
theorem dX6_when_59 : decode cX6_when 59 = .ok (.iaload, 1) := by decide +kernel
theorem dX6_when_60 : decode cX6_when 60 = .ok (.istore 4, 2) := by decide +kernel
theorem dX6_when_62 : decode cX6_when 62 = .ok (.aload_n 0, 1) := by decide +kernel
theorem dX6_when_63 : decode cX6_when 63 = .ok (.invokevirtual 89, 3) := by decide +kernel
theorem dX6_when_66 : decode cX6_when 66 = .ok (.iload_n 1, 1) := by decide +kernel
theorem dX6_when_67 : decode cX6_when 67 = .ok (.if_icmp .ne 8, 3) := by decide +kernel
theorem dX6_when_70 : decode cX6_when 70 = .ok (.iload 4, 2) := by decide +kernel
theorem dX6_when_72 : decode cX6_when 72 = .ok (.goto 5, 3) := by decide +kernel
theorem dX6_when_75 : decode cX6_when 75 = .ok (.ldc 49, 2) := by decide +kernel
theorem dX6_when_77 : decode cX6_when 77 = .ok (.istore_n 2, 1) := by decide +kernel
theorem dX6_when_78 : decode cX6_when 78 = .ok (.iinc 3 1, 3) := by decide +kernel
theorem dX6_when_81 : decode cX6_when 81 = .ok (.goto (-46), 3) := by decide +kernel
theorem dX6_when_84 : decode cX6_when 84 = .ok (.aload_n 0, 1) := by decide +kernel
theorem dX6_when_85 : decode cX6_when 85 = .ok (.invokevirtual 164, 3) := by decide +kernel
theorem dX6_when_88 : decode cX6_when 88 = .ok (.iload_n 2, 1) := by decide +kernel
theorem dX6_when_89 : decode cX6_when 89 = .ok (.ireturn, 1) := by decide +kernel
set_option maxRecDepth 20000 in
theorem ggX6_inTheEnd_X6_isMember : GoodIn wsX6_inTheEnd wsX6_isMember := goodIn_r _ [7, 2, 65, 66, 67, 68, 69, 70, 71, 72, 73, 74, 75, 76, 77, 78, 79] (by decide +kernel) (by decide +kernel)
set_option maxRecDepth 20000 in
theorem gX6_inTheEnd_X6_isMember : GoodIn wsX6_inTheEnd (wsV RX6 131 RX6 yX6_isMember wsX6_isMember) := goodIn_app (goodIn_of _ (by decide +kernel)) ggX6_inTheEnd_X6_isMember
set_option maxRecDepth 20000 in
theorem ggX6_inTheEnd_X6_putAside : GoodIn wsX6_inTheEnd wsX6_putAside := goodIn_r _ [11, 12, 2, 65, 66, 67, 68, 69, 70, 71, 72, 73, 74, 75, 76, 77, 78, 79] (by decide +kernel) (by decide +kernel)
set_option maxRecDepth 20000 in
theorem gX6_inTheEnd_X6_putAside : GoodIn wsX6_inTheEnd (wsV RX6 161 RX6 yX6_putAside wsX6_putAside) := goodIn_app (goodIn_of _ (by decide +kernel)) ggX6_inTheEnd_X6_putAside
set_option maxRecDepth 20000 in
theorem ggX6_inTheEnd_X6_canGo : GoodIn wsX6_inTheEnd wsX6_canGo := goodIn_r _ [16, 2, 17, 18, 19, 6, 20, 65, 66, 67, 68, 69, 70, 71, 72, 73, 74, 75, 76, 77, 78, 79] (by decide +kernel) (by decide +kernel)
set_option maxRecDepth 20000 in
theorem gX6_inTheEnd_X6_canGo : GoodIn wsX6_inTheEnd (wsV RX6 82 RX6 yX6_canGo wsX6_canGo) := goodIn_app (goodIn_of _ (by decide +kernel)) ggX6_inTheEnd_X6_canGo
set_option maxRecDepth 20000 in
theorem ggX6_inTheEnd_X6_waiting : GoodIn wsX6_inTheEnd wsX6_waiting := goodIn_r _ [24, 2, 65, 66, 67, 68, 69, 70, 71, 72, 73, 74, 75, 76, 77, 78, 79] (by decide +kernel) (by decide +kernel)
set_option maxRecDepth 20000 in
theorem gX6_inTheEnd_X6_waiting : GoodIn wsX6_inTheEnd (wsV RX6 128 RX6 yX6_waiting wsX6_waiting) := goodIn_app (goodIn_of _ (by decide +kernel)) ggX6_inTheEnd_X6_waiting
set_option maxRecDepth 20000 in
theorem ggX6_inTheEnd_X6_goMonth : GoodIn wsX6_inTheEnd wsX6_goMonth := goodIn_r _ [28, 29, 30, 2, 31, 32, 33, 6, 34, 35, 36, 37, 38, 39, 40, 41, 42, 43, 44, 45, 46, 47, 48, 49, 50, 51, 52, 53, 54, 55, 56, 57, 58, 59, 60, 65, 66, 67, 68, 69, 70, 71, 72, 73, 74, 75, 76, 77, 78, 79] (by decide +kernel) (by decide +kernel)
set_option maxRecDepth 20000 in
theorem gX6_inTheEnd_X6_goMonth : GoodIn wsX6_inTheEnd (wsV RX6 89 RX6 yX6_goMonth wsX6_goMonth) := goodIn_app (goodIn_of _ (by decide +kernel)) ggX6_inTheEnd_X6_goMonth
set_option maxRecDepth 20000 in
theorem ggX6_inTheEnd_X6_bringBack : GoodIn wsX6_inTheEnd wsX6_bringBack := goodIn_r _ [64, 2, 12, 65, 66, 67, 68, 69, 70, 71, 72, 73, 74, 75, 76, 77, 78, 79] (by decide +kernel) (by decide +kernel)
set_option maxRecDepth 20000 in
theorem gX6_inTheEnd_X6_bringBack : GoodIn wsX6_inTheEnd (wsV RX6 164 RX6 yX6_bringBack wsX6_bringBack) := goodIn_app (goodIn_of _ (by decide +kernel)) ggX6_inTheEnd_X6_bringBack
theorem dX6_inTheEnd_0 : decode cX6_inTheEnd 0 = .ok (.aload_n 0, 1) := by decide +kernel
theorem dX6_inTheEnd_1 : decode cX6_inTheEnd 1 = .ok (.aload_n 0, 1) := by decide +kernel
theorem dX6_inTheEnd_2 : decode cX6_inTheEnd 2 = .ok (.iload_n 1, 1) := by decide +kernel
theorem dX6_inTheEnd_3 : decode cX6_inTheEnd 3 = .ok (.invokevirtual 131, 3) := by decide +kernel
theorem dX6_inTheEnd_6 : decode cX6_inTheEnd 6 = .ok (.ifCond .eq 7, 3) := by decide +kernel
theorem dX6_inTheEnd_9 : decode cX6_inTheEnd 9 = .ok (.iconst 0, 1) := by decide +kernel
theorem dX6_inTheEnd_10 : decode cX6_inTheEnd 10 = .ok (.goto 4, 3) := by decide +kernel
theorem dX6_inTheEnd_13 : decode cX6_inTheEnd 13 = .ok (.iconst 1, 1) := by decide +kernel
theorem dX6_inTheEnd_14 : decode cX6_inTheEnd 14 = .ok (.putfield 38, 3) := by decide +kernel
theorem dX6_inTheEnd_17 : decode cX6_inTheEnd 17 = .ok (.aload_n 0, 1) := by decide +kernel
theorem dX6_inTheEnd_18 : decode cX6_inTheEnd 18 = .ok (.getfield 38, 3) := by decide +kernel
theorem dX6_inTheEnd_21 : decode cX6_inTheEnd 21 = .ok (.ifCond .le 5, 3) := by decide +kernel
theorem dX6_inTheEnd_24 : decode cX6_inTheEnd 24 = .ok (.iconst 0, 1) := by decide +kernel
theorem dX6_inTheEnd_25 : decode cX6_inTheEnd 25 = .ok (.ireturn, 1) := by decide +kernel
theorem dX6_inTheEnd_26 : decode cX6_inTheEnd 26 = .ok (.aload_n 0, 1) := by decide +kernel
theorem dX6_inTheEnd_27 : decode cX6_inTheEnd 27 = .ok (.invokevirtual 161, 3) := by decide +kernel
theorem dX6_inTheEnd_30 : decode cX6_inTheEnd 30 = .ok (.iconst 0, 1) := by decide +kernel
theorem dX6_inTheEnd_31 : decode cX6_inTheEnd 31 = .ok (.istore_n 2, 1) := by decide +kernel
theorem dX6_inTheEnd_32 : decode cX6_inTheEnd 32 = .ok (.iload_n 2, 1) := by decide +kernel
theorem dX6_inTheEnd_33 : decode cX6_inTheEnd 33 = .ok (.bipush 20, 2) := by decide +kernel
theorem dX6_inTheEnd_35 : decode cX6_inTheEnd 35 = .ok (.if_icmp .ge 28, 3) := by decide +kernel
theorem dX6_inTheEnd_38 : decode cX6_inTheEnd 38 = .ok (.aload_n 0, 1) := by decide +kernel
theorem dX6_inTheEnd_39 : decode cX6_inTheEnd 39 = .ok (.invokevirtual 82, 3) := by decide +kernel
theorem dX6_inTheEnd_42 : decode cX6_inTheEnd 42 = .ok (.ifCond .eq 21, 3) := by decide +kernel
theorem dX6_inTheEnd_45 : decode cX6_inTheEnd 45 = .ok (.aload_n 0, 1) := by decide +kernel
theorem dX6_inTheEnd_46 : decode cX6_inTheEnd 46 = .ok (.invokevirtual 128, 3) := by decide +kernel
theorem dX6_inTheEnd_49 : decode cX6_inTheEnd 49 = .ok (.ifCond .le 14, 3) := by decide +kernel
theorem dX6_inTheEnd_52 : decode cX6_inTheEnd 52 = .ok (.aload_n 0, 1) := by decide +kernel
theorem dX6_inTheEnd_53 : decode cX6_inTheEnd 53 = .ok (.invokevirtual 89, 3) := by decide +kernel
theorem dX6_inTheEnd_56 : decode cX6_inTheEnd 56 = .ok (.pop, 1) := by decide +kernel
theorem dX6_inTheEnd_57 : decode cX6_inTheEnd 57 = .ok (.iinc 2 1, 3) := by decide +kernel
theorem dX6_inTheEnd_60 : decode cX6_inTheEnd 60 = .ok (.goto (-28), 3) := by decide +kernel
theorem dX6_inTheEnd_63 : decode cX6_inTheEnd 63 = .ok (.aload_n 0, 1) := by decide +kernel
theorem dX6_inTheEnd_64 : decode cX6_inTheEnd 64 = .ok (.getfield 7, 3) := by decide +kernel
theorem dX6_inTheEnd_67 : decode cX6_inTheEnd 67 = .ok (.iconst 5, 1) := by decide +kernel
theorem dX6_inTheEnd_68 : decode cX6_inTheEnd 68 = .ok (.iload_n 1, 1) := by decide +kernel
theorem dX6_inTheEnd_69 : decode cX6_inTheEnd 69 = .ok (.iadd, 1) := by decide +kernel
theorem dX6_inTheEnd_70 : decode cX6_inTheEnd 70 = .ok (.iaload, 1) := by decide +kernel
theorem dX6_inTheEnd_71 : decode cX6_inTheEnd 71 = .ok (.istore_n 2, 1) := by decide +kernel
theorem dX6_inTheEnd_72 : decode cX6_inTheEnd 72 = .ok (.aload_n 0, 1) := by decide +kernel
theorem dX6_inTheEnd_73 : decode cX6_inTheEnd 73 = .ok (.invokevirtual 164, 3) := by decide +kernel
theorem dX6_inTheEnd_76 : decode cX6_inTheEnd 76 = .ok (.iload_n 2, 1) := by decide +kernel
theorem dX6_inTheEnd_77 : decode cX6_inTheEnd 77 = .ok (.ireturn, 1) := by decide +kernel
set_option maxRecDepth 20000 in
theorem ggX6_goMonths_X6_canGo : GoodIn wsX6_goMonths wsX6_canGo := goodIn_r _ [5, 6, 7, 8, 9, 4, 10, 47, 48, 49, 50, 51, 52, 53, 54, 55, 56, 57, 58, 59, 60, 61] (by decide +kernel) (by decide +kernel)
set_option maxRecDepth 20000 in
theorem gX6_goMonths_X6_canGo : GoodIn wsX6_goMonths (wsV RX6 82 RX6 yX6_canGo wsX6_canGo) := goodIn_app (goodIn_of _ (by decide +kernel)) ggX6_goMonths_X6_canGo
set_option maxRecDepth 20000 in
theorem ggX6_goMonths_X6_goMonth : GoodIn wsX6_goMonths wsX6_goMonth := goodIn_r _ [14, 15, 16, 6, 17, 18, 19, 4, 20, 21, 22, 23, 24, 25, 26, 27, 28, 29, 30, 31, 32, 33, 34, 35, 36, 37, 38, 39, 40, 41, 42, 43, 44, 45, 46, 47, 48, 49, 50, 51, 52, 53, 54, 55, 56, 57, 58, 59, 60, 61] (by decide +kernel) (by decide +kernel)
set_option maxRecDepth 20000 in
theorem gX6_goMonths_X6_goMonth : GoodIn wsX6_goMonths (wsV RX6 89 RX6 yX6_goMonth wsX6_goMonth) := goodIn_app (goodIn_of _ (by decide +kernel)) ggX6_goMonths_X6_goMonth
theorem dX6_goMonths_0 : decode cX6_goMonths 0 = .ok (.iload_n 1, 1) := by decide +kernel
theorem dX6_goMonths_1 : decode cX6_goMonths 1 = .ok (.ifCond .le 7, 3) := by decide +kernel
theorem dX6_goMonths_4 : decode cX6_goMonths 4 = .ok (.iconst 1, 1) := by decide +kernel
theorem dX6_goMonths_5 : decode cX6_goMonths 5 = .ok (.goto 4, 3) := by decide +kernel
theorem dX6_goMonths_8 : decode cX6_goMonths 8 = .ok (.iconst 0, 1) := by decide +kernel
theorem dX6_goMonths_9 : decode cX6_goMonths 9 = .ok (.istore_n 2, 1) := by decide +kernel
theorem dX6_goMonths_10 : decode cX6_goMonths 10 = .ok (.iconst 0, 1) := by decide +kernel
theorem dX6_goMonths_11 : decode cX6_goMonths 11 = .ok (.istore_n 3, 1) := by decide +kernel
theorem dX6_goMonths_12 : decode cX6_goMonths 12 = .ok (.iload_n 3, 1) := by decide +kernel
theorem dX6_goMonths_13 : decode cX6_goMonths 13 = .ok (.iload_n 1, 1) := by decide +kernel
theorem dX6_goMonths_14 : decode cX6_goMonths 14 = .ok (.if_icmp .ge 27, 3) := by decide +kernel
theorem dX6_goMonths_17 : decode cX6_goMonths 17 = .ok (.iload_n 2, 1) := by decide +kernel
theorem dX6_goMonths_18 : decode cX6_goMonths 18 = .ok (.ifCond .eq 23, 3) := by decide +kernel
theorem dX6_goMonths_21 : decode cX6_goMonths 21 = .ok (.aload_n 0, 1) := by decide +kernel
theorem dX6_goMonths_22 : decode cX6_goMonths 22 = .ok (.invokevirtual 82, 3) := by decide +kernel
theorem dX6_goMonths_25 : decode cX6_goMonths 25 = .ok (.istore_n 2, 1) := by decide +kernel
theorem dX6_goMonths_26 : decode cX6_goMonths 26 = .ok (.iload_n 2, 1) := by decide +kernel
theorem dX6_goMonths_27 : decode cX6_goMonths 27 = .ok (.ifCond .eq 8, 3) := by decide +kernel
theorem dX6_goMonths_30 : decode cX6_goMonths 30 = .ok (.aload_n 0, 1) := by decide +kernel
theorem dX6_goMonths_31 : decode cX6_goMonths 31 = .ok (.invokevirtual 89, 3) := by decide +kernel
theorem dX6_goMonths_34 : decode cX6_goMonths 34 = .ok (.pop, 1) := by decide +kernel
theorem dX6_goMonths_35 : decode cX6_goMonths 35 = .ok (.iinc 3 1, 3) := by decide +kernel
theorem dX6_goMonths_38 : decode cX6_goMonths 38 = .ok (.goto (-26), 3) := by decide +kernel
theorem dX6_goMonths_41 : decode cX6_goMonths 41 = .ok (.iload_n 2, 1) := by decide +kernel
theorem dX6_goMonths_42 : decode cX6_goMonths 42 = .ok (.ireturn, 1) := by decide +kernel
set_option maxRecDepth 20000 in
theorem ggX6_changes_X6_goMonths : GoodIn wsX6_changes wsX6_goMonths := goodIn_r _ [6, 7, 8, 9, 5, 10, 1, 11, 12, 13, 14, 15, 16, 17, 18, 19, 20, 21, 22, 23, 24, 25, 26, 27, 28, 29, 30, 31, 32, 33, 34, 35, 36, 37, 38, 39, 40, 41, 42, 43, 44, 45, 46, 47, 48, 49, 50, 90, 91, 92, 93, 94, 95, 96, 97, 98, 99, 100, 101, 102, 103, 104] (by decide +kernel) (by decide +kernel)
set_option maxRecDepth 20000 in
theorem gX6_changes_X6_goMonths : GoodIn wsX6_changes (wsV RX6 167 RX6 yX6_goMonths wsX6_goMonths) := goodIn_app (goodIn_of _ (by decide +kernel)) ggX6_changes_X6_goMonths
set_option maxRecDepth 20000 in
theorem ggX6_changes_X6_whyNotBid : GoodIn wsX6_changes wsX6_whyNotBid := goodIn_r _ [54, 1, 55, 56, 57, 5, 58, 59, 60, 61, 90, 91, 92, 93, 94, 95, 96, 97, 98, 99, 100, 101, 102, 103, 104] (by decide +kernel) (by decide +kernel)
set_option maxRecDepth 20000 in
theorem gX6_changes_X6_whyNotBid : GoodIn wsX6_changes (wsV RX6 143 RX6 yX6_whyNotBid wsX6_whyNotBid) := goodIn_app (goodIn_of _ (by decide +kernel)) ggX6_changes_X6_whyNotBid
set_option maxRecDepth 20000 in
theorem ggX6_changes_X6_whyNotTwo : GoodIn wsX6_changes wsX6_whyNotTwo := goodIn_r _ [65, 55, 56, 57, 5, 58, 1, 90, 91, 92, 93, 94, 95, 96, 97, 98, 99, 100, 101, 102, 103, 104] (by decide +kernel) (by decide +kernel)
set_option maxRecDepth 20000 in
theorem gX6_changes_X6_whyNotTwo : GoodIn wsX6_changes (wsV RX6 134 RX6 yX6_whyNotTwo wsX6_whyNotTwo) := goodIn_app (goodIn_of _ (by decide +kernel)) ggX6_changes_X6_whyNotTwo
set_option maxRecDepth 20000 in
theorem ggX6_changes_X6_isMember : GoodIn wsX6_changes wsX6_isMember := goodIn_r _ [58, 1, 90, 91, 92, 93, 94, 95, 96, 97, 98, 99, 100, 101, 102, 103, 104] (by decide +kernel) (by decide +kernel)
set_option maxRecDepth 20000 in
theorem gX6_changes_X6_isMember : GoodIn wsX6_changes (wsV RX6 131 RX6 yX6_isMember wsX6_isMember) := goodIn_app (goodIn_of _ (by decide +kernel)) ggX6_changes_X6_isMember
set_option maxRecDepth 20000 in
theorem ggX6_changes_X6_whyNotGive : GoodIn wsX6_changes wsX6_whyNotGive := goodIn_r _ [69, 1, 55, 56, 57, 5, 58, 59, 60, 61, 90, 91, 92, 93, 94, 95, 96, 97, 98, 99, 100, 101, 102, 103, 104] (by decide +kernel) (by decide +kernel)
set_option maxRecDepth 20000 in
theorem gX6_changes_X6_whyNotGive : GoodIn wsX6_changes (wsV RX6 146 RX6 yX6_whyNotGive wsX6_whyNotGive) := goodIn_app (goodIn_of _ (by decide +kernel)) ggX6_changes_X6_whyNotGive
set_option maxRecDepth 20000 in
theorem ggX6_changes_X6_putInto : GoodIn wsX6_changes wsX6_putInto := goodIn_r _ [73, 1, 90, 91, 92, 93, 94, 95, 96, 97, 98, 99, 100, 101, 102, 103, 104] (by decide +kernel) (by decide +kernel)
set_option maxRecDepth 20000 in
theorem gX6_changes_X6_putInto : GoodIn wsX6_changes (wsV RX6 149 RX6 yX6_putInto wsX6_putInto) := goodIn_app (goodIn_of _ (by decide +kernel)) ggX6_changes_X6_putInto
set_option maxRecDepth 20000 in
theorem ggX6_changes_X6_whyNotLeave : GoodIn wsX6_changes wsX6_whyNotLeave := goodIn_r _ [77, 1, 55, 56, 57, 5, 58, 78, 79, 80, 81, 82, 83, 84, 85, 90, 91, 92, 93, 94, 95, 96, 97, 98, 99, 100, 101, 102, 103, 104] (by decide +kernel) (by decide +kernel)
set_option maxRecDepth 20000 in
theorem gX6_changes_X6_whyNotLeave : GoodIn wsX6_changes (wsV RX6 155 RX6 yX6_whyNotLeave wsX6_whyNotLeave) := goodIn_app (goodIn_of _ (by decide +kernel)) ggX6_changes_X6_whyNotLeave
set_option maxRecDepth 20000 in
theorem ggX6_changes_X6_goAway : GoodIn wsX6_changes wsX6_goAway := goodIn_r _ [89, 1, 78, 79, 80, 5, 81, 82, 83, 84, 85, 90, 91, 92, 93, 94, 95, 96, 97, 98, 99, 100, 101, 102, 103, 104] (by decide +kernel) (by decide +kernel)
set_option maxRecDepth 20000 in
theorem gX6_changes_X6_goAway : GoodIn wsX6_changes (wsV RX6 158 RX6 yX6_goAway wsX6_goAway) := goodIn_app (goodIn_of _ (by decide +kernel)) ggX6_changes_X6_goAway
theorem dX6_changes_0 : decode cX6_changes 0 = .ok (.iload_n 1, 1) := by decide +kernel
theorem dX6_changes_1 : decode cX6_changes 1 = .ok (.tableswitch 173 1 5 #[35, 61, 86, 117, 152], 35) := by decide +kernel
theorem dX6_changes_36 : decode cX6_changes 36 = .ok (.iload_n 2, 1) := by decide +kernel
theorem dX6_changes_37 : decode cX6_changes 37 = .ok (.ifCond .ne 23, 3) := by decide +kernel
theorem dX6_changes_40 : decode cX6_changes 40 = .ok (.iload 4, 2) := by decide +kernel
theorem dX6_changes_42 : decode cX6_changes 42 = .ok (.bipush 10, 2) := by decide +kernel
theorem dX6_changes_44 : decode cX6_changes 44 = .ok (.if_icmp .ge 16, 3) := by decide +kernel
theorem dX6_changes_47 : decode cX6_changes 47 = .ok (.aload_n 0, 1) := by decide +kernel
theorem dX6_changes_48 : decode cX6_changes 48 = .ok (.iload 4, 2) := by decide +kernel
theorem dX6_changes_50 : decode cX6_changes 50 = .ok (.invokevirtual 167, 3) := by decide +kernel
theorem dX6_changes_53 : decode cX6_changes 53 = .ok (.ifCond .eq 7, 3) := by decide +kernel
theorem dX6_changes_56 : decode cX6_changes 56 = .ok (.iconst 1, 1) := by decide +kernel
theorem dX6_changes_57 : decode cX6_changes 57 = .ok (.goto 4, 3) := by decide +kernel
theorem dX6_changes_60 : decode cX6_changes 60 = .ok (.iconst 0, 1) := by decide +kernel
theorem dX6_changes_61 : decode cX6_changes 61 = .ok (.ireturn, 1) := by decide +kernel
theorem dX6_changes_62 : decode cX6_changes 62 = .ok (.aload_n 0, 1) := by decide +kernel
theorem dX6_changes_63 : decode cX6_changes 63 = .ok (.iload_n 2, 1) := by decide +kernel
theorem dX6_changes_64 : decode cX6_changes 64 = .ok (.iload 4, 2) := by decide +kernel
theorem dX6_changes_66 : decode cX6_changes 66 = .ok (.invokevirtual 143, 3) := by decide +kernel
theorem dX6_changes_69 : decode cX6_changes 69 = .ok (.ifCond .le 5, 3) := by decide +kernel
theorem dX6_changes_72 : decode cX6_changes 72 = .ok (.iconst 0, 1) := by decide +kernel
theorem dX6_changes_73 : decode cX6_changes 73 = .ok (.ireturn, 1) := by decide +kernel
theorem dX6_changes_74 : decode cX6_changes 74 = .ok (.aload_n 0, 1) := by decide +kernel
theorem dX6_changes_75 : decode cX6_changes 75 = .ok (.getfield 7, 3) := by decide +kernel
theorem dX6_changes_78 : decode cX6_changes 78 = .ok (.bipush 21, 2) := by decide +kernel
theorem dX6_changes_80 : decode cX6_changes 80 = .ok (.iload_n 2, 1) := by decide +kernel
theorem dX6_changes_81 : decode cX6_changes 81 = .ok (.iadd, 1) := by decide +kernel
theorem dX6_changes_82 : decode cX6_changes 82 = .ok (.iload 4, 2) := by decide +kernel
theorem dX6_changes_84 : decode cX6_changes 84 = .ok (.iastore, 1) := by decide +kernel
theorem dX6_changes_85 : decode cX6_changes 85 = .ok (.iconst 1, 1) := by decide +kernel
theorem dX6_changes_86 : decode cX6_changes 86 = .ok (.ireturn, 1) := by decide +kernel
theorem dX6_changes_87 : decode cX6_changes 87 = .ok (.iload 4, 2) := by decide +kernel
theorem dX6_changes_89 : decode cX6_changes 89 = .ok (.bipush 100, 2) := by decide +kernel
theorem dX6_changes_91 : decode cX6_changes 91 = .ok (.irem, 1) := by decide +kernel
theorem dX6_changes_92 : decode cX6_changes 92 = .ok (.ifCond .gt 12, 3) := by decide +kernel
theorem dX6_changes_95 : decode cX6_changes 95 = .ok (.aload_n 0, 1) := by decide +kernel
theorem dX6_changes_96 : decode cX6_changes 96 = .ok (.iload_n 2, 1) := by decide +kernel
theorem dX6_changes_97 : decode cX6_changes 97 = .ok (.iload_n 3, 1) := by decide +kernel
theorem dX6_changes_98 : decode cX6_changes 98 = .ok (.invokevirtual 134, 3) := by decide +kernel
theorem dX6_changes_101 : decode cX6_changes 101 = .ok (.ifCond .le 5, 3) := by decide +kernel
theorem dX6_changes_104 : decode cX6_changes 104 = .ok (.iconst 0, 1) := by decide +kernel
theorem dX6_changes_105 : decode cX6_changes 105 = .ok (.ireturn, 1) := by decide +kernel
theorem dX6_changes_106 : decode cX6_changes 106 = .ok (.aload_n 0, 1) := by decide +kernel
theorem dX6_changes_107 : decode cX6_changes 107 = .ok (.getfield 7, 3) := by decide +kernel
theorem dX6_changes_110 : decode cX6_changes 110 = .ok (.bipush 13, 2) := by decide +kernel
theorem dX6_changes_112 : decode cX6_changes 112 = .ok (.iload_n 2, 1) := by decide +kernel
theorem dX6_changes_113 : decode cX6_changes 113 = .ok (.iadd, 1) := by decide +kernel
theorem dX6_changes_114 : decode cX6_changes 114 = .ok (.iload_n 3, 1) := by decide +kernel
theorem dX6_changes_115 : decode cX6_changes 115 = .ok (.iastore, 1) := by decide +kernel
theorem dX6_changes_116 : decode cX6_changes 116 = .ok (.iconst 1, 1) := by decide +kernel
theorem dX6_changes_117 : decode cX6_changes 117 = .ok (.ireturn, 1) := by decide +kernel
theorem dX6_changes_118 : decode cX6_changes 118 = .ok (.iload 4, 2) := by decide +kernel
theorem dX6_changes_120 : decode cX6_changes 120 = .ok (.bipush 100, 2) := by decide +kernel
theorem dX6_changes_122 : decode cX6_changes 122 = .ok (.irem, 1) := by decide +kernel
theorem dX6_changes_123 : decode cX6_changes 123 = .ok (.ifCond .gt 16, 3) := by decide +kernel
theorem dX6_changes_126 : decode cX6_changes 126 = .ok (.iload_n 3, 1) := by decide +kernel
theorem dX6_changes_127 : decode cX6_changes 127 = .ok (.iconst 1, 1) := by decide +kernel
theorem dX6_changes_128 : decode cX6_changes 128 = .ok (.if_icmp .gt 11, 3) := by decide +kernel
theorem dX6_changes_131 : decode cX6_changes 131 = .ok (.aload_n 0, 1) := by decide +kernel
theorem dX6_changes_132 : decode cX6_changes 132 = .ok (.iload_n 2, 1) := by decide +kernel
theorem dX6_changes_133 : decode cX6_changes 133 = .ok (.invokevirtual 131, 3) := by decide +kernel
theorem dX6_changes_136 : decode cX6_changes 136 = .ok (.ifCond .ne 5, 3) := by decide +kernel
theorem dX6_changes_139 : decode cX6_changes 139 = .ok (.iconst 0, 1) := by decide +kernel
theorem dX6_changes_140 : decode cX6_changes 140 = .ok (.ireturn, 1) := by decide +kernel
theorem dX6_changes_141 : decode cX6_changes 141 = .ok (.aload_n 0, 1) := by decide +kernel
theorem dX6_changes_142 : decode cX6_changes 142 = .ok (.getfield 7, 3) := by decide +kernel
theorem dX6_changes_145 : decode cX6_changes 145 = .ok (.bipush 29, 2) := by decide +kernel
theorem dX6_changes_147 : decode cX6_changes 147 = .ok (.iload_n 2, 1) := by decide +kernel
theorem dX6_changes_148 : decode cX6_changes 148 = .ok (.iadd, 1) := by decide +kernel
theorem dX6_changes_149 : decode cX6_changes 149 = .ok (.iload_n 3, 1) := by decide +kernel
theorem dX6_changes_150 : decode cX6_changes 150 = .ok (.iastore, 1) := by decide +kernel
theorem dX6_changes_151 : decode cX6_changes 151 = .ok (.iconst 1, 1) := by decide +kernel
theorem dX6_changes_152 : decode cX6_changes 152 = .ok (.ireturn, 1) := by decide +kernel
theorem dX6_changes_153 : decode cX6_changes 153 = .ok (.aload_n 0, 1) := by decide +kernel
theorem dX6_changes_154 : decode cX6_changes 154 = .ok (.iload_n 2, 1) := by decide +kernel
theorem dX6_changes_155 : decode cX6_changes 155 = .ok (.iload 4, 2) := by decide +kernel
theorem dX6_changes_157 : decode cX6_changes 157 = .ok (.invokevirtual 146, 3) := by decide +kernel
theorem dX6_changes_160 : decode cX6_changes 160 = .ok (.ifCond .le 5, 3) := by decide +kernel
theorem dX6_changes_163 : decode cX6_changes 163 = .ok (.iconst 0, 1) := by decide +kernel
theorem dX6_changes_164 : decode cX6_changes 164 = .ok (.ireturn, 1) := by decide +kernel
theorem dX6_changes_165 : decode cX6_changes 165 = .ok (.aload_n 0, 1) := by decide +kernel
theorem dX6_changes_166 : decode cX6_changes 166 = .ok (.iload_n 2, 1) := by decide +kernel
theorem dX6_changes_167 : decode cX6_changes 167 = .ok (.iload 4, 2) := by decide +kernel
theorem dX6_changes_169 : decode cX6_changes 169 = .ok (.invokevirtual 149, 3) := by decide +kernel
theorem dX6_changes_172 : decode cX6_changes 172 = .ok (.iconst 1, 1) := by decide +kernel
theorem dX6_changes_173 : decode cX6_changes 173 = .ok (.ireturn, 1) := by decide +kernel
theorem dX6_changes_174 : decode cX6_changes 174 = .ok (.iload 4, 2) := by decide +kernel
theorem dX6_changes_176 : decode cX6_changes 176 = .ok (.ifCond .gt 11, 3) := by decide +kernel
theorem dX6_changes_179 : decode cX6_changes 179 = .ok (.aload_n 0, 1) := by decide +kernel
theorem dX6_changes_180 : decode cX6_changes 180 = .ok (.iload_n 2, 1) := by decide +kernel
theorem dX6_changes_181 : decode cX6_changes 181 = .ok (.invokevirtual 155, 3) := by decide +kernel
theorem dX6_changes_184 : decode cX6_changes 184 = .ok (.ifCond .le 5, 3) := by decide +kernel
theorem dX6_changes_187 : decode cX6_changes 187 = .ok (.iconst 0, 1) := by decide +kernel
theorem dX6_changes_188 : decode cX6_changes 188 = .ok (.ireturn, 1) := by decide +kernel
theorem dX6_changes_189 : decode cX6_changes 189 = .ok (.aload_n 0, 1) := by decide +kernel
theorem dX6_changes_190 : decode cX6_changes 190 = .ok (.iload_n 2, 1) := by decide +kernel
theorem dX6_changes_191 : decode cX6_changes 191 = .ok (.invokevirtual 158, 3) := by decide +kernel
theorem dX6_changes_194 : decode cX6_changes 194 = .ok (.pop, 1) := by decide +kernel
theorem dX6_changes_195 : decode cX6_changes 195 = .ok (.iconst 1, 1) := by decide +kernel
theorem dX6_changes_196 : decode cX6_changes 196 = .ok (.ireturn, 1) := by decide +kernel
set_option maxRecDepth 20000 in
theorem ggX6_succeeds_X6_changes : GoodIn wsX6_succeeds wsX6_changes := goodIn_r _ [6, 1, 7, 8, 9, 5, 10, 11, 12, 13, 14, 15, 16, 17, 18, 19, 20, 21, 22, 23, 24, 25, 26, 27, 28, 29, 30, 31, 32, 33, 34, 35, 36, 37, 38, 39, 40, 41, 42, 43, 44, 45, 46, 47, 48, 49, 50, 51, 52, 53, 54, 55, 56, 57, 58, 59, 60, 61, 62, 63, 64, 65, 66, 67, 68, 69, 70, 71, 72, 73, 74, 75, 76, 77, 78, 79, 80, 81, 82, 83, 84, 85, 86, 87, 88, 89, 90, 91, 92, 93, 94, 95, 96, 97, 98, 99, 100, 101, 102, 103, 104, 105, 106, 107, 108] (by decide +kernel) (by decide +kernel)
set_option maxRecDepth 20000 in
theorem gX6_succeeds_X6_changes : GoodIn wsX6_succeeds (wsV RX6 170 RX6 yX6_changes wsX6_changes) := goodIn_app (goodIn_of _ (by decide +kernel)) ggX6_succeeds_X6_changes
set_option maxRecDepth 20000 in
theorem ggX6_succeeds_X6_isMember : GoodIn wsX6_succeeds wsX6_isMember := goodIn_r _ [62, 1, 94, 95, 96, 97, 98, 99, 100, 101, 102, 103, 104, 105, 106, 107, 108] (by decide +kernel) (by decide +kernel)
set_option maxRecDepth 20000 in
theorem gX6_succeeds_X6_isMember : GoodIn wsX6_succeeds (wsV RX6 131 RX6 yX6_isMember wsX6_isMember) := goodIn_app (goodIn_of _ (by decide +kernel)) ggX6_succeeds_X6_isMember
theorem dX6_succeeds_0 : decode cX6_succeeds 0 = .ok (.iload_n 1, 1) := by decide +kernel
theorem dX6_succeeds_1 : decode cX6_succeeds 1 = .ok (.sipush 10000, 3) := by decide +kernel
theorem dX6_succeeds_4 : decode cX6_succeeds 4 = .ok (.idiv, 1) := by decide +kernel
theorem dX6_succeeds_5 : decode cX6_succeeds 5 = .ok (.istore_n 2, 1) := by decide +kernel
theorem dX6_succeeds_6 : decode cX6_succeeds 6 = .ok (.iload_n 1, 1) := by decide +kernel
theorem dX6_succeeds_7 : decode cX6_succeeds 7 = .ok (.sipush 1000, 3) := by decide +kernel
theorem dX6_succeeds_10 : decode cX6_succeeds 10 = .ok (.idiv, 1) := by decide +kernel
theorem dX6_succeeds_11 : decode cX6_succeeds 11 = .ok (.bipush 10, 2) := by decide +kernel
theorem dX6_succeeds_13 : decode cX6_succeeds 13 = .ok (.irem, 1) := by decide +kernel
theorem dX6_succeeds_14 : decode cX6_succeeds 14 = .ok (.istore_n 3, 1) := by decide +kernel
theorem dX6_succeeds_15 : decode cX6_succeeds 15 = .ok (.iload_n 1, 1) := by decide +kernel
theorem dX6_succeeds_16 : decode cX6_succeeds 16 = .ok (.bipush 100, 2) := by decide +kernel
theorem dX6_succeeds_18 : decode cX6_succeeds 18 = .ok (.idiv, 1) := by decide +kernel
theorem dX6_succeeds_19 : decode cX6_succeeds 19 = .ok (.bipush 10, 2) := by decide +kernel
theorem dX6_succeeds_21 : decode cX6_succeeds 21 = .ok (.irem, 1) := by decide +kernel
theorem dX6_succeeds_22 : decode cX6_succeeds 22 = .ok (.istore 4, 2) := by decide +kernel
theorem dX6_succeeds_24 : decode cX6_succeeds 24 = .ok (.iload_n 1, 1) := by decide +kernel
theorem dX6_succeeds_25 : decode cX6_succeeds 25 = .ok (.sipush 1000, 3) := by decide +kernel
theorem dX6_succeeds_28 : decode cX6_succeeds 28 = .ok (.irem, 1) := by decide +kernel
theorem dX6_succeeds_29 : decode cX6_succeeds 29 = .ok (.istore 5, 2) := by decide +kernel
theorem dX6_succeeds_31 : decode cX6_succeeds 31 = .ok (.iload_n 2, 1) := by decide +kernel
theorem dX6_succeeds_32 : decode cX6_succeeds 32 = .ok (.ifCond .ne 5, 3) := by decide +kernel
theorem dX6_succeeds_35 : decode cX6_succeeds 35 = .ok (.iconst 0, 1) := by decide +kernel
theorem dX6_succeeds_36 : decode cX6_succeeds 36 = .ok (.ireturn, 1) := by decide +kernel
theorem dX6_succeeds_37 : decode cX6_succeeds 37 = .ok (.iload_n 2, 1) := by decide +kernel
theorem dX6_succeeds_38 : decode cX6_succeeds 38 = .ok (.bipush 7, 2) := by decide +kernel
theorem dX6_succeeds_40 : decode cX6_succeeds 40 = .ok (.if_icmp .ge 14, 3) := by decide +kernel
theorem dX6_succeeds_43 : decode cX6_succeeds 43 = .ok (.aload_n 0, 1) := by decide +kernel
theorem dX6_succeeds_44 : decode cX6_succeeds 44 = .ok (.iload_n 2, 1) := by decide +kernel
theorem dX6_succeeds_45 : decode cX6_succeeds 45 = .ok (.iload_n 3, 1) := by decide +kernel
theorem dX6_succeeds_46 : decode cX6_succeeds 46 = .ok (.iload 4, 2) := by decide +kernel
theorem dX6_succeeds_48 : decode cX6_succeeds 48 = .ok (.iload 5, 2) := by decide +kernel
theorem dX6_succeeds_50 : decode cX6_succeeds 50 = .ok (.invokevirtual 170, 3) := by decide +kernel
theorem dX6_succeeds_53 : decode cX6_succeeds 53 = .ok (.ireturn, 1) := by decide +kernel
theorem dX6_succeeds_54 : decode cX6_succeeds 54 = .ok (.aload_n 0, 1) := by decide +kernel
theorem dX6_succeeds_55 : decode cX6_succeeds 55 = .ok (.iload_n 3, 1) := by decide +kernel
theorem dX6_succeeds_56 : decode cX6_succeeds 56 = .ok (.invokevirtual 131, 3) := by decide +kernel
theorem dX6_succeeds_59 : decode cX6_succeeds 59 = .ok (.ifCond .ne 5, 3) := by decide +kernel
theorem dX6_succeeds_62 : decode cX6_succeeds 62 = .ok (.iconst 0, 1) := by decide +kernel
theorem dX6_succeeds_63 : decode cX6_succeeds 63 = .ok (.ireturn, 1) := by decide +kernel
theorem dX6_succeeds_64 : decode cX6_succeeds 64 = .ok (.iload_n 2, 1) := by decide +kernel
theorem dX6_succeeds_65 : decode cX6_succeeds 65 = .ok (.bipush 7, 2) := by decide +kernel
theorem dX6_succeeds_67 : decode cX6_succeeds 67 = .ok (.if_icmp .ne 22, 3) := by decide +kernel
theorem dX6_succeeds_70 : decode cX6_succeeds 70 = .ok (.aload_n 0, 1) := by decide +kernel
theorem dX6_succeeds_71 : decode cX6_succeeds 71 = .ok (.getfield 7, 3) := by decide +kernel
theorem dX6_succeeds_74 : decode cX6_succeeds 74 = .ok (.iconst 5, 1) := by decide +kernel
theorem dX6_succeeds_75 : decode cX6_succeeds 75 = .ok (.iload_n 3, 1) := by decide +kernel
theorem dX6_succeeds_76 : decode cX6_succeeds 76 = .ok (.iadd, 1) := by decide +kernel
theorem dX6_succeeds_77 : decode cX6_succeeds 77 = .ok (.iaload, 1) := by decide +kernel
theorem dX6_succeeds_78 : decode cX6_succeeds 78 = .ok (.iload 5, 2) := by decide +kernel
theorem dX6_succeeds_80 : decode cX6_succeeds 80 = .ok (.if_icmp .lt 7, 3) := by decide +kernel
theorem dX6_succeeds_83 : decode cX6_succeeds 83 = .ok (.iconst 1, 1) := by decide +kernel
theorem dX6_succeeds_84 : decode cX6_succeeds 84 = .ok (.goto 4, 3) := by decide +kernel
theorem dX6_succeeds_87 : decode cX6_succeeds 87 = .ok (.iconst 0, 1) := by decide +kernel
theorem dX6_succeeds_88 : decode cX6_succeeds 88 = .ok (.ireturn, 1) := by decide +kernel
theorem dX6_succeeds_89 : decode cX6_succeeds 89 = .ok (.iload_n 2, 1) := by decide +kernel
theorem dX6_succeeds_90 : decode cX6_succeeds 90 = .ok (.bipush 8, 2) := by decide +kernel
theorem dX6_succeeds_92 : decode cX6_succeeds 92 = .ok (.if_icmp .ne 47, 3) := by decide +kernel
theorem dX6_succeeds_95 : decode cX6_succeeds 95 = .ok (.aload_n 0, 1) := by decide +kernel
theorem dX6_succeeds_96 : decode cX6_succeeds 96 = .ok (.iload 4, 2) := by decide +kernel
theorem dX6_succeeds_98 : decode cX6_succeeds 98 = .ok (.invokevirtual 131, 3) := by decide +kernel
theorem dX6_succeeds_101 : decode cX6_succeeds 101 = .ok (.ifCond .eq 36, 3) := by decide +kernel
theorem dX6_succeeds_104 : decode cX6_succeeds 104 = .ok (.iload_n 3, 1) := by decide +kernel
theorem dX6_succeeds_105 : decode cX6_succeeds 105 = .ok (.iload 4, 2) := by decide +kernel
theorem dX6_succeeds_107 : decode cX6_succeeds 107 = .ok (.if_icmp .eq 30, 3) := by decide +kernel
theorem dX6_succeeds_110 : decode cX6_succeeds 110 = .ok (.aload_n 0, 1) := by decide +kernel
theorem dX6_succeeds_111 : decode cX6_succeeds 111 = .ok (.getfield 7, 3) := by decide +kernel
theorem dX6_succeeds_114 : decode cX6_succeeds 114 = .ok (.bipush 93, 2) := by decide +kernel
theorem dX6_succeeds_116 : decode cX6_succeeds 116 = .ok (.bipush 8, 2) := by decide +kernel
theorem dX6_succeeds_118 : decode cX6_succeeds 118 = .ok (.iload_n 3, 1) := by decide +kernel
theorem dX6_succeeds_119 : decode cX6_succeeds 119 = .ok (.imul, 1) := by decide +kernel
theorem dX6_succeeds_120 : decode cX6_succeeds 120 = .ok (.iadd, 1) := by decide +kernel
theorem dX6_succeeds_121 : decode cX6_succeeds 121 = .ok (.iload 4, 2) := by decide +kernel
theorem dX6_succeeds_123 : decode cX6_succeeds 123 = .ok (.iadd, 1) := by decide +kernel
theorem dX6_succeeds_124 : decode cX6_succeeds 124 = .ok (.iaload, 1) := by decide +kernel
theorem dX6_succeeds_125 : decode cX6_succeeds 125 = .ok (.iload 5, 2) := by decide +kernel
theorem dX6_succeeds_127 : decode cX6_succeeds 127 = .ok (.bipush 100, 2) := by decide +kernel
theorem dX6_succeeds_129 : decode cX6_succeeds 129 = .ok (.irem, 1) := by decide +kernel
theorem dX6_succeeds_130 : decode cX6_succeeds 130 = .ok (.if_icmp .gt 7, 3) := by decide +kernel
theorem dX6_succeeds_133 : decode cX6_succeeds 133 = .ok (.iconst 1, 1) := by decide +kernel
theorem dX6_succeeds_134 : decode cX6_succeeds 134 = .ok (.goto 4, 3) := by decide +kernel
theorem dX6_succeeds_137 : decode cX6_succeeds 137 = .ok (.iconst 0, 1) := by decide +kernel
theorem dX6_succeeds_138 : decode cX6_succeeds 138 = .ok (.ireturn, 1) := by decide +kernel
theorem dX6_succeeds_139 : decode cX6_succeeds 139 = .ok (.iload 5, 2) := by decide +kernel
theorem dX6_succeeds_141 : decode cX6_succeeds 141 = .ok (.ifCond .ne 20, 3) := by decide +kernel
theorem dX6_succeeds_144 : decode cX6_succeeds 144 = .ok (.aload_n 0, 1) := by decide +kernel
theorem dX6_succeeds_145 : decode cX6_succeeds 145 = .ok (.getfield 7, 3) := by decide +kernel
theorem dX6_succeeds_148 : decode cX6_succeeds 148 = .ok (.bipush 37, 2) := by decide +kernel
theorem dX6_succeeds_150 : decode cX6_succeeds 150 = .ok (.iload_n 3, 1) := by decide +kernel
theorem dX6_succeeds_151 : decode cX6_succeeds 151 = .ok (.iadd, 1) := by decide +kernel
theorem dX6_succeeds_152 : decode cX6_succeeds 152 = .ok (.iaload, 1) := by decide +kernel
theorem dX6_succeeds_153 : decode cX6_succeeds 153 = .ok (.iconst 1, 1) := by decide +kernel
theorem dX6_succeeds_154 : decode cX6_succeeds 154 = .ok (.if_icmp .ne 7, 3) := by decide +kernel
theorem dX6_succeeds_157 : decode cX6_succeeds 157 = .ok (.iconst 1, 1) := by decide +kernel
theorem dX6_succeeds_158 : decode cX6_succeeds 158 = .ok (.goto 4, 3) := by decide +kernel
theorem dX6_succeeds_161 : decode cX6_succeeds 161 = .ok (.iconst 0, 1) := by decide +kernel
theorem dX6_succeeds_162 : decode cX6_succeeds 162 = .ok (.ireturn, 1) := by decide +kernel
set_option maxRecDepth 20000 in
theorem ggX6_runScript_X6_in : GoodIn wsX6_runScript wsX6_in := goodIn_r _ [7] (by decide +kernel) (by decide +kernel)
set_option maxRecDepth 20000 in
theorem gX6_runScript_X6_in : GoodIn wsX6_runScript (va_wsS RX6 45 yX6_in wsX6_in) := goodIn_app (goodIn_of _ (by decide +kernel)) ggX6_runScript_X6_in
set_option maxRecDepth 20000 in
theorem ggX6_runScript_X6_putAside : GoodIn wsX6_runScript wsX6_putAside := goodIn_r _ [11, 12, 13, 109, 110, 111, 112, 113, 114, 115, 116, 117, 118, 119, 120, 121, 122, 123] (by decide +kernel) (by decide +kernel)
set_option maxRecDepth 20000 in
theorem gX6_runScript_X6_putAside : GoodIn wsX6_runScript (wsV RX6 161 RX6 yX6_putAside wsX6_putAside) := goodIn_app (goodIn_of _ (by decide +kernel)) ggX6_runScript_X6_putAside
set_option maxRecDepth 20000 in
theorem ggX6_runScript_X6_succeeds : GoodIn wsX6_runScript wsX6_succeeds := goodIn_r _ [17, 13, 18, 19, 20, 6, 21, 22, 23, 24, 25, 26, 27, 28, 29, 30, 31, 32, 33, 34, 35, 36, 37, 38, 3, 39, 40, 41, 42, 43, 44, 45, 46, 47, 48, 49, 50, 51, 52, 53, 54, 55, 56, 57, 58, 59, 60, 61, 62, 63, 64, 65, 66, 67, 68, 69, 70, 71, 72, 73, 74, 75, 76, 4, 5, 7, 77, 78, 79, 80, 81, 82, 83, 84, 85, 86, 87, 88, 89, 90, 91, 92, 93, 94, 95, 96, 97, 98, 99, 100, 101, 102, 103, 104, 109, 110, 111, 112, 113, 114, 115, 116, 117, 118, 119, 120, 121, 122, 123] (by decide +kernel) (by decide +kernel)
set_option maxRecDepth 20000 in
theorem gX6_runScript_X6_succeeds : GoodIn wsX6_runScript (wsV RX6 176 RX6 yX6_succeeds wsX6_succeeds) := goodIn_app (goodIn_of _ (by decide +kernel)) ggX6_runScript_X6_succeeds
set_option maxRecDepth 20000 in
theorem ggX6_runScript_X6_bringBack : GoodIn wsX6_runScript wsX6_bringBack := goodIn_r _ [108, 13, 12, 109, 110, 111, 112, 113, 114, 115, 116, 117, 118, 119, 120, 121, 122, 123] (by decide +kernel) (by decide +kernel)
set_option maxRecDepth 20000 in
theorem gX6_runScript_X6_bringBack : GoodIn wsX6_runScript (wsV RX6 164 RX6 yX6_bringBack wsX6_bringBack) := goodIn_app (goodIn_of _ (by decide +kernel)) ggX6_runScript_X6_bringBack
theorem dX6_runScript_0 : decode cX6_runScript 0 = .ok (.iload_n 1, 1) := by decide +kernel
theorem dX6_runScript_1 : decode cX6_runScript 1 = .ok (.iconst 1, 1) := by decide +kernel
theorem dX6_runScript_2 : decode cX6_runScript 2 = .ok (.iconst 3, 1) := by decide +kernel
theorem dX6_runScript_3 : decode cX6_runScript 3 = .ok (.invokestatic 45, 3) := by decide +kernel
theorem dX6_runScript_6 : decode cX6_runScript 6 = .ok (.ifCond .eq 13, 3) := by decide +kernel
theorem dX6_runScript_9 : decode cX6_runScript 9 = .ok (.lload_n 2, 1) := by decide +kernel
theorem dX6_runScript_10 : decode cX6_runScript 10 = .ok (.lconst 0, 1) := by decide +kernel
theorem dX6_runScript_11 : decode cX6_runScript 11 = .ok (.lcmp, 1) := by decide +kernel
theorem dX6_runScript_12 : decode cX6_runScript 12 = .ok (.ifCond .lt 7, 3) := by decide +kernel
theorem dX6_runScript_15 : decode cX6_runScript 15 = .ok (.iconst 1, 1) := by decide +kernel
theorem dX6_runScript_16 : decode cX6_runScript 16 = .ok (.goto 4, 3) := by decide +kernel
theorem dX6_runScript_19 : decode cX6_runScript 19 = .ok (.iconst 0, 1) := by decide +kernel
theorem dX6_runScript_20 : decode cX6_runScript 20 = .ok (.istore 4, 2) := by decide +kernel
theorem dX6_runScript_22 : decode cX6_runScript 22 = .ok (.ldc2_w 174, 3) := by decide +kernel
theorem dX6_runScript_25 : decode cX6_runScript 25 = .ok (.lstore 5, 2) := by decide +kernel
theorem dX6_runScript_27 : decode cX6_runScript 27 = .ok (.iconst 1, 1) := by decide +kernel
theorem dX6_runScript_28 : decode cX6_runScript 28 = .ok (.istore 7, 2) := by decide +kernel
theorem dX6_runScript_30 : decode cX6_runScript 30 = .ok (.iload 7, 2) := by decide +kernel
theorem dX6_runScript_32 : decode cX6_runScript 32 = .ok (.iload_n 1, 1) := by decide +kernel
theorem dX6_runScript_33 : decode cX6_runScript 33 = .ok (.if_icmp .ge 22, 3) := by decide +kernel
theorem dX6_runScript_36 : decode cX6_runScript 36 = .ok (.iload 4, 2) := by decide +kernel
theorem dX6_runScript_38 : decode cX6_runScript 38 = .ok (.ifCond .eq 17, 3) := by decide +kernel
theorem dX6_runScript_41 : decode cX6_runScript 41 = .ok (.lload 5, 2) := by decide +kernel
theorem dX6_runScript_43 : decode cX6_runScript 43 = .ok (.ldc2_w 174, 3) := by decide +kernel
theorem dX6_runScript_46 : decode cX6_runScript 46 = .ok (.lmul, 1) := by decide +kernel
theorem dX6_runScript_47 : decode cX6_runScript 47 = .ok (.lstore 5, 2) := by decide +kernel
theorem dX6_runScript_49 : decode cX6_runScript 49 = .ok (.iinc 7 1, 3) := by decide +kernel
theorem dX6_runScript_52 : decode cX6_runScript 52 = .ok (.goto (-22), 3) := by decide +kernel
theorem dX6_runScript_55 : decode cX6_runScript 55 = .ok (.aload_n 0, 1) := by decide +kernel
theorem dX6_runScript_56 : decode cX6_runScript 56 = .ok (.iload 4, 2) := by decide +kernel
theorem dX6_runScript_58 : decode cX6_runScript 58 = .ok (.ifCond .eq 14, 3) := by decide +kernel
theorem dX6_runScript_61 : decode cX6_runScript 61 = .ok (.lload_n 2, 1) := by decide +kernel
theorem dX6_runScript_62 : decode cX6_runScript 62 = .ok (.lload 5, 2) := by decide +kernel
theorem dX6_runScript_64 : decode cX6_runScript 64 = .ok (.lcmp, 1) := by decide +kernel
theorem dX6_runScript_65 : decode cX6_runScript 65 = .ok (.ifCond .ge 7, 3) := by decide +kernel
theorem dX6_runScript_68 : decode cX6_runScript 68 = .ok (.iconst 0, 1) := by decide +kernel
theorem dX6_runScript_69 : decode cX6_runScript 69 = .ok (.goto 4, 3) := by decide +kernel
theorem dX6_runScript_72 : decode cX6_runScript 72 = .ok (.iconst 1, 1) := by decide +kernel
theorem dX6_runScript_73 : decode cX6_runScript 73 = .ok (.putfield 38, 3) := by decide +kernel
theorem dX6_runScript_76 : decode cX6_runScript 76 = .ok (.aload_n 0, 1) := by decide +kernel
theorem dX6_runScript_77 : decode cX6_runScript 77 = .ok (.getfield 38, 3) := by decide +kernel
theorem dX6_runScript_80 : decode cX6_runScript 80 = .ok (.ifCond .le 5, 3) := by decide +kernel
theorem dX6_runScript_83 : decode cX6_runScript 83 = .ok (.iconst 0, 1) := by decide +kernel
theorem dX6_runScript_84 : decode cX6_runScript 84 = .ok (.ireturn, 1) := by decide +kernel
theorem dX6_runScript_85 : decode cX6_runScript 85 = .ok (.aload_n 0, 1) := by decide +kernel
theorem dX6_runScript_86 : decode cX6_runScript 86 = .ok (.invokevirtual 161, 3) := by decide +kernel
theorem dX6_runScript_89 : decode cX6_runScript 89 = .ok (.ldc 49, 2) := by decide +kernel
theorem dX6_runScript_91 : decode cX6_runScript 91 = .ok (.istore 7, 2) := by decide +kernel
theorem dX6_runScript_93 : decode cX6_runScript 93 = .ok (.iconst 0, 1) := by decide +kernel
theorem dX6_runScript_94 : decode cX6_runScript 94 = .ok (.istore 8, 2) := by decide +kernel
theorem dX6_runScript_96 : decode cX6_runScript 96 = .ok (.iload 8, 2) := by decide +kernel
theorem dX6_runScript_98 : decode cX6_runScript 98 = .ok (.iload_n 1, 1) := by decide +kernel
theorem dX6_runScript_99 : decode cX6_runScript 99 = .ok (.if_icmp .ge 53, 3) := by decide +kernel
theorem dX6_runScript_102 : decode cX6_runScript 102 = .ok (.iload 7, 2) := by decide +kernel
theorem dX6_runScript_104 : decode cX6_runScript 104 = .ok (.ldc 49, 2) := by decide +kernel
theorem dX6_runScript_106 : decode cX6_runScript 106 = .ok (.if_icmp .ne 46, 3) := by decide +kernel
theorem dX6_runScript_109 : decode cX6_runScript 109 = .ok (.lload 5, 2) := by decide +kernel
theorem dX6_runScript_111 : decode cX6_runScript 111 = .ok (.ldc2_w 174, 3) := by decide +kernel
theorem dX6_runScript_114 : decode cX6_runScript 114 = .ok (.ldiv, 1) := by decide +kernel
theorem dX6_runScript_115 : decode cX6_runScript 115 = .ok (.lstore 5, 2) := by decide +kernel
theorem dX6_runScript_117 : decode cX6_runScript 117 = .ok (.lload_n 2, 1) := by decide +kernel
theorem dX6_runScript_118 : decode cX6_runScript 118 = .ok (.lload 5, 2) := by decide +kernel
theorem dX6_runScript_120 : decode cX6_runScript 120 = .ok (.ldiv, 1) := by decide +kernel
theorem dX6_runScript_121 : decode cX6_runScript 121 = .ok (.ldc2_w 174, 3) := by decide +kernel
theorem dX6_runScript_124 : decode cX6_runScript 124 = .ok (.lrem, 1) := by decide +kernel
theorem dX6_runScript_125 : decode cX6_runScript 125 = .ok (.l2i, 1) := by decide +kernel
theorem dX6_runScript_126 : decode cX6_runScript 126 = .ok (.istore 9, 2) := by decide +kernel
theorem dX6_runScript_128 : decode cX6_runScript 128 = .ok (.aload_n 0, 1) := by decide +kernel
theorem dX6_runScript_129 : decode cX6_runScript 129 = .ok (.iload 9, 2) := by decide +kernel
theorem dX6_runScript_131 : decode cX6_runScript 131 = .ok (.invokevirtual 176, 3) := by decide +kernel
theorem dX6_runScript_134 : decode cX6_runScript 134 = .ok (.ifCond .eq 8, 3) := by decide +kernel
theorem dX6_runScript_137 : decode cX6_runScript 137 = .ok (.ldc 49, 2) := by decide +kernel
theorem dX6_runScript_139 : decode cX6_runScript 139 = .ok (.goto 5, 3) := by decide +kernel
theorem dX6_runScript_142 : decode cX6_runScript 142 = .ok (.iload 8, 2) := by decide +kernel
theorem dX6_runScript_144 : decode cX6_runScript 144 = .ok (.istore 7, 2) := by decide +kernel
theorem dX6_runScript_146 : decode cX6_runScript 146 = .ok (.iinc 8 1, 3) := by decide +kernel
theorem dX6_runScript_149 : decode cX6_runScript 149 = .ok (.goto (-53), 3) := by decide +kernel
theorem dX6_runScript_152 : decode cX6_runScript 152 = .ok (.aload_n 0, 1) := by decide +kernel
theorem dX6_runScript_153 : decode cX6_runScript 153 = .ok (.invokevirtual 164, 3) := by decide +kernel
theorem dX6_runScript_156 : decode cX6_runScript 156 = .ok (.iload 7, 2) := by decide +kernel
theorem dX6_runScript_158 : decode cX6_runScript 158 = .ok (.ireturn, 1) := by decide +kernel
set_option maxRecDepth 20000 in
theorem ggX6_simulate_X6_in : GoodIn wsX6_simulate wsX6_in := goodIn_r _ [8] (by decide +kernel) (by decide +kernel)
set_option maxRecDepth 20000 in
theorem gX6_simulate_X6_in : GoodIn wsX6_simulate (va_wsS RX6 45 yX6_in wsX6_in) := goodIn_app (goodIn_of _ (by decide +kernel)) ggX6_simulate_X6_in
set_option maxRecDepth 20000 in
theorem ggX6_simulate_X6_putAside : GoodIn wsX6_simulate wsX6_putAside := goodIn_r _ [12, 13, 2, 66, 67, 68, 69, 70, 71, 72, 73, 74, 75, 76, 77, 78, 79, 80] (by decide +kernel) (by decide +kernel)
set_option maxRecDepth 20000 in
theorem gX6_simulate_X6_putAside : GoodIn wsX6_simulate (wsV RX6 161 RX6 yX6_putAside wsX6_putAside) := goodIn_app (goodIn_of _ (by decide +kernel)) ggX6_simulate_X6_putAside
set_option maxRecDepth 20000 in
theorem ggX6_simulate_X6_sumOf : GoodIn wsX6_simulate wsX6_sumOf := goodIn_r _ [17, 2, 66, 67, 68, 69, 70, 71, 72, 73, 74, 75, 76, 77, 78, 79, 80] (by decide +kernel) (by decide +kernel)
set_option maxRecDepth 20000 in
theorem gX6_simulate_X6_sumOf : GoodIn wsX6_simulate (wsV RX6 125 RX6 yX6_sumOf wsX6_sumOf) := goodIn_app (goodIn_of _ (by decide +kernel)) ggX6_simulate_X6_sumOf
set_option maxRecDepth 20000 in
theorem ggX6_simulate_X6_canGo : GoodIn wsX6_simulate wsX6_canGo := goodIn_r _ [21, 2, 22, 23, 24, 7, 25, 66, 67, 68, 69, 70, 71, 72, 73, 74, 75, 76, 77, 78, 79, 80] (by decide +kernel) (by decide +kernel)
set_option maxRecDepth 20000 in
theorem gX6_simulate_X6_canGo : GoodIn wsX6_simulate (wsV RX6 82 RX6 yX6_canGo wsX6_canGo) := goodIn_app (goodIn_of _ (by decide +kernel)) ggX6_simulate_X6_canGo
set_option maxRecDepth 20000 in
theorem ggX6_simulate_X6_goMonth : GoodIn wsX6_simulate wsX6_goMonth := goodIn_r _ [29, 30, 31, 2, 32, 33, 34, 7, 35, 36, 37, 38, 39, 40, 41, 42, 43, 44, 45, 46, 47, 48, 49, 50, 51, 52, 53, 54, 55, 56, 57, 58, 59, 60, 61, 66, 67, 68, 69, 70, 71, 72, 73, 74, 75, 76, 77, 78, 79, 80] (by decide +kernel) (by decide +kernel)
set_option maxRecDepth 20000 in
theorem gX6_simulate_X6_goMonth : GoodIn wsX6_simulate (wsV RX6 89 RX6 yX6_goMonth wsX6_goMonth) := goodIn_app (goodIn_of _ (by decide +kernel)) ggX6_simulate_X6_goMonth
set_option maxRecDepth 20000 in
theorem ggX6_simulate_X6_bringBack : GoodIn wsX6_simulate wsX6_bringBack := goodIn_r _ [65, 2, 13, 66, 67, 68, 69, 70, 71, 72, 73, 74, 75, 76, 77, 78, 79, 80] (by decide +kernel) (by decide +kernel)
set_option maxRecDepth 20000 in
theorem gX6_simulate_X6_bringBack : GoodIn wsX6_simulate (wsV RX6 164 RX6 yX6_bringBack wsX6_bringBack) := goodIn_app (goodIn_of _ (by decide +kernel)) ggX6_simulate_X6_bringBack
theorem dX6_simulate_0 : decode cX6_simulate 0 = .ok (.aload_n 0, 1) := by decide +kernel
theorem dX6_simulate_1 : decode cX6_simulate 1 = .ok (.iload_n 3, 1) := by decide +kernel
