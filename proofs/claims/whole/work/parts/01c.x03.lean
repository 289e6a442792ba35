theorem inlX0 : ∀ w ∈ wsX00, w ∈ wsL_law := fun _ h => List.mem_append_left _ (List.mem_append_right _ h)
theorem inX0 : ∀ w ∈ wsX00, w ∈ lw_tbl := fun w h => wsL_law_in w (inlX0 w h)
theorem inX1 : ∀ w ∈ wsX10, w ∈ lw_tbl := by decide +kernel
theorem inlX2 : ∀ w ∈ wsX20, w ∈ wsL_law := fun _ h => List.mem_append_left _ (List.mem_append_left _ (List.mem_append_left _ (List.mem_append_right _ h)))
theorem inX2 : ∀ w ∈ wsX20, w ∈ lw_tbl := fun w h => wsL_law_in w (inlX2 w h)
theorem inlX3 : ∀ w ∈ wsX30, w ∈ wsL_law := fun _ h => List.mem_append_left _ (List.mem_append_left _ (List.mem_append_right _ h))
theorem inX3 : ∀ w ∈ wsX30, w ∈ lw_tbl := fun w h => wsL_law_in w (inlX3 w h)
theorem inlX4 : ∀ w ∈ wsX40, w ∈ wsL_law := fun _ h => List.mem_append_left _ (List.mem_append_left _ (List.mem_append_left _ (List.mem_append_left _ (List.mem_append_left _ (List.mem_append_right _ h)))))
theorem inX4 : ∀ w ∈ wsX40, w ∈ lw_tbl := fun w h => wsL_law_in w (inlX4 w h)
theorem inlX5 : ∀ w ∈ wsX50, w ∈ wsL_law := fun _ h => List.mem_append_left _ (List.mem_append_left _ (List.mem_append_left _ (List.mem_append_left _ (List.mem_append_right _ h))))
theorem inX5 : ∀ w ∈ wsX50, w ∈ lw_tbl := fun w h => wsL_law_in w (inlX5 w h)
theorem inJ11 : ∀ w ∈ wsJ110, w ∈ lw_tbl := by decide +kernel
theorem inJ6 : ∀ w ∈ wsJ60, w ∈ lw_tbl := by decide +kernel
theorem inJ9 : ∀ w ∈ wsJ90, w ∈ lw_tbl := by decide +kernel
theorem inJ0 : ∀ w ∈ wsJ00, w ∈ lw_tbl := by decide +kernel
theorem inJ1 : ∀ w ∈ wsJ10, w ∈ lw_tbl := by decide +kernel
theorem inJ2 : ∀ w ∈ wsJ20, w ∈ lw_tbl := by decide +kernel
theorem inJ3 : ∀ w ∈ wsJ30, w ∈ lw_tbl := by decide +kernel
theorem dX0_init_0 : decode cX0_init 0 = .ok (.aload_n 0, 1) := by decide +kernel
theorem dX0_init_1 : decode cX0_init 1 = .ok (.invokespecial 1, 3) := by decide +kernel
theorem dX0_init_4 : decode cX0_init 4 = .ok (.aload_n 0, 1) := by decide +kernel
theorem dX0_init_5 : decode cX0_init 5 = .ok (.lconst 0, 1) := by decide +kernel
theorem dX0_init_6 : decode cX0_init 6 = .ok (.putfield 7, 3) := by decide +kernel
theorem dX0_init_9 : decode cX0_init 9 = .ok (.return_, 1) := by decide +kernel
theorem dX0_next_0 : decode cX0_next 0 = .ok (.aload_n 0, 1) := by decide +kernel
theorem dX0_next_1 : decode cX0_next 1 = .ok (.ldc2_w 13, 3) := by decide +kernel
theorem dX0_next_4 : decode cX0_next 4 = .ok (.aload_n 0, 1) := by decide +kernel
theorem dX0_next_5 : decode cX0_next 5 = .ok (.getfield 7, 3) := by decide +kernel
theorem dX0_next_8 : decode cX0_next 8 = .ok (.lmul, 1) := by decide +kernel
theorem dX0_next_9 : decode cX0_next 9 = .ok (.ldc2_w 15, 3) := by decide +kernel
theorem dX0_next_12 : decode cX0_next 12 = .ok (.ladd, 1) := by decide +kernel
theorem dX0_next_13 : decode cX0_next 13 = .ok (.ldc2_w 17, 3) := by decide +kernel
theorem dX0_next_16 : decode cX0_next 16 = .ok (.lrem, 1) := by decide +kernel
theorem dX0_next_17 : decode cX0_next 17 = .ok (.putfield 7, 3) := by decide +kernel
theorem dX0_next_20 : decode cX0_next 20 = .ok (.iload_n 1, 1) := by decide +kernel
theorem dX0_next_21 : decode cX0_next 21 = .ok (.iconst 1, 1) := by decide +kernel
theorem dX0_next_22 : decode cX0_next 22 = .ok (.if_icmp .ge 7, 3) := by decide +kernel
theorem dX0_next_25 : decode cX0_next 25 = .ok (.iconst 0, 1) := by decide +kernel
theorem dX0_next_26 : decode cX0_next 26 = .ok (.goto 15, 3) := by decide +kernel
theorem dX0_next_29 : decode cX0_next 29 = .ok (.aload_n 0, 1) := by decide +kernel
theorem dX0_next_30 : decode cX0_next 30 = .ok (.getfield 7, 3) := by decide +kernel
theorem dX0_next_33 : decode cX0_next 33 = .ok (.ldc2_w 19, 3) := by decide +kernel
theorem dX0_next_36 : decode cX0_next 36 = .ok (.ldiv, 1) := by decide +kernel
theorem dX0_next_37 : decode cX0_next 37 = .ok (.iload_n 1, 1) := by decide +kernel
theorem dX0_next_38 : decode cX0_next 38 = .ok (.i2l, 1) := by decide +kernel
theorem dX0_next_39 : decode cX0_next 39 = .ok (.lrem, 1) := by decide +kernel
theorem dX0_next_40 : decode cX0_next 40 = .ok (.l2i, 1) := by decide +kernel
theorem dX0_next_41 : decode cX0_next 41 = .ok (.ireturn, 1) := by decide +kernel
theorem dX1_isA_0 : decode cX1_isA 0 = .ok (.iload_n 1, 1) := by decide +kernel
theorem dX1_isA_1 : decode cX1_isA 1 = .ok (.ifCond .eq 18, 3) := by decide +kernel
theorem dX1_isA_4 : decode cX1_isA 4 = .ok (.iload_n 0, 1) := by decide +kernel
theorem dX1_isA_5 : decode cX1_isA 5 = .ok (.iload_n 1, 1) := by decide +kernel
theorem dX1_isA_6 : decode cX1_isA 6 = .ok (.if_icmp .eq 13, 3) := by decide +kernel
theorem dX1_isA_9 : decode cX1_isA 9 = .ok (.iload_n 0, 1) := by decide +kernel
theorem dX1_isA_10 : decode cX1_isA 10 = .ok (.iconst 4, 1) := by decide +kernel
theorem dX1_isA_11 : decode cX1_isA 11 = .ok (.if_icmp .ne 12, 3) := by decide +kernel
theorem dX1_isA_14 : decode cX1_isA 14 = .ok (.iload_n 1, 1) := by decide +kernel
theorem dX1_isA_15 : decode cX1_isA 15 = .ok (.iconst 1, 1) := by decide +kernel
theorem dX1_isA_16 : decode cX1_isA 16 = .ok (.if_icmp .ne 7, 3) := by decide +kernel
theorem dX1_isA_19 : decode cX1_isA 19 = .ok (.iconst 1, 1) := by decide +kernel
theorem dX1_isA_20 : decode cX1_isA 20 = .ok (.goto 4, 3) := by decide +kernel
theorem dX1_isA_23 : decode cX1_isA 23 = .ok (.iconst 0, 1) := by decide +kernel
theorem dX1_isA_24 : decode cX1_isA 24 = .ok (.ireturn, 1) := by decide +kernel
theorem dX1_passesOn_0 : decode cX1_passesOn 0 = .ok (.iload_n 0, 1) := by decide +kernel
theorem dX1_passesOn_1 : decode cX1_passesOn 1 = .ok (.tableswitch 61 1 4 #[31, 33, 43, 54], 31) := by decide +kernel
theorem dX1_passesOn_32 : decode cX1_passesOn 32 = .ok (.iload_n 2, 1) := by decide +kernel
theorem dX1_passesOn_33 : decode cX1_passesOn 33 = .ok (.ireturn, 1) := by decide +kernel
theorem dX1_passesOn_34 : decode cX1_passesOn 34 = .ok (.iload_n 1, 1) := by decide +kernel
theorem dX1_passesOn_35 : decode cX1_passesOn 35 = .ok (.bipush 12, 2) := by decide +kernel
theorem dX1_passesOn_37 : decode cX1_passesOn 37 = .ok (.iadd, 1) := by decide +kernel
theorem dX1_passesOn_38 : decode cX1_passesOn 38 = .ok (.iload_n 2, 1) := by decide +kernel
theorem dX1_passesOn_39 : decode cX1_passesOn 39 = .ok (.isub, 1) := by decide +kernel
theorem dX1_passesOn_40 : decode cX1_passesOn 40 = .ok (.bipush 12, 2) := by decide +kernel
theorem dX1_passesOn_42 : decode cX1_passesOn 42 = .ok (.irem, 1) := by decide +kernel
theorem dX1_passesOn_43 : decode cX1_passesOn 43 = .ok (.ireturn, 1) := by decide +kernel
theorem dX1_passesOn_44 : decode cX1_passesOn 44 = .ok (.iload_n 2, 1) := by decide +kernel
theorem dX1_passesOn_45 : decode cX1_passesOn 45 = .ok (.iload_n 2, 1) := by decide +kernel
theorem dX1_passesOn_46 : decode cX1_passesOn 46 = .ok (.iconst 2, 1) := by decide +kernel
theorem dX1_passesOn_47 : decode cX1_passesOn 47 = .ok (.irem, 1) := by decide +kernel
theorem dX1_passesOn_48 : decode cX1_passesOn 48 = .ok (.isub, 1) := by decide +kernel
theorem dX1_passesOn_49 : decode cX1_passesOn 49 = .ok (.iload_n 1, 1) := by decide +kernel
theorem dX1_passesOn_50 : decode cX1_passesOn 50 = .ok (.iadd, 1) := by decide +kernel
theorem dX1_passesOn_51 : decode cX1_passesOn 51 = .ok (.bipush 12, 2) := by decide +kernel
theorem dX1_passesOn_53 : decode cX1_passesOn 53 = .ok (.irem, 1) := by decide +kernel
theorem dX1_passesOn_54 : decode cX1_passesOn 54 = .ok (.ireturn, 1) := by decide +kernel
theorem dX1_passesOn_55 : decode cX1_passesOn 55 = .ok (.iconst 2, 1) := by decide +kernel
theorem dX1_passesOn_56 : decode cX1_passesOn 56 = .ok (.iload_n 2, 1) := by decide +kernel
theorem dX1_passesOn_57 : decode cX1_passesOn 57 = .ok (.imul, 1) := by decide +kernel
theorem dX1_passesOn_58 : decode cX1_passesOn 58 = .ok (.bipush 12, 2) := by decide +kernel
theorem dX1_passesOn_60 : decode cX1_passesOn 60 = .ok (.irem, 1) := by decide +kernel
theorem dX1_passesOn_61 : decode cX1_passesOn 61 = .ok (.ireturn, 1) := by decide +kernel
theorem dX1_passesOn_62 : decode cX1_passesOn 62 = .ok (.iload_n 2, 1) := by decide +kernel
theorem dX1_passesOn_63 : decode cX1_passesOn 63 = .ok (.iload_n 1, 1) := by decide +kernel
theorem dX1_passesOn_64 : decode cX1_passesOn 64 = .ok (.iadd, 1) := by decide +kernel
theorem dX1_passesOn_65 : decode cX1_passesOn 65 = .ok (.bipush 12, 2) := by decide +kernel
theorem dX1_passesOn_67 : decode cX1_passesOn 67 = .ok (.irem, 1) := by decide +kernel
theorem dX1_passesOn_68 : decode cX1_passesOn 68 = .ok (.ireturn, 1) := by decide +kernel
theorem dX2_init_0 : decode cX2_init 0 = .ok (.aload_n 0, 1) := by decide +kernel
theorem dX2_init_1 : decode cX2_init 1 = .ok (.invokespecial 1, 3) := by decide +kernel
theorem dX2_init_4 : decode cX2_init 4 = .ok (.aload_n 0, 1) := by decide +kernel
theorem dX2_init_5 : decode cX2_init 5 = .ok (.bipush 20, 2) := by decide +kernel
theorem dX2_init_7 : decode cX2_init 7 = .ok (.newarray .int, 2) := by decide +kernel
theorem dX2_init_9 : decode cX2_init 9 = .ok (.putfield 9, 3) := by decide +kernel
theorem dX2_init_12 : decode cX2_init 12 = .ok (.aload_n 0, 1) := by decide +kernel
theorem dX2_init_13 : decode cX2_init 13 = .ok (.iconst 0, 1) := by decide +kernel
theorem dX2_init_14 : decode cX2_init 14 = .ok (.putfield 13, 3) := by decide +kernel
theorem dX2_init_17 : decode cX2_init 17 = .ok (.return_, 1) := by decide +kernel
theorem dX2_isFull_0 : decode cX2_isFull 0 = .ok (.aload_n 0, 1) := by decide +kernel
theorem dX2_isFull_1 : decode cX2_isFull 1 = .ok (.getfield 13, 3) := by decide +kernel
theorem dX2_isFull_4 : decode cX2_isFull 4 = .ok (.bipush 20, 2) := by decide +kernel
theorem dX2_isFull_6 : decode cX2_isFull 6 = .ok (.if_icmp .lt 7, 3) := by decide +kernel
theorem dX2_isFull_9 : decode cX2_isFull 9 = .ok (.iconst 1, 1) := by decide +kernel
theorem dX2_isFull_10 : decode cX2_isFull 10 = .ok (.goto 4, 3) := by decide +kernel
theorem dX2_isFull_13 : decode cX2_isFull 13 = .ok (.iconst 0, 1) := by decide +kernel
theorem dX2_isFull_14 : decode cX2_isFull 14 = .ok (.ireturn, 1) := by decide +kernel
set_option maxRecDepth 20000 in
theorem ggX2_add_X2_isFull : GoodIn wsX2_add wsX2_isFull := goodIn_r _ [7, 2, 8, 9] (by decide +kernel) (by decide +kernel)
set_option maxRecDepth 20000 in
theorem gX2_add_X2_isFull : GoodIn wsX2_add (wsV RX2 17 RX2 yX2_isFull wsX2_isFull) := goodIn_app (goodIn_of _ (by decide +kernel)) ggX2_add_X2_isFull
theorem dX2_add_0 : decode cX2_add 0 = .ok (.aload_n 0, 1) := by decide +kernel
theorem dX2_add_1 : decode cX2_add 1 = .ok (.invokevirtual 17, 3) := by decide +kernel
theorem dX2_add_4 : decode cX2_add 4 = .ok (.ifCond .ne 23, 3) := by decide +kernel
theorem dX2_add_7 : decode cX2_add 7 = .ok (.aload_n 0, 1) := by decide +kernel
theorem dX2_add_8 : decode cX2_add 8 = .ok (.getfield 9, 3) := by decide +kernel
theorem dX2_add_11 : decode cX2_add 11 = .ok (.aload_n 0, 1) := by decide +kernel
theorem dX2_add_12 : decode cX2_add 12 = .ok (.getfield 13, 3) := by decide +kernel
theorem dX2_add_15 : decode cX2_add 15 = .ok (.iload_n 1, 1) := by decide +kernel
theorem dX2_add_16 : decode cX2_add 16 = .ok (.iastore, 1) := by decide +kernel
theorem dX2_add_17 : decode cX2_add 17 = .ok (.aload_n 0, 1) := by decide +kernel
theorem dX2_add_18 : decode cX2_add 18 = .ok (.dup, 1) := by decide +kernel
theorem dX2_add_19 : decode cX2_add 19 = .ok (.getfield 13, 3) := by decide +kernel
theorem dX2_add_22 : decode cX2_add 22 = .ok (.iconst 1, 1) := by decide +kernel
theorem dX2_add_23 : decode cX2_add 23 = .ok (.iadd, 1) := by decide +kernel
theorem dX2_add_24 : decode cX2_add 24 = .ok (.putfield 13, 3) := by decide +kernel
theorem dX2_add_27 : decode cX2_add 27 = .ok (.return_, 1) := by decide +kernel
set_option maxRecDepth 20000 in
theorem ggX2_firstMisfit_X2_fits : GoodIn wsX2_firstMisfit wsX2_fits := goodIn_r _ [6, 7, 8, 9, 10, 11, 12, 13, 14, 15, 16, 17, 18, 19, 20, 21, 22, 23, 24, 25, 26, 27, 28, 29, 30, 31, 32, 33, 34, 35, 36, 37, 38, 39, 40, 41, 42, 43, 44, 45, 46, 47, 48, 49, 50, 51, 52, 53, 54, 55, 56, 57, 58, 59, 60, 61, 62, 63, 64, 65, 66, 67, 68, 69, 70, 71, 72, 73, 74, 75, 76, 77, 78, 79, 80, 81, 82, 83, 84, 85, 86, 87, 88, 89, 90, 91, 92, 93, 94, 95, 96, 97, 98] (by decide +kernel) (by decide +kernel)
set_option maxRecDepth 20000 in
theorem gX2_firstMisfit_X2_fits : GoodIn wsX2_firstMisfit (wsV RX2 21 RX2 yX2_fits wsX2_fits) := goodIn_app (goodIn_of _ (by decide +kernel)) ggX2_firstMisfit_X2_fits
theorem dX2_firstMisfit_0 : decode cX2_firstMisfit 0 = .ok (.iconst 0, 1) := by decide +kernel
theorem dX2_firstMisfit_1 : decode cX2_firstMisfit 1 = .ok (.istore_n 1, 1) := by decide +kernel
theorem dX2_firstMisfit_2 : decode cX2_firstMisfit 2 = .ok (.iload_n 1, 1) := by decide +kernel
theorem dX2_firstMisfit_3 : decode cX2_firstMisfit 3 = .ok (.aload_n 0, 1) := by decide +kernel
theorem dX2_firstMisfit_4 : decode cX2_firstMisfit 4 = .ok (.getfield 13, 3) := by decide +kernel
theorem dX2_firstMisfit_7 : decode cX2_firstMisfit 7 = .ok (.if_icmp .ge 19, 3) := by decide +kernel
theorem dX2_firstMisfit_10 : decode cX2_firstMisfit 10 = .ok (.aload_n 0, 1) := by decide +kernel
theorem dX2_firstMisfit_11 : decode cX2_firstMisfit 11 = .ok (.iload_n 1, 1) := by decide +kernel
theorem dX2_firstMisfit_12 : decode cX2_firstMisfit 12 = .ok (.invokevirtual 21, 3) := by decide +kernel
theorem dX2_firstMisfit_15 : decode cX2_firstMisfit 15 = .ok (.ifCond .ne 5, 3) := by decide +kernel
theorem dX2_firstMisfit_18 : decode cX2_firstMisfit 18 = .ok (.iload_n 1, 1) := by decide +kernel
theorem dX2_firstMisfit_19 : decode cX2_firstMisfit 19 = .ok (.ireturn, 1) := by decide +kernel
theorem dX2_firstMisfit_20 : decode cX2_firstMisfit 20 = .ok (.iinc 1 1, 3) := by decide +kernel
theorem dX2_firstMisfit_23 : decode cX2_firstMisfit 23 = .ok (.goto (-21), 3) := by decide +kernel
theorem dX2_firstMisfit_26 : decode cX2_firstMisfit 26 = .ok (.aload_n 0, 1) := by decide +kernel
theorem dX2_firstMisfit_27 : decode cX2_firstMisfit 27 = .ok (.getfield 13, 3) := by decide +kernel
theorem dX2_firstMisfit_30 : decode cX2_firstMisfit 30 = .ok (.ireturn, 1) := by decide +kernel
set_option maxRecDepth 20000 in
theorem ggX2_isSchool_X2_children : GoodIn wsX2_isSchool wsX2_children := goodIn_r _ [6, 1, 105, 106] (by decide +kernel) (by decide +kernel)
set_option maxRecDepth 20000 in
theorem gX2_isSchool_X2_children : GoodIn wsX2_isSchool (wsV RX2 25 RX2 yX2_children wsX2_children) := goodIn_app (goodIn_of _ (by decide +kernel)) ggX2_isSchool_X2_children
set_option maxRecDepth 20000 in
theorem ggX2_isSchool_X2_firstMisfit : GoodIn wsX2_isSchool wsX2_firstMisfit := goodIn_r _ [10, 1, 11, 12, 13, 5, 14, 15, 16, 17, 18, 19, 20, 21, 22, 23, 24, 25, 26, 27, 28, 29, 30, 31, 32, 33, 34, 35, 36, 37, 38, 39, 40, 41, 42, 43, 44, 45, 46, 47, 48, 49, 50, 51, 52, 53, 54, 55, 56, 57, 58, 59, 60, 61, 62, 63, 64, 65, 66, 67, 68, 69, 70, 71, 72, 73, 74, 75, 76, 77, 78, 79, 80, 81, 82, 83, 84, 85, 86, 87, 88, 89, 90, 91, 92, 93, 94, 95, 96, 97, 98, 99, 100, 101, 102, 103, 104, 105, 106] (by decide +kernel) (by decide +kernel)
set_option maxRecDepth 20000 in
theorem gX2_isSchool_X2_firstMisfit : GoodIn wsX2_isSchool (wsV RX2 29 RX2 yX2_firstMisfit wsX2_firstMisfit) := goodIn_app (goodIn_of _ (by decide +kernel)) ggX2_isSchool_X2_firstMisfit
theorem dX2_isSchool_0 : decode cX2_isSchool 0 = .ok (.aload_n 0, 1) := by decide +kernel
theorem dX2_isSchool_1 : decode cX2_isSchool 1 = .ok (.getfield 13, 3) := by decide +kernel
theorem dX2_isSchool_4 : decode cX2_isSchool 4 = .ok (.iconst 3, 1) := by decide +kernel
theorem dX2_isSchool_5 : decode cX2_isSchool 5 = .ok (.irem, 1) := by decide +kernel
theorem dX2_isSchool_6 : decode cX2_isSchool 6 = .ok (.iconst 2, 1) := by decide +kernel
theorem dX2_isSchool_7 : decode cX2_isSchool 7 = .ok (.if_icmp .ne 26, 3) := by decide +kernel
theorem dX2_isSchool_10 : decode cX2_isSchool 10 = .ok (.aload_n 0, 1) := by decide +kernel
theorem dX2_isSchool_11 : decode cX2_isSchool 11 = .ok (.invokevirtual 25, 3) := by decide +kernel
theorem dX2_isSchool_14 : decode cX2_isSchool 14 = .ok (.iconst 2, 1) := by decide +kernel
theorem dX2_isSchool_15 : decode cX2_isSchool 15 = .ok (.if_icmp .lt 18, 3) := by decide +kernel
theorem dX2_isSchool_18 : decode cX2_isSchool 18 = .ok (.aload_n 0, 1) := by decide +kernel
theorem dX2_isSchool_19 : decode cX2_isSchool 19 = .ok (.invokevirtual 29, 3) := by decide +kernel
theorem dX2_isSchool_22 : decode cX2_isSchool 22 = .ok (.aload_n 0, 1) := by decide +kernel
theorem dX2_isSchool_23 : decode cX2_isSchool 23 = .ok (.getfield 13, 3) := by decide +kernel
theorem dX2_isSchool_26 : decode cX2_isSchool 26 = .ok (.if_icmp .ne 7, 3) := by decide +kernel
theorem dX2_isSchool_29 : decode cX2_isSchool 29 = .ok (.iconst 1, 1) := by decide +kernel
theorem dX2_isSchool_30 : decode cX2_isSchool 30 = .ok (.goto 4, 3) := by decide +kernel
theorem dX2_isSchool_33 : decode cX2_isSchool 33 = .ok (.iconst 0, 1) := by decide +kernel
theorem dX2_isSchool_34 : decode cX2_isSchool 34 = .ok (.ireturn, 1) := by decide +kernel
theorem dX2_children_0 : decode cX2_children 0 = .ok (.aload_n 0, 1) := by decide +kernel
theorem dX2_children_1 : decode cX2_children 1 = .ok (.getfield 13, 3) := by decide +kernel
theorem dX2_children_4 : decode cX2_children 4 = .ok (.iconst 1, 1) := by decide +kernel
theorem dX2_children_5 : decode cX2_children 5 = .ok (.iadd, 1) := by decide +kernel
theorem dX2_children_6 : decode cX2_children 6 = .ok (.iconst 3, 1) := by decide +kernel
theorem dX2_children_7 : decode cX2_children 7 = .ok (.idiv, 1) := by decide +kernel
theorem dX2_children_8 : decode cX2_children 8 = .ok (.ireturn, 1) := by decide +kernel
set_option maxRecDepth 20000 in
theorem ggX2_kindOf_J0_indexOf_0f7a4 : GoodIn wsX2_kindOf wsJ0_indexOf_0f7a4 := goodIn_r _ [6, 7, 8, 9, 5, 10, 11, 12, 13, 14, 15, 16, 17, 18, 19, 20, 21, 22, 23, 24, 25, 26, 27, 28, 29, 30, 31, 32, 33, 34, 35, 36, 37, 38, 39, 40, 41, 42, 43, 44, 45, 46, 47, 48, 49, 50, 51, 52, 53, 54, 55, 56, 57, 58, 59, 60, 61, 62, 63, 64, 65, 66, 67, 68, 69, 70, 71, 72, 73, 74, 75, 76, 77, 78, 79, 80, 81, 82, 83, 84, 85, 86, 87, 88, 89, 90] (by decide +kernel) (by decide +kernel)
set_option maxRecDepth 20000 in
theorem gX2_kindOf_J0_indexOf_0f7a4 : GoodIn wsX2_kindOf (wsV RX2 36 RJ0 yJ0_indexOf_0f7a4 wsJ0_indexOf_0f7a4) := goodIn_app (goodIn_of _ (by decide +kernel)) ggX2_kindOf_J0_indexOf_0f7a4
theorem dX2_kindOf_0 : decode cX2_kindOf 0 = .ok (.ldc 34, 2) := by decide +kernel
theorem dX2_kindOf_2 : decode cX2_kindOf 2 = .ok (.aload_n 0, 1) := by decide +kernel
theorem dX2_kindOf_3 : decode cX2_kindOf 3 = .ok (.getfield 9, 3) := by decide +kernel
theorem dX2_kindOf_6 : decode cX2_kindOf 6 = .ok (.iconst 3, 1) := by decide +kernel
theorem dX2_kindOf_7 : decode cX2_kindOf 7 = .ok (.iload_n 1, 1) := by decide +kernel
theorem dX2_kindOf_8 : decode cX2_kindOf 8 = .ok (.imul, 1) := by decide +kernel
theorem dX2_kindOf_9 : decode cX2_kindOf 9 = .ok (.iaload, 1) := by decide +kernel
theorem dX2_kindOf_10 : decode cX2_kindOf 10 = .ok (.i2c, 1) := by decide +kernel
theorem dX2_kindOf_11 : decode cX2_kindOf 11 = .ok (.invokevirtual 36, 3) := by decide +kernel
theorem dX2_kindOf_14 : decode cX2_kindOf 14 = .ok (.ireturn, 1) := by decide +kernel
theorem dX2_slipOf_0 : decode cX2_slipOf 0 = .ok (.aload_n 0, 1) := by decide +kernel
theorem dX2_slipOf_1 : decode cX2_slipOf 1 = .ok (.getfield 9, 3) := by decide +kernel
theorem dX2_slipOf_4 : decode cX2_slipOf 4 = .ok (.iconst 3, 1) := by decide +kernel
theorem dX2_slipOf_5 : decode cX2_slipOf 5 = .ok (.iload_n 1, 1) := by decide +kernel
theorem dX2_slipOf_6 : decode cX2_slipOf 6 = .ok (.imul, 1) := by decide +kernel
theorem dX2_slipOf_7 : decode cX2_slipOf 7 = .ok (.iconst 1, 1) := by decide +kernel
theorem dX2_slipOf_8 : decode cX2_slipOf 8 = .ok (.iadd, 1) := by decide +kernel
theorem dX2_slipOf_9 : decode cX2_slipOf 9 = .ok (.iaload, 1) := by decide +kernel
theorem dX2_slipOf_10 : decode cX2_slipOf 10 = .ok (.bipush 48, 2) := by decide +kernel
theorem dX2_slipOf_12 : decode cX2_slipOf 12 = .ok (.isub, 1) := by decide +kernel
theorem dX2_slipOf_13 : decode cX2_slipOf 13 = .ok (.ireturn, 1) := by decide +kernel
set_option maxRecDepth 20000 in
theorem ggX2_fits_J0_indexOf_0f7a4 : GoodIn wsX2_fits wsJ0_indexOf_0f7a4 := goodIn_r _ [6, 7, 8, 9, 5, 10, 11, 12, 13, 14, 15, 16, 17, 18, 19, 20, 21, 22, 23, 24, 25, 26, 27, 28, 29, 30, 31, 32, 33, 34, 35, 36, 37, 38, 39, 40, 41, 42, 43, 44, 45, 46, 47, 48, 49, 50, 51, 52, 53, 54, 55, 56, 57, 58, 59, 60, 61, 62, 63, 64, 65, 66, 67, 68, 69, 70, 71, 72, 73, 74, 75, 76, 77, 78, 79, 80, 81, 82, 83, 84, 85, 86, 87, 88, 89, 90] (by decide +kernel) (by decide +kernel)
set_option maxRecDepth 20000 in
theorem gX2_fits_J0_indexOf_0f7a4 : GoodIn wsX2_fits (wsV RX2 36 RJ0 yJ0_indexOf_0f7a4 wsJ0_indexOf_0f7a4) := goodIn_app (goodIn_of _ (by decide +kernel)) ggX2_fits_J0_indexOf_0f7a4
theorem dX2_fits_0 : decode cX2_fits 0 = .ok (.aload_n 0, 1) := by decide +kernel
theorem dX2_fits_1 : decode cX2_fits 1 = .ok (.getfield 9, 3) := by decide +kernel
theorem dX2_fits_4 : decode cX2_fits 4 = .ok (.iload_n 1, 1) := by decide +kernel
theorem dX2_fits_5 : decode cX2_fits 5 = .ok (.iaload, 1) := by decide +kernel
theorem dX2_fits_6 : decode cX2_fits 6 = .ok (.istore_n 2, 1) := by decide +kernel
theorem dX2_fits_7 : decode cX2_fits 7 = .ok (.iload_n 1, 1) := by decide +kernel
theorem dX2_fits_8 : decode cX2_fits 8 = .ok (.iconst 3, 1) := by decide +kernel
theorem dX2_fits_9 : decode cX2_fits 9 = .ok (.irem, 1) := by decide +kernel
theorem dX2_fits_10 : decode cX2_fits 10 = .ok (.lookupswitch 68 #[(0, 26), (1, 50)], 26) := by decide +kernel
theorem dX2_fits_36 : decode cX2_fits 36 = .ok (.iload_n 1, 1) := by decide +kernel
theorem dX2_fits_37 : decode cX2_fits 37 = .ok (.iconst 3, 1) := by decide +kernel
theorem dX2_fits_38 : decode cX2_fits 38 = .ok (.idiv, 1) := by decide +kernel
theorem dX2_fits_39 : decode cX2_fits 39 = .ok (.bipush 6, 2) := by decide +kernel
theorem dX2_fits_41 : decode cX2_fits 41 = .ok (.if_icmp .ge 17, 3) := by decide +kernel
theorem dX2_fits_44 : decode cX2_fits 44 = .ok (.ldc 34, 2) := by decide +kernel
theorem dX2_fits_46 : decode cX2_fits 46 = .ok (.iload_n 2, 1) := by decide +kernel
theorem dX2_fits_47 : decode cX2_fits 47 = .ok (.i2c, 1) := by decide +kernel
theorem dX2_fits_48 : decode cX2_fits 48 = .ok (.invokevirtual 36, 3) := by decide +kernel
theorem dX2_fits_51 : decode cX2_fits 51 = .ok (.ifCond .lt 7, 3) := by decide +kernel
theorem dX2_fits_54 : decode cX2_fits 54 = .ok (.iconst 1, 1) := by decide +kernel
theorem dX2_fits_55 : decode cX2_fits 55 = .ok (.goto 4, 3) := by decide +kernel
theorem dX2_fits_58 : decode cX2_fits 58 = .ok (.iconst 0, 1) := by decide +kernel
theorem dX2_fits_59 : decode cX2_fits 59 = .ok (.ireturn, 1) := by decide +kernel
theorem dX2_fits_60 : decode cX2_fits 60 = .ok (.iload_n 2, 1) := by decide +kernel
theorem dX2_fits_61 : decode cX2_fits 61 = .ok (.bipush 48, 2) := by decide +kernel
theorem dX2_fits_63 : decode cX2_fits 63 = .ok (.if_icmp .lt 13, 3) := by decide +kernel
theorem dX2_fits_66 : decode cX2_fits 66 = .ok (.iload_n 2, 1) := by decide +kernel
theorem dX2_fits_67 : decode cX2_fits 67 = .ok (.bipush 57, 2) := by decide +kernel
theorem dX2_fits_69 : decode cX2_fits 69 = .ok (.if_icmp .gt 7, 3) := by decide +kernel
theorem dX2_fits_72 : decode cX2_fits 72 = .ok (.iconst 1, 1) := by decide +kernel
theorem dX2_fits_73 : decode cX2_fits 73 = .ok (.goto 4, 3) := by decide +kernel
theorem dX2_fits_76 : decode cX2_fits 76 = .ok (.iconst 0, 1) := by decide +kernel
theorem dX2_fits_77 : decode cX2_fits 77 = .ok (.ireturn, 1) := by decide +kernel
theorem dX2_fits_78 : decode cX2_fits 78 = .ok (.iload_n 1, 1) := by decide +kernel
theorem dX2_fits_79 : decode cX2_fits 79 = .ok (.iconst 3, 1) := by decide +kernel
theorem dX2_fits_80 : decode cX2_fits 80 = .ok (.idiv, 1) := by decide +kernel
theorem dX2_fits_81 : decode cX2_fits 81 = .ok (.iconst 5, 1) := by decide +kernel
theorem dX2_fits_82 : decode cX2_fits 82 = .ok (.if_icmp .ge 13, 3) := by decide +kernel
theorem dX2_fits_85 : decode cX2_fits 85 = .ok (.iload_n 2, 1) := by decide +kernel
theorem dX2_fits_86 : decode cX2_fits 86 = .ok (.bipush 44, 2) := by decide +kernel
theorem dX2_fits_88 : decode cX2_fits 88 = .ok (.if_icmp .ne 7, 3) := by decide +kernel
theorem dX2_fits_91 : decode cX2_fits 91 = .ok (.iconst 1, 1) := by decide +kernel
theorem dX2_fits_92 : decode cX2_fits 92 = .ok (.goto 4, 3) := by decide +kernel
theorem dX2_fits_95 : decode cX2_fits 95 = .ok (.iconst 0, 1) := by decide +kernel
theorem dX2_fits_96 : decode cX2_fits 96 = .ok (.ireturn, 1) := by decide +kernel
theorem dX3_init_0 : decode cX3_init 0 = .ok (.aload_n 0, 1) := by decide +kernel
theorem dX3_init_1 : decode cX3_init 1 = .ok (.invokespecial 3, 3) := by decide +kernel
theorem dX3_init_4 : decode cX3_init 4 = .ok (.aload_n 0, 1) := by decide +kernel
theorem dX3_init_5 : decode cX3_init 5 = .ok (.bipush 6, 2) := by decide +kernel
theorem dX3_init_7 : decode cX3_init 7 = .ok (.newarray .int, 2) := by decide +kernel
theorem dX3_init_9 : decode cX3_init 9 = .ok (.putfield 11, 3) := by decide +kernel
theorem dX3_init_12 : decode cX3_init 12 = .ok (.aload_n 0, 1) := by decide +kernel
theorem dX3_init_13 : decode cX3_init 13 = .ok (.bipush 6, 2) := by decide +kernel
theorem dX3_init_15 : decode cX3_init 15 = .ok (.newarray .int, 2) := by decide +kernel
theorem dX3_init_17 : decode cX3_init 17 = .ok (.putfield 15, 3) := by decide +kernel
theorem dX3_init_20 : decode cX3_init 20 = .ok (.aload_n 0, 1) := by decide +kernel
theorem dX3_init_21 : decode cX3_init 21 = .ok (.bipush 6, 2) := by decide +kernel
theorem dX3_init_23 : decode cX3_init 23 = .ok (.newarray .int, 2) := by decide +kernel
theorem dX3_init_25 : decode cX3_init 25 = .ok (.putfield 18, 3) := by decide +kernel
theorem dX3_init_28 : decode cX3_init 28 = .ok (.aload_n 0, 1) := by decide +kernel
theorem dX3_init_29 : decode cX3_init 29 = .ok (.bipush 6, 2) := by decide +kernel
theorem dX3_init_31 : decode cX3_init 31 = .ok (.newarray .boolean, 2) := by decide +kernel
theorem dX3_init_33 : decode cX3_init 33 = .ok (.putfield 21, 3) := by decide +kernel
theorem dX3_init_36 : decode cX3_init 36 = .ok (.aload_n 0, 1) := by decide +kernel
theorem dX3_init_37 : decode cX3_init 37 = .ok (.bipush 8, 2) := by decide +kernel
theorem dX3_init_39 : decode cX3_init 39 = .ok (.newarray .int, 2) := by decide +kernel
theorem dX3_init_41 : decode cX3_init 41 = .ok (.putfield 25, 3) := by decide +kernel
theorem dX3_init_44 : decode cX3_init 44 = .ok (.aload_n 0, 1) := by decide +kernel
theorem dX3_init_45 : decode cX3_init 45 = .ok (.bipush 8, 2) := by decide +kernel
theorem dX3_init_47 : decode cX3_init 47 = .ok (.newarray .int, 2) := by decide +kernel
theorem dX3_init_49 : decode cX3_init 49 = .ok (.putfield 28, 3) := by decide +kernel
theorem dX3_init_52 : decode cX3_init 52 = .ok (.aload_n 0, 1) := by decide +kernel
theorem dX3_init_53 : decode cX3_init 53 = .ok (.bipush 8, 2) := by decide +kernel
theorem dX3_init_55 : decode cX3_init 55 = .ok (.newarray .int, 2) := by decide +kernel
theorem dX3_init_57 : decode cX3_init 57 = .ok (.putfield 31, 3) := by decide +kernel
theorem dX3_init_60 : decode cX3_init 60 = .ok (.aload_n 0, 1) := by decide +kernel
theorem dX3_init_61 : decode cX3_init 61 = .ok (.iconst 0, 1) := by decide +kernel
theorem dX3_init_62 : decode cX3_init 62 = .ok (.putfield 34, 3) := by decide +kernel
theorem dX3_init_65 : decode cX3_init 65 = .ok (.aload_n 0, 1) := by decide +kernel
theorem dX3_init_66 : decode cX3_init 66 = .ok (.iconst 0, 1) := by decide +kernel
theorem dX3_init_67 : decode cX3_init 67 = .ok (.putfield 38, 3) := by decide +kernel
theorem dX3_init_70 : decode cX3_init 70 = .ok (.aload_n 0, 1) := by decide +kernel
theorem dX3_init_71 : decode cX3_init 71 = .ok (.iconst 0, 1) := by decide +kernel
theorem dX3_init_72 : decode cX3_init 72 = .ok (.putfield 41, 3) := by decide +kernel
theorem dX3_init_75 : decode cX3_init 75 = .ok (.aload_n 0, 1) := by decide +kernel
theorem dX3_init_76 : decode cX3_init 76 = .ok (.iconst 0, 1) := by decide +kernel
theorem dX3_init_77 : decode cX3_init 77 = .ok (.putfield 44, 3) := by decide +kernel
theorem dX3_init_80 : decode cX3_init 80 = .ok (.return_, 1) := by decide +kernel
theorem dX3_isNone_0 : decode cX3_isNone 0 = .ok (.aload_n 0, 1) := by decide +kernel
theorem dX3_isNone_1 : decode cX3_isNone 1 = .ok (.getfield 34, 3) := by decide +kernel
theorem dX3_isNone_4 : decode cX3_isNone 4 = .ok (.ifCond .ne 7, 3) := by decide +kernel
theorem dX3_isNone_7 : decode cX3_isNone 7 = .ok (.iconst 1, 1) := by decide +kernel
theorem dX3_isNone_8 : decode cX3_isNone 8 = .ok (.goto 4, 3) := by decide +kernel
theorem dX3_isNone_11 : decode cX3_isNone 11 = .ok (.iconst 0, 1) := by decide +kernel
theorem dX3_isNone_12 : decode cX3_isNone 12 = .ok (.ireturn, 1) := by decide +kernel
theorem dX3_has_0 : decode cX3_has 0 = .ok (.iload_n 1, 1) := by decide +kernel
theorem dX3_has_1 : decode cX3_has 1 = .ok (.ifCond .lt 15, 3) := by decide +kernel
theorem dX3_has_4 : decode cX3_has 4 = .ok (.iload_n 1, 1) := by decide +kernel
theorem dX3_has_5 : decode cX3_has 5 = .ok (.aload_n 0, 1) := by decide +kernel
theorem dX3_has_6 : decode cX3_has 6 = .ok (.getfield 34, 3) := by decide +kernel
theorem dX3_has_9 : decode cX3_has 9 = .ok (.if_icmp .ge 7, 3) := by decide +kernel
theorem dX3_has_12 : decode cX3_has 12 = .ok (.iconst 1, 1) := by decide +kernel
theorem dX3_has_13 : decode cX3_has 13 = .ok (.goto 4, 3) := by decide +kernel
theorem dX3_has_16 : decode cX3_has 16 = .ok (.iconst 0, 1) := by decide +kernel
theorem dX3_has_17 : decode cX3_has 17 = .ok (.ireturn, 1) := by decide +kernel
theorem dX3_top_0 : decode cX3_top 0 = .ok (.aload_n 0, 1) := by decide +kernel
theorem dX3_top_1 : decode cX3_top 1 = .ok (.getfield 34, 3) := by decide +kernel
theorem dX3_top_4 : decode cX3_top 4 = .ok (.iconst 1, 1) := by decide +kernel
theorem dX3_top_5 : decode cX3_top 5 = .ok (.isub, 1) := by decide +kernel
theorem dX3_top_6 : decode cX3_top 6 = .ok (.ireturn, 1) := by decide +kernel
set_option maxRecDepth 20000 in
theorem ggX3_readFrom_X2_children : GoodIn wsX3_readFrom wsX2_children := goodIn_r _ [17, 18, 125, 126] (by decide +kernel) (by decide +kernel)
set_option maxRecDepth 20000 in
theorem gX3_readFrom_X2_children : GoodIn wsX3_readFrom (wsV RX3 47 RX2 yX2_children wsX2_children) := goodIn_app (goodIn_of _ (by decide +kernel)) ggX3_readFrom_X2_children
set_option maxRecDepth 20000 in
theorem ggX3_readFrom_X2_kindOf : GoodIn wsX3_readFrom wsX2_kindOf := goodIn_r _ [22, 23, 24, 25, 26, 27, 28, 29, 30, 31, 32, 33, 34, 35, 36, 37, 38, 39, 40, 41, 42, 43, 44, 45, 46, 47, 48, 49, 50, 51, 52, 53, 3, 54, 55, 2, 4, 56, 57, 58, 59, 60, 61, 62, 63, 64, 65, 66, 67, 68, 69, 70, 71, 72, 73, 74, 75, 76, 77, 78, 79, 80, 81, 82, 83, 84, 85, 86, 87, 88, 89, 90, 91, 92, 93, 94, 95, 96, 97, 98, 99, 100, 101, 102, 103, 104, 105, 106, 107, 108, 109, 125, 126] (by decide +kernel) (by decide +kernel)
set_option maxRecDepth 20000 in
theorem gX3_readFrom_X2_kindOf : GoodIn wsX3_readFrom (wsV RX3 59 RX2 yX2_kindOf wsX2_kindOf) := goodIn_app (goodIn_of _ (by decide +kernel)) ggX3_readFrom_X2_kindOf
set_option maxRecDepth 20000 in
theorem ggX3_readFrom_X2_slipOf : GoodIn wsX3_readFrom wsX2_slipOf := goodIn_r _ [113, 23, 125, 126] (by decide +kernel) (by decide +kernel)
set_option maxRecDepth 20000 in
theorem gX3_readFrom_X2_slipOf : GoodIn wsX3_readFrom (wsV RX3 63 RX2 yX2_slipOf wsX2_slipOf) := goodIn_app (goodIn_of _ (by decide +kernel)) ggX3_readFrom_X2_slipOf
theorem dX3_readFrom_0 : decode cX3_readFrom 0 = .ok (.aload_n 0, 1) := by decide +kernel
theorem dX3_readFrom_1 : decode cX3_readFrom 1 = .ok (.aload_n 1, 1) := by decide +kernel
theorem dX3_readFrom_2 : decode cX3_readFrom 2 = .ok (.invokevirtual 47, 3) := by decide +kernel
theorem dX3_readFrom_5 : decode cX3_readFrom 5 = .ok (.bipush 6, 2) := by decide +kernel
theorem dX3_readFrom_7 : decode cX3_readFrom 7 = .ok (.invokestatic 53, 3) := by decide +kernel
theorem dX3_readFrom_10 : decode cX3_readFrom 10 = .ok (.putfield 34, 3) := by decide +kernel
theorem dX3_readFrom_13 : decode cX3_readFrom 13 = .ok (.aload_n 0, 1) := by decide +kernel
theorem dX3_readFrom_14 : decode cX3_readFrom 14 = .ok (.iconst 0, 1) := by decide +kernel
theorem dX3_readFrom_15 : decode cX3_readFrom 15 = .ok (.putfield 38, 3) := by decide +kernel
theorem dX3_readFrom_18 : decode cX3_readFrom 18 = .ok (.aload_n 0, 1) := by decide +kernel
theorem dX3_readFrom_19 : decode cX3_readFrom 19 = .ok (.iconst 0, 1) := by decide +kernel
theorem dX3_readFrom_20 : decode cX3_readFrom 20 = .ok (.putfield 41, 3) := by decide +kernel
theorem dX3_readFrom_23 : decode cX3_readFrom 23 = .ok (.aload_n 0, 1) := by decide +kernel
theorem dX3_readFrom_24 : decode cX3_readFrom 24 = .ok (.iconst 0, 1) := by decide +kernel
theorem dX3_readFrom_25 : decode cX3_readFrom 25 = .ok (.putfield 44, 3) := by decide +kernel
theorem dX3_readFrom_28 : decode cX3_readFrom 28 = .ok (.iconst 0, 1) := by decide +kernel
theorem dX3_readFrom_29 : decode cX3_readFrom 29 = .ok (.istore_n 2, 1) := by decide +kernel
theorem dX3_readFrom_30 : decode cX3_readFrom 30 = .ok (.iload_n 2, 1) := by decide +kernel
theorem dX3_readFrom_31 : decode cX3_readFrom 31 = .ok (.aload_n 0, 1) := by decide +kernel
theorem dX3_readFrom_32 : decode cX3_readFrom 32 = .ok (.getfield 34, 3) := by decide +kernel
theorem dX3_readFrom_35 : decode cX3_readFrom 35 = .ok (.if_icmp .ge 45, 3) := by decide +kernel
theorem dX3_readFrom_38 : decode cX3_readFrom 38 = .ok (.aload_n 0, 1) := by decide +kernel
theorem dX3_readFrom_39 : decode cX3_readFrom 39 = .ok (.getfield 11, 3) := by decide +kernel
theorem dX3_readFrom_42 : decode cX3_readFrom 42 = .ok (.iload_n 2, 1) := by decide +kernel
theorem dX3_readFrom_43 : decode cX3_readFrom 43 = .ok (.aload_n 1, 1) := by decide +kernel
theorem dX3_readFrom_44 : decode cX3_readFrom 44 = .ok (.iload_n 2, 1) := by decide +kernel
theorem dX3_readFrom_45 : decode cX3_readFrom 45 = .ok (.invokevirtual 59, 3) := by decide +kernel
theorem dX3_readFrom_48 : decode cX3_readFrom 48 = .ok (.iastore, 1) := by decide +kernel
theorem dX3_readFrom_49 : decode cX3_readFrom 49 = .ok (.aload_n 0, 1) := by decide +kernel
theorem dX3_readFrom_50 : decode cX3_readFrom 50 = .ok (.getfield 15, 3) := by decide +kernel
theorem dX3_readFrom_53 : decode cX3_readFrom 53 = .ok (.iload_n 2, 1) := by decide +kernel
theorem dX3_readFrom_54 : decode cX3_readFrom 54 = .ok (.aload_n 1, 1) := by decide +kernel
theorem dX3_readFrom_55 : decode cX3_readFrom 55 = .ok (.iload_n 2, 1) := by decide +kernel
theorem dX3_readFrom_56 : decode cX3_readFrom 56 = .ok (.invokevirtual 63, 3) := by decide +kernel
theorem dX3_readFrom_59 : decode cX3_readFrom 59 = .ok (.iastore, 1) := by decide +kernel
theorem dX3_readFrom_60 : decode cX3_readFrom 60 = .ok (.aload_n 0, 1) := by decide +kernel
theorem dX3_readFrom_61 : decode cX3_readFrom 61 = .ok (.getfield 18, 3) := by decide +kernel
theorem dX3_readFrom_64 : decode cX3_readFrom 64 = .ok (.iload_n 2, 1) := by decide +kernel
theorem dX3_readFrom_65 : decode cX3_readFrom 65 = .ok (.iconst (-1), 1) := by decide +kernel
theorem dX3_readFrom_66 : decode cX3_readFrom 66 = .ok (.iastore, 1) := by decide +kernel
theorem dX3_readFrom_67 : decode cX3_readFrom 67 = .ok (.aload_n 0, 1) := by decide +kernel
theorem dX3_readFrom_68 : decode cX3_readFrom 68 = .ok (.getfield 21, 3) := by decide +kernel
theorem dX3_readFrom_71 : decode cX3_readFrom 71 = .ok (.iload_n 2, 1) := by decide +kernel
theorem dX3_readFrom_72 : decode cX3_readFrom 72 = .ok (.iconst 0, 1) := by decide +kernel
theorem dX3_readFrom_73 : decode cX3_readFrom 73 = .ok (.bastore, 1) := by decide +kernel
theorem dX3_readFrom_74 : decode cX3_readFrom 74 = .ok (.iinc 2 1, 3) := by decide +kernel
theorem dX3_readFrom_77 : decode cX3_readFrom 77 = .ok (.goto (-47), 3) := by decide +kernel
theorem dX3_readFrom_80 : decode cX3_readFrom 80 = .ok (.return_, 1) := by decide +kernel
theorem dX3_copyFrom_0 : decode cX3_copyFrom 0 = .ok (.aload_n 0, 1) := by decide +kernel
theorem dX3_copyFrom_1 : decode cX3_copyFrom 1 = .ok (.aload_n 1, 1) := by decide +kernel
theorem dX3_copyFrom_2 : decode cX3_copyFrom 2 = .ok (.getfield 34, 3) := by decide +kernel
theorem dX3_copyFrom_5 : decode cX3_copyFrom 5 = .ok (.putfield 34, 3) := by decide +kernel
theorem dX3_copyFrom_8 : decode cX3_copyFrom 8 = .ok (.aload_n 0, 1) := by decide +kernel
theorem dX3_copyFrom_9 : decode cX3_copyFrom 9 = .ok (.aload_n 1, 1) := by decide +kernel
theorem dX3_copyFrom_10 : decode cX3_copyFrom 10 = .ok (.getfield 38, 3) := by decide +kernel
theorem dX3_copyFrom_13 : decode cX3_copyFrom 13 = .ok (.putfield 38, 3) := by decide +kernel
theorem dX3_copyFrom_16 : decode cX3_copyFrom 16 = .ok (.aload_n 0, 1) := by decide +kernel
theorem dX3_copyFrom_17 : decode cX3_copyFrom 17 = .ok (.aload_n 1, 1) := by decide +kernel
theorem dX3_copyFrom_18 : decode cX3_copyFrom 18 = .ok (.getfield 41, 3) := by decide +kernel
theorem dX3_copyFrom_21 : decode cX3_copyFrom 21 = .ok (.putfield 41, 3) := by decide +kernel
theorem dX3_copyFrom_24 : decode cX3_copyFrom 24 = .ok (.aload_n 0, 1) := by decide +kernel
theorem dX3_copyFrom_25 : decode cX3_copyFrom 25 = .ok (.aload_n 1, 1) := by decide +kernel
theorem dX3_copyFrom_26 : decode cX3_copyFrom 26 = .ok (.getfield 44, 3) := by decide +kernel
theorem dX3_copyFrom_29 : decode cX3_copyFrom 29 = .ok (.putfield 44, 3) := by decide +kernel
theorem dX3_copyFrom_32 : decode cX3_copyFrom 32 = .ok (.iconst 0, 1) := by decide +kernel
theorem dX3_copyFrom_33 : decode cX3_copyFrom 33 = .ok (.istore_n 2, 1) := by decide +kernel
theorem dX3_copyFrom_34 : decode cX3_copyFrom 34 = .ok (.iload_n 2, 1) := by decide +kernel
theorem dX3_copyFrom_35 : decode cX3_copyFrom 35 = .ok (.bipush 6, 2) := by decide +kernel
theorem dX3_copyFrom_37 : decode cX3_copyFrom 37 = .ok (.if_icmp .ge 57, 3) := by decide +kernel
theorem dX3_copyFrom_40 : decode cX3_copyFrom 40 = .ok (.aload_n 0, 1) := by decide +kernel
theorem dX3_copyFrom_41 : decode cX3_copyFrom 41 = .ok (.getfield 11, 3) := by decide +kernel
theorem dX3_copyFrom_44 : decode cX3_copyFrom 44 = .ok (.iload_n 2, 1) := by decide +kernel
theorem dX3_copyFrom_45 : decode cX3_copyFrom 45 = .ok (.aload_n 1, 1) := by decide +kernel
theorem dX3_copyFrom_46 : decode cX3_copyFrom 46 = .ok (.getfield 11, 3) := by decide +kernel
theorem dX3_copyFrom_49 : decode cX3_copyFrom 49 = .ok (.iload_n 2, 1) := by decide +kernel
theorem dX3_copyFrom_50 : decode cX3_copyFrom 50 = .ok (.iaload, 1) := by decide +kernel
theorem dX3_copyFrom_51 : decode cX3_copyFrom 51 = .ok (.iastore, 1) := by decide +kernel
theorem dX3_copyFrom_52 : decode cX3_copyFrom 52 = .ok (.aload_n 0, 1) := by decide +kernel
theorem dX3_copyFrom_53 : decode cX3_copyFrom 53 = .ok (.getfield 15, 3) := by decide +kernel
theorem dX3_copyFrom_56 : decode cX3_copyFrom 56 = .ok (.iload_n 2, 1) := by decide +kernel
theorem dX3_copyFrom_57 : decode cX3_copyFrom 57 = .ok (.aload_n 1, 1) := by decide +kernel
theorem dX3_copyFrom_58 : decode cX3_copyFrom 58 = .ok (.getfield 15, 3) := by decide +kernel
theorem dX3_copyFrom_61 : decode cX3_copyFrom 61 = .ok (.iload_n 2, 1) := by decide +kernel
theorem dX3_copyFrom_62 : decode cX3_copyFrom 62 = .ok (.iaload, 1) := by decide +kernel
theorem dX3_copyFrom_63 : decode cX3_copyFrom 63 = .ok (.iastore, 1) := by decide +kernel
theorem dX3_copyFrom_64 : decode cX3_copyFrom 64 = .ok (.aload_n 0, 1) := by decide +kernel
theorem dX3_copyFrom_65 : decode cX3_copyFrom 65 = .ok (.getfield 18, 3) := by decide +kernel
theorem dX3_copyFrom_68 : decode cX3_copyFrom 68 = .ok (.iload_n 2, 1) := by decide +kernel
theorem dX3_copyFrom_69 : decode cX3_copyFrom 69 = .ok (.aload_n 1, 1) := by decide +kernel
theorem dX3_copyFrom_70 : decode cX3_copyFrom 70 = .ok (.getfield 18, 3) := by decide +kernel
theorem dX3_copyFrom_73 : decode cX3_copyFrom 73 = .ok (.iload_n 2, 1) := by decide +kernel
theorem dX3_copyFrom_74 : decode cX3_copyFrom 74 = .ok (.iaload, 1) := by decide +kernel
theorem dX3_copyFrom_75 : decode cX3_copyFrom 75 = .ok (.iastore, 1) := by decide +kernel
theorem dX3_copyFrom_76 : decode cX3_copyFrom 76 = .ok (.aload_n 0, 1) := by decide +kernel
theorem dX3_copyFrom_77 : decode cX3_copyFrom 77 = .ok (.getfield 21, 3) := by decide +kernel
theorem dX3_copyFrom_80 : decode cX3_copyFrom 80 = .ok (.iload_n 2, 1) := by decide +kernel
theorem dX3_copyFrom_81 : decode cX3_copyFrom 81 = .ok (.aload_n 1, 1) := by decide +kernel
theorem dX3_copyFrom_82 : decode cX3_copyFrom 82 = .ok (.getfield 21, 3) := by decide +kernel
theorem dX3_copyFrom_85 : decode cX3_copyFrom 85 = .ok (.iload_n 2, 1) := by decide +kernel
theorem dX3_copyFrom_86 : decode cX3_copyFrom 86 = .ok (.baload, 1) := by decide +kernel
theorem dX3_copyFrom_87 : decode cX3_copyFrom 87 = .ok (.bastore, 1) := by decide +kernel
theorem dX3_copyFrom_88 : decode cX3_copyFrom 88 = .ok (.iinc 2 1, 3) := by decide +kernel
theorem dX3_copyFrom_91 : decode cX3_copyFrom 91 = .ok (.goto (-57), 3) := by decide +kernel
theorem dX3_copyFrom_94 : decode cX3_copyFrom 94 = .ok (.iconst 0, 1) := by decide +kernel
theorem dX3_copyFrom_95 : decode cX3_copyFrom 95 = .ok (.istore_n 2, 1) := by decide +kernel
theorem dX3_copyFrom_96 : decode cX3_copyFrom 96 = .ok (.iload_n 2, 1) := by decide +kernel
theorem dX3_copyFrom_97 : decode cX3_copyFrom 97 = .ok (.bipush 8, 2) := by decide +kernel
theorem dX3_copyFrom_99 : decode cX3_copyFrom 99 = .ok (.if_icmp .ge 45, 3) := by decide +kernel
theorem dX3_copyFrom_102 : decode cX3_copyFrom 102 = .ok (.aload_n 0, 1) := by decide +kernel
theorem dX3_copyFrom_103 : decode cX3_copyFrom 103 = .ok (.getfield 25, 3) := by decide +kernel
theorem dX3_copyFrom_106 : decode cX3_copyFrom 106 = .ok (.iload_n 2, 1) := by decide +kernel
theorem dX3_copyFrom_107 : decode cX3_copyFrom 107 = .ok (.aload_n 1, 1) := by decide +kernel
theorem dX3_copyFrom_108 : decode cX3_copyFrom 108 = .ok (.getfield 25, 3) := by decide +kernel
theorem dX3_copyFrom_111 : decode cX3_copyFrom 111 = .ok (.iload_n 2, 1) := by decide +kernel
theorem dX3_copyFrom_112 : decode cX3_copyFrom 112 = .ok (.iaload, 1) := by decide +kernel
theorem dX3_copyFrom_113 : decode cX3_copyFrom 113 = .ok (.iastore, 1) := by decide +kernel
theorem dX3_copyFrom_114 : decode cX3_copyFrom 114 = .ok (.aload_n 0, 1) := by decide +kernel
theorem dX3_copyFrom_115 : decode cX3_copyFrom 115 = .ok (.getfield 28, 3) := by decide +kernel
theorem dX3_copyFrom_118 : decode cX3_copyFrom 118 = .ok (.iload_n 2, 1) := by decide +kernel
theorem dX3_copyFrom_119 : decode cX3_copyFrom 119 = .ok (.aload_n 1, 1) := by decide +kernel
theorem dX3_copyFrom_120 : decode cX3_copyFrom 120 = .ok (.getfield 28, 3) := by decide +kernel
theorem dX3_copyFrom_123 : decode cX3_copyFrom 123 = .ok (.iload_n 2, 1) := by decide +kernel
theorem dX3_copyFrom_124 : decode cX3_copyFrom 124 = .ok (.iaload, 1) := by decide +kernel
theorem dX3_copyFrom_125 : decode cX3_copyFrom 125 = .ok (.iastore, 1) := by decide +kernel
theorem dX3_copyFrom_126 : decode cX3_copyFrom 126 = .ok (.aload_n 0, 1) := by decide +kernel
theorem dX3_copyFrom_127 : decode cX3_copyFrom 127 = .ok (.getfield 31, 3) := by decide +kernel
theorem dX3_copyFrom_130 : decode cX3_copyFrom 130 = .ok (.iload_n 2, 1) := by decide +kernel
theorem dX3_copyFrom_131 : decode cX3_copyFrom 131 = .ok (.aload_n 1, 1) := by decide +kernel
theorem dX3_copyFrom_132 : decode cX3_copyFrom 132 = .ok (.getfield 31, 3) := by decide +kernel
theorem dX3_copyFrom_135 : decode cX3_copyFrom 135 = .ok (.iload_n 2, 1) := by decide +kernel
theorem dX3_copyFrom_136 : decode cX3_copyFrom 136 = .ok (.iaload, 1) := by decide +kernel
theorem dX3_copyFrom_137 : decode cX3_copyFrom 137 = .ok (.iastore, 1) := by decide +kernel
theorem dX3_copyFrom_138 : decode cX3_copyFrom 138 = .ok (.iinc 2 1, 3) := by decide +kernel
theorem dX3_copyFrom_141 : decode cX3_copyFrom 141 = .ok (.goto (-45), 3) := by decide +kernel
theorem dX3_copyFrom_144 : decode cX3_copyFrom 144 = .ok (.return_, 1) := by decide +kernel
set_option maxRecDepth 20000 in
theorem ggX3_taughtNowBy_X1_passesOn : GoodIn wsX3_taughtNowBy wsX1_passesOn := goodIn_r _ [8] (by decide +kernel) (by decide +kernel)
set_option maxRecDepth 20000 in
theorem gX3_taughtNowBy_X1_passesOn : GoodIn wsX3_taughtNowBy (va_wsS RX3 66 yX1_passesOn wsX1_passesOn) := goodIn_app (goodIn_of _ (by decide +kernel)) ggX3_taughtNowBy_X1_passesOn
theorem dX3_taughtNowBy_0 : decode cX3_taughtNowBy 0 = .ok (.aload_n 0, 1) := by decide +kernel
theorem dX3_taughtNowBy_1 : decode cX3_taughtNowBy 1 = .ok (.getfield 18, 3) := by decide +kernel
theorem dX3_taughtNowBy_4 : decode cX3_taughtNowBy 4 = .ok (.iload_n 1, 1) := by decide +kernel
theorem dX3_taughtNowBy_5 : decode cX3_taughtNowBy 5 = .ok (.iaload, 1) := by decide +kernel
theorem dX3_taughtNowBy_6 : decode cX3_taughtNowBy 6 = .ok (.iconst (-1), 1) := by decide +kernel
theorem dX3_taughtNowBy_7 : decode cX3_taughtNowBy 7 = .ok (.if_icmp .eq 12, 3) := by decide +kernel
theorem dX3_taughtNowBy_10 : decode cX3_taughtNowBy 10 = .ok (.aload_n 0, 1) := by decide +kernel
theorem dX3_taughtNowBy_11 : decode cX3_taughtNowBy 11 = .ok (.getfield 21, 3) := by decide +kernel
theorem dX3_taughtNowBy_14 : decode cX3_taughtNowBy 14 = .ok (.iload_n 1, 1) := by decide +kernel
theorem dX3_taughtNowBy_15 : decode cX3_taughtNowBy 15 = .ok (.baload, 1) := by decide +kernel
theorem dX3_taughtNowBy_16 : decode cX3_taughtNowBy 16 = .ok (.ifCond .eq 7, 3) := by decide +kernel
theorem dX3_taughtNowBy_19 : decode cX3_taughtNowBy 19 = .ok (.iconst (-1), 1) := by decide +kernel
theorem dX3_taughtNowBy_20 : decode cX3_taughtNowBy 20 = .ok (.goto 24, 3) := by decide +kernel
theorem dX3_taughtNowBy_23 : decode cX3_taughtNowBy 23 = .ok (.aload_n 0, 1) := by decide +kernel
theorem dX3_taughtNowBy_24 : decode cX3_taughtNowBy 24 = .ok (.getfield 11, 3) := by decide +kernel
theorem dX3_taughtNowBy_27 : decode cX3_taughtNowBy 27 = .ok (.iload_n 1, 1) := by decide +kernel
theorem dX3_taughtNowBy_28 : decode cX3_taughtNowBy 28 = .ok (.iaload, 1) := by decide +kernel
theorem dX3_taughtNowBy_29 : decode cX3_taughtNowBy 29 = .ok (.aload_n 0, 1) := by decide +kernel
theorem dX3_taughtNowBy_30 : decode cX3_taughtNowBy 30 = .ok (.getfield 15, 3) := by decide +kernel
theorem dX3_taughtNowBy_33 : decode cX3_taughtNowBy 33 = .ok (.iload_n 1, 1) := by decide +kernel
theorem dX3_taughtNowBy_34 : decode cX3_taughtNowBy 34 = .ok (.iaload, 1) := by decide +kernel
theorem dX3_taughtNowBy_35 : decode cX3_taughtNowBy 35 = .ok (.aload_n 0, 1) := by decide +kernel
theorem dX3_taughtNowBy_36 : decode cX3_taughtNowBy 36 = .ok (.getfield 18, 3) := by decide +kernel
theorem dX3_taughtNowBy_39 : decode cX3_taughtNowBy 39 = .ok (.iload_n 1, 1) := by decide +kernel
theorem dX3_taughtNowBy_40 : decode cX3_taughtNowBy 40 = .ok (.iaload, 1) := by decide +kernel
theorem dX3_taughtNowBy_41 : decode cX3_taughtNowBy 41 = .ok (.invokestatic 66, 3) := by decide +kernel
theorem dX3_taughtNowBy_44 : decode cX3_taughtNowBy 44 = .ok (.ireturn, 1) := by decide +kernel
set_option maxRecDepth 20000 in
theorem ggX3_isTaughtNext_X3_taughtNowBy : GoodIn wsX3_isTaughtNext wsX3_taughtNowBy := goodIn_r _ [6, 7, 1, 8, 9, 10, 11, 12, 13, 14, 15, 16, 17, 18, 19, 20, 21, 22, 23, 24] (by decide +kernel) (by decide +kernel)
set_option maxRecDepth 20000 in
theorem gX3_isTaughtNext_X3_taughtNowBy : GoodIn wsX3_isTaughtNext (wsV RX3 72 RX3 yX3_taughtNowBy wsX3_taughtNowBy) := goodIn_app (goodIn_of _ (by decide +kernel)) ggX3_isTaughtNext_X3_taughtNowBy
theorem dX3_isTaughtNext_0 : decode cX3_isTaughtNext 0 = .ok (.iload_n 1, 1) := by decide +kernel
theorem dX3_isTaughtNext_1 : decode cX3_isTaughtNext 1 = .ok (.ifCond .le 27, 3) := by decide +kernel
theorem dX3_isTaughtNext_4 : decode cX3_isTaughtNext 4 = .ok (.aload_n 0, 1) := by decide +kernel
theorem dX3_isTaughtNext_5 : decode cX3_isTaughtNext 5 = .ok (.getfield 21, 3) := by decide +kernel
theorem dX3_isTaughtNext_8 : decode cX3_isTaughtNext 8 = .ok (.iload_n 1, 1) := by decide +kernel
theorem dX3_isTaughtNext_9 : decode cX3_isTaughtNext 9 = .ok (.baload, 1) := by decide +kernel
theorem dX3_isTaughtNext_10 : decode cX3_isTaughtNext 10 = .ok (.ifCond .ne 18, 3) := by decide +kernel
theorem dX3_isTaughtNext_13 : decode cX3_isTaughtNext 13 = .ok (.aload_n 0, 1) := by decide +kernel
theorem dX3_isTaughtNext_14 : decode cX3_isTaughtNext 14 = .ok (.iload_n 1, 1) := by decide +kernel
theorem dX3_isTaughtNext_15 : decode cX3_isTaughtNext 15 = .ok (.iconst 1, 1) := by decide +kernel
theorem dX3_isTaughtNext_16 : decode cX3_isTaughtNext 16 = .ok (.isub, 1) := by decide +kernel
theorem dX3_isTaughtNext_17 : decode cX3_isTaughtNext 17 = .ok (.invokevirtual 72, 3) := by decide +kernel
theorem dX3_isTaughtNext_20 : decode cX3_isTaughtNext 20 = .ok (.iconst (-1), 1) := by decide +kernel
theorem dX3_isTaughtNext_21 : decode cX3_isTaughtNext 21 = .ok (.if_icmp .eq 7, 3) := by decide +kernel
theorem dX3_isTaughtNext_24 : decode cX3_isTaughtNext 24 = .ok (.iconst 1, 1) := by decide +kernel
theorem dX3_isTaughtNext_25 : decode cX3_isTaughtNext 25 = .ok (.goto 4, 3) := by decide +kernel
theorem dX3_isTaughtNext_28 : decode cX3_isTaughtNext 28 = .ok (.iconst 0, 1) := by decide +kernel
theorem dX3_isTaughtNext_29 : decode cX3_isTaughtNext 29 = .ok (.ireturn, 1) := by decide +kernel
set_option maxRecDepth 20000 in
theorem ggX3_holdThursday_X3_top : GoodIn wsX3_holdThursday wsX3_top := goodIn_r _ [8, 9, 25, 26, 27, 28, 29, 30, 31, 32, 33, 34, 35] (by decide +kernel) (by decide +kernel)
set_option maxRecDepth 20000 in
theorem gX3_holdThursday_X3_top : GoodIn wsX3_holdThursday (wsV RX3 75 RX3 yX3_top wsX3_top) := goodIn_app (goodIn_of _ (by decide +kernel)) ggX3_holdThursday_X3_top
set_option maxRecDepth 20000 in
theorem ggX3_holdThursday_X3_isTaughtNext : GoodIn wsX3_holdThursday wsX3_isTaughtNext := goodIn_r _ [13, 14, 15, 16, 17, 7, 18, 1, 19, 20, 21, 22, 23, 24, 25, 26, 27, 28, 29, 30, 31, 32, 33, 34, 35] (by decide +kernel) (by decide +kernel)
set_option maxRecDepth 20000 in
theorem gX3_holdThursday_X3_isTaughtNext : GoodIn wsX3_holdThursday (wsV RX3 78 RX3 yX3_isTaughtNext wsX3_isTaughtNext) := goodIn_app (goodIn_of _ (by decide +kernel)) ggX3_holdThursday_X3_isTaughtNext
set_option maxRecDepth 20000 in
theorem ggX3_holdThursday_X3_taughtNowBy : GoodIn wsX3_holdThursday wsX3_taughtNowBy := goodIn_r _ [18, 1, 14, 19, 20, 21, 22, 23, 24, 25, 26, 27, 28, 29, 30, 31, 32, 33, 34, 35] (by decide +kernel) (by decide +kernel)
set_option maxRecDepth 20000 in
theorem gX3_holdThursday_X3_taughtNowBy : GoodIn wsX3_holdThursday (wsV RX3 72 RX3 yX3_taughtNowBy wsX3_taughtNowBy) := goodIn_app (goodIn_of _ (by decide +kernel)) ggX3_holdThursday_X3_taughtNowBy
theorem dX3_holdThursday_0 : decode cX3_holdThursday 0 = .ok (.iconst 0, 1) := by decide +kernel
theorem dX3_holdThursday_1 : decode cX3_holdThursday 1 = .ok (.istore_n 1, 1) := by decide +kernel
theorem dX3_holdThursday_2 : decode cX3_holdThursday 2 = .ok (.aload_n 0, 1) := by decide +kernel
theorem dX3_holdThursday_3 : decode cX3_holdThursday 3 = .ok (.invokevirtual 75, 3) := by decide +kernel
theorem dX3_holdThursday_6 : decode cX3_holdThursday 6 = .ok (.istore_n 2, 1) := by decide +kernel
theorem dX3_holdThursday_7 : decode cX3_holdThursday 7 = .ok (.iload_n 2, 1) := by decide +kernel
theorem dX3_holdThursday_8 : decode cX3_holdThursday 8 = .ok (.ifCond .le 33, 3) := by decide +kernel
theorem dX3_holdThursday_11 : decode cX3_holdThursday 11 = .ok (.aload_n 0, 1) := by decide +kernel
theorem dX3_holdThursday_12 : decode cX3_holdThursday 12 = .ok (.iload_n 2, 1) := by decide +kernel
theorem dX3_holdThursday_13 : decode cX3_holdThursday 13 = .ok (.invokevirtual 78, 3) := by decide +kernel
theorem dX3_holdThursday_16 : decode cX3_holdThursday 16 = .ok (.ifCond .eq 19, 3) := by decide +kernel
theorem dX3_holdThursday_19 : decode cX3_holdThursday 19 = .ok (.aload_n 0, 1) := by decide +kernel
theorem dX3_holdThursday_20 : decode cX3_holdThursday 20 = .ok (.getfield 18, 3) := by decide +kernel
theorem dX3_holdThursday_23 : decode cX3_holdThursday 23 = .ok (.iload_n 2, 1) := by decide +kernel
theorem dX3_holdThursday_24 : decode cX3_holdThursday 24 = .ok (.aload_n 0, 1) := by decide +kernel
theorem dX3_holdThursday_25 : decode cX3_holdThursday 25 = .ok (.iload_n 2, 1) := by decide +kernel
theorem dX3_holdThursday_26 : decode cX3_holdThursday 26 = .ok (.iconst 1, 1) := by decide +kernel
theorem dX3_holdThursday_27 : decode cX3_holdThursday 27 = .ok (.isub, 1) := by decide +kernel
theorem dX3_holdThursday_28 : decode cX3_holdThursday 28 = .ok (.invokevirtual 72, 3) := by decide +kernel
theorem dX3_holdThursday_31 : decode cX3_holdThursday 31 = .ok (.iastore, 1) := by decide +kernel
theorem dX3_holdThursday_32 : decode cX3_holdThursday 32 = .ok (.iinc 1 1, 3) := by decide +kernel
theorem dX3_holdThursday_35 : decode cX3_holdThursday 35 = .ok (.iinc 2 (-1), 3) := by decide +kernel
theorem dX3_holdThursday_38 : decode cX3_holdThursday 38 = .ok (.goto (-31), 3) := by decide +kernel
theorem dX3_holdThursday_41 : decode cX3_holdThursday 41 = .ok (.aload_n 0, 1) := by decide +kernel
theorem dX3_holdThursday_42 : decode cX3_holdThursday 42 = .ok (.dup, 1) := by decide +kernel
theorem dX3_holdThursday_43 : decode cX3_holdThursday 43 = .ok (.getfield 41, 3) := by decide +kernel
theorem dX3_holdThursday_46 : decode cX3_holdThursday 46 = .ok (.iconst 1, 1) := by decide +kernel
theorem dX3_holdThursday_47 : decode cX3_holdThursday 47 = .ok (.iadd, 1) := by decide +kernel
theorem dX3_holdThursday_48 : decode cX3_holdThursday 48 = .ok (.putfield 41, 3) := by decide +kernel
theorem dX3_holdThursday_51 : decode cX3_holdThursday 51 = .ok (.aload_n 0, 1) := by decide +kernel
theorem dX3_holdThursday_52 : decode cX3_holdThursday 52 = .ok (.dup, 1) := by decide +kernel
theorem dX3_holdThursday_53 : decode cX3_holdThursday 53 = .ok (.getfield 44, 3) := by decide +kernel
theorem dX3_holdThursday_56 : decode cX3_holdThursday 56 = .ok (.iload_n 1, 1) := by decide +kernel
theorem dX3_holdThursday_57 : decode cX3_holdThursday 57 = .ok (.iadd, 1) := by decide +kernel
theorem dX3_holdThursday_58 : decode cX3_holdThursday 58 = .ok (.putfield 44, 3) := by decide +kernel
theorem dX3_holdThursday_61 : decode cX3_holdThursday 61 = .ok (.iload_n 1, 1) := by decide +kernel
theorem dX3_holdThursday_62 : decode cX3_holdThursday 62 = .ok (.ireturn, 1) := by decide +kernel
set_option maxRecDepth 20000 in
theorem ggX3_beginAnew_X0_next : GoodIn wsX3_beginAnew wsX0_next := goodIn_r _ [8, 9, 10, 11, 12, 13, 25] (by decide +kernel) (by decide +kernel)
set_option maxRecDepth 20000 in
theorem gX3_beginAnew_X0_next : GoodIn wsX3_beginAnew (wsV RX3 82 RX0 yX0_next wsX0_next) := goodIn_app (goodIn_of _ (by decide +kernel)) ggX3_beginAnew_X0_next
theorem dX3_beginAnew_0 : decode cX3_beginAnew 0 = .ok (.aload_n 0, 1) := by decide +kernel
theorem dX3_beginAnew_1 : decode cX3_beginAnew 1 = .ok (.getfield 18, 3) := by decide +kernel
theorem dX3_beginAnew_4 : decode cX3_beginAnew 4 = .ok (.iconst 0, 1) := by decide +kernel
theorem dX3_beginAnew_5 : decode cX3_beginAnew 5 = .ok (.aload_n 1, 1) := by decide +kernel
theorem dX3_beginAnew_6 : decode cX3_beginAnew 6 = .ok (.bipush 12, 2) := by decide +kernel
theorem dX3_beginAnew_8 : decode cX3_beginAnew 8 = .ok (.invokevirtual 82, 3) := by decide +kernel
theorem dX3_beginAnew_11 : decode cX3_beginAnew 11 = .ok (.iastore, 1) := by decide +kernel
theorem dX3_beginAnew_12 : decode cX3_beginAnew 12 = .ok (.aload_n 1, 1) := by decide +kernel
theorem dX3_beginAnew_13 : decode cX3_beginAnew 13 = .ok (.aload_n 0, 1) := by decide +kernel
theorem dX3_beginAnew_14 : decode cX3_beginAnew 14 = .ok (.getfield 34, 3) := by decide +kernel
theorem dX3_beginAnew_17 : decode cX3_beginAnew 17 = .ok (.iconst 1, 1) := by decide +kernel
theorem dX3_beginAnew_18 : decode cX3_beginAnew 18 = .ok (.iadd, 1) := by decide +kernel
theorem dX3_beginAnew_19 : decode cX3_beginAnew 19 = .ok (.invokevirtual 82, 3) := by decide +kernel
theorem dX3_beginAnew_22 : decode cX3_beginAnew 22 = .ok (.istore_n 2, 1) := by decide +kernel
theorem dX3_beginAnew_23 : decode cX3_beginAnew 23 = .ok (.iconst 0, 1) := by decide +kernel
theorem dX3_beginAnew_24 : decode cX3_beginAnew 24 = .ok (.istore_n 3, 1) := by decide +kernel
theorem dX3_beginAnew_25 : decode cX3_beginAnew 25 = .ok (.iload_n 3, 1) := by decide +kernel
theorem dX3_beginAnew_26 : decode cX3_beginAnew 26 = .ok (.aload_n 0, 1) := by decide +kernel
theorem dX3_beginAnew_27 : decode cX3_beginAnew 27 = .ok (.getfield 34, 3) := by decide +kernel
theorem dX3_beginAnew_30 : decode cX3_beginAnew 30 = .ok (.if_icmp .ge 25, 3) := by decide +kernel
theorem dX3_beginAnew_33 : decode cX3_beginAnew 33 = .ok (.aload_n 0, 1) := by decide +kernel
theorem dX3_beginAnew_34 : decode cX3_beginAnew 34 = .ok (.getfield 21, 3) := by decide +kernel
theorem dX3_beginAnew_37 : decode cX3_beginAnew 37 = .ok (.iload_n 3, 1) := by decide +kernel
theorem dX3_beginAnew_38 : decode cX3_beginAnew 38 = .ok (.iload_n 3, 1) := by decide +kernel
theorem dX3_beginAnew_39 : decode cX3_beginAnew 39 = .ok (.iload_n 2, 1) := by decide +kernel
theorem dX3_beginAnew_40 : decode cX3_beginAnew 40 = .ok (.if_icmp .ne 7, 3) := by decide +kernel
theorem dX3_beginAnew_43 : decode cX3_beginAnew 43 = .ok (.iconst 1, 1) := by decide +kernel
theorem dX3_beginAnew_44 : decode cX3_beginAnew 44 = .ok (.goto 4, 3) := by decide +kernel
theorem dX3_beginAnew_47 : decode cX3_beginAnew 47 = .ok (.iconst 0, 1) := by decide +kernel
theorem dX3_beginAnew_48 : decode cX3_beginAnew 48 = .ok (.bastore, 1) := by decide +kernel
theorem dX3_beginAnew_49 : decode cX3_beginAnew 49 = .ok (.iinc 3 1, 3) := by decide +kernel
theorem dX3_beginAnew_52 : decode cX3_beginAnew 52 = .ok (.goto (-27), 3) := by decide +kernel
theorem dX3_beginAnew_55 : decode cX3_beginAnew 55 = .ok (.return_, 1) := by decide +kernel
set_option maxRecDepth 20000 in
theorem ggX3_atTop_X3_top : GoodIn wsX3_atTop wsX3_top := goodIn_r _ [7, 8, 13, 14, 15, 16, 17, 18, 19, 20, 21, 22, 23] (by decide +kernel) (by decide +kernel)
set_option maxRecDepth 20000 in
theorem gX3_atTop_X3_top : GoodIn wsX3_atTop (wsV RX3 75 RX3 yX3_top wsX3_top) := goodIn_app (goodIn_of _ (by decide +kernel)) ggX3_atTop_X3_top
set_option maxRecDepth 20000 in
theorem ggX3_atTop_X1_passesOn : GoodIn wsX3_atTop wsX1_passesOn := goodIn_r _ [12] (by decide +kernel) (by decide +kernel)
set_option maxRecDepth 20000 in
theorem gX3_atTop_X1_passesOn : GoodIn wsX3_atTop (va_wsS RX3 66 yX1_passesOn wsX1_passesOn) := goodIn_app (goodIn_of _ (by decide +kernel)) ggX3_atTop_X1_passesOn
theorem dX3_atTop_0 : decode cX3_atTop 0 = .ok (.iload_n 2, 1) := by decide +kernel
theorem dX3_atTop_1 : decode cX3_atTop 1 = .ok (.istore 4, 2) := by decide +kernel
theorem dX3_atTop_3 : decode cX3_atTop 3 = .ok (.iload_n 1, 1) := by decide +kernel
theorem dX3_atTop_4 : decode cX3_atTop 4 = .ok (.istore 5, 2) := by decide +kernel
theorem dX3_atTop_6 : decode cX3_atTop 6 = .ok (.iload 5, 2) := by decide +kernel
theorem dX3_atTop_8 : decode cX3_atTop 8 = .ok (.aload_n 0, 1) := by decide +kernel
theorem dX3_atTop_9 : decode cX3_atTop 9 = .ok (.invokevirtual 75, 3) := by decide +kernel
theorem dX3_atTop_12 : decode cX3_atTop 12 = .ok (.if_icmp .ge 40, 3) := by decide +kernel
theorem dX3_atTop_15 : decode cX3_atTop 15 = .ok (.aload_n 0, 1) := by decide +kernel
theorem dX3_atTop_16 : decode cX3_atTop 16 = .ok (.getfield 11, 3) := by decide +kernel
theorem dX3_atTop_19 : decode cX3_atTop 19 = .ok (.iload 5, 2) := by decide +kernel
theorem dX3_atTop_21 : decode cX3_atTop 21 = .ok (.iaload, 1) := by decide +kernel
theorem dX3_atTop_22 : decode cX3_atTop 22 = .ok (.iload 5, 2) := by decide +kernel
theorem dX3_atTop_24 : decode cX3_atTop 24 = .ok (.iload_n 3, 1) := by decide +kernel
theorem dX3_atTop_25 : decode cX3_atTop 25 = .ok (.if_icmp .ne 7, 3) := by decide +kernel
theorem dX3_atTop_28 : decode cX3_atTop 28 = .ok (.iconst 0, 1) := by decide +kernel
theorem dX3_atTop_29 : decode cX3_atTop 29 = .ok (.goto 10, 3) := by decide +kernel
theorem dX3_atTop_32 : decode cX3_atTop 32 = .ok (.aload_n 0, 1) := by decide +kernel
theorem dX3_atTop_33 : decode cX3_atTop 33 = .ok (.getfield 15, 3) := by decide +kernel
theorem dX3_atTop_36 : decode cX3_atTop 36 = .ok (.iload 5, 2) := by decide +kernel
theorem dX3_atTop_38 : decode cX3_atTop 38 = .ok (.iaload, 1) := by decide +kernel
theorem dX3_atTop_39 : decode cX3_atTop 39 = .ok (.iload 4, 2) := by decide +kernel
theorem dX3_atTop_41 : decode cX3_atTop 41 = .ok (.invokestatic 66, 3) := by decide +kernel
theorem dX3_atTop_44 : decode cX3_atTop 44 = .ok (.istore 4, 2) := by decide +kernel
theorem dX3_atTop_46 : decode cX3_atTop 46 = .ok (.iinc 5 1, 3) := by decide +kernel
theorem dX3_atTop_49 : decode cX3_atTop 49 = .ok (.goto (-43), 3) := by decide +kernel
theorem dX3_atTop_52 : decode cX3_atTop 52 = .ok (.iload 4, 2) := by decide +kernel
theorem dX3_atTop_54 : decode cX3_atTop 54 = .ok (.ireturn, 1) := by decide +kernel
set_option maxRecDepth 20000 in
theorem ggX3_sourcesOf_X3_atTop : GoodIn wsX3_sourcesOf wsX3_atTop := goodIn_r _ [5, 6, 7, 8, 9, 10, 4, 11, 12, 13, 14, 15, 16, 17, 18, 19, 20, 21, 22, 23, 24, 25, 26, 27] (by decide +kernel) (by decide +kernel)
set_option maxRecDepth 20000 in
theorem gX3_sourcesOf_X3_atTop : GoodIn wsX3_sourcesOf (wsV RX3 87 RX3 yX3_atTop wsX3_atTop) := goodIn_app (goodIn_of _ (by decide +kernel)) ggX3_sourcesOf_X3_atTop
theorem dX3_sourcesOf_0 : decode cX3_sourcesOf 0 = .ok (.iconst 0, 1) := by decide +kernel
theorem dX3_sourcesOf_1 : decode cX3_sourcesOf 1 = .ok (.istore_n 3, 1) := by decide +kernel
theorem dX3_sourcesOf_2 : decode cX3_sourcesOf 2 = .ok (.iconst 0, 1) := by decide +kernel
theorem dX3_sourcesOf_3 : decode cX3_sourcesOf 3 = .ok (.istore 4, 2) := by decide +kernel
theorem dX3_sourcesOf_5 : decode cX3_sourcesOf 5 = .ok (.iload 4, 2) := by decide +kernel
theorem dX3_sourcesOf_7 : decode cX3_sourcesOf 7 = .ok (.bipush 12, 2) := by decide +kernel
theorem dX3_sourcesOf_9 : decode cX3_sourcesOf 9 = .ok (.if_icmp .ge 28, 3) := by decide +kernel
theorem dX3_sourcesOf_12 : decode cX3_sourcesOf 12 = .ok (.aload_n 0, 1) := by decide +kernel
theorem dX3_sourcesOf_13 : decode cX3_sourcesOf 13 = .ok (.iload_n 1, 1) := by decide +kernel
theorem dX3_sourcesOf_14 : decode cX3_sourcesOf 14 = .ok (.iload 4, 2) := by decide +kernel
theorem dX3_sourcesOf_16 : decode cX3_sourcesOf 16 = .ok (.iconst (-1), 1) := by decide +kernel
theorem dX3_sourcesOf_17 : decode cX3_sourcesOf 17 = .ok (.invokevirtual 87, 3) := by decide +kernel
theorem dX3_sourcesOf_20 : decode cX3_sourcesOf 20 = .ok (.iload_n 2, 1) := by decide +kernel
theorem dX3_sourcesOf_21 : decode cX3_sourcesOf 21 = .ok (.if_icmp .ne 10, 3) := by decide +kernel
theorem dX3_sourcesOf_24 : decode cX3_sourcesOf 24 = .ok (.iload_n 3, 1) := by decide +kernel
theorem dX3_sourcesOf_25 : decode cX3_sourcesOf 25 = .ok (.iconst 1, 1) := by decide +kernel
theorem dX3_sourcesOf_26 : decode cX3_sourcesOf 26 = .ok (.iload 4, 2) := by decide +kernel
theorem dX3_sourcesOf_28 : decode cX3_sourcesOf 28 = .ok (.ishl, 1) := by decide +kernel
theorem dX3_sourcesOf_29 : decode cX3_sourcesOf 29 = .ok (.ior, 1) := by decide +kernel
theorem dX3_sourcesOf_30 : decode cX3_sourcesOf 30 = .ok (.istore_n 3, 1) := by decide +kernel
theorem dX3_sourcesOf_31 : decode cX3_sourcesOf 31 = .ok (.iinc 4 1, 3) := by decide +kernel
theorem dX3_sourcesOf_34 : decode cX3_sourcesOf 34 = .ok (.goto (-29), 3) := by decide +kernel
theorem dX3_sourcesOf_37 : decode cX3_sourcesOf 37 = .ok (.iload_n 3, 1) := by decide +kernel
theorem dX3_sourcesOf_38 : decode cX3_sourcesOf 38 = .ok (.ireturn, 1) := by decide +kernel
set_option maxRecDepth 20000 in
theorem ggX3_unchangedAtTop_X3_atTop : GoodIn wsX3_unchangedAtTop wsX3_atTop := goodIn_r _ [5, 6, 7, 8, 9, 10, 4, 11, 12, 13, 14, 15, 16, 17, 18, 19, 20, 21, 22, 23, 24, 25, 26, 27] (by decide +kernel) (by decide +kernel)
set_option maxRecDepth 20000 in
theorem gX3_unchangedAtTop_X3_atTop : GoodIn wsX3_unchangedAtTop (wsV RX3 87 RX3 yX3_atTop wsX3_atTop) := goodIn_app (goodIn_of _ (by decide +kernel)) ggX3_unchangedAtTop_X3_atTop
theorem dX3_unchangedAtTop_0 : decode cX3_unchangedAtTop 0 = .ok (.iconst 0, 1) := by decide +kernel
theorem dX3_unchangedAtTop_1 : decode cX3_unchangedAtTop 1 = .ok (.istore_n 2, 1) := by decide +kernel
theorem dX3_unchangedAtTop_2 : decode cX3_unchangedAtTop 2 = .ok (.iconst 0, 1) := by decide +kernel
theorem dX3_unchangedAtTop_3 : decode cX3_unchangedAtTop 3 = .ok (.istore_n 3, 1) := by decide +kernel
theorem dX3_unchangedAtTop_4 : decode cX3_unchangedAtTop 4 = .ok (.iload_n 3, 1) := by decide +kernel
theorem dX3_unchangedAtTop_5 : decode cX3_unchangedAtTop 5 = .ok (.bipush 12, 2) := by decide +kernel
theorem dX3_unchangedAtTop_7 : decode cX3_unchangedAtTop 7 = .ok (.if_icmp .ge 23, 3) := by decide +kernel
theorem dX3_unchangedAtTop_10 : decode cX3_unchangedAtTop 10 = .ok (.aload_n 0, 1) := by decide +kernel
theorem dX3_unchangedAtTop_11 : decode cX3_unchangedAtTop 11 = .ok (.iconst 0, 1) := by decide +kernel
theorem dX3_unchangedAtTop_12 : decode cX3_unchangedAtTop 12 = .ok (.iload_n 3, 1) := by decide +kernel
theorem dX3_unchangedAtTop_13 : decode cX3_unchangedAtTop 13 = .ok (.iload_n 1, 1) := by decide +kernel
theorem dX3_unchangedAtTop_14 : decode cX3_unchangedAtTop 14 = .ok (.invokevirtual 87, 3) := by decide +kernel
theorem dX3_unchangedAtTop_17 : decode cX3_unchangedAtTop 17 = .ok (.iload_n 3, 1) := by decide +kernel
theorem dX3_unchangedAtTop_18 : decode cX3_unchangedAtTop 18 = .ok (.if_icmp .ne 6, 3) := by decide +kernel
theorem dX3_unchangedAtTop_21 : decode cX3_unchangedAtTop 21 = .ok (.iinc 2 1, 3) := by decide +kernel
theorem dX3_unchangedAtTop_24 : decode cX3_unchangedAtTop 24 = .ok (.iinc 3 1, 3) := by decide +kernel
theorem dX3_unchangedAtTop_27 : decode cX3_unchangedAtTop 27 = .ok (.goto (-23), 3) := by decide +kernel
theorem dX3_unchangedAtTop_30 : decode cX3_unchangedAtTop 30 = .ok (.iload_n 2, 1) := by decide +kernel
theorem dX3_unchangedAtTop_31 : decode cX3_unchangedAtTop 31 = .ok (.ireturn, 1) := by decide +kernel
set_option maxRecDepth 20000 in
theorem ggX3_bestToCure_X3_unchangedAtTop : GoodIn wsX3_bestToCure wsX3_unchangedAtTop := goodIn_r _ [6, 7, 8, 9, 5, 10, 11, 12, 13, 14, 15, 16, 1, 17, 18, 19, 20, 21, 22, 23, 24, 25, 26, 27, 28, 29, 30, 31] (by decide +kernel) (by decide +kernel)
set_option maxRecDepth 20000 in
theorem gX3_bestToCure_X3_unchangedAtTop : GoodIn wsX3_bestToCure (wsV RX3 90 RX3 yX3_unchangedAtTop wsX3_unchangedAtTop) := goodIn_app (goodIn_of _ (by decide +kernel)) ggX3_bestToCure_X3_unchangedAtTop
theorem dX3_bestToCure_0 : decode cX3_bestToCure 0 = .ok (.iconst (-1), 1) := by decide +kernel
theorem dX3_bestToCure_1 : decode cX3_bestToCure 1 = .ok (.istore_n 1, 1) := by decide +kernel
theorem dX3_bestToCure_2 : decode cX3_bestToCure 2 = .ok (.aload_n 0, 1) := by decide +kernel
theorem dX3_bestToCure_3 : decode cX3_bestToCure 3 = .ok (.iconst (-1), 1) := by decide +kernel
theorem dX3_bestToCure_4 : decode cX3_bestToCure 4 = .ok (.invokevirtual 90, 3) := by decide +kernel
theorem dX3_bestToCure_7 : decode cX3_bestToCure 7 = .ok (.istore_n 2, 1) := by decide +kernel
theorem dX3_bestToCure_8 : decode cX3_bestToCure 8 = .ok (.iconst 0, 1) := by decide +kernel
theorem dX3_bestToCure_9 : decode cX3_bestToCure 9 = .ok (.istore_n 3, 1) := by decide +kernel
theorem dX3_bestToCure_10 : decode cX3_bestToCure 10 = .ok (.iload_n 3, 1) := by decide +kernel
theorem dX3_bestToCure_11 : decode cX3_bestToCure 11 = .ok (.aload_n 0, 1) := by decide +kernel
theorem dX3_bestToCure_12 : decode cX3_bestToCure 12 = .ok (.getfield 34, 3) := by decide +kernel
theorem dX3_bestToCure_15 : decode cX3_bestToCure 15 = .ok (.if_icmp .ge 27, 3) := by decide +kernel
theorem dX3_bestToCure_18 : decode cX3_bestToCure 18 = .ok (.aload_n 0, 1) := by decide +kernel
theorem dX3_bestToCure_19 : decode cX3_bestToCure 19 = .ok (.iload_n 3, 1) := by decide +kernel
theorem dX3_bestToCure_20 : decode cX3_bestToCure 20 = .ok (.invokevirtual 90, 3) := by decide +kernel
theorem dX3_bestToCure_23 : decode cX3_bestToCure 23 = .ok (.istore 4, 2) := by decide +kernel
theorem dX3_bestToCure_25 : decode cX3_bestToCure 25 = .ok (.iload 4, 2) := by decide +kernel
theorem dX3_bestToCure_27 : decode cX3_bestToCure 27 = .ok (.iload_n 2, 1) := by decide +kernel
theorem dX3_bestToCure_28 : decode cX3_bestToCure 28 = .ok (.if_icmp .le 8, 3) := by decide +kernel
theorem dX3_bestToCure_31 : decode cX3_bestToCure 31 = .ok (.iload 4, 2) := by decide +kernel
theorem dX3_bestToCure_33 : decode cX3_bestToCure 33 = .ok (.istore_n 2, 1) := by decide +kernel
theorem dX3_bestToCure_34 : decode cX3_bestToCure 34 = .ok (.iload_n 3, 1) := by decide +kernel
theorem dX3_bestToCure_35 : decode cX3_bestToCure 35 = .ok (.istore_n 1, 1) := by decide +kernel
theorem dX3_bestToCure_36 : decode cX3_bestToCure 36 = .ok (.iinc 3 1, 3) := by decide +kernel
theorem dX3_bestToCure_39 : decode cX3_bestToCure 39 = .ok (.goto (-29), 3) := by decide +kernel
theorem dX3_bestToCure_42 : decode cX3_bestToCure 42 = .ok (.iload_n 1, 1) := by decide +kernel
theorem dX3_bestToCure_43 : decode cX3_bestToCure 43 = .ok (.ireturn, 1) := by decide +kernel
set_option maxRecDepth 20000 in
theorem ggX3_thursdaysToTop_X3_isNone : GoodIn wsX3_thursdaysToTop wsX3_isNone := goodIn_r _ [7, 8, 13, 14, 15, 16, 17, 18, 19, 20, 21, 22, 23] (by decide +kernel) (by decide +kernel)
set_option maxRecDepth 20000 in
theorem gX3_thursdaysToTop_X3_isNone : GoodIn wsX3_thursdaysToTop (wsV RX3 93 RX3 yX3_isNone wsX3_isNone) := goodIn_app (goodIn_of _ (by decide +kernel)) ggX3_thursdaysToTop_X3_isNone
set_option maxRecDepth 20000 in
theorem ggX3_thursdaysToTop_X3_top : GoodIn wsX3_thursdaysToTop wsX3_top := goodIn_r _ [12, 8, 13, 14, 15, 16, 17, 18, 19, 20, 21, 22, 23] (by decide +kernel) (by decide +kernel)
set_option maxRecDepth 20000 in
theorem gX3_thursdaysToTop_X3_top : GoodIn wsX3_thursdaysToTop (wsV RX3 75 RX3 yX3_top wsX3_top) := goodIn_app (goodIn_of _ (by decide +kernel)) ggX3_thursdaysToTop_X3_top
theorem dX3_thursdaysToTop_0 : decode cX3_thursdaysToTop 0 = .ok (.aload_n 0, 1) := by decide +kernel
theorem dX3_thursdaysToTop_1 : decode cX3_thursdaysToTop 1 = .ok (.invokevirtual 93, 3) := by decide +kernel
theorem dX3_thursdaysToTop_4 : decode cX3_thursdaysToTop 4 = .ok (.ifCond .eq 5, 3) := by decide +kernel
theorem dX3_thursdaysToTop_7 : decode cX3_thursdaysToTop 7 = .ok (.iconst (-1), 1) := by decide +kernel
theorem dX3_thursdaysToTop_8 : decode cX3_thursdaysToTop 8 = .ok (.ireturn, 1) := by decide +kernel
theorem dX3_thursdaysToTop_9 : decode cX3_thursdaysToTop 9 = .ok (.aload_n 0, 1) := by decide +kernel
theorem dX3_thursdaysToTop_10 : decode cX3_thursdaysToTop 10 = .ok (.getfield 18, 3) := by decide +kernel
theorem dX3_thursdaysToTop_13 : decode cX3_thursdaysToTop 13 = .ok (.aload_n 0, 1) := by decide +kernel
theorem dX3_thursdaysToTop_14 : decode cX3_thursdaysToTop 14 = .ok (.invokevirtual 75, 3) := by decide +kernel
theorem dX3_thursdaysToTop_17 : decode cX3_thursdaysToTop 17 = .ok (.iaload, 1) := by decide +kernel
theorem dX3_thursdaysToTop_18 : decode cX3_thursdaysToTop 18 = .ok (.iconst (-1), 1) := by decide +kernel
theorem dX3_thursdaysToTop_19 : decode cX3_thursdaysToTop 19 = .ok (.if_icmp .eq 5, 3) := by decide +kernel
theorem dX3_thursdaysToTop_22 : decode cX3_thursdaysToTop 22 = .ok (.iconst 0, 1) := by decide +kernel
theorem dX3_thursdaysToTop_23 : decode cX3_thursdaysToTop 23 = .ok (.ireturn, 1) := by decide +kernel
theorem dX3_thursdaysToTop_24 : decode cX3_thursdaysToTop 24 = .ok (.aload_n 0, 1) := by decide +kernel
theorem dX3_thursdaysToTop_25 : decode cX3_thursdaysToTop 25 = .ok (.invokevirtual 75, 3) := by decide +kernel
theorem dX3_thursdaysToTop_28 : decode cX3_thursdaysToTop 28 = .ok (.istore_n 1, 1) := by decide +kernel
theorem dX3_thursdaysToTop_29 : decode cX3_thursdaysToTop 29 = .ok (.iload_n 1, 1) := by decide +kernel
theorem dX3_thursdaysToTop_30 : decode cX3_thursdaysToTop 30 = .ok (.ifCond .lt 37, 3) := by decide +kernel
theorem dX3_thursdaysToTop_33 : decode cX3_thursdaysToTop 33 = .ok (.aload_n 0, 1) := by decide +kernel
theorem dX3_thursdaysToTop_34 : decode cX3_thursdaysToTop 34 = .ok (.getfield 21, 3) := by decide +kernel
theorem dX3_thursdaysToTop_37 : decode cX3_thursdaysToTop 37 = .ok (.iload_n 1, 1) := by decide +kernel
theorem dX3_thursdaysToTop_38 : decode cX3_thursdaysToTop 38 = .ok (.baload, 1) := by decide +kernel
theorem dX3_thursdaysToTop_39 : decode cX3_thursdaysToTop 39 = .ok (.ifCond .eq 5, 3) := by decide +kernel
theorem dX3_thursdaysToTop_42 : decode cX3_thursdaysToTop 42 = .ok (.iconst (-1), 1) := by decide +kernel
theorem dX3_thursdaysToTop_43 : decode cX3_thursdaysToTop 43 = .ok (.ireturn, 1) := by decide +kernel
theorem dX3_thursdaysToTop_44 : decode cX3_thursdaysToTop 44 = .ok (.aload_n 0, 1) := by decide +kernel
theorem dX3_thursdaysToTop_45 : decode cX3_thursdaysToTop 45 = .ok (.getfield 18, 3) := by decide +kernel
theorem dX3_thursdaysToTop_48 : decode cX3_thursdaysToTop 48 = .ok (.iload_n 1, 1) := by decide +kernel
theorem dX3_thursdaysToTop_49 : decode cX3_thursdaysToTop 49 = .ok (.iaload, 1) := by decide +kernel
theorem dX3_thursdaysToTop_50 : decode cX3_thursdaysToTop 50 = .ok (.iconst (-1), 1) := by decide +kernel
theorem dX3_thursdaysToTop_51 : decode cX3_thursdaysToTop 51 = .ok (.if_icmp .eq 10, 3) := by decide +kernel
theorem dX3_thursdaysToTop_54 : decode cX3_thursdaysToTop 54 = .ok (.aload_n 0, 1) := by decide +kernel
theorem dX3_thursdaysToTop_55 : decode cX3_thursdaysToTop 55 = .ok (.invokevirtual 75, 3) := by decide +kernel
theorem dX3_thursdaysToTop_58 : decode cX3_thursdaysToTop 58 = .ok (.iload_n 1, 1) := by decide +kernel
theorem dX3_thursdaysToTop_59 : decode cX3_thursdaysToTop 59 = .ok (.isub, 1) := by decide +kernel
theorem dX3_thursdaysToTop_60 : decode cX3_thursdaysToTop 60 = .ok (.ireturn, 1) := by decide +kernel
theorem dX3_thursdaysToTop_61 : decode cX3_thursdaysToTop 61 = .ok (.iinc 1 (-1), 3) := by decide +kernel
theorem dX3_thursdaysToTop_64 : decode cX3_thursdaysToTop 64 = .ok (.goto (-35), 3) := by decide +kernel
theorem dX3_thursdaysToTop_67 : decode cX3_thursdaysToTop 67 = .ok (.iconst (-1), 1) := by decide +kernel
theorem dX3_thursdaysToTop_68 : decode cX3_thursdaysToTop 68 = .ok (.ireturn, 1) := by decide +kernel
theorem dX3_isHeardFull_0 : decode cX3_isHeardFull 0 = .ok (.aload_n 0, 1) := by decide +kernel
theorem dX3_isHeardFull_1 : decode cX3_isHeardFull 1 = .ok (.getfield 38, 3) := by decide +kernel
theorem dX3_isHeardFull_4 : decode cX3_isHeardFull 4 = .ok (.bipush 8, 2) := by decide +kernel
theorem dX3_isHeardFull_6 : decode cX3_isHeardFull 6 = .ok (.if_icmp .lt 7, 3) := by decide +kernel
theorem dX3_isHeardFull_9 : decode cX3_isHeardFull 9 = .ok (.iconst 1, 1) := by decide +kernel
theorem dX3_isHeardFull_10 : decode cX3_isHeardFull 10 = .ok (.goto 4, 3) := by decide +kernel
theorem dX3_isHeardFull_13 : decode cX3_isHeardFull 13 = .ok (.iconst 0, 1) := by decide +kernel
theorem dX3_isHeardFull_14 : decode cX3_isHeardFull 14 = .ok (.ireturn, 1) := by decide +kernel
set_option maxRecDepth 20000 in
theorem ggX3_addHeard_X3_isHeardFull : GoodIn wsX3_addHeard wsX3_isHeardFull := goodIn_r _ [9, 2, 10, 11, 12, 13, 14, 15, 16, 17, 18, 19, 20] (by decide +kernel) (by decide +kernel)
set_option maxRecDepth 20000 in
theorem gX3_addHeard_X3_isHeardFull : GoodIn wsX3_addHeard (wsV RX3 97 RX3 yX3_isHeardFull wsX3_isHeardFull) := goodIn_app (goodIn_of _ (by decide +kernel)) ggX3_addHeard_X3_isHeardFull
theorem dX3_addHeard_0 : decode cX3_addHeard 0 = .ok (.aload_n 0, 1) := by decide +kernel
theorem dX3_addHeard_1 : decode cX3_addHeard 1 = .ok (.invokevirtual 97, 3) := by decide +kernel
theorem dX3_addHeard_4 : decode cX3_addHeard 4 = .ok (.ifCond .ne 43, 3) := by decide +kernel
theorem dX3_addHeard_7 : decode cX3_addHeard 7 = .ok (.aload_n 0, 1) := by decide +kernel
theorem dX3_addHeard_8 : decode cX3_addHeard 8 = .ok (.getfield 25, 3) := by decide +kernel
theorem dX3_addHeard_11 : decode cX3_addHeard 11 = .ok (.aload_n 0, 1) := by decide +kernel
theorem dX3_addHeard_12 : decode cX3_addHeard 12 = .ok (.getfield 38, 3) := by decide +kernel
theorem dX3_addHeard_15 : decode cX3_addHeard 15 = .ok (.iload_n 1, 1) := by decide +kernel
theorem dX3_addHeard_16 : decode cX3_addHeard 16 = .ok (.iastore, 1) := by decide +kernel
theorem dX3_addHeard_17 : decode cX3_addHeard 17 = .ok (.aload_n 0, 1) := by decide +kernel
theorem dX3_addHeard_18 : decode cX3_addHeard 18 = .ok (.getfield 28, 3) := by decide +kernel
theorem dX3_addHeard_21 : decode cX3_addHeard 21 = .ok (.aload_n 0, 1) := by decide +kernel
theorem dX3_addHeard_22 : decode cX3_addHeard 22 = .ok (.getfield 38, 3) := by decide +kernel
theorem dX3_addHeard_25 : decode cX3_addHeard 25 = .ok (.iload_n 2, 1) := by decide +kernel
theorem dX3_addHeard_26 : decode cX3_addHeard 26 = .ok (.iastore, 1) := by decide +kernel
theorem dX3_addHeard_27 : decode cX3_addHeard 27 = .ok (.aload_n 0, 1) := by decide +kernel
theorem dX3_addHeard_28 : decode cX3_addHeard 28 = .ok (.getfield 31, 3) := by decide +kernel
theorem dX3_addHeard_31 : decode cX3_addHeard 31 = .ok (.aload_n 0, 1) := by decide +kernel
theorem dX3_addHeard_32 : decode cX3_addHeard 32 = .ok (.getfield 38, 3) := by decide +kernel
theorem dX3_addHeard_35 : decode cX3_addHeard 35 = .ok (.iload_n 3, 1) := by decide +kernel
theorem dX3_addHeard_36 : decode cX3_addHeard 36 = .ok (.iastore, 1) := by decide +kernel
theorem dX3_addHeard_37 : decode cX3_addHeard 37 = .ok (.aload_n 0, 1) := by decide +kernel
theorem dX3_addHeard_38 : decode cX3_addHeard 38 = .ok (.dup, 1) := by decide +kernel
theorem dX3_addHeard_39 : decode cX3_addHeard 39 = .ok (.getfield 38, 3) := by decide +kernel
theorem dX3_addHeard_42 : decode cX3_addHeard 42 = .ok (.iconst 1, 1) := by decide +kernel
theorem dX3_addHeard_43 : decode cX3_addHeard 43 = .ok (.iadd, 1) := by decide +kernel
theorem dX3_addHeard_44 : decode cX3_addHeard 44 = .ok (.putfield 38, 3) := by decide +kernel
theorem dX3_addHeard_47 : decode cX3_addHeard 47 = .ok (.return_, 1) := by decide +kernel
set_option maxRecDepth 20000 in
theorem ggX3_possibleSlips_X3_explainsHeard : GoodIn wsX3_possibleSlips wsX3_explainsHeard := goodIn_r _ [5, 6, 7, 8, 9, 10, 11, 12, 13, 14, 15, 16, 17, 18, 19, 20, 21, 22, 23, 24, 25] (by decide +kernel) (by decide +kernel)
set_option maxRecDepth 20000 in
theorem gX3_possibleSlips_X3_explainsHeard : GoodIn wsX3_possibleSlips (wsV RX3 100 RX3 yX3_explainsHeard wsX3_explainsHeard) := goodIn_app (goodIn_of _ (by decide +kernel)) ggX3_possibleSlips_X3_explainsHeard
theorem dX3_possibleSlips_0 : decode cX3_possibleSlips 0 = .ok (.iconst 0, 1) := by decide +kernel
theorem dX3_possibleSlips_1 : decode cX3_possibleSlips 1 = .ok (.istore_n 2, 1) := by decide +kernel
theorem dX3_possibleSlips_2 : decode cX3_possibleSlips 2 = .ok (.iconst 0, 1) := by decide +kernel
theorem dX3_possibleSlips_3 : decode cX3_possibleSlips 3 = .ok (.istore_n 3, 1) := by decide +kernel
theorem dX3_possibleSlips_4 : decode cX3_possibleSlips 4 = .ok (.iload_n 3, 1) := by decide +kernel
theorem dX3_possibleSlips_5 : decode cX3_possibleSlips 5 = .ok (.bipush 10, 2) := by decide +kernel
theorem dX3_possibleSlips_7 : decode cX3_possibleSlips 7 = .ok (.if_icmp .ge 24, 3) := by decide +kernel
theorem dX3_possibleSlips_10 : decode cX3_possibleSlips 10 = .ok (.aload_n 0, 1) := by decide +kernel
theorem dX3_possibleSlips_11 : decode cX3_possibleSlips 11 = .ok (.iload_n 1, 1) := by decide +kernel
theorem dX3_possibleSlips_12 : decode cX3_possibleSlips 12 = .ok (.iload_n 3, 1) := by decide +kernel
theorem dX3_possibleSlips_13 : decode cX3_possibleSlips 13 = .ok (.invokevirtual 100, 3) := by decide +kernel
theorem dX3_possibleSlips_16 : decode cX3_possibleSlips 16 = .ok (.ifCond .eq 9, 3) := by decide +kernel
theorem dX3_possibleSlips_19 : decode cX3_possibleSlips 19 = .ok (.iload_n 2, 1) := by decide +kernel
theorem dX3_possibleSlips_20 : decode cX3_possibleSlips 20 = .ok (.iconst 1, 1) := by decide +kernel
theorem dX3_possibleSlips_21 : decode cX3_possibleSlips 21 = .ok (.iload_n 3, 1) := by decide +kernel
theorem dX3_possibleSlips_22 : decode cX3_possibleSlips 22 = .ok (.ishl, 1) := by decide +kernel
theorem dX3_possibleSlips_23 : decode cX3_possibleSlips 23 = .ok (.ior, 1) := by decide +kernel
theorem dX3_possibleSlips_24 : decode cX3_possibleSlips 24 = .ok (.istore_n 2, 1) := by decide +kernel
theorem dX3_possibleSlips_25 : decode cX3_possibleSlips 25 = .ok (.iinc 3 1, 3) := by decide +kernel
theorem dX3_possibleSlips_28 : decode cX3_possibleSlips 28 = .ok (.goto (-24), 3) := by decide +kernel
theorem dX3_possibleSlips_31 : decode cX3_possibleSlips 31 = .ok (.iload_n 2, 1) := by decide +kernel
theorem dX3_possibleSlips_32 : decode cX3_possibleSlips 32 = .ok (.ireturn, 1) := by decide +kernel
set_option maxRecDepth 20000 in
theorem ggX3_explainsHeard_X1_passesOn : GoodIn wsX3_explainsHeard wsX1_passesOn := goodIn_r _ [9] (by decide +kernel) (by decide +kernel)
set_option maxRecDepth 20000 in
theorem gX3_explainsHeard_X1_passesOn : GoodIn wsX3_explainsHeard (va_wsS RX3 66 yX1_passesOn wsX1_passesOn) := goodIn_app (goodIn_of _ (by decide +kernel)) ggX3_explainsHeard_X1_passesOn
theorem dX3_explainsHeard_0 : decode cX3_explainsHeard 0 = .ok (.iconst 0, 1) := by decide +kernel
theorem dX3_explainsHeard_1 : decode cX3_explainsHeard 1 = .ok (.istore_n 3, 1) := by decide +kernel
theorem dX3_explainsHeard_2 : decode cX3_explainsHeard 2 = .ok (.iload_n 3, 1) := by decide +kernel
theorem dX3_explainsHeard_3 : decode cX3_explainsHeard 3 = .ok (.aload_n 0, 1) := by decide +kernel
theorem dX3_explainsHeard_4 : decode cX3_explainsHeard 4 = .ok (.getfield 38, 3) := by decide +kernel
theorem dX3_explainsHeard_7 : decode cX3_explainsHeard 7 = .ok (.if_icmp .ge 46, 3) := by decide +kernel
theorem dX3_explainsHeard_10 : decode cX3_explainsHeard 10 = .ok (.aload_n 0, 1) := by decide +kernel
theorem dX3_explainsHeard_11 : decode cX3_explainsHeard 11 = .ok (.getfield 25, 3) := by decide +kernel
theorem dX3_explainsHeard_14 : decode cX3_explainsHeard 14 = .ok (.iload_n 3, 1) := by decide +kernel
theorem dX3_explainsHeard_15 : decode cX3_explainsHeard 15 = .ok (.iaload, 1) := by decide +kernel
theorem dX3_explainsHeard_16 : decode cX3_explainsHeard 16 = .ok (.iload_n 1, 1) := by decide +kernel
theorem dX3_explainsHeard_17 : decode cX3_explainsHeard 17 = .ok (.if_icmp .ne 30, 3) := by decide +kernel
theorem dX3_explainsHeard_20 : decode cX3_explainsHeard 20 = .ok (.aload_n 0, 1) := by decide +kernel
theorem dX3_explainsHeard_21 : decode cX3_explainsHeard 21 = .ok (.getfield 11, 3) := by decide +kernel
theorem dX3_explainsHeard_24 : decode cX3_explainsHeard 24 = .ok (.iload_n 1, 1) := by decide +kernel
theorem dX3_explainsHeard_25 : decode cX3_explainsHeard 25 = .ok (.iaload, 1) := by decide +kernel
theorem dX3_explainsHeard_26 : decode cX3_explainsHeard 26 = .ok (.iload_n 2, 1) := by decide +kernel
theorem dX3_explainsHeard_27 : decode cX3_explainsHeard 27 = .ok (.aload_n 0, 1) := by decide +kernel
theorem dX3_explainsHeard_28 : decode cX3_explainsHeard 28 = .ok (.getfield 28, 3) := by decide +kernel
theorem dX3_explainsHeard_31 : decode cX3_explainsHeard 31 = .ok (.iload_n 3, 1) := by decide +kernel
theorem dX3_explainsHeard_32 : decode cX3_explainsHeard 32 = .ok (.iaload, 1) := by decide +kernel
theorem dX3_explainsHeard_33 : decode cX3_explainsHeard 33 = .ok (.invokestatic 66, 3) := by decide +kernel
theorem dX3_explainsHeard_36 : decode cX3_explainsHeard 36 = .ok (.aload_n 0, 1) := by decide +kernel
theorem dX3_explainsHeard_37 : decode cX3_explainsHeard 37 = .ok (.getfield 31, 3) := by decide +kernel
theorem dX3_explainsHeard_40 : decode cX3_explainsHeard 40 = .ok (.iload_n 3, 1) := by decide +kernel
theorem dX3_explainsHeard_41 : decode cX3_explainsHeard 41 = .ok (.iaload, 1) := by decide +kernel
theorem dX3_explainsHeard_42 : decode cX3_explainsHeard 42 = .ok (.if_icmp .eq 5, 3) := by decide +kernel
theorem dX3_explainsHeard_45 : decode cX3_explainsHeard 45 = .ok (.iconst 0, 1) := by decide +kernel
theorem dX3_explainsHeard_46 : decode cX3_explainsHeard 46 = .ok (.ireturn, 1) := by decide +kernel
theorem dX3_explainsHeard_47 : decode cX3_explainsHeard 47 = .ok (.iinc 3 1, 3) := by decide +kernel
theorem dX3_explainsHeard_50 : decode cX3_explainsHeard 50 = .ok (.goto (-48), 3) := by decide +kernel
theorem dX3_explainsHeard_53 : decode cX3_explainsHeard 53 = .ok (.iconst 1, 1) := by decide +kernel
theorem dX3_explainsHeard_54 : decode cX3_explainsHeard 54 = .ok (.ireturn, 1) := by decide +kernel
set_option maxRecDepth 20000 in
theorem ggX3_bestQuestion_X3_possibleSlips : GoodIn wsX3_bestQuestion wsX3_possibleSlips := goodIn_r _ [6, 7, 8, 9, 5, 10, 11, 12, 1, 13, 14, 15, 16, 17, 18, 29, 30, 31, 32, 33, 34, 35, 36, 37, 38, 39] (by decide +kernel) (by decide +kernel)
set_option maxRecDepth 20000 in
theorem gX3_bestQuestion_X3_possibleSlips : GoodIn wsX3_bestQuestion (wsV RX3 104 RX3 yX3_possibleSlips wsX3_possibleSlips) := goodIn_app (goodIn_of _ (by decide +kernel)) ggX3_bestQuestion_X3_possibleSlips
set_option maxRecDepth 20000 in
theorem ggX3_bestQuestion_X3_worstLeft : GoodIn wsX3_bestQuestion wsX3_worstLeft := goodIn_r _ [21, 22, 23, 24, 25, 26, 27, 5, 28, 15, 16, 17, 18] (by decide +kernel) (by decide +kernel)
set_option maxRecDepth 20000 in
theorem gX3_bestQuestion_X3_worstLeft : GoodIn wsX3_bestQuestion (va_wsS RX3 107 yX3_worstLeft wsX3_worstLeft) := goodIn_app (goodIn_of _ (by decide +kernel)) ggX3_bestQuestion_X3_worstLeft
theorem dX3_bestQuestion_0 : decode cX3_bestQuestion 0 = .ok (.aload_n 0, 1) := by decide +kernel
theorem dX3_bestQuestion_1 : decode cX3_bestQuestion 1 = .ok (.iload_n 1, 1) := by decide +kernel
theorem dX3_bestQuestion_2 : decode cX3_bestQuestion 2 = .ok (.invokevirtual 104, 3) := by decide +kernel
theorem dX3_bestQuestion_5 : decode cX3_bestQuestion 5 = .ok (.istore_n 2, 1) := by decide +kernel
theorem dX3_bestQuestion_6 : decode cX3_bestQuestion 6 = .ok (.iconst (-1), 1) := by decide +kernel
theorem dX3_bestQuestion_7 : decode cX3_bestQuestion 7 = .ok (.istore_n 3, 1) := by decide +kernel
theorem dX3_bestQuestion_8 : decode cX3_bestQuestion 8 = .ok (.bipush 11, 2) := by decide +kernel
theorem dX3_bestQuestion_10 : decode cX3_bestQuestion 10 = .ok (.istore 4, 2) := by decide +kernel
theorem dX3_bestQuestion_12 : decode cX3_bestQuestion 12 = .ok (.iconst 0, 1) := by decide +kernel
theorem dX3_bestQuestion_13 : decode cX3_bestQuestion 13 = .ok (.istore 5, 2) := by decide +kernel
theorem dX3_bestQuestion_15 : decode cX3_bestQuestion 15 = .ok (.iload 5, 2) := by decide +kernel
theorem dX3_bestQuestion_17 : decode cX3_bestQuestion 17 = .ok (.bipush 12, 2) := by decide +kernel
theorem dX3_bestQuestion_19 : decode cX3_bestQuestion 19 = .ok (.if_icmp .ge 41, 3) := by decide +kernel
theorem dX3_bestQuestion_22 : decode cX3_bestQuestion 22 = .ok (.iload_n 2, 1) := by decide +kernel
theorem dX3_bestQuestion_23 : decode cX3_bestQuestion 23 = .ok (.ifCond .eq 37, 3) := by decide +kernel
theorem dX3_bestQuestion_26 : decode cX3_bestQuestion 26 = .ok (.aload_n 0, 1) := by decide +kernel
theorem dX3_bestQuestion_27 : decode cX3_bestQuestion 27 = .ok (.getfield 11, 3) := by decide +kernel
theorem dX3_bestQuestion_30 : decode cX3_bestQuestion 30 = .ok (.iload_n 1, 1) := by decide +kernel
theorem dX3_bestQuestion_31 : decode cX3_bestQuestion 31 = .ok (.iaload, 1) := by decide +kernel
theorem dX3_bestQuestion_32 : decode cX3_bestQuestion 32 = .ok (.iload_n 2, 1) := by decide +kernel
theorem dX3_bestQuestion_33 : decode cX3_bestQuestion 33 = .ok (.iload 5, 2) := by decide +kernel
theorem dX3_bestQuestion_35 : decode cX3_bestQuestion 35 = .ok (.invokestatic 107, 3) := by decide +kernel
theorem dX3_bestQuestion_38 : decode cX3_bestQuestion 38 = .ok (.istore 6, 2) := by decide +kernel
theorem dX3_bestQuestion_40 : decode cX3_bestQuestion 40 = .ok (.iload 6, 2) := by decide +kernel
theorem dX3_bestQuestion_42 : decode cX3_bestQuestion 42 = .ok (.iload 4, 2) := by decide +kernel
theorem dX3_bestQuestion_44 : decode cX3_bestQuestion 44 = .ok (.if_icmp .ge 10, 3) := by decide +kernel
theorem dX3_bestQuestion_47 : decode cX3_bestQuestion 47 = .ok (.iload 6, 2) := by decide +kernel
theorem dX3_bestQuestion_49 : decode cX3_bestQuestion 49 = .ok (.istore 4, 2) := by decide +kernel
theorem dX3_bestQuestion_51 : decode cX3_bestQuestion 51 = .ok (.iload 5, 2) := by decide +kernel
theorem dX3_bestQuestion_53 : decode cX3_bestQuestion 53 = .ok (.istore_n 3, 1) := by decide +kernel
theorem dX3_bestQuestion_54 : decode cX3_bestQuestion 54 = .ok (.iinc 5 1, 3) := by decide +kernel
theorem dX3_bestQuestion_57 : decode cX3_bestQuestion 57 = .ok (.goto (-42), 3) := by decide +kernel
theorem dX3_bestQuestion_60 : decode cX3_bestQuestion 60 = .ok (.iload_n 3, 1) := by decide +kernel
theorem dX3_bestQuestion_61 : decode cX3_bestQuestion 61 = .ok (.ireturn, 1) := by decide +kernel
set_option maxRecDepth 20000 in
theorem ggX3_worstLeft_X3_leftBy : GoodIn wsX3_worstLeft wsX3_leftBy := goodIn_r _ [8, 9, 10, 11, 12] (by decide +kernel) (by decide +kernel)
set_option maxRecDepth 20000 in
theorem gX3_worstLeft_X3_leftBy : GoodIn wsX3_worstLeft (va_wsS RX3 110 yX3_leftBy wsX3_leftBy) := goodIn_app (goodIn_of _ (by decide +kernel)) ggX3_worstLeft_X3_leftBy
theorem dX3_worstLeft_0 : decode cX3_worstLeft 0 = .ok (.iconst 0, 1) := by decide +kernel
theorem dX3_worstLeft_1 : decode cX3_worstLeft 1 = .ok (.istore_n 3, 1) := by decide +kernel
theorem dX3_worstLeft_2 : decode cX3_worstLeft 2 = .ok (.iconst 0, 1) := by decide +kernel
theorem dX3_worstLeft_3 : decode cX3_worstLeft 3 = .ok (.istore 4, 2) := by decide +kernel
theorem dX3_worstLeft_5 : decode cX3_worstLeft 5 = .ok (.iload 4, 2) := by decide +kernel
theorem dX3_worstLeft_7 : decode cX3_worstLeft 7 = .ok (.bipush 12, 2) := by decide +kernel
theorem dX3_worstLeft_9 : decode cX3_worstLeft 9 = .ok (.if_icmp .ge 22, 3) := by decide +kernel
theorem dX3_worstLeft_12 : decode cX3_worstLeft 12 = .ok (.iload_n 3, 1) := by decide +kernel
theorem dX3_worstLeft_13 : decode cX3_worstLeft 13 = .ok (.iload_n 0, 1) := by decide +kernel
theorem dX3_worstLeft_14 : decode cX3_worstLeft 14 = .ok (.iload_n 1, 1) := by decide +kernel
theorem dX3_worstLeft_15 : decode cX3_worstLeft 15 = .ok (.iload_n 2, 1) := by decide +kernel
theorem dX3_worstLeft_16 : decode cX3_worstLeft 16 = .ok (.iload 4, 2) := by decide +kernel
theorem dX3_worstLeft_18 : decode cX3_worstLeft 18 = .ok (.invokestatic 110, 3) := by decide +kernel
theorem dX3_worstLeft_21 : decode cX3_worstLeft 21 = .ok (.invokestatic 114, 3) := by decide +kernel
theorem dX3_worstLeft_24 : decode cX3_worstLeft 24 = .ok (.istore_n 3, 1) := by decide +kernel
theorem dX3_worstLeft_25 : decode cX3_worstLeft 25 = .ok (.iinc 4 1, 3) := by decide +kernel
theorem dX3_worstLeft_28 : decode cX3_worstLeft 28 = .ok (.goto (-23), 3) := by decide +kernel
theorem dX3_worstLeft_31 : decode cX3_worstLeft 31 = .ok (.iload_n 3, 1) := by decide +kernel
theorem dX3_worstLeft_32 : decode cX3_worstLeft 32 = .ok (.ireturn, 1) := by decide +kernel
set_option maxRecDepth 20000 in
theorem ggX3_leftBy_X1_passesOn : GoodIn wsX3_leftBy wsX1_passesOn := goodIn_r _ [4] (by decide +kernel) (by decide +kernel)
set_option maxRecDepth 20000 in
theorem gX3_leftBy_X1_passesOn : GoodIn wsX3_leftBy (va_wsS RX3 66 yX1_passesOn wsX1_passesOn) := goodIn_app (goodIn_of _ (by decide +kernel)) ggX3_leftBy_X1_passesOn
theorem dX3_leftBy_0 : decode cX3_leftBy 0 = .ok (.iconst 0, 1) := by decide +kernel
theorem dX3_leftBy_1 : decode cX3_leftBy 1 = .ok (.istore 4, 2) := by decide +kernel
theorem dX3_leftBy_3 : decode cX3_leftBy 3 = .ok (.iconst 0, 1) := by decide +kernel
theorem dX3_leftBy_4 : decode cX3_leftBy 4 = .ok (.istore 5, 2) := by decide +kernel
theorem dX3_leftBy_6 : decode cX3_leftBy 6 = .ok (.iload 5, 2) := by decide +kernel
theorem dX3_leftBy_8 : decode cX3_leftBy 8 = .ok (.bipush 10, 2) := by decide +kernel
theorem dX3_leftBy_10 : decode cX3_leftBy 10 = .ok (.if_icmp .ge 33, 3) := by decide +kernel
theorem dX3_leftBy_13 : decode cX3_leftBy 13 = .ok (.iload_n 1, 1) := by decide +kernel
theorem dX3_leftBy_14 : decode cX3_leftBy 14 = .ok (.iload 5, 2) := by decide +kernel
theorem dX3_leftBy_16 : decode cX3_leftBy 16 = .ok (.ishr, 1) := by decide +kernel
theorem dX3_leftBy_17 : decode cX3_leftBy 17 = .ok (.iconst 1, 1) := by decide +kernel
theorem dX3_leftBy_18 : decode cX3_leftBy 18 = .ok (.iand, 1) := by decide +kernel
theorem dX3_leftBy_19 : decode cX3_leftBy 19 = .ok (.iconst 1, 1) := by decide +kernel
theorem dX3_leftBy_20 : decode cX3_leftBy 20 = .ok (.if_icmp .ne 17, 3) := by decide +kernel
theorem dX3_leftBy_23 : decode cX3_leftBy 23 = .ok (.iload_n 0, 1) := by decide +kernel
theorem dX3_leftBy_24 : decode cX3_leftBy 24 = .ok (.iload 5, 2) := by decide +kernel
theorem dX3_leftBy_26 : decode cX3_leftBy 26 = .ok (.iload_n 2, 1) := by decide +kernel
theorem dX3_leftBy_27 : decode cX3_leftBy 27 = .ok (.invokestatic 66, 3) := by decide +kernel
theorem dX3_leftBy_30 : decode cX3_leftBy 30 = .ok (.iload_n 3, 1) := by decide +kernel
theorem dX3_leftBy_31 : decode cX3_leftBy 31 = .ok (.if_icmp .ne 6, 3) := by decide +kernel
theorem dX3_leftBy_34 : decode cX3_leftBy 34 = .ok (.iinc 4 1, 3) := by decide +kernel
theorem dX3_leftBy_37 : decode cX3_leftBy 37 = .ok (.iinc 5 1, 3) := by decide +kernel
theorem dX3_leftBy_40 : decode cX3_leftBy 40 = .ok (.goto (-34), 3) := by decide +kernel
theorem dX3_leftBy_43 : decode cX3_leftBy 43 = .ok (.iload 4, 2) := by decide +kernel
theorem dX3_leftBy_45 : decode cX3_leftBy 45 = .ok (.ireturn, 1) := by decide +kernel
theorem dX3_knowing_0 : decode cX3_knowing 0 = .ok (.iconst 0, 1) := by decide +kernel
theorem dX3_knowing_1 : decode cX3_knowing 1 = .ok (.istore_n 1, 1) := by decide +kernel
theorem dX3_knowing_2 : decode cX3_knowing 2 = .ok (.iconst 0, 1) := by decide +kernel
theorem dX3_knowing_3 : decode cX3_knowing 3 = .ok (.istore_n 2, 1) := by decide +kernel
theorem dX3_knowing_4 : decode cX3_knowing 4 = .ok (.iload_n 2, 1) := by decide +kernel
theorem dX3_knowing_5 : decode cX3_knowing 5 = .ok (.aload_n 0, 1) := by decide +kernel
theorem dX3_knowing_6 : decode cX3_knowing 6 = .ok (.getfield 34, 3) := by decide +kernel
theorem dX3_knowing_9 : decode cX3_knowing 9 = .ok (.if_icmp .ge 27, 3) := by decide +kernel
theorem dX3_knowing_12 : decode cX3_knowing 12 = .ok (.iload_n 1, 1) := by decide +kernel
theorem dX3_knowing_13 : decode cX3_knowing 13 = .ok (.aload_n 0, 1) := by decide +kernel
theorem dX3_knowing_14 : decode cX3_knowing 14 = .ok (.getfield 18, 3) := by decide +kernel
theorem dX3_knowing_17 : decode cX3_knowing 17 = .ok (.iload_n 2, 1) := by decide +kernel
theorem dX3_knowing_18 : decode cX3_knowing 18 = .ok (.iaload, 1) := by decide +kernel
theorem dX3_knowing_19 : decode cX3_knowing 19 = .ok (.iconst (-1), 1) := by decide +kernel
theorem dX3_knowing_20 : decode cX3_knowing 20 = .ok (.if_icmp .ne 7, 3) := by decide +kernel
theorem dX3_knowing_23 : decode cX3_knowing 23 = .ok (.iconst 0, 1) := by decide +kernel
theorem dX3_knowing_24 : decode cX3_knowing 24 = .ok (.goto 4, 3) := by decide +kernel
theorem dX3_knowing_27 : decode cX3_knowing 27 = .ok (.iconst 1, 1) := by decide +kernel
theorem dX3_knowing_28 : decode cX3_knowing 28 = .ok (.iadd, 1) := by decide +kernel
theorem dX3_knowing_29 : decode cX3_knowing 29 = .ok (.istore_n 1, 1) := by decide +kernel
theorem dX3_knowing_30 : decode cX3_knowing 30 = .ok (.iinc 2 1, 3) := by decide +kernel
theorem dX3_knowing_33 : decode cX3_knowing 33 = .ok (.goto (-29), 3) := by decide +kernel
theorem dX3_knowing_36 : decode cX3_knowing 36 = .ok (.iload_n 1, 1) := by decide +kernel
theorem dX3_knowing_37 : decode cX3_knowing 37 = .ok (.ireturn, 1) := by decide +kernel
set_option maxRecDepth 20000 in
theorem ggX3_unlikeRules_J6_bitCount_0f7a4 : GoodIn wsX3_unlikeRules wsJ6_bitCount_0f7a4 := goodIn_r _ [6, 7, 8, 9] (by decide +kernel) (by decide +kernel)
set_option maxRecDepth 20000 in
theorem gX3_unlikeRules_J6_bitCount_0f7a4 : GoodIn wsX3_unlikeRules (va_wsS RX3 117 yJ6_bitCount_0f7a4 wsJ6_bitCount_0f7a4) := goodIn_app (goodIn_of _ (by decide +kernel)) ggX3_unlikeRules_J6_bitCount_0f7a4
theorem dX3_unlikeRules_0 : decode cX3_unlikeRules 0 = .ok (.iconst 0, 1) := by decide +kernel
theorem dX3_unlikeRules_1 : decode cX3_unlikeRules 1 = .ok (.istore_n 1, 1) := by decide +kernel
theorem dX3_unlikeRules_2 : decode cX3_unlikeRules 2 = .ok (.iconst 0, 1) := by decide +kernel
theorem dX3_unlikeRules_3 : decode cX3_unlikeRules 3 = .ok (.istore_n 2, 1) := by decide +kernel
theorem dX3_unlikeRules_4 : decode cX3_unlikeRules 4 = .ok (.iload_n 2, 1) := by decide +kernel
theorem dX3_unlikeRules_5 : decode cX3_unlikeRules 5 = .ok (.aload_n 0, 1) := by decide +kernel
theorem dX3_unlikeRules_6 : decode cX3_unlikeRules 6 = .ok (.getfield 34, 3) := by decide +kernel
theorem dX3_unlikeRules_9 : decode cX3_unlikeRules 9 = .ok (.if_icmp .ge 34, 3) := by decide +kernel
theorem dX3_unlikeRules_12 : decode cX3_unlikeRules 12 = .ok (.iload_n 1, 1) := by decide +kernel
theorem dX3_unlikeRules_13 : decode cX3_unlikeRules 13 = .ok (.aload_n 0, 1) := by decide +kernel
theorem dX3_unlikeRules_14 : decode cX3_unlikeRules 14 = .ok (.getfield 18, 3) := by decide +kernel
theorem dX3_unlikeRules_17 : decode cX3_unlikeRules 17 = .ok (.iload_n 2, 1) := by decide +kernel
theorem dX3_unlikeRules_18 : decode cX3_unlikeRules 18 = .ok (.iaload, 1) := by decide +kernel
theorem dX3_unlikeRules_19 : decode cX3_unlikeRules 19 = .ok (.iconst (-1), 1) := by decide +kernel
theorem dX3_unlikeRules_20 : decode cX3_unlikeRules 20 = .ok (.if_icmp .ne 7, 3) := by decide +kernel
theorem dX3_unlikeRules_23 : decode cX3_unlikeRules 23 = .ok (.iconst 0, 1) := by decide +kernel
theorem dX3_unlikeRules_24 : decode cX3_unlikeRules 24 = .ok (.goto 11, 3) := by decide +kernel
theorem dX3_unlikeRules_27 : decode cX3_unlikeRules 27 = .ok (.iconst 1, 1) := by decide +kernel
theorem dX3_unlikeRules_28 : decode cX3_unlikeRules 28 = .ok (.aload_n 0, 1) := by decide +kernel
theorem dX3_unlikeRules_29 : decode cX3_unlikeRules 29 = .ok (.getfield 18, 3) := by decide +kernel
theorem dX3_unlikeRules_32 : decode cX3_unlikeRules 32 = .ok (.iload_n 2, 1) := by decide +kernel
theorem dX3_unlikeRules_33 : decode cX3_unlikeRules 33 = .ok (.iaload, 1) := by decide +kernel
theorem dX3_unlikeRules_34 : decode cX3_unlikeRules 34 = .ok (.ishl, 1) := by decide +kernel
theorem dX3_unlikeRules_35 : decode cX3_unlikeRules 35 = .ok (.ior, 1) := by decide +kernel
theorem dX3_unlikeRules_36 : decode cX3_unlikeRules 36 = .ok (.istore_n 1, 1) := by decide +kernel
theorem dX3_unlikeRules_37 : decode cX3_unlikeRules 37 = .ok (.iinc 2 1, 3) := by decide +kernel
theorem dX3_unlikeRules_40 : decode cX3_unlikeRules 40 = .ok (.goto (-36), 3) := by decide +kernel
theorem dX3_unlikeRules_43 : decode cX3_unlikeRules 43 = .ok (.iload_n 1, 1) := by decide +kernel
theorem dX3_unlikeRules_44 : decode cX3_unlikeRules 44 = .ok (.invokestatic 117, 3) := by decide +kernel
theorem dX3_unlikeRules_47 : decode cX3_unlikeRules 47 = .ok (.ireturn, 1) := by decide +kernel
theorem dX3_illOnes_0 : decode cX3_illOnes 0 = .ok (.iconst 0, 1) := by decide +kernel
theorem dX3_illOnes_1 : decode cX3_illOnes 1 = .ok (.istore_n 1, 1) := by decide +kernel
theorem dX3_illOnes_2 : decode cX3_illOnes 2 = .ok (.iconst 0, 1) := by decide +kernel
theorem dX3_illOnes_3 : decode cX3_illOnes 3 = .ok (.istore_n 2, 1) := by decide +kernel
theorem dX3_illOnes_4 : decode cX3_illOnes 4 = .ok (.iload_n 2, 1) := by decide +kernel
theorem dX3_illOnes_5 : decode cX3_illOnes 5 = .ok (.aload_n 0, 1) := by decide +kernel
theorem dX3_illOnes_6 : decode cX3_illOnes 6 = .ok (.getfield 34, 3) := by decide +kernel
theorem dX3_illOnes_9 : decode cX3_illOnes 9 = .ok (.if_icmp .ge 26, 3) := by decide +kernel
theorem dX3_illOnes_12 : decode cX3_illOnes 12 = .ok (.iload_n 1, 1) := by decide +kernel
theorem dX3_illOnes_13 : decode cX3_illOnes 13 = .ok (.aload_n 0, 1) := by decide +kernel
theorem dX3_illOnes_14 : decode cX3_illOnes 14 = .ok (.getfield 21, 3) := by decide +kernel
theorem dX3_illOnes_17 : decode cX3_illOnes 17 = .ok (.iload_n 2, 1) := by decide +kernel
theorem dX3_illOnes_18 : decode cX3_illOnes 18 = .ok (.baload, 1) := by decide +kernel
theorem dX3_illOnes_19 : decode cX3_illOnes 19 = .ok (.ifCond .eq 7, 3) := by decide +kernel
theorem dX3_illOnes_22 : decode cX3_illOnes 22 = .ok (.iconst 1, 1) := by decide +kernel
theorem dX3_illOnes_23 : decode cX3_illOnes 23 = .ok (.goto 4, 3) := by decide +kernel
theorem dX3_illOnes_26 : decode cX3_illOnes 26 = .ok (.iconst 0, 1) := by decide +kernel
theorem dX3_illOnes_27 : decode cX3_illOnes 27 = .ok (.iadd, 1) := by decide +kernel
theorem dX3_illOnes_28 : decode cX3_illOnes 28 = .ok (.istore_n 1, 1) := by decide +kernel
theorem dX3_illOnes_29 : decode cX3_illOnes 29 = .ok (.iinc 2 1, 3) := by decide +kernel
theorem dX3_illOnes_32 : decode cX3_illOnes 32 = .ok (.goto (-28), 3) := by decide +kernel
theorem dX3_illOnes_35 : decode cX3_illOnes 35 = .ok (.iload_n 1, 1) := by decide +kernel
theorem dX3_illOnes_36 : decode cX3_illOnes 36 = .ok (.ireturn, 1) := by decide +kernel
