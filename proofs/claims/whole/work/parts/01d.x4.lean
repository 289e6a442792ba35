set_option maxRecDepth 20000 in
theorem ggX4_init_X2_init : GoodIn wsX4_init wsX2_init := goodIn_r _ [20, 21, 2, 3, 22, 23, 24, 44, 45] (by decide +kernel) (by decide +kernel)
set_option maxRecDepth 20000 in
theorem gX4_init_X2_init_n9 : GoodIn wsX4_init (wsX2_init) := ggX4_init_X2_init
set_option maxRecDepth 20000 in
theorem ggX4_init_X3_init : GoodIn wsX4_init wsX3_init := goodIn_r _ [26, 27, 2, 3, 22, 28, 29, 30, 31, 32, 33, 34, 35, 36, 37, 38, 39, 52, 53, 54, 55, 56, 57, 58, 59, 60, 61, 62] (by decide +kernel) (by decide +kernel)
set_option maxRecDepth 20000 in
theorem gX4_init_X3_init_n18 : GoodIn wsX4_init (wsX3_init) := ggX4_init_X3_init
set_option maxRecDepth 20000 in
theorem ggX4_init_X0_init : GoodIn wsX4_init wsX0_init := goodIn_r _ [41, 42, 2, 3, 43, 63] (by decide +kernel) (by decide +kernel)
set_option maxRecDepth 20000 in
theorem gX4_init_X0_init_n31 : GoodIn wsX4_init (wsX0_init) := ggX4_init_X0_init
theorem dX4_init_0 : decode cX4_init 0 = .ok (.aload_n 0, 1) := by decide +kernel
theorem dX4_init_1 : decode cX4_init 1 = .ok (.invokespecial 1, 3) := by decide +kernel
theorem dX4_init_4 : decode cX4_init 4 = .ok (.aload_n 0, 1) := by decide +kernel
theorem dX4_init_5 : decode cX4_init 5 = .ok (.new 7, 3) := by decide +kernel
theorem dX4_init_8 : decode cX4_init 8 = .ok (.dup, 1) := by decide +kernel
theorem dX4_init_9 : decode cX4_init 9 = .ok (.invokespecial 9, 3) := by decide +kernel
theorem dX4_init_12 : decode cX4_init 12 = .ok (.putfield 10, 3) := by decide +kernel
theorem dX4_init_15 : decode cX4_init 15 = .ok (.aload_n 0, 1) := by decide +kernel
theorem dX4_init_16 : decode cX4_init 16 = .ok (.new 16, 3) := by decide +kernel
theorem dX4_init_19 : decode cX4_init 19 = .ok (.dup, 1) := by decide +kernel
theorem dX4_init_20 : decode cX4_init 20 = .ok (.invokespecial 18, 3) := by decide +kernel
theorem dX4_init_23 : decode cX4_init 23 = .ok (.putfield 19, 3) := by decide +kernel
theorem dX4_init_26 : decode cX4_init 26 = .ok (.aload_n 0, 1) := by decide +kernel
theorem dX4_init_27 : decode cX4_init 27 = .ok (.new 16, 3) := by decide +kernel
theorem dX4_init_30 : decode cX4_init 30 = .ok (.dup, 1) := by decide +kernel
theorem dX4_init_31 : decode cX4_init 31 = .ok (.invokespecial 18, 3) := by decide +kernel
theorem dX4_init_34 : decode cX4_init 34 = .ok (.putfield 23, 3) := by decide +kernel
theorem dX4_init_37 : decode cX4_init 37 = .ok (.aload_n 0, 1) := by decide +kernel
theorem dX4_init_38 : decode cX4_init 38 = .ok (.new 16, 3) := by decide +kernel
theorem dX4_init_41 : decode cX4_init 41 = .ok (.dup, 1) := by decide +kernel
theorem dX4_init_42 : decode cX4_init 42 = .ok (.invokespecial 18, 3) := by decide +kernel
theorem dX4_init_45 : decode cX4_init 45 = .ok (.putfield 26, 3) := by decide +kernel
theorem dX4_init_48 : decode cX4_init 48 = .ok (.aload_n 0, 1) := by decide +kernel
theorem dX4_init_49 : decode cX4_init 49 = .ok (.new 29, 3) := by decide +kernel
theorem dX4_init_52 : decode cX4_init 52 = .ok (.dup, 1) := by decide +kernel
theorem dX4_init_53 : decode cX4_init 53 = .ok (.invokespecial 31, 3) := by decide +kernel
theorem dX4_init_56 : decode cX4_init 56 = .ok (.putfield 32, 3) := by decide +kernel
theorem dX4_init_59 : decode cX4_init 59 = .ok (.aload_n 0, 1) := by decide +kernel
theorem dX4_init_60 : decode cX4_init 60 = .ok (.iconst 0, 1) := by decide +kernel
theorem dX4_init_61 : decode cX4_init 61 = .ok (.putfield 36, 3) := by decide +kernel
theorem dX4_init_64 : decode cX4_init 64 = .ok (.return_, 1) := by decide +kernel
set_option maxRecDepth 20000 in
theorem ggX4_letter_X2_isFull : GoodIn wsX4_letter wsX2_isFull := goodIn_r _ [7, 8, 21, 22] (by decide +kernel) (by decide +kernel)
set_option maxRecDepth 20000 in
theorem gX4_letter_X2_isFull : GoodIn wsX4_letter (wsV RX4 40 RX2 yX2_isFull wsX2_isFull) := goodIn_app (goodIn_of _ (by decide +kernel)) ggX4_letter_X2_isFull
set_option maxRecDepth 20000 in
theorem ggX4_letter_X2_add : GoodIn wsX4_letter wsX2_add := goodIn_r _ [12, 13, 8, 14, 4, 5, 6, 7, 21, 22] (by decide +kernel) (by decide +kernel)
set_option maxRecDepth 20000 in
theorem gX4_letter_X2_add : GoodIn wsX4_letter (wsV RX4 44 RX2 yX2_add wsX2_add) := goodIn_app (goodIn_of _ (by decide +kernel)) ggX4_letter_X2_add
theorem dX4_letter_0 : decode cX4_letter 0 = .ok (.iload_n 1, 1) := by decide +kernel
theorem dX4_letter_1 : decode cX4_letter 1 = .ok (.iconst 1, 1) := by decide +kernel
theorem dX4_letter_2 : decode cX4_letter 2 = .ok (.if_icmp .lt 9, 3) := by decide +kernel
theorem dX4_letter_5 : decode cX4_letter 5 = .ok (.iload_n 1, 1) := by decide +kernel
theorem dX4_letter_6 : decode cX4_letter 6 = .ok (.bipush 126, 2) := by decide +kernel
theorem dX4_letter_8 : decode cX4_letter 8 = .ok (.if_icmp .le 6, 3) := by decide +kernel
theorem dX4_letter_11 : decode cX4_letter 11 = .ok (.bipush (-102), 2) := by decide +kernel
theorem dX4_letter_13 : decode cX4_letter 13 = .ok (.ireturn, 1) := by decide +kernel
theorem dX4_letter_14 : decode cX4_letter 14 = .ok (.aload_n 0, 1) := by decide +kernel
theorem dX4_letter_15 : decode cX4_letter 15 = .ok (.getfield 10, 3) := by decide +kernel
theorem dX4_letter_18 : decode cX4_letter 18 = .ok (.invokevirtual 40, 3) := by decide +kernel
theorem dX4_letter_21 : decode cX4_letter 21 = .ok (.ifCond .eq 6, 3) := by decide +kernel
theorem dX4_letter_24 : decode cX4_letter 24 = .ok (.bipush (-104), 2) := by decide +kernel
theorem dX4_letter_26 : decode cX4_letter 26 = .ok (.ireturn, 1) := by decide +kernel
theorem dX4_letter_27 : decode cX4_letter 27 = .ok (.aload_n 0, 1) := by decide +kernel
theorem dX4_letter_28 : decode cX4_letter 28 = .ok (.getfield 10, 3) := by decide +kernel
theorem dX4_letter_31 : decode cX4_letter 31 = .ok (.iload_n 1, 1) := by decide +kernel
theorem dX4_letter_32 : decode cX4_letter 32 = .ok (.invokevirtual 44, 3) := by decide +kernel
theorem dX4_letter_35 : decode cX4_letter 35 = .ok (.aload_n 0, 1) := by decide +kernel
theorem dX4_letter_36 : decode cX4_letter 36 = .ok (.getfield 10, 3) := by decide +kernel
theorem dX4_letter_39 : decode cX4_letter 39 = .ok (.getfield 48, 3) := by decide +kernel
theorem dX4_letter_42 : decode cX4_letter 42 = .ok (.ireturn, 1) := by decide +kernel
theorem dX4_blank_0 : decode cX4_blank 0 = .ok (.aload_n 0, 1) := by decide +kernel
theorem dX4_blank_1 : decode cX4_blank 1 = .ok (.getfield 10, 3) := by decide +kernel
theorem dX4_blank_4 : decode cX4_blank 4 = .ok (.getfield 48, 3) := by decide +kernel
theorem dX4_blank_7 : decode cX4_blank 7 = .ok (.istore_n 1, 1) := by decide +kernel
theorem dX4_blank_8 : decode cX4_blank 8 = .ok (.aload_n 0, 1) := by decide +kernel
theorem dX4_blank_9 : decode cX4_blank 9 = .ok (.getfield 10, 3) := by decide +kernel
theorem dX4_blank_12 : decode cX4_blank 12 = .ok (.iconst 0, 1) := by decide +kernel
theorem dX4_blank_13 : decode cX4_blank 13 = .ok (.putfield 48, 3) := by decide +kernel
theorem dX4_blank_16 : decode cX4_blank 16 = .ok (.iload_n 1, 1) := by decide +kernel
theorem dX4_blank_17 : decode cX4_blank 17 = .ok (.ireturn, 1) := by decide +kernel
set_option maxRecDepth 20000 in
theorem ggX4_fault_X2_firstMisfit : GoodIn wsX4_fault wsX2_firstMisfit := goodIn_r _ [6, 7, 8, 9, 10, 5, 11, 12, 13, 14, 15, 16, 17, 18, 19, 20, 21, 22, 23, 24, 25, 26, 27, 28, 29, 30, 31, 32, 33, 34, 35, 36, 37, 38, 39, 40, 41, 42, 43, 44, 45, 46, 47, 48, 49, 50, 51, 52, 53, 54, 55, 56, 57, 58, 59, 60, 61, 62, 63, 64, 65, 66, 67, 68, 69, 70, 71, 72, 73, 74, 75, 76, 77, 78, 79, 80, 81, 82, 83, 84, 85, 86, 87, 88, 89, 90, 91, 92, 93, 94, 95, 96, 97, 98, 99, 100, 101, 108, 109] (by decide +kernel) (by decide +kernel)
set_option maxRecDepth 20000 in
theorem gX4_fault_X2_firstMisfit : GoodIn wsX4_fault (wsV RX4 51 RX2 yX2_firstMisfit wsX2_firstMisfit) := goodIn_app (goodIn_of _ (by decide +kernel)) ggX4_fault_X2_firstMisfit
theorem dX4_fault_0 : decode cX4_fault 0 = .ok (.aload_n 0, 1) := by decide +kernel
theorem dX4_fault_1 : decode cX4_fault 1 = .ok (.getfield 10, 3) := by decide +kernel
theorem dX4_fault_4 : decode cX4_fault 4 = .ok (.invokevirtual 51, 3) := by decide +kernel
theorem dX4_fault_7 : decode cX4_fault 7 = .ok (.ireturn, 1) := by decide +kernel
set_option maxRecDepth 20000 in
theorem ggX4_school_X2_isSchool : GoodIn wsX4_school wsX2_isSchool := goodIn_r _ [11, 12, 13, 14, 15, 10, 16, 17, 18, 19, 20, 21, 22, 23, 24, 25, 26, 27, 28, 29, 30, 31, 32, 33, 34, 35, 36, 37, 38, 39, 40, 41, 42, 43, 44, 45, 46, 47, 48, 49, 50, 51, 52, 53, 54, 55, 56, 57, 58, 59, 60, 61, 62, 63, 64, 65, 66, 67, 68, 69, 70, 71, 72, 73, 74, 75, 76, 77, 78, 79, 80, 81, 82, 83, 84, 85, 86, 87, 88, 89, 90, 91, 92, 93, 94, 95, 96, 97, 98, 99, 100, 101, 102, 103, 104, 105, 106, 107, 108, 109, 110, 111, 112, 113, 114, 144, 145] (by decide +kernel) (by decide +kernel)
set_option maxRecDepth 20000 in
theorem gX4_school_X2_isSchool : GoodIn wsX4_school (wsV RX4 55 RX2 yX2_isSchool wsX2_isSchool) := goodIn_app (goodIn_of _ (by decide +kernel)) ggX4_school_X2_isSchool
set_option maxRecDepth 20000 in
theorem ggX4_school_X3_readFrom : GoodIn wsX4_school wsX3_readFrom := goodIn_r _ [119, 120, 59, 56, 60, 121, 122, 123, 124, 125, 126, 127, 128, 129, 14, 15, 10, 16, 12, 130, 131, 132, 133, 25, 26, 27, 28, 29, 30, 31, 32, 33, 34, 35, 36, 37, 38, 39, 40, 41, 42, 43, 44, 45, 46, 47, 48, 49, 50, 51, 52, 53, 54, 55, 57, 58, 61, 62, 63, 64, 65, 66, 67, 68, 69, 70, 71, 72, 73, 74, 75, 76, 77, 78, 79, 80, 81, 82, 83, 84, 85, 86, 87, 88, 89, 90, 91, 92, 93, 94, 95, 96, 97, 98, 99, 100, 101, 102, 103, 104, 105, 106, 107, 108, 109, 110, 111, 112, 113, 114, 134, 135, 136, 137, 146, 147, 148, 149, 150, 151, 152, 153, 154, 155, 156, 144, 145] (by decide +kernel) (by decide +kernel)
set_option maxRecDepth 20000 in
theorem gX4_school_X3_readFrom : GoodIn wsX4_school (wsV RX4 58 RX3 yX3_readFrom wsX3_readFrom) := goodIn_app (goodIn_of _ (by decide +kernel)) ggX4_school_X3_readFrom
theorem dX4_school_0 : decode cX4_school 0 = .ok (.aload_n 0, 1) := by decide +kernel
theorem dX4_school_1 : decode cX4_school 1 = .ok (.getfield 10, 3) := by decide +kernel
theorem dX4_school_4 : decode cX4_school 4 = .ok (.invokevirtual 55, 3) := by decide +kernel
theorem dX4_school_7 : decode cX4_school 7 = .ok (.ifCond .ne 6, 3) := by decide +kernel
theorem dX4_school_10 : decode cX4_school 10 = .ok (.bipush (-103), 2) := by decide +kernel
theorem dX4_school_12 : decode cX4_school 12 = .ok (.ireturn, 1) := by decide +kernel
theorem dX4_school_13 : decode cX4_school 13 = .ok (.aload_n 0, 1) := by decide +kernel
theorem dX4_school_14 : decode cX4_school 14 = .ok (.getfield 19, 3) := by decide +kernel
theorem dX4_school_17 : decode cX4_school 17 = .ok (.aload_n 0, 1) := by decide +kernel
theorem dX4_school_18 : decode cX4_school 18 = .ok (.getfield 10, 3) := by decide +kernel
theorem dX4_school_21 : decode cX4_school 21 = .ok (.invokevirtual 58, 3) := by decide +kernel
theorem dX4_school_24 : decode cX4_school 24 = .ok (.aload_n 0, 1) := by decide +kernel
theorem dX4_school_25 : decode cX4_school 25 = .ok (.getfield 10, 3) := by decide +kernel
theorem dX4_school_28 : decode cX4_school 28 = .ok (.iconst 0, 1) := by decide +kernel
theorem dX4_school_29 : decode cX4_school 29 = .ok (.putfield 48, 3) := by decide +kernel
theorem dX4_school_32 : decode cX4_school 32 = .ok (.aload_n 0, 1) := by decide +kernel
theorem dX4_school_33 : decode cX4_school 33 = .ok (.getfield 23, 3) := by decide +kernel
theorem dX4_school_36 : decode cX4_school 36 = .ok (.iconst 0, 1) := by decide +kernel
theorem dX4_school_37 : decode cX4_school 37 = .ok (.putfield 62, 3) := by decide +kernel
theorem dX4_school_40 : decode cX4_school 40 = .ok (.aload_n 0, 1) := by decide +kernel
theorem dX4_school_41 : decode cX4_school 41 = .ok (.dup, 1) := by decide +kernel
theorem dX4_school_42 : decode cX4_school 42 = .ok (.getfield 36, 3) := by decide +kernel
theorem dX4_school_45 : decode cX4_school 45 = .ok (.iconst 1, 1) := by decide +kernel
theorem dX4_school_46 : decode cX4_school 46 = .ok (.iadd, 1) := by decide +kernel
theorem dX4_school_47 : decode cX4_school 47 = .ok (.putfield 36, 3) := by decide +kernel
theorem dX4_school_50 : decode cX4_school 50 = .ok (.aload_n 0, 1) := by decide +kernel
theorem dX4_school_51 : decode cX4_school 51 = .ok (.getfield 19, 3) := by decide +kernel
theorem dX4_school_54 : decode cX4_school 54 = .ok (.getfield 62, 3) := by decide +kernel
theorem dX4_school_57 : decode cX4_school 57 = .ok (.ireturn, 1) := by decide +kernel
set_option maxRecDepth 20000 in
theorem ggX4_child_X3_has : GoodIn wsX4_child wsX3_has := goodIn_r _ [10, 11, 57, 58, 59, 60, 61, 62, 63, 64, 65, 66, 67] (by decide +kernel) (by decide +kernel)
set_option maxRecDepth 20000 in
theorem gX4_child_X3_has : GoodIn wsX4_child (wsV RX4 63 RX3 yX3_has wsX3_has) := goodIn_app (goodIn_of _ (by decide +kernel)) ggX4_child_X3_has
set_option maxRecDepth 20000 in
theorem ggX4_child_X3_taughtNowBy : GoodIn wsX4_child wsX3_taughtNowBy := goodIn_r _ [15, 16, 17, 18, 19, 20, 21, 22, 23, 57, 58, 59, 60, 61, 62, 63, 64, 65, 66, 67] (by decide +kernel) (by decide +kernel)
set_option maxRecDepth 20000 in
theorem gX4_child_X3_taughtNowBy : GoodIn wsX4_child (wsV RX4 81 RX3 yX3_taughtNowBy wsX3_taughtNowBy) := goodIn_app (goodIn_of _ (by decide +kernel)) ggX4_child_X3_taughtNowBy
set_option maxRecDepth 20000 in
theorem ggX4_child_X3_possibleSlips : GoodIn wsX4_child wsX3_possibleSlips := goodIn_r _ [27, 28, 29, 30, 9, 31, 32, 33, 18, 34, 35, 20, 21, 22, 23, 57, 58, 59, 60, 61, 62, 63, 64, 65, 66, 67] (by decide +kernel) (by decide +kernel)
set_option maxRecDepth 20000 in
theorem gX4_child_X3_possibleSlips : GoodIn wsX4_child (wsV RX4 85 RX3 yX3_possibleSlips wsX3_possibleSlips) := goodIn_app (goodIn_of _ (by decide +kernel)) ggX4_child_X3_possibleSlips
set_option maxRecDepth 20000 in
theorem ggX4_child_X3_bestQuestion : GoodIn wsX4_child wsX3_bestQuestion := goodIn_r _ [39, 18, 40, 25, 26, 9, 27, 28, 29, 30, 31, 32, 33, 34, 35, 20, 21, 22, 23, 41, 42, 43, 44, 45, 46, 47, 48, 49, 50, 57, 58, 59, 60, 61, 62, 63, 64, 65, 66, 67] (by decide +kernel) (by decide +kernel)
set_option maxRecDepth 20000 in
theorem gX4_child_X3_bestQuestion : GoodIn wsX4_child (wsV RX4 88 RX3 yX3_bestQuestion wsX3_bestQuestion) := goodIn_app (goodIn_of _ (by decide +kernel)) ggX4_child_X3_bestQuestion
theorem dX4_child_0 : decode cX4_child 0 = .ok (.aload_n 0, 1) := by decide +kernel
theorem dX4_child_1 : decode cX4_child 1 = .ok (.getfield 19, 3) := by decide +kernel
theorem dX4_child_4 : decode cX4_child 4 = .ok (.iload_n 1, 1) := by decide +kernel
theorem dX4_child_5 : decode cX4_child 5 = .ok (.invokevirtual 63, 3) := by decide +kernel
theorem dX4_child_8 : decode cX4_child 8 = .ok (.ifCond .ne 6, 3) := by decide +kernel
theorem dX4_child_11 : decode cX4_child 11 = .ok (.bipush (-101), 2) := by decide +kernel
theorem dX4_child_13 : decode cX4_child 13 = .ok (.ireturn, 1) := by decide +kernel
theorem dX4_child_14 : decode cX4_child 14 = .ok (.iload_n 2, 1) := by decide +kernel
theorem dX4_child_15 : decode cX4_child 15 = .ok (.tableswitch 116 0 6 #[41, 51, 61, 71, 89, 98, 107], 41) := by decide +kernel
theorem dX4_child_56 : decode cX4_child 56 = .ok (.aload_n 0, 1) := by decide +kernel
theorem dX4_child_57 : decode cX4_child 57 = .ok (.getfield 19, 3) := by decide +kernel
theorem dX4_child_60 : decode cX4_child 60 = .ok (.getfield 67, 3) := by decide +kernel
theorem dX4_child_63 : decode cX4_child 63 = .ok (.iload_n 1, 1) := by decide +kernel
theorem dX4_child_64 : decode cX4_child 64 = .ok (.iaload, 1) := by decide +kernel
theorem dX4_child_65 : decode cX4_child 65 = .ok (.ireturn, 1) := by decide +kernel
theorem dX4_child_66 : decode cX4_child 66 = .ok (.aload_n 0, 1) := by decide +kernel
theorem dX4_child_67 : decode cX4_child 67 = .ok (.getfield 19, 3) := by decide +kernel
theorem dX4_child_70 : decode cX4_child 70 = .ok (.getfield 71, 3) := by decide +kernel
theorem dX4_child_73 : decode cX4_child 73 = .ok (.iload_n 1, 1) := by decide +kernel
theorem dX4_child_74 : decode cX4_child 74 = .ok (.iaload, 1) := by decide +kernel
theorem dX4_child_75 : decode cX4_child 75 = .ok (.ireturn, 1) := by decide +kernel
theorem dX4_child_76 : decode cX4_child 76 = .ok (.aload_n 0, 1) := by decide +kernel
theorem dX4_child_77 : decode cX4_child 77 = .ok (.getfield 19, 3) := by decide +kernel
theorem dX4_child_80 : decode cX4_child 80 = .ok (.getfield 74, 3) := by decide +kernel
theorem dX4_child_83 : decode cX4_child 83 = .ok (.iload_n 1, 1) := by decide +kernel
theorem dX4_child_84 : decode cX4_child 84 = .ok (.iaload, 1) := by decide +kernel
theorem dX4_child_85 : decode cX4_child 85 = .ok (.ireturn, 1) := by decide +kernel
theorem dX4_child_86 : decode cX4_child 86 = .ok (.aload_n 0, 1) := by decide +kernel
theorem dX4_child_87 : decode cX4_child 87 = .ok (.getfield 19, 3) := by decide +kernel
theorem dX4_child_90 : decode cX4_child 90 = .ok (.getfield 77, 3) := by decide +kernel
theorem dX4_child_93 : decode cX4_child 93 = .ok (.iload_n 1, 1) := by decide +kernel
theorem dX4_child_94 : decode cX4_child 94 = .ok (.baload, 1) := by decide +kernel
theorem dX4_child_95 : decode cX4_child 95 = .ok (.ifCond .eq 7, 3) := by decide +kernel
theorem dX4_child_98 : decode cX4_child 98 = .ok (.iconst 1, 1) := by decide +kernel
theorem dX4_child_99 : decode cX4_child 99 = .ok (.goto 4, 3) := by decide +kernel
theorem dX4_child_102 : decode cX4_child 102 = .ok (.iconst 0, 1) := by decide +kernel
theorem dX4_child_103 : decode cX4_child 103 = .ok (.ireturn, 1) := by decide +kernel
theorem dX4_child_104 : decode cX4_child 104 = .ok (.aload_n 0, 1) := by decide +kernel
theorem dX4_child_105 : decode cX4_child 105 = .ok (.getfield 19, 3) := by decide +kernel
theorem dX4_child_108 : decode cX4_child 108 = .ok (.iload_n 1, 1) := by decide +kernel
theorem dX4_child_109 : decode cX4_child 109 = .ok (.invokevirtual 81, 3) := by decide +kernel
theorem dX4_child_112 : decode cX4_child 112 = .ok (.ireturn, 1) := by decide +kernel
theorem dX4_child_113 : decode cX4_child 113 = .ok (.aload_n 0, 1) := by decide +kernel
theorem dX4_child_114 : decode cX4_child 114 = .ok (.getfield 19, 3) := by decide +kernel
theorem dX4_child_117 : decode cX4_child 117 = .ok (.iload_n 1, 1) := by decide +kernel
theorem dX4_child_118 : decode cX4_child 118 = .ok (.invokevirtual 85, 3) := by decide +kernel
theorem dX4_child_121 : decode cX4_child 121 = .ok (.ireturn, 1) := by decide +kernel
theorem dX4_child_122 : decode cX4_child 122 = .ok (.aload_n 0, 1) := by decide +kernel
theorem dX4_child_123 : decode cX4_child 123 = .ok (.getfield 19, 3) := by decide +kernel
theorem dX4_child_126 : decode cX4_child 126 = .ok (.iload_n 1, 1) := by decide +kernel
theorem dX4_child_127 : decode cX4_child 127 = .ok (.invokevirtual 88, 3) := by decide +kernel
theorem dX4_child_130 : decode cX4_child 130 = .ok (.ireturn, 1) := by decide +kernel
theorem dX4_child_131 : decode cX4_child 131 = .ok (.bipush (-102), 2) := by decide +kernel
theorem dX4_child_133 : decode cX4_child 133 = .ok (.ireturn, 1) := by decide +kernel
set_option maxRecDepth 20000 in
theorem ggX4_as_X3_has : GoodIn wsX4_as wsX3_has := goodIn_r _ [7, 8, 19, 20, 21, 22, 23, 24, 25, 26, 27, 28, 29] (by decide +kernel) (by decide +kernel)
set_option maxRecDepth 20000 in
theorem gX4_as_X3_has : GoodIn wsX4_as (wsV RX4 63 RX3 yX3_has wsX3_has) := goodIn_app (goodIn_of _ (by decide +kernel)) ggX4_as_X3_has
set_option maxRecDepth 20000 in
theorem ggX4_as_X1_isA : GoodIn wsX4_as wsX1_isA := goodIn_r _ [12] (by decide +kernel) (by decide +kernel)
set_option maxRecDepth 20000 in
theorem gX4_as_X1_isA : GoodIn wsX4_as (va_wsS RX4 91 yX1_isA wsX1_isA) := goodIn_app (goodIn_of _ (by decide +kernel)) ggX4_as_X1_isA
theorem dX4_as_0 : decode cX4_as 0 = .ok (.aload_n 0, 1) := by decide +kernel
theorem dX4_as_1 : decode cX4_as 1 = .ok (.getfield 19, 3) := by decide +kernel
theorem dX4_as_4 : decode cX4_as 4 = .ok (.iload_n 1, 1) := by decide +kernel
theorem dX4_as_5 : decode cX4_as 5 = .ok (.invokevirtual 63, 3) := by decide +kernel
theorem dX4_as_8 : decode cX4_as 8 = .ok (.ifCond .ne 6, 3) := by decide +kernel
theorem dX4_as_11 : decode cX4_as 11 = .ok (.bipush (-101), 2) := by decide +kernel
theorem dX4_as_13 : decode cX4_as 13 = .ok (.ireturn, 1) := by decide +kernel
theorem dX4_as_14 : decode cX4_as 14 = .ok (.iload_n 2, 1) := by decide +kernel
theorem dX4_as_15 : decode cX4_as 15 = .ok (.ifCond .lt 8, 3) := by decide +kernel
theorem dX4_as_18 : decode cX4_as 18 = .ok (.iload_n 2, 1) := by decide +kernel
theorem dX4_as_19 : decode cX4_as 19 = .ok (.iconst 5, 1) := by decide +kernel
theorem dX4_as_20 : decode cX4_as 20 = .ok (.if_icmp .lt 6, 3) := by decide +kernel
theorem dX4_as_23 : decode cX4_as 23 = .ok (.bipush (-102), 2) := by decide +kernel
theorem dX4_as_25 : decode cX4_as 25 = .ok (.ireturn, 1) := by decide +kernel
theorem dX4_as_26 : decode cX4_as 26 = .ok (.aload_n 0, 1) := by decide +kernel
theorem dX4_as_27 : decode cX4_as 27 = .ok (.getfield 19, 3) := by decide +kernel
theorem dX4_as_30 : decode cX4_as 30 = .ok (.getfield 67, 3) := by decide +kernel
theorem dX4_as_33 : decode cX4_as 33 = .ok (.iload_n 1, 1) := by decide +kernel
theorem dX4_as_34 : decode cX4_as 34 = .ok (.iaload, 1) := by decide +kernel
theorem dX4_as_35 : decode cX4_as 35 = .ok (.iload_n 2, 1) := by decide +kernel
theorem dX4_as_36 : decode cX4_as 36 = .ok (.invokestatic 91, 3) := by decide +kernel
theorem dX4_as_39 : decode cX4_as 39 = .ok (.ifCond .eq 7, 3) := by decide +kernel
theorem dX4_as_42 : decode cX4_as 42 = .ok (.iload_n 1, 1) := by decide +kernel
theorem dX4_as_43 : decode cX4_as 43 = .ok (.goto 4, 3) := by decide +kernel
theorem dX4_as_46 : decode cX4_as 46 = .ok (.iconst (-1), 1) := by decide +kernel
theorem dX4_as_47 : decode cX4_as 47 = .ok (.ireturn, 1) := by decide +kernel
set_option maxRecDepth 20000 in
theorem ggX4_teaches_X4_refusalOf : GoodIn wsX4_teaches wsX4_refusalOf := goodIn_r _ [8, 1, 9, 10, 11, 12, 13, 14, 15, 16, 7, 17, 22, 23, 24, 25, 26, 27, 28, 29, 30, 31, 32, 33, 34, 35, 36, 37, 38] (by decide +kernel) (by decide +kernel)
set_option maxRecDepth 20000 in
theorem gX4_teaches_X4_refusalOf : GoodIn wsX4_teaches (wsV RX4 97 RX4 yX4_refusalOf wsX4_refusalOf) := goodIn_app (goodIn_of _ (by decide +kernel)) ggX4_teaches_X4_refusalOf
set_option maxRecDepth 20000 in
theorem ggX4_teaches_X1_passesOn : GoodIn wsX4_teaches wsX1_passesOn := goodIn_r _ [21] (by decide +kernel) (by decide +kernel)
set_option maxRecDepth 20000 in
theorem gX4_teaches_X1_passesOn : GoodIn wsX4_teaches (va_wsS RX4 101 yX1_passesOn wsX1_passesOn) := goodIn_app (goodIn_of _ (by decide +kernel)) ggX4_teaches_X1_passesOn
theorem dX4_teaches_0 : decode cX4_teaches 0 = .ok (.aload_n 0, 1) := by decide +kernel
theorem dX4_teaches_1 : decode cX4_teaches 1 = .ok (.iload_n 1, 1) := by decide +kernel
theorem dX4_teaches_2 : decode cX4_teaches 2 = .ok (.iload_n 2, 1) := by decide +kernel
theorem dX4_teaches_3 : decode cX4_teaches 3 = .ok (.invokevirtual 97, 3) := by decide +kernel
theorem dX4_teaches_6 : decode cX4_teaches 6 = .ok (.istore_n 3, 1) := by decide +kernel
theorem dX4_teaches_7 : decode cX4_teaches 7 = .ok (.iload_n 3, 1) := by decide +kernel
theorem dX4_teaches_8 : decode cX4_teaches 8 = .ok (.ifCond .eq 7, 3) := by decide +kernel
theorem dX4_teaches_11 : decode cX4_teaches 11 = .ok (.iload_n 3, 1) := by decide +kernel
theorem dX4_teaches_12 : decode cX4_teaches 12 = .ok (.goto 25, 3) := by decide +kernel
theorem dX4_teaches_15 : decode cX4_teaches 15 = .ok (.aload_n 0, 1) := by decide +kernel
theorem dX4_teaches_16 : decode cX4_teaches 16 = .ok (.getfield 19, 3) := by decide +kernel
theorem dX4_teaches_19 : decode cX4_teaches 19 = .ok (.getfield 67, 3) := by decide +kernel
theorem dX4_teaches_22 : decode cX4_teaches 22 = .ok (.iload_n 1, 1) := by decide +kernel
theorem dX4_teaches_23 : decode cX4_teaches 23 = .ok (.iaload, 1) := by decide +kernel
theorem dX4_teaches_24 : decode cX4_teaches 24 = .ok (.aload_n 0, 1) := by decide +kernel
theorem dX4_teaches_25 : decode cX4_teaches 25 = .ok (.getfield 19, 3) := by decide +kernel
theorem dX4_teaches_28 : decode cX4_teaches 28 = .ok (.getfield 71, 3) := by decide +kernel
theorem dX4_teaches_31 : decode cX4_teaches 31 = .ok (.iload_n 1, 1) := by decide +kernel
theorem dX4_teaches_32 : decode cX4_teaches 32 = .ok (.iaload, 1) := by decide +kernel
theorem dX4_teaches_33 : decode cX4_teaches 33 = .ok (.iload_n 2, 1) := by decide +kernel
theorem dX4_teaches_34 : decode cX4_teaches 34 = .ok (.invokestatic 101, 3) := by decide +kernel
theorem dX4_teaches_37 : decode cX4_teaches 37 = .ok (.ireturn, 1) := by decide +kernel
set_option maxRecDepth 20000 in
theorem ggX4_tell_X4_refusalOf : GoodIn wsX4_tell wsX4_refusalOf := goodIn_r _ [7, 1, 8, 9, 10, 11, 12, 13, 14, 15, 6, 16, 17, 18, 19, 20, 21, 22, 23, 24, 25, 26, 27, 28, 29, 30, 31, 32, 33] (by decide +kernel) (by decide +kernel)
set_option maxRecDepth 20000 in
theorem gX4_tell_X4_refusalOf : GoodIn wsX4_tell (wsV RX4 97 RX4 yX4_refusalOf wsX4_refusalOf) := goodIn_app (goodIn_of _ (by decide +kernel)) ggX4_tell_X4_refusalOf
theorem dX4_tell_0 : decode cX4_tell 0 = .ok (.aload_n 0, 1) := by decide +kernel
theorem dX4_tell_1 : decode cX4_tell 1 = .ok (.iload_n 1, 1) := by decide +kernel
theorem dX4_tell_2 : decode cX4_tell 2 = .ok (.iload_n 2, 1) := by decide +kernel
theorem dX4_tell_3 : decode cX4_tell 3 = .ok (.invokevirtual 97, 3) := by decide +kernel
theorem dX4_tell_6 : decode cX4_tell 6 = .ok (.istore_n 3, 1) := by decide +kernel
theorem dX4_tell_7 : decode cX4_tell 7 = .ok (.iload_n 3, 1) := by decide +kernel
theorem dX4_tell_8 : decode cX4_tell 8 = .ok (.ifCond .eq 5, 3) := by decide +kernel
theorem dX4_tell_11 : decode cX4_tell 11 = .ok (.iload_n 3, 1) := by decide +kernel
theorem dX4_tell_12 : decode cX4_tell 12 = .ok (.ireturn, 1) := by decide +kernel
theorem dX4_tell_13 : decode cX4_tell 13 = .ok (.aload_n 0, 1) := by decide +kernel
theorem dX4_tell_14 : decode cX4_tell 14 = .ok (.getfield 19, 3) := by decide +kernel
theorem dX4_tell_17 : decode cX4_tell 17 = .ok (.getfield 74, 3) := by decide +kernel
theorem dX4_tell_20 : decode cX4_tell 20 = .ok (.iload_n 1, 1) := by decide +kernel
theorem dX4_tell_21 : decode cX4_tell 21 = .ok (.iaload, 1) := by decide +kernel
theorem dX4_tell_22 : decode cX4_tell 22 = .ok (.istore 4, 2) := by decide +kernel
theorem dX4_tell_24 : decode cX4_tell 24 = .ok (.aload_n 0, 1) := by decide +kernel
theorem dX4_tell_25 : decode cX4_tell 25 = .ok (.getfield 19, 3) := by decide +kernel
theorem dX4_tell_28 : decode cX4_tell 28 = .ok (.getfield 74, 3) := by decide +kernel
theorem dX4_tell_31 : decode cX4_tell 31 = .ok (.iload_n 1, 1) := by decide +kernel
theorem dX4_tell_32 : decode cX4_tell 32 = .ok (.iload_n 2, 1) := by decide +kernel
theorem dX4_tell_33 : decode cX4_tell 33 = .ok (.iastore, 1) := by decide +kernel
theorem dX4_tell_34 : decode cX4_tell 34 = .ok (.iload 4, 2) := by decide +kernel
theorem dX4_tell_36 : decode cX4_tell 36 = .ok (.ireturn, 1) := by decide +kernel
set_option maxRecDepth 20000 in
theorem ggX4_ill_X3_has : GoodIn wsX4_ill wsX3_has := goodIn_r _ [7, 8, 15, 16, 17, 18, 19, 20, 21, 22, 23, 24, 25] (by decide +kernel) (by decide +kernel)
set_option maxRecDepth 20000 in
theorem gX4_ill_X3_has : GoodIn wsX4_ill (wsV RX4 63 RX3 yX3_has wsX3_has) := goodIn_app (goodIn_of _ (by decide +kernel)) ggX4_ill_X3_has
theorem dX4_ill_0 : decode cX4_ill 0 = .ok (.aload_n 0, 1) := by decide +kernel
theorem dX4_ill_1 : decode cX4_ill 1 = .ok (.getfield 19, 3) := by decide +kernel
theorem dX4_ill_4 : decode cX4_ill 4 = .ok (.iload_n 1, 1) := by decide +kernel
theorem dX4_ill_5 : decode cX4_ill 5 = .ok (.invokevirtual 63, 3) := by decide +kernel
theorem dX4_ill_8 : decode cX4_ill 8 = .ok (.ifCond .ne 6, 3) := by decide +kernel
theorem dX4_ill_11 : decode cX4_ill 11 = .ok (.bipush (-101), 2) := by decide +kernel
theorem dX4_ill_13 : decode cX4_ill 13 = .ok (.ireturn, 1) := by decide +kernel
theorem dX4_ill_14 : decode cX4_ill 14 = .ok (.aload_n 0, 1) := by decide +kernel
theorem dX4_ill_15 : decode cX4_ill 15 = .ok (.getfield 19, 3) := by decide +kernel
theorem dX4_ill_18 : decode cX4_ill 18 = .ok (.getfield 77, 3) := by decide +kernel
theorem dX4_ill_21 : decode cX4_ill 21 = .ok (.iload_n 1, 1) := by decide +kernel
theorem dX4_ill_22 : decode cX4_ill 22 = .ok (.baload, 1) := by decide +kernel
theorem dX4_ill_23 : decode cX4_ill 23 = .ok (.istore_n 3, 1) := by decide +kernel
theorem dX4_ill_24 : decode cX4_ill 24 = .ok (.aload_n 0, 1) := by decide +kernel
theorem dX4_ill_25 : decode cX4_ill 25 = .ok (.getfield 19, 3) := by decide +kernel
theorem dX4_ill_28 : decode cX4_ill 28 = .ok (.getfield 77, 3) := by decide +kernel
theorem dX4_ill_31 : decode cX4_ill 31 = .ok (.iload_n 1, 1) := by decide +kernel
theorem dX4_ill_32 : decode cX4_ill 32 = .ok (.iload_n 2, 1) := by decide +kernel
theorem dX4_ill_33 : decode cX4_ill 33 = .ok (.bastore, 1) := by decide +kernel
theorem dX4_ill_34 : decode cX4_ill 34 = .ok (.iload_n 3, 1) := by decide +kernel
theorem dX4_ill_35 : decode cX4_ill 35 = .ok (.ifCond .eq 7, 3) := by decide +kernel
theorem dX4_ill_38 : decode cX4_ill 38 = .ok (.iconst 1, 1) := by decide +kernel
theorem dX4_ill_39 : decode cX4_ill 39 = .ok (.goto 4, 3) := by decide +kernel
theorem dX4_ill_42 : decode cX4_ill 42 = .ok (.iconst 0, 1) := by decide +kernel
theorem dX4_ill_43 : decode cX4_ill 43 = .ok (.ireturn, 1) := by decide +kernel
set_option maxRecDepth 20000 in
theorem ggX4_slip_X3_has : GoodIn wsX4_slip wsX3_has := goodIn_r _ [7, 8, 15, 16, 17, 18, 19, 20, 21, 22, 23, 24, 25] (by decide +kernel) (by decide +kernel)
set_option maxRecDepth 20000 in
theorem gX4_slip_X3_has : GoodIn wsX4_slip (wsV RX4 63 RX3 yX3_has wsX3_has) := goodIn_app (goodIn_of _ (by decide +kernel)) ggX4_slip_X3_has
theorem dX4_slip_0 : decode cX4_slip 0 = .ok (.aload_n 0, 1) := by decide +kernel
theorem dX4_slip_1 : decode cX4_slip 1 = .ok (.getfield 19, 3) := by decide +kernel
theorem dX4_slip_4 : decode cX4_slip 4 = .ok (.iload_n 1, 1) := by decide +kernel
theorem dX4_slip_5 : decode cX4_slip 5 = .ok (.invokevirtual 63, 3) := by decide +kernel
theorem dX4_slip_8 : decode cX4_slip 8 = .ok (.ifCond .ne 6, 3) := by decide +kernel
theorem dX4_slip_11 : decode cX4_slip 11 = .ok (.bipush (-101), 2) := by decide +kernel
theorem dX4_slip_13 : decode cX4_slip 13 = .ok (.ireturn, 1) := by decide +kernel
theorem dX4_slip_14 : decode cX4_slip 14 = .ok (.iload_n 2, 1) := by decide +kernel
theorem dX4_slip_15 : decode cX4_slip 15 = .ok (.ifCond .lt 9, 3) := by decide +kernel
theorem dX4_slip_18 : decode cX4_slip 18 = .ok (.iload_n 2, 1) := by decide +kernel
theorem dX4_slip_19 : decode cX4_slip 19 = .ok (.bipush 10, 2) := by decide +kernel
theorem dX4_slip_21 : decode cX4_slip 21 = .ok (.if_icmp .lt 6, 3) := by decide +kernel
theorem dX4_slip_24 : decode cX4_slip 24 = .ok (.bipush (-102), 2) := by decide +kernel
theorem dX4_slip_26 : decode cX4_slip 26 = .ok (.ireturn, 1) := by decide +kernel
theorem dX4_slip_27 : decode cX4_slip 27 = .ok (.aload_n 0, 1) := by decide +kernel
theorem dX4_slip_28 : decode cX4_slip 28 = .ok (.getfield 19, 3) := by decide +kernel
theorem dX4_slip_31 : decode cX4_slip 31 = .ok (.getfield 71, 3) := by decide +kernel
theorem dX4_slip_34 : decode cX4_slip 34 = .ok (.iload_n 1, 1) := by decide +kernel
theorem dX4_slip_35 : decode cX4_slip 35 = .ok (.iaload, 1) := by decide +kernel
theorem dX4_slip_36 : decode cX4_slip 36 = .ok (.istore_n 3, 1) := by decide +kernel
theorem dX4_slip_37 : decode cX4_slip 37 = .ok (.aload_n 0, 1) := by decide +kernel
theorem dX4_slip_38 : decode cX4_slip 38 = .ok (.getfield 19, 3) := by decide +kernel
theorem dX4_slip_41 : decode cX4_slip 41 = .ok (.getfield 71, 3) := by decide +kernel
theorem dX4_slip_44 : decode cX4_slip 44 = .ok (.iload_n 1, 1) := by decide +kernel
theorem dX4_slip_45 : decode cX4_slip 45 = .ok (.iload_n 2, 1) := by decide +kernel
theorem dX4_slip_46 : decode cX4_slip 46 = .ok (.iastore, 1) := by decide +kernel
theorem dX4_slip_47 : decode cX4_slip 47 = .ok (.iload_n 3, 1) := by decide +kernel
theorem dX4_slip_48 : decode cX4_slip 48 = .ok (.ireturn, 1) := by decide +kernel
set_option maxRecDepth 20000 in
theorem ggX4_thursday_X3_isNone : GoodIn wsX4_thursday wsX3_isNone := goodIn_r _ [6, 7, 40, 41, 42, 43, 44, 45, 46, 47, 48, 49, 50] (by decide +kernel) (by decide +kernel)
set_option maxRecDepth 20000 in
theorem gX4_thursday_X3_isNone : GoodIn wsX4_thursday (wsV RX4 105 RX3 yX3_isNone wsX3_isNone) := goodIn_app (goodIn_of _ (by decide +kernel)) ggX4_thursday_X3_isNone
set_option maxRecDepth 20000 in
theorem ggX4_thursday_X3_holdThursday : GoodIn wsX4_thursday wsX3_holdThursday := goodIn_r _ [11, 12, 13, 14, 15, 16, 17, 5, 18, 7, 19, 20, 21, 22, 23, 24, 25, 26, 27, 28, 29, 30, 31, 32, 33, 40, 41, 42, 43, 44, 45, 46, 47, 48, 49, 50] (by decide +kernel) (by decide +kernel)
set_option maxRecDepth 20000 in
theorem gX4_thursday_X3_holdThursday : GoodIn wsX4_thursday (wsV RX4 108 RX3 yX3_holdThursday wsX3_holdThursday) := goodIn_app (goodIn_of _ (by decide +kernel)) ggX4_thursday_X3_holdThursday
theorem dX4_thursday_0 : decode cX4_thursday 0 = .ok (.aload_n 0, 1) := by decide +kernel
theorem dX4_thursday_1 : decode cX4_thursday 1 = .ok (.getfield 19, 3) := by decide +kernel
theorem dX4_thursday_4 : decode cX4_thursday 4 = .ok (.invokevirtual 105, 3) := by decide +kernel
theorem dX4_thursday_7 : decode cX4_thursday 7 = .ok (.ifCond .eq 8, 3) := by decide +kernel
theorem dX4_thursday_10 : decode cX4_thursday 10 = .ok (.bipush (-103), 2) := by decide +kernel
theorem dX4_thursday_12 : decode cX4_thursday 12 = .ok (.goto 10, 3) := by decide +kernel
theorem dX4_thursday_15 : decode cX4_thursday 15 = .ok (.aload_n 0, 1) := by decide +kernel
theorem dX4_thursday_16 : decode cX4_thursday 16 = .ok (.getfield 19, 3) := by decide +kernel
theorem dX4_thursday_19 : decode cX4_thursday 19 = .ok (.invokevirtual 108, 3) := by decide +kernel
theorem dX4_thursday_22 : decode cX4_thursday 22 = .ok (.ireturn, 1) := by decide +kernel
set_option maxRecDepth 20000 in
theorem ggX4_arrives_X4_refusalOf : GoodIn wsX4_arrives wsX4_refusalOf := goodIn_r _ [6, 1, 7, 8, 9, 10, 11, 12, 13, 14, 5, 15, 30, 31, 32, 33, 34, 35, 36, 37, 38, 39, 40, 41, 42, 43, 44, 45, 46] (by decide +kernel) (by decide +kernel)
set_option maxRecDepth 20000 in
theorem gX4_arrives_X4_refusalOf : GoodIn wsX4_arrives (wsV RX4 97 RX4 yX4_refusalOf wsX4_refusalOf) := goodIn_app (goodIn_of _ (by decide +kernel)) ggX4_arrives_X4_refusalOf
set_option maxRecDepth 20000 in
theorem ggX4_arrives_X3_atTop : GoodIn wsX4_arrives wsX3_atTop := goodIn_r _ [19, 20, 21, 22, 23, 24, 10, 25, 12, 26, 27, 28, 29, 36, 37, 38, 39, 40, 41, 42, 43, 44, 45, 46] (by decide +kernel) (by decide +kernel)
set_option maxRecDepth 20000 in
theorem gX4_arrives_X3_atTop : GoodIn wsX4_arrives (wsV RX4 111 RX3 yX3_atTop wsX3_atTop) := goodIn_app (goodIn_of _ (by decide +kernel)) ggX4_arrives_X3_atTop
theorem dX4_arrives_0 : decode cX4_arrives 0 = .ok (.aload_n 0, 1) := by decide +kernel
theorem dX4_arrives_1 : decode cX4_arrives 1 = .ok (.iload_n 1, 1) := by decide +kernel
theorem dX4_arrives_2 : decode cX4_arrives 2 = .ok (.iload_n 2, 1) := by decide +kernel
theorem dX4_arrives_3 : decode cX4_arrives 3 = .ok (.invokevirtual 97, 3) := by decide +kernel
theorem dX4_arrives_6 : decode cX4_arrives 6 = .ok (.istore_n 3, 1) := by decide +kernel
theorem dX4_arrives_7 : decode cX4_arrives 7 = .ok (.iload_n 3, 1) := by decide +kernel
theorem dX4_arrives_8 : decode cX4_arrives 8 = .ok (.ifCond .eq 7, 3) := by decide +kernel
theorem dX4_arrives_11 : decode cX4_arrives 11 = .ok (.iload_n 3, 1) := by decide +kernel
theorem dX4_arrives_12 : decode cX4_arrives 12 = .ok (.goto 13, 3) := by decide +kernel
theorem dX4_arrives_15 : decode cX4_arrives 15 = .ok (.aload_n 0, 1) := by decide +kernel
theorem dX4_arrives_16 : decode cX4_arrives 16 = .ok (.getfield 19, 3) := by decide +kernel
theorem dX4_arrives_19 : decode cX4_arrives 19 = .ok (.iload_n 1, 1) := by decide +kernel
theorem dX4_arrives_20 : decode cX4_arrives 20 = .ok (.iload_n 2, 1) := by decide +kernel
theorem dX4_arrives_21 : decode cX4_arrives 21 = .ok (.iconst (-1), 1) := by decide +kernel
theorem dX4_arrives_22 : decode cX4_arrives 22 = .ok (.invokevirtual 111, 3) := by decide +kernel
theorem dX4_arrives_25 : decode cX4_arrives 25 = .ok (.ireturn, 1) := by decide +kernel
set_option maxRecDepth 20000 in
theorem ggX4_from_X4_refusalOf : GoodIn wsX4_from wsX4_refusalOf := goodIn_r _ [6, 1, 7, 8, 9, 10, 11, 12, 13, 14, 5, 15, 34, 35, 36, 37, 38, 39, 40, 41, 42, 43, 44, 45, 46, 47, 48, 49, 50] (by decide +kernel) (by decide +kernel)
set_option maxRecDepth 20000 in
theorem gX4_from_X4_refusalOf : GoodIn wsX4_from (wsV RX4 97 RX4 yX4_refusalOf wsX4_refusalOf) := goodIn_app (goodIn_of _ (by decide +kernel)) ggX4_from_X4_refusalOf
set_option maxRecDepth 20000 in
theorem ggX4_from_X3_sourcesOf : GoodIn wsX4_from wsX3_sourcesOf := goodIn_r _ [19, 20, 21, 22, 10, 23, 24, 25, 26, 27, 28, 29, 12, 30, 31, 32, 33, 40, 41, 42, 43, 44, 45, 46, 47, 48, 49, 50] (by decide +kernel) (by decide +kernel)
set_option maxRecDepth 20000 in
theorem gX4_from_X3_sourcesOf : GoodIn wsX4_from (wsV RX4 114 RX3 yX3_sourcesOf wsX3_sourcesOf) := goodIn_app (goodIn_of _ (by decide +kernel)) ggX4_from_X3_sourcesOf
theorem dX4_from_0 : decode cX4_from 0 = .ok (.aload_n 0, 1) := by decide +kernel
theorem dX4_from_1 : decode cX4_from 1 = .ok (.iload_n 1, 1) := by decide +kernel
theorem dX4_from_2 : decode cX4_from 2 = .ok (.iload_n 2, 1) := by decide +kernel
theorem dX4_from_3 : decode cX4_from 3 = .ok (.invokevirtual 97, 3) := by decide +kernel
theorem dX4_from_6 : decode cX4_from 6 = .ok (.istore_n 3, 1) := by decide +kernel
theorem dX4_from_7 : decode cX4_from 7 = .ok (.iload_n 3, 1) := by decide +kernel
theorem dX4_from_8 : decode cX4_from 8 = .ok (.ifCond .eq 7, 3) := by decide +kernel
theorem dX4_from_11 : decode cX4_from 11 = .ok (.iload_n 3, 1) := by decide +kernel
theorem dX4_from_12 : decode cX4_from 12 = .ok (.goto 12, 3) := by decide +kernel
theorem dX4_from_15 : decode cX4_from 15 = .ok (.aload_n 0, 1) := by decide +kernel
theorem dX4_from_16 : decode cX4_from 16 = .ok (.getfield 19, 3) := by decide +kernel
theorem dX4_from_19 : decode cX4_from 19 = .ok (.iload_n 1, 1) := by decide +kernel
theorem dX4_from_20 : decode cX4_from 20 = .ok (.iload_n 2, 1) := by decide +kernel
theorem dX4_from_21 : decode cX4_from 21 = .ok (.invokevirtual 114, 3) := by decide +kernel
theorem dX4_from_24 : decode cX4_from 24 = .ok (.ireturn, 1) := by decide +kernel
set_option maxRecDepth 20000 in
theorem ggX4_soon_X3_isNone : GoodIn wsX4_soon wsX3_isNone := goodIn_r _ [6, 7, 25, 26, 27, 28, 29, 30, 31, 32, 33, 34, 35] (by decide +kernel) (by decide +kernel)
set_option maxRecDepth 20000 in
theorem gX4_soon_X3_isNone : GoodIn wsX4_soon (wsV RX4 105 RX3 yX3_isNone wsX3_isNone) := goodIn_app (goodIn_of _ (by decide +kernel)) ggX4_soon_X3_isNone
set_option maxRecDepth 20000 in
theorem ggX4_soon_X3_thursdaysToTop : GoodIn wsX4_soon wsX3_thursdaysToTop := goodIn_r _ [11, 12, 13, 14, 3, 4, 5, 6, 7, 15, 16, 17, 18, 25, 26, 27, 28, 29, 30, 31, 32, 33, 34, 35] (by decide +kernel) (by decide +kernel)
set_option maxRecDepth 20000 in
theorem gX4_soon_X3_thursdaysToTop : GoodIn wsX4_soon (wsV RX4 117 RX3 yX3_thursdaysToTop wsX3_thursdaysToTop) := goodIn_app (goodIn_of _ (by decide +kernel)) ggX4_soon_X3_thursdaysToTop
theorem dX4_soon_0 : decode cX4_soon 0 = .ok (.aload_n 0, 1) := by decide +kernel
theorem dX4_soon_1 : decode cX4_soon 1 = .ok (.getfield 19, 3) := by decide +kernel
theorem dX4_soon_4 : decode cX4_soon 4 = .ok (.invokevirtual 105, 3) := by decide +kernel
theorem dX4_soon_7 : decode cX4_soon 7 = .ok (.ifCond .eq 8, 3) := by decide +kernel
theorem dX4_soon_10 : decode cX4_soon 10 = .ok (.bipush (-103), 2) := by decide +kernel
theorem dX4_soon_12 : decode cX4_soon 12 = .ok (.goto 10, 3) := by decide +kernel
theorem dX4_soon_15 : decode cX4_soon 15 = .ok (.aload_n 0, 1) := by decide +kernel
theorem dX4_soon_16 : decode cX4_soon 16 = .ok (.getfield 19, 3) := by decide +kernel
theorem dX4_soon_19 : decode cX4_soon 19 = .ok (.invokevirtual 117, 3) := by decide +kernel
theorem dX4_soon_22 : decode cX4_soon 22 = .ok (.ireturn, 1) := by decide +kernel
set_option maxRecDepth 20000 in
theorem ggX4_cure_X3_isNone : GoodIn wsX4_cure wsX3_isNone := goodIn_r _ [6, 7, 37, 38, 39, 40, 41, 42, 43, 44, 45, 46, 47] (by decide +kernel) (by decide +kernel)
set_option maxRecDepth 20000 in
theorem gX4_cure_X3_isNone : GoodIn wsX4_cure (wsV RX4 105 RX3 yX3_isNone wsX3_isNone) := goodIn_app (goodIn_of _ (by decide +kernel)) ggX4_cure_X3_isNone
set_option maxRecDepth 20000 in
theorem ggX4_cure_X3_bestToCure : GoodIn wsX4_cure wsX3_bestToCure := goodIn_r _ [11, 7, 12, 13, 14, 5, 15, 16, 17, 18, 19, 20, 21, 22, 23, 24, 25, 26, 27, 28, 29, 37, 38, 39, 40, 41, 42, 43, 44, 45, 46, 47] (by decide +kernel) (by decide +kernel)
set_option maxRecDepth 20000 in
theorem gX4_cure_X3_bestToCure : GoodIn wsX4_cure (wsV RX4 120 RX3 yX3_bestToCure wsX3_bestToCure) := goodIn_app (goodIn_of _ (by decide +kernel)) ggX4_cure_X3_bestToCure
set_option maxRecDepth 20000 in
theorem ggX4_cure_X3_unchangedAtTop : GoodIn wsX4_cure wsX3_unchangedAtTop := goodIn_r _ [15, 16, 17, 18, 5, 19, 20, 21, 22, 23, 24, 25, 7, 26, 27, 28, 29, 37, 38, 39, 40, 41, 42, 43, 44, 45, 46, 47] (by decide +kernel) (by decide +kernel)
set_option maxRecDepth 20000 in
theorem gX4_cure_X3_unchangedAtTop : GoodIn wsX4_cure (wsV RX4 123 RX3 yX3_unchangedAtTop wsX3_unchangedAtTop) := goodIn_app (goodIn_of _ (by decide +kernel)) ggX4_cure_X3_unchangedAtTop
theorem dX4_cure_0 : decode cX4_cure 0 = .ok (.iload_n 1, 1) := by decide +kernel
theorem dX4_cure_1 : decode cX4_cure 1 = .ok (.ifCond .lt 8, 3) := by decide +kernel
theorem dX4_cure_4 : decode cX4_cure 4 = .ok (.iload_n 1, 1) := by decide +kernel
theorem dX4_cure_5 : decode cX4_cure 5 = .ok (.iconst 1, 1) := by decide +kernel
theorem dX4_cure_6 : decode cX4_cure 6 = .ok (.if_icmp .le 6, 3) := by decide +kernel
theorem dX4_cure_9 : decode cX4_cure 9 = .ok (.bipush (-102), 2) := by decide +kernel
theorem dX4_cure_11 : decode cX4_cure 11 = .ok (.ireturn, 1) := by decide +kernel
theorem dX4_cure_12 : decode cX4_cure 12 = .ok (.aload_n 0, 1) := by decide +kernel
theorem dX4_cure_13 : decode cX4_cure 13 = .ok (.getfield 19, 3) := by decide +kernel
theorem dX4_cure_16 : decode cX4_cure 16 = .ok (.invokevirtual 105, 3) := by decide +kernel
theorem dX4_cure_19 : decode cX4_cure 19 = .ok (.ifCond .eq 6, 3) := by decide +kernel
theorem dX4_cure_22 : decode cX4_cure 22 = .ok (.bipush (-103), 2) := by decide +kernel
theorem dX4_cure_24 : decode cX4_cure 24 = .ok (.ireturn, 1) := by decide +kernel
theorem dX4_cure_25 : decode cX4_cure 25 = .ok (.aload_n 0, 1) := by decide +kernel
theorem dX4_cure_26 : decode cX4_cure 26 = .ok (.getfield 19, 3) := by decide +kernel
theorem dX4_cure_29 : decode cX4_cure 29 = .ok (.invokevirtual 120, 3) := by decide +kernel
theorem dX4_cure_32 : decode cX4_cure 32 = .ok (.istore_n 2, 1) := by decide +kernel
theorem dX4_cure_33 : decode cX4_cure 33 = .ok (.iload_n 1, 1) := by decide +kernel
theorem dX4_cure_34 : decode cX4_cure 34 = .ok (.ifCond .ne 7, 3) := by decide +kernel
theorem dX4_cure_37 : decode cX4_cure 37 = .ok (.iload_n 2, 1) := by decide +kernel
theorem dX4_cure_38 : decode cX4_cure 38 = .ok (.goto 11, 3) := by decide +kernel
theorem dX4_cure_41 : decode cX4_cure 41 = .ok (.aload_n 0, 1) := by decide +kernel
theorem dX4_cure_42 : decode cX4_cure 42 = .ok (.getfield 19, 3) := by decide +kernel
theorem dX4_cure_45 : decode cX4_cure 45 = .ok (.iload_n 2, 1) := by decide +kernel
theorem dX4_cure_46 : decode cX4_cure 46 = .ok (.invokevirtual 123, 3) := by decide +kernel
theorem dX4_cure_49 : decode cX4_cure 49 = .ok (.ireturn, 1) := by decide +kernel
set_option maxRecDepth 20000 in
theorem ggX4_hear_X4_refusalOf : GoodIn wsX4_hear wsX4_refusalOf := goodIn_r _ [7, 1, 8, 9, 10, 11, 12, 13, 14, 15, 6, 16, 30, 31, 32, 33, 34, 35, 36, 37, 38, 39, 40, 41, 42, 43, 44, 45, 46] (by decide +kernel) (by decide +kernel)
set_option maxRecDepth 20000 in
theorem gX4_hear_X4_refusalOf : GoodIn wsX4_hear (wsV RX4 97 RX4 yX4_refusalOf wsX4_refusalOf) := goodIn_app (goodIn_of _ (by decide +kernel)) ggX4_hear_X4_refusalOf
set_option maxRecDepth 20000 in
theorem ggX4_hear_X4_isRule : GoodIn wsX4_hear wsX4_isRule := goodIn_r _ [16] (by decide +kernel) (by decide +kernel)
set_option maxRecDepth 20000 in
theorem gX4_hear_X4_isRule : GoodIn wsX4_hear (va_wsS RX4 126 yX4_isRule wsX4_isRule) := goodIn_app (goodIn_of _ (by decide +kernel)) ggX4_hear_X4_isRule
set_option maxRecDepth 20000 in
theorem ggX4_hear_X3_isHeardFull : GoodIn wsX4_hear wsX3_isHeardFull := goodIn_r _ [20, 21, 36, 37, 38, 39, 40, 41, 42, 43, 44, 45, 46] (by decide +kernel) (by decide +kernel)
set_option maxRecDepth 20000 in
theorem gX4_hear_X3_isHeardFull : GoodIn wsX4_hear (wsV RX4 129 RX3 yX3_isHeardFull wsX3_isHeardFull) := goodIn_app (goodIn_of _ (by decide +kernel)) ggX4_hear_X3_isHeardFull
set_option maxRecDepth 20000 in
theorem ggX4_hear_X3_addHeard : GoodIn wsX4_hear wsX3_addHeard := goodIn_r _ [25, 26, 21, 27, 28, 29, 18, 19, 11, 20, 36, 37, 38, 39, 40, 41, 42, 43, 44, 45, 46] (by decide +kernel) (by decide +kernel)
set_option maxRecDepth 20000 in
theorem gX4_hear_X3_addHeard : GoodIn wsX4_hear (wsV RX4 132 RX3 yX3_addHeard wsX3_addHeard) := goodIn_app (goodIn_of _ (by decide +kernel)) ggX4_hear_X3_addHeard
theorem dX4_hear_0 : decode cX4_hear 0 = .ok (.aload_n 0, 1) := by decide +kernel
theorem dX4_hear_1 : decode cX4_hear 1 = .ok (.iload_n 1, 1) := by decide +kernel
theorem dX4_hear_2 : decode cX4_hear 2 = .ok (.iload_n 2, 1) := by decide +kernel
theorem dX4_hear_3 : decode cX4_hear 3 = .ok (.invokevirtual 97, 3) := by decide +kernel
theorem dX4_hear_6 : decode cX4_hear 6 = .ok (.istore 4, 2) := by decide +kernel
theorem dX4_hear_8 : decode cX4_hear 8 = .ok (.iload 4, 2) := by decide +kernel
theorem dX4_hear_10 : decode cX4_hear 10 = .ok (.ifCond .eq 6, 3) := by decide +kernel
theorem dX4_hear_13 : decode cX4_hear 13 = .ok (.iload 4, 2) := by decide +kernel
theorem dX4_hear_15 : decode cX4_hear 15 = .ok (.ireturn, 1) := by decide +kernel
theorem dX4_hear_16 : decode cX4_hear 16 = .ok (.iload_n 3, 1) := by decide +kernel
theorem dX4_hear_17 : decode cX4_hear 17 = .ok (.invokestatic 126, 3) := by decide +kernel
theorem dX4_hear_20 : decode cX4_hear 20 = .ok (.ifCond .ne 6, 3) := by decide +kernel
theorem dX4_hear_23 : decode cX4_hear 23 = .ok (.bipush (-102), 2) := by decide +kernel
theorem dX4_hear_25 : decode cX4_hear 25 = .ok (.ireturn, 1) := by decide +kernel
theorem dX4_hear_26 : decode cX4_hear 26 = .ok (.aload_n 0, 1) := by decide +kernel
theorem dX4_hear_27 : decode cX4_hear 27 = .ok (.getfield 19, 3) := by decide +kernel
theorem dX4_hear_30 : decode cX4_hear 30 = .ok (.invokevirtual 129, 3) := by decide +kernel
theorem dX4_hear_33 : decode cX4_hear 33 = .ok (.ifCond .eq 6, 3) := by decide +kernel
theorem dX4_hear_36 : decode cX4_hear 36 = .ok (.bipush (-104), 2) := by decide +kernel
theorem dX4_hear_38 : decode cX4_hear 38 = .ok (.ireturn, 1) := by decide +kernel
theorem dX4_hear_39 : decode cX4_hear 39 = .ok (.aload_n 0, 1) := by decide +kernel
theorem dX4_hear_40 : decode cX4_hear 40 = .ok (.getfield 19, 3) := by decide +kernel
theorem dX4_hear_43 : decode cX4_hear 43 = .ok (.iload_n 1, 1) := by decide +kernel
theorem dX4_hear_44 : decode cX4_hear 44 = .ok (.iload_n 2, 1) := by decide +kernel
theorem dX4_hear_45 : decode cX4_hear 45 = .ok (.iload_n 3, 1) := by decide +kernel
theorem dX4_hear_46 : decode cX4_hear 46 = .ok (.invokevirtual 132, 3) := by decide +kernel
theorem dX4_hear_49 : decode cX4_hear 49 = .ok (.aload_n 0, 1) := by decide +kernel
theorem dX4_hear_50 : decode cX4_hear 50 = .ok (.getfield 19, 3) := by decide +kernel
theorem dX4_hear_53 : decode cX4_hear 53 = .ok (.getfield 136, 3) := by decide +kernel
theorem dX4_hear_56 : decode cX4_hear 56 = .ok (.ireturn, 1) := by decide +kernel
theorem dX4_forget_0 : decode cX4_forget 0 = .ok (.aload_n 0, 1) := by decide +kernel
theorem dX4_forget_1 : decode cX4_forget 1 = .ok (.getfield 19, 3) := by decide +kernel
theorem dX4_forget_4 : decode cX4_forget 4 = .ok (.getfield 136, 3) := by decide +kernel
theorem dX4_forget_7 : decode cX4_forget 7 = .ok (.istore_n 1, 1) := by decide +kernel
theorem dX4_forget_8 : decode cX4_forget 8 = .ok (.aload_n 0, 1) := by decide +kernel
theorem dX4_forget_9 : decode cX4_forget 9 = .ok (.getfield 19, 3) := by decide +kernel
theorem dX4_forget_12 : decode cX4_forget 12 = .ok (.iconst 0, 1) := by decide +kernel
theorem dX4_forget_13 : decode cX4_forget 13 = .ok (.putfield 136, 3) := by decide +kernel
theorem dX4_forget_16 : decode cX4_forget 16 = .ok (.iload_n 1, 1) := by decide +kernel
theorem dX4_forget_17 : decode cX4_forget 17 = .ok (.ireturn, 1) := by decide +kernel
set_option maxRecDepth 20000 in
theorem ggX4_terms_X3_isNone : GoodIn wsX4_terms wsX3_isNone := goodIn_r _ [10, 11, 69, 70, 71, 72, 73, 74, 75, 76, 77, 78, 79] (by decide +kernel) (by decide +kernel)
set_option maxRecDepth 20000 in
theorem gX4_terms_X3_isNone : GoodIn wsX4_terms (wsV RX4 105 RX3 yX3_isNone wsX3_isNone) := goodIn_app (goodIn_of _ (by decide +kernel)) ggX4_terms_X3_isNone
set_option maxRecDepth 20000 in
theorem ggX4_terms_X3_copyFrom : GoodIn wsX4_terms wsX3_copyFrom := goodIn_r _ [15, 11, 16, 17, 18, 19, 20, 21, 22, 23, 24, 25, 69, 70, 71, 72, 73, 74, 75, 76, 77, 78, 79] (by decide +kernel) (by decide +kernel)
set_option maxRecDepth 20000 in
theorem gX4_terms_X3_copyFrom : GoodIn wsX4_terms (wsV RX4 139 RX3 yX3_copyFrom wsX3_copyFrom) := goodIn_app (goodIn_of _ (by decide +kernel)) ggX4_terms_X3_copyFrom
set_option maxRecDepth 20000 in
theorem ggX4_terms_X3_beginAnew : GoodIn wsX4_terms wsX3_beginAnew := goodIn_r _ [29, 21, 11, 22, 30, 31, 32, 33, 34, 35, 36, 37, 38, 39, 69, 70, 71, 72, 73, 74, 75, 76, 77, 78, 79, 68] (by decide +kernel) (by decide +kernel)
set_option maxRecDepth 20000 in
theorem gX4_terms_X3_beginAnew : GoodIn wsX4_terms (wsV RX4 147 RX3 yX3_beginAnew wsX3_beginAnew) := goodIn_app (goodIn_of _ (by decide +kernel)) ggX4_terms_X3_beginAnew
set_option maxRecDepth 20000 in
theorem ggX4_terms_X3_top : GoodIn wsX4_terms wsX3_top := goodIn_r _ [43, 11, 69, 70, 71, 72, 73, 74, 75, 76, 77, 78, 79] (by decide +kernel) (by decide +kernel)
set_option maxRecDepth 20000 in
theorem gX4_terms_X3_top : GoodIn wsX4_terms (wsV RX4 151 RX3 yX3_top wsX3_top) := goodIn_app (goodIn_of _ (by decide +kernel)) ggX4_terms_X3_top
set_option maxRecDepth 20000 in
theorem ggX4_terms_X3_isTaughtNext : GoodIn wsX4_terms wsX3_isTaughtNext := goodIn_r _ [47, 22, 48, 49, 50, 9, 51, 21, 19, 20, 52, 53, 54, 55, 69, 70, 71, 72, 73, 74, 75, 76, 77, 78, 79] (by decide +kernel) (by decide +kernel)
set_option maxRecDepth 20000 in
theorem gX4_terms_X3_isTaughtNext : GoodIn wsX4_terms (wsV RX4 154 RX3 yX3_isTaughtNext wsX3_isTaughtNext) := goodIn_app (goodIn_of _ (by decide +kernel)) ggX4_terms_X3_isTaughtNext
set_option maxRecDepth 20000 in
theorem ggX4_terms_X3_holdThursday : GoodIn wsX4_terms wsX3_holdThursday := goodIn_r _ [59, 21, 17, 18, 60, 41, 42, 9, 43, 11, 61, 45, 46, 47, 22, 48, 49, 50, 51, 19, 20, 52, 53, 54, 55, 69, 70, 71, 72, 73, 74, 75, 76, 77, 78, 79] (by decide +kernel) (by decide +kernel)
set_option maxRecDepth 20000 in
theorem gX4_terms_X3_holdThursday : GoodIn wsX4_terms (wsV RX4 108 RX3 yX3_holdThursday wsX3_holdThursday) := goodIn_app (goodIn_of _ (by decide +kernel)) ggX4_terms_X3_holdThursday
theorem dX4_terms_0 : decode cX4_terms 0 = .ok (.iload_n 1, 1) := by decide +kernel
theorem dX4_terms_1 : decode cX4_terms 1 = .ok (.iconst 1, 1) := by decide +kernel
theorem dX4_terms_2 : decode cX4_terms 2 = .ok (.if_icmp .lt 22, 3) := by decide +kernel
theorem dX4_terms_5 : decode cX4_terms 5 = .ok (.iload_n 1, 1) := by decide +kernel
theorem dX4_terms_6 : decode cX4_terms 6 = .ok (.bipush 60, 2) := by decide +kernel
theorem dX4_terms_8 : decode cX4_terms 8 = .ok (.if_icmp .gt 16, 3) := by decide +kernel
theorem dX4_terms_11 : decode cX4_terms 11 = .ok (.iload_n 2, 1) := by decide +kernel
theorem dX4_terms_12 : decode cX4_terms 12 = .ok (.ifCond .lt 12, 3) := by decide +kernel
theorem dX4_terms_15 : decode cX4_terms 15 = .ok (.iload_n 3, 1) := by decide +kernel
theorem dX4_terms_16 : decode cX4_terms 16 = .ok (.ifCond .lt 8, 3) := by decide +kernel
theorem dX4_terms_19 : decode cX4_terms 19 = .ok (.iload_n 3, 1) := by decide +kernel
theorem dX4_terms_20 : decode cX4_terms 20 = .ok (.iconst 2, 1) := by decide +kernel
theorem dX4_terms_21 : decode cX4_terms 21 = .ok (.if_icmp .le 6, 3) := by decide +kernel
theorem dX4_terms_24 : decode cX4_terms 24 = .ok (.bipush (-102), 2) := by decide +kernel
theorem dX4_terms_26 : decode cX4_terms 26 = .ok (.ireturn, 1) := by decide +kernel
theorem dX4_terms_27 : decode cX4_terms 27 = .ok (.aload_n 0, 1) := by decide +kernel
theorem dX4_terms_28 : decode cX4_terms 28 = .ok (.getfield 19, 3) := by decide +kernel
theorem dX4_terms_31 : decode cX4_terms 31 = .ok (.invokevirtual 105, 3) := by decide +kernel
theorem dX4_terms_34 : decode cX4_terms 34 = .ok (.ifCond .eq 6, 3) := by decide +kernel
theorem dX4_terms_37 : decode cX4_terms 37 = .ok (.bipush (-103), 2) := by decide +kernel
theorem dX4_terms_39 : decode cX4_terms 39 = .ok (.ireturn, 1) := by decide +kernel
theorem dX4_terms_40 : decode cX4_terms 40 = .ok (.aload_n 0, 1) := by decide +kernel
theorem dX4_terms_41 : decode cX4_terms 41 = .ok (.getfield 26, 3) := by decide +kernel
theorem dX4_terms_44 : decode cX4_terms 44 = .ok (.aload_n 0, 1) := by decide +kernel
theorem dX4_terms_45 : decode cX4_terms 45 = .ok (.getfield 19, 3) := by decide +kernel
theorem dX4_terms_48 : decode cX4_terms 48 = .ok (.invokevirtual 139, 3) := by decide +kernel
theorem dX4_terms_51 : decode cX4_terms 51 = .ok (.aload_n 0, 1) := by decide +kernel
theorem dX4_terms_52 : decode cX4_terms 52 = .ok (.getfield 32, 3) := by decide +kernel
theorem dX4_terms_55 : decode cX4_terms 55 = .ok (.iload_n 2, 1) := by decide +kernel
theorem dX4_terms_56 : decode cX4_terms 56 = .ok (.i2l, 1) := by decide +kernel
theorem dX4_terms_57 : decode cX4_terms 57 = .ok (.putfield 143, 3) := by decide +kernel
theorem dX4_terms_60 : decode cX4_terms 60 = .ok (.iconst 0, 1) := by decide +kernel
theorem dX4_terms_61 : decode cX4_terms 61 = .ok (.istore 4, 2) := by decide +kernel
theorem dX4_terms_63 : decode cX4_terms 63 = .ok (.iconst 0, 1) := by decide +kernel
theorem dX4_terms_64 : decode cX4_terms 64 = .ok (.istore 5, 2) := by decide +kernel
theorem dX4_terms_66 : decode cX4_terms 66 = .ok (.iload 5, 2) := by decide +kernel
theorem dX4_terms_68 : decode cX4_terms 68 = .ok (.iload_n 1, 1) := by decide +kernel
theorem dX4_terms_69 : decode cX4_terms 69 = .ok (.if_icmp .ge 55, 3) := by decide +kernel
theorem dX4_terms_72 : decode cX4_terms 72 = .ok (.aload_n 0, 1) := by decide +kernel
theorem dX4_terms_73 : decode cX4_terms 73 = .ok (.getfield 26, 3) := by decide +kernel
theorem dX4_terms_76 : decode cX4_terms 76 = .ok (.aload_n 0, 1) := by decide +kernel
theorem dX4_terms_77 : decode cX4_terms 77 = .ok (.getfield 32, 3) := by decide +kernel
theorem dX4_terms_80 : decode cX4_terms 80 = .ok (.invokevirtual 147, 3) := by decide +kernel
theorem dX4_terms_83 : decode cX4_terms 83 = .ok (.iload 4, 2) := by decide +kernel
theorem dX4_terms_85 : decode cX4_terms 85 = .ok (.aload_n 0, 1) := by decide +kernel
theorem dX4_terms_86 : decode cX4_terms 86 = .ok (.getfield 26, 3) := by decide +kernel
theorem dX4_terms_89 : decode cX4_terms 89 = .ok (.aload_n 0, 1) := by decide +kernel
theorem dX4_terms_90 : decode cX4_terms 90 = .ok (.getfield 26, 3) := by decide +kernel
theorem dX4_terms_93 : decode cX4_terms 93 = .ok (.invokevirtual 151, 3) := by decide +kernel
theorem dX4_terms_96 : decode cX4_terms 96 = .ok (.invokevirtual 154, 3) := by decide +kernel
theorem dX4_terms_99 : decode cX4_terms 99 = .ok (.ifCond .eq 7, 3) := by decide +kernel
theorem dX4_terms_102 : decode cX4_terms 102 = .ok (.iconst 1, 1) := by decide +kernel
theorem dX4_terms_103 : decode cX4_terms 103 = .ok (.goto 4, 3) := by decide +kernel
theorem dX4_terms_106 : decode cX4_terms 106 = .ok (.iconst 0, 1) := by decide +kernel
theorem dX4_terms_107 : decode cX4_terms 107 = .ok (.iadd, 1) := by decide +kernel
theorem dX4_terms_108 : decode cX4_terms 108 = .ok (.istore 4, 2) := by decide +kernel
theorem dX4_terms_110 : decode cX4_terms 110 = .ok (.aload_n 0, 1) := by decide +kernel
theorem dX4_terms_111 : decode cX4_terms 111 = .ok (.getfield 26, 3) := by decide +kernel
theorem dX4_terms_114 : decode cX4_terms 114 = .ok (.invokevirtual 108, 3) := by decide +kernel
theorem dX4_terms_117 : decode cX4_terms 117 = .ok (.pop, 1) := by decide +kernel
theorem dX4_terms_118 : decode cX4_terms 118 = .ok (.iinc 5 1, 3) := by decide +kernel
theorem dX4_terms_121 : decode cX4_terms 121 = .ok (.goto (-55), 3) := by decide +kernel
theorem dX4_terms_124 : decode cX4_terms 124 = .ok (.iload_n 3, 1) := by decide +kernel
theorem dX4_terms_125 : decode cX4_terms 125 = .ok (.lookupswitch 71 #[(0, 27), (1, 30)], 27) := by decide +kernel
theorem dX4_terms_152 : decode cX4_terms 152 = .ok (.iload 4, 2) := by decide +kernel
theorem dX4_terms_154 : decode cX4_terms 154 = .ok (.ireturn, 1) := by decide +kernel
theorem dX4_terms_155 : decode cX4_terms 155 = .ok (.aload_n 0, 1) := by decide +kernel
theorem dX4_terms_156 : decode cX4_terms 156 = .ok (.getfield 26, 3) := by decide +kernel
theorem dX4_terms_159 : decode cX4_terms 159 = .ok (.getfield 74, 3) := by decide +kernel
theorem dX4_terms_162 : decode cX4_terms 162 = .ok (.aload_n 0, 1) := by decide +kernel
theorem dX4_terms_163 : decode cX4_terms 163 = .ok (.getfield 26, 3) := by decide +kernel
theorem dX4_terms_166 : decode cX4_terms 166 = .ok (.invokevirtual 151, 3) := by decide +kernel
theorem dX4_terms_169 : decode cX4_terms 169 = .ok (.iaload, 1) := by decide +kernel
theorem dX4_terms_170 : decode cX4_terms 170 = .ok (.iconst (-1), 1) := by decide +kernel
theorem dX4_terms_171 : decode cX4_terms 171 = .ok (.if_icmp .ne 7, 3) := by decide +kernel
theorem dX4_terms_174 : decode cX4_terms 174 = .ok (.iconst 0, 1) := by decide +kernel
theorem dX4_terms_175 : decode cX4_terms 175 = .ok (.goto 20, 3) := by decide +kernel
theorem dX4_terms_178 : decode cX4_terms 178 = .ok (.aload_n 0, 1) := by decide +kernel
theorem dX4_terms_179 : decode cX4_terms 179 = .ok (.getfield 26, 3) := by decide +kernel
theorem dX4_terms_182 : decode cX4_terms 182 = .ok (.getfield 74, 3) := by decide +kernel
theorem dX4_terms_185 : decode cX4_terms 185 = .ok (.aload_n 0, 1) := by decide +kernel
theorem dX4_terms_186 : decode cX4_terms 186 = .ok (.getfield 26, 3) := by decide +kernel
theorem dX4_terms_189 : decode cX4_terms 189 = .ok (.invokevirtual 151, 3) := by decide +kernel
theorem dX4_terms_192 : decode cX4_terms 192 = .ok (.iaload, 1) := by decide +kernel
theorem dX4_terms_193 : decode cX4_terms 193 = .ok (.iconst 1, 1) := by decide +kernel
theorem dX4_terms_194 : decode cX4_terms 194 = .ok (.iadd, 1) := by decide +kernel
theorem dX4_terms_195 : decode cX4_terms 195 = .ok (.ireturn, 1) := by decide +kernel
theorem dX4_terms_196 : decode cX4_terms 196 = .ok (.aload_n 0, 1) := by decide +kernel
theorem dX4_terms_197 : decode cX4_terms 197 = .ok (.getfield 32, 3) := by decide +kernel
theorem dX4_terms_200 : decode cX4_terms 200 = .ok (.getfield 143, 3) := by decide +kernel
theorem dX4_terms_203 : decode cX4_terms 203 = .ok (.l2i, 1) := by decide +kernel
theorem dX4_terms_204 : decode cX4_terms 204 = .ok (.ireturn, 1) := by decide +kernel
set_option maxRecDepth 20000 in
theorem ggX4_image_X3_isNone : GoodIn wsX4_image wsX3_isNone := goodIn_r _ [8, 9, 30, 31, 32, 33, 34, 35, 36, 37, 38, 39, 40] (by decide +kernel) (by decide +kernel)
set_option maxRecDepth 20000 in
theorem gX4_image_X3_isNone : GoodIn wsX4_image (wsV RX4 105 RX3 yX3_isNone wsX3_isNone) := goodIn_app (goodIn_of _ (by decide +kernel)) ggX4_image_X3_isNone
set_option maxRecDepth 20000 in
theorem ggX4_image_X3_copyFrom : GoodIn wsX4_image wsX3_copyFrom := goodIn_r _ [13, 9, 14, 15, 16, 17, 18, 19, 20, 21, 22, 23, 30, 31, 32, 33, 34, 35, 36, 37, 38, 39, 40] (by decide +kernel) (by decide +kernel)
set_option maxRecDepth 20000 in
theorem gX4_image_X3_copyFrom : GoodIn wsX4_image (wsV RX4 139 RX3 yX3_copyFrom wsX3_copyFrom) := goodIn_app (goodIn_of _ (by decide +kernel)) ggX4_image_X3_copyFrom
theorem dX4_image_0 : decode cX4_image 0 = .ok (.aload_n 0, 1) := by decide +kernel
theorem dX4_image_1 : decode cX4_image 1 = .ok (.getfield 19, 3) := by decide +kernel
theorem dX4_image_4 : decode cX4_image 4 = .ok (.invokevirtual 105, 3) := by decide +kernel
theorem dX4_image_7 : decode cX4_image 7 = .ok (.ifCond .eq 6, 3) := by decide +kernel
theorem dX4_image_10 : decode cX4_image 10 = .ok (.bipush (-103), 2) := by decide +kernel
theorem dX4_image_12 : decode cX4_image 12 = .ok (.ireturn, 1) := by decide +kernel
theorem dX4_image_13 : decode cX4_image 13 = .ok (.aload_n 0, 1) := by decide +kernel
theorem dX4_image_14 : decode cX4_image 14 = .ok (.getfield 23, 3) := by decide +kernel
theorem dX4_image_17 : decode cX4_image 17 = .ok (.aload_n 0, 1) := by decide +kernel
theorem dX4_image_18 : decode cX4_image 18 = .ok (.getfield 19, 3) := by decide +kernel
theorem dX4_image_21 : decode cX4_image 21 = .ok (.invokevirtual 139, 3) := by decide +kernel
theorem dX4_image_24 : decode cX4_image 24 = .ok (.aload_n 0, 1) := by decide +kernel
theorem dX4_image_25 : decode cX4_image 25 = .ok (.getfield 23, 3) := by decide +kernel
theorem dX4_image_28 : decode cX4_image 28 = .ok (.getfield 157, 3) := by decide +kernel
theorem dX4_image_31 : decode cX4_image 31 = .ok (.ireturn, 1) := by decide +kernel
set_option maxRecDepth 20000 in
theorem ggX4_restore_X3_isNone : GoodIn wsX4_restore wsX3_isNone := goodIn_r _ [8, 9, 30, 31, 32, 33, 34, 35, 36, 37, 38, 39, 40] (by decide +kernel) (by decide +kernel)
set_option maxRecDepth 20000 in
theorem gX4_restore_X3_isNone : GoodIn wsX4_restore (wsV RX4 105 RX3 yX3_isNone wsX3_isNone) := goodIn_app (goodIn_of _ (by decide +kernel)) ggX4_restore_X3_isNone
set_option maxRecDepth 20000 in
theorem ggX4_restore_X3_copyFrom : GoodIn wsX4_restore wsX3_copyFrom := goodIn_r _ [13, 9, 14, 15, 16, 17, 18, 19, 20, 21, 22, 23, 30, 31, 32, 33, 34, 35, 36, 37, 38, 39, 40] (by decide +kernel) (by decide +kernel)
set_option maxRecDepth 20000 in
theorem gX4_restore_X3_copyFrom : GoodIn wsX4_restore (wsV RX4 139 RX3 yX3_copyFrom wsX3_copyFrom) := goodIn_app (goodIn_of _ (by decide +kernel)) ggX4_restore_X3_copyFrom
theorem dX4_restore_0 : decode cX4_restore 0 = .ok (.aload_n 0, 1) := by decide +kernel
theorem dX4_restore_1 : decode cX4_restore 1 = .ok (.getfield 23, 3) := by decide +kernel
theorem dX4_restore_4 : decode cX4_restore 4 = .ok (.invokevirtual 105, 3) := by decide +kernel
theorem dX4_restore_7 : decode cX4_restore 7 = .ok (.ifCond .eq 6, 3) := by decide +kernel
theorem dX4_restore_10 : decode cX4_restore 10 = .ok (.bipush (-103), 2) := by decide +kernel
theorem dX4_restore_12 : decode cX4_restore 12 = .ok (.ireturn, 1) := by decide +kernel
theorem dX4_restore_13 : decode cX4_restore 13 = .ok (.aload_n 0, 1) := by decide +kernel
theorem dX4_restore_14 : decode cX4_restore 14 = .ok (.getfield 19, 3) := by decide +kernel
theorem dX4_restore_17 : decode cX4_restore 17 = .ok (.aload_n 0, 1) := by decide +kernel
theorem dX4_restore_18 : decode cX4_restore 18 = .ok (.getfield 23, 3) := by decide +kernel
theorem dX4_restore_21 : decode cX4_restore 21 = .ok (.invokevirtual 139, 3) := by decide +kernel
theorem dX4_restore_24 : decode cX4_restore 24 = .ok (.aload_n 0, 1) := by decide +kernel
theorem dX4_restore_25 : decode cX4_restore 25 = .ok (.getfield 19, 3) := by decide +kernel
theorem dX4_restore_28 : decode cX4_restore 28 = .ok (.getfield 157, 3) := by decide +kernel
theorem dX4_restore_31 : decode cX4_restore 31 = .ok (.ireturn, 1) := by decide +kernel
set_option maxRecDepth 20000 in
theorem ggX4_count_X3_knowing : GoodIn wsX4_count wsX3_knowing := goodIn_r _ [13, 14, 15, 60, 61, 62, 63, 64, 65, 66, 67, 68, 69, 70] (by decide +kernel) (by decide +kernel)
set_option maxRecDepth 20000 in
theorem gX4_count_X3_knowing : GoodIn wsX4_count (wsV RX4 160 RX3 yX3_knowing wsX3_knowing) := goodIn_app (goodIn_of _ (by decide +kernel)) ggX4_count_X3_knowing
set_option maxRecDepth 20000 in
theorem ggX4_count_X3_unlikeRules : GoodIn wsX4_count wsX3_unlikeRules := goodIn_r _ [19, 14, 15, 20, 21, 22, 23, 24, 25, 26, 60, 61, 62, 63, 64, 65, 66, 67, 68, 69, 70] (by decide +kernel) (by decide +kernel)
set_option maxRecDepth 20000 in
theorem gX4_count_X3_unlikeRules : GoodIn wsX4_count (wsV RX4 163 RX3 yX3_unlikeRules wsX3_unlikeRules) := goodIn_app (goodIn_of _ (by decide +kernel)) ggX4_count_X3_unlikeRules
set_option maxRecDepth 20000 in
theorem ggX4_count_X3_illOnes : GoodIn wsX4_count wsX3_illOnes := goodIn_r _ [30, 14, 31, 60, 61, 62, 63, 64, 65, 66, 67, 68, 69, 70] (by decide +kernel) (by decide +kernel)
set_option maxRecDepth 20000 in
theorem gX4_count_X3_illOnes : GoodIn wsX4_count (wsV RX4 166 RX3 yX3_illOnes wsX3_illOnes) := goodIn_app (goodIn_of _ (by decide +kernel)) ggX4_count_X3_illOnes
set_option maxRecDepth 20000 in
theorem ggX4_count_X3_isNone : GoodIn wsX4_count wsX3_isNone := goodIn_r _ [35, 14, 60, 61, 62, 63, 64, 65, 66, 67, 68, 69, 70] (by decide +kernel) (by decide +kernel)
set_option maxRecDepth 20000 in
theorem gX4_count_X3_isNone : GoodIn wsX4_count (wsV RX4 105 RX3 yX3_isNone wsX3_isNone) := goodIn_app (goodIn_of _ (by decide +kernel)) ggX4_count_X3_isNone
set_option maxRecDepth 20000 in
theorem ggX4_count_X3_unchangedAtTop : GoodIn wsX4_count wsX3_unchangedAtTop := goodIn_r _ [39, 40, 41, 42, 12, 43, 44, 45, 46, 47, 48, 49, 14, 50, 51, 52, 53, 60, 61, 62, 63, 64, 65, 66, 67, 68, 69, 70] (by decide +kernel) (by decide +kernel)
set_option maxRecDepth 20000 in
theorem gX4_count_X3_unchangedAtTop : GoodIn wsX4_count (wsV RX4 123 RX3 yX3_unchangedAtTop wsX3_unchangedAtTop) := goodIn_app (goodIn_of _ (by decide +kernel)) ggX4_count_X3_unchangedAtTop
theorem dX4_count_0 : decode cX4_count 0 = .ok (.iload_n 1, 1) := by decide +kernel
theorem dX4_count_1 : decode cX4_count 1 = .ok (.tableswitch 147 0 9 #[55, 63, 71, 79, 87, 95, 103, 126, 134, 142], 55) := by decide +kernel
theorem dX4_count_56 : decode cX4_count 56 = .ok (.aload_n 0, 1) := by decide +kernel
theorem dX4_count_57 : decode cX4_count 57 = .ok (.getfield 19, 3) := by decide +kernel
theorem dX4_count_60 : decode cX4_count 60 = .ok (.getfield 62, 3) := by decide +kernel
theorem dX4_count_63 : decode cX4_count 63 = .ok (.ireturn, 1) := by decide +kernel
theorem dX4_count_64 : decode cX4_count 64 = .ok (.aload_n 0, 1) := by decide +kernel
theorem dX4_count_65 : decode cX4_count 65 = .ok (.getfield 19, 3) := by decide +kernel
theorem dX4_count_68 : decode cX4_count 68 = .ok (.invokevirtual 160, 3) := by decide +kernel
theorem dX4_count_71 : decode cX4_count 71 = .ok (.ireturn, 1) := by decide +kernel
theorem dX4_count_72 : decode cX4_count 72 = .ok (.aload_n 0, 1) := by decide +kernel
theorem dX4_count_73 : decode cX4_count 73 = .ok (.getfield 19, 3) := by decide +kernel
theorem dX4_count_76 : decode cX4_count 76 = .ok (.invokevirtual 163, 3) := by decide +kernel
theorem dX4_count_79 : decode cX4_count 79 = .ok (.ireturn, 1) := by decide +kernel
theorem dX4_count_80 : decode cX4_count 80 = .ok (.aload_n 0, 1) := by decide +kernel
theorem dX4_count_81 : decode cX4_count 81 = .ok (.getfield 19, 3) := by decide +kernel
theorem dX4_count_84 : decode cX4_count 84 = .ok (.invokevirtual 166, 3) := by decide +kernel
theorem dX4_count_87 : decode cX4_count 87 = .ok (.ireturn, 1) := by decide +kernel
theorem dX4_count_88 : decode cX4_count 88 = .ok (.aload_n 0, 1) := by decide +kernel
theorem dX4_count_89 : decode cX4_count 89 = .ok (.getfield 19, 3) := by decide +kernel
theorem dX4_count_92 : decode cX4_count 92 = .ok (.getfield 157, 3) := by decide +kernel
theorem dX4_count_95 : decode cX4_count 95 = .ok (.ireturn, 1) := by decide +kernel
theorem dX4_count_96 : decode cX4_count 96 = .ok (.aload_n 0, 1) := by decide +kernel
theorem dX4_count_97 : decode cX4_count 97 = .ok (.getfield 19, 3) := by decide +kernel
theorem dX4_count_100 : decode cX4_count 100 = .ok (.getfield 169, 3) := by decide +kernel
theorem dX4_count_103 : decode cX4_count 103 = .ok (.ireturn, 1) := by decide +kernel
theorem dX4_count_104 : decode cX4_count 104 = .ok (.aload_n 0, 1) := by decide +kernel
theorem dX4_count_105 : decode cX4_count 105 = .ok (.getfield 19, 3) := by decide +kernel
theorem dX4_count_108 : decode cX4_count 108 = .ok (.invokevirtual 105, 3) := by decide +kernel
theorem dX4_count_111 : decode cX4_count 111 = .ok (.ifCond .eq 7, 3) := by decide +kernel
theorem dX4_count_114 : decode cX4_count 114 = .ok (.iconst 0, 1) := by decide +kernel
theorem dX4_count_115 : decode cX4_count 115 = .ok (.goto 11, 3) := by decide +kernel
theorem dX4_count_118 : decode cX4_count 118 = .ok (.aload_n 0, 1) := by decide +kernel
theorem dX4_count_119 : decode cX4_count 119 = .ok (.getfield 19, 3) := by decide +kernel
theorem dX4_count_122 : decode cX4_count 122 = .ok (.iconst (-1), 1) := by decide +kernel
theorem dX4_count_123 : decode cX4_count 123 = .ok (.invokevirtual 123, 3) := by decide +kernel
theorem dX4_count_126 : decode cX4_count 126 = .ok (.ireturn, 1) := by decide +kernel
theorem dX4_count_127 : decode cX4_count 127 = .ok (.aload_n 0, 1) := by decide +kernel
theorem dX4_count_128 : decode cX4_count 128 = .ok (.getfield 19, 3) := by decide +kernel
theorem dX4_count_131 : decode cX4_count 131 = .ok (.getfield 136, 3) := by decide +kernel
theorem dX4_count_134 : decode cX4_count 134 = .ok (.ireturn, 1) := by decide +kernel
theorem dX4_count_135 : decode cX4_count 135 = .ok (.aload_n 0, 1) := by decide +kernel
theorem dX4_count_136 : decode cX4_count 136 = .ok (.getfield 10, 3) := by decide +kernel
theorem dX4_count_139 : decode cX4_count 139 = .ok (.getfield 48, 3) := by decide +kernel
theorem dX4_count_142 : decode cX4_count 142 = .ok (.ireturn, 1) := by decide +kernel
theorem dX4_count_143 : decode cX4_count 143 = .ok (.aload_n 0, 1) := by decide +kernel
theorem dX4_count_144 : decode cX4_count 144 = .ok (.getfield 36, 3) := by decide +kernel
theorem dX4_count_147 : decode cX4_count 147 = .ok (.ireturn, 1) := by decide +kernel
theorem dX4_count_148 : decode cX4_count 148 = .ok (.bipush (-102), 2) := by decide +kernel
theorem dX4_count_150 : decode cX4_count 150 = .ok (.ireturn, 1) := by decide +kernel
set_option maxRecDepth 20000 in
theorem ggX4_digest_X4_withChild : GoodIn wsX4_digest wsX4_withChild := goodIn_r _ [11, 12, 13, 14, 10, 15, 2, 16, 17, 18, 19, 20, 21, 22, 23, 24, 25, 26, 27, 28, 29, 30, 31, 32, 33, 34, 35, 36, 37, 38, 39, 40, 41, 42, 43, 44, 45, 46, 47, 48, 49, 50, 51, 52, 53, 54, 55, 56, 57, 58, 59, 60, 61, 62, 63, 64, 65, 66, 67, 68, 69, 70, 71, 72, 73, 74, 75, 76, 77, 78, 79, 80, 81, 82, 83, 84, 85, 86, 87, 88, 89, 90, 91, 92, 93, 94, 95, 96, 150, 151, 152, 153, 154, 155, 156, 157, 158, 159, 160, 161, 162, 163, 164, 165, 166] (by decide +kernel) (by decide +kernel)
set_option maxRecDepth 20000 in
theorem gX4_digest_X4_withChild : GoodIn wsX4_digest (wsV RX4 174 RX4 yX4_withChild wsX4_withChild) := goodIn_app (goodIn_of _ (by decide +kernel)) ggX4_digest_X4_withChild
set_option maxRecDepth 20000 in
theorem ggX4_digest_X3_isNone : GoodIn wsX4_digest wsX3_isNone := goodIn_r _ [100, 25, 156, 157, 158, 159, 160, 161, 162, 163, 164, 165, 166] (by decide +kernel) (by decide +kernel)
set_option maxRecDepth 20000 in
theorem gX4_digest_X3_isNone : GoodIn wsX4_digest (wsV RX4 105 RX3 yX3_isNone wsX3_isNone) := goodIn_app (goodIn_of _ (by decide +kernel)) ggX4_digest_X3_isNone
set_option maxRecDepth 20000 in
theorem ggX4_digest_X4_soon : GoodIn wsX4_digest wsX4_soon := goodIn_r _ [104, 2, 97, 98, 99, 23, 100, 25, 105, 106, 107, 108, 30, 31, 109, 84, 85, 86, 87, 150, 151, 152, 153, 154, 155, 156, 157, 158, 159, 160, 161, 162, 163, 164, 165, 166] (by decide +kernel) (by decide +kernel)
set_option maxRecDepth 20000 in
theorem gX4_digest_X4_soon : GoodIn wsX4_digest (wsV RX4 178 RX4 yX4_soon wsX4_soon) := goodIn_app (goodIn_of _ (by decide +kernel)) ggX4_digest_X4_soon
set_option maxRecDepth 20000 in
theorem ggX4_digest_X4_with : GoodIn wsX4_digest wsX4_with := goodIn_r _ [67, 68] (by decide +kernel) (by decide +kernel)
set_option maxRecDepth 20000 in
theorem gX4_digest_X4_with : GoodIn wsX4_digest (va_wsS RX4 181 yX4_with wsX4_with) := goodIn_app (goodIn_of _ (by decide +kernel)) ggX4_digest_X4_with
set_option maxRecDepth 20000 in
theorem ggX4_digest_X4_cure : GoodIn wsX4_digest wsX4_cure := goodIn_r _ [113, 2, 97, 98, 99, 23, 100, 25, 114, 115, 116, 117, 118, 119, 120, 121, 96, 81, 82, 83, 32, 33, 84, 85, 86, 87, 34, 35, 36, 37, 122, 150, 151, 152, 153, 154, 155, 156, 157, 158, 159, 160, 161, 162, 163, 164, 165, 166] (by decide +kernel) (by decide +kernel)
set_option maxRecDepth 20000 in
theorem gX4_digest_X4_cure : GoodIn wsX4_digest (wsV RX4 185 RX4 yX4_cure wsX4_cure) := goodIn_app (goodIn_of _ (by decide +kernel)) ggX4_digest_X4_cure
set_option maxRecDepth 20000 in
theorem ggX4_digest_X4_count : GoodIn wsX4_digest wsX4_count := goodIn_r _ [126, 2, 3, 127, 128, 129, 4, 5, 130, 131, 132, 133, 23, 134, 25, 30, 135, 136, 137, 138, 139, 140, 141, 142, 143, 144, 145, 146, 147, 148, 149, 31, 97, 98, 99, 100, 122, 119, 120, 121, 96, 81, 82, 83, 32, 33, 84, 85, 86, 87, 34, 35, 36, 37, 150, 151, 152, 153, 154, 155, 156, 157, 158, 159, 160, 161, 162, 163, 164, 165, 166, 167, 168] (by decide +kernel) (by decide +kernel)
set_option maxRecDepth 20000 in
theorem gX4_digest_X4_count : GoodIn wsX4_digest (wsV RX4 191 RX4 yX4_count wsX4_count) := goodIn_app (goodIn_of _ (by decide +kernel)) ggX4_digest_X4_count
theorem dX4_digest_0 : decode cX4_digest 0 = .ok (.ldc2_w 172, 3) := by decide +kernel
theorem dX4_digest_3 : decode cX4_digest 3 = .ok (.lstore_n 1, 1) := by decide +kernel
theorem dX4_digest_4 : decode cX4_digest 4 = .ok (.iconst 0, 1) := by decide +kernel
theorem dX4_digest_5 : decode cX4_digest 5 = .ok (.istore_n 3, 1) := by decide +kernel
theorem dX4_digest_6 : decode cX4_digest 6 = .ok (.iload_n 3, 1) := by decide +kernel
theorem dX4_digest_7 : decode cX4_digest 7 = .ok (.aload_n 0, 1) := by decide +kernel
theorem dX4_digest_8 : decode cX4_digest 8 = .ok (.getfield 19, 3) := by decide +kernel
theorem dX4_digest_11 : decode cX4_digest 11 = .ok (.getfield 62, 3) := by decide +kernel
theorem dX4_digest_14 : decode cX4_digest 14 = .ok (.if_icmp .ge 16, 3) := by decide +kernel
theorem dX4_digest_17 : decode cX4_digest 17 = .ok (.aload_n 0, 1) := by decide +kernel
theorem dX4_digest_18 : decode cX4_digest 18 = .ok (.lload_n 1, 1) := by decide +kernel
theorem dX4_digest_19 : decode cX4_digest 19 = .ok (.iload_n 3, 1) := by decide +kernel
theorem dX4_digest_20 : decode cX4_digest 20 = .ok (.invokevirtual 174, 3) := by decide +kernel
theorem dX4_digest_23 : decode cX4_digest 23 = .ok (.lstore_n 1, 1) := by decide +kernel
theorem dX4_digest_24 : decode cX4_digest 24 = .ok (.iinc 3 1, 3) := by decide +kernel
theorem dX4_digest_27 : decode cX4_digest 27 = .ok (.goto (-21), 3) := by decide +kernel
theorem dX4_digest_30 : decode cX4_digest 30 = .ok (.aload_n 0, 1) := by decide +kernel
theorem dX4_digest_31 : decode cX4_digest 31 = .ok (.getfield 19, 3) := by decide +kernel
theorem dX4_digest_34 : decode cX4_digest 34 = .ok (.invokevirtual 105, 3) := by decide +kernel
theorem dX4_digest_37 : decode cX4_digest 37 = .ok (.ifCond .ne 35, 3) := by decide +kernel
theorem dX4_digest_40 : decode cX4_digest 40 = .ok (.lload_n 1, 1) := by decide +kernel
theorem dX4_digest_41 : decode cX4_digest 41 = .ok (.aload_n 0, 1) := by decide +kernel
theorem dX4_digest_42 : decode cX4_digest 42 = .ok (.invokevirtual 178, 3) := by decide +kernel
theorem dX4_digest_45 : decode cX4_digest 45 = .ok (.i2l, 1) := by decide +kernel
theorem dX4_digest_46 : decode cX4_digest 46 = .ok (.invokestatic 181, 3) := by decide +kernel
theorem dX4_digest_49 : decode cX4_digest 49 = .ok (.lstore_n 1, 1) := by decide +kernel
theorem dX4_digest_50 : decode cX4_digest 50 = .ok (.lload_n 1, 1) := by decide +kernel
theorem dX4_digest_51 : decode cX4_digest 51 = .ok (.aload_n 0, 1) := by decide +kernel
theorem dX4_digest_52 : decode cX4_digest 52 = .ok (.iconst 0, 1) := by decide +kernel
theorem dX4_digest_53 : decode cX4_digest 53 = .ok (.invokevirtual 185, 3) := by decide +kernel
theorem dX4_digest_56 : decode cX4_digest 56 = .ok (.i2l, 1) := by decide +kernel
theorem dX4_digest_57 : decode cX4_digest 57 = .ok (.invokestatic 181, 3) := by decide +kernel
theorem dX4_digest_60 : decode cX4_digest 60 = .ok (.lstore_n 1, 1) := by decide +kernel
theorem dX4_digest_61 : decode cX4_digest 61 = .ok (.lload_n 1, 1) := by decide +kernel
theorem dX4_digest_62 : decode cX4_digest 62 = .ok (.aload_n 0, 1) := by decide +kernel
theorem dX4_digest_63 : decode cX4_digest 63 = .ok (.iconst 1, 1) := by decide +kernel
theorem dX4_digest_64 : decode cX4_digest 64 = .ok (.invokevirtual 185, 3) := by decide +kernel
theorem dX4_digest_67 : decode cX4_digest 67 = .ok (.i2l, 1) := by decide +kernel
theorem dX4_digest_68 : decode cX4_digest 68 = .ok (.invokestatic 181, 3) := by decide +kernel
theorem dX4_digest_71 : decode cX4_digest 71 = .ok (.lstore_n 1, 1) := by decide +kernel
theorem dX4_digest_72 : decode cX4_digest 72 = .ok (.iconst 0, 1) := by decide +kernel
theorem dX4_digest_73 : decode cX4_digest 73 = .ok (.istore_n 3, 1) := by decide +kernel
theorem dX4_digest_74 : decode cX4_digest 74 = .ok (.iload_n 3, 1) := by decide +kernel
theorem dX4_digest_75 : decode cX4_digest 75 = .ok (.aload_n 0, 1) := by decide +kernel
theorem dX4_digest_76 : decode cX4_digest 76 = .ok (.getfield 10, 3) := by decide +kernel
theorem dX4_digest_79 : decode cX4_digest 79 = .ok (.getfield 48, 3) := by decide +kernel
theorem dX4_digest_82 : decode cX4_digest 82 = .ok (.if_icmp .ge 24, 3) := by decide +kernel
theorem dX4_digest_85 : decode cX4_digest 85 = .ok (.lload_n 1, 1) := by decide +kernel
theorem dX4_digest_86 : decode cX4_digest 86 = .ok (.aload_n 0, 1) := by decide +kernel
theorem dX4_digest_87 : decode cX4_digest 87 = .ok (.getfield 10, 3) := by decide +kernel
theorem dX4_digest_90 : decode cX4_digest 90 = .ok (.getfield 188, 3) := by decide +kernel
theorem dX4_digest_93 : decode cX4_digest 93 = .ok (.iload_n 3, 1) := by decide +kernel
theorem dX4_digest_94 : decode cX4_digest 94 = .ok (.iaload, 1) := by decide +kernel
theorem dX4_digest_95 : decode cX4_digest 95 = .ok (.i2l, 1) := by decide +kernel
theorem dX4_digest_96 : decode cX4_digest 96 = .ok (.invokestatic 181, 3) := by decide +kernel
theorem dX4_digest_99 : decode cX4_digest 99 = .ok (.lstore_n 1, 1) := by decide +kernel
theorem dX4_digest_100 : decode cX4_digest 100 = .ok (.iinc 3 1, 3) := by decide +kernel
theorem dX4_digest_103 : decode cX4_digest 103 = .ok (.goto (-29), 3) := by decide +kernel
theorem dX4_digest_106 : decode cX4_digest 106 = .ok (.iconst 0, 1) := by decide +kernel
theorem dX4_digest_107 : decode cX4_digest 107 = .ok (.istore_n 3, 1) := by decide +kernel
theorem dX4_digest_108 : decode cX4_digest 108 = .ok (.iload_n 3, 1) := by decide +kernel
theorem dX4_digest_109 : decode cX4_digest 109 = .ok (.bipush 9, 2) := by decide +kernel
theorem dX4_digest_111 : decode cX4_digest 111 = .ok (.if_icmp .gt 20, 3) := by decide +kernel
theorem dX4_digest_114 : decode cX4_digest 114 = .ok (.lload_n 1, 1) := by decide +kernel
theorem dX4_digest_115 : decode cX4_digest 115 = .ok (.aload_n 0, 1) := by decide +kernel
theorem dX4_digest_116 : decode cX4_digest 116 = .ok (.iload_n 3, 1) := by decide +kernel
theorem dX4_digest_117 : decode cX4_digest 117 = .ok (.invokevirtual 191, 3) := by decide +kernel
theorem dX4_digest_120 : decode cX4_digest 120 = .ok (.i2l, 1) := by decide +kernel
theorem dX4_digest_121 : decode cX4_digest 121 = .ok (.invokestatic 181, 3) := by decide +kernel
theorem dX4_digest_124 : decode cX4_digest 124 = .ok (.lstore_n 1, 1) := by decide +kernel
theorem dX4_digest_125 : decode cX4_digest 125 = .ok (.iinc 3 1, 3) := by decide +kernel
theorem dX4_digest_128 : decode cX4_digest 128 = .ok (.goto (-20), 3) := by decide +kernel
theorem dX4_digest_131 : decode cX4_digest 131 = .ok (.lload_n 1, 1) := by decide +kernel
theorem dX4_digest_132 : decode cX4_digest 132 = .ok (.lreturn, 1) := by decide +kernel
set_option maxRecDepth 20000 in
theorem ggX4_withChild_X4_child : GoodIn wsX4_withChild wsX4_child := goodIn_r _ [5, 6, 7, 8, 9, 10, 11, 12, 13, 14, 15, 16, 17, 18, 19, 20, 21, 22, 23, 24, 25, 26, 27, 28, 29, 30, 31, 32, 33, 34, 35, 36, 37, 38, 39, 40, 41, 42, 43, 44, 45, 46, 47, 48, 49, 50, 51, 52, 53, 54, 55, 88, 89, 90, 91, 92, 93, 94, 95, 96, 97, 98, 99, 100, 101, 102, 103, 104] (by decide +kernel) (by decide +kernel)
set_option maxRecDepth 20000 in
theorem gX4_withChild_X4_child : GoodIn wsX4_withChild (wsV RX4 194 RX4 yX4_child wsX4_child) := goodIn_app (goodIn_of _ (by decide +kernel)) ggX4_withChild_X4_child
set_option maxRecDepth 20000 in
theorem ggX4_withChild_X4_with : GoodIn wsX4_withChild wsX4_with := goodIn_r _ [58, 59] (by decide +kernel) (by decide +kernel)
set_option maxRecDepth 20000 in
theorem gX4_withChild_X4_with : GoodIn wsX4_withChild (va_wsS RX4 181 yX4_with wsX4_with) := goodIn_app (goodIn_of _ (by decide +kernel)) ggX4_withChild_X4_with
set_option maxRecDepth 20000 in
theorem ggX4_withChild_X4_arrives : GoodIn wsX4_withChild wsX4_arrives := goodIn_r _ [63, 6, 64, 65, 66, 4, 67, 11, 12, 13, 14, 15, 16, 68, 69, 70, 71, 72, 73, 74, 23, 24, 75, 76, 77, 78, 25, 26, 27, 28, 88, 89, 90, 91, 92, 93, 94, 95, 96, 97, 98, 99, 100, 101, 102, 103, 104] (by decide +kernel) (by decide +kernel)
set_option maxRecDepth 20000 in
theorem gX4_withChild_X4_arrives : GoodIn wsX4_withChild (wsV RX4 197 RX4 yX4_arrives wsX4_arrives) := goodIn_app (goodIn_of _ (by decide +kernel)) ggX4_withChild_X4_arrives
set_option maxRecDepth 20000 in
theorem ggX4_withChild_X4_from : GoodIn wsX4_withChild wsX4_from := goodIn_r _ [82, 6, 64, 65, 66, 4, 67, 11, 12, 13, 14, 15, 16, 68, 69, 70, 83, 84, 85, 86, 87, 72, 73, 74, 23, 24, 75, 76, 77, 78, 25, 26, 27, 28, 88, 89, 90, 91, 92, 93, 94, 95, 96, 97, 98, 99, 100, 101, 102, 103, 104] (by decide +kernel) (by decide +kernel)
set_option maxRecDepth 20000 in
theorem gX4_withChild_X4_from : GoodIn wsX4_withChild (wsV RX4 200 RX4 yX4_from wsX4_from) := goodIn_app (goodIn_of _ (by decide +kernel)) ggX4_withChild_X4_from
theorem dX4_withChild_0 : decode cX4_withChild 0 = .ok (.lload_n 1, 1) := by decide +kernel
theorem dX4_withChild_1 : decode cX4_withChild 1 = .ok (.lstore 4, 2) := by decide +kernel
theorem dX4_withChild_3 : decode cX4_withChild 3 = .ok (.iconst 0, 1) := by decide +kernel
theorem dX4_withChild_4 : decode cX4_withChild 4 = .ok (.istore 6, 2) := by decide +kernel
theorem dX4_withChild_6 : decode cX4_withChild 6 = .ok (.iload 6, 2) := by decide +kernel
theorem dX4_withChild_8 : decode cX4_withChild 8 = .ok (.bipush 6, 2) := by decide +kernel
theorem dX4_withChild_10 : decode cX4_withChild 10 = .ok (.if_icmp .gt 24, 3) := by decide +kernel
theorem dX4_withChild_13 : decode cX4_withChild 13 = .ok (.lload 4, 2) := by decide +kernel
theorem dX4_withChild_15 : decode cX4_withChild 15 = .ok (.aload_n 0, 1) := by decide +kernel
theorem dX4_withChild_16 : decode cX4_withChild 16 = .ok (.iload_n 3, 1) := by decide +kernel
theorem dX4_withChild_17 : decode cX4_withChild 17 = .ok (.iload 6, 2) := by decide +kernel
theorem dX4_withChild_19 : decode cX4_withChild 19 = .ok (.invokevirtual 194, 3) := by decide +kernel
theorem dX4_withChild_22 : decode cX4_withChild 22 = .ok (.i2l, 1) := by decide +kernel
theorem dX4_withChild_23 : decode cX4_withChild 23 = .ok (.invokestatic 181, 3) := by decide +kernel
theorem dX4_withChild_26 : decode cX4_withChild 26 = .ok (.lstore 4, 2) := by decide +kernel
theorem dX4_withChild_28 : decode cX4_withChild 28 = .ok (.iinc 6 1, 3) := by decide +kernel
theorem dX4_withChild_31 : decode cX4_withChild 31 = .ok (.goto (-25), 3) := by decide +kernel
theorem dX4_withChild_34 : decode cX4_withChild 34 = .ok (.lload 4, 2) := by decide +kernel
theorem dX4_withChild_36 : decode cX4_withChild 36 = .ok (.aload_n 0, 1) := by decide +kernel
theorem dX4_withChild_37 : decode cX4_withChild 37 = .ok (.iload_n 3, 1) := by decide +kernel
theorem dX4_withChild_38 : decode cX4_withChild 38 = .ok (.iconst 0, 1) := by decide +kernel
theorem dX4_withChild_39 : decode cX4_withChild 39 = .ok (.invokevirtual 197, 3) := by decide +kernel
theorem dX4_withChild_42 : decode cX4_withChild 42 = .ok (.i2l, 1) := by decide +kernel
theorem dX4_withChild_43 : decode cX4_withChild 43 = .ok (.invokestatic 181, 3) := by decide +kernel
theorem dX4_withChild_46 : decode cX4_withChild 46 = .ok (.lstore 4, 2) := by decide +kernel
theorem dX4_withChild_48 : decode cX4_withChild 48 = .ok (.lload 4, 2) := by decide +kernel
theorem dX4_withChild_50 : decode cX4_withChild 50 = .ok (.aload_n 0, 1) := by decide +kernel
theorem dX4_withChild_51 : decode cX4_withChild 51 = .ok (.iload_n 3, 1) := by decide +kernel
theorem dX4_withChild_52 : decode cX4_withChild 52 = .ok (.iconst 1, 1) := by decide +kernel
theorem dX4_withChild_53 : decode cX4_withChild 53 = .ok (.invokevirtual 197, 3) := by decide +kernel
theorem dX4_withChild_56 : decode cX4_withChild 56 = .ok (.i2l, 1) := by decide +kernel
theorem dX4_withChild_57 : decode cX4_withChild 57 = .ok (.invokestatic 181, 3) := by decide +kernel
theorem dX4_withChild_60 : decode cX4_withChild 60 = .ok (.lstore 4, 2) := by decide +kernel
theorem dX4_withChild_62 : decode cX4_withChild 62 = .ok (.lload 4, 2) := by decide +kernel
theorem dX4_withChild_64 : decode cX4_withChild 64 = .ok (.aload_n 0, 1) := by decide +kernel
theorem dX4_withChild_65 : decode cX4_withChild 65 = .ok (.iload_n 3, 1) := by decide +kernel
theorem dX4_withChild_66 : decode cX4_withChild 66 = .ok (.iconst 5, 1) := by decide +kernel
theorem dX4_withChild_67 : decode cX4_withChild 67 = .ok (.invokevirtual 197, 3) := by decide +kernel
theorem dX4_withChild_70 : decode cX4_withChild 70 = .ok (.i2l, 1) := by decide +kernel
theorem dX4_withChild_71 : decode cX4_withChild 71 = .ok (.invokestatic 181, 3) := by decide +kernel
theorem dX4_withChild_74 : decode cX4_withChild 74 = .ok (.lstore 4, 2) := by decide +kernel
theorem dX4_withChild_76 : decode cX4_withChild 76 = .ok (.lload 4, 2) := by decide +kernel
theorem dX4_withChild_78 : decode cX4_withChild 78 = .ok (.aload_n 0, 1) := by decide +kernel
theorem dX4_withChild_79 : decode cX4_withChild 79 = .ok (.iload_n 3, 1) := by decide +kernel
theorem dX4_withChild_80 : decode cX4_withChild 80 = .ok (.iconst 3, 1) := by decide +kernel
theorem dX4_withChild_81 : decode cX4_withChild 81 = .ok (.invokevirtual 200, 3) := by decide +kernel
theorem dX4_withChild_84 : decode cX4_withChild 84 = .ok (.i2l, 1) := by decide +kernel
theorem dX4_withChild_85 : decode cX4_withChild 85 = .ok (.invokestatic 181, 3) := by decide +kernel
theorem dX4_withChild_88 : decode cX4_withChild 88 = .ok (.lreturn, 1) := by decide +kernel
theorem dX4_with_0 : decode cX4_with 0 = .ok (.ldc2_w 203, 3) := by decide +kernel
theorem dX4_with_3 : decode cX4_with 3 = .ok (.lload_n 0, 1) := by decide +kernel
theorem dX4_with_4 : decode cX4_with 4 = .ok (.lmul, 1) := by decide +kernel
theorem dX4_with_5 : decode cX4_with 5 = .ok (.lload_n 2, 1) := by decide +kernel
theorem dX4_with_6 : decode cX4_with 6 = .ok (.ladd, 1) := by decide +kernel
theorem dX4_with_7 : decode cX4_with 7 = .ok (.lreturn, 1) := by decide +kernel
set_option maxRecDepth 20000 in
theorem ggX4_refusalOf_X3_has : GoodIn wsX4_refusalOf wsX3_has := goodIn_r _ [6, 7, 18, 19, 20, 21, 22, 23, 24, 25, 26, 27, 28] (by decide +kernel) (by decide +kernel)
set_option maxRecDepth 20000 in
theorem gX4_refusalOf_X3_has : GoodIn wsX4_refusalOf (wsV RX4 63 RX3 yX3_has wsX3_has) := goodIn_app (goodIn_of _ (by decide +kernel)) ggX4_refusalOf_X3_has
set_option maxRecDepth 20000 in
theorem ggX4_refusalOf_X4_isRule : GoodIn wsX4_refusalOf wsX4_isRule := goodIn_r _ [11] (by decide +kernel) (by decide +kernel)
set_option maxRecDepth 20000 in
theorem gX4_refusalOf_X4_isRule : GoodIn wsX4_refusalOf (va_wsS RX4 126 yX4_isRule wsX4_isRule) := goodIn_app (goodIn_of _ (by decide +kernel)) ggX4_refusalOf_X4_isRule
theorem dX4_refusalOf_0 : decode cX4_refusalOf 0 = .ok (.aload_n 0, 1) := by decide +kernel
theorem dX4_refusalOf_1 : decode cX4_refusalOf 1 = .ok (.getfield 19, 3) := by decide +kernel
theorem dX4_refusalOf_4 : decode cX4_refusalOf 4 = .ok (.iload_n 1, 1) := by decide +kernel
theorem dX4_refusalOf_5 : decode cX4_refusalOf 5 = .ok (.invokevirtual 63, 3) := by decide +kernel
theorem dX4_refusalOf_8 : decode cX4_refusalOf 8 = .ok (.ifCond .ne 6, 3) := by decide +kernel
theorem dX4_refusalOf_11 : decode cX4_refusalOf 11 = .ok (.bipush (-101), 2) := by decide +kernel
theorem dX4_refusalOf_13 : decode cX4_refusalOf 13 = .ok (.ireturn, 1) := by decide +kernel
theorem dX4_refusalOf_14 : decode cX4_refusalOf 14 = .ok (.iload_n 2, 1) := by decide +kernel
theorem dX4_refusalOf_15 : decode cX4_refusalOf 15 = .ok (.invokestatic 126, 3) := by decide +kernel
theorem dX4_refusalOf_18 : decode cX4_refusalOf 18 = .ok (.ifCond .eq 7, 3) := by decide +kernel
theorem dX4_refusalOf_21 : decode cX4_refusalOf 21 = .ok (.iconst 0, 1) := by decide +kernel
theorem dX4_refusalOf_22 : decode cX4_refusalOf 22 = .ok (.goto 5, 3) := by decide +kernel
theorem dX4_refusalOf_25 : decode cX4_refusalOf 25 = .ok (.bipush (-102), 2) := by decide +kernel
theorem dX4_refusalOf_27 : decode cX4_refusalOf 27 = .ok (.ireturn, 1) := by decide +kernel
theorem dX4_isRule_0 : decode cX4_isRule 0 = .ok (.iload_n 0, 1) := by decide +kernel
theorem dX4_isRule_1 : decode cX4_isRule 1 = .ok (.ifCond .lt 13, 3) := by decide +kernel
theorem dX4_isRule_4 : decode cX4_isRule 4 = .ok (.iload_n 0, 1) := by decide +kernel
theorem dX4_isRule_5 : decode cX4_isRule 5 = .ok (.bipush 12, 2) := by decide +kernel
theorem dX4_isRule_7 : decode cX4_isRule 7 = .ok (.if_icmp .ge 7, 3) := by decide +kernel
theorem dX4_isRule_10 : decode cX4_isRule 10 = .ok (.iconst 1, 1) := by decide +kernel
theorem dX4_isRule_11 : decode cX4_isRule 11 = .ok (.goto 4, 3) := by decide +kernel
theorem dX4_isRule_14 : decode cX4_isRule 14 = .ok (.iconst 0, 1) := by decide +kernel
theorem dX4_isRule_15 : decode cX4_isRule 15 = .ok (.ireturn, 1) := by decide +kernel
