theorem dX5_init_0 : decode cX5_init 0 = .ok (.aload_n 0, 1) := by decide +kernel
theorem dX5_init_1 : decode cX5_init 1 = .ok (.invokespecial 1, 3) := by decide +kernel
theorem dX5_init_4 : decode cX5_init 4 = .ok (.aload_n 0, 1) := by decide +kernel
theorem dX5_init_5 : decode cX5_init 5 = .ok (.bipush 20, 2) := by decide +kernel
theorem dX5_init_7 : decode cX5_init 7 = .ok (.newarray .int, 2) := by decide +kernel
theorem dX5_init_9 : decode cX5_init 9 = .ok (.putfield 7, 3) := by decide +kernel
theorem dX5_init_12 : decode cX5_init 12 = .ok (.aload_n 0, 1) := by decide +kernel
theorem dX5_init_13 : decode cX5_init 13 = .ok (.bipush 24, 2) := by decide +kernel
theorem dX5_init_15 : decode cX5_init 15 = .ok (.newarray .int, 2) := by decide +kernel
theorem dX5_init_17 : decode cX5_init 17 = .ok (.putfield 13, 3) := by decide +kernel
theorem dX5_init_20 : decode cX5_init 20 = .ok (.aload_n 0, 1) := by decide +kernel
theorem dX5_init_21 : decode cX5_init 21 = .ok (.bipush 24, 2) := by decide +kernel
theorem dX5_init_23 : decode cX5_init 23 = .ok (.newarray .int, 2) := by decide +kernel
theorem dX5_init_25 : decode cX5_init 25 = .ok (.putfield 16, 3) := by decide +kernel
theorem dX5_init_28 : decode cX5_init 28 = .ok (.aload_n 0, 1) := by decide +kernel
theorem dX5_init_29 : decode cX5_init 29 = .ok (.bipush 12, 2) := by decide +kernel
theorem dX5_init_31 : decode cX5_init 31 = .ok (.newarray .int, 2) := by decide +kernel
theorem dX5_init_33 : decode cX5_init 33 = .ok (.putfield 19, 3) := by decide +kernel
theorem dX5_init_36 : decode cX5_init 36 = .ok (.aload_n 0, 1) := by decide +kernel
theorem dX5_init_37 : decode cX5_init 37 = .ok (.bipush 24, 2) := by decide +kernel
theorem dX5_init_39 : decode cX5_init 39 = .ok (.newarray .int, 2) := by decide +kernel
theorem dX5_init_41 : decode cX5_init 41 = .ok (.putfield 22, 3) := by decide +kernel
theorem dX5_init_44 : decode cX5_init 44 = .ok (.aload_n 0, 1) := by decide +kernel
theorem dX5_init_45 : decode cX5_init 45 = .ok (.bipush 24, 2) := by decide +kernel
theorem dX5_init_47 : decode cX5_init 47 = .ok (.newarray .int, 2) := by decide +kernel
theorem dX5_init_49 : decode cX5_init 49 = .ok (.putfield 25, 3) := by decide +kernel
theorem dX5_init_52 : decode cX5_init 52 = .ok (.aload_n 0, 1) := by decide +kernel
theorem dX5_init_53 : decode cX5_init 53 = .ok (.bipush 24, 2) := by decide +kernel
theorem dX5_init_55 : decode cX5_init 55 = .ok (.newarray .int, 2) := by decide +kernel
theorem dX5_init_57 : decode cX5_init 57 = .ok (.putfield 28, 3) := by decide +kernel
theorem dX5_init_60 : decode cX5_init 60 = .ok (.aload_n 0, 1) := by decide +kernel
theorem dX5_init_61 : decode cX5_init 61 = .ok (.iconst (-1), 1) := by decide +kernel
theorem dX5_init_62 : decode cX5_init 62 = .ok (.putfield 31, 3) := by decide +kernel
theorem dX5_init_65 : decode cX5_init 65 = .ok (.return_, 1) := by decide +kernel
theorem dX5_in_0 : decode cX5_in 0 = .ok (.lload_n 0, 1) := by decide +kernel
theorem dX5_in_1 : decode cX5_in 1 = .ok (.lload_n 2, 1) := by decide +kernel
theorem dX5_in_2 : decode cX5_in 2 = .ok (.lcmp, 1) := by decide +kernel
theorem dX5_in_3 : decode cX5_in 3 = .ok (.ifCond .lt 14, 3) := by decide +kernel
theorem dX5_in_6 : decode cX5_in 6 = .ok (.lload_n 0, 1) := by decide +kernel
theorem dX5_in_7 : decode cX5_in 7 = .ok (.lload 4, 2) := by decide +kernel
theorem dX5_in_9 : decode cX5_in 9 = .ok (.lcmp, 1) := by decide +kernel
theorem dX5_in_10 : decode cX5_in 10 = .ok (.ifCond .gt 7, 3) := by decide +kernel
theorem dX5_in_13 : decode cX5_in 13 = .ok (.iconst 1, 1) := by decide +kernel
theorem dX5_in_14 : decode cX5_in 14 = .ok (.goto 4, 3) := by decide +kernel
theorem dX5_in_17 : decode cX5_in 17 = .ok (.iconst 0, 1) := by decide +kernel
theorem dX5_in_18 : decode cX5_in 18 = .ok (.ireturn, 1) := by decide +kernel
theorem dX5_copy_0 : decode cX5_copy 0 = .ok (.iconst 0, 1) := by decide +kernel
theorem dX5_copy_1 : decode cX5_copy 1 = .ok (.istore_n 2, 1) := by decide +kernel
theorem dX5_copy_2 : decode cX5_copy 2 = .ok (.iload_n 2, 1) := by decide +kernel
theorem dX5_copy_3 : decode cX5_copy 3 = .ok (.aload_n 0, 1) := by decide +kernel
theorem dX5_copy_4 : decode cX5_copy 4 = .ok (.arraylength, 1) := by decide +kernel
theorem dX5_copy_5 : decode cX5_copy 5 = .ok (.if_icmp .ge 15, 3) := by decide +kernel
theorem dX5_copy_8 : decode cX5_copy 8 = .ok (.aload_n 1, 1) := by decide +kernel
theorem dX5_copy_9 : decode cX5_copy 9 = .ok (.iload_n 2, 1) := by decide +kernel
theorem dX5_copy_10 : decode cX5_copy 10 = .ok (.aload_n 0, 1) := by decide +kernel
theorem dX5_copy_11 : decode cX5_copy 11 = .ok (.iload_n 2, 1) := by decide +kernel
theorem dX5_copy_12 : decode cX5_copy 12 = .ok (.iaload, 1) := by decide +kernel
theorem dX5_copy_13 : decode cX5_copy 13 = .ok (.iastore, 1) := by decide +kernel
theorem dX5_copy_14 : decode cX5_copy 14 = .ok (.iinc 2 1, 3) := by decide +kernel
theorem dX5_copy_17 : decode cX5_copy 17 = .ok (.goto (-15), 3) := by decide +kernel
theorem dX5_copy_20 : decode cX5_copy 20 = .ok (.return_, 1) := by decide +kernel
set_option maxRecDepth 20000 in
theorem ggX5_letter_X5_in : GoodIn wsX5_letter wsX5_in := goodIn_r _ [7] (by decide +kernel) (by decide +kernel)
set_option maxRecDepth 20000 in
theorem gX5_letter_X5_in : GoodIn wsX5_letter (va_wsS RX5 37 yX5_in wsX5_in) := goodIn_app (goodIn_of _ (by decide +kernel)) ggX5_letter_X5_in
theorem dX5_letter_0 : decode cX5_letter 0 = .ok (.iload_n 1, 1) := by decide +kernel
theorem dX5_letter_1 : decode cX5_letter 1 = .ok (.i2l, 1) := by decide +kernel
theorem dX5_letter_2 : decode cX5_letter 2 = .ok (.lconst 1, 1) := by decide +kernel
theorem dX5_letter_3 : decode cX5_letter 3 = .ok (.ldc2_w 35, 3) := by decide +kernel
theorem dX5_letter_6 : decode cX5_letter 6 = .ok (.invokestatic 37, 3) := by decide +kernel
theorem dX5_letter_9 : decode cX5_letter 9 = .ok (.ifCond .ne 6, 3) := by decide +kernel
theorem dX5_letter_12 : decode cX5_letter 12 = .ok (.bipush (-102), 2) := by decide +kernel
theorem dX5_letter_14 : decode cX5_letter 14 = .ok (.ireturn, 1) := by decide +kernel
theorem dX5_letter_15 : decode cX5_letter 15 = .ok (.aload_n 0, 1) := by decide +kernel
theorem dX5_letter_16 : decode cX5_letter 16 = .ok (.getfield 41, 3) := by decide +kernel
theorem dX5_letter_19 : decode cX5_letter 19 = .ok (.bipush 20, 2) := by decide +kernel
theorem dX5_letter_21 : decode cX5_letter 21 = .ok (.if_icmp .ne 6, 3) := by decide +kernel
theorem dX5_letter_24 : decode cX5_letter 24 = .ok (.bipush (-104), 2) := by decide +kernel
theorem dX5_letter_26 : decode cX5_letter 26 = .ok (.ireturn, 1) := by decide +kernel
theorem dX5_letter_27 : decode cX5_letter 27 = .ok (.aload_n 0, 1) := by decide +kernel
theorem dX5_letter_28 : decode cX5_letter 28 = .ok (.getfield 7, 3) := by decide +kernel
theorem dX5_letter_31 : decode cX5_letter 31 = .ok (.aload_n 0, 1) := by decide +kernel
theorem dX5_letter_32 : decode cX5_letter 32 = .ok (.getfield 41, 3) := by decide +kernel
theorem dX5_letter_35 : decode cX5_letter 35 = .ok (.iload_n 1, 1) := by decide +kernel
theorem dX5_letter_36 : decode cX5_letter 36 = .ok (.iastore, 1) := by decide +kernel
theorem dX5_letter_37 : decode cX5_letter 37 = .ok (.aload_n 0, 1) := by decide +kernel
theorem dX5_letter_38 : decode cX5_letter 38 = .ok (.dup, 1) := by decide +kernel
theorem dX5_letter_39 : decode cX5_letter 39 = .ok (.getfield 41, 3) := by decide +kernel
theorem dX5_letter_42 : decode cX5_letter 42 = .ok (.iconst 1, 1) := by decide +kernel
theorem dX5_letter_43 : decode cX5_letter 43 = .ok (.iadd, 1) := by decide +kernel
theorem dX5_letter_44 : decode cX5_letter 44 = .ok (.putfield 41, 3) := by decide +kernel
theorem dX5_letter_47 : decode cX5_letter 47 = .ok (.aload_n 0, 1) := by decide +kernel
theorem dX5_letter_48 : decode cX5_letter 48 = .ok (.getfield 41, 3) := by decide +kernel
theorem dX5_letter_51 : decode cX5_letter 51 = .ok (.ireturn, 1) := by decide +kernel
theorem dX5_blank_0 : decode cX5_blank 0 = .ok (.aload_n 0, 1) := by decide +kernel
theorem dX5_blank_1 : decode cX5_blank 1 = .ok (.getfield 41, 3) := by decide +kernel
theorem dX5_blank_4 : decode cX5_blank 4 = .ok (.istore_n 1, 1) := by decide +kernel
theorem dX5_blank_5 : decode cX5_blank 5 = .ok (.aload_n 0, 1) := by decide +kernel
theorem dX5_blank_6 : decode cX5_blank 6 = .ok (.iconst 0, 1) := by decide +kernel
theorem dX5_blank_7 : decode cX5_blank 7 = .ok (.putfield 41, 3) := by decide +kernel
theorem dX5_blank_10 : decode cX5_blank 10 = .ok (.iload_n 1, 1) := by decide +kernel
theorem dX5_blank_11 : decode cX5_blank 11 = .ok (.ireturn, 1) := by decide +kernel
theorem dX5_kindBy_0 : decode cX5_kindBy 0 = .ok (.iload_n 0, 1) := by decide +kernel
theorem dX5_kindBy_1 : decode cX5_kindBy 1 = .ok (.bipush 99, 2) := by decide +kernel
theorem dX5_kindBy_3 : decode cX5_kindBy 3 = .ok (.if_icmp .ne 7, 3) := by decide +kernel
theorem dX5_kindBy_6 : decode cX5_kindBy 6 = .ok (.iconst 0, 1) := by decide +kernel
theorem dX5_kindBy_7 : decode cX5_kindBy 7 = .ok (.goto 44, 3) := by decide +kernel
theorem dX5_kindBy_10 : decode cX5_kindBy 10 = .ok (.iload_n 0, 1) := by decide +kernel
theorem dX5_kindBy_11 : decode cX5_kindBy 11 = .ok (.bipush 112, 2) := by decide +kernel
theorem dX5_kindBy_13 : decode cX5_kindBy 13 = .ok (.if_icmp .ne 7, 3) := by decide +kernel
theorem dX5_kindBy_16 : decode cX5_kindBy 16 = .ok (.iconst 1, 1) := by decide +kernel
theorem dX5_kindBy_17 : decode cX5_kindBy 17 = .ok (.goto 34, 3) := by decide +kernel
theorem dX5_kindBy_20 : decode cX5_kindBy 20 = .ok (.iload_n 0, 1) := by decide +kernel
theorem dX5_kindBy_21 : decode cX5_kindBy 21 = .ok (.bipush 116, 2) := by decide +kernel
theorem dX5_kindBy_23 : decode cX5_kindBy 23 = .ok (.if_icmp .ne 7, 3) := by decide +kernel
theorem dX5_kindBy_26 : decode cX5_kindBy 26 = .ok (.iconst 2, 1) := by decide +kernel
theorem dX5_kindBy_27 : decode cX5_kindBy 27 = .ok (.goto 24, 3) := by decide +kernel
theorem dX5_kindBy_30 : decode cX5_kindBy 30 = .ok (.iload_n 0, 1) := by decide +kernel
theorem dX5_kindBy_31 : decode cX5_kindBy 31 = .ok (.bipush 109, 2) := by decide +kernel
theorem dX5_kindBy_33 : decode cX5_kindBy 33 = .ok (.if_icmp .ne 7, 3) := by decide +kernel
theorem dX5_kindBy_36 : decode cX5_kindBy 36 = .ok (.iconst 3, 1) := by decide +kernel
theorem dX5_kindBy_37 : decode cX5_kindBy 37 = .ok (.goto 14, 3) := by decide +kernel
theorem dX5_kindBy_40 : decode cX5_kindBy 40 = .ok (.iload_n 0, 1) := by decide +kernel
theorem dX5_kindBy_41 : decode cX5_kindBy 41 = .ok (.bipush 101, 2) := by decide +kernel
theorem dX5_kindBy_43 : decode cX5_kindBy 43 = .ok (.if_icmp .ne 7, 3) := by decide +kernel
theorem dX5_kindBy_46 : decode cX5_kindBy 46 = .ok (.iconst 4, 1) := by decide +kernel
theorem dX5_kindBy_47 : decode cX5_kindBy 47 = .ok (.goto 4, 3) := by decide +kernel
theorem dX5_kindBy_50 : decode cX5_kindBy 50 = .ok (.iconst (-1), 1) := by decide +kernel
theorem dX5_kindBy_51 : decode cX5_kindBy 51 = .ok (.ireturn, 1) := by decide +kernel
set_option maxRecDepth 20000 in
theorem ggX5_isGood_X5_kindBy : GoodIn wsX5_isGood wsX5_kindBy := goodIn_r _ [6] (by decide +kernel) (by decide +kernel)
set_option maxRecDepth 20000 in
theorem gX5_isGood_X5_kindBy : GoodIn wsX5_isGood (va_wsS RX5 44 yX5_kindBy wsX5_kindBy) := goodIn_app (goodIn_of _ (by decide +kernel)) ggX5_isGood_X5_kindBy
set_option maxRecDepth 20000 in
theorem ggX5_isGood_X5_in : GoodIn wsX5_isGood wsX5_in := goodIn_r _ [9] (by decide +kernel) (by decide +kernel)
set_option maxRecDepth 20000 in
theorem gX5_isGood_X5_in : GoodIn wsX5_isGood (va_wsS RX5 37 yX5_in wsX5_in) := goodIn_app (goodIn_of _ (by decide +kernel)) ggX5_isGood_X5_in
theorem dX5_isGood_0 : decode cX5_isGood 0 = .ok (.iload_n 0, 1) := by decide +kernel
theorem dX5_isGood_1 : decode cX5_isGood 1 = .ok (.iconst 3, 1) := by decide +kernel
theorem dX5_isGood_2 : decode cX5_isGood 2 = .ok (.irem, 1) := by decide +kernel
theorem dX5_isGood_3 : decode cX5_isGood 3 = .ok (.lookupswitch 57 #[(0, 25), (1, 45)], 25) := by decide +kernel
theorem dX5_isGood_28 : decode cX5_isGood 28 = .ok (.iload_n 0, 1) := by decide +kernel
theorem dX5_isGood_29 : decode cX5_isGood 29 = .ok (.bipush 18, 2) := by decide +kernel
theorem dX5_isGood_31 : decode cX5_isGood 31 = .ok (.if_icmp .ge 15, 3) := by decide +kernel
theorem dX5_isGood_34 : decode cX5_isGood 34 = .ok (.iload_n 1, 1) := by decide +kernel
theorem dX5_isGood_35 : decode cX5_isGood 35 = .ok (.invokestatic 44, 3) := by decide +kernel
theorem dX5_isGood_38 : decode cX5_isGood 38 = .ok (.iconst (-1), 1) := by decide +kernel
theorem dX5_isGood_39 : decode cX5_isGood 39 = .ok (.if_icmp .eq 7, 3) := by decide +kernel
theorem dX5_isGood_42 : decode cX5_isGood 42 = .ok (.iconst 1, 1) := by decide +kernel
theorem dX5_isGood_43 : decode cX5_isGood 43 = .ok (.goto 4, 3) := by decide +kernel
theorem dX5_isGood_46 : decode cX5_isGood 46 = .ok (.iconst 0, 1) := by decide +kernel
theorem dX5_isGood_47 : decode cX5_isGood 47 = .ok (.ireturn, 1) := by decide +kernel
theorem dX5_isGood_48 : decode cX5_isGood 48 = .ok (.iload_n 1, 1) := by decide +kernel
theorem dX5_isGood_49 : decode cX5_isGood 49 = .ok (.i2l, 1) := by decide +kernel
theorem dX5_isGood_50 : decode cX5_isGood 50 = .ok (.ldc2_w 48, 3) := by decide +kernel
theorem dX5_isGood_53 : decode cX5_isGood 53 = .ok (.ldc2_w 50, 3) := by decide +kernel
theorem dX5_isGood_56 : decode cX5_isGood 56 = .ok (.invokestatic 37, 3) := by decide +kernel
theorem dX5_isGood_59 : decode cX5_isGood 59 = .ok (.ireturn, 1) := by decide +kernel
theorem dX5_isGood_60 : decode cX5_isGood 60 = .ok (.iload_n 1, 1) := by decide +kernel
theorem dX5_isGood_61 : decode cX5_isGood 61 = .ok (.bipush 44, 2) := by decide +kernel
theorem dX5_isGood_63 : decode cX5_isGood 63 = .ok (.if_icmp .ne 13, 3) := by decide +kernel
theorem dX5_isGood_66 : decode cX5_isGood 66 = .ok (.iload_n 0, 1) := by decide +kernel
theorem dX5_isGood_67 : decode cX5_isGood 67 = .ok (.bipush 17, 2) := by decide +kernel
theorem dX5_isGood_69 : decode cX5_isGood 69 = .ok (.if_icmp .ge 7, 3) := by decide +kernel
theorem dX5_isGood_72 : decode cX5_isGood 72 = .ok (.iconst 1, 1) := by decide +kernel
theorem dX5_isGood_73 : decode cX5_isGood 73 = .ok (.goto 4, 3) := by decide +kernel
theorem dX5_isGood_76 : decode cX5_isGood 76 = .ok (.iconst 0, 1) := by decide +kernel
theorem dX5_isGood_77 : decode cX5_isGood 77 = .ok (.ireturn, 1) := by decide +kernel
set_option maxRecDepth 20000 in
theorem ggX5_faultOf_X5_isGood : GoodIn wsX5_faultOf wsX5_isGood := goodIn_r _ [6, 7, 8, 9, 10, 5, 11, 12, 13, 14] (by decide +kernel) (by decide +kernel)
set_option maxRecDepth 20000 in
theorem gX5_faultOf_X5_isGood : GoodIn wsX5_faultOf (va_wsS RX5 52 yX5_isGood wsX5_isGood) := goodIn_app (goodIn_of _ (by decide +kernel)) ggX5_faultOf_X5_isGood
theorem dX5_faultOf_0 : decode cX5_faultOf 0 = .ok (.iconst 0, 1) := by decide +kernel
theorem dX5_faultOf_1 : decode cX5_faultOf 1 = .ok (.istore_n 1, 1) := by decide +kernel
theorem dX5_faultOf_2 : decode cX5_faultOf 2 = .ok (.iload_n 1, 1) := by decide +kernel
theorem dX5_faultOf_3 : decode cX5_faultOf 3 = .ok (.aload_n 0, 1) := by decide +kernel
theorem dX5_faultOf_4 : decode cX5_faultOf 4 = .ok (.getfield 41, 3) := by decide +kernel
theorem dX5_faultOf_7 : decode cX5_faultOf 7 = .ok (.if_icmp .ge 22, 3) := by decide +kernel
theorem dX5_faultOf_10 : decode cX5_faultOf 10 = .ok (.iload_n 1, 1) := by decide +kernel
theorem dX5_faultOf_11 : decode cX5_faultOf 11 = .ok (.aload_n 0, 1) := by decide +kernel
theorem dX5_faultOf_12 : decode cX5_faultOf 12 = .ok (.getfield 7, 3) := by decide +kernel
theorem dX5_faultOf_15 : decode cX5_faultOf 15 = .ok (.iload_n 1, 1) := by decide +kernel
theorem dX5_faultOf_16 : decode cX5_faultOf 16 = .ok (.iaload, 1) := by decide +kernel
theorem dX5_faultOf_17 : decode cX5_faultOf 17 = .ok (.invokestatic 52, 3) := by decide +kernel
theorem dX5_faultOf_20 : decode cX5_faultOf 20 = .ok (.ifCond .eq 9, 3) := by decide +kernel
theorem dX5_faultOf_23 : decode cX5_faultOf 23 = .ok (.iinc 1 1, 3) := by decide +kernel
theorem dX5_faultOf_26 : decode cX5_faultOf 26 = .ok (.goto (-24), 3) := by decide +kernel
theorem dX5_faultOf_29 : decode cX5_faultOf 29 = .ok (.iload_n 1, 1) := by decide +kernel
theorem dX5_faultOf_30 : decode cX5_faultOf 30 = .ok (.ireturn, 1) := by decide +kernel
set_option maxRecDepth 20000 in
theorem ggX5_fault_X5_faultOf : GoodIn wsX5_fault wsX5_faultOf := goodIn_r _ [5, 6, 7, 8, 9, 4, 10, 11, 12, 13, 14, 15, 16, 17, 18, 19, 20, 21, 22, 23, 24, 25, 26, 27, 28, 29, 30, 31, 32, 33, 34, 35, 36, 37, 38] (by decide +kernel) (by decide +kernel)
set_option maxRecDepth 20000 in
theorem gX5_fault_X5_faultOf : GoodIn wsX5_fault (wsV RX5 56 RX5 yX5_faultOf wsX5_faultOf) := goodIn_app (goodIn_of _ (by decide +kernel)) ggX5_fault_X5_faultOf
theorem dX5_fault_0 : decode cX5_fault 0 = .ok (.aload_n 0, 1) := by decide +kernel
theorem dX5_fault_1 : decode cX5_fault 1 = .ok (.invokevirtual 56, 3) := by decide +kernel
theorem dX5_fault_4 : decode cX5_fault 4 = .ok (.ireturn, 1) := by decide +kernel
set_option maxRecDepth 20000 in
theorem ggX5_school_X5_faultOf : GoodIn wsX5_school wsX5_faultOf := goodIn_r _ [13, 1, 4, 14, 15, 12, 16, 17, 18, 19, 20, 21, 22, 23, 24, 25, 26, 27, 28, 29, 30, 31, 32, 33, 34, 35, 36, 37, 38, 39, 40, 41, 42, 43, 44] (by decide +kernel) (by decide +kernel)
set_option maxRecDepth 20000 in
theorem gX5_school_X5_faultOf : GoodIn wsX5_school (wsV RX5 56 RX5 yX5_faultOf wsX5_faultOf) := goodIn_app (goodIn_of _ (by decide +kernel)) ggX5_school_X5_faultOf
set_option maxRecDepth 20000 in
theorem ggX5_school_X5_kindBy : GoodIn wsX5_school wsX5_kindBy := goodIn_r _ [21] (by decide +kernel) (by decide +kernel)
set_option maxRecDepth 20000 in
theorem gX5_school_X5_kindBy : GoodIn wsX5_school (va_wsS RX5 44 yX5_kindBy wsX5_kindBy) := goodIn_app (goodIn_of _ (by decide +kernel)) ggX5_school_X5_kindBy
theorem dX5_school_0 : decode cX5_school 0 = .ok (.aload_n 0, 1) := by decide +kernel
theorem dX5_school_1 : decode cX5_school 1 = .ok (.getfield 41, 3) := by decide +kernel
theorem dX5_school_4 : decode cX5_school 4 = .ok (.iconst 5, 1) := by decide +kernel
theorem dX5_school_5 : decode cX5_school 5 = .ok (.if_icmp .lt 24, 3) := by decide +kernel
theorem dX5_school_8 : decode cX5_school 8 = .ok (.aload_n 0, 1) := by decide +kernel
theorem dX5_school_9 : decode cX5_school 9 = .ok (.getfield 41, 3) := by decide +kernel
theorem dX5_school_12 : decode cX5_school 12 = .ok (.iconst 3, 1) := by decide +kernel
theorem dX5_school_13 : decode cX5_school 13 = .ok (.irem, 1) := by decide +kernel
theorem dX5_school_14 : decode cX5_school 14 = .ok (.iconst 2, 1) := by decide +kernel
theorem dX5_school_15 : decode cX5_school 15 = .ok (.if_icmp .ne 14, 3) := by decide +kernel
theorem dX5_school_18 : decode cX5_school 18 = .ok (.aload_n 0, 1) := by decide +kernel
theorem dX5_school_19 : decode cX5_school 19 = .ok (.invokevirtual 56, 3) := by decide +kernel
theorem dX5_school_22 : decode cX5_school 22 = .ok (.aload_n 0, 1) := by decide +kernel
theorem dX5_school_23 : decode cX5_school 23 = .ok (.getfield 41, 3) := by decide +kernel
theorem dX5_school_26 : decode cX5_school 26 = .ok (.if_icmp .ge 6, 3) := by decide +kernel
theorem dX5_school_29 : decode cX5_school 29 = .ok (.bipush (-103), 2) := by decide +kernel
theorem dX5_school_31 : decode cX5_school 31 = .ok (.ireturn, 1) := by decide +kernel
theorem dX5_school_32 : decode cX5_school 32 = .ok (.aload_n 0, 1) := by decide +kernel
theorem dX5_school_33 : decode cX5_school 33 = .ok (.aload_n 0, 1) := by decide +kernel
theorem dX5_school_34 : decode cX5_school 34 = .ok (.getfield 41, 3) := by decide +kernel
theorem dX5_school_37 : decode cX5_school 37 = .ok (.iconst 1, 1) := by decide +kernel
theorem dX5_school_38 : decode cX5_school 38 = .ok (.iadd, 1) := by decide +kernel
theorem dX5_school_39 : decode cX5_school 39 = .ok (.iconst 3, 1) := by decide +kernel
theorem dX5_school_40 : decode cX5_school 40 = .ok (.idiv, 1) := by decide +kernel
theorem dX5_school_41 : decode cX5_school 41 = .ok (.putfield 60, 3) := by decide +kernel
theorem dX5_school_44 : decode cX5_school 44 = .ok (.iconst 0, 1) := by decide +kernel
theorem dX5_school_45 : decode cX5_school 45 = .ok (.istore_n 1, 1) := by decide +kernel
theorem dX5_school_46 : decode cX5_school 46 = .ok (.iload_n 1, 1) := by decide +kernel
theorem dX5_school_47 : decode cX5_school 47 = .ok (.aload_n 0, 1) := by decide +kernel
theorem dX5_school_48 : decode cX5_school 48 = .ok (.getfield 60, 3) := by decide +kernel
theorem dX5_school_51 : decode cX5_school 51 = .ok (.if_icmp .ge 73, 3) := by decide +kernel
theorem dX5_school_54 : decode cX5_school 54 = .ok (.aload_n 0, 1) := by decide +kernel
theorem dX5_school_55 : decode cX5_school 55 = .ok (.getfield 13, 3) := by decide +kernel
theorem dX5_school_58 : decode cX5_school 58 = .ok (.iconst 4, 1) := by decide +kernel
theorem dX5_school_59 : decode cX5_school 59 = .ok (.iload_n 1, 1) := by decide +kernel
theorem dX5_school_60 : decode cX5_school 60 = .ok (.imul, 1) := by decide +kernel
theorem dX5_school_61 : decode cX5_school 61 = .ok (.aload_n 0, 1) := by decide +kernel
theorem dX5_school_62 : decode cX5_school 62 = .ok (.getfield 7, 3) := by decide +kernel
theorem dX5_school_65 : decode cX5_school 65 = .ok (.iconst 3, 1) := by decide +kernel
theorem dX5_school_66 : decode cX5_school 66 = .ok (.iload_n 1, 1) := by decide +kernel
theorem dX5_school_67 : decode cX5_school 67 = .ok (.imul, 1) := by decide +kernel
theorem dX5_school_68 : decode cX5_school 68 = .ok (.iaload, 1) := by decide +kernel
theorem dX5_school_69 : decode cX5_school 69 = .ok (.invokestatic 44, 3) := by decide +kernel
theorem dX5_school_72 : decode cX5_school 72 = .ok (.iastore, 1) := by decide +kernel
theorem dX5_school_73 : decode cX5_school 73 = .ok (.aload_n 0, 1) := by decide +kernel
theorem dX5_school_74 : decode cX5_school 74 = .ok (.getfield 13, 3) := by decide +kernel
theorem dX5_school_77 : decode cX5_school 77 = .ok (.iconst 4, 1) := by decide +kernel
theorem dX5_school_78 : decode cX5_school 78 = .ok (.iload_n 1, 1) := by decide +kernel
theorem dX5_school_79 : decode cX5_school 79 = .ok (.imul, 1) := by decide +kernel
theorem dX5_school_80 : decode cX5_school 80 = .ok (.iconst 1, 1) := by decide +kernel
theorem dX5_school_81 : decode cX5_school 81 = .ok (.iadd, 1) := by decide +kernel
theorem dX5_school_82 : decode cX5_school 82 = .ok (.aload_n 0, 1) := by decide +kernel
theorem dX5_school_83 : decode cX5_school 83 = .ok (.getfield 7, 3) := by decide +kernel
theorem dX5_school_86 : decode cX5_school 86 = .ok (.iconst 3, 1) := by decide +kernel
theorem dX5_school_87 : decode cX5_school 87 = .ok (.iload_n 1, 1) := by decide +kernel
theorem dX5_school_88 : decode cX5_school 88 = .ok (.imul, 1) := by decide +kernel
theorem dX5_school_89 : decode cX5_school 89 = .ok (.iconst 1, 1) := by decide +kernel
theorem dX5_school_90 : decode cX5_school 90 = .ok (.iadd, 1) := by decide +kernel
theorem dX5_school_91 : decode cX5_school 91 = .ok (.iaload, 1) := by decide +kernel
theorem dX5_school_92 : decode cX5_school 92 = .ok (.bipush 48, 2) := by decide +kernel
theorem dX5_school_94 : decode cX5_school 94 = .ok (.isub, 1) := by decide +kernel
theorem dX5_school_95 : decode cX5_school 95 = .ok (.iastore, 1) := by decide +kernel
theorem dX5_school_96 : decode cX5_school 96 = .ok (.aload_n 0, 1) := by decide +kernel
theorem dX5_school_97 : decode cX5_school 97 = .ok (.getfield 13, 3) := by decide +kernel
theorem dX5_school_100 : decode cX5_school 100 = .ok (.iconst 4, 1) := by decide +kernel
theorem dX5_school_101 : decode cX5_school 101 = .ok (.iload_n 1, 1) := by decide +kernel
theorem dX5_school_102 : decode cX5_school 102 = .ok (.imul, 1) := by decide +kernel
theorem dX5_school_103 : decode cX5_school 103 = .ok (.iconst 2, 1) := by decide +kernel
theorem dX5_school_104 : decode cX5_school 104 = .ok (.iadd, 1) := by decide +kernel
theorem dX5_school_105 : decode cX5_school 105 = .ok (.iconst (-1), 1) := by decide +kernel
theorem dX5_school_106 : decode cX5_school 106 = .ok (.iastore, 1) := by decide +kernel
theorem dX5_school_107 : decode cX5_school 107 = .ok (.aload_n 0, 1) := by decide +kernel
theorem dX5_school_108 : decode cX5_school 108 = .ok (.getfield 13, 3) := by decide +kernel
theorem dX5_school_111 : decode cX5_school 111 = .ok (.iconst 4, 1) := by decide +kernel
theorem dX5_school_112 : decode cX5_school 112 = .ok (.iload_n 1, 1) := by decide +kernel
theorem dX5_school_113 : decode cX5_school 113 = .ok (.imul, 1) := by decide +kernel
theorem dX5_school_114 : decode cX5_school 114 = .ok (.iconst 3, 1) := by decide +kernel
theorem dX5_school_115 : decode cX5_school 115 = .ok (.iadd, 1) := by decide +kernel
theorem dX5_school_116 : decode cX5_school 116 = .ok (.iconst 0, 1) := by decide +kernel
theorem dX5_school_117 : decode cX5_school 117 = .ok (.iastore, 1) := by decide +kernel
theorem dX5_school_118 : decode cX5_school 118 = .ok (.iinc 1 1, 3) := by decide +kernel
theorem dX5_school_121 : decode cX5_school 121 = .ok (.goto (-75), 3) := by decide +kernel
theorem dX5_school_124 : decode cX5_school 124 = .ok (.aload_n 0, 1) := by decide +kernel
theorem dX5_school_125 : decode cX5_school 125 = .ok (.iconst 0, 1) := by decide +kernel
theorem dX5_school_126 : decode cX5_school 126 = .ok (.putfield 63, 3) := by decide +kernel
theorem dX5_school_129 : decode cX5_school 129 = .ok (.aload_n 0, 1) := by decide +kernel
theorem dX5_school_130 : decode cX5_school 130 = .ok (.iconst 0, 1) := by decide +kernel
theorem dX5_school_131 : decode cX5_school 131 = .ok (.putfield 66, 3) := by decide +kernel
theorem dX5_school_134 : decode cX5_school 134 = .ok (.aload_n 0, 1) := by decide +kernel
theorem dX5_school_135 : decode cX5_school 135 = .ok (.iconst 0, 1) := by decide +kernel
theorem dX5_school_136 : decode cX5_school 136 = .ok (.putfield 69, 3) := by decide +kernel
theorem dX5_school_139 : decode cX5_school 139 = .ok (.aload_n 0, 1) := by decide +kernel
theorem dX5_school_140 : decode cX5_school 140 = .ok (.dup, 1) := by decide +kernel
theorem dX5_school_141 : decode cX5_school 141 = .ok (.getfield 72, 3) := by decide +kernel
theorem dX5_school_144 : decode cX5_school 144 = .ok (.iconst 1, 1) := by decide +kernel
theorem dX5_school_145 : decode cX5_school 145 = .ok (.iadd, 1) := by decide +kernel
theorem dX5_school_146 : decode cX5_school 146 = .ok (.putfield 72, 3) := by decide +kernel
theorem dX5_school_149 : decode cX5_school 149 = .ok (.aload_n 0, 1) := by decide +kernel
theorem dX5_school_150 : decode cX5_school 150 = .ok (.iconst 0, 1) := by decide +kernel
theorem dX5_school_151 : decode cX5_school 151 = .ok (.putfield 41, 3) := by decide +kernel
theorem dX5_school_154 : decode cX5_school 154 = .ok (.aload_n 0, 1) := by decide +kernel
theorem dX5_school_155 : decode cX5_school 155 = .ok (.getfield 60, 3) := by decide +kernel
theorem dX5_school_158 : decode cX5_school 158 = .ok (.ireturn, 1) := by decide +kernel
theorem dX5_lacks_0 : decode cX5_lacks 0 = .ok (.aload_n 0, 1) := by decide +kernel
theorem dX5_lacks_1 : decode cX5_lacks 1 = .ok (.getfield 60, 3) := by decide +kernel
theorem dX5_lacks_4 : decode cX5_lacks 4 = .ok (.ifCond .ne 7, 3) := by decide +kernel
theorem dX5_lacks_7 : decode cX5_lacks 7 = .ok (.iconst 1, 1) := by decide +kernel
theorem dX5_lacks_8 : decode cX5_lacks 8 = .ok (.goto 4, 3) := by decide +kernel
theorem dX5_lacks_11 : decode cX5_lacks 11 = .ok (.iconst 0, 1) := by decide +kernel
theorem dX5_lacks_12 : decode cX5_lacks 12 = .ok (.ireturn, 1) := by decide +kernel
set_option maxRecDepth 20000 in
theorem ggX5_isChild_X5_in : GoodIn wsX5_isChild wsX5_in := goodIn_r _ [5] (by decide +kernel) (by decide +kernel)
set_option maxRecDepth 20000 in
theorem gX5_isChild_X5_in : GoodIn wsX5_isChild (va_wsS RX5 37 yX5_in wsX5_in) := goodIn_app (goodIn_of _ (by decide +kernel)) ggX5_isChild_X5_in
theorem dX5_isChild_0 : decode cX5_isChild 0 = .ok (.iload_n 1, 1) := by decide +kernel
theorem dX5_isChild_1 : decode cX5_isChild 1 = .ok (.i2l, 1) := by decide +kernel
theorem dX5_isChild_2 : decode cX5_isChild 2 = .ok (.lconst 0, 1) := by decide +kernel
theorem dX5_isChild_3 : decode cX5_isChild 3 = .ok (.aload_n 0, 1) := by decide +kernel
theorem dX5_isChild_4 : decode cX5_isChild 4 = .ok (.getfield 60, 3) := by decide +kernel
theorem dX5_isChild_7 : decode cX5_isChild 7 = .ok (.iconst 1, 1) := by decide +kernel
theorem dX5_isChild_8 : decode cX5_isChild 8 = .ok (.isub, 1) := by decide +kernel
theorem dX5_isChild_9 : decode cX5_isChild 9 = .ok (.i2l, 1) := by decide +kernel
theorem dX5_isChild_10 : decode cX5_isChild 10 = .ok (.invokestatic 37, 3) := by decide +kernel
theorem dX5_isChild_13 : decode cX5_isChild 13 = .ok (.ireturn, 1) := by decide +kernel
set_option maxRecDepth 20000 in
theorem ggX5_isRule_X5_in : GoodIn wsX5_isRule wsX5_in := goodIn_r _ [5] (by decide +kernel) (by decide +kernel)
set_option maxRecDepth 20000 in
theorem gX5_isRule_X5_in : GoodIn wsX5_isRule (va_wsS RX5 37 yX5_in wsX5_in) := goodIn_app (goodIn_of _ (by decide +kernel)) ggX5_isRule_X5_in
theorem dX5_isRule_0 : decode cX5_isRule 0 = .ok (.iload_n 0, 1) := by decide +kernel
theorem dX5_isRule_1 : decode cX5_isRule 1 = .ok (.i2l, 1) := by decide +kernel
theorem dX5_isRule_2 : decode cX5_isRule 2 = .ok (.lconst 0, 1) := by decide +kernel
theorem dX5_isRule_3 : decode cX5_isRule 3 = .ok (.ldc2_w 75, 3) := by decide +kernel
theorem dX5_isRule_6 : decode cX5_isRule 6 = .ok (.invokestatic 37, 3) := by decide +kernel
theorem dX5_isRule_9 : decode cX5_isRule 9 = .ok (.ireturn, 1) := by decide +kernel
theorem dX5_teachesBy_0 : decode cX5_teachesBy 0 = .ok (.iload_n 2, 1) := by decide +kernel
theorem dX5_teachesBy_1 : decode cX5_teachesBy 1 = .ok (.iload_n 1, 1) := by decide +kernel
theorem dX5_teachesBy_2 : decode cX5_teachesBy 2 = .ok (.iadd, 1) := by decide +kernel
theorem dX5_teachesBy_3 : decode cX5_teachesBy 3 = .ok (.istore_n 3, 1) := by decide +kernel
theorem dX5_teachesBy_4 : decode cX5_teachesBy 4 = .ok (.iload_n 0, 1) := by decide +kernel
theorem dX5_teachesBy_5 : decode cX5_teachesBy 5 = .ok (.iconst 1, 1) := by decide +kernel
theorem dX5_teachesBy_6 : decode cX5_teachesBy 6 = .ok (.if_icmp .ne 5, 3) := by decide +kernel
theorem dX5_teachesBy_9 : decode cX5_teachesBy 9 = .ok (.iload_n 2, 1) := by decide +kernel
theorem dX5_teachesBy_10 : decode cX5_teachesBy 10 = .ok (.istore_n 3, 1) := by decide +kernel
theorem dX5_teachesBy_11 : decode cX5_teachesBy 11 = .ok (.iload_n 0, 1) := by decide +kernel
theorem dX5_teachesBy_12 : decode cX5_teachesBy 12 = .ok (.iconst 2, 1) := by decide +kernel
theorem dX5_teachesBy_13 : decode cX5_teachesBy 13 = .ok (.if_icmp .ne 10, 3) := by decide +kernel
theorem dX5_teachesBy_16 : decode cX5_teachesBy 16 = .ok (.iload_n 1, 1) := by decide +kernel
theorem dX5_teachesBy_17 : decode cX5_teachesBy 17 = .ok (.iload_n 2, 1) := by decide +kernel
theorem dX5_teachesBy_18 : decode cX5_teachesBy 18 = .ok (.isub, 1) := by decide +kernel
theorem dX5_teachesBy_19 : decode cX5_teachesBy 19 = .ok (.bipush 12, 2) := by decide +kernel
theorem dX5_teachesBy_21 : decode cX5_teachesBy 21 = .ok (.iadd, 1) := by decide +kernel
theorem dX5_teachesBy_22 : decode cX5_teachesBy 22 = .ok (.istore_n 3, 1) := by decide +kernel
theorem dX5_teachesBy_23 : decode cX5_teachesBy 23 = .ok (.iload_n 0, 1) := by decide +kernel
theorem dX5_teachesBy_24 : decode cX5_teachesBy 24 = .ok (.iconst 3, 1) := by decide +kernel
theorem dX5_teachesBy_25 : decode cX5_teachesBy 25 = .ok (.if_icmp .ne 11, 3) := by decide +kernel
theorem dX5_teachesBy_28 : decode cX5_teachesBy 28 = .ok (.iload_n 2, 1) := by decide +kernel
theorem dX5_teachesBy_29 : decode cX5_teachesBy 29 = .ok (.iload_n 2, 1) := by decide +kernel
theorem dX5_teachesBy_30 : decode cX5_teachesBy 30 = .ok (.iconst 2, 1) := by decide +kernel
theorem dX5_teachesBy_31 : decode cX5_teachesBy 31 = .ok (.irem, 1) := by decide +kernel
theorem dX5_teachesBy_32 : decode cX5_teachesBy 32 = .ok (.isub, 1) := by decide +kernel
theorem dX5_teachesBy_33 : decode cX5_teachesBy 33 = .ok (.iload_n 1, 1) := by decide +kernel
theorem dX5_teachesBy_34 : decode cX5_teachesBy 34 = .ok (.iadd, 1) := by decide +kernel
theorem dX5_teachesBy_35 : decode cX5_teachesBy 35 = .ok (.istore_n 3, 1) := by decide +kernel
theorem dX5_teachesBy_36 : decode cX5_teachesBy 36 = .ok (.iload_n 0, 1) := by decide +kernel
theorem dX5_teachesBy_37 : decode cX5_teachesBy 37 = .ok (.iconst 4, 1) := by decide +kernel
theorem dX5_teachesBy_38 : decode cX5_teachesBy 38 = .ok (.if_icmp .ne 7, 3) := by decide +kernel
theorem dX5_teachesBy_41 : decode cX5_teachesBy 41 = .ok (.iconst 2, 1) := by decide +kernel
theorem dX5_teachesBy_42 : decode cX5_teachesBy 42 = .ok (.iload_n 2, 1) := by decide +kernel
theorem dX5_teachesBy_43 : decode cX5_teachesBy 43 = .ok (.imul, 1) := by decide +kernel
theorem dX5_teachesBy_44 : decode cX5_teachesBy 44 = .ok (.istore_n 3, 1) := by decide +kernel
theorem dX5_teachesBy_45 : decode cX5_teachesBy 45 = .ok (.iload_n 3, 1) := by decide +kernel
theorem dX5_teachesBy_46 : decode cX5_teachesBy 46 = .ok (.bipush 12, 2) := by decide +kernel
theorem dX5_teachesBy_48 : decode cX5_teachesBy 48 = .ok (.irem, 1) := by decide +kernel
theorem dX5_teachesBy_49 : decode cX5_teachesBy 49 = .ok (.ireturn, 1) := by decide +kernel
set_option maxRecDepth 20000 in
theorem ggX5_teachesOf_X5_teachesBy : GoodIn wsX5_teachesOf wsX5_teachesBy := goodIn_r _ [5] (by decide +kernel) (by decide +kernel)
set_option maxRecDepth 20000 in
theorem gX5_teachesOf_X5_teachesBy : GoodIn wsX5_teachesOf (va_wsS RX5 77 yX5_teachesBy wsX5_teachesBy) := goodIn_app (goodIn_of _ (by decide +kernel)) ggX5_teachesOf_X5_teachesBy
theorem dX5_teachesOf_0 : decode cX5_teachesOf 0 = .ok (.aload_n 0, 1) := by decide +kernel
theorem dX5_teachesOf_1 : decode cX5_teachesOf 1 = .ok (.getfield 13, 3) := by decide +kernel
theorem dX5_teachesOf_4 : decode cX5_teachesOf 4 = .ok (.iconst 4, 1) := by decide +kernel
theorem dX5_teachesOf_5 : decode cX5_teachesOf 5 = .ok (.iload_n 1, 1) := by decide +kernel
theorem dX5_teachesOf_6 : decode cX5_teachesOf 6 = .ok (.imul, 1) := by decide +kernel
theorem dX5_teachesOf_7 : decode cX5_teachesOf 7 = .ok (.iaload, 1) := by decide +kernel
theorem dX5_teachesOf_8 : decode cX5_teachesOf 8 = .ok (.aload_n 0, 1) := by decide +kernel
theorem dX5_teachesOf_9 : decode cX5_teachesOf 9 = .ok (.getfield 13, 3) := by decide +kernel
theorem dX5_teachesOf_12 : decode cX5_teachesOf 12 = .ok (.iconst 4, 1) := by decide +kernel
theorem dX5_teachesOf_13 : decode cX5_teachesOf 13 = .ok (.iload_n 1, 1) := by decide +kernel
theorem dX5_teachesOf_14 : decode cX5_teachesOf 14 = .ok (.imul, 1) := by decide +kernel
theorem dX5_teachesOf_15 : decode cX5_teachesOf 15 = .ok (.iconst 1, 1) := by decide +kernel
theorem dX5_teachesOf_16 : decode cX5_teachesOf 16 = .ok (.iadd, 1) := by decide +kernel
theorem dX5_teachesOf_17 : decode cX5_teachesOf 17 = .ok (.iaload, 1) := by decide +kernel
theorem dX5_teachesOf_18 : decode cX5_teachesOf 18 = .ok (.iload_n 2, 1) := by decide +kernel
theorem dX5_teachesOf_19 : decode cX5_teachesOf 19 = .ok (.invokestatic 77, 3) := by decide +kernel
theorem dX5_teachesOf_22 : decode cX5_teachesOf 22 = .ok (.ireturn, 1) := by decide +kernel
theorem dX5_isIll_0 : decode cX5_isIll 0 = .ok (.aload_n 0, 1) := by decide +kernel
theorem dX5_isIll_1 : decode cX5_isIll 1 = .ok (.getfield 13, 3) := by decide +kernel
theorem dX5_isIll_4 : decode cX5_isIll 4 = .ok (.iconst 4, 1) := by decide +kernel
theorem dX5_isIll_5 : decode cX5_isIll 5 = .ok (.iload_n 1, 1) := by decide +kernel
theorem dX5_isIll_6 : decode cX5_isIll 6 = .ok (.imul, 1) := by decide +kernel
theorem dX5_isIll_7 : decode cX5_isIll 7 = .ok (.iconst 3, 1) := by decide +kernel
theorem dX5_isIll_8 : decode cX5_isIll 8 = .ok (.iadd, 1) := by decide +kernel
theorem dX5_isIll_9 : decode cX5_isIll 9 = .ok (.iaload, 1) := by decide +kernel
theorem dX5_isIll_10 : decode cX5_isIll 10 = .ok (.iconst 1, 1) := by decide +kernel
theorem dX5_isIll_11 : decode cX5_isIll 11 = .ok (.if_icmp .ne 7, 3) := by decide +kernel
theorem dX5_isIll_14 : decode cX5_isIll 14 = .ok (.iconst 1, 1) := by decide +kernel
theorem dX5_isIll_15 : decode cX5_isIll 15 = .ok (.goto 4, 3) := by decide +kernel
theorem dX5_isIll_18 : decode cX5_isIll 18 = .ok (.iconst 0, 1) := by decide +kernel
theorem dX5_isIll_19 : decode cX5_isIll 19 = .ok (.ireturn, 1) := by decide +kernel
set_option maxRecDepth 20000 in
theorem ggX5_wouldTeach_X5_isIll : GoodIn wsX5_wouldTeach wsX5_isIll := goodIn_r _ [6, 1, 14, 15, 16, 17, 18, 19, 20, 21, 22, 23, 24, 25, 26, 27, 28, 29, 30, 31, 32, 33] (by decide +kernel) (by decide +kernel)
set_option maxRecDepth 20000 in
theorem gX5_wouldTeach_X5_isIll : GoodIn wsX5_wouldTeach (wsV RX5 81 RX5 yX5_isIll wsX5_isIll) := goodIn_app (goodIn_of _ (by decide +kernel)) ggX5_wouldTeach_X5_isIll
set_option maxRecDepth 20000 in
theorem ggX5_wouldTeach_X5_teachesOf : GoodIn wsX5_wouldTeach wsX5_teachesOf := goodIn_r _ [10, 1, 11, 12, 5, 13, 14, 15, 16, 17, 18, 19, 20, 21, 22, 23, 24, 25, 26, 27, 28, 29, 30, 31, 32, 33] (by decide +kernel) (by decide +kernel)
set_option maxRecDepth 20000 in
theorem gX5_wouldTeach_X5_teachesOf : GoodIn wsX5_wouldTeach (wsV RX5 85 RX5 yX5_teachesOf wsX5_teachesOf) := goodIn_app (goodIn_of _ (by decide +kernel)) ggX5_wouldTeach_X5_teachesOf
theorem dX5_wouldTeach_0 : decode cX5_wouldTeach 0 = .ok (.aload_n 0, 1) := by decide +kernel
theorem dX5_wouldTeach_1 : decode cX5_wouldTeach 1 = .ok (.iload_n 1, 1) := by decide +kernel
theorem dX5_wouldTeach_2 : decode cX5_wouldTeach 2 = .ok (.invokevirtual 81, 3) := by decide +kernel
theorem dX5_wouldTeach_5 : decode cX5_wouldTeach 5 = .ok (.ifCond .ne 21, 3) := by decide +kernel
theorem dX5_wouldTeach_8 : decode cX5_wouldTeach 8 = .ok (.aload_n 0, 1) := by decide +kernel
theorem dX5_wouldTeach_9 : decode cX5_wouldTeach 9 = .ok (.getfield 13, 3) := by decide +kernel
theorem dX5_wouldTeach_12 : decode cX5_wouldTeach 12 = .ok (.iconst 4, 1) := by decide +kernel
theorem dX5_wouldTeach_13 : decode cX5_wouldTeach 13 = .ok (.iload_n 1, 1) := by decide +kernel
theorem dX5_wouldTeach_14 : decode cX5_wouldTeach 14 = .ok (.imul, 1) := by decide +kernel
theorem dX5_wouldTeach_15 : decode cX5_wouldTeach 15 = .ok (.iconst 2, 1) := by decide +kernel
theorem dX5_wouldTeach_16 : decode cX5_wouldTeach 16 = .ok (.iadd, 1) := by decide +kernel
theorem dX5_wouldTeach_17 : decode cX5_wouldTeach 17 = .ok (.iaload, 1) := by decide +kernel
theorem dX5_wouldTeach_18 : decode cX5_wouldTeach 18 = .ok (.iconst (-1), 1) := by decide +kernel
theorem dX5_wouldTeach_19 : decode cX5_wouldTeach 19 = .ok (.if_icmp .eq 7, 3) := by decide +kernel
theorem dX5_wouldTeach_22 : decode cX5_wouldTeach 22 = .ok (.iconst 1, 1) := by decide +kernel
theorem dX5_wouldTeach_23 : decode cX5_wouldTeach 23 = .ok (.goto 4, 3) := by decide +kernel
theorem dX5_wouldTeach_26 : decode cX5_wouldTeach 26 = .ok (.iconst 0, 1) := by decide +kernel
theorem dX5_wouldTeach_27 : decode cX5_wouldTeach 27 = .ok (.istore_n 2, 1) := by decide +kernel
theorem dX5_wouldTeach_28 : decode cX5_wouldTeach 28 = .ok (.iload_n 2, 1) := by decide +kernel
theorem dX5_wouldTeach_29 : decode cX5_wouldTeach 29 = .ok (.ifCond .eq 21, 3) := by decide +kernel
theorem dX5_wouldTeach_32 : decode cX5_wouldTeach 32 = .ok (.aload_n 0, 1) := by decide +kernel
theorem dX5_wouldTeach_33 : decode cX5_wouldTeach 33 = .ok (.iload_n 1, 1) := by decide +kernel
theorem dX5_wouldTeach_34 : decode cX5_wouldTeach 34 = .ok (.aload_n 0, 1) := by decide +kernel
theorem dX5_wouldTeach_35 : decode cX5_wouldTeach 35 = .ok (.getfield 13, 3) := by decide +kernel
theorem dX5_wouldTeach_38 : decode cX5_wouldTeach 38 = .ok (.iconst 4, 1) := by decide +kernel
theorem dX5_wouldTeach_39 : decode cX5_wouldTeach 39 = .ok (.iload_n 1, 1) := by decide +kernel
theorem dX5_wouldTeach_40 : decode cX5_wouldTeach 40 = .ok (.imul, 1) := by decide +kernel
theorem dX5_wouldTeach_41 : decode cX5_wouldTeach 41 = .ok (.iconst 2, 1) := by decide +kernel
theorem dX5_wouldTeach_42 : decode cX5_wouldTeach 42 = .ok (.iadd, 1) := by decide +kernel
theorem dX5_wouldTeach_43 : decode cX5_wouldTeach 43 = .ok (.iaload, 1) := by decide +kernel
theorem dX5_wouldTeach_44 : decode cX5_wouldTeach 44 = .ok (.invokevirtual 85, 3) := by decide +kernel
theorem dX5_wouldTeach_47 : decode cX5_wouldTeach 47 = .ok (.goto 4, 3) := by decide +kernel
theorem dX5_wouldTeach_50 : decode cX5_wouldTeach 50 = .ok (.iconst (-1), 1) := by decide +kernel
theorem dX5_wouldTeach_51 : decode cX5_wouldTeach 51 = .ok (.ireturn, 1) := by decide +kernel
set_option maxRecDepth 20000 in
theorem ggX5_tellChild_X5_wouldTeach : GoodIn wsX5_tellChild wsX5_wouldTeach := goodIn_r _ [6, 1, 7, 8, 9, 5, 10, 11, 12, 13, 14, 15, 16, 17, 29, 30, 31, 32, 33, 34, 35, 36, 37, 38, 39, 40, 41, 42, 43, 44, 45, 46, 47, 48] (by decide +kernel) (by decide +kernel)
set_option maxRecDepth 20000 in
theorem gX5_tellChild_X5_wouldTeach : GoodIn wsX5_tellChild (wsV RX5 89 RX5 yX5_wouldTeach wsX5_wouldTeach) := goodIn_app (goodIn_of _ (by decide +kernel)) ggX5_tellChild_X5_wouldTeach
set_option maxRecDepth 20000 in
theorem ggX5_tellChild_X5_slipsOf : GoodIn wsX5_tellChild wsX5_slipsOf := goodIn_r _ [21, 22, 1, 23, 15, 16, 5, 17, 29, 30, 31, 32, 33, 34, 35, 36, 37, 38, 39, 40, 41, 42, 43, 44, 45, 46, 47, 48] (by decide +kernel) (by decide +kernel)
set_option maxRecDepth 20000 in
theorem gX5_tellChild_X5_slipsOf : GoodIn wsX5_tellChild (wsV RX5 92 RX5 yX5_slipsOf wsX5_slipsOf) := goodIn_app (goodIn_of _ (by decide +kernel)) ggX5_tellChild_X5_slipsOf
set_option maxRecDepth 20000 in
theorem ggX5_tellChild_X5_askOf : GoodIn wsX5_tellChild wsX5_askOf := goodIn_r _ [27, 28, 1, 18, 19, 20, 5, 21, 22, 23, 15, 16, 17, 29, 30, 31, 32, 33, 34, 35, 36, 37, 38, 39, 40, 41, 42, 43, 44, 45, 46, 47, 48] (by decide +kernel) (by decide +kernel)
set_option maxRecDepth 20000 in
theorem gX5_tellChild_X5_askOf : GoodIn wsX5_tellChild (wsV RX5 95 RX5 yX5_askOf wsX5_askOf) := goodIn_app (goodIn_of _ (by decide +kernel)) ggX5_tellChild_X5_askOf
theorem dX5_tellChild_0 : decode cX5_tellChild 0 = .ok (.iload_n 2, 1) := by decide +kernel
theorem dX5_tellChild_1 : decode cX5_tellChild 1 = .ok (.tableswitch 72 0 6 #[43, 43, 43, 43, 54, 60, 66], 43) := by decide +kernel
theorem dX5_tellChild_44 : decode cX5_tellChild 44 = .ok (.aload_n 0, 1) := by decide +kernel
theorem dX5_tellChild_45 : decode cX5_tellChild 45 = .ok (.getfield 13, 3) := by decide +kernel
theorem dX5_tellChild_48 : decode cX5_tellChild 48 = .ok (.iconst 4, 1) := by decide +kernel
theorem dX5_tellChild_49 : decode cX5_tellChild 49 = .ok (.iload_n 1, 1) := by decide +kernel
theorem dX5_tellChild_50 : decode cX5_tellChild 50 = .ok (.imul, 1) := by decide +kernel
theorem dX5_tellChild_51 : decode cX5_tellChild 51 = .ok (.iload_n 2, 1) := by decide +kernel
theorem dX5_tellChild_52 : decode cX5_tellChild 52 = .ok (.iadd, 1) := by decide +kernel
theorem dX5_tellChild_53 : decode cX5_tellChild 53 = .ok (.iaload, 1) := by decide +kernel
theorem dX5_tellChild_54 : decode cX5_tellChild 54 = .ok (.ireturn, 1) := by decide +kernel
theorem dX5_tellChild_55 : decode cX5_tellChild 55 = .ok (.aload_n 0, 1) := by decide +kernel
theorem dX5_tellChild_56 : decode cX5_tellChild 56 = .ok (.iload_n 1, 1) := by decide +kernel
theorem dX5_tellChild_57 : decode cX5_tellChild 57 = .ok (.invokevirtual 89, 3) := by decide +kernel
theorem dX5_tellChild_60 : decode cX5_tellChild 60 = .ok (.ireturn, 1) := by decide +kernel
theorem dX5_tellChild_61 : decode cX5_tellChild 61 = .ok (.aload_n 0, 1) := by decide +kernel
theorem dX5_tellChild_62 : decode cX5_tellChild 62 = .ok (.iload_n 1, 1) := by decide +kernel
theorem dX5_tellChild_63 : decode cX5_tellChild 63 = .ok (.invokevirtual 92, 3) := by decide +kernel
theorem dX5_tellChild_66 : decode cX5_tellChild 66 = .ok (.ireturn, 1) := by decide +kernel
theorem dX5_tellChild_67 : decode cX5_tellChild 67 = .ok (.aload_n 0, 1) := by decide +kernel
theorem dX5_tellChild_68 : decode cX5_tellChild 68 = .ok (.iload_n 1, 1) := by decide +kernel
theorem dX5_tellChild_69 : decode cX5_tellChild 69 = .ok (.invokevirtual 95, 3) := by decide +kernel
theorem dX5_tellChild_72 : decode cX5_tellChild 72 = .ok (.ireturn, 1) := by decide +kernel
theorem dX5_tellChild_73 : decode cX5_tellChild 73 = .ok (.bipush (-102), 2) := by decide +kernel
theorem dX5_tellChild_75 : decode cX5_tellChild 75 = .ok (.ireturn, 1) := by decide +kernel
set_option maxRecDepth 20000 in
theorem ggX5_child_X5_isChild : GoodIn wsX5_child wsX5_isChild := goodIn_r _ [5, 6, 7, 8, 4, 9, 41, 42, 43, 44, 45, 46, 47, 48, 49, 50, 51, 52, 53, 54, 55, 56, 57, 58, 59, 60] (by decide +kernel) (by decide +kernel)
set_option maxRecDepth 20000 in
theorem gX5_child_X5_isChild : GoodIn wsX5_child (wsV RX5 98 RX5 yX5_isChild wsX5_isChild) := goodIn_app (goodIn_of _ (by decide +kernel)) ggX5_child_X5_isChild
set_option maxRecDepth 20000 in
theorem ggX5_child_X5_tellChild : GoodIn wsX5_child wsX5_tellChild := goodIn_r _ [13, 14, 15, 16, 17, 4, 18, 19, 20, 21, 22, 23, 24, 25, 26, 27, 28, 29, 30, 31, 32, 33, 34, 35, 36, 37, 38, 39, 40, 41, 42, 43, 44, 45, 46, 47, 48, 49, 50, 51, 52, 53, 54, 55, 56, 57, 58, 59, 60] (by decide +kernel) (by decide +kernel)
set_option maxRecDepth 20000 in
theorem gX5_child_X5_tellChild : GoodIn wsX5_child (wsV RX5 101 RX5 yX5_tellChild wsX5_tellChild) := goodIn_app (goodIn_of _ (by decide +kernel)) ggX5_child_X5_tellChild
theorem dX5_child_0 : decode cX5_child 0 = .ok (.aload_n 0, 1) := by decide +kernel
theorem dX5_child_1 : decode cX5_child 1 = .ok (.iload_n 1, 1) := by decide +kernel
theorem dX5_child_2 : decode cX5_child 2 = .ok (.invokevirtual 98, 3) := by decide +kernel
theorem dX5_child_5 : decode cX5_child 5 = .ok (.ifCond .eq 12, 3) := by decide +kernel
theorem dX5_child_8 : decode cX5_child 8 = .ok (.aload_n 0, 1) := by decide +kernel
theorem dX5_child_9 : decode cX5_child 9 = .ok (.iload_n 1, 1) := by decide +kernel
theorem dX5_child_10 : decode cX5_child 10 = .ok (.iload_n 2, 1) := by decide +kernel
theorem dX5_child_11 : decode cX5_child 11 = .ok (.invokevirtual 101, 3) := by decide +kernel
theorem dX5_child_14 : decode cX5_child 14 = .ok (.goto 5, 3) := by decide +kernel
theorem dX5_child_17 : decode cX5_child 17 = .ok (.bipush (-101), 2) := by decide +kernel
theorem dX5_child_19 : decode cX5_child 19 = .ok (.ireturn, 1) := by decide +kernel
set_option maxRecDepth 20000 in
theorem ggX5_as_X5_isChild : GoodIn wsX5_as wsX5_isChild := goodIn_r _ [7, 8, 9, 10, 6, 11, 12, 13, 14, 15, 16, 17, 18, 19, 20, 21, 22, 23, 24, 25, 26, 27, 28, 29, 30, 31] (by decide +kernel) (by decide +kernel)
set_option maxRecDepth 20000 in
theorem gX5_as_X5_isChild : GoodIn wsX5_as (wsV RX5 98 RX5 yX5_isChild wsX5_isChild) := goodIn_app (goodIn_of _ (by decide +kernel)) ggX5_as_X5_isChild
set_option maxRecDepth 20000 in
theorem ggX5_as_X5_in : GoodIn wsX5_as wsX5_in := goodIn_r _ [11] (by decide +kernel) (by decide +kernel)
set_option maxRecDepth 20000 in
theorem gX5_as_X5_in : GoodIn wsX5_as (va_wsS RX5 37 yX5_in wsX5_in) := goodIn_app (goodIn_of _ (by decide +kernel)) ggX5_as_X5_in
theorem dX5_as_0 : decode cX5_as 0 = .ok (.aload_n 0, 1) := by decide +kernel
theorem dX5_as_1 : decode cX5_as 1 = .ok (.iload_n 1, 1) := by decide +kernel
theorem dX5_as_2 : decode cX5_as 2 = .ok (.invokevirtual 98, 3) := by decide +kernel
theorem dX5_as_5 : decode cX5_as 5 = .ok (.ifCond .ne 6, 3) := by decide +kernel
theorem dX5_as_8 : decode cX5_as 8 = .ok (.bipush (-101), 2) := by decide +kernel
theorem dX5_as_10 : decode cX5_as 10 = .ok (.ireturn, 1) := by decide +kernel
theorem dX5_as_11 : decode cX5_as 11 = .ok (.iload_n 2, 1) := by decide +kernel
theorem dX5_as_12 : decode cX5_as 12 = .ok (.i2l, 1) := by decide +kernel
theorem dX5_as_13 : decode cX5_as 13 = .ok (.lconst 0, 1) := by decide +kernel
theorem dX5_as_14 : decode cX5_as 14 = .ok (.ldc2_w 104, 3) := by decide +kernel
theorem dX5_as_17 : decode cX5_as 17 = .ok (.invokestatic 37, 3) := by decide +kernel
theorem dX5_as_20 : decode cX5_as 20 = .ok (.ifCond .ne 6, 3) := by decide +kernel
theorem dX5_as_23 : decode cX5_as 23 = .ok (.bipush (-102), 2) := by decide +kernel
theorem dX5_as_25 : decode cX5_as 25 = .ok (.ireturn, 1) := by decide +kernel
theorem dX5_as_26 : decode cX5_as 26 = .ok (.aload_n 0, 1) := by decide +kernel
theorem dX5_as_27 : decode cX5_as 27 = .ok (.getfield 13, 3) := by decide +kernel
theorem dX5_as_30 : decode cX5_as 30 = .ok (.iconst 4, 1) := by decide +kernel
theorem dX5_as_31 : decode cX5_as 31 = .ok (.iload_n 1, 1) := by decide +kernel
theorem dX5_as_32 : decode cX5_as 32 = .ok (.imul, 1) := by decide +kernel
theorem dX5_as_33 : decode cX5_as 33 = .ok (.iaload, 1) := by decide +kernel
theorem dX5_as_34 : decode cX5_as 34 = .ok (.istore_n 3, 1) := by decide +kernel
theorem dX5_as_35 : decode cX5_as 35 = .ok (.iload_n 2, 1) := by decide +kernel
theorem dX5_as_36 : decode cX5_as 36 = .ok (.ifCond .eq 18, 3) := by decide +kernel
theorem dX5_as_39 : decode cX5_as 39 = .ok (.iload_n 2, 1) := by decide +kernel
theorem dX5_as_40 : decode cX5_as 40 = .ok (.iload_n 3, 1) := by decide +kernel
theorem dX5_as_41 : decode cX5_as 41 = .ok (.if_icmp .eq 13, 3) := by decide +kernel
theorem dX5_as_44 : decode cX5_as 44 = .ok (.iload_n 2, 1) := by decide +kernel
theorem dX5_as_45 : decode cX5_as 45 = .ok (.iconst 1, 1) := by decide +kernel
theorem dX5_as_46 : decode cX5_as 46 = .ok (.if_icmp .ne 12, 3) := by decide +kernel
theorem dX5_as_49 : decode cX5_as 49 = .ok (.iload_n 3, 1) := by decide +kernel
theorem dX5_as_50 : decode cX5_as 50 = .ok (.iconst 4, 1) := by decide +kernel
theorem dX5_as_51 : decode cX5_as 51 = .ok (.if_icmp .ne 7, 3) := by decide +kernel
theorem dX5_as_54 : decode cX5_as 54 = .ok (.iconst 1, 1) := by decide +kernel
theorem dX5_as_55 : decode cX5_as 55 = .ok (.goto 4, 3) := by decide +kernel
theorem dX5_as_58 : decode cX5_as 58 = .ok (.iconst 0, 1) := by decide +kernel
theorem dX5_as_59 : decode cX5_as 59 = .ok (.istore 4, 2) := by decide +kernel
theorem dX5_as_61 : decode cX5_as 61 = .ok (.iload 4, 2) := by decide +kernel
theorem dX5_as_63 : decode cX5_as 63 = .ok (.ifCond .eq 7, 3) := by decide +kernel
theorem dX5_as_66 : decode cX5_as 66 = .ok (.iload_n 1, 1) := by decide +kernel
theorem dX5_as_67 : decode cX5_as 67 = .ok (.goto 4, 3) := by decide +kernel
theorem dX5_as_70 : decode cX5_as 70 = .ok (.iconst (-1), 1) := by decide +kernel
theorem dX5_as_71 : decode cX5_as 71 = .ok (.ireturn, 1) := by decide +kernel
set_option maxRecDepth 20000 in
theorem ggX5_teaches_X5_isChild : GoodIn wsX5_teaches wsX5_isChild := goodIn_r _ [5, 6, 7, 8, 4, 9, 22, 23, 24, 25, 26, 27, 28, 29, 30, 31, 32, 33, 34, 35, 36, 37, 38, 39, 40, 41] (by decide +kernel) (by decide +kernel)
set_option maxRecDepth 20000 in
theorem gX5_teaches_X5_isChild : GoodIn wsX5_teaches (wsV RX5 98 RX5 yX5_isChild wsX5_isChild) := goodIn_app (goodIn_of _ (by decide +kernel)) ggX5_teaches_X5_isChild
set_option maxRecDepth 20000 in
theorem ggX5_teaches_X5_isRule : GoodIn wsX5_teaches wsX5_isRule := goodIn_r _ [12, 13, 7, 8, 4, 9] (by decide +kernel) (by decide +kernel)
set_option maxRecDepth 20000 in
theorem gX5_teaches_X5_isRule : GoodIn wsX5_teaches (va_wsS RX5 106 yX5_isRule wsX5_isRule) := goodIn_app (goodIn_of _ (by decide +kernel)) ggX5_teaches_X5_isRule
set_option maxRecDepth 20000 in
theorem ggX5_teaches_X5_teachesOf : GoodIn wsX5_teaches wsX5_teachesOf := goodIn_r _ [17, 18, 19, 20, 4, 21, 22, 23, 24, 25, 26, 27, 28, 29, 30, 31, 32, 33, 34, 35, 36, 37, 38, 39, 40, 41] (by decide +kernel) (by decide +kernel)
set_option maxRecDepth 20000 in
theorem gX5_teaches_X5_teachesOf : GoodIn wsX5_teaches (wsV RX5 85 RX5 yX5_teachesOf wsX5_teachesOf) := goodIn_app (goodIn_of _ (by decide +kernel)) ggX5_teaches_X5_teachesOf
theorem dX5_teaches_0 : decode cX5_teaches 0 = .ok (.aload_n 0, 1) := by decide +kernel
theorem dX5_teaches_1 : decode cX5_teaches 1 = .ok (.iload_n 1, 1) := by decide +kernel
theorem dX5_teaches_2 : decode cX5_teaches 2 = .ok (.invokevirtual 98, 3) := by decide +kernel
theorem dX5_teaches_5 : decode cX5_teaches 5 = .ok (.ifCond .ne 6, 3) := by decide +kernel
theorem dX5_teaches_8 : decode cX5_teaches 8 = .ok (.bipush (-101), 2) := by decide +kernel
theorem dX5_teaches_10 : decode cX5_teaches 10 = .ok (.ireturn, 1) := by decide +kernel
theorem dX5_teaches_11 : decode cX5_teaches 11 = .ok (.iload_n 2, 1) := by decide +kernel
theorem dX5_teaches_12 : decode cX5_teaches 12 = .ok (.invokestatic 106, 3) := by decide +kernel
theorem dX5_teaches_15 : decode cX5_teaches 15 = .ok (.ifCond .eq 12, 3) := by decide +kernel
theorem dX5_teaches_18 : decode cX5_teaches 18 = .ok (.aload_n 0, 1) := by decide +kernel
theorem dX5_teaches_19 : decode cX5_teaches 19 = .ok (.iload_n 1, 1) := by decide +kernel
theorem dX5_teaches_20 : decode cX5_teaches 20 = .ok (.iload_n 2, 1) := by decide +kernel
theorem dX5_teaches_21 : decode cX5_teaches 21 = .ok (.invokevirtual 85, 3) := by decide +kernel
theorem dX5_teaches_24 : decode cX5_teaches 24 = .ok (.goto 5, 3) := by decide +kernel
theorem dX5_teaches_27 : decode cX5_teaches 27 = .ok (.bipush (-102), 2) := by decide +kernel
theorem dX5_teaches_29 : decode cX5_teaches 29 = .ok (.ireturn, 1) := by decide +kernel
set_option maxRecDepth 20000 in
theorem ggX5_tell_X5_isChild : GoodIn wsX5_tell wsX5_isChild := goodIn_r _ [6, 7, 8, 9, 5, 10, 15, 16, 17, 18, 19, 20, 21, 22, 23, 24, 25, 26, 27, 28, 29, 30, 31, 32, 33, 34] (by decide +kernel) (by decide +kernel)
set_option maxRecDepth 20000 in
theorem gX5_tell_X5_isChild : GoodIn wsX5_tell (wsV RX5 98 RX5 yX5_isChild wsX5_isChild) := goodIn_app (goodIn_of _ (by decide +kernel)) ggX5_tell_X5_isChild
set_option maxRecDepth 20000 in
theorem ggX5_tell_X5_isRule : GoodIn wsX5_tell wsX5_isRule := goodIn_r _ [13, 14, 8, 9, 5, 10] (by decide +kernel) (by decide +kernel)
set_option maxRecDepth 20000 in
theorem gX5_tell_X5_isRule : GoodIn wsX5_tell (va_wsS RX5 106 yX5_isRule wsX5_isRule) := goodIn_app (goodIn_of _ (by decide +kernel)) ggX5_tell_X5_isRule
theorem dX5_tell_0 : decode cX5_tell 0 = .ok (.aload_n 0, 1) := by decide +kernel
theorem dX5_tell_1 : decode cX5_tell 1 = .ok (.iload_n 1, 1) := by decide +kernel
theorem dX5_tell_2 : decode cX5_tell 2 = .ok (.invokevirtual 98, 3) := by decide +kernel
theorem dX5_tell_5 : decode cX5_tell 5 = .ok (.ifCond .ne 6, 3) := by decide +kernel
theorem dX5_tell_8 : decode cX5_tell 8 = .ok (.bipush (-101), 2) := by decide +kernel
theorem dX5_tell_10 : decode cX5_tell 10 = .ok (.ireturn, 1) := by decide +kernel
theorem dX5_tell_11 : decode cX5_tell 11 = .ok (.iload_n 2, 1) := by decide +kernel
theorem dX5_tell_12 : decode cX5_tell 12 = .ok (.invokestatic 106, 3) := by decide +kernel
theorem dX5_tell_15 : decode cX5_tell 15 = .ok (.ifCond .ne 6, 3) := by decide +kernel
theorem dX5_tell_18 : decode cX5_tell 18 = .ok (.bipush (-102), 2) := by decide +kernel
theorem dX5_tell_20 : decode cX5_tell 20 = .ok (.ireturn, 1) := by decide +kernel
theorem dX5_tell_21 : decode cX5_tell 21 = .ok (.aload_n 0, 1) := by decide +kernel
theorem dX5_tell_22 : decode cX5_tell 22 = .ok (.getfield 13, 3) := by decide +kernel
theorem dX5_tell_25 : decode cX5_tell 25 = .ok (.iconst 4, 1) := by decide +kernel
theorem dX5_tell_26 : decode cX5_tell 26 = .ok (.iload_n 1, 1) := by decide +kernel
theorem dX5_tell_27 : decode cX5_tell 27 = .ok (.imul, 1) := by decide +kernel
theorem dX5_tell_28 : decode cX5_tell 28 = .ok (.iconst 2, 1) := by decide +kernel
theorem dX5_tell_29 : decode cX5_tell 29 = .ok (.iadd, 1) := by decide +kernel
theorem dX5_tell_30 : decode cX5_tell 30 = .ok (.iaload, 1) := by decide +kernel
theorem dX5_tell_31 : decode cX5_tell 31 = .ok (.istore_n 3, 1) := by decide +kernel
theorem dX5_tell_32 : decode cX5_tell 32 = .ok (.aload_n 0, 1) := by decide +kernel
theorem dX5_tell_33 : decode cX5_tell 33 = .ok (.getfield 13, 3) := by decide +kernel
theorem dX5_tell_36 : decode cX5_tell 36 = .ok (.iconst 4, 1) := by decide +kernel
theorem dX5_tell_37 : decode cX5_tell 37 = .ok (.iload_n 1, 1) := by decide +kernel
theorem dX5_tell_38 : decode cX5_tell 38 = .ok (.imul, 1) := by decide +kernel
theorem dX5_tell_39 : decode cX5_tell 39 = .ok (.iconst 2, 1) := by decide +kernel
theorem dX5_tell_40 : decode cX5_tell 40 = .ok (.iadd, 1) := by decide +kernel
theorem dX5_tell_41 : decode cX5_tell 41 = .ok (.iload_n 2, 1) := by decide +kernel
theorem dX5_tell_42 : decode cX5_tell 42 = .ok (.iastore, 1) := by decide +kernel
theorem dX5_tell_43 : decode cX5_tell 43 = .ok (.iload_n 3, 1) := by decide +kernel
theorem dX5_tell_44 : decode cX5_tell 44 = .ok (.ireturn, 1) := by decide +kernel
set_option maxRecDepth 20000 in
theorem ggX5_ill_X5_isChild : GoodIn wsX5_ill wsX5_isChild := goodIn_r _ [6, 7, 8, 9, 5, 10, 11, 12, 13, 14, 15, 16, 17, 18, 19, 20, 21, 22, 23, 24, 25, 26, 27, 28, 29, 30] (by decide +kernel) (by decide +kernel)
set_option maxRecDepth 20000 in
theorem gX5_ill_X5_isChild : GoodIn wsX5_ill (wsV RX5 98 RX5 yX5_isChild wsX5_isChild) := goodIn_app (goodIn_of _ (by decide +kernel)) ggX5_ill_X5_isChild
theorem dX5_ill_0 : decode cX5_ill 0 = .ok (.aload_n 0, 1) := by decide +kernel
theorem dX5_ill_1 : decode cX5_ill 1 = .ok (.iload_n 1, 1) := by decide +kernel
theorem dX5_ill_2 : decode cX5_ill 2 = .ok (.invokevirtual 98, 3) := by decide +kernel
theorem dX5_ill_5 : decode cX5_ill 5 = .ok (.ifCond .ne 6, 3) := by decide +kernel
theorem dX5_ill_8 : decode cX5_ill 8 = .ok (.bipush (-101), 2) := by decide +kernel
theorem dX5_ill_10 : decode cX5_ill 10 = .ok (.ireturn, 1) := by decide +kernel
theorem dX5_ill_11 : decode cX5_ill 11 = .ok (.aload_n 0, 1) := by decide +kernel
theorem dX5_ill_12 : decode cX5_ill 12 = .ok (.getfield 13, 3) := by decide +kernel
theorem dX5_ill_15 : decode cX5_ill 15 = .ok (.iconst 4, 1) := by decide +kernel
theorem dX5_ill_16 : decode cX5_ill 16 = .ok (.iload_n 1, 1) := by decide +kernel
theorem dX5_ill_17 : decode cX5_ill 17 = .ok (.imul, 1) := by decide +kernel
theorem dX5_ill_18 : decode cX5_ill 18 = .ok (.iconst 3, 1) := by decide +kernel
theorem dX5_ill_19 : decode cX5_ill 19 = .ok (.iadd, 1) := by decide +kernel
theorem dX5_ill_20 : decode cX5_ill 20 = .ok (.iaload, 1) := by decide +kernel
theorem dX5_ill_21 : decode cX5_ill 21 = .ok (.istore_n 3, 1) := by decide +kernel
theorem dX5_ill_22 : decode cX5_ill 22 = .ok (.aload_n 0, 1) := by decide +kernel
theorem dX5_ill_23 : decode cX5_ill 23 = .ok (.getfield 13, 3) := by decide +kernel
theorem dX5_ill_26 : decode cX5_ill 26 = .ok (.iconst 4, 1) := by decide +kernel
theorem dX5_ill_27 : decode cX5_ill 27 = .ok (.iload_n 1, 1) := by decide +kernel
theorem dX5_ill_28 : decode cX5_ill 28 = .ok (.imul, 1) := by decide +kernel
theorem dX5_ill_29 : decode cX5_ill 29 = .ok (.iconst 3, 1) := by decide +kernel
theorem dX5_ill_30 : decode cX5_ill 30 = .ok (.iadd, 1) := by decide +kernel
theorem dX5_ill_31 : decode cX5_ill 31 = .ok (.iload_n 2, 1) := by decide +kernel
theorem dX5_ill_32 : decode cX5_ill 32 = .ok (.ifCond .eq 7, 3) := by decide +kernel
theorem dX5_ill_35 : decode cX5_ill 35 = .ok (.iconst 1, 1) := by decide +kernel
theorem dX5_ill_36 : decode cX5_ill 36 = .ok (.goto 4, 3) := by decide +kernel
theorem dX5_ill_39 : decode cX5_ill 39 = .ok (.iconst 0, 1) := by decide +kernel
theorem dX5_ill_40 : decode cX5_ill 40 = .ok (.iastore, 1) := by decide +kernel
theorem dX5_ill_41 : decode cX5_ill 41 = .ok (.iload_n 3, 1) := by decide +kernel
theorem dX5_ill_42 : decode cX5_ill 42 = .ok (.ireturn, 1) := by decide +kernel
set_option maxRecDepth 20000 in
theorem ggX5_slip_X5_isChild : GoodIn wsX5_slip wsX5_isChild := goodIn_r _ [7, 8, 9, 10, 6, 11, 12, 13, 14, 15, 16, 17, 18, 19, 20, 21, 22, 23, 24, 25, 26, 27, 28, 29, 30, 31] (by decide +kernel) (by decide +kernel)
set_option maxRecDepth 20000 in
theorem gX5_slip_X5_isChild : GoodIn wsX5_slip (wsV RX5 98 RX5 yX5_isChild wsX5_isChild) := goodIn_app (goodIn_of _ (by decide +kernel)) ggX5_slip_X5_isChild
set_option maxRecDepth 20000 in
theorem ggX5_slip_X5_in : GoodIn wsX5_slip wsX5_in := goodIn_r _ [11] (by decide +kernel) (by decide +kernel)
set_option maxRecDepth 20000 in
theorem gX5_slip_X5_in : GoodIn wsX5_slip (va_wsS RX5 37 yX5_in wsX5_in) := goodIn_app (goodIn_of _ (by decide +kernel)) ggX5_slip_X5_in
theorem dX5_slip_0 : decode cX5_slip 0 = .ok (.aload_n 0, 1) := by decide +kernel
theorem dX5_slip_1 : decode cX5_slip 1 = .ok (.iload_n 1, 1) := by decide +kernel
theorem dX5_slip_2 : decode cX5_slip 2 = .ok (.invokevirtual 98, 3) := by decide +kernel
theorem dX5_slip_5 : decode cX5_slip 5 = .ok (.ifCond .ne 6, 3) := by decide +kernel
theorem dX5_slip_8 : decode cX5_slip 8 = .ok (.bipush (-101), 2) := by decide +kernel
theorem dX5_slip_10 : decode cX5_slip 10 = .ok (.ireturn, 1) := by decide +kernel
theorem dX5_slip_11 : decode cX5_slip 11 = .ok (.iload_n 2, 1) := by decide +kernel
theorem dX5_slip_12 : decode cX5_slip 12 = .ok (.i2l, 1) := by decide +kernel
theorem dX5_slip_13 : decode cX5_slip 13 = .ok (.lconst 0, 1) := by decide +kernel
theorem dX5_slip_14 : decode cX5_slip 14 = .ok (.ldc2_w 109, 3) := by decide +kernel
theorem dX5_slip_17 : decode cX5_slip 17 = .ok (.invokestatic 37, 3) := by decide +kernel
theorem dX5_slip_20 : decode cX5_slip 20 = .ok (.ifCond .ne 6, 3) := by decide +kernel
theorem dX5_slip_23 : decode cX5_slip 23 = .ok (.bipush (-102), 2) := by decide +kernel
theorem dX5_slip_25 : decode cX5_slip 25 = .ok (.ireturn, 1) := by decide +kernel
theorem dX5_slip_26 : decode cX5_slip 26 = .ok (.aload_n 0, 1) := by decide +kernel
theorem dX5_slip_27 : decode cX5_slip 27 = .ok (.getfield 13, 3) := by decide +kernel
theorem dX5_slip_30 : decode cX5_slip 30 = .ok (.iconst 4, 1) := by decide +kernel
theorem dX5_slip_31 : decode cX5_slip 31 = .ok (.iload_n 1, 1) := by decide +kernel
theorem dX5_slip_32 : decode cX5_slip 32 = .ok (.imul, 1) := by decide +kernel
theorem dX5_slip_33 : decode cX5_slip 33 = .ok (.iconst 1, 1) := by decide +kernel
theorem dX5_slip_34 : decode cX5_slip 34 = .ok (.iadd, 1) := by decide +kernel
theorem dX5_slip_35 : decode cX5_slip 35 = .ok (.iaload, 1) := by decide +kernel
theorem dX5_slip_36 : decode cX5_slip 36 = .ok (.istore_n 3, 1) := by decide +kernel
theorem dX5_slip_37 : decode cX5_slip 37 = .ok (.aload_n 0, 1) := by decide +kernel
theorem dX5_slip_38 : decode cX5_slip 38 = .ok (.getfield 13, 3) := by decide +kernel
theorem dX5_slip_41 : decode cX5_slip 41 = .ok (.iconst 4, 1) := by decide +kernel
theorem dX5_slip_42 : decode cX5_slip 42 = .ok (.iload_n 1, 1) := by decide +kernel
theorem dX5_slip_43 : decode cX5_slip 43 = .ok (.imul, 1) := by decide +kernel
theorem dX5_slip_44 : decode cX5_slip 44 = .ok (.iconst 1, 1) := by decide +kernel
theorem dX5_slip_45 : decode cX5_slip 45 = .ok (.iadd, 1) := by decide +kernel
theorem dX5_slip_46 : decode cX5_slip 46 = .ok (.iload_n 2, 1) := by decide +kernel
theorem dX5_slip_47 : decode cX5_slip 47 = .ok (.iastore, 1) := by decide +kernel
theorem dX5_slip_48 : decode cX5_slip 48 = .ok (.iload_n 3, 1) := by decide +kernel
theorem dX5_slip_49 : decode cX5_slip 49 = .ok (.ireturn, 1) := by decide +kernel
set_option maxRecDepth 20000 in
theorem ggX5_goesUp_X5_wouldTeach : GoodIn wsX5_goesUp wsX5_wouldTeach := goodIn_r _ [8, 3, 9, 10, 11, 7, 12, 13, 14, 15, 16, 17, 18, 19, 20, 21, 22, 23, 24, 25, 26, 27, 28, 29, 30, 31, 32, 33, 34, 35, 36, 37, 38, 39] (by decide +kernel) (by decide +kernel)
set_option maxRecDepth 20000 in
theorem gX5_goesUp_X5_wouldTeach : GoodIn wsX5_goesUp (wsV RX5 89 RX5 yX5_wouldTeach wsX5_wouldTeach) := goodIn_app (goodIn_of _ (by decide +kernel)) ggX5_goesUp_X5_wouldTeach
set_option maxRecDepth 20000 in
theorem ggX5_goesUp_X5_isIll : GoodIn wsX5_goesUp wsX5_isIll := goodIn_r _ [12, 3, 20, 21, 22, 23, 24, 25, 26, 27, 28, 29, 30, 31, 32, 33, 34, 35, 36, 37, 38, 39] (by decide +kernel) (by decide +kernel)
set_option maxRecDepth 20000 in
theorem gX5_goesUp_X5_isIll : GoodIn wsX5_goesUp (wsV RX5 81 RX5 yX5_isIll wsX5_isIll) := goodIn_app (goodIn_of _ (by decide +kernel)) ggX5_goesUp_X5_isIll
theorem dX5_goesUp_0 : decode cX5_goesUp 0 = .ok (.iconst 0, 1) := by decide +kernel
theorem dX5_goesUp_1 : decode cX5_goesUp 1 = .ok (.istore_n 1, 1) := by decide +kernel
theorem dX5_goesUp_2 : decode cX5_goesUp 2 = .ok (.aload_n 0, 1) := by decide +kernel
theorem dX5_goesUp_3 : decode cX5_goesUp 3 = .ok (.iconst 0, 1) := by decide +kernel
theorem dX5_goesUp_4 : decode cX5_goesUp 4 = .ok (.putfield 111, 3) := by decide +kernel
theorem dX5_goesUp_7 : decode cX5_goesUp 7 = .ok (.aload_n 0, 1) := by decide +kernel
theorem dX5_goesUp_8 : decode cX5_goesUp 8 = .ok (.getfield 60, 3) := by decide +kernel
theorem dX5_goesUp_11 : decode cX5_goesUp 11 = .ok (.iconst 2, 1) := by decide +kernel
theorem dX5_goesUp_12 : decode cX5_goesUp 12 = .ok (.isub, 1) := by decide +kernel
theorem dX5_goesUp_13 : decode cX5_goesUp 13 = .ok (.istore_n 2, 1) := by decide +kernel
theorem dX5_goesUp_14 : decode cX5_goesUp 14 = .ok (.iload_n 2, 1) := by decide +kernel
theorem dX5_goesUp_15 : decode cX5_goesUp 15 = .ok (.ifCond .lt 71, 3) := by decide +kernel
theorem dX5_goesUp_18 : decode cX5_goesUp 18 = .ok (.aload_n 0, 1) := by decide +kernel
theorem dX5_goesUp_19 : decode cX5_goesUp 19 = .ok (.iload_n 2, 1) := by decide +kernel
theorem dX5_goesUp_20 : decode cX5_goesUp 20 = .ok (.invokevirtual 89, 3) := by decide +kernel
theorem dX5_goesUp_23 : decode cX5_goesUp 23 = .ok (.istore_n 3, 1) := by decide +kernel
theorem dX5_goesUp_24 : decode cX5_goesUp 24 = .ok (.iload_n 3, 1) := by decide +kernel
theorem dX5_goesUp_25 : decode cX5_goesUp 25 = .ok (.iconst (-1), 1) := by decide +kernel
theorem dX5_goesUp_26 : decode cX5_goesUp 26 = .ok (.if_icmp .eq 54, 3) := by decide +kernel
theorem dX5_goesUp_29 : decode cX5_goesUp 29 = .ok (.aload_n 0, 1) := by decide +kernel
theorem dX5_goesUp_30 : decode cX5_goesUp 30 = .ok (.iload_n 2, 1) := by decide +kernel
theorem dX5_goesUp_31 : decode cX5_goesUp 31 = .ok (.iconst 1, 1) := by decide +kernel
theorem dX5_goesUp_32 : decode cX5_goesUp 32 = .ok (.iadd, 1) := by decide +kernel
theorem dX5_goesUp_33 : decode cX5_goesUp 33 = .ok (.invokevirtual 81, 3) := by decide +kernel
theorem dX5_goesUp_36 : decode cX5_goesUp 36 = .ok (.ifCond .ne 44, 3) := by decide +kernel
theorem dX5_goesUp_39 : decode cX5_goesUp 39 = .ok (.aload_n 0, 1) := by decide +kernel
theorem dX5_goesUp_40 : decode cX5_goesUp 40 = .ok (.getfield 13, 3) := by decide +kernel
theorem dX5_goesUp_43 : decode cX5_goesUp 43 = .ok (.iconst 4, 1) := by decide +kernel
theorem dX5_goesUp_44 : decode cX5_goesUp 44 = .ok (.iload_n 2, 1) := by decide +kernel
theorem dX5_goesUp_45 : decode cX5_goesUp 45 = .ok (.imul, 1) := by decide +kernel
theorem dX5_goesUp_46 : decode cX5_goesUp 46 = .ok (.bipush 6, 2) := by decide +kernel
theorem dX5_goesUp_48 : decode cX5_goesUp 48 = .ok (.iadd, 1) := by decide +kernel
theorem dX5_goesUp_49 : decode cX5_goesUp 49 = .ok (.iload_n 3, 1) := by decide +kernel
theorem dX5_goesUp_50 : decode cX5_goesUp 50 = .ok (.iastore, 1) := by decide +kernel
theorem dX5_goesUp_51 : decode cX5_goesUp 51 = .ok (.iinc 1 1, 3) := by decide +kernel
theorem dX5_goesUp_54 : decode cX5_goesUp 54 = .ok (.aload_n 0, 1) := by decide +kernel
theorem dX5_goesUp_55 : decode cX5_goesUp 55 = .ok (.aload_n 0, 1) := by decide +kernel
theorem dX5_goesUp_56 : decode cX5_goesUp 56 = .ok (.getfield 111, 3) := by decide +kernel
theorem dX5_goesUp_59 : decode cX5_goesUp 59 = .ok (.ifCond .ne 13, 3) := by decide +kernel
theorem dX5_goesUp_62 : decode cX5_goesUp 62 = .ok (.iload_n 2, 1) := by decide +kernel
theorem dX5_goesUp_63 : decode cX5_goesUp 63 = .ok (.aload_n 0, 1) := by decide +kernel
theorem dX5_goesUp_64 : decode cX5_goesUp 64 = .ok (.getfield 60, 3) := by decide +kernel
theorem dX5_goesUp_67 : decode cX5_goesUp 67 = .ok (.iconst 2, 1) := by decide +kernel
theorem dX5_goesUp_68 : decode cX5_goesUp 68 = .ok (.isub, 1) := by decide +kernel
theorem dX5_goesUp_69 : decode cX5_goesUp 69 = .ok (.if_icmp .ne 7, 3) := by decide +kernel
theorem dX5_goesUp_72 : decode cX5_goesUp 72 = .ok (.iconst 1, 1) := by decide +kernel
theorem dX5_goesUp_73 : decode cX5_goesUp 73 = .ok (.goto 4, 3) := by decide +kernel
theorem dX5_goesUp_76 : decode cX5_goesUp 76 = .ok (.iconst 0, 1) := by decide +kernel
theorem dX5_goesUp_77 : decode cX5_goesUp 77 = .ok (.putfield 111, 3) := by decide +kernel
theorem dX5_goesUp_80 : decode cX5_goesUp 80 = .ok (.iinc 2 (-1), 3) := by decide +kernel
theorem dX5_goesUp_83 : decode cX5_goesUp 83 = .ok (.goto (-69), 3) := by decide +kernel
theorem dX5_goesUp_86 : decode cX5_goesUp 86 = .ok (.iload_n 1, 1) := by decide +kernel
theorem dX5_goesUp_87 : decode cX5_goesUp 87 = .ok (.ireturn, 1) := by decide +kernel
set_option maxRecDepth 20000 in
theorem ggX5_thursday_X5_lacks : GoodIn wsX5_thursday wsX5_lacks := goodIn_r _ [7, 8, 30, 31, 32, 33, 34, 35, 36, 37, 38, 39, 40, 41, 42, 43, 44, 45, 46, 47, 48, 49] (by decide +kernel) (by decide +kernel)
set_option maxRecDepth 20000 in
theorem gX5_thursday_X5_lacks : GoodIn wsX5_thursday (wsV RX5 115 RX5 yX5_lacks wsX5_lacks) := goodIn_app (goodIn_of _ (by decide +kernel)) ggX5_thursday_X5_lacks
set_option maxRecDepth 20000 in
theorem ggX5_thursday_X5_goesUp : GoodIn wsX5_thursday wsX5_goesUp := goodIn_r _ [12, 13, 8, 14, 15, 16, 17, 6, 18, 19, 20, 21, 22, 23, 24, 25, 26, 27, 28, 29, 30, 31, 32, 33, 34, 35, 36, 37, 38, 39, 40, 41, 42, 43, 44, 45, 46, 47, 48, 49] (by decide +kernel) (by decide +kernel)
set_option maxRecDepth 20000 in
theorem gX5_thursday_X5_goesUp : GoodIn wsX5_thursday (wsV RX5 119 RX5 yX5_goesUp wsX5_goesUp) := goodIn_app (goodIn_of _ (by decide +kernel)) ggX5_thursday_X5_goesUp
theorem dX5_thursday_0 : decode cX5_thursday 0 = .ok (.aload_n 0, 1) := by decide +kernel
theorem dX5_thursday_1 : decode cX5_thursday 1 = .ok (.invokevirtual 115, 3) := by decide +kernel
theorem dX5_thursday_4 : decode cX5_thursday 4 = .ok (.ifCond .eq 6, 3) := by decide +kernel
theorem dX5_thursday_7 : decode cX5_thursday 7 = .ok (.bipush (-103), 2) := by decide +kernel
theorem dX5_thursday_9 : decode cX5_thursday 9 = .ok (.ireturn, 1) := by decide +kernel
theorem dX5_thursday_10 : decode cX5_thursday 10 = .ok (.aload_n 0, 1) := by decide +kernel
theorem dX5_thursday_11 : decode cX5_thursday 11 = .ok (.invokevirtual 119, 3) := by decide +kernel
theorem dX5_thursday_14 : decode cX5_thursday 14 = .ok (.istore_n 1, 1) := by decide +kernel
theorem dX5_thursday_15 : decode cX5_thursday 15 = .ok (.aload_n 0, 1) := by decide +kernel
theorem dX5_thursday_16 : decode cX5_thursday 16 = .ok (.dup, 1) := by decide +kernel
theorem dX5_thursday_17 : decode cX5_thursday 17 = .ok (.getfield 63, 3) := by decide +kernel
theorem dX5_thursday_20 : decode cX5_thursday 20 = .ok (.iconst 1, 1) := by decide +kernel
theorem dX5_thursday_21 : decode cX5_thursday 21 = .ok (.iadd, 1) := by decide +kernel
theorem dX5_thursday_22 : decode cX5_thursday 22 = .ok (.putfield 63, 3) := by decide +kernel
theorem dX5_thursday_25 : decode cX5_thursday 25 = .ok (.aload_n 0, 1) := by decide +kernel
theorem dX5_thursday_26 : decode cX5_thursday 26 = .ok (.dup, 1) := by decide +kernel
theorem dX5_thursday_27 : decode cX5_thursday 27 = .ok (.getfield 66, 3) := by decide +kernel
theorem dX5_thursday_30 : decode cX5_thursday 30 = .ok (.iload_n 1, 1) := by decide +kernel
theorem dX5_thursday_31 : decode cX5_thursday 31 = .ok (.iadd, 1) := by decide +kernel
theorem dX5_thursday_32 : decode cX5_thursday 32 = .ok (.putfield 66, 3) := by decide +kernel
theorem dX5_thursday_35 : decode cX5_thursday 35 = .ok (.iload_n 1, 1) := by decide +kernel
theorem dX5_thursday_36 : decode cX5_thursday 36 = .ok (.ireturn, 1) := by decide +kernel
set_option maxRecDepth 20000 in
theorem ggX5_arrivesOf_X5_teachesOf : GoodIn wsX5_arrivesOf wsX5_teachesOf := goodIn_r _ [6, 7, 8, 9, 5, 10, 11, 12, 13, 14, 15, 16, 17, 18, 19, 20, 21, 22, 23, 24, 25, 26, 27, 28, 29, 30] (by decide +kernel) (by decide +kernel)
set_option maxRecDepth 20000 in
theorem gX5_arrivesOf_X5_teachesOf : GoodIn wsX5_arrivesOf (wsV RX5 85 RX5 yX5_teachesOf wsX5_teachesOf) := goodIn_app (goodIn_of _ (by decide +kernel)) ggX5_arrivesOf_X5_teachesOf
theorem dX5_arrivesOf_0 : decode cX5_arrivesOf 0 = .ok (.iload_n 2, 1) := by decide +kernel
theorem dX5_arrivesOf_1 : decode cX5_arrivesOf 1 = .ok (.istore_n 3, 1) := by decide +kernel
theorem dX5_arrivesOf_2 : decode cX5_arrivesOf 2 = .ok (.iload_n 1, 1) := by decide +kernel
theorem dX5_arrivesOf_3 : decode cX5_arrivesOf 3 = .ok (.istore 4, 2) := by decide +kernel
theorem dX5_arrivesOf_5 : decode cX5_arrivesOf 5 = .ok (.iload 4, 2) := by decide +kernel
theorem dX5_arrivesOf_7 : decode cX5_arrivesOf 7 = .ok (.aload_n 0, 1) := by decide +kernel
theorem dX5_arrivesOf_8 : decode cX5_arrivesOf 8 = .ok (.getfield 60, 3) := by decide +kernel
theorem dX5_arrivesOf_11 : decode cX5_arrivesOf 11 = .ok (.iconst 1, 1) := by decide +kernel
theorem dX5_arrivesOf_12 : decode cX5_arrivesOf 12 = .ok (.isub, 1) := by decide +kernel
theorem dX5_arrivesOf_13 : decode cX5_arrivesOf 13 = .ok (.if_icmp .ge 17, 3) := by decide +kernel
theorem dX5_arrivesOf_16 : decode cX5_arrivesOf 16 = .ok (.aload_n 0, 1) := by decide +kernel
theorem dX5_arrivesOf_17 : decode cX5_arrivesOf 17 = .ok (.iload 4, 2) := by decide +kernel
theorem dX5_arrivesOf_19 : decode cX5_arrivesOf 19 = .ok (.iload_n 3, 1) := by decide +kernel
theorem dX5_arrivesOf_20 : decode cX5_arrivesOf 20 = .ok (.invokevirtual 85, 3) := by decide +kernel
theorem dX5_arrivesOf_23 : decode cX5_arrivesOf 23 = .ok (.istore_n 3, 1) := by decide +kernel
theorem dX5_arrivesOf_24 : decode cX5_arrivesOf 24 = .ok (.iinc 4 1, 3) := by decide +kernel
theorem dX5_arrivesOf_27 : decode cX5_arrivesOf 27 = .ok (.goto (-22), 3) := by decide +kernel
theorem dX5_arrivesOf_30 : decode cX5_arrivesOf 30 = .ok (.iload_n 3, 1) := by decide +kernel
theorem dX5_arrivesOf_31 : decode cX5_arrivesOf 31 = .ok (.ireturn, 1) := by decide +kernel
set_option maxRecDepth 20000 in
theorem ggX5_arrives_X5_isChild : GoodIn wsX5_arrives wsX5_isChild := goodIn_r _ [5, 6, 7, 8, 4, 9, 26, 27, 28, 29, 30, 31, 32, 33, 34, 35, 36, 37, 38, 39, 40, 41, 42, 43, 44, 45] (by decide +kernel) (by decide +kernel)
set_option maxRecDepth 20000 in
theorem gX5_arrives_X5_isChild : GoodIn wsX5_arrives (wsV RX5 98 RX5 yX5_isChild wsX5_isChild) := goodIn_app (goodIn_of _ (by decide +kernel)) ggX5_arrives_X5_isChild
set_option maxRecDepth 20000 in
theorem ggX5_arrives_X5_isRule : GoodIn wsX5_arrives wsX5_isRule := goodIn_r _ [12, 13, 7, 8, 4, 9] (by decide +kernel) (by decide +kernel)
set_option maxRecDepth 20000 in
theorem gX5_arrives_X5_isRule : GoodIn wsX5_arrives (va_wsS RX5 106 yX5_isRule wsX5_isRule) := goodIn_app (goodIn_of _ (by decide +kernel)) ggX5_arrives_X5_isRule
set_option maxRecDepth 20000 in
theorem ggX5_arrives_X5_arrivesOf : GoodIn wsX5_arrives wsX5_arrivesOf := goodIn_r _ [17, 6, 18, 19, 20, 4, 21, 22, 23, 24, 25, 26, 27, 28, 29, 30, 31, 32, 33, 34, 35, 36, 37, 38, 39, 40, 41, 42, 43, 44, 45] (by decide +kernel) (by decide +kernel)
set_option maxRecDepth 20000 in
theorem gX5_arrives_X5_arrivesOf : GoodIn wsX5_arrives (wsV RX5 122 RX5 yX5_arrivesOf wsX5_arrivesOf) := goodIn_app (goodIn_of _ (by decide +kernel)) ggX5_arrives_X5_arrivesOf
theorem dX5_arrives_0 : decode cX5_arrives 0 = .ok (.aload_n 0, 1) := by decide +kernel
theorem dX5_arrives_1 : decode cX5_arrives 1 = .ok (.iload_n 1, 1) := by decide +kernel
theorem dX5_arrives_2 : decode cX5_arrives 2 = .ok (.invokevirtual 98, 3) := by decide +kernel
theorem dX5_arrives_5 : decode cX5_arrives 5 = .ok (.ifCond .ne 6, 3) := by decide +kernel
theorem dX5_arrives_8 : decode cX5_arrives 8 = .ok (.bipush (-101), 2) := by decide +kernel
theorem dX5_arrives_10 : decode cX5_arrives 10 = .ok (.ireturn, 1) := by decide +kernel
theorem dX5_arrives_11 : decode cX5_arrives 11 = .ok (.iload_n 2, 1) := by decide +kernel
theorem dX5_arrives_12 : decode cX5_arrives 12 = .ok (.invokestatic 106, 3) := by decide +kernel
theorem dX5_arrives_15 : decode cX5_arrives 15 = .ok (.ifCond .eq 12, 3) := by decide +kernel
theorem dX5_arrives_18 : decode cX5_arrives 18 = .ok (.aload_n 0, 1) := by decide +kernel
theorem dX5_arrives_19 : decode cX5_arrives 19 = .ok (.iload_n 1, 1) := by decide +kernel
theorem dX5_arrives_20 : decode cX5_arrives 20 = .ok (.iload_n 2, 1) := by decide +kernel
theorem dX5_arrives_21 : decode cX5_arrives 21 = .ok (.invokevirtual 122, 3) := by decide +kernel
theorem dX5_arrives_24 : decode cX5_arrives 24 = .ok (.goto 5, 3) := by decide +kernel
theorem dX5_arrives_27 : decode cX5_arrives 27 = .ok (.bipush (-102), 2) := by decide +kernel
theorem dX5_arrives_29 : decode cX5_arrives 29 = .ok (.ireturn, 1) := by decide +kernel
set_option maxRecDepth 20000 in
theorem ggX5_fromOf_X5_arrivesOf : GoodIn wsX5_fromOf wsX5_arrivesOf := goodIn_r _ [5, 6, 7, 8, 9, 4, 10, 11, 12, 13, 14, 15, 16, 17, 18, 19, 20, 21, 22, 23, 24, 25, 26, 27, 28, 29, 30, 31, 32, 33, 34] (by decide +kernel) (by decide +kernel)
set_option maxRecDepth 20000 in
theorem gX5_fromOf_X5_arrivesOf : GoodIn wsX5_fromOf (wsV RX5 122 RX5 yX5_arrivesOf wsX5_arrivesOf) := goodIn_app (goodIn_of _ (by decide +kernel)) ggX5_fromOf_X5_arrivesOf
theorem dX5_fromOf_0 : decode cX5_fromOf 0 = .ok (.iconst 0, 1) := by decide +kernel
theorem dX5_fromOf_1 : decode cX5_fromOf 1 = .ok (.istore_n 3, 1) := by decide +kernel
theorem dX5_fromOf_2 : decode cX5_fromOf 2 = .ok (.iconst 0, 1) := by decide +kernel
theorem dX5_fromOf_3 : decode cX5_fromOf 3 = .ok (.istore 4, 2) := by decide +kernel
theorem dX5_fromOf_5 : decode cX5_fromOf 5 = .ok (.iload 4, 2) := by decide +kernel
theorem dX5_fromOf_7 : decode cX5_fromOf 7 = .ok (.bipush 12, 2) := by decide +kernel
theorem dX5_fromOf_9 : decode cX5_fromOf 9 = .ok (.if_icmp .ge 31, 3) := by decide +kernel
theorem dX5_fromOf_12 : decode cX5_fromOf 12 = .ok (.iload_n 3, 1) := by decide +kernel
theorem dX5_fromOf_13 : decode cX5_fromOf 13 = .ok (.aload_n 0, 1) := by decide +kernel
theorem dX5_fromOf_14 : decode cX5_fromOf 14 = .ok (.iload_n 1, 1) := by decide +kernel
theorem dX5_fromOf_15 : decode cX5_fromOf 15 = .ok (.iload 4, 2) := by decide +kernel
theorem dX5_fromOf_17 : decode cX5_fromOf 17 = .ok (.invokevirtual 122, 3) := by decide +kernel
theorem dX5_fromOf_20 : decode cX5_fromOf 20 = .ok (.iload_n 2, 1) := by decide +kernel
theorem dX5_fromOf_21 : decode cX5_fromOf 21 = .ok (.if_icmp .ne 10, 3) := by decide +kernel
theorem dX5_fromOf_24 : decode cX5_fromOf 24 = .ok (.iconst 1, 1) := by decide +kernel
theorem dX5_fromOf_25 : decode cX5_fromOf 25 = .ok (.iload 4, 2) := by decide +kernel
theorem dX5_fromOf_27 : decode cX5_fromOf 27 = .ok (.ishl, 1) := by decide +kernel
theorem dX5_fromOf_28 : decode cX5_fromOf 28 = .ok (.goto 4, 3) := by decide +kernel
theorem dX5_fromOf_31 : decode cX5_fromOf 31 = .ok (.iconst 0, 1) := by decide +kernel
theorem dX5_fromOf_32 : decode cX5_fromOf 32 = .ok (.ior, 1) := by decide +kernel
theorem dX5_fromOf_33 : decode cX5_fromOf 33 = .ok (.istore_n 3, 1) := by decide +kernel
theorem dX5_fromOf_34 : decode cX5_fromOf 34 = .ok (.iinc 4 1, 3) := by decide +kernel
theorem dX5_fromOf_37 : decode cX5_fromOf 37 = .ok (.goto (-32), 3) := by decide +kernel
theorem dX5_fromOf_40 : decode cX5_fromOf 40 = .ok (.iload_n 3, 1) := by decide +kernel
theorem dX5_fromOf_41 : decode cX5_fromOf 41 = .ok (.ireturn, 1) := by decide +kernel
set_option maxRecDepth 20000 in
theorem ggX5_from_X5_isChild : GoodIn wsX5_from wsX5_isChild := goodIn_r _ [5, 6, 7, 8, 4, 9, 30, 31, 32, 33, 34, 35, 36, 37, 38, 39, 40, 41, 42, 43, 44, 45, 46, 47, 48, 49] (by decide +kernel) (by decide +kernel)
set_option maxRecDepth 20000 in
theorem gX5_from_X5_isChild : GoodIn wsX5_from (wsV RX5 98 RX5 yX5_isChild wsX5_isChild) := goodIn_app (goodIn_of _ (by decide +kernel)) ggX5_from_X5_isChild
set_option maxRecDepth 20000 in
theorem ggX5_from_X5_isRule : GoodIn wsX5_from wsX5_isRule := goodIn_r _ [12, 13, 7, 8, 4, 9] (by decide +kernel) (by decide +kernel)
set_option maxRecDepth 20000 in
theorem gX5_from_X5_isRule : GoodIn wsX5_from (va_wsS RX5 106 yX5_isRule wsX5_isRule) := goodIn_app (goodIn_of _ (by decide +kernel)) ggX5_from_X5_isRule
set_option maxRecDepth 20000 in
theorem ggX5_from_X5_fromOf : GoodIn wsX5_from wsX5_fromOf := goodIn_r _ [17, 18, 19, 20, 4, 21, 6, 22, 23, 24, 25, 26, 27, 28, 29, 30, 31, 32, 33, 34, 35, 36, 37, 38, 39, 40, 41, 42, 43, 44, 45, 46, 47, 48, 49] (by decide +kernel) (by decide +kernel)
set_option maxRecDepth 20000 in
theorem gX5_from_X5_fromOf : GoodIn wsX5_from (wsV RX5 125 RX5 yX5_fromOf wsX5_fromOf) := goodIn_app (goodIn_of _ (by decide +kernel)) ggX5_from_X5_fromOf
theorem dX5_from_0 : decode cX5_from 0 = .ok (.aload_n 0, 1) := by decide +kernel
theorem dX5_from_1 : decode cX5_from 1 = .ok (.iload_n 1, 1) := by decide +kernel
theorem dX5_from_2 : decode cX5_from 2 = .ok (.invokevirtual 98, 3) := by decide +kernel
theorem dX5_from_5 : decode cX5_from 5 = .ok (.ifCond .ne 6, 3) := by decide +kernel
theorem dX5_from_8 : decode cX5_from 8 = .ok (.bipush (-101), 2) := by decide +kernel
theorem dX5_from_10 : decode cX5_from 10 = .ok (.ireturn, 1) := by decide +kernel
theorem dX5_from_11 : decode cX5_from 11 = .ok (.iload_n 2, 1) := by decide +kernel
theorem dX5_from_12 : decode cX5_from 12 = .ok (.invokestatic 106, 3) := by decide +kernel
theorem dX5_from_15 : decode cX5_from 15 = .ok (.ifCond .eq 12, 3) := by decide +kernel
theorem dX5_from_18 : decode cX5_from 18 = .ok (.aload_n 0, 1) := by decide +kernel
theorem dX5_from_19 : decode cX5_from 19 = .ok (.iload_n 1, 1) := by decide +kernel
theorem dX5_from_20 : decode cX5_from 20 = .ok (.iload_n 2, 1) := by decide +kernel
theorem dX5_from_21 : decode cX5_from 21 = .ok (.invokevirtual 125, 3) := by decide +kernel
theorem dX5_from_24 : decode cX5_from 24 = .ok (.goto 5, 3) := by decide +kernel
theorem dX5_from_27 : decode cX5_from 27 = .ok (.bipush (-102), 2) := by decide +kernel
theorem dX5_from_29 : decode cX5_from 29 = .ok (.ireturn, 1) := by decide +kernel
set_option maxRecDepth 20000 in
theorem ggX5_soonOf_X5_isIll : GoodIn wsX5_soonOf wsX5_isIll := goodIn_r _ [7, 1, 8, 9, 10, 11, 12, 13, 14, 15, 16, 17, 18, 19, 20, 21, 22, 23, 24, 25, 26, 27] (by decide +kernel) (by decide +kernel)
set_option maxRecDepth 20000 in
theorem gX5_soonOf_X5_isIll : GoodIn wsX5_soonOf (wsV RX5 81 RX5 yX5_isIll wsX5_isIll) := goodIn_app (goodIn_of _ (by decide +kernel)) ggX5_soonOf_X5_isIll
theorem dX5_soonOf_0 : decode cX5_soonOf 0 = .ok (.aload_n 0, 1) := by decide +kernel
theorem dX5_soonOf_1 : decode cX5_soonOf 1 = .ok (.getfield 13, 3) := by decide +kernel
theorem dX5_soonOf_4 : decode cX5_soonOf 4 = .ok (.iconst 4, 1) := by decide +kernel
theorem dX5_soonOf_5 : decode cX5_soonOf 5 = .ok (.aload_n 0, 1) := by decide +kernel
theorem dX5_soonOf_6 : decode cX5_soonOf 6 = .ok (.getfield 60, 3) := by decide +kernel
theorem dX5_soonOf_9 : decode cX5_soonOf 9 = .ok (.imul, 1) := by decide +kernel
theorem dX5_soonOf_10 : decode cX5_soonOf 10 = .ok (.iconst 2, 1) := by decide +kernel
theorem dX5_soonOf_11 : decode cX5_soonOf 11 = .ok (.isub, 1) := by decide +kernel
theorem dX5_soonOf_12 : decode cX5_soonOf 12 = .ok (.iaload, 1) := by decide +kernel
theorem dX5_soonOf_13 : decode cX5_soonOf 13 = .ok (.iconst (-1), 1) := by decide +kernel
theorem dX5_soonOf_14 : decode cX5_soonOf 14 = .ok (.if_icmp .eq 5, 3) := by decide +kernel
theorem dX5_soonOf_17 : decode cX5_soonOf 17 = .ok (.iconst 0, 1) := by decide +kernel
theorem dX5_soonOf_18 : decode cX5_soonOf 18 = .ok (.ireturn, 1) := by decide +kernel
theorem dX5_soonOf_19 : decode cX5_soonOf 19 = .ok (.aload_n 0, 1) := by decide +kernel
theorem dX5_soonOf_20 : decode cX5_soonOf 20 = .ok (.getfield 60, 3) := by decide +kernel
theorem dX5_soonOf_23 : decode cX5_soonOf 23 = .ok (.iconst 1, 1) := by decide +kernel
theorem dX5_soonOf_24 : decode cX5_soonOf 24 = .ok (.isub, 1) := by decide +kernel
theorem dX5_soonOf_25 : decode cX5_soonOf 25 = .ok (.istore_n 1, 1) := by decide +kernel
theorem dX5_soonOf_26 : decode cX5_soonOf 26 = .ok (.iload_n 1, 1) := by decide +kernel
theorem dX5_soonOf_27 : decode cX5_soonOf 27 = .ok (.ifCond .lt 40, 3) := by decide +kernel
theorem dX5_soonOf_30 : decode cX5_soonOf 30 = .ok (.aload_n 0, 1) := by decide +kernel
theorem dX5_soonOf_31 : decode cX5_soonOf 31 = .ok (.iload_n 1, 1) := by decide +kernel
theorem dX5_soonOf_32 : decode cX5_soonOf 32 = .ok (.invokevirtual 81, 3) := by decide +kernel
theorem dX5_soonOf_35 : decode cX5_soonOf 35 = .ok (.ifCond .ne 32, 3) := by decide +kernel
theorem dX5_soonOf_38 : decode cX5_soonOf 38 = .ok (.aload_n 0, 1) := by decide +kernel
theorem dX5_soonOf_39 : decode cX5_soonOf 39 = .ok (.getfield 13, 3) := by decide +kernel
theorem dX5_soonOf_42 : decode cX5_soonOf 42 = .ok (.iconst 4, 1) := by decide +kernel
theorem dX5_soonOf_43 : decode cX5_soonOf 43 = .ok (.iload_n 1, 1) := by decide +kernel
theorem dX5_soonOf_44 : decode cX5_soonOf 44 = .ok (.imul, 1) := by decide +kernel
theorem dX5_soonOf_45 : decode cX5_soonOf 45 = .ok (.iconst 2, 1) := by decide +kernel
theorem dX5_soonOf_46 : decode cX5_soonOf 46 = .ok (.iadd, 1) := by decide +kernel
theorem dX5_soonOf_47 : decode cX5_soonOf 47 = .ok (.iaload, 1) := by decide +kernel
theorem dX5_soonOf_48 : decode cX5_soonOf 48 = .ok (.iconst (-1), 1) := by decide +kernel
theorem dX5_soonOf_49 : decode cX5_soonOf 49 = .ok (.if_icmp .eq 12, 3) := by decide +kernel
theorem dX5_soonOf_52 : decode cX5_soonOf 52 = .ok (.aload_n 0, 1) := by decide +kernel
theorem dX5_soonOf_53 : decode cX5_soonOf 53 = .ok (.getfield 60, 3) := by decide +kernel
theorem dX5_soonOf_56 : decode cX5_soonOf 56 = .ok (.iconst 1, 1) := by decide +kernel
theorem dX5_soonOf_57 : decode cX5_soonOf 57 = .ok (.isub, 1) := by decide +kernel
theorem dX5_soonOf_58 : decode cX5_soonOf 58 = .ok (.iload_n 1, 1) := by decide +kernel
theorem dX5_soonOf_59 : decode cX5_soonOf 59 = .ok (.isub, 1) := by decide +kernel
theorem dX5_soonOf_60 : decode cX5_soonOf 60 = .ok (.ireturn, 1) := by decide +kernel
theorem dX5_soonOf_61 : decode cX5_soonOf 61 = .ok (.iinc 1 (-1), 3) := by decide +kernel
theorem dX5_soonOf_64 : decode cX5_soonOf 64 = .ok (.goto (-38), 3) := by decide +kernel
theorem dX5_soonOf_67 : decode cX5_soonOf 67 = .ok (.iconst (-1), 1) := by decide +kernel
theorem dX5_soonOf_68 : decode cX5_soonOf 68 = .ok (.ireturn, 1) := by decide +kernel
