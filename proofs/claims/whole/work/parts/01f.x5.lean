set_option maxRecDepth 20000 in
theorem ggX5_soon_X5_lacks : GoodIn wsX5_soon wsX5_lacks := goodIn_r _ [5, 6, 16, 17, 18, 19, 20, 21, 22, 23, 24, 25, 26, 27, 28, 29, 30, 31, 32, 33, 34, 35] (by decide +kernel) (by decide +kernel)
set_option maxRecDepth 20000 in
theorem gX5_soon_X5_lacks : GoodIn wsX5_soon (wsV RX5 115 RX5 yX5_lacks wsX5_lacks) := goodIn_app (goodIn_of _ (by decide +kernel)) ggX5_soon_X5_lacks
set_option maxRecDepth 20000 in
theorem ggX5_soon_X5_soonOf : GoodIn wsX5_soon wsX5_soonOf := goodIn_r _ [10, 11, 6, 12, 13, 14, 4, 15, 16, 17, 18, 19, 20, 21, 22, 23, 24, 25, 26, 27, 28, 29, 30, 31, 32, 33, 34, 35] (by decide +kernel) (by decide +kernel)
set_option maxRecDepth 20000 in
theorem gX5_soon_X5_soonOf : GoodIn wsX5_soon (wsV RX5 128 RX5 yX5_soonOf wsX5_soonOf) := goodIn_app (goodIn_of _ (by decide +kernel)) ggX5_soon_X5_soonOf
theorem dX5_soon_0 : decode cX5_soon 0 = .ok (.aload_n 0, 1) := by decide +kernel
theorem dX5_soon_1 : decode cX5_soon 1 = .ok (.invokevirtual 115, 3) := by decide +kernel
theorem dX5_soon_4 : decode cX5_soon 4 = .ok (.ifCond .eq 8, 3) := by decide +kernel
theorem dX5_soon_7 : decode cX5_soon 7 = .ok (.bipush (-103), 2) := by decide +kernel
theorem dX5_soon_9 : decode cX5_soon 9 = .ok (.goto 7, 3) := by decide +kernel
theorem dX5_soon_12 : decode cX5_soon 12 = .ok (.aload_n 0, 1) := by decide +kernel
theorem dX5_soon_13 : decode cX5_soon 13 = .ok (.invokevirtual 128, 3) := by decide +kernel
theorem dX5_soon_16 : decode cX5_soon 16 = .ok (.ireturn, 1) := by decide +kernel
set_option maxRecDepth 20000 in
theorem ggX5_asTheyAre_X5_lacks : GoodIn wsX5_asTheyAre wsX5_lacks := goodIn_r _ [5, 6, 19, 20, 21, 22, 23, 24, 25, 26, 27, 28, 29, 30, 31, 32, 33, 34, 35, 36, 37, 38] (by decide +kernel) (by decide +kernel)
set_option maxRecDepth 20000 in
theorem gX5_asTheyAre_X5_lacks : GoodIn wsX5_asTheyAre (wsV RX5 115 RX5 yX5_lacks wsX5_lacks) := goodIn_app (goodIn_of _ (by decide +kernel)) ggX5_asTheyAre_X5_lacks
set_option maxRecDepth 20000 in
theorem ggX5_asTheyAre_X5_arrivesOf : GoodIn wsX5_asTheyAre wsX5_arrivesOf := goodIn_r _ [10, 6, 11, 12, 13, 4, 14, 15, 16, 17, 18, 19, 20, 21, 22, 23, 24, 25, 26, 27, 28, 29, 30, 31, 32, 33, 34, 35, 36, 37, 38] (by decide +kernel) (by decide +kernel)
set_option maxRecDepth 20000 in
theorem gX5_asTheyAre_X5_arrivesOf : GoodIn wsX5_asTheyAre (wsV RX5 122 RX5 yX5_arrivesOf wsX5_arrivesOf) := goodIn_app (goodIn_of _ (by decide +kernel)) ggX5_asTheyAre_X5_arrivesOf
theorem dX5_asTheyAre_0 : decode cX5_asTheyAre 0 = .ok (.iconst 0, 1) := by decide +kernel
theorem dX5_asTheyAre_1 : decode cX5_asTheyAre 1 = .ok (.istore_n 1, 1) := by decide +kernel
theorem dX5_asTheyAre_2 : decode cX5_asTheyAre 2 = .ok (.iconst 0, 1) := by decide +kernel
theorem dX5_asTheyAre_3 : decode cX5_asTheyAre 3 = .ok (.istore_n 2, 1) := by decide +kernel
theorem dX5_asTheyAre_4 : decode cX5_asTheyAre 4 = .ok (.iload_n 2, 1) := by decide +kernel
theorem dX5_asTheyAre_5 : decode cX5_asTheyAre 5 = .ok (.bipush 12, 2) := by decide +kernel
theorem dX5_asTheyAre_7 : decode cX5_asTheyAre 7 = .ok (.if_icmp .ge 34, 3) := by decide +kernel
theorem dX5_asTheyAre_10 : decode cX5_asTheyAre 10 = .ok (.aload_n 0, 1) := by decide +kernel
theorem dX5_asTheyAre_11 : decode cX5_asTheyAre 11 = .ok (.invokevirtual 115, 3) := by decide +kernel
theorem dX5_asTheyAre_14 : decode cX5_asTheyAre 14 = .ok (.ifCond .ne 27, 3) := by decide +kernel
theorem dX5_asTheyAre_17 : decode cX5_asTheyAre 17 = .ok (.iload_n 1, 1) := by decide +kernel
theorem dX5_asTheyAre_18 : decode cX5_asTheyAre 18 = .ok (.aload_n 0, 1) := by decide +kernel
theorem dX5_asTheyAre_19 : decode cX5_asTheyAre 19 = .ok (.iconst 0, 1) := by decide +kernel
theorem dX5_asTheyAre_20 : decode cX5_asTheyAre 20 = .ok (.iload_n 2, 1) := by decide +kernel
theorem dX5_asTheyAre_21 : decode cX5_asTheyAre 21 = .ok (.invokevirtual 122, 3) := by decide +kernel
theorem dX5_asTheyAre_24 : decode cX5_asTheyAre 24 = .ok (.iload_n 2, 1) := by decide +kernel
theorem dX5_asTheyAre_25 : decode cX5_asTheyAre 25 = .ok (.if_icmp .ne 7, 3) := by decide +kernel
theorem dX5_asTheyAre_28 : decode cX5_asTheyAre 28 = .ok (.iconst 1, 1) := by decide +kernel
theorem dX5_asTheyAre_29 : decode cX5_asTheyAre 29 = .ok (.goto 4, 3) := by decide +kernel
theorem dX5_asTheyAre_32 : decode cX5_asTheyAre 32 = .ok (.iconst 0, 1) := by decide +kernel
theorem dX5_asTheyAre_33 : decode cX5_asTheyAre 33 = .ok (.iadd, 1) := by decide +kernel
theorem dX5_asTheyAre_34 : decode cX5_asTheyAre 34 = .ok (.istore_n 1, 1) := by decide +kernel
theorem dX5_asTheyAre_35 : decode cX5_asTheyAre 35 = .ok (.iinc 2 1, 3) := by decide +kernel
theorem dX5_asTheyAre_38 : decode cX5_asTheyAre 38 = .ok (.goto (-34), 3) := by decide +kernel
theorem dX5_asTheyAre_41 : decode cX5_asTheyAre 41 = .ok (.iload_n 1, 1) := by decide +kernel
theorem dX5_asTheyAre_42 : decode cX5_asTheyAre 42 = .ok (.ireturn, 1) := by decide +kernel
set_option maxRecDepth 20000 in
theorem ggX5_cureOf_X5_asTheyAre : GoodIn wsX5_cureOf wsX5_asTheyAre := goodIn_r _ [7, 8, 9, 10, 6, 11, 1, 12, 13, 14, 15, 16, 17, 18, 19, 2, 20, 21, 22, 23, 24, 25, 26, 27, 28, 29, 30, 31, 32, 33, 34, 35, 36, 37, 38, 39, 40, 41, 42] (by decide +kernel) (by decide +kernel)
set_option maxRecDepth 20000 in
theorem gX5_cureOf_X5_asTheyAre : GoodIn wsX5_cureOf (wsV RX5 131 RX5 yX5_asTheyAre wsX5_asTheyAre) := goodIn_app (goodIn_of _ (by decide +kernel)) ggX5_cureOf_X5_asTheyAre
theorem dX5_cureOf_0 : decode cX5_cureOf 0 = .ok (.iconst (-1), 1) := by decide +kernel
theorem dX5_cureOf_1 : decode cX5_cureOf 1 = .ok (.istore_n 2, 1) := by decide +kernel
theorem dX5_cureOf_2 : decode cX5_cureOf 2 = .ok (.aload_n 0, 1) := by decide +kernel
theorem dX5_cureOf_3 : decode cX5_cureOf 3 = .ok (.invokevirtual 131, 3) := by decide +kernel
theorem dX5_cureOf_6 : decode cX5_cureOf 6 = .ok (.istore_n 3, 1) := by decide +kernel
theorem dX5_cureOf_7 : decode cX5_cureOf 7 = .ok (.iconst 0, 1) := by decide +kernel
theorem dX5_cureOf_8 : decode cX5_cureOf 8 = .ok (.istore 4, 2) := by decide +kernel
theorem dX5_cureOf_10 : decode cX5_cureOf 10 = .ok (.iload 4, 2) := by decide +kernel
theorem dX5_cureOf_12 : decode cX5_cureOf 12 = .ok (.aload_n 0, 1) := by decide +kernel
theorem dX5_cureOf_13 : decode cX5_cureOf 13 = .ok (.getfield 60, 3) := by decide +kernel
theorem dX5_cureOf_16 : decode cX5_cureOf 16 = .ok (.if_icmp .ge 79, 3) := by decide +kernel
theorem dX5_cureOf_19 : decode cX5_cureOf 19 = .ok (.aload_n 0, 1) := by decide +kernel
theorem dX5_cureOf_20 : decode cX5_cureOf 20 = .ok (.getfield 13, 3) := by decide +kernel
theorem dX5_cureOf_23 : decode cX5_cureOf 23 = .ok (.iconst 4, 1) := by decide +kernel
theorem dX5_cureOf_24 : decode cX5_cureOf 24 = .ok (.iload 4, 2) := by decide +kernel
theorem dX5_cureOf_26 : decode cX5_cureOf 26 = .ok (.imul, 1) := by decide +kernel
theorem dX5_cureOf_27 : decode cX5_cureOf 27 = .ok (.iconst 1, 1) := by decide +kernel
theorem dX5_cureOf_28 : decode cX5_cureOf 28 = .ok (.iadd, 1) := by decide +kernel
theorem dX5_cureOf_29 : decode cX5_cureOf 29 = .ok (.iaload, 1) := by decide +kernel
theorem dX5_cureOf_30 : decode cX5_cureOf 30 = .ok (.istore 5, 2) := by decide +kernel
theorem dX5_cureOf_32 : decode cX5_cureOf 32 = .ok (.aload_n 0, 1) := by decide +kernel
theorem dX5_cureOf_33 : decode cX5_cureOf 33 = .ok (.getfield 13, 3) := by decide +kernel
theorem dX5_cureOf_36 : decode cX5_cureOf 36 = .ok (.iconst 4, 1) := by decide +kernel
theorem dX5_cureOf_37 : decode cX5_cureOf 37 = .ok (.iload 4, 2) := by decide +kernel
theorem dX5_cureOf_39 : decode cX5_cureOf 39 = .ok (.imul, 1) := by decide +kernel
theorem dX5_cureOf_40 : decode cX5_cureOf 40 = .ok (.iconst 1, 1) := by decide +kernel
theorem dX5_cureOf_41 : decode cX5_cureOf 41 = .ok (.iadd, 1) := by decide +kernel
theorem dX5_cureOf_42 : decode cX5_cureOf 42 = .ok (.iconst 0, 1) := by decide +kernel
theorem dX5_cureOf_43 : decode cX5_cureOf 43 = .ok (.iastore, 1) := by decide +kernel
theorem dX5_cureOf_44 : decode cX5_cureOf 44 = .ok (.aload_n 0, 1) := by decide +kernel
theorem dX5_cureOf_45 : decode cX5_cureOf 45 = .ok (.invokevirtual 131, 3) := by decide +kernel
theorem dX5_cureOf_48 : decode cX5_cureOf 48 = .ok (.istore 6, 2) := by decide +kernel
theorem dX5_cureOf_50 : decode cX5_cureOf 50 = .ok (.aload_n 0, 1) := by decide +kernel
theorem dX5_cureOf_51 : decode cX5_cureOf 51 = .ok (.getfield 13, 3) := by decide +kernel
theorem dX5_cureOf_54 : decode cX5_cureOf 54 = .ok (.iconst 4, 1) := by decide +kernel
theorem dX5_cureOf_55 : decode cX5_cureOf 55 = .ok (.iload 4, 2) := by decide +kernel
theorem dX5_cureOf_57 : decode cX5_cureOf 57 = .ok (.imul, 1) := by decide +kernel
theorem dX5_cureOf_58 : decode cX5_cureOf 58 = .ok (.iconst 1, 1) := by decide +kernel
theorem dX5_cureOf_59 : decode cX5_cureOf 59 = .ok (.iadd, 1) := by decide +kernel
theorem dX5_cureOf_60 : decode cX5_cureOf 60 = .ok (.iload 5, 2) := by decide +kernel
theorem dX5_cureOf_62 : decode cX5_cureOf 62 = .ok (.iastore, 1) := by decide +kernel
theorem dX5_cureOf_63 : decode cX5_cureOf 63 = .ok (.iload 6, 2) := by decide +kernel
theorem dX5_cureOf_65 : decode cX5_cureOf 65 = .ok (.iload_n 3, 1) := by decide +kernel
theorem dX5_cureOf_66 : decode cX5_cureOf 66 = .ok (.if_icmp .le 8, 3) := by decide +kernel
theorem dX5_cureOf_69 : decode cX5_cureOf 69 = .ok (.iload 4, 2) := by decide +kernel
theorem dX5_cureOf_71 : decode cX5_cureOf 71 = .ok (.goto 4, 3) := by decide +kernel
theorem dX5_cureOf_74 : decode cX5_cureOf 74 = .ok (.iload_n 2, 1) := by decide +kernel
theorem dX5_cureOf_75 : decode cX5_cureOf 75 = .ok (.istore_n 2, 1) := by decide +kernel
theorem dX5_cureOf_76 : decode cX5_cureOf 76 = .ok (.iload 6, 2) := by decide +kernel
theorem dX5_cureOf_78 : decode cX5_cureOf 78 = .ok (.iload_n 3, 1) := by decide +kernel
theorem dX5_cureOf_79 : decode cX5_cureOf 79 = .ok (.if_icmp .le 8, 3) := by decide +kernel
theorem dX5_cureOf_82 : decode cX5_cureOf 82 = .ok (.iload 6, 2) := by decide +kernel
theorem dX5_cureOf_84 : decode cX5_cureOf 84 = .ok (.goto 4, 3) := by decide +kernel
theorem dX5_cureOf_87 : decode cX5_cureOf 87 = .ok (.iload_n 3, 1) := by decide +kernel
theorem dX5_cureOf_88 : decode cX5_cureOf 88 = .ok (.istore_n 3, 1) := by decide +kernel
theorem dX5_cureOf_89 : decode cX5_cureOf 89 = .ok (.iinc 4 1, 3) := by decide +kernel
theorem dX5_cureOf_92 : decode cX5_cureOf 92 = .ok (.goto (-82), 3) := by decide +kernel
theorem dX5_cureOf_95 : decode cX5_cureOf 95 = .ok (.iload_n 1, 1) := by decide +kernel
theorem dX5_cureOf_96 : decode cX5_cureOf 96 = .ok (.ifCond .ne 7, 3) := by decide +kernel
theorem dX5_cureOf_99 : decode cX5_cureOf 99 = .ok (.iload_n 2, 1) := by decide +kernel
theorem dX5_cureOf_100 : decode cX5_cureOf 100 = .ok (.goto 4, 3) := by decide +kernel
theorem dX5_cureOf_103 : decode cX5_cureOf 103 = .ok (.iload_n 3, 1) := by decide +kernel
theorem dX5_cureOf_104 : decode cX5_cureOf 104 = .ok (.ireturn, 1) := by decide +kernel
set_option maxRecDepth 20000 in
theorem ggX5_cure_X5_in : GoodIn wsX5_cure wsX5_in := goodIn_r _ [4] (by decide +kernel) (by decide +kernel)
set_option maxRecDepth 20000 in
theorem gX5_cure_X5_in : GoodIn wsX5_cure (va_wsS RX5 37 yX5_in wsX5_in) := goodIn_app (goodIn_of _ (by decide +kernel)) ggX5_cure_X5_in
set_option maxRecDepth 20000 in
theorem ggX5_cure_X5_lacks : GoodIn wsX5_cure wsX5_lacks := goodIn_r _ [8, 9, 30, 31, 32, 33, 34, 35, 36, 37, 38, 39, 40, 41, 42, 43, 44, 45, 46, 47, 48, 49] (by decide +kernel) (by decide +kernel)
set_option maxRecDepth 20000 in
theorem gX5_cure_X5_lacks : GoodIn wsX5_cure (wsV RX5 115 RX5 yX5_lacks wsX5_lacks) := goodIn_app (goodIn_of _ (by decide +kernel)) ggX5_cure_X5_lacks
set_option maxRecDepth 20000 in
theorem ggX5_cure_X5_cureOf : GoodIn wsX5_cure wsX5_cureOf := goodIn_r _ [13, 9, 14, 15, 16, 17, 3, 18, 5, 6, 7, 8, 19, 20, 21, 22, 23, 24, 25, 26, 27, 28, 29, 30, 31, 32, 33, 34, 35, 36, 37, 38, 39, 40, 41, 42, 43, 44, 45, 46, 47, 48, 49] (by decide +kernel) (by decide +kernel)
set_option maxRecDepth 20000 in
theorem gX5_cure_X5_cureOf : GoodIn wsX5_cure (wsV RX5 134 RX5 yX5_cureOf wsX5_cureOf) := goodIn_app (goodIn_of _ (by decide +kernel)) ggX5_cure_X5_cureOf
theorem dX5_cure_0 : decode cX5_cure 0 = .ok (.iload_n 1, 1) := by decide +kernel
theorem dX5_cure_1 : decode cX5_cure 1 = .ok (.i2l, 1) := by decide +kernel
theorem dX5_cure_2 : decode cX5_cure 2 = .ok (.lconst 0, 1) := by decide +kernel
theorem dX5_cure_3 : decode cX5_cure 3 = .ok (.lconst 1, 1) := by decide +kernel
theorem dX5_cure_4 : decode cX5_cure 4 = .ok (.invokestatic 37, 3) := by decide +kernel
theorem dX5_cure_7 : decode cX5_cure 7 = .ok (.ifCond .ne 6, 3) := by decide +kernel
theorem dX5_cure_10 : decode cX5_cure 10 = .ok (.bipush (-102), 2) := by decide +kernel
theorem dX5_cure_12 : decode cX5_cure 12 = .ok (.ireturn, 1) := by decide +kernel
theorem dX5_cure_13 : decode cX5_cure 13 = .ok (.aload_n 0, 1) := by decide +kernel
theorem dX5_cure_14 : decode cX5_cure 14 = .ok (.invokevirtual 115, 3) := by decide +kernel
theorem dX5_cure_17 : decode cX5_cure 17 = .ok (.ifCond .eq 8, 3) := by decide +kernel
theorem dX5_cure_20 : decode cX5_cure 20 = .ok (.bipush (-103), 2) := by decide +kernel
theorem dX5_cure_22 : decode cX5_cure 22 = .ok (.goto 8, 3) := by decide +kernel
theorem dX5_cure_25 : decode cX5_cure 25 = .ok (.aload_n 0, 1) := by decide +kernel
theorem dX5_cure_26 : decode cX5_cure 26 = .ok (.iload_n 1, 1) := by decide +kernel
theorem dX5_cure_27 : decode cX5_cure 27 = .ok (.invokevirtual 134, 3) := by decide +kernel
theorem dX5_cure_30 : decode cX5_cure 30 = .ok (.ireturn, 1) := by decide +kernel
set_option maxRecDepth 20000 in
theorem ggX5_hear_X5_isChild : GoodIn wsX5_hear wsX5_isChild := goodIn_r _ [7, 8, 9, 10, 6, 11, 16, 17, 18, 19, 20, 21, 22, 23, 24, 25, 26, 27, 28, 29, 30, 31, 32, 33, 34, 35] (by decide +kernel) (by decide +kernel)
set_option maxRecDepth 20000 in
theorem gX5_hear_X5_isChild : GoodIn wsX5_hear (wsV RX5 98 RX5 yX5_isChild wsX5_isChild) := goodIn_app (goodIn_of _ (by decide +kernel)) ggX5_hear_X5_isChild
set_option maxRecDepth 20000 in
theorem ggX5_hear_X5_isRule : GoodIn wsX5_hear wsX5_isRule := goodIn_r _ [14, 15, 9, 10, 6, 11] (by decide +kernel) (by decide +kernel)
set_option maxRecDepth 20000 in
theorem gX5_hear_X5_isRule : GoodIn wsX5_hear (va_wsS RX5 106 yX5_isRule wsX5_isRule) := goodIn_app (goodIn_of _ (by decide +kernel)) ggX5_hear_X5_isRule
theorem dX5_hear_0 : decode cX5_hear 0 = .ok (.aload_n 0, 1) := by decide +kernel
theorem dX5_hear_1 : decode cX5_hear 1 = .ok (.iload_n 1, 1) := by decide +kernel
theorem dX5_hear_2 : decode cX5_hear 2 = .ok (.invokevirtual 98, 3) := by decide +kernel
theorem dX5_hear_5 : decode cX5_hear 5 = .ok (.ifCond .ne 6, 3) := by decide +kernel
theorem dX5_hear_8 : decode cX5_hear 8 = .ok (.bipush (-101), 2) := by decide +kernel
theorem dX5_hear_10 : decode cX5_hear 10 = .ok (.ireturn, 1) := by decide +kernel
theorem dX5_hear_11 : decode cX5_hear 11 = .ok (.iload_n 2, 1) := by decide +kernel
theorem dX5_hear_12 : decode cX5_hear 12 = .ok (.invokestatic 106, 3) := by decide +kernel
theorem dX5_hear_15 : decode cX5_hear 15 = .ok (.ifCond .eq 10, 3) := by decide +kernel
theorem dX5_hear_18 : decode cX5_hear 18 = .ok (.iload_n 3, 1) := by decide +kernel
theorem dX5_hear_19 : decode cX5_hear 19 = .ok (.invokestatic 106, 3) := by decide +kernel
theorem dX5_hear_22 : decode cX5_hear 22 = .ok (.ifCond .ne 6, 3) := by decide +kernel
theorem dX5_hear_25 : decode cX5_hear 25 = .ok (.bipush (-102), 2) := by decide +kernel
theorem dX5_hear_27 : decode cX5_hear 27 = .ok (.ireturn, 1) := by decide +kernel
theorem dX5_hear_28 : decode cX5_hear 28 = .ok (.aload_n 0, 1) := by decide +kernel
theorem dX5_hear_29 : decode cX5_hear 29 = .ok (.getfield 69, 3) := by decide +kernel
theorem dX5_hear_32 : decode cX5_hear 32 = .ok (.bipush 8, 2) := by decide +kernel
theorem dX5_hear_34 : decode cX5_hear 34 = .ok (.if_icmp .ne 6, 3) := by decide +kernel
theorem dX5_hear_37 : decode cX5_hear 37 = .ok (.bipush (-104), 2) := by decide +kernel
theorem dX5_hear_39 : decode cX5_hear 39 = .ok (.ireturn, 1) := by decide +kernel
theorem dX5_hear_40 : decode cX5_hear 40 = .ok (.aload_n 0, 1) := by decide +kernel
theorem dX5_hear_41 : decode cX5_hear 41 = .ok (.getfield 16, 3) := by decide +kernel
theorem dX5_hear_44 : decode cX5_hear 44 = .ok (.iconst 3, 1) := by decide +kernel
theorem dX5_hear_45 : decode cX5_hear 45 = .ok (.aload_n 0, 1) := by decide +kernel
theorem dX5_hear_46 : decode cX5_hear 46 = .ok (.getfield 69, 3) := by decide +kernel
theorem dX5_hear_49 : decode cX5_hear 49 = .ok (.imul, 1) := by decide +kernel
theorem dX5_hear_50 : decode cX5_hear 50 = .ok (.iload_n 1, 1) := by decide +kernel
theorem dX5_hear_51 : decode cX5_hear 51 = .ok (.iastore, 1) := by decide +kernel
theorem dX5_hear_52 : decode cX5_hear 52 = .ok (.aload_n 0, 1) := by decide +kernel
theorem dX5_hear_53 : decode cX5_hear 53 = .ok (.getfield 16, 3) := by decide +kernel
theorem dX5_hear_56 : decode cX5_hear 56 = .ok (.iconst 3, 1) := by decide +kernel
theorem dX5_hear_57 : decode cX5_hear 57 = .ok (.aload_n 0, 1) := by decide +kernel
theorem dX5_hear_58 : decode cX5_hear 58 = .ok (.getfield 69, 3) := by decide +kernel
theorem dX5_hear_61 : decode cX5_hear 61 = .ok (.imul, 1) := by decide +kernel
theorem dX5_hear_62 : decode cX5_hear 62 = .ok (.iconst 1, 1) := by decide +kernel
theorem dX5_hear_63 : decode cX5_hear 63 = .ok (.iadd, 1) := by decide +kernel
theorem dX5_hear_64 : decode cX5_hear 64 = .ok (.iload_n 2, 1) := by decide +kernel
theorem dX5_hear_65 : decode cX5_hear 65 = .ok (.iastore, 1) := by decide +kernel
theorem dX5_hear_66 : decode cX5_hear 66 = .ok (.aload_n 0, 1) := by decide +kernel
theorem dX5_hear_67 : decode cX5_hear 67 = .ok (.getfield 16, 3) := by decide +kernel
theorem dX5_hear_70 : decode cX5_hear 70 = .ok (.iconst 3, 1) := by decide +kernel
theorem dX5_hear_71 : decode cX5_hear 71 = .ok (.aload_n 0, 1) := by decide +kernel
theorem dX5_hear_72 : decode cX5_hear 72 = .ok (.getfield 69, 3) := by decide +kernel
theorem dX5_hear_75 : decode cX5_hear 75 = .ok (.imul, 1) := by decide +kernel
theorem dX5_hear_76 : decode cX5_hear 76 = .ok (.iconst 2, 1) := by decide +kernel
theorem dX5_hear_77 : decode cX5_hear 77 = .ok (.iadd, 1) := by decide +kernel
theorem dX5_hear_78 : decode cX5_hear 78 = .ok (.iload_n 3, 1) := by decide +kernel
theorem dX5_hear_79 : decode cX5_hear 79 = .ok (.iastore, 1) := by decide +kernel
theorem dX5_hear_80 : decode cX5_hear 80 = .ok (.aload_n 0, 1) := by decide +kernel
theorem dX5_hear_81 : decode cX5_hear 81 = .ok (.dup, 1) := by decide +kernel
theorem dX5_hear_82 : decode cX5_hear 82 = .ok (.getfield 69, 3) := by decide +kernel
theorem dX5_hear_85 : decode cX5_hear 85 = .ok (.iconst 1, 1) := by decide +kernel
theorem dX5_hear_86 : decode cX5_hear 86 = .ok (.iadd, 1) := by decide +kernel
theorem dX5_hear_87 : decode cX5_hear 87 = .ok (.putfield 69, 3) := by decide +kernel
theorem dX5_hear_90 : decode cX5_hear 90 = .ok (.aload_n 0, 1) := by decide +kernel
theorem dX5_hear_91 : decode cX5_hear 91 = .ok (.getfield 69, 3) := by decide +kernel
theorem dX5_hear_94 : decode cX5_hear 94 = .ok (.ireturn, 1) := by decide +kernel
theorem dX5_forget_0 : decode cX5_forget 0 = .ok (.aload_n 0, 1) := by decide +kernel
theorem dX5_forget_1 : decode cX5_forget 1 = .ok (.getfield 69, 3) := by decide +kernel
theorem dX5_forget_4 : decode cX5_forget 4 = .ok (.istore_n 1, 1) := by decide +kernel
theorem dX5_forget_5 : decode cX5_forget 5 = .ok (.aload_n 0, 1) := by decide +kernel
theorem dX5_forget_6 : decode cX5_forget 6 = .ok (.iconst 0, 1) := by decide +kernel
theorem dX5_forget_7 : decode cX5_forget 7 = .ok (.putfield 69, 3) := by decide +kernel
theorem dX5_forget_10 : decode cX5_forget 10 = .ok (.iload_n 1, 1) := by decide +kernel
theorem dX5_forget_11 : decode cX5_forget 11 = .ok (.ireturn, 1) := by decide +kernel
set_option maxRecDepth 20000 in
theorem ggX5_slipsOf_X5_teachesBy : GoodIn wsX5_slipsOf wsX5_teachesBy := goodIn_r _ [7] (by decide +kernel) (by decide +kernel)
set_option maxRecDepth 20000 in
theorem gX5_slipsOf_X5_teachesBy : GoodIn wsX5_slipsOf (va_wsS RX5 77 yX5_teachesBy wsX5_teachesBy) := goodIn_app (goodIn_of _ (by decide +kernel)) ggX5_slipsOf_X5_teachesBy
theorem dX5_slipsOf_0 : decode cX5_slipsOf 0 = .ok (.iconst 0, 1) := by decide +kernel
theorem dX5_slipsOf_1 : decode cX5_slipsOf 1 = .ok (.istore_n 2, 1) := by decide +kernel
theorem dX5_slipsOf_2 : decode cX5_slipsOf 2 = .ok (.iconst 0, 1) := by decide +kernel
theorem dX5_slipsOf_3 : decode cX5_slipsOf 3 = .ok (.istore_n 3, 1) := by decide +kernel
theorem dX5_slipsOf_4 : decode cX5_slipsOf 4 = .ok (.iload_n 3, 1) := by decide +kernel
theorem dX5_slipsOf_5 : decode cX5_slipsOf 5 = .ok (.bipush 10, 2) := by decide +kernel
theorem dX5_slipsOf_7 : decode cX5_slipsOf 7 = .ok (.if_icmp .ge 119, 3) := by decide +kernel
theorem dX5_slipsOf_10 : decode cX5_slipsOf 10 = .ok (.iconst 1, 1) := by decide +kernel
theorem dX5_slipsOf_11 : decode cX5_slipsOf 11 = .ok (.istore 4, 2) := by decide +kernel
theorem dX5_slipsOf_13 : decode cX5_slipsOf 13 = .ok (.iconst 0, 1) := by decide +kernel
theorem dX5_slipsOf_14 : decode cX5_slipsOf 14 = .ok (.istore 5, 2) := by decide +kernel
theorem dX5_slipsOf_16 : decode cX5_slipsOf 16 = .ok (.iload 5, 2) := by decide +kernel
theorem dX5_slipsOf_18 : decode cX5_slipsOf 18 = .ok (.aload_n 0, 1) := by decide +kernel
theorem dX5_slipsOf_19 : decode cX5_slipsOf 19 = .ok (.getfield 69, 3) := by decide +kernel
theorem dX5_slipsOf_22 : decode cX5_slipsOf 22 = .ok (.if_icmp .ge 83, 3) := by decide +kernel
theorem dX5_slipsOf_25 : decode cX5_slipsOf 25 = .ok (.aload_n 0, 1) := by decide +kernel
theorem dX5_slipsOf_26 : decode cX5_slipsOf 26 = .ok (.getfield 13, 3) := by decide +kernel
theorem dX5_slipsOf_29 : decode cX5_slipsOf 29 = .ok (.iconst 4, 1) := by decide +kernel
theorem dX5_slipsOf_30 : decode cX5_slipsOf 30 = .ok (.iload_n 1, 1) := by decide +kernel
theorem dX5_slipsOf_31 : decode cX5_slipsOf 31 = .ok (.imul, 1) := by decide +kernel
theorem dX5_slipsOf_32 : decode cX5_slipsOf 32 = .ok (.iaload, 1) := by decide +kernel
theorem dX5_slipsOf_33 : decode cX5_slipsOf 33 = .ok (.iload_n 3, 1) := by decide +kernel
theorem dX5_slipsOf_34 : decode cX5_slipsOf 34 = .ok (.aload_n 0, 1) := by decide +kernel
theorem dX5_slipsOf_35 : decode cX5_slipsOf 35 = .ok (.getfield 16, 3) := by decide +kernel
theorem dX5_slipsOf_38 : decode cX5_slipsOf 38 = .ok (.iconst 3, 1) := by decide +kernel
theorem dX5_slipsOf_39 : decode cX5_slipsOf 39 = .ok (.iload 5, 2) := by decide +kernel
theorem dX5_slipsOf_41 : decode cX5_slipsOf 41 = .ok (.imul, 1) := by decide +kernel
theorem dX5_slipsOf_42 : decode cX5_slipsOf 42 = .ok (.iconst 1, 1) := by decide +kernel
theorem dX5_slipsOf_43 : decode cX5_slipsOf 43 = .ok (.iadd, 1) := by decide +kernel
theorem dX5_slipsOf_44 : decode cX5_slipsOf 44 = .ok (.iaload, 1) := by decide +kernel
theorem dX5_slipsOf_45 : decode cX5_slipsOf 45 = .ok (.invokestatic 77, 3) := by decide +kernel
theorem dX5_slipsOf_48 : decode cX5_slipsOf 48 = .ok (.aload_n 0, 1) := by decide +kernel
theorem dX5_slipsOf_49 : decode cX5_slipsOf 49 = .ok (.getfield 16, 3) := by decide +kernel
theorem dX5_slipsOf_52 : decode cX5_slipsOf 52 = .ok (.iconst 3, 1) := by decide +kernel
theorem dX5_slipsOf_53 : decode cX5_slipsOf 53 = .ok (.iload 5, 2) := by decide +kernel
theorem dX5_slipsOf_55 : decode cX5_slipsOf 55 = .ok (.imul, 1) := by decide +kernel
theorem dX5_slipsOf_56 : decode cX5_slipsOf 56 = .ok (.iconst 2, 1) := by decide +kernel
theorem dX5_slipsOf_57 : decode cX5_slipsOf 57 = .ok (.iadd, 1) := by decide +kernel
theorem dX5_slipsOf_58 : decode cX5_slipsOf 58 = .ok (.iaload, 1) := by decide +kernel
theorem dX5_slipsOf_59 : decode cX5_slipsOf 59 = .ok (.if_icmp .ne 7, 3) := by decide +kernel
theorem dX5_slipsOf_62 : decode cX5_slipsOf 62 = .ok (.iconst 1, 1) := by decide +kernel
theorem dX5_slipsOf_63 : decode cX5_slipsOf 63 = .ok (.goto 4, 3) := by decide +kernel
theorem dX5_slipsOf_66 : decode cX5_slipsOf 66 = .ok (.iconst 0, 1) := by decide +kernel
theorem dX5_slipsOf_67 : decode cX5_slipsOf 67 = .ok (.istore 6, 2) := by decide +kernel
theorem dX5_slipsOf_69 : decode cX5_slipsOf 69 = .ok (.iload 4, 2) := by decide +kernel
theorem dX5_slipsOf_71 : decode cX5_slipsOf 71 = .ok (.ifCond .eq 25, 3) := by decide +kernel
theorem dX5_slipsOf_74 : decode cX5_slipsOf 74 = .ok (.aload_n 0, 1) := by decide +kernel
theorem dX5_slipsOf_75 : decode cX5_slipsOf 75 = .ok (.getfield 16, 3) := by decide +kernel
theorem dX5_slipsOf_78 : decode cX5_slipsOf 78 = .ok (.iconst 3, 1) := by decide +kernel
theorem dX5_slipsOf_79 : decode cX5_slipsOf 79 = .ok (.iload 5, 2) := by decide +kernel
theorem dX5_slipsOf_81 : decode cX5_slipsOf 81 = .ok (.imul, 1) := by decide +kernel
theorem dX5_slipsOf_82 : decode cX5_slipsOf 82 = .ok (.iaload, 1) := by decide +kernel
theorem dX5_slipsOf_83 : decode cX5_slipsOf 83 = .ok (.iload_n 1, 1) := by decide +kernel
theorem dX5_slipsOf_84 : decode cX5_slipsOf 84 = .ok (.if_icmp .ne 8, 3) := by decide +kernel
theorem dX5_slipsOf_87 : decode cX5_slipsOf 87 = .ok (.iload 6, 2) := by decide +kernel
theorem dX5_slipsOf_89 : decode cX5_slipsOf 89 = .ok (.ifCond .eq 7, 3) := by decide +kernel
theorem dX5_slipsOf_92 : decode cX5_slipsOf 92 = .ok (.iconst 1, 1) := by decide +kernel
theorem dX5_slipsOf_93 : decode cX5_slipsOf 93 = .ok (.goto 4, 3) := by decide +kernel
theorem dX5_slipsOf_96 : decode cX5_slipsOf 96 = .ok (.iconst 0, 1) := by decide +kernel
theorem dX5_slipsOf_97 : decode cX5_slipsOf 97 = .ok (.istore 4, 2) := by decide +kernel
theorem dX5_slipsOf_99 : decode cX5_slipsOf 99 = .ok (.iinc 5 1, 3) := by decide +kernel
theorem dX5_slipsOf_102 : decode cX5_slipsOf 102 = .ok (.goto (-86), 3) := by decide +kernel
theorem dX5_slipsOf_105 : decode cX5_slipsOf 105 = .ok (.iload_n 2, 1) := by decide +kernel
theorem dX5_slipsOf_106 : decode cX5_slipsOf 106 = .ok (.iload 4, 2) := by decide +kernel
theorem dX5_slipsOf_108 : decode cX5_slipsOf 108 = .ok (.ifCond .eq 9, 3) := by decide +kernel
theorem dX5_slipsOf_111 : decode cX5_slipsOf 111 = .ok (.iconst 1, 1) := by decide +kernel
theorem dX5_slipsOf_112 : decode cX5_slipsOf 112 = .ok (.iload_n 3, 1) := by decide +kernel
theorem dX5_slipsOf_113 : decode cX5_slipsOf 113 = .ok (.ishl, 1) := by decide +kernel
theorem dX5_slipsOf_114 : decode cX5_slipsOf 114 = .ok (.goto 4, 3) := by decide +kernel
theorem dX5_slipsOf_117 : decode cX5_slipsOf 117 = .ok (.iconst 0, 1) := by decide +kernel
theorem dX5_slipsOf_118 : decode cX5_slipsOf 118 = .ok (.ior, 1) := by decide +kernel
theorem dX5_slipsOf_119 : decode cX5_slipsOf 119 = .ok (.istore_n 2, 1) := by decide +kernel
theorem dX5_slipsOf_120 : decode cX5_slipsOf 120 = .ok (.iinc 3 1, 3) := by decide +kernel
theorem dX5_slipsOf_123 : decode cX5_slipsOf 123 = .ok (.goto (-119), 3) := by decide +kernel
theorem dX5_slipsOf_126 : decode cX5_slipsOf 126 = .ok (.iload_n 2, 1) := by decide +kernel
theorem dX5_slipsOf_127 : decode cX5_slipsOf 127 = .ok (.ireturn, 1) := by decide +kernel
set_option maxRecDepth 20000 in
theorem ggX5_askOf_X5_slipsOf : GoodIn wsX5_askOf wsX5_slipsOf := goodIn_r _ [7, 8, 2, 9, 10, 11, 6, 12, 13, 14, 15, 16, 17, 18, 19, 20, 21, 22, 23, 24, 25, 26, 27, 28, 29, 30, 31, 32] (by decide +kernel) (by decide +kernel)
set_option maxRecDepth 20000 in
theorem gX5_askOf_X5_slipsOf : GoodIn wsX5_askOf (wsV RX5 92 RX5 yX5_slipsOf wsX5_slipsOf) := goodIn_app (goodIn_of _ (by decide +kernel)) ggX5_askOf_X5_slipsOf
set_option maxRecDepth 20000 in
theorem ggX5_askOf_X5_teachesBy : GoodIn wsX5_askOf wsX5_teachesBy := goodIn_r _ [12] (by decide +kernel) (by decide +kernel)
set_option maxRecDepth 20000 in
theorem gX5_askOf_X5_teachesBy : GoodIn wsX5_askOf (va_wsS RX5 77 yX5_teachesBy wsX5_teachesBy) := goodIn_app (goodIn_of _ (by decide +kernel)) ggX5_askOf_X5_teachesBy
theorem dX5_askOf_0 : decode cX5_askOf 0 = .ok (.aload_n 0, 1) := by decide +kernel
theorem dX5_askOf_1 : decode cX5_askOf 1 = .ok (.iload_n 1, 1) := by decide +kernel
theorem dX5_askOf_2 : decode cX5_askOf 2 = .ok (.invokevirtual 92, 3) := by decide +kernel
theorem dX5_askOf_5 : decode cX5_askOf 5 = .ok (.istore_n 2, 1) := by decide +kernel
theorem dX5_askOf_6 : decode cX5_askOf 6 = .ok (.iconst (-1), 1) := by decide +kernel
theorem dX5_askOf_7 : decode cX5_askOf 7 = .ok (.istore_n 3, 1) := by decide +kernel
theorem dX5_askOf_8 : decode cX5_askOf 8 = .ok (.bipush 11, 2) := by decide +kernel
theorem dX5_askOf_10 : decode cX5_askOf 10 = .ok (.istore 4, 2) := by decide +kernel
theorem dX5_askOf_12 : decode cX5_askOf 12 = .ok (.iconst 0, 1) := by decide +kernel
theorem dX5_askOf_13 : decode cX5_askOf 13 = .ok (.istore 5, 2) := by decide +kernel
theorem dX5_askOf_15 : decode cX5_askOf 15 = .ok (.iload 5, 2) := by decide +kernel
theorem dX5_askOf_17 : decode cX5_askOf 17 = .ok (.bipush 12, 2) := by decide +kernel
theorem dX5_askOf_19 : decode cX5_askOf 19 = .ok (.if_icmp .ge 145, 3) := by decide +kernel
theorem dX5_askOf_22 : decode cX5_askOf 22 = .ok (.iload_n 2, 1) := by decide +kernel
theorem dX5_askOf_23 : decode cX5_askOf 23 = .ok (.ifCond .eq 141, 3) := by decide +kernel
theorem dX5_askOf_26 : decode cX5_askOf 26 = .ok (.iconst 0, 1) := by decide +kernel
theorem dX5_askOf_27 : decode cX5_askOf 27 = .ok (.istore 6, 2) := by decide +kernel
theorem dX5_askOf_29 : decode cX5_askOf 29 = .ok (.iload 6, 2) := by decide +kernel
theorem dX5_askOf_31 : decode cX5_askOf 31 = .ok (.bipush 12, 2) := by decide +kernel
theorem dX5_askOf_33 : decode cX5_askOf 33 = .ok (.if_icmp .ge 17, 3) := by decide +kernel
theorem dX5_askOf_36 : decode cX5_askOf 36 = .ok (.aload_n 0, 1) := by decide +kernel
theorem dX5_askOf_37 : decode cX5_askOf 37 = .ok (.getfield 19, 3) := by decide +kernel
theorem dX5_askOf_40 : decode cX5_askOf 40 = .ok (.iload 6, 2) := by decide +kernel
theorem dX5_askOf_42 : decode cX5_askOf 42 = .ok (.iconst 0, 1) := by decide +kernel
theorem dX5_askOf_43 : decode cX5_askOf 43 = .ok (.iastore, 1) := by decide +kernel
theorem dX5_askOf_44 : decode cX5_askOf 44 = .ok (.iinc 6 1, 3) := by decide +kernel
theorem dX5_askOf_47 : decode cX5_askOf 47 = .ok (.goto (-18), 3) := by decide +kernel
theorem dX5_askOf_50 : decode cX5_askOf 50 = .ok (.iconst 0, 1) := by decide +kernel
theorem dX5_askOf_51 : decode cX5_askOf 51 = .ok (.istore 6, 2) := by decide +kernel
theorem dX5_askOf_53 : decode cX5_askOf 53 = .ok (.iconst 0, 1) := by decide +kernel
theorem dX5_askOf_54 : decode cX5_askOf 54 = .ok (.istore 7, 2) := by decide +kernel
theorem dX5_askOf_56 : decode cX5_askOf 56 = .ok (.iload 7, 2) := by decide +kernel
theorem dX5_askOf_58 : decode cX5_askOf 58 = .ok (.bipush 10, 2) := by decide +kernel
theorem dX5_askOf_60 : decode cX5_askOf 60 = .ok (.if_icmp .ge 68, 3) := by decide +kernel
theorem dX5_askOf_63 : decode cX5_askOf 63 = .ok (.aload_n 0, 1) := by decide +kernel
theorem dX5_askOf_64 : decode cX5_askOf 64 = .ok (.getfield 13, 3) := by decide +kernel
theorem dX5_askOf_67 : decode cX5_askOf 67 = .ok (.iconst 4, 1) := by decide +kernel
theorem dX5_askOf_68 : decode cX5_askOf 68 = .ok (.iload_n 1, 1) := by decide +kernel
theorem dX5_askOf_69 : decode cX5_askOf 69 = .ok (.imul, 1) := by decide +kernel
theorem dX5_askOf_70 : decode cX5_askOf 70 = .ok (.iaload, 1) := by decide +kernel
theorem dX5_askOf_71 : decode cX5_askOf 71 = .ok (.iload 7, 2) := by decide +kernel
theorem dX5_askOf_73 : decode cX5_askOf 73 = .ok (.iload 5, 2) := by decide +kernel
theorem dX5_askOf_75 : decode cX5_askOf 75 = .ok (.invokestatic 77, 3) := by decide +kernel
theorem dX5_askOf_78 : decode cX5_askOf 78 = .ok (.istore 8, 2) := by decide +kernel
theorem dX5_askOf_80 : decode cX5_askOf 80 = .ok (.aload_n 0, 1) := by decide +kernel
theorem dX5_askOf_81 : decode cX5_askOf 81 = .ok (.getfield 19, 3) := by decide +kernel
theorem dX5_askOf_84 : decode cX5_askOf 84 = .ok (.iload 8, 2) := by decide +kernel
theorem dX5_askOf_86 : decode cX5_askOf 86 = .ok (.dup2, 1) := by decide +kernel
theorem dX5_askOf_87 : decode cX5_askOf 87 = .ok (.iaload, 1) := by decide +kernel
theorem dX5_askOf_88 : decode cX5_askOf 88 = .ok (.iload_n 2, 1) := by decide +kernel
theorem dX5_askOf_89 : decode cX5_askOf 89 = .ok (.iload 7, 2) := by decide +kernel
theorem dX5_askOf_91 : decode cX5_askOf 91 = .ok (.ishr, 1) := by decide +kernel
theorem dX5_askOf_92 : decode cX5_askOf 92 = .ok (.iconst 1, 1) := by decide +kernel
theorem dX5_askOf_93 : decode cX5_askOf 93 = .ok (.iand, 1) := by decide +kernel
theorem dX5_askOf_94 : decode cX5_askOf 94 = .ok (.iadd, 1) := by decide +kernel
theorem dX5_askOf_95 : decode cX5_askOf 95 = .ok (.iastore, 1) := by decide +kernel
theorem dX5_askOf_96 : decode cX5_askOf 96 = .ok (.aload_n 0, 1) := by decide +kernel
theorem dX5_askOf_97 : decode cX5_askOf 97 = .ok (.getfield 19, 3) := by decide +kernel
theorem dX5_askOf_100 : decode cX5_askOf 100 = .ok (.iload 8, 2) := by decide +kernel
theorem dX5_askOf_102 : decode cX5_askOf 102 = .ok (.iaload, 1) := by decide +kernel
theorem dX5_askOf_103 : decode cX5_askOf 103 = .ok (.iload 6, 2) := by decide +kernel
theorem dX5_askOf_105 : decode cX5_askOf 105 = .ok (.if_icmp .le 13, 3) := by decide +kernel
theorem dX5_askOf_108 : decode cX5_askOf 108 = .ok (.aload_n 0, 1) := by decide +kernel
theorem dX5_askOf_109 : decode cX5_askOf 109 = .ok (.getfield 19, 3) := by decide +kernel
theorem dX5_askOf_112 : decode cX5_askOf 112 = .ok (.iload 8, 2) := by decide +kernel
theorem dX5_askOf_114 : decode cX5_askOf 114 = .ok (.iaload, 1) := by decide +kernel
theorem dX5_askOf_115 : decode cX5_askOf 115 = .ok (.goto 5, 3) := by decide +kernel
theorem dX5_askOf_118 : decode cX5_askOf 118 = .ok (.iload 6, 2) := by decide +kernel
theorem dX5_askOf_120 : decode cX5_askOf 120 = .ok (.istore 6, 2) := by decide +kernel
theorem dX5_askOf_122 : decode cX5_askOf 122 = .ok (.iinc 7 1, 3) := by decide +kernel
theorem dX5_askOf_125 : decode cX5_askOf 125 = .ok (.goto (-69), 3) := by decide +kernel
theorem dX5_askOf_128 : decode cX5_askOf 128 = .ok (.iload 6, 2) := by decide +kernel
theorem dX5_askOf_130 : decode cX5_askOf 130 = .ok (.iload 4, 2) := by decide +kernel
theorem dX5_askOf_132 : decode cX5_askOf 132 = .ok (.if_icmp .ge 8, 3) := by decide +kernel
theorem dX5_askOf_135 : decode cX5_askOf 135 = .ok (.iload 5, 2) := by decide +kernel
theorem dX5_askOf_137 : decode cX5_askOf 137 = .ok (.goto 4, 3) := by decide +kernel
theorem dX5_askOf_140 : decode cX5_askOf 140 = .ok (.iload_n 3, 1) := by decide +kernel
theorem dX5_askOf_141 : decode cX5_askOf 141 = .ok (.istore_n 3, 1) := by decide +kernel
theorem dX5_askOf_142 : decode cX5_askOf 142 = .ok (.iload 6, 2) := by decide +kernel
theorem dX5_askOf_144 : decode cX5_askOf 144 = .ok (.iload 4, 2) := by decide +kernel
theorem dX5_askOf_146 : decode cX5_askOf 146 = .ok (.if_icmp .ge 8, 3) := by decide +kernel
theorem dX5_askOf_149 : decode cX5_askOf 149 = .ok (.iload 6, 2) := by decide +kernel
theorem dX5_askOf_151 : decode cX5_askOf 151 = .ok (.goto 5, 3) := by decide +kernel
theorem dX5_askOf_154 : decode cX5_askOf 154 = .ok (.iload 4, 2) := by decide +kernel
theorem dX5_askOf_156 : decode cX5_askOf 156 = .ok (.istore 4, 2) := by decide +kernel
theorem dX5_askOf_158 : decode cX5_askOf 158 = .ok (.iinc 5 1, 3) := by decide +kernel
theorem dX5_askOf_161 : decode cX5_askOf 161 = .ok (.goto (-146), 3) := by decide +kernel
theorem dX5_askOf_164 : decode cX5_askOf 164 = .ok (.iload_n 3, 1) := by decide +kernel
theorem dX5_askOf_165 : decode cX5_askOf 165 = .ok (.ireturn, 1) := by decide +kernel
theorem dX5_draw_0 : decode cX5_draw 0 = .ok (.aload_n 0, 1) := by decide +kernel
theorem dX5_draw_1 : decode cX5_draw 1 = .ok (.ldc2_w 137, 3) := by decide +kernel
theorem dX5_draw_4 : decode cX5_draw 4 = .ok (.aload_n 0, 1) := by decide +kernel
theorem dX5_draw_5 : decode cX5_draw 5 = .ok (.getfield 139, 3) := by decide +kernel
theorem dX5_draw_8 : decode cX5_draw 8 = .ok (.i2l, 1) := by decide +kernel
theorem dX5_draw_9 : decode cX5_draw 9 = .ok (.lmul, 1) := by decide +kernel
theorem dX5_draw_10 : decode cX5_draw 10 = .ok (.ldc2_w 142, 3) := by decide +kernel
theorem dX5_draw_13 : decode cX5_draw 13 = .ok (.ladd, 1) := by decide +kernel
theorem dX5_draw_14 : decode cX5_draw 14 = .ok (.ldc2_w 144, 3) := by decide +kernel
theorem dX5_draw_17 : decode cX5_draw 17 = .ok (.land, 1) := by decide +kernel
theorem dX5_draw_18 : decode cX5_draw 18 = .ok (.l2i, 1) := by decide +kernel
theorem dX5_draw_19 : decode cX5_draw 19 = .ok (.putfield 139, 3) := by decide +kernel
theorem dX5_draw_22 : decode cX5_draw 22 = .ok (.aload_n 0, 1) := by decide +kernel
theorem dX5_draw_23 : decode cX5_draw 23 = .ok (.getfield 139, 3) := by decide +kernel
theorem dX5_draw_26 : decode cX5_draw 26 = .ok (.ldc 146, 2) := by decide +kernel
theorem dX5_draw_28 : decode cX5_draw 28 = .ok (.idiv, 1) := by decide +kernel
theorem dX5_draw_29 : decode cX5_draw 29 = .ok (.iload_n 1, 1) := by decide +kernel
theorem dX5_draw_30 : decode cX5_draw 30 = .ok (.irem, 1) := by decide +kernel
theorem dX5_draw_31 : decode cX5_draw 31 = .ok (.ireturn, 1) := by decide +kernel
set_option maxRecDepth 20000 in
theorem ggX5_terms_X5_in : GoodIn wsX5_terms wsX5_in := goodIn_r _ [11] (by decide +kernel) (by decide +kernel)
set_option maxRecDepth 20000 in
theorem gX5_terms_X5_in : GoodIn wsX5_terms (va_wsS RX5 37 yX5_in wsX5_in) := goodIn_app (goodIn_of _ (by decide +kernel)) ggX5_terms_X5_in
set_option maxRecDepth 20000 in
theorem ggX5_terms_X5_lacks : GoodIn wsX5_terms wsX5_lacks := goodIn_r _ [15, 6, 46, 47, 48, 49, 50, 51, 52, 53, 54, 55, 56, 57, 58, 59, 60, 61, 62, 63, 64, 65] (by decide +kernel) (by decide +kernel)
set_option maxRecDepth 20000 in
theorem gX5_terms_X5_lacks : GoodIn wsX5_terms (wsV RX5 115 RX5 yX5_lacks wsX5_lacks) := goodIn_app (goodIn_of _ (by decide +kernel)) ggX5_terms_X5_lacks
set_option maxRecDepth 20000 in
theorem ggX5_terms_X5_copy : GoodIn wsX5_terms wsX5_copy := goodIn_r _ [18] (by decide +kernel) (by decide +kernel)
set_option maxRecDepth 20000 in
theorem gX5_terms_X5_copy : GoodIn wsX5_terms (va_wsS RX5 151 yX5_copy wsX5_copy) := goodIn_app (goodIn_of _ (by decide +kernel)) ggX5_terms_X5_copy
set_option maxRecDepth 20000 in
theorem ggX5_terms_X5_draw : GoodIn wsX5_terms wsX5_draw := goodIn_r _ [22, 23, 5, 24, 25, 26, 46, 47, 48, 49, 50, 51, 52, 53, 54, 55, 56, 57, 58, 59, 60, 61, 62, 63, 64, 65] (by decide +kernel) (by decide +kernel)
set_option maxRecDepth 20000 in
theorem gX5_terms_X5_draw : GoodIn wsX5_terms (wsV RX5 155 RX5 yX5_draw wsX5_draw) := goodIn_app (goodIn_of _ (by decide +kernel)) ggX5_terms_X5_draw
set_option maxRecDepth 20000 in
theorem ggX5_terms_X5_goesUp : GoodIn wsX5_terms wsX5_goesUp := goodIn_r _ [30, 7, 6, 3, 31, 32, 33, 10, 34, 35, 36, 37, 38, 39, 40, 41, 42, 43, 44, 45, 46, 47, 48, 49, 50, 51, 52, 53, 54, 55, 56, 57, 58, 59, 60, 61, 62, 63, 64, 65] (by decide +kernel) (by decide +kernel)
set_option maxRecDepth 20000 in
theorem gX5_terms_X5_goesUp : GoodIn wsX5_terms (wsV RX5 119 RX5 yX5_goesUp wsX5_goesUp) := goodIn_app (goodIn_of _ (by decide +kernel)) ggX5_terms_X5_goesUp
theorem dX5_terms_0 : decode cX5_terms 0 = .ok (.iload_n 1, 1) := by decide +kernel
theorem dX5_terms_1 : decode cX5_terms 1 = .ok (.i2l, 1) := by decide +kernel
theorem dX5_terms_2 : decode cX5_terms 2 = .ok (.lconst 1, 1) := by decide +kernel
theorem dX5_terms_3 : decode cX5_terms 3 = .ok (.ldc2_w 147, 3) := by decide +kernel
theorem dX5_terms_6 : decode cX5_terms 6 = .ok (.invokestatic 37, 3) := by decide +kernel
theorem dX5_terms_9 : decode cX5_terms 9 = .ok (.ifCond .eq 19, 3) := by decide +kernel
theorem dX5_terms_12 : decode cX5_terms 12 = .ok (.iload_n 2, 1) := by decide +kernel
theorem dX5_terms_13 : decode cX5_terms 13 = .ok (.ifCond .lt 15, 3) := by decide +kernel
theorem dX5_terms_16 : decode cX5_terms 16 = .ok (.iload_n 3, 1) := by decide +kernel
theorem dX5_terms_17 : decode cX5_terms 17 = .ok (.i2l, 1) := by decide +kernel
theorem dX5_terms_18 : decode cX5_terms 18 = .ok (.lconst 0, 1) := by decide +kernel
theorem dX5_terms_19 : decode cX5_terms 19 = .ok (.ldc2_w 149, 3) := by decide +kernel
theorem dX5_terms_22 : decode cX5_terms 22 = .ok (.invokestatic 37, 3) := by decide +kernel
theorem dX5_terms_25 : decode cX5_terms 25 = .ok (.ifCond .ne 6, 3) := by decide +kernel
theorem dX5_terms_28 : decode cX5_terms 28 = .ok (.bipush (-102), 2) := by decide +kernel
theorem dX5_terms_30 : decode cX5_terms 30 = .ok (.ireturn, 1) := by decide +kernel
theorem dX5_terms_31 : decode cX5_terms 31 = .ok (.aload_n 0, 1) := by decide +kernel
theorem dX5_terms_32 : decode cX5_terms 32 = .ok (.invokevirtual 115, 3) := by decide +kernel
theorem dX5_terms_35 : decode cX5_terms 35 = .ok (.ifCond .eq 6, 3) := by decide +kernel
theorem dX5_terms_38 : decode cX5_terms 38 = .ok (.bipush (-103), 2) := by decide +kernel
theorem dX5_terms_40 : decode cX5_terms 40 = .ok (.ireturn, 1) := by decide +kernel
theorem dX5_terms_41 : decode cX5_terms 41 = .ok (.aload_n 0, 1) := by decide +kernel
theorem dX5_terms_42 : decode cX5_terms 42 = .ok (.getfield 13, 3) := by decide +kernel
theorem dX5_terms_45 : decode cX5_terms 45 = .ok (.aload_n 0, 1) := by decide +kernel
theorem dX5_terms_46 : decode cX5_terms 46 = .ok (.getfield 22, 3) := by decide +kernel
theorem dX5_terms_49 : decode cX5_terms 49 = .ok (.invokestatic 151, 3) := by decide +kernel
theorem dX5_terms_52 : decode cX5_terms 52 = .ok (.aload_n 0, 1) := by decide +kernel
theorem dX5_terms_53 : decode cX5_terms 53 = .ok (.iload_n 2, 1) := by decide +kernel
theorem dX5_terms_54 : decode cX5_terms 54 = .ok (.putfield 139, 3) := by decide +kernel
theorem dX5_terms_57 : decode cX5_terms 57 = .ok (.iconst 0, 1) := by decide +kernel
theorem dX5_terms_58 : decode cX5_terms 58 = .ok (.istore 4, 2) := by decide +kernel
theorem dX5_terms_60 : decode cX5_terms 60 = .ok (.iconst 0, 1) := by decide +kernel
theorem dX5_terms_61 : decode cX5_terms 61 = .ok (.istore 5, 2) := by decide +kernel
theorem dX5_terms_63 : decode cX5_terms 63 = .ok (.iload 5, 2) := by decide +kernel
theorem dX5_terms_65 : decode cX5_terms 65 = .ok (.iload_n 1, 1) := by decide +kernel
theorem dX5_terms_66 : decode cX5_terms 66 = .ok (.if_icmp .ge 97, 3) := by decide +kernel
theorem dX5_terms_69 : decode cX5_terms 69 = .ok (.aload_n 0, 1) := by decide +kernel
theorem dX5_terms_70 : decode cX5_terms 70 = .ok (.getfield 13, 3) := by decide +kernel
theorem dX5_terms_73 : decode cX5_terms 73 = .ok (.iconst 2, 1) := by decide +kernel
theorem dX5_terms_74 : decode cX5_terms 74 = .ok (.aload_n 0, 1) := by decide +kernel
theorem dX5_terms_75 : decode cX5_terms 75 = .ok (.bipush 12, 2) := by decide +kernel
theorem dX5_terms_77 : decode cX5_terms 77 = .ok (.invokevirtual 155, 3) := by decide +kernel
theorem dX5_terms_80 : decode cX5_terms 80 = .ok (.iastore, 1) := by decide +kernel
theorem dX5_terms_81 : decode cX5_terms 81 = .ok (.aload_n 0, 1) := by decide +kernel
theorem dX5_terms_82 : decode cX5_terms 82 = .ok (.aload_n 0, 1) := by decide +kernel
theorem dX5_terms_83 : decode cX5_terms 83 = .ok (.getfield 60, 3) := by decide +kernel
theorem dX5_terms_86 : decode cX5_terms 86 = .ok (.iconst 1, 1) := by decide +kernel
theorem dX5_terms_87 : decode cX5_terms 87 = .ok (.iadd, 1) := by decide +kernel
theorem dX5_terms_88 : decode cX5_terms 88 = .ok (.invokevirtual 155, 3) := by decide +kernel
theorem dX5_terms_91 : decode cX5_terms 91 = .ok (.istore 6, 2) := by decide +kernel
theorem dX5_terms_93 : decode cX5_terms 93 = .ok (.iconst 0, 1) := by decide +kernel
theorem dX5_terms_94 : decode cX5_terms 94 = .ok (.istore 7, 2) := by decide +kernel
theorem dX5_terms_96 : decode cX5_terms 96 = .ok (.iload 7, 2) := by decide +kernel
theorem dX5_terms_98 : decode cX5_terms 98 = .ok (.aload_n 0, 1) := by decide +kernel
theorem dX5_terms_99 : decode cX5_terms 99 = .ok (.getfield 60, 3) := by decide +kernel
theorem dX5_terms_102 : decode cX5_terms 102 = .ok (.if_icmp .ge 32, 3) := by decide +kernel
theorem dX5_terms_105 : decode cX5_terms 105 = .ok (.aload_n 0, 1) := by decide +kernel
theorem dX5_terms_106 : decode cX5_terms 106 = .ok (.getfield 13, 3) := by decide +kernel
theorem dX5_terms_109 : decode cX5_terms 109 = .ok (.iconst 4, 1) := by decide +kernel
theorem dX5_terms_110 : decode cX5_terms 110 = .ok (.iload 7, 2) := by decide +kernel
theorem dX5_terms_112 : decode cX5_terms 112 = .ok (.imul, 1) := by decide +kernel
theorem dX5_terms_113 : decode cX5_terms 113 = .ok (.iconst 3, 1) := by decide +kernel
theorem dX5_terms_114 : decode cX5_terms 114 = .ok (.iadd, 1) := by decide +kernel
theorem dX5_terms_115 : decode cX5_terms 115 = .ok (.iload 7, 2) := by decide +kernel
theorem dX5_terms_117 : decode cX5_terms 117 = .ok (.iload 6, 2) := by decide +kernel
theorem dX5_terms_119 : decode cX5_terms 119 = .ok (.if_icmp .ne 7, 3) := by decide +kernel
theorem dX5_terms_122 : decode cX5_terms 122 = .ok (.iconst 1, 1) := by decide +kernel
theorem dX5_terms_123 : decode cX5_terms 123 = .ok (.goto 4, 3) := by decide +kernel
theorem dX5_terms_126 : decode cX5_terms 126 = .ok (.iconst 0, 1) := by decide +kernel
theorem dX5_terms_127 : decode cX5_terms 127 = .ok (.iastore, 1) := by decide +kernel
theorem dX5_terms_128 : decode cX5_terms 128 = .ok (.iinc 7 1, 3) := by decide +kernel
theorem dX5_terms_131 : decode cX5_terms 131 = .ok (.goto (-35), 3) := by decide +kernel
theorem dX5_terms_134 : decode cX5_terms 134 = .ok (.aload_n 0, 1) := by decide +kernel
theorem dX5_terms_135 : decode cX5_terms 135 = .ok (.invokevirtual 119, 3) := by decide +kernel
theorem dX5_terms_138 : decode cX5_terms 138 = .ok (.istore 7, 2) := by decide +kernel
theorem dX5_terms_140 : decode cX5_terms 140 = .ok (.iload 4, 2) := by decide +kernel
theorem dX5_terms_142 : decode cX5_terms 142 = .ok (.aload_n 0, 1) := by decide +kernel
theorem dX5_terms_143 : decode cX5_terms 143 = .ok (.getfield 111, 3) := by decide +kernel
theorem dX5_terms_146 : decode cX5_terms 146 = .ok (.ifCond .eq 7, 3) := by decide +kernel
theorem dX5_terms_149 : decode cX5_terms 149 = .ok (.iconst 1, 1) := by decide +kernel
theorem dX5_terms_150 : decode cX5_terms 150 = .ok (.goto 4, 3) := by decide +kernel
theorem dX5_terms_153 : decode cX5_terms 153 = .ok (.iconst 0, 1) := by decide +kernel
theorem dX5_terms_154 : decode cX5_terms 154 = .ok (.iadd, 1) := by decide +kernel
theorem dX5_terms_155 : decode cX5_terms 155 = .ok (.istore 4, 2) := by decide +kernel
theorem dX5_terms_157 : decode cX5_terms 157 = .ok (.iinc 5 1, 3) := by decide +kernel
theorem dX5_terms_160 : decode cX5_terms 160 = .ok (.goto (-97), 3) := by decide +kernel
theorem dX5_terms_163 : decode cX5_terms 163 = .ok (.aload_n 0, 1) := by decide +kernel
theorem dX5_terms_164 : decode cX5_terms 164 = .ok (.getfield 13, 3) := by decide +kernel
theorem dX5_terms_167 : decode cX5_terms 167 = .ok (.iconst 4, 1) := by decide +kernel
theorem dX5_terms_168 : decode cX5_terms 168 = .ok (.aload_n 0, 1) := by decide +kernel
theorem dX5_terms_169 : decode cX5_terms 169 = .ok (.getfield 60, 3) := by decide +kernel
theorem dX5_terms_172 : decode cX5_terms 172 = .ok (.imul, 1) := by decide +kernel
theorem dX5_terms_173 : decode cX5_terms 173 = .ok (.iconst 2, 1) := by decide +kernel
theorem dX5_terms_174 : decode cX5_terms 174 = .ok (.isub, 1) := by decide +kernel
theorem dX5_terms_175 : decode cX5_terms 175 = .ok (.iaload, 1) := by decide +kernel
theorem dX5_terms_176 : decode cX5_terms 176 = .ok (.istore 5, 2) := by decide +kernel
theorem dX5_terms_178 : decode cX5_terms 178 = .ok (.aload_n 0, 1) := by decide +kernel
theorem dX5_terms_179 : decode cX5_terms 179 = .ok (.getfield 22, 3) := by decide +kernel
theorem dX5_terms_182 : decode cX5_terms 182 = .ok (.aload_n 0, 1) := by decide +kernel
theorem dX5_terms_183 : decode cX5_terms 183 = .ok (.getfield 13, 3) := by decide +kernel
theorem dX5_terms_186 : decode cX5_terms 186 = .ok (.invokestatic 151, 3) := by decide +kernel
theorem dX5_terms_189 : decode cX5_terms 189 = .ok (.iload_n 3, 1) := by decide +kernel
theorem dX5_terms_190 : decode cX5_terms 190 = .ok (.ifCond .ne 8, 3) := by decide +kernel
theorem dX5_terms_193 : decode cX5_terms 193 = .ok (.iload 4, 2) := by decide +kernel
theorem dX5_terms_195 : decode cX5_terms 195 = .ok (.goto 19, 3) := by decide +kernel
theorem dX5_terms_198 : decode cX5_terms 198 = .ok (.iload_n 3, 1) := by decide +kernel
theorem dX5_terms_199 : decode cX5_terms 199 = .ok (.iconst 1, 1) := by decide +kernel
theorem dX5_terms_200 : decode cX5_terms 200 = .ok (.if_icmp .ne 10, 3) := by decide +kernel
theorem dX5_terms_203 : decode cX5_terms 203 = .ok (.iload 5, 2) := by decide +kernel
theorem dX5_terms_205 : decode cX5_terms 205 = .ok (.iconst 1, 1) := by decide +kernel
theorem dX5_terms_206 : decode cX5_terms 206 = .ok (.iadd, 1) := by decide +kernel
theorem dX5_terms_207 : decode cX5_terms 207 = .ok (.goto 7, 3) := by decide +kernel
theorem dX5_terms_210 : decode cX5_terms 210 = .ok (.aload_n 0, 1) := by decide +kernel
theorem dX5_terms_211 : decode cX5_terms 211 = .ok (.getfield 139, 3) := by decide +kernel
theorem dX5_terms_214 : decode cX5_terms 214 = .ok (.ireturn, 1) := by decide +kernel
set_option maxRecDepth 20000 in
theorem ggX5_image_X5_lacks : GoodIn wsX5_image wsX5_lacks := goodIn_r _ [17, 18, 22, 23, 24, 25, 26, 27, 28, 29, 30, 31, 32, 33, 34, 35, 36, 37, 38, 39, 40, 41] (by decide +kernel) (by decide +kernel)
set_option maxRecDepth 20000 in
theorem gX5_image_X5_lacks : GoodIn wsX5_image (wsV RX5 115 RX5 yX5_lacks wsX5_lacks) := goodIn_app (goodIn_of _ (by decide +kernel)) ggX5_image_X5_lacks
set_option maxRecDepth 20000 in
theorem ggX5_image_X5_copy : GoodIn wsX5_image wsX5_copy := goodIn_r _ [21] (by decide +kernel) (by decide +kernel)
set_option maxRecDepth 20000 in
theorem gX5_image_X5_copy : GoodIn wsX5_image (va_wsS RX5 151 yX5_copy wsX5_copy) := goodIn_app (goodIn_of _ (by decide +kernel)) ggX5_image_X5_copy
theorem dX5_image_0 : decode cX5_image 0 = .ok (.aload_n 0, 1) := by decide +kernel
theorem dX5_image_1 : decode cX5_image 1 = .ok (.invokevirtual 115, 3) := by decide +kernel
theorem dX5_image_4 : decode cX5_image 4 = .ok (.ifCond .eq 6, 3) := by decide +kernel
theorem dX5_image_7 : decode cX5_image 7 = .ok (.bipush (-103), 2) := by decide +kernel
theorem dX5_image_9 : decode cX5_image 9 = .ok (.ireturn, 1) := by decide +kernel
theorem dX5_image_10 : decode cX5_image 10 = .ok (.aload_n 0, 1) := by decide +kernel
theorem dX5_image_11 : decode cX5_image 11 = .ok (.getfield 13, 3) := by decide +kernel
theorem dX5_image_14 : decode cX5_image 14 = .ok (.aload_n 0, 1) := by decide +kernel
theorem dX5_image_15 : decode cX5_image 15 = .ok (.getfield 25, 3) := by decide +kernel
theorem dX5_image_18 : decode cX5_image 18 = .ok (.invokestatic 151, 3) := by decide +kernel
theorem dX5_image_21 : decode cX5_image 21 = .ok (.aload_n 0, 1) := by decide +kernel
theorem dX5_image_22 : decode cX5_image 22 = .ok (.getfield 16, 3) := by decide +kernel
theorem dX5_image_25 : decode cX5_image 25 = .ok (.aload_n 0, 1) := by decide +kernel
theorem dX5_image_26 : decode cX5_image 26 = .ok (.getfield 28, 3) := by decide +kernel
theorem dX5_image_29 : decode cX5_image 29 = .ok (.invokestatic 151, 3) := by decide +kernel
theorem dX5_image_32 : decode cX5_image 32 = .ok (.aload_n 0, 1) := by decide +kernel
theorem dX5_image_33 : decode cX5_image 33 = .ok (.aload_n 0, 1) := by decide +kernel
theorem dX5_image_34 : decode cX5_image 34 = .ok (.getfield 63, 3) := by decide +kernel
theorem dX5_image_37 : decode cX5_image 37 = .ok (.putfield 158, 3) := by decide +kernel
theorem dX5_image_40 : decode cX5_image 40 = .ok (.aload_n 0, 1) := by decide +kernel
theorem dX5_image_41 : decode cX5_image 41 = .ok (.aload_n 0, 1) := by decide +kernel
theorem dX5_image_42 : decode cX5_image 42 = .ok (.getfield 66, 3) := by decide +kernel
theorem dX5_image_45 : decode cX5_image 45 = .ok (.putfield 161, 3) := by decide +kernel
theorem dX5_image_48 : decode cX5_image 48 = .ok (.aload_n 0, 1) := by decide +kernel
theorem dX5_image_49 : decode cX5_image 49 = .ok (.aload_n 0, 1) := by decide +kernel
theorem dX5_image_50 : decode cX5_image 50 = .ok (.getfield 69, 3) := by decide +kernel
theorem dX5_image_53 : decode cX5_image 53 = .ok (.putfield 164, 3) := by decide +kernel
theorem dX5_image_56 : decode cX5_image 56 = .ok (.aload_n 0, 1) := by decide +kernel
theorem dX5_image_57 : decode cX5_image 57 = .ok (.aload_n 0, 1) := by decide +kernel
theorem dX5_image_58 : decode cX5_image 58 = .ok (.getfield 72, 3) := by decide +kernel
theorem dX5_image_61 : decode cX5_image 61 = .ok (.putfield 31, 3) := by decide +kernel
theorem dX5_image_64 : decode cX5_image 64 = .ok (.aload_n 0, 1) := by decide +kernel
theorem dX5_image_65 : decode cX5_image 65 = .ok (.getfield 63, 3) := by decide +kernel
theorem dX5_image_68 : decode cX5_image 68 = .ok (.ireturn, 1) := by decide +kernel
set_option maxRecDepth 20000 in
theorem ggX5_restore_X5_copy : GoodIn wsX5_restore wsX5_copy := goodIn_r _ [16] (by decide +kernel) (by decide +kernel)
set_option maxRecDepth 20000 in
theorem gX5_restore_X5_copy : GoodIn wsX5_restore (va_wsS RX5 151 yX5_copy wsX5_copy) := goodIn_app (goodIn_of _ (by decide +kernel)) ggX5_restore_X5_copy
theorem dX5_restore_0 : decode cX5_restore 0 = .ok (.aload_n 0, 1) := by decide +kernel
theorem dX5_restore_1 : decode cX5_restore 1 = .ok (.getfield 31, 3) := by decide +kernel
theorem dX5_restore_4 : decode cX5_restore 4 = .ok (.aload_n 0, 1) := by decide +kernel
theorem dX5_restore_5 : decode cX5_restore 5 = .ok (.getfield 72, 3) := by decide +kernel
theorem dX5_restore_8 : decode cX5_restore 8 = .ok (.if_icmp .eq 6, 3) := by decide +kernel
theorem dX5_restore_11 : decode cX5_restore 11 = .ok (.bipush (-103), 2) := by decide +kernel
theorem dX5_restore_13 : decode cX5_restore 13 = .ok (.ireturn, 1) := by decide +kernel
theorem dX5_restore_14 : decode cX5_restore 14 = .ok (.aload_n 0, 1) := by decide +kernel
theorem dX5_restore_15 : decode cX5_restore 15 = .ok (.getfield 25, 3) := by decide +kernel
theorem dX5_restore_18 : decode cX5_restore 18 = .ok (.aload_n 0, 1) := by decide +kernel
theorem dX5_restore_19 : decode cX5_restore 19 = .ok (.getfield 13, 3) := by decide +kernel
theorem dX5_restore_22 : decode cX5_restore 22 = .ok (.invokestatic 151, 3) := by decide +kernel
theorem dX5_restore_25 : decode cX5_restore 25 = .ok (.aload_n 0, 1) := by decide +kernel
theorem dX5_restore_26 : decode cX5_restore 26 = .ok (.getfield 28, 3) := by decide +kernel
theorem dX5_restore_29 : decode cX5_restore 29 = .ok (.aload_n 0, 1) := by decide +kernel
theorem dX5_restore_30 : decode cX5_restore 30 = .ok (.getfield 16, 3) := by decide +kernel
theorem dX5_restore_33 : decode cX5_restore 33 = .ok (.invokestatic 151, 3) := by decide +kernel
theorem dX5_restore_36 : decode cX5_restore 36 = .ok (.aload_n 0, 1) := by decide +kernel
theorem dX5_restore_37 : decode cX5_restore 37 = .ok (.aload_n 0, 1) := by decide +kernel
theorem dX5_restore_38 : decode cX5_restore 38 = .ok (.getfield 158, 3) := by decide +kernel
theorem dX5_restore_41 : decode cX5_restore 41 = .ok (.putfield 63, 3) := by decide +kernel
theorem dX5_restore_44 : decode cX5_restore 44 = .ok (.aload_n 0, 1) := by decide +kernel
theorem dX5_restore_45 : decode cX5_restore 45 = .ok (.aload_n 0, 1) := by decide +kernel
theorem dX5_restore_46 : decode cX5_restore 46 = .ok (.getfield 161, 3) := by decide +kernel
theorem dX5_restore_49 : decode cX5_restore 49 = .ok (.putfield 66, 3) := by decide +kernel
theorem dX5_restore_52 : decode cX5_restore 52 = .ok (.aload_n 0, 1) := by decide +kernel
theorem dX5_restore_53 : decode cX5_restore 53 = .ok (.aload_n 0, 1) := by decide +kernel
theorem dX5_restore_54 : decode cX5_restore 54 = .ok (.getfield 164, 3) := by decide +kernel
theorem dX5_restore_57 : decode cX5_restore 57 = .ok (.putfield 69, 3) := by decide +kernel
theorem dX5_restore_60 : decode cX5_restore 60 = .ok (.aload_n 0, 1) := by decide +kernel
theorem dX5_restore_61 : decode cX5_restore 61 = .ok (.getfield 63, 3) := by decide +kernel
theorem dX5_restore_64 : decode cX5_restore 64 = .ok (.ireturn, 1) := by decide +kernel
theorem dX5_knowing_0 : decode cX5_knowing 0 = .ok (.iconst 0, 1) := by decide +kernel
theorem dX5_knowing_1 : decode cX5_knowing 1 = .ok (.istore_n 1, 1) := by decide +kernel
theorem dX5_knowing_2 : decode cX5_knowing 2 = .ok (.iconst 0, 1) := by decide +kernel
theorem dX5_knowing_3 : decode cX5_knowing 3 = .ok (.istore_n 2, 1) := by decide +kernel
theorem dX5_knowing_4 : decode cX5_knowing 4 = .ok (.iload_n 2, 1) := by decide +kernel
theorem dX5_knowing_5 : decode cX5_knowing 5 = .ok (.aload_n 0, 1) := by decide +kernel
theorem dX5_knowing_6 : decode cX5_knowing 6 = .ok (.getfield 60, 3) := by decide +kernel
theorem dX5_knowing_9 : decode cX5_knowing 9 = .ok (.if_icmp .ge 31, 3) := by decide +kernel
theorem dX5_knowing_12 : decode cX5_knowing 12 = .ok (.iload_n 1, 1) := by decide +kernel
theorem dX5_knowing_13 : decode cX5_knowing 13 = .ok (.aload_n 0, 1) := by decide +kernel
theorem dX5_knowing_14 : decode cX5_knowing 14 = .ok (.getfield 13, 3) := by decide +kernel
theorem dX5_knowing_17 : decode cX5_knowing 17 = .ok (.iconst 4, 1) := by decide +kernel
theorem dX5_knowing_18 : decode cX5_knowing 18 = .ok (.iload_n 2, 1) := by decide +kernel
theorem dX5_knowing_19 : decode cX5_knowing 19 = .ok (.imul, 1) := by decide +kernel
theorem dX5_knowing_20 : decode cX5_knowing 20 = .ok (.iconst 2, 1) := by decide +kernel
theorem dX5_knowing_21 : decode cX5_knowing 21 = .ok (.iadd, 1) := by decide +kernel
theorem dX5_knowing_22 : decode cX5_knowing 22 = .ok (.iaload, 1) := by decide +kernel
theorem dX5_knowing_23 : decode cX5_knowing 23 = .ok (.iconst (-1), 1) := by decide +kernel
theorem dX5_knowing_24 : decode cX5_knowing 24 = .ok (.if_icmp .ne 7, 3) := by decide +kernel
theorem dX5_knowing_27 : decode cX5_knowing 27 = .ok (.iconst 0, 1) := by decide +kernel
theorem dX5_knowing_28 : decode cX5_knowing 28 = .ok (.goto 4, 3) := by decide +kernel
theorem dX5_knowing_31 : decode cX5_knowing 31 = .ok (.iconst 1, 1) := by decide +kernel
theorem dX5_knowing_32 : decode cX5_knowing 32 = .ok (.iadd, 1) := by decide +kernel
theorem dX5_knowing_33 : decode cX5_knowing 33 = .ok (.istore_n 1, 1) := by decide +kernel
theorem dX5_knowing_34 : decode cX5_knowing 34 = .ok (.iinc 2 1, 3) := by decide +kernel
theorem dX5_knowing_37 : decode cX5_knowing 37 = .ok (.goto (-33), 3) := by decide +kernel
theorem dX5_knowing_40 : decode cX5_knowing 40 = .ok (.iload_n 1, 1) := by decide +kernel
theorem dX5_knowing_41 : decode cX5_knowing 41 = .ok (.ireturn, 1) := by decide +kernel
theorem dX5_unlike_0 : decode cX5_unlike 0 = .ok (.iconst 0, 1) := by decide +kernel
theorem dX5_unlike_1 : decode cX5_unlike 1 = .ok (.istore_n 1, 1) := by decide +kernel
theorem dX5_unlike_2 : decode cX5_unlike 2 = .ok (.iconst 0, 1) := by decide +kernel
theorem dX5_unlike_3 : decode cX5_unlike 3 = .ok (.istore_n 2, 1) := by decide +kernel
theorem dX5_unlike_4 : decode cX5_unlike 4 = .ok (.iconst 0, 1) := by decide +kernel
theorem dX5_unlike_5 : decode cX5_unlike 5 = .ok (.istore_n 3, 1) := by decide +kernel
theorem dX5_unlike_6 : decode cX5_unlike 6 = .ok (.iload_n 3, 1) := by decide +kernel
theorem dX5_unlike_7 : decode cX5_unlike 7 = .ok (.aload_n 0, 1) := by decide +kernel
theorem dX5_unlike_8 : decode cX5_unlike 8 = .ok (.getfield 60, 3) := by decide +kernel
theorem dX5_unlike_11 : decode cX5_unlike 11 = .ok (.if_icmp .ge 59, 3) := by decide +kernel
theorem dX5_unlike_14 : decode cX5_unlike 14 = .ok (.aload_n 0, 1) := by decide +kernel
theorem dX5_unlike_15 : decode cX5_unlike 15 = .ok (.getfield 13, 3) := by decide +kernel
theorem dX5_unlike_18 : decode cX5_unlike 18 = .ok (.iconst 4, 1) := by decide +kernel
theorem dX5_unlike_19 : decode cX5_unlike 19 = .ok (.iload_n 3, 1) := by decide +kernel
theorem dX5_unlike_20 : decode cX5_unlike 20 = .ok (.imul, 1) := by decide +kernel
theorem dX5_unlike_21 : decode cX5_unlike 21 = .ok (.iconst 2, 1) := by decide +kernel
theorem dX5_unlike_22 : decode cX5_unlike 22 = .ok (.iadd, 1) := by decide +kernel
theorem dX5_unlike_23 : decode cX5_unlike 23 = .ok (.iaload, 1) := by decide +kernel
theorem dX5_unlike_24 : decode cX5_unlike 24 = .ok (.istore 4, 2) := by decide +kernel
theorem dX5_unlike_26 : decode cX5_unlike 26 = .ok (.iload_n 2, 1) := by decide +kernel
theorem dX5_unlike_27 : decode cX5_unlike 27 = .ok (.iload 4, 2) := by decide +kernel
theorem dX5_unlike_29 : decode cX5_unlike 29 = .ok (.iconst (-1), 1) := by decide +kernel
theorem dX5_unlike_30 : decode cX5_unlike 30 = .ok (.if_icmp .ne 7, 3) := by decide +kernel
theorem dX5_unlike_33 : decode cX5_unlike 33 = .ok (.iconst 0, 1) := by decide +kernel
theorem dX5_unlike_34 : decode cX5_unlike 34 = .ok (.goto 11, 3) := by decide +kernel
theorem dX5_unlike_37 : decode cX5_unlike 37 = .ok (.iconst 1, 1) := by decide +kernel
theorem dX5_unlike_38 : decode cX5_unlike 38 = .ok (.iload_n 1, 1) := by decide +kernel
theorem dX5_unlike_39 : decode cX5_unlike 39 = .ok (.iload 4, 2) := by decide +kernel
theorem dX5_unlike_41 : decode cX5_unlike 41 = .ok (.ishr, 1) := by decide +kernel
theorem dX5_unlike_42 : decode cX5_unlike 42 = .ok (.iconst 1, 1) := by decide +kernel
theorem dX5_unlike_43 : decode cX5_unlike 43 = .ok (.iand, 1) := by decide +kernel
theorem dX5_unlike_44 : decode cX5_unlike 44 = .ok (.isub, 1) := by decide +kernel
theorem dX5_unlike_45 : decode cX5_unlike 45 = .ok (.iadd, 1) := by decide +kernel
theorem dX5_unlike_46 : decode cX5_unlike 46 = .ok (.istore_n 2, 1) := by decide +kernel
theorem dX5_unlike_47 : decode cX5_unlike 47 = .ok (.iload_n 1, 1) := by decide +kernel
theorem dX5_unlike_48 : decode cX5_unlike 48 = .ok (.iload 4, 2) := by decide +kernel
theorem dX5_unlike_50 : decode cX5_unlike 50 = .ok (.iconst (-1), 1) := by decide +kernel
theorem dX5_unlike_51 : decode cX5_unlike 51 = .ok (.if_icmp .ne 7, 3) := by decide +kernel
theorem dX5_unlike_54 : decode cX5_unlike 54 = .ok (.iconst 0, 1) := by decide +kernel
theorem dX5_unlike_55 : decode cX5_unlike 55 = .ok (.goto 7, 3) := by decide +kernel
theorem dX5_unlike_58 : decode cX5_unlike 58 = .ok (.iconst 1, 1) := by decide +kernel
theorem dX5_unlike_59 : decode cX5_unlike 59 = .ok (.iload 4, 2) := by decide +kernel
theorem dX5_unlike_61 : decode cX5_unlike 61 = .ok (.ishl, 1) := by decide +kernel
theorem dX5_unlike_62 : decode cX5_unlike 62 = .ok (.ior, 1) := by decide +kernel
theorem dX5_unlike_63 : decode cX5_unlike 63 = .ok (.istore_n 1, 1) := by decide +kernel
theorem dX5_unlike_64 : decode cX5_unlike 64 = .ok (.iinc 3 1, 3) := by decide +kernel
theorem dX5_unlike_67 : decode cX5_unlike 67 = .ok (.goto (-61), 3) := by decide +kernel
theorem dX5_unlike_70 : decode cX5_unlike 70 = .ok (.iload_n 2, 1) := by decide +kernel
theorem dX5_unlike_71 : decode cX5_unlike 71 = .ok (.ireturn, 1) := by decide +kernel
theorem dX5_illMany_0 : decode cX5_illMany 0 = .ok (.iconst 0, 1) := by decide +kernel
theorem dX5_illMany_1 : decode cX5_illMany 1 = .ok (.istore_n 1, 1) := by decide +kernel
theorem dX5_illMany_2 : decode cX5_illMany 2 = .ok (.iconst 0, 1) := by decide +kernel
theorem dX5_illMany_3 : decode cX5_illMany 3 = .ok (.istore_n 2, 1) := by decide +kernel
theorem dX5_illMany_4 : decode cX5_illMany 4 = .ok (.iload_n 2, 1) := by decide +kernel
theorem dX5_illMany_5 : decode cX5_illMany 5 = .ok (.aload_n 0, 1) := by decide +kernel
theorem dX5_illMany_6 : decode cX5_illMany 6 = .ok (.getfield 60, 3) := by decide +kernel
theorem dX5_illMany_9 : decode cX5_illMany 9 = .ok (.if_icmp .ge 22, 3) := by decide +kernel
theorem dX5_illMany_12 : decode cX5_illMany 12 = .ok (.iload_n 1, 1) := by decide +kernel
theorem dX5_illMany_13 : decode cX5_illMany 13 = .ok (.aload_n 0, 1) := by decide +kernel
theorem dX5_illMany_14 : decode cX5_illMany 14 = .ok (.getfield 13, 3) := by decide +kernel
theorem dX5_illMany_17 : decode cX5_illMany 17 = .ok (.iconst 4, 1) := by decide +kernel
theorem dX5_illMany_18 : decode cX5_illMany 18 = .ok (.iload_n 2, 1) := by decide +kernel
theorem dX5_illMany_19 : decode cX5_illMany 19 = .ok (.imul, 1) := by decide +kernel
theorem dX5_illMany_20 : decode cX5_illMany 20 = .ok (.iconst 3, 1) := by decide +kernel
theorem dX5_illMany_21 : decode cX5_illMany 21 = .ok (.iadd, 1) := by decide +kernel
theorem dX5_illMany_22 : decode cX5_illMany 22 = .ok (.iaload, 1) := by decide +kernel
theorem dX5_illMany_23 : decode cX5_illMany 23 = .ok (.iadd, 1) := by decide +kernel
theorem dX5_illMany_24 : decode cX5_illMany 24 = .ok (.istore_n 1, 1) := by decide +kernel
theorem dX5_illMany_25 : decode cX5_illMany 25 = .ok (.iinc 2 1, 3) := by decide +kernel
theorem dX5_illMany_28 : decode cX5_illMany 28 = .ok (.goto (-24), 3) := by decide +kernel
theorem dX5_illMany_31 : decode cX5_illMany 31 = .ok (.iload_n 1, 1) := by decide +kernel
theorem dX5_illMany_32 : decode cX5_illMany 32 = .ok (.ireturn, 1) := by decide +kernel
set_option maxRecDepth 20000 in
theorem ggX5_countOf_X5_knowing : GoodIn wsX5_countOf wsX5_knowing := goodIn_r _ [11, 1, 12, 40, 41, 42, 43, 44, 45, 46, 47, 48, 49, 50, 51, 52, 53, 54, 55, 56, 57, 58, 59] (by decide +kernel) (by decide +kernel)
set_option maxRecDepth 20000 in
theorem gX5_countOf_X5_knowing : GoodIn wsX5_countOf (wsV RX5 167 RX5 yX5_knowing wsX5_knowing) := goodIn_app (goodIn_of _ (by decide +kernel)) ggX5_countOf_X5_knowing
set_option maxRecDepth 20000 in
theorem ggX5_countOf_X5_unlike : GoodIn wsX5_countOf wsX5_unlike := goodIn_r _ [16, 1, 12, 40, 41, 42, 43, 44, 45, 46, 47, 48, 49, 50, 51, 52, 53, 54, 55, 56, 57, 58, 59] (by decide +kernel) (by decide +kernel)
set_option maxRecDepth 20000 in
theorem gX5_countOf_X5_unlike : GoodIn wsX5_countOf (wsV RX5 170 RX5 yX5_unlike wsX5_unlike) := goodIn_app (goodIn_of _ (by decide +kernel)) ggX5_countOf_X5_unlike
set_option maxRecDepth 20000 in
theorem ggX5_countOf_X5_illMany : GoodIn wsX5_countOf wsX5_illMany := goodIn_r _ [20, 1, 12, 40, 41, 42, 43, 44, 45, 46, 47, 48, 49, 50, 51, 52, 53, 54, 55, 56, 57, 58, 59] (by decide +kernel) (by decide +kernel)
set_option maxRecDepth 20000 in
theorem gX5_countOf_X5_illMany : GoodIn wsX5_countOf (wsV RX5 173 RX5 yX5_illMany wsX5_illMany) := goodIn_app (goodIn_of _ (by decide +kernel)) ggX5_countOf_X5_illMany
set_option maxRecDepth 20000 in
theorem ggX5_countOf_X5_asTheyAre : GoodIn wsX5_countOf wsX5_asTheyAre := goodIn_r _ [24, 25, 26, 27, 10, 28, 1, 29, 30, 31, 32, 33, 34, 35, 36, 12, 37, 38, 39, 40, 41, 42, 43, 44, 45, 46, 47, 48, 49, 50, 51, 52, 53, 54, 55, 56, 57, 58, 59] (by decide +kernel) (by decide +kernel)
set_option maxRecDepth 20000 in
theorem gX5_countOf_X5_asTheyAre : GoodIn wsX5_countOf (wsV RX5 131 RX5 yX5_asTheyAre wsX5_asTheyAre) := goodIn_app (goodIn_of _ (by decide +kernel)) ggX5_countOf_X5_asTheyAre
theorem dX5_countOf_0 : decode cX5_countOf 0 = .ok (.iload_n 1, 1) := by decide +kernel
theorem dX5_countOf_1 : decode cX5_countOf 1 = .ok (.tableswitch 105 0 9 #[55, 60, 65, 70, 75, 80, 85, 90, 95, 100], 55) := by decide +kernel
theorem dX5_countOf_56 : decode cX5_countOf 56 = .ok (.aload_n 0, 1) := by decide +kernel
theorem dX5_countOf_57 : decode cX5_countOf 57 = .ok (.getfield 60, 3) := by decide +kernel
theorem dX5_countOf_60 : decode cX5_countOf 60 = .ok (.ireturn, 1) := by decide +kernel
theorem dX5_countOf_61 : decode cX5_countOf 61 = .ok (.aload_n 0, 1) := by decide +kernel
theorem dX5_countOf_62 : decode cX5_countOf 62 = .ok (.invokevirtual 167, 3) := by decide +kernel
theorem dX5_countOf_65 : decode cX5_countOf 65 = .ok (.ireturn, 1) := by decide +kernel
theorem dX5_countOf_66 : decode cX5_countOf 66 = .ok (.aload_n 0, 1) := by decide +kernel
theorem dX5_countOf_67 : decode cX5_countOf 67 = .ok (.invokevirtual 170, 3) := by decide +kernel
theorem dX5_countOf_70 : decode cX5_countOf 70 = .ok (.ireturn, 1) := by decide +kernel
theorem dX5_countOf_71 : decode cX5_countOf 71 = .ok (.aload_n 0, 1) := by decide +kernel
theorem dX5_countOf_72 : decode cX5_countOf 72 = .ok (.invokevirtual 173, 3) := by decide +kernel
theorem dX5_countOf_75 : decode cX5_countOf 75 = .ok (.ireturn, 1) := by decide +kernel
theorem dX5_countOf_76 : decode cX5_countOf 76 = .ok (.aload_n 0, 1) := by decide +kernel
theorem dX5_countOf_77 : decode cX5_countOf 77 = .ok (.getfield 63, 3) := by decide +kernel
theorem dX5_countOf_80 : decode cX5_countOf 80 = .ok (.ireturn, 1) := by decide +kernel
theorem dX5_countOf_81 : decode cX5_countOf 81 = .ok (.aload_n 0, 1) := by decide +kernel
theorem dX5_countOf_82 : decode cX5_countOf 82 = .ok (.getfield 66, 3) := by decide +kernel
theorem dX5_countOf_85 : decode cX5_countOf 85 = .ok (.ireturn, 1) := by decide +kernel
theorem dX5_countOf_86 : decode cX5_countOf 86 = .ok (.aload_n 0, 1) := by decide +kernel
theorem dX5_countOf_87 : decode cX5_countOf 87 = .ok (.invokevirtual 131, 3) := by decide +kernel
theorem dX5_countOf_90 : decode cX5_countOf 90 = .ok (.ireturn, 1) := by decide +kernel
theorem dX5_countOf_91 : decode cX5_countOf 91 = .ok (.aload_n 0, 1) := by decide +kernel
theorem dX5_countOf_92 : decode cX5_countOf 92 = .ok (.getfield 69, 3) := by decide +kernel
theorem dX5_countOf_95 : decode cX5_countOf 95 = .ok (.ireturn, 1) := by decide +kernel
theorem dX5_countOf_96 : decode cX5_countOf 96 = .ok (.aload_n 0, 1) := by decide +kernel
theorem dX5_countOf_97 : decode cX5_countOf 97 = .ok (.getfield 41, 3) := by decide +kernel
theorem dX5_countOf_100 : decode cX5_countOf 100 = .ok (.ireturn, 1) := by decide +kernel
theorem dX5_countOf_101 : decode cX5_countOf 101 = .ok (.aload_n 0, 1) := by decide +kernel
theorem dX5_countOf_102 : decode cX5_countOf 102 = .ok (.getfield 72, 3) := by decide +kernel
theorem dX5_countOf_105 : decode cX5_countOf 105 = .ok (.ireturn, 1) := by decide +kernel
theorem dX5_countOf_106 : decode cX5_countOf 106 = .ok (.bipush (-102), 2) := by decide +kernel
theorem dX5_countOf_108 : decode cX5_countOf 108 = .ok (.ireturn, 1) := by decide +kernel
set_option maxRecDepth 20000 in
theorem ggX5_count_X5_countOf : GoodIn wsX5_count wsX5_countOf := goodIn_r _ [5, 6, 7, 8, 9, 10, 11, 12, 13, 14, 4, 15, 16, 17, 18, 19, 20, 21, 22, 23, 24, 25, 26, 27, 28, 29, 30, 31, 32, 33, 34, 35, 36, 37, 38, 39, 40, 41, 42, 43, 44, 45, 46, 47, 48, 49, 50, 51, 52, 53, 54, 55, 56, 57, 58, 59, 60, 61, 62, 63] (by decide +kernel) (by decide +kernel)
set_option maxRecDepth 20000 in
theorem gX5_count_X5_countOf : GoodIn wsX5_count (wsV RX5 176 RX5 yX5_countOf wsX5_countOf) := goodIn_app (goodIn_of _ (by decide +kernel)) ggX5_count_X5_countOf
theorem dX5_count_0 : decode cX5_count 0 = .ok (.aload_n 0, 1) := by decide +kernel
theorem dX5_count_1 : decode cX5_count 1 = .ok (.iload_n 1, 1) := by decide +kernel
theorem dX5_count_2 : decode cX5_count 2 = .ok (.invokevirtual 176, 3) := by decide +kernel
theorem dX5_count_5 : decode cX5_count 5 = .ok (.ireturn, 1) := by decide +kernel
theorem dX5_say_0 : decode cX5_say 0 = .ok (.aload_n 0, 1) := by decide +kernel
theorem dX5_say_1 : decode cX5_say 1 = .ok (.ldc2_w 179, 3) := by decide +kernel
theorem dX5_say_4 : decode cX5_say 4 = .ok (.aload_n 0, 1) := by decide +kernel
theorem dX5_say_5 : decode cX5_say 5 = .ok (.getfield 181, 3) := by decide +kernel
theorem dX5_say_8 : decode cX5_say 8 = .ok (.lmul, 1) := by decide +kernel
theorem dX5_say_9 : decode cX5_say 9 = .ok (.lload_n 1, 1) := by decide +kernel
theorem dX5_say_10 : decode cX5_say 10 = .ok (.ladd, 1) := by decide +kernel
theorem dX5_say_11 : decode cX5_say 11 = .ok (.putfield 181, 3) := by decide +kernel
theorem dX5_say_14 : decode cX5_say 14 = .ok (.return_, 1) := by decide +kernel
set_option maxRecDepth 20000 in
theorem ggX5_sayChild_X5_tellChild : GoodIn wsX5_sayChild wsX5_tellChild := goodIn_r _ [5, 6, 7, 8, 9, 4, 10, 11, 12, 13, 14, 15, 16, 17, 18, 19, 20, 21, 22, 23, 24, 25, 26, 27, 28, 29, 30, 31, 32, 48, 49, 50, 51, 52, 53, 54, 55, 56, 57, 58, 59, 60, 61, 62, 63, 64, 65, 66, 67] (by decide +kernel) (by decide +kernel)
set_option maxRecDepth 20000 in
theorem gX5_sayChild_X5_tellChild : GoodIn wsX5_sayChild (wsV RX5 101 RX5 yX5_tellChild wsX5_tellChild) := goodIn_app (goodIn_of _ (by decide +kernel)) ggX5_sayChild_X5_tellChild
set_option maxRecDepth 20000 in
theorem ggX5_sayChild_X5_say : GoodIn wsX5_sayChild wsX5_say := goodIn_r _ [36, 37, 38, 48, 49, 50, 51, 52, 53, 54, 55, 56, 57, 58, 59, 60, 61, 62, 63, 64, 65, 66, 67] (by decide +kernel) (by decide +kernel)
set_option maxRecDepth 20000 in
theorem gX5_sayChild_X5_say : GoodIn wsX5_sayChild (wsV RX5 185 RX5 yX5_say wsX5_say) := goodIn_app (goodIn_of _ (by decide +kernel)) ggX5_sayChild_X5_say
set_option maxRecDepth 20000 in
theorem ggX5_sayChild_X5_arrivesOf : GoodIn wsX5_sayChild wsX5_arrivesOf := goodIn_r _ [42, 43, 15, 16, 17, 4, 18, 6, 19, 20, 21, 48, 49, 50, 51, 52, 53, 54, 55, 56, 57, 58, 59, 60, 61, 62, 63, 64, 65, 66, 67] (by decide +kernel) (by decide +kernel)
set_option maxRecDepth 20000 in
theorem gX5_sayChild_X5_arrivesOf : GoodIn wsX5_sayChild (wsV RX5 122 RX5 yX5_arrivesOf wsX5_arrivesOf) := goodIn_app (goodIn_of _ (by decide +kernel)) ggX5_sayChild_X5_arrivesOf
set_option maxRecDepth 20000 in
theorem ggX5_sayChild_X5_fromOf : GoodIn wsX5_sayChild wsX5_fromOf := goodIn_r _ [47, 39, 40, 41, 4, 42, 43, 15, 16, 17, 18, 6, 19, 20, 21, 48, 49, 50, 51, 52, 53, 54, 55, 56, 57, 58, 59, 60, 61, 62, 63, 64, 65, 66, 67] (by decide +kernel) (by decide +kernel)
set_option maxRecDepth 20000 in
theorem gX5_sayChild_X5_fromOf : GoodIn wsX5_sayChild (wsV RX5 125 RX5 yX5_fromOf wsX5_fromOf) := goodIn_app (goodIn_of _ (by decide +kernel)) ggX5_sayChild_X5_fromOf
theorem dX5_sayChild_0 : decode cX5_sayChild 0 = .ok (.iconst 0, 1) := by decide +kernel
theorem dX5_sayChild_1 : decode cX5_sayChild 1 = .ok (.istore_n 2, 1) := by decide +kernel
theorem dX5_sayChild_2 : decode cX5_sayChild 2 = .ok (.iload_n 2, 1) := by decide +kernel
theorem dX5_sayChild_3 : decode cX5_sayChild 3 = .ok (.bipush 7, 2) := by decide +kernel
theorem dX5_sayChild_5 : decode cX5_sayChild 5 = .ok (.if_icmp .ge 20, 3) := by decide +kernel
theorem dX5_sayChild_8 : decode cX5_sayChild 8 = .ok (.aload_n 0, 1) := by decide +kernel
theorem dX5_sayChild_9 : decode cX5_sayChild 9 = .ok (.aload_n 0, 1) := by decide +kernel
theorem dX5_sayChild_10 : decode cX5_sayChild 10 = .ok (.iload_n 1, 1) := by decide +kernel
theorem dX5_sayChild_11 : decode cX5_sayChild 11 = .ok (.iload_n 2, 1) := by decide +kernel
theorem dX5_sayChild_12 : decode cX5_sayChild 12 = .ok (.invokevirtual 101, 3) := by decide +kernel
theorem dX5_sayChild_15 : decode cX5_sayChild 15 = .ok (.i2l, 1) := by decide +kernel
theorem dX5_sayChild_16 : decode cX5_sayChild 16 = .ok (.invokevirtual 185, 3) := by decide +kernel
theorem dX5_sayChild_19 : decode cX5_sayChild 19 = .ok (.iinc 2 1, 3) := by decide +kernel
theorem dX5_sayChild_22 : decode cX5_sayChild 22 = .ok (.goto (-20), 3) := by decide +kernel
theorem dX5_sayChild_25 : decode cX5_sayChild 25 = .ok (.aload_n 0, 1) := by decide +kernel
theorem dX5_sayChild_26 : decode cX5_sayChild 26 = .ok (.aload_n 0, 1) := by decide +kernel
theorem dX5_sayChild_27 : decode cX5_sayChild 27 = .ok (.iload_n 1, 1) := by decide +kernel
theorem dX5_sayChild_28 : decode cX5_sayChild 28 = .ok (.iconst 0, 1) := by decide +kernel
theorem dX5_sayChild_29 : decode cX5_sayChild 29 = .ok (.invokevirtual 122, 3) := by decide +kernel
theorem dX5_sayChild_32 : decode cX5_sayChild 32 = .ok (.i2l, 1) := by decide +kernel
theorem dX5_sayChild_33 : decode cX5_sayChild 33 = .ok (.invokevirtual 185, 3) := by decide +kernel
theorem dX5_sayChild_36 : decode cX5_sayChild 36 = .ok (.aload_n 0, 1) := by decide +kernel
theorem dX5_sayChild_37 : decode cX5_sayChild 37 = .ok (.aload_n 0, 1) := by decide +kernel
theorem dX5_sayChild_38 : decode cX5_sayChild 38 = .ok (.iload_n 1, 1) := by decide +kernel
theorem dX5_sayChild_39 : decode cX5_sayChild 39 = .ok (.iconst 1, 1) := by decide +kernel
theorem dX5_sayChild_40 : decode cX5_sayChild 40 = .ok (.invokevirtual 122, 3) := by decide +kernel
theorem dX5_sayChild_43 : decode cX5_sayChild 43 = .ok (.i2l, 1) := by decide +kernel
theorem dX5_sayChild_44 : decode cX5_sayChild 44 = .ok (.invokevirtual 185, 3) := by decide +kernel
theorem dX5_sayChild_47 : decode cX5_sayChild 47 = .ok (.aload_n 0, 1) := by decide +kernel
theorem dX5_sayChild_48 : decode cX5_sayChild 48 = .ok (.aload_n 0, 1) := by decide +kernel
theorem dX5_sayChild_49 : decode cX5_sayChild 49 = .ok (.iload_n 1, 1) := by decide +kernel
theorem dX5_sayChild_50 : decode cX5_sayChild 50 = .ok (.iconst 5, 1) := by decide +kernel
theorem dX5_sayChild_51 : decode cX5_sayChild 51 = .ok (.invokevirtual 122, 3) := by decide +kernel
theorem dX5_sayChild_54 : decode cX5_sayChild 54 = .ok (.i2l, 1) := by decide +kernel
theorem dX5_sayChild_55 : decode cX5_sayChild 55 = .ok (.invokevirtual 185, 3) := by decide +kernel
theorem dX5_sayChild_58 : decode cX5_sayChild 58 = .ok (.aload_n 0, 1) := by decide +kernel
theorem dX5_sayChild_59 : decode cX5_sayChild 59 = .ok (.aload_n 0, 1) := by decide +kernel
theorem dX5_sayChild_60 : decode cX5_sayChild 60 = .ok (.iload_n 1, 1) := by decide +kernel
theorem dX5_sayChild_61 : decode cX5_sayChild 61 = .ok (.iconst 3, 1) := by decide +kernel
theorem dX5_sayChild_62 : decode cX5_sayChild 62 = .ok (.invokevirtual 125, 3) := by decide +kernel
theorem dX5_sayChild_65 : decode cX5_sayChild 65 = .ok (.i2l, 1) := by decide +kernel
theorem dX5_sayChild_66 : decode cX5_sayChild 66 = .ok (.invokevirtual 185, 3) := by decide +kernel
theorem dX5_sayChild_69 : decode cX5_sayChild 69 = .ok (.return_, 1) := by decide +kernel
set_option maxRecDepth 20000 in
theorem ggX5_digest_X5_sayChild : GoodIn wsX5_digest wsX5_sayChild := goodIn_r _ [10, 11, 12, 13, 9, 14, 15, 16, 17, 18, 19, 20, 21, 22, 23, 24, 25, 26, 27, 28, 29, 30, 31, 32, 33, 34, 35, 36, 37, 38, 39, 40, 41, 42, 43, 44, 45, 46, 2, 47, 48, 49, 50, 3, 51, 52, 53, 54, 90, 91, 92, 93, 94, 95, 96, 97, 98, 99, 100, 101, 102, 103, 104, 105, 106, 107, 108, 109] (by decide +kernel) (by decide +kernel)
set_option maxRecDepth 20000 in
theorem gX5_digest_X5_sayChild : GoodIn wsX5_digest (wsV RX5 191 RX5 yX5_sayChild wsX5_sayChild) := goodIn_app (goodIn_of _ (by decide +kernel)) ggX5_digest_X5_sayChild
set_option maxRecDepth 20000 in
theorem ggX5_digest_X5_lacks : GoodIn wsX5_digest wsX5_lacks := goodIn_r _ [58, 3, 90, 91, 92, 93, 94, 95, 96, 97, 98, 99, 100, 101, 102, 103, 104, 105, 106, 107, 108, 109] (by decide +kernel) (by decide +kernel)
set_option maxRecDepth 20000 in
theorem gX5_digest_X5_lacks : GoodIn wsX5_digest (wsV RX5 115 RX5 yX5_lacks wsX5_lacks) := goodIn_app (goodIn_of _ (by decide +kernel)) ggX5_digest_X5_lacks
set_option maxRecDepth 20000 in
theorem ggX5_digest_X5_soonOf : GoodIn wsX5_digest wsX5_soonOf := goodIn_r _ [62, 15, 3, 20, 21, 22, 9, 23, 90, 91, 92, 93, 94, 95, 96, 97, 98, 99, 100, 101, 102, 103, 104, 105, 106, 107, 108, 109] (by decide +kernel) (by decide +kernel)
set_option maxRecDepth 20000 in
theorem gX5_digest_X5_soonOf : GoodIn wsX5_digest (wsV RX5 128 RX5 yX5_soonOf wsX5_soonOf) := goodIn_app (goodIn_of _ (by decide +kernel)) ggX5_digest_X5_soonOf
set_option maxRecDepth 20000 in
theorem ggX5_digest_X5_say : GoodIn wsX5_digest wsX5_say := goodIn_r _ [45, 46, 2, 90, 91, 92, 93, 94, 95, 96, 97, 98, 99, 100, 101, 102, 103, 104, 105, 106, 107, 108, 109] (by decide +kernel) (by decide +kernel)
set_option maxRecDepth 20000 in
theorem gX5_digest_X5_say : GoodIn wsX5_digest (wsV RX5 185 RX5 yX5_say wsX5_say) := goodIn_app (goodIn_of _ (by decide +kernel)) ggX5_digest_X5_say
set_option maxRecDepth 20000 in
theorem ggX5_digest_X5_cureOf : GoodIn wsX5_digest wsX5_cureOf := goodIn_r _ [66, 3, 15, 67, 68, 69, 9, 70, 55, 56, 57, 58, 47, 48, 49, 50, 24, 25, 26, 27, 28, 29, 30, 90, 91, 92, 93, 94, 95, 96, 97, 98, 99, 100, 101, 102, 103, 104, 105, 106, 107, 108, 109] (by decide +kernel) (by decide +kernel)
set_option maxRecDepth 20000 in
theorem gX5_digest_X5_cureOf : GoodIn wsX5_digest (wsV RX5 134 RX5 yX5_cureOf wsX5_cureOf) := goodIn_app (goodIn_of _ (by decide +kernel)) ggX5_digest_X5_cureOf
set_option maxRecDepth 20000 in
theorem ggX5_digest_X5_countOf : GoodIn wsX5_digest wsX5_countOf := goodIn_r _ [74, 3, 75, 76, 35, 4, 77, 78, 79, 80, 9, 81, 15, 82, 83, 84, 85, 86, 87, 88, 89, 67, 68, 69, 70, 55, 56, 57, 58, 47, 48, 49, 50, 24, 25, 26, 27, 28, 29, 30, 90, 91, 92, 93, 94, 95, 96, 97, 98, 99, 100, 101, 102, 103, 104, 105, 106, 107, 108, 109] (by decide +kernel) (by decide +kernel)
set_option maxRecDepth 20000 in
theorem gX5_digest_X5_countOf : GoodIn wsX5_digest (wsV RX5 176 RX5 yX5_countOf wsX5_countOf) := goodIn_app (goodIn_of _ (by decide +kernel)) ggX5_digest_X5_countOf
theorem dX5_digest_0 : decode cX5_digest 0 = .ok (.aload_n 0, 1) := by decide +kernel
theorem dX5_digest_1 : decode cX5_digest 1 = .ok (.ldc2_w 189, 3) := by decide +kernel
theorem dX5_digest_4 : decode cX5_digest 4 = .ok (.putfield 181, 3) := by decide +kernel
theorem dX5_digest_7 : decode cX5_digest 7 = .ok (.iconst 0, 1) := by decide +kernel
theorem dX5_digest_8 : decode cX5_digest 8 = .ok (.istore_n 1, 1) := by decide +kernel
theorem dX5_digest_9 : decode cX5_digest 9 = .ok (.iload_n 1, 1) := by decide +kernel
theorem dX5_digest_10 : decode cX5_digest 10 = .ok (.aload_n 0, 1) := by decide +kernel
theorem dX5_digest_11 : decode cX5_digest 11 = .ok (.getfield 60, 3) := by decide +kernel
theorem dX5_digest_14 : decode cX5_digest 14 = .ok (.if_icmp .ge 14, 3) := by decide +kernel
theorem dX5_digest_17 : decode cX5_digest 17 = .ok (.aload_n 0, 1) := by decide +kernel
theorem dX5_digest_18 : decode cX5_digest 18 = .ok (.iload_n 1, 1) := by decide +kernel
theorem dX5_digest_19 : decode cX5_digest 19 = .ok (.invokevirtual 191, 3) := by decide +kernel
theorem dX5_digest_22 : decode cX5_digest 22 = .ok (.iinc 1 1, 3) := by decide +kernel
theorem dX5_digest_25 : decode cX5_digest 25 = .ok (.goto (-16), 3) := by decide +kernel
theorem dX5_digest_28 : decode cX5_digest 28 = .ok (.aload_n 0, 1) := by decide +kernel
theorem dX5_digest_29 : decode cX5_digest 29 = .ok (.invokevirtual 115, 3) := by decide +kernel
theorem dX5_digest_32 : decode cX5_digest 32 = .ok (.ifCond .ne 32, 3) := by decide +kernel
theorem dX5_digest_35 : decode cX5_digest 35 = .ok (.aload_n 0, 1) := by decide +kernel
theorem dX5_digest_36 : decode cX5_digest 36 = .ok (.aload_n 0, 1) := by decide +kernel
theorem dX5_digest_37 : decode cX5_digest 37 = .ok (.invokevirtual 128, 3) := by decide +kernel
theorem dX5_digest_40 : decode cX5_digest 40 = .ok (.i2l, 1) := by decide +kernel
theorem dX5_digest_41 : decode cX5_digest 41 = .ok (.invokevirtual 185, 3) := by decide +kernel
theorem dX5_digest_44 : decode cX5_digest 44 = .ok (.aload_n 0, 1) := by decide +kernel
theorem dX5_digest_45 : decode cX5_digest 45 = .ok (.aload_n 0, 1) := by decide +kernel
theorem dX5_digest_46 : decode cX5_digest 46 = .ok (.iconst 0, 1) := by decide +kernel
theorem dX5_digest_47 : decode cX5_digest 47 = .ok (.invokevirtual 134, 3) := by decide +kernel
theorem dX5_digest_50 : decode cX5_digest 50 = .ok (.i2l, 1) := by decide +kernel
theorem dX5_digest_51 : decode cX5_digest 51 = .ok (.invokevirtual 185, 3) := by decide +kernel
theorem dX5_digest_54 : decode cX5_digest 54 = .ok (.aload_n 0, 1) := by decide +kernel
theorem dX5_digest_55 : decode cX5_digest 55 = .ok (.aload_n 0, 1) := by decide +kernel
theorem dX5_digest_56 : decode cX5_digest 56 = .ok (.iconst 1, 1) := by decide +kernel
theorem dX5_digest_57 : decode cX5_digest 57 = .ok (.invokevirtual 134, 3) := by decide +kernel
theorem dX5_digest_60 : decode cX5_digest 60 = .ok (.i2l, 1) := by decide +kernel
theorem dX5_digest_61 : decode cX5_digest 61 = .ok (.invokevirtual 185, 3) := by decide +kernel
theorem dX5_digest_64 : decode cX5_digest 64 = .ok (.iconst 0, 1) := by decide +kernel
theorem dX5_digest_65 : decode cX5_digest 65 = .ok (.istore_n 1, 1) := by decide +kernel
theorem dX5_digest_66 : decode cX5_digest 66 = .ok (.iload_n 1, 1) := by decide +kernel
theorem dX5_digest_67 : decode cX5_digest 67 = .ok (.aload_n 0, 1) := by decide +kernel
theorem dX5_digest_68 : decode cX5_digest 68 = .ok (.getfield 41, 3) := by decide +kernel
theorem dX5_digest_71 : decode cX5_digest 71 = .ok (.if_icmp .ge 20, 3) := by decide +kernel
theorem dX5_digest_74 : decode cX5_digest 74 = .ok (.aload_n 0, 1) := by decide +kernel
theorem dX5_digest_75 : decode cX5_digest 75 = .ok (.aload_n 0, 1) := by decide +kernel
theorem dX5_digest_76 : decode cX5_digest 76 = .ok (.getfield 7, 3) := by decide +kernel
theorem dX5_digest_79 : decode cX5_digest 79 = .ok (.iload_n 1, 1) := by decide +kernel
theorem dX5_digest_80 : decode cX5_digest 80 = .ok (.iaload, 1) := by decide +kernel
theorem dX5_digest_81 : decode cX5_digest 81 = .ok (.i2l, 1) := by decide +kernel
theorem dX5_digest_82 : decode cX5_digest 82 = .ok (.invokevirtual 185, 3) := by decide +kernel
theorem dX5_digest_85 : decode cX5_digest 85 = .ok (.iinc 1 1, 3) := by decide +kernel
theorem dX5_digest_88 : decode cX5_digest 88 = .ok (.goto (-22), 3) := by decide +kernel
theorem dX5_digest_91 : decode cX5_digest 91 = .ok (.iconst 0, 1) := by decide +kernel
theorem dX5_digest_92 : decode cX5_digest 92 = .ok (.istore_n 1, 1) := by decide +kernel
theorem dX5_digest_93 : decode cX5_digest 93 = .ok (.iload_n 1, 1) := by decide +kernel
theorem dX5_digest_94 : decode cX5_digest 94 = .ok (.bipush 10, 2) := by decide +kernel
theorem dX5_digest_96 : decode cX5_digest 96 = .ok (.if_icmp .ge 19, 3) := by decide +kernel
theorem dX5_digest_99 : decode cX5_digest 99 = .ok (.aload_n 0, 1) := by decide +kernel
theorem dX5_digest_100 : decode cX5_digest 100 = .ok (.aload_n 0, 1) := by decide +kernel
theorem dX5_digest_101 : decode cX5_digest 101 = .ok (.iload_n 1, 1) := by decide +kernel
theorem dX5_digest_102 : decode cX5_digest 102 = .ok (.invokevirtual 176, 3) := by decide +kernel
theorem dX5_digest_105 : decode cX5_digest 105 = .ok (.i2l, 1) := by decide +kernel
theorem dX5_digest_106 : decode cX5_digest 106 = .ok (.invokevirtual 185, 3) := by decide +kernel
theorem dX5_digest_109 : decode cX5_digest 109 = .ok (.iinc 1 1, 3) := by decide +kernel
theorem dX5_digest_112 : decode cX5_digest 112 = .ok (.goto (-19), 3) := by decide +kernel
theorem dX5_digest_115 : decode cX5_digest 115 = .ok (.aload_n 0, 1) := by decide +kernel
theorem dX5_digest_116 : decode cX5_digest 116 = .ok (.getfield 181, 3) := by decide +kernel
theorem dX5_digest_119 : decode cX5_digest 119 = .ok (.lreturn, 1) := by decide +kernel
