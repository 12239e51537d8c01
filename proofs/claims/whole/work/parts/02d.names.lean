set_option maxRecDepth 20000 in
theorem ggX3_layAhead_X3_at : GoodIn wsX3_layAhead wsX3_at := goodIn_r _ [6] (by decide +kernel) (by decide +kernel)
set_option maxRecDepth 20000 in
theorem gX3_layAhead_X3_at : GoodIn wsX3_layAhead (va_wsS RX3 77 yX3_at wsX3_at) := goodIn_app (goodIn_of _ (by decide +kernel)) ggX3_layAhead_X3_at
set_option maxRecDepth 20000 in
theorem ggX3_layAhead_X3_isAt : GoodIn wsX3_layAhead wsX3_isAt := goodIn_r _ [10, 1, 11, 12, 13, 5, 14, 15, 16, 17, 18, 19, 20, 21, 22, 23, 24, 25, 26, 27, 28, 29, 30, 31, 32, 33, 34, 35, 36, 37, 38, 39, 40, 41, 42, 55, 56, 57, 58, 59, 60, 61] (by decide +kernel) (by decide +kernel)
set_option maxRecDepth 20000 in
theorem gX3_layAhead_X3_isAt : GoodIn wsX3_layAhead (wsV RX3 83 RX3 yX3_isAt wsX3_isAt) := goodIn_app (goodIn_of _ (by decide +kernel)) ggX3_layAhead_X3_isAt
set_option maxRecDepth 20000 in
theorem ggX3_layAhead_X3_leastAhead : GoodIn wsX3_layAhead wsX3_leastAhead := goodIn_r _ [46, 2, 1, 3, 4, 5, 6, 47, 48, 49, 50, 26, 27, 28, 29, 30, 31, 32, 33, 34, 35, 36, 37, 38, 39, 40, 41, 42, 51, 52, 53, 54, 55, 56, 57, 58, 59, 60, 61] (by decide +kernel) (by decide +kernel)
set_option maxRecDepth 20000 in
theorem gX3_layAhead_X3_leastAhead : GoodIn wsX3_layAhead (wsV RX3 101 RX3 yX3_leastAhead wsX3_leastAhead) := goodIn_app (goodIn_of _ (by decide +kernel)) ggX3_layAhead_X3_leastAhead
theorem dX3_layAhead_0 : decode cX3_layAhead 0 = .ok (.iconst 0, 1) := by decide +kernel
theorem dX3_layAhead_1 : decode cX3_layAhead 1 = .ok (.istore_n 1, 1) := by decide +kernel
theorem dX3_layAhead_2 : decode cX3_layAhead 2 = .ok (.iload_n 1, 1) := by decide +kernel
theorem dX3_layAhead_3 : decode cX3_layAhead 3 = .ok (.aload_n 0, 1) := by decide +kernel
theorem dX3_layAhead_4 : decode cX3_layAhead 4 = .ok (.getfield 7, 3) := by decide +kernel
theorem dX3_layAhead_7 : decode cX3_layAhead 7 = .ok (.bipush 9, 2) := by decide +kernel
theorem dX3_layAhead_9 : decode cX3_layAhead 9 = .ok (.iaload, 1) := by decide +kernel
theorem dX3_layAhead_10 : decode cX3_layAhead 10 = .ok (.if_icmp .ge 61, 3) := by decide +kernel
theorem dX3_layAhead_13 : decode cX3_layAhead 13 = .ok (.iconst 0, 1) := by decide +kernel
theorem dX3_layAhead_14 : decode cX3_layAhead 14 = .ok (.istore_n 2, 1) := by decide +kernel
theorem dX3_layAhead_15 : decode cX3_layAhead 15 = .ok (.iload_n 2, 1) := by decide +kernel
theorem dX3_layAhead_16 : decode cX3_layAhead 16 = .ok (.bipush 64, 2) := by decide +kernel
theorem dX3_layAhead_18 : decode cX3_layAhead 18 = .ok (.if_icmp .ge 47, 3) := by decide +kernel
theorem dX3_layAhead_21 : decode cX3_layAhead 21 = .ok (.aload_n 0, 1) := by decide +kernel
theorem dX3_layAhead_22 : decode cX3_layAhead 22 = .ok (.getfield 30, 3) := by decide +kernel
theorem dX3_layAhead_25 : decode cX3_layAhead 25 = .ok (.iload_n 1, 1) := by decide +kernel
theorem dX3_layAhead_26 : decode cX3_layAhead 26 = .ok (.iload_n 2, 1) := by decide +kernel
theorem dX3_layAhead_27 : decode cX3_layAhead 27 = .ok (.invokestatic 77, 3) := by decide +kernel
theorem dX3_layAhead_30 : decode cX3_layAhead 30 = .ok (.aload_n 0, 1) := by decide +kernel
theorem dX3_layAhead_31 : decode cX3_layAhead 31 = .ok (.iload_n 1, 1) := by decide +kernel
theorem dX3_layAhead_32 : decode cX3_layAhead 32 = .ok (.iload_n 2, 1) := by decide +kernel
theorem dX3_layAhead_33 : decode cX3_layAhead 33 = .ok (.invokevirtual 83, 3) := by decide +kernel
theorem dX3_layAhead_36 : decode cX3_layAhead 36 = .ok (.ifCond .ne 8, 3) := by decide +kernel
theorem dX3_layAhead_39 : decode cX3_layAhead 39 = .ok (.bipush (-6), 2) := by decide +kernel
theorem dX3_layAhead_41 : decode cX3_layAhead 41 = .ok (.goto 17, 3) := by decide +kernel
theorem dX3_layAhead_44 : decode cX3_layAhead 44 = .ok (.iload_n 1, 1) := by decide +kernel
theorem dX3_layAhead_45 : decode cX3_layAhead 45 = .ok (.ifCond .ne 7, 3) := by decide +kernel
theorem dX3_layAhead_48 : decode cX3_layAhead 48 = .ok (.iconst 0, 1) := by decide +kernel
theorem dX3_layAhead_49 : decode cX3_layAhead 49 = .ok (.goto 9, 3) := by decide +kernel
theorem dX3_layAhead_52 : decode cX3_layAhead 52 = .ok (.aload_n 0, 1) := by decide +kernel
theorem dX3_layAhead_53 : decode cX3_layAhead 53 = .ok (.iload_n 1, 1) := by decide +kernel
theorem dX3_layAhead_54 : decode cX3_layAhead 54 = .ok (.iload_n 2, 1) := by decide +kernel
theorem dX3_layAhead_55 : decode cX3_layAhead 55 = .ok (.invokevirtual 101, 3) := by decide +kernel
theorem dX3_layAhead_58 : decode cX3_layAhead 58 = .ok (.iastore, 1) := by decide +kernel
theorem dX3_layAhead_59 : decode cX3_layAhead 59 = .ok (.iinc 2 1, 3) := by decide +kernel
theorem dX3_layAhead_62 : decode cX3_layAhead 62 = .ok (.goto (-47), 3) := by decide +kernel
theorem dX3_layAhead_65 : decode cX3_layAhead 65 = .ok (.iinc 1 1, 3) := by decide +kernel
theorem dX3_layAhead_68 : decode cX3_layAhead 68 = .ok (.goto (-66), 3) := by decide +kernel
theorem dX3_layAhead_71 : decode cX3_layAhead 71 = .ok (.return_, 1) := by decide +kernel
set_option maxRecDepth 20000 in
theorem ggX3_leastAhead_X3_at : GoodIn wsX3_leastAhead wsX3_at := goodIn_r _ [6] (by decide +kernel) (by decide +kernel)
set_option maxRecDepth 20000 in
theorem gX3_leastAhead_X3_at : GoodIn wsX3_leastAhead (va_wsS RX3 77 yX3_at wsX3_at) := goodIn_app (goodIn_of _ (by decide +kernel)) ggX3_leastAhead_X3_at
set_option maxRecDepth 20000 in
theorem ggX3_leastAhead_X3_faultOf : GoodIn wsX3_leastAhead wsX3_faultOf := goodIn_r _ [10, 2, 11, 12, 13, 5, 14, 15, 16, 17, 18, 19, 20, 21, 22, 23, 24, 25, 26, 27, 32, 33, 34, 35, 36, 37, 38] (by decide +kernel) (by decide +kernel)
set_option maxRecDepth 20000 in
theorem gX3_leastAhead_X3_faultOf : GoodIn wsX3_leastAhead (wsV RX3 80 RX3 yX3_faultOf wsX3_faultOf) := goodIn_app (goodIn_of _ (by decide +kernel)) ggX3_leastAhead_X3_faultOf
set_option maxRecDepth 20000 in
theorem ggX3_leastAhead_X3_effortOf : GoodIn wsX3_leastAhead wsX3_effortOf := goodIn_r _ [31, 2, 22, 23, 5, 24, 25, 26, 27, 32, 33, 34, 35, 36, 37, 38] (by decide +kernel) (by decide +kernel)
set_option maxRecDepth 20000 in
theorem gX3_leastAhead_X3_effortOf : GoodIn wsX3_leastAhead (wsV RX3 74 RX3 yX3_effortOf wsX3_effortOf) := goodIn_app (goodIn_of _ (by decide +kernel)) ggX3_leastAhead_X3_effortOf
theorem dX3_leastAhead_0 : decode cX3_leastAhead 0 = .ok (.bipush (-6), 2) := by decide +kernel
theorem dX3_leastAhead_2 : decode cX3_leastAhead 2 = .ok (.istore_n 3, 1) := by decide +kernel
theorem dX3_leastAhead_3 : decode cX3_leastAhead 3 = .ok (.iconst 0, 1) := by decide +kernel
theorem dX3_leastAhead_4 : decode cX3_leastAhead 4 = .ok (.istore 4, 2) := by decide +kernel
theorem dX3_leastAhead_6 : decode cX3_leastAhead 6 = .ok (.iload 4, 2) := by decide +kernel
theorem dX3_leastAhead_8 : decode cX3_leastAhead 8 = .ok (.bipush 64, 2) := by decide +kernel
theorem dX3_leastAhead_10 : decode cX3_leastAhead 10 = .ok (.if_icmp .ge 76, 3) := by decide +kernel
theorem dX3_leastAhead_13 : decode cX3_leastAhead 13 = .ok (.aload_n 0, 1) := by decide +kernel
theorem dX3_leastAhead_14 : decode cX3_leastAhead 14 = .ok (.getfield 30, 3) := by decide +kernel
theorem dX3_leastAhead_17 : decode cX3_leastAhead 17 = .ok (.iload_n 1, 1) := by decide +kernel
theorem dX3_leastAhead_18 : decode cX3_leastAhead 18 = .ok (.iconst 1, 1) := by decide +kernel
theorem dX3_leastAhead_19 : decode cX3_leastAhead 19 = .ok (.isub, 1) := by decide +kernel
theorem dX3_leastAhead_20 : decode cX3_leastAhead 20 = .ok (.iload 4, 2) := by decide +kernel
theorem dX3_leastAhead_22 : decode cX3_leastAhead 22 = .ok (.invokestatic 77, 3) := by decide +kernel
theorem dX3_leastAhead_25 : decode cX3_leastAhead 25 = .ok (.iaload, 1) := by decide +kernel
theorem dX3_leastAhead_26 : decode cX3_leastAhead 26 = .ok (.istore 5, 2) := by decide +kernel
theorem dX3_leastAhead_28 : decode cX3_leastAhead 28 = .ok (.iload 5, 2) := by decide +kernel
theorem dX3_leastAhead_30 : decode cX3_leastAhead 30 = .ok (.ifCond .lt 50, 3) := by decide +kernel
theorem dX3_leastAhead_33 : decode cX3_leastAhead 33 = .ok (.iload 5, 2) := by decide +kernel
theorem dX3_leastAhead_35 : decode cX3_leastAhead 35 = .ok (.aload_n 0, 1) := by decide +kernel
theorem dX3_leastAhead_36 : decode cX3_leastAhead 36 = .ok (.iload 4, 2) := by decide +kernel
theorem dX3_leastAhead_38 : decode cX3_leastAhead 38 = .ok (.aload_n 0, 1) := by decide +kernel
theorem dX3_leastAhead_39 : decode cX3_leastAhead 39 = .ok (.getfield 7, 3) := by decide +kernel
theorem dX3_leastAhead_42 : decode cX3_leastAhead 42 = .ok (.bipush 10, 2) := by decide +kernel
theorem dX3_leastAhead_44 : decode cX3_leastAhead 44 = .ok (.iload_n 1, 1) := by decide +kernel
theorem dX3_leastAhead_45 : decode cX3_leastAhead 45 = .ok (.iadd, 1) := by decide +kernel
theorem dX3_leastAhead_46 : decode cX3_leastAhead 46 = .ok (.iconst 1, 1) := by decide +kernel
theorem dX3_leastAhead_47 : decode cX3_leastAhead 47 = .ok (.isub, 1) := by decide +kernel
theorem dX3_leastAhead_48 : decode cX3_leastAhead 48 = .ok (.iaload, 1) := by decide +kernel
theorem dX3_leastAhead_49 : decode cX3_leastAhead 49 = .ok (.invokevirtual 80, 3) := by decide +kernel
theorem dX3_leastAhead_52 : decode cX3_leastAhead 52 = .ok (.iadd, 1) := by decide +kernel
theorem dX3_leastAhead_53 : decode cX3_leastAhead 53 = .ok (.aload_n 0, 1) := by decide +kernel
theorem dX3_leastAhead_54 : decode cX3_leastAhead 54 = .ok (.iload 4, 2) := by decide +kernel
theorem dX3_leastAhead_56 : decode cX3_leastAhead 56 = .ok (.iload_n 2, 1) := by decide +kernel
theorem dX3_leastAhead_57 : decode cX3_leastAhead 57 = .ok (.invokevirtual 74, 3) := by decide +kernel
theorem dX3_leastAhead_60 : decode cX3_leastAhead 60 = .ok (.iadd, 1) := by decide +kernel
theorem dX3_leastAhead_61 : decode cX3_leastAhead 61 = .ok (.istore 6, 2) := by decide +kernel
theorem dX3_leastAhead_63 : decode cX3_leastAhead 63 = .ok (.iload_n 3, 1) := by decide +kernel
theorem dX3_leastAhead_64 : decode cX3_leastAhead 64 = .ok (.ifCond .lt 9, 3) := by decide +kernel
theorem dX3_leastAhead_67 : decode cX3_leastAhead 67 = .ok (.iload 6, 2) := by decide +kernel
theorem dX3_leastAhead_69 : decode cX3_leastAhead 69 = .ok (.iload_n 3, 1) := by decide +kernel
theorem dX3_leastAhead_70 : decode cX3_leastAhead 70 = .ok (.if_icmp .ge 8, 3) := by decide +kernel
theorem dX3_leastAhead_73 : decode cX3_leastAhead 73 = .ok (.iload 6, 2) := by decide +kernel
theorem dX3_leastAhead_75 : decode cX3_leastAhead 75 = .ok (.goto 4, 3) := by decide +kernel
theorem dX3_leastAhead_78 : decode cX3_leastAhead 78 = .ok (.iload_n 3, 1) := by decide +kernel
theorem dX3_leastAhead_79 : decode cX3_leastAhead 79 = .ok (.istore_n 3, 1) := by decide +kernel
theorem dX3_leastAhead_80 : decode cX3_leastAhead 80 = .ok (.iinc 4 1, 3) := by decide +kernel
theorem dX3_leastAhead_83 : decode cX3_leastAhead 83 = .ok (.goto (-77), 3) := by decide +kernel
theorem dX3_leastAhead_86 : decode cX3_leastAhead 86 = .ok (.iload_n 3, 1) := by decide +kernel
theorem dX3_leastAhead_87 : decode cX3_leastAhead 87 = .ok (.ireturn, 1) := by decide +kernel
set_option maxRecDepth 20000 in
theorem ggX3_leastAt_X3_at : GoodIn wsX3_leastAt wsX3_at := goodIn_r _ [7] (by decide +kernel) (by decide +kernel)
set_option maxRecDepth 20000 in
theorem gX3_leastAt_X3_at : GoodIn wsX3_leastAt (va_wsS RX3 77 yX3_at wsX3_at) := goodIn_app (goodIn_of _ (by decide +kernel)) ggX3_leastAt_X3_at
theorem dX3_leastAt_0 : decode cX3_leastAt 0 = .ok (.iconst 0, 1) := by decide +kernel
theorem dX3_leastAt_1 : decode cX3_leastAt 1 = .ok (.istore_n 3, 1) := by decide +kernel
theorem dX3_leastAt_2 : decode cX3_leastAt 2 = .ok (.iconst 0, 1) := by decide +kernel
theorem dX3_leastAt_3 : decode cX3_leastAt 3 = .ok (.istore 4, 2) := by decide +kernel
theorem dX3_leastAt_5 : decode cX3_leastAt 5 = .ok (.iload 4, 2) := by decide +kernel
theorem dX3_leastAt_7 : decode cX3_leastAt 7 = .ok (.bipush 64, 2) := by decide +kernel
theorem dX3_leastAt_9 : decode cX3_leastAt 9 = .ok (.if_icmp .ge 66, 3) := by decide +kernel
theorem dX3_leastAt_12 : decode cX3_leastAt 12 = .ok (.iload_n 1, 1) := by decide +kernel
theorem dX3_leastAt_13 : decode cX3_leastAt 13 = .ok (.iload 4, 2) := by decide +kernel
theorem dX3_leastAt_15 : decode cX3_leastAt 15 = .ok (.invokestatic 77, 3) := by decide +kernel
theorem dX3_leastAt_18 : decode cX3_leastAt 18 = .ok (.istore 5, 2) := by decide +kernel
theorem dX3_leastAt_20 : decode cX3_leastAt 20 = .ok (.iload_n 3, 1) := by decide +kernel
theorem dX3_leastAt_21 : decode cX3_leastAt 21 = .ok (.aload_n 0, 1) := by decide +kernel
theorem dX3_leastAt_22 : decode cX3_leastAt 22 = .ok (.getfield 30, 3) := by decide +kernel
theorem dX3_leastAt_25 : decode cX3_leastAt 25 = .ok (.iload 5, 2) := by decide +kernel
theorem dX3_leastAt_27 : decode cX3_leastAt 27 = .ok (.iaload, 1) := by decide +kernel
theorem dX3_leastAt_28 : decode cX3_leastAt 28 = .ok (.ifCond .lt 38, 3) := by decide +kernel
theorem dX3_leastAt_31 : decode cX3_leastAt 31 = .ok (.aload_n 0, 1) := by decide +kernel
theorem dX3_leastAt_32 : decode cX3_leastAt 32 = .ok (.getfield 23, 3) := by decide +kernel
theorem dX3_leastAt_35 : decode cX3_leastAt 35 = .ok (.iload 5, 2) := by decide +kernel
theorem dX3_leastAt_37 : decode cX3_leastAt 37 = .ok (.laload, 1) := by decide +kernel
theorem dX3_leastAt_38 : decode cX3_leastAt 38 = .ok (.lconst 0, 1) := by decide +kernel
theorem dX3_leastAt_39 : decode cX3_leastAt 39 = .ok (.lcmp, 1) := by decide +kernel
theorem dX3_leastAt_40 : decode cX3_leastAt 40 = .ok (.ifCond .le 26, 3) := by decide +kernel
theorem dX3_leastAt_43 : decode cX3_leastAt 43 = .ok (.aload_n 0, 1) := by decide +kernel
theorem dX3_leastAt_44 : decode cX3_leastAt 44 = .ok (.getfield 30, 3) := by decide +kernel
theorem dX3_leastAt_47 : decode cX3_leastAt 47 = .ok (.iload 5, 2) := by decide +kernel
theorem dX3_leastAt_49 : decode cX3_leastAt 49 = .ok (.iaload, 1) := by decide +kernel
theorem dX3_leastAt_50 : decode cX3_leastAt 50 = .ok (.aload_n 0, 1) := by decide +kernel
theorem dX3_leastAt_51 : decode cX3_leastAt 51 = .ok (.getfield 20, 3) := by decide +kernel
theorem dX3_leastAt_54 : decode cX3_leastAt 54 = .ok (.iload 5, 2) := by decide +kernel
theorem dX3_leastAt_56 : decode cX3_leastAt 56 = .ok (.iaload, 1) := by decide +kernel
theorem dX3_leastAt_57 : decode cX3_leastAt 57 = .ok (.iadd, 1) := by decide +kernel
theorem dX3_leastAt_58 : decode cX3_leastAt 58 = .ok (.iload_n 2, 1) := by decide +kernel
theorem dX3_leastAt_59 : decode cX3_leastAt 59 = .ok (.if_icmp .ne 7, 3) := by decide +kernel
theorem dX3_leastAt_62 : decode cX3_leastAt 62 = .ok (.iconst 1, 1) := by decide +kernel
theorem dX3_leastAt_63 : decode cX3_leastAt 63 = .ok (.goto 4, 3) := by decide +kernel
theorem dX3_leastAt_66 : decode cX3_leastAt 66 = .ok (.iconst 0, 1) := by decide +kernel
theorem dX3_leastAt_67 : decode cX3_leastAt 67 = .ok (.iadd, 1) := by decide +kernel
theorem dX3_leastAt_68 : decode cX3_leastAt 68 = .ok (.istore_n 3, 1) := by decide +kernel
theorem dX3_leastAt_69 : decode cX3_leastAt 69 = .ok (.iinc 4 1, 3) := by decide +kernel
theorem dX3_leastAt_72 : decode cX3_leastAt 72 = .ok (.goto (-67), 3) := by decide +kernel
theorem dX3_leastAt_75 : decode cX3_leastAt 75 = .ok (.iload_n 3, 1) := by decide +kernel
theorem dX3_leastAt_76 : decode cX3_leastAt 76 = .ok (.ireturn, 1) := by decide +kernel
set_option maxRecDepth 20000 in
theorem ggX3_plans_X3_in : GoodIn wsX3_plans wsX3_in := goodIn_r _ [10] (by decide +kernel) (by decide +kernel)
set_option maxRecDepth 20000 in
theorem gX3_plans_X3_in : GoodIn wsX3_plans (va_wsS RX3 33 yX3_in wsX3_in) := goodIn_app (goodIn_of _ (by decide +kernel)) ggX3_plans_X3_in
set_option maxRecDepth 20000 in
theorem ggX3_plans_X3_layAllRests : GoodIn wsX3_plans wsX3_layAllRests := goodIn_r _ [14, 3, 4, 15, 16, 9, 17, 18, 19, 20, 21, 22, 23, 24, 25, 26, 27, 28, 29, 7, 8, 10, 30, 31, 32, 33, 34, 35, 36, 37, 38, 39, 40, 41, 42, 43, 44, 45, 46, 47, 48, 49, 50, 51, 52, 53, 54, 5, 6, 55, 56, 57, 58, 59, 60, 61, 62, 84, 85, 86, 87, 88, 89, 90] (by decide +kernel) (by decide +kernel)
set_option maxRecDepth 20000 in
theorem gX3_plans_X3_layAllRests : GoodIn wsX3_plans (wsV RX3 90 RX3 yX3_layAllRests wsX3_layAllRests) := goodIn_app (goodIn_of _ (by decide +kernel)) ggX3_plans_X3_layAllRests
set_option maxRecDepth 20000 in
theorem ggX3_plans_X3_leastOfAll : GoodIn wsX3_plans wsX3_leastOfAll := goodIn_r _ [66, 3, 4, 5, 84, 85, 86, 87, 88, 89, 90] (by decide +kernel) (by decide +kernel)
set_option maxRecDepth 20000 in
theorem gX3_plans_X3_leastOfAll : GoodIn wsX3_plans (wsV RX3 93 RX3 yX3_leastOfAll wsX3_leastOfAll) := goodIn_app (goodIn_of _ (by decide +kernel)) ggX3_plans_X3_leastOfAll
set_option maxRecDepth 20000 in
theorem ggX3_plans_X3_layAhead : GoodIn wsX3_plans wsX3_layAhead := goodIn_r _ [70, 3, 71, 15, 16, 9, 17, 18, 19, 20, 21, 22, 23, 24, 25, 26, 27, 28, 29, 7, 8, 10, 30, 31, 32, 33, 34, 35, 36, 37, 38, 39, 40, 41, 42, 43, 44, 45, 46, 47, 48, 49, 50, 72, 73, 74, 75, 55, 56, 57, 58, 59, 60, 61, 62, 84, 85, 86, 87, 88, 89, 90] (by decide +kernel) (by decide +kernel)
set_option maxRecDepth 20000 in
theorem gX3_plans_X3_layAhead : GoodIn wsX3_plans (wsV RX3 106 RX3 yX3_layAhead wsX3_layAhead) := goodIn_app (goodIn_of _ (by decide +kernel)) ggX3_plans_X3_layAhead
set_option maxRecDepth 20000 in
theorem ggX3_plans_X3_isPlace : GoodIn wsX3_plans wsX3_isPlace := goodIn_r _ [79, 3, 7, 8, 9, 10, 84, 85, 86, 87, 88, 89, 90] (by decide +kernel) (by decide +kernel)
set_option maxRecDepth 20000 in
theorem gX3_plans_X3_isPlace : GoodIn wsX3_plans (wsV RX3 71 RX3 yX3_isPlace wsX3_isPlace) := goodIn_app (goodIn_of _ (by decide +kernel)) ggX3_plans_X3_isPlace
set_option maxRecDepth 20000 in
theorem ggX3_plans_X3_leastAt : GoodIn wsX3_plans wsX3_leastAt := goodIn_r _ [83, 71, 4, 5, 15, 16, 9, 17, 84, 85, 86, 87, 88, 89, 90] (by decide +kernel) (by decide +kernel)
set_option maxRecDepth 20000 in
theorem gX3_plans_X3_leastAt : GoodIn wsX3_plans (wsV RX3 111 RX3 yX3_leastAt wsX3_leastAt) := goodIn_app (goodIn_of _ (by decide +kernel)) ggX3_plans_X3_leastAt
theorem dX3_plans_0 : decode cX3_plans 0 = .ok (.iload_n 1, 1) := by decide +kernel
theorem dX3_plans_1 : decode cX3_plans 1 = .ok (.iconst 0, 1) := by decide +kernel
theorem dX3_plans_2 : decode cX3_plans 2 = .ok (.iconst 1, 1) := by decide +kernel
theorem dX3_plans_3 : decode cX3_plans 3 = .ok (.invokestatic 33, 3) := by decide +kernel
theorem dX3_plans_6 : decode cX3_plans 6 = .ok (.ifCond .ne 18, 3) := by decide +kernel
theorem dX3_plans_9 : decode cX3_plans 9 = .ok (.iload_n 1, 1) := by decide +kernel
theorem dX3_plans_10 : decode cX3_plans 10 = .ok (.bipush 10, 2) := by decide +kernel
theorem dX3_plans_12 : decode cX3_plans 12 = .ok (.bipush 21, 2) := by decide +kernel
theorem dX3_plans_14 : decode cX3_plans 14 = .ok (.invokestatic 33, 3) := by decide +kernel
theorem dX3_plans_17 : decode cX3_plans 17 = .ok (.ifCond .ne 7, 3) := by decide +kernel
theorem dX3_plans_20 : decode cX3_plans 20 = .ok (.ldc2_w 104, 3) := by decide +kernel
theorem dX3_plans_23 : decode cX3_plans 23 = .ok (.lreturn, 1) := by decide +kernel
theorem dX3_plans_24 : decode cX3_plans 24 = .ok (.aload_n 0, 1) := by decide +kernel
theorem dX3_plans_25 : decode cX3_plans 25 = .ok (.invokevirtual 90, 3) := by decide +kernel
theorem dX3_plans_28 : decode cX3_plans 28 = .ok (.aload_n 0, 1) := by decide +kernel
theorem dX3_plans_29 : decode cX3_plans 29 = .ok (.invokevirtual 93, 3) := by decide +kernel
theorem dX3_plans_32 : decode cX3_plans 32 = .ok (.istore_n 2, 1) := by decide +kernel
theorem dX3_plans_33 : decode cX3_plans 33 = .ok (.iload_n 1, 1) := by decide +kernel
theorem dX3_plans_34 : decode cX3_plans 34 = .ok (.bipush 10, 2) := by decide +kernel
theorem dX3_plans_36 : decode cX3_plans 36 = .ok (.if_icmp .lt 39, 3) := by decide +kernel
theorem dX3_plans_39 : decode cX3_plans 39 = .ok (.aload_n 0, 1) := by decide +kernel
theorem dX3_plans_40 : decode cX3_plans 40 = .ok (.invokevirtual 106, 3) := by decide +kernel
theorem dX3_plans_43 : decode cX3_plans 43 = .ok (.iload_n 2, 1) := by decide +kernel
theorem dX3_plans_44 : decode cX3_plans 44 = .ok (.ifCond .lt 14, 3) := by decide +kernel
theorem dX3_plans_47 : decode cX3_plans 47 = .ok (.aload_n 0, 1) := by decide +kernel
theorem dX3_plans_48 : decode cX3_plans 48 = .ok (.iload_n 1, 1) := by decide +kernel
theorem dX3_plans_49 : decode cX3_plans 49 = .ok (.bipush 10, 2) := by decide +kernel
theorem dX3_plans_51 : decode cX3_plans 51 = .ok (.isub, 1) := by decide +kernel
theorem dX3_plans_52 : decode cX3_plans 52 = .ok (.invokevirtual 71, 3) := by decide +kernel
theorem dX3_plans_55 : decode cX3_plans 55 = .ok (.ifCond .ne 9, 3) := by decide +kernel
theorem dX3_plans_58 : decode cX3_plans 58 = .ok (.ldc2_w 109, 3) := by decide +kernel
theorem dX3_plans_61 : decode cX3_plans 61 = .ok (.goto 13, 3) := by decide +kernel
theorem dX3_plans_64 : decode cX3_plans 64 = .ok (.aload_n 0, 1) := by decide +kernel
theorem dX3_plans_65 : decode cX3_plans 65 = .ok (.iload_n 1, 1) := by decide +kernel
theorem dX3_plans_66 : decode cX3_plans 66 = .ok (.bipush 10, 2) := by decide +kernel
theorem dX3_plans_68 : decode cX3_plans 68 = .ok (.isub, 1) := by decide +kernel
theorem dX3_plans_69 : decode cX3_plans 69 = .ok (.iload_n 2, 1) := by decide +kernel
theorem dX3_plans_70 : decode cX3_plans 70 = .ok (.invokevirtual 111, 3) := by decide +kernel
theorem dX3_plans_73 : decode cX3_plans 73 = .ok (.i2l, 1) := by decide +kernel
theorem dX3_plans_74 : decode cX3_plans 74 = .ok (.lreturn, 1) := by decide +kernel
theorem dX3_plans_75 : decode cX3_plans 75 = .ok (.aload_n 0, 1) := by decide +kernel
theorem dX3_plans_76 : decode cX3_plans 76 = .ok (.getfield 7, 3) := by decide +kernel
theorem dX3_plans_79 : decode cX3_plans 79 = .ok (.bipush 9, 2) := by decide +kernel
theorem dX3_plans_81 : decode cX3_plans 81 = .ok (.iaload, 1) := by decide +kernel
theorem dX3_plans_82 : decode cX3_plans 82 = .ok (.ifCond .ne 5, 3) := by decide +kernel
theorem dX3_plans_85 : decode cX3_plans 85 = .ok (.lconst 1, 1) := by decide +kernel
theorem dX3_plans_86 : decode cX3_plans 86 = .ok (.lreturn, 1) := by decide +kernel
theorem dX3_plans_87 : decode cX3_plans 87 = .ok (.lconst 0, 1) := by decide +kernel
theorem dX3_plans_88 : decode cX3_plans 88 = .ok (.lstore_n 3, 1) := by decide +kernel
theorem dX3_plans_89 : decode cX3_plans 89 = .ok (.iconst 0, 1) := by decide +kernel
theorem dX3_plans_90 : decode cX3_plans 90 = .ok (.istore 5, 2) := by decide +kernel
theorem dX3_plans_92 : decode cX3_plans 92 = .ok (.iload 5, 2) := by decide +kernel
theorem dX3_plans_94 : decode cX3_plans 94 = .ok (.bipush 64, 2) := by decide +kernel
theorem dX3_plans_96 : decode cX3_plans 96 = .ok (.if_icmp .ge 60, 3) := by decide +kernel
theorem dX3_plans_99 : decode cX3_plans 99 = .ok (.aload_n 0, 1) := by decide +kernel
theorem dX3_plans_100 : decode cX3_plans 100 = .ok (.getfield 23, 3) := by decide +kernel
theorem dX3_plans_103 : decode cX3_plans 103 = .ok (.iload 5, 2) := by decide +kernel
theorem dX3_plans_105 : decode cX3_plans 105 = .ok (.laload, 1) := by decide +kernel
theorem dX3_plans_106 : decode cX3_plans 106 = .ok (.lconst 0, 1) := by decide +kernel
theorem dX3_plans_107 : decode cX3_plans 107 = .ok (.lcmp, 1) := by decide +kernel
theorem dX3_plans_108 : decode cX3_plans 108 = .ok (.ifCond .le 42, 3) := by decide +kernel
theorem dX3_plans_111 : decode cX3_plans 111 = .ok (.lload_n 3, 1) := by decide +kernel
theorem dX3_plans_112 : decode cX3_plans 112 = .ok (.iload_n 1, 1) := by decide +kernel
theorem dX3_plans_113 : decode cX3_plans 113 = .ok (.ifCond .ne 13, 3) := by decide +kernel
theorem dX3_plans_116 : decode cX3_plans 116 = .ok (.aload_n 0, 1) := by decide +kernel
theorem dX3_plans_117 : decode cX3_plans 117 = .ok (.getfield 23, 3) := by decide +kernel
theorem dX3_plans_120 : decode cX3_plans 120 = .ok (.iload 5, 2) := by decide +kernel
theorem dX3_plans_122 : decode cX3_plans 122 = .ok (.laload, 1) := by decide +kernel
theorem dX3_plans_123 : decode cX3_plans 123 = .ok (.goto 25, 3) := by decide +kernel
theorem dX3_plans_126 : decode cX3_plans 126 = .ok (.aload_n 0, 1) := by decide +kernel
theorem dX3_plans_127 : decode cX3_plans 127 = .ok (.getfield 20, 3) := by decide +kernel
theorem dX3_plans_130 : decode cX3_plans 130 = .ok (.iload 5, 2) := by decide +kernel
theorem dX3_plans_132 : decode cX3_plans 132 = .ok (.iaload, 1) := by decide +kernel
theorem dX3_plans_133 : decode cX3_plans 133 = .ok (.iload_n 2, 1) := by decide +kernel
theorem dX3_plans_134 : decode cX3_plans 134 = .ok (.if_icmp .ne 13, 3) := by decide +kernel
theorem dX3_plans_137 : decode cX3_plans 137 = .ok (.aload_n 0, 1) := by decide +kernel
theorem dX3_plans_138 : decode cX3_plans 138 = .ok (.getfield 27, 3) := by decide +kernel
theorem dX3_plans_141 : decode cX3_plans 141 = .ok (.iload 5, 2) := by decide +kernel
theorem dX3_plans_143 : decode cX3_plans 143 = .ok (.laload, 1) := by decide +kernel
theorem dX3_plans_144 : decode cX3_plans 144 = .ok (.goto 4, 3) := by decide +kernel
theorem dX3_plans_147 : decode cX3_plans 147 = .ok (.lconst 0, 1) := by decide +kernel
theorem dX3_plans_148 : decode cX3_plans 148 = .ok (.ladd, 1) := by decide +kernel
theorem dX3_plans_149 : decode cX3_plans 149 = .ok (.lstore_n 3, 1) := by decide +kernel
theorem dX3_plans_150 : decode cX3_plans 150 = .ok (.iinc 5 1, 3) := by decide +kernel
theorem dX3_plans_153 : decode cX3_plans 153 = .ok (.goto (-61), 3) := by decide +kernel
theorem dX3_plans_156 : decode cX3_plans 156 = .ok (.lload_n 3, 1) := by decide +kernel
theorem dX3_plans_157 : decode cX3_plans 157 = .ok (.lreturn, 1) := by decide +kernel
set_option maxRecDepth 20000 in
theorem ggX3_dumb_X3_waysOf : GoodIn wsX3_dumb wsX3_waysOf := goodIn_r _ [6, 7, 8, 9, 5, 10, 1, 11, 12, 13, 14, 15, 16, 17, 18, 19, 20, 21, 22, 23, 24, 25, 26, 27, 28, 29, 30, 31, 32, 33, 34, 35, 36, 37, 38, 39, 40, 41, 42, 43, 44, 45] (by decide +kernel) (by decide +kernel)
set_option maxRecDepth 20000 in
theorem gX3_dumb_X3_waysOf : GoodIn wsX3_dumb (wsV RX3 68 RX3 yX3_waysOf wsX3_waysOf) := goodIn_app (goodIn_of _ (by decide +kernel)) ggX3_dumb_X3_waysOf
theorem dX3_dumb_0 : decode cX3_dumb 0 = .ok (.iconst 0, 1) := by decide +kernel
theorem dX3_dumb_1 : decode cX3_dumb 1 = .ok (.istore_n 1, 1) := by decide +kernel
theorem dX3_dumb_2 : decode cX3_dumb 2 = .ok (.iload_n 1, 1) := by decide +kernel
theorem dX3_dumb_3 : decode cX3_dumb 3 = .ok (.aload_n 0, 1) := by decide +kernel
theorem dX3_dumb_4 : decode cX3_dumb 4 = .ok (.getfield 7, 3) := by decide +kernel
theorem dX3_dumb_7 : decode cX3_dumb 7 = .ok (.bipush 9, 2) := by decide +kernel
theorem dX3_dumb_9 : decode cX3_dumb 9 = .ok (.iaload, 1) := by decide +kernel
theorem dX3_dumb_10 : decode cX3_dumb 10 = .ok (.if_icmp .ge 27, 3) := by decide +kernel
theorem dX3_dumb_13 : decode cX3_dumb 13 = .ok (.aload_n 0, 1) := by decide +kernel
theorem dX3_dumb_14 : decode cX3_dumb 14 = .ok (.aload_n 0, 1) := by decide +kernel
theorem dX3_dumb_15 : decode cX3_dumb 15 = .ok (.getfield 7, 3) := by decide +kernel
theorem dX3_dumb_18 : decode cX3_dumb 18 = .ok (.bipush 10, 2) := by decide +kernel
theorem dX3_dumb_20 : decode cX3_dumb 20 = .ok (.iload_n 1, 1) := by decide +kernel
theorem dX3_dumb_21 : decode cX3_dumb 21 = .ok (.iadd, 1) := by decide +kernel
theorem dX3_dumb_22 : decode cX3_dumb 22 = .ok (.iaload, 1) := by decide +kernel
theorem dX3_dumb_23 : decode cX3_dumb 23 = .ok (.invokevirtual 68, 3) := by decide +kernel
theorem dX3_dumb_26 : decode cX3_dumb 26 = .ok (.ifCond .ne 5, 3) := by decide +kernel
theorem dX3_dumb_29 : decode cX3_dumb 29 = .ok (.iload_n 1, 1) := by decide +kernel
theorem dX3_dumb_30 : decode cX3_dumb 30 = .ok (.ireturn, 1) := by decide +kernel
theorem dX3_dumb_31 : decode cX3_dumb 31 = .ok (.iinc 1 1, 3) := by decide +kernel
theorem dX3_dumb_34 : decode cX3_dumb 34 = .ok (.goto (-32), 3) := by decide +kernel
theorem dX3_dumb_37 : decode cX3_dumb 37 = .ok (.bipush (-6), 2) := by decide +kernel
theorem dX3_dumb_39 : decode cX3_dumb 39 = .ok (.ireturn, 1) := by decide +kernel
set_option maxRecDepth 20000 in
theorem ggX3_trillOf_X3_sounds : GoodIn wsX3_trillOf wsX3_sounds := goodIn_r _ [5, 6, 7, 8, 9, 4, 10, 11, 12, 13, 14, 15, 16, 17, 18, 19, 20, 21, 22, 23, 24, 25, 26, 27, 28, 29, 30, 31, 32, 33, 34, 39, 40, 41, 42, 43, 44, 45] (by decide +kernel) (by decide +kernel)
set_option maxRecDepth 20000 in
theorem gX3_trillOf_X3_sounds : GoodIn wsX3_trillOf (wsV RX3 64 RX3 yX3_sounds wsX3_sounds) := goodIn_app (goodIn_of _ (by decide +kernel)) ggX3_trillOf_X3_sounds
set_option maxRecDepth 20000 in
theorem ggX3_trillOf_X3_effortOf : GoodIn wsX3_trillOf wsX3_effortOf := goodIn_r _ [38, 6, 29, 30, 4, 31, 32, 33, 34, 39, 40, 41, 42, 43, 44, 45] (by decide +kernel) (by decide +kernel)
set_option maxRecDepth 20000 in
theorem gX3_trillOf_X3_effortOf : GoodIn wsX3_trillOf (wsV RX3 74 RX3 yX3_effortOf wsX3_effortOf) := goodIn_app (goodIn_of _ (by decide +kernel)) ggX3_trillOf_X3_effortOf
theorem dX3_trillOf_0 : decode cX3_trillOf 0 = .ok (.bipush (-6), 2) := by decide +kernel
theorem dX3_trillOf_2 : decode cX3_trillOf 2 = .ok (.istore_n 3, 1) := by decide +kernel
theorem dX3_trillOf_3 : decode cX3_trillOf 3 = .ok (.iconst 0, 1) := by decide +kernel
theorem dX3_trillOf_4 : decode cX3_trillOf 4 = .ok (.istore 4, 2) := by decide +kernel
theorem dX3_trillOf_6 : decode cX3_trillOf 6 = .ok (.iload 4, 2) := by decide +kernel
theorem dX3_trillOf_8 : decode cX3_trillOf 8 = .ok (.bipush 64, 2) := by decide +kernel
theorem dX3_trillOf_10 : decode cX3_trillOf 10 = .ok (.if_icmp .ge 72, 3) := by decide +kernel
theorem dX3_trillOf_13 : decode cX3_trillOf 13 = .ok (.iconst 0, 1) := by decide +kernel
theorem dX3_trillOf_14 : decode cX3_trillOf 14 = .ok (.istore 5, 2) := by decide +kernel
theorem dX3_trillOf_16 : decode cX3_trillOf 16 = .ok (.iload 5, 2) := by decide +kernel
theorem dX3_trillOf_18 : decode cX3_trillOf 18 = .ok (.bipush 64, 2) := by decide +kernel
theorem dX3_trillOf_20 : decode cX3_trillOf 20 = .ok (.if_icmp .ge 56, 3) := by decide +kernel
theorem dX3_trillOf_23 : decode cX3_trillOf 23 = .ok (.aload_n 0, 1) := by decide +kernel
theorem dX3_trillOf_24 : decode cX3_trillOf 24 = .ok (.iload 4, 2) := by decide +kernel
theorem dX3_trillOf_26 : decode cX3_trillOf 26 = .ok (.iload_n 1, 1) := by decide +kernel
theorem dX3_trillOf_27 : decode cX3_trillOf 27 = .ok (.invokevirtual 64, 3) := by decide +kernel
theorem dX3_trillOf_30 : decode cX3_trillOf 30 = .ok (.ifCond .eq 46, 3) := by decide +kernel
theorem dX3_trillOf_33 : decode cX3_trillOf 33 = .ok (.aload_n 0, 1) := by decide +kernel
theorem dX3_trillOf_34 : decode cX3_trillOf 34 = .ok (.iload 5, 2) := by decide +kernel
theorem dX3_trillOf_36 : decode cX3_trillOf 36 = .ok (.iload_n 2, 1) := by decide +kernel
theorem dX3_trillOf_37 : decode cX3_trillOf 37 = .ok (.invokevirtual 64, 3) := by decide +kernel
theorem dX3_trillOf_40 : decode cX3_trillOf 40 = .ok (.ifCond .eq 30, 3) := by decide +kernel
theorem dX3_trillOf_43 : decode cX3_trillOf 43 = .ok (.aload_n 0, 1) := by decide +kernel
theorem dX3_trillOf_44 : decode cX3_trillOf 44 = .ok (.iload 4, 2) := by decide +kernel
theorem dX3_trillOf_46 : decode cX3_trillOf 46 = .ok (.iload 5, 2) := by decide +kernel
theorem dX3_trillOf_48 : decode cX3_trillOf 48 = .ok (.invokevirtual 74, 3) := by decide +kernel
theorem dX3_trillOf_51 : decode cX3_trillOf 51 = .ok (.istore 6, 2) := by decide +kernel
theorem dX3_trillOf_53 : decode cX3_trillOf 53 = .ok (.iload_n 3, 1) := by decide +kernel
theorem dX3_trillOf_54 : decode cX3_trillOf 54 = .ok (.ifCond .lt 9, 3) := by decide +kernel
theorem dX3_trillOf_57 : decode cX3_trillOf 57 = .ok (.iload 6, 2) := by decide +kernel
theorem dX3_trillOf_59 : decode cX3_trillOf 59 = .ok (.iload_n 3, 1) := by decide +kernel
theorem dX3_trillOf_60 : decode cX3_trillOf 60 = .ok (.if_icmp .ge 8, 3) := by decide +kernel
theorem dX3_trillOf_63 : decode cX3_trillOf 63 = .ok (.iload 6, 2) := by decide +kernel
theorem dX3_trillOf_65 : decode cX3_trillOf 65 = .ok (.goto 4, 3) := by decide +kernel
theorem dX3_trillOf_68 : decode cX3_trillOf 68 = .ok (.iload_n 3, 1) := by decide +kernel
theorem dX3_trillOf_69 : decode cX3_trillOf 69 = .ok (.istore_n 3, 1) := by decide +kernel
theorem dX3_trillOf_70 : decode cX3_trillOf 70 = .ok (.iinc 5 1, 3) := by decide +kernel
theorem dX3_trillOf_73 : decode cX3_trillOf 73 = .ok (.goto (-57), 3) := by decide +kernel
theorem dX3_trillOf_76 : decode cX3_trillOf 76 = .ok (.iinc 4 1, 3) := by decide +kernel
theorem dX3_trillOf_79 : decode cX3_trillOf 79 = .ok (.goto (-73), 3) := by decide +kernel
theorem dX3_trillOf_82 : decode cX3_trillOf 82 = .ok (.iload_n 3, 1) := by decide +kernel
theorem dX3_trillOf_83 : decode cX3_trillOf 83 = .ok (.ireturn, 1) := by decide +kernel
set_option maxRecDepth 20000 in
theorem ggX3_trill_X3_isNote : GoodIn wsX3_trill wsX3_isNote := goodIn_r _ [4, 5, 6, 3, 7] (by decide +kernel) (by decide +kernel)
set_option maxRecDepth 20000 in
theorem gX3_trill_X3_isNote : GoodIn wsX3_trill (va_wsS RX3 61 yX3_isNote wsX3_isNote) := goodIn_app (goodIn_of _ (by decide +kernel)) ggX3_trill_X3_isNote
set_option maxRecDepth 20000 in
theorem ggX3_trill_X3_trillOf : GoodIn wsX3_trill wsX3_trillOf := goodIn_r _ [11, 12, 13, 14, 3, 15, 16, 17, 18, 19, 20, 5, 6, 7, 21, 22, 23, 24, 25, 26, 27, 28, 29, 30, 31, 32, 33, 34, 35, 36, 37, 38, 39, 40, 41, 42, 43, 44, 45, 46, 47, 48, 49, 50, 51, 52] (by decide +kernel) (by decide +kernel)
set_option maxRecDepth 20000 in
theorem gX3_trill_X3_trillOf : GoodIn wsX3_trill (wsV RX3 114 RX3 yX3_trillOf wsX3_trillOf) := goodIn_app (goodIn_of _ (by decide +kernel)) ggX3_trill_X3_trillOf
theorem dX3_trill_0 : decode cX3_trill 0 = .ok (.iload_n 1, 1) := by decide +kernel
theorem dX3_trill_1 : decode cX3_trill 1 = .ok (.invokestatic 61, 3) := by decide +kernel
theorem dX3_trill_4 : decode cX3_trill 4 = .ok (.ifCond .eq 19, 3) := by decide +kernel
theorem dX3_trill_7 : decode cX3_trill 7 = .ok (.iload_n 2, 1) := by decide +kernel
theorem dX3_trill_8 : decode cX3_trill 8 = .ok (.invokestatic 61, 3) := by decide +kernel
theorem dX3_trill_11 : decode cX3_trill 11 = .ok (.ifCond .eq 12, 3) := by decide +kernel
theorem dX3_trill_14 : decode cX3_trill 14 = .ok (.aload_n 0, 1) := by decide +kernel
theorem dX3_trill_15 : decode cX3_trill 15 = .ok (.iload_n 1, 1) := by decide +kernel
theorem dX3_trill_16 : decode cX3_trill 16 = .ok (.iload_n 2, 1) := by decide +kernel
theorem dX3_trill_17 : decode cX3_trill 17 = .ok (.invokevirtual 114, 3) := by decide +kernel
theorem dX3_trill_20 : decode cX3_trill 20 = .ok (.goto 5, 3) := by decide +kernel
theorem dX3_trill_23 : decode cX3_trill 23 = .ok (.bipush (-2), 2) := by decide +kernel
theorem dX3_trill_25 : decode cX3_trill 25 = .ok (.ireturn, 1) := by decide +kernel
set_option maxRecDepth 20000 in
theorem ggX3_awkward_X3_in : GoodIn wsX3_awkward wsX3_in := goodIn_r _ [4] (by decide +kernel) (by decide +kernel)
set_option maxRecDepth 20000 in
theorem gX3_awkward_X3_in : GoodIn wsX3_awkward (va_wsS RX3 33 yX3_in wsX3_in) := goodIn_app (goodIn_of _ (by decide +kernel)) ggX3_awkward_X3_in
set_option maxRecDepth 20000 in
theorem ggX3_awkward_X3_trillOf : GoodIn wsX3_awkward wsX3_trillOf := goodIn_r _ [8, 9, 10, 11, 3, 12, 13, 14, 15, 16, 17, 1, 2, 4, 18, 19, 20, 21, 22, 23, 24, 25, 26, 27, 28, 29, 30, 31, 32, 33, 34, 35, 36, 37, 38, 39, 40, 41, 42, 43, 44, 45, 46, 47, 48, 49] (by decide +kernel) (by decide +kernel)
set_option maxRecDepth 20000 in
theorem gX3_awkward_X3_trillOf : GoodIn wsX3_awkward (wsV RX3 114 RX3 yX3_trillOf wsX3_trillOf) := goodIn_app (goodIn_of _ (by decide +kernel)) ggX3_awkward_X3_trillOf
theorem dX3_awkward_0 : decode cX3_awkward 0 = .ok (.iload_n 1, 1) := by decide +kernel
theorem dX3_awkward_1 : decode cX3_awkward 1 = .ok (.iconst 1, 1) := by decide +kernel
theorem dX3_awkward_2 : decode cX3_awkward 2 = .ok (.bipush 12, 2) := by decide +kernel
theorem dX3_awkward_4 : decode cX3_awkward 4 = .ok (.invokestatic 33, 3) := by decide +kernel
theorem dX3_awkward_7 : decode cX3_awkward 7 = .ok (.ifCond .eq 13, 3) := by decide +kernel
theorem dX3_awkward_10 : decode cX3_awkward 10 = .ok (.iload_n 2, 1) := by decide +kernel
theorem dX3_awkward_11 : decode cX3_awkward 11 = .ok (.iconst 0, 1) := by decide +kernel
theorem dX3_awkward_12 : decode cX3_awkward 12 = .ok (.bipush 99, 2) := by decide +kernel
theorem dX3_awkward_14 : decode cX3_awkward 14 = .ok (.invokestatic 33, 3) := by decide +kernel
theorem dX3_awkward_17 : decode cX3_awkward 17 = .ok (.ifCond .ne 6, 3) := by decide +kernel
theorem dX3_awkward_20 : decode cX3_awkward 20 = .ok (.bipush (-2), 2) := by decide +kernel
theorem dX3_awkward_22 : decode cX3_awkward 22 = .ok (.ireturn, 1) := by decide +kernel
theorem dX3_awkward_23 : decode cX3_awkward 23 = .ok (.iconst 0, 1) := by decide +kernel
theorem dX3_awkward_24 : decode cX3_awkward 24 = .ok (.istore_n 3, 1) := by decide +kernel
theorem dX3_awkward_25 : decode cX3_awkward 25 = .ok (.iconst 0, 1) := by decide +kernel
theorem dX3_awkward_26 : decode cX3_awkward 26 = .ok (.istore 4, 2) := by decide +kernel
theorem dX3_awkward_28 : decode cX3_awkward 28 = .ok (.iload 4, 2) := by decide +kernel
theorem dX3_awkward_30 : decode cX3_awkward 30 = .ok (.iload_n 1, 1) := by decide +kernel
theorem dX3_awkward_31 : decode cX3_awkward 31 = .ok (.iadd, 1) := by decide +kernel
theorem dX3_awkward_32 : decode cX3_awkward 32 = .ok (.bipush 37, 2) := by decide +kernel
theorem dX3_awkward_34 : decode cX3_awkward 34 = .ok (.if_icmp .ge 31, 3) := by decide +kernel
theorem dX3_awkward_37 : decode cX3_awkward 37 = .ok (.iload_n 3, 1) := by decide +kernel
theorem dX3_awkward_38 : decode cX3_awkward 38 = .ok (.aload_n 0, 1) := by decide +kernel
theorem dX3_awkward_39 : decode cX3_awkward 39 = .ok (.iload 4, 2) := by decide +kernel
theorem dX3_awkward_41 : decode cX3_awkward 41 = .ok (.iload 4, 2) := by decide +kernel
theorem dX3_awkward_43 : decode cX3_awkward 43 = .ok (.iload_n 1, 1) := by decide +kernel
theorem dX3_awkward_44 : decode cX3_awkward 44 = .ok (.iadd, 1) := by decide +kernel
theorem dX3_awkward_45 : decode cX3_awkward 45 = .ok (.invokevirtual 114, 3) := by decide +kernel
theorem dX3_awkward_48 : decode cX3_awkward 48 = .ok (.iload_n 2, 1) := by decide +kernel
theorem dX3_awkward_49 : decode cX3_awkward 49 = .ok (.if_icmp .le 7, 3) := by decide +kernel
theorem dX3_awkward_52 : decode cX3_awkward 52 = .ok (.iconst 1, 1) := by decide +kernel
theorem dX3_awkward_53 : decode cX3_awkward 53 = .ok (.goto 4, 3) := by decide +kernel
theorem dX3_awkward_56 : decode cX3_awkward 56 = .ok (.iconst 0, 1) := by decide +kernel
theorem dX3_awkward_57 : decode cX3_awkward 57 = .ok (.iadd, 1) := by decide +kernel
theorem dX3_awkward_58 : decode cX3_awkward 58 = .ok (.istore_n 3, 1) := by decide +kernel
theorem dX3_awkward_59 : decode cX3_awkward 59 = .ok (.iinc 4 1, 3) := by decide +kernel
theorem dX3_awkward_62 : decode cX3_awkward 62 = .ok (.goto (-34), 3) := by decide +kernel
theorem dX3_awkward_65 : decode cX3_awkward 65 = .ok (.iload_n 3, 1) := by decide +kernel
theorem dX3_awkward_66 : decode cX3_awkward 66 = .ok (.ireturn, 1) := by decide +kernel
set_option maxRecDepth 20000 in
theorem ggX3_offOfPart_X3_offOf : GoodIn wsX3_offOfPart wsX3_offOf := goodIn_r _ [6, 7, 8, 5, 9, 10, 11, 12, 13, 1, 14, 15, 16, 20, 21, 22, 23, 24, 25, 26] (by decide +kernel) (by decide +kernel)
set_option maxRecDepth 20000 in
theorem gX3_offOfPart_X3_offOf : GoodIn wsX3_offOfPart (wsV RX3 54 RX3 yX3_offOf wsX3_offOf) := goodIn_app (goodIn_of _ (by decide +kernel)) ggX3_offOfPart_X3_offOf
set_option maxRecDepth 20000 in
theorem ggX3_offOfPart_X3_size : GoodIn wsX3_offOfPart wsX3_size := goodIn_r _ [19] (by decide +kernel) (by decide +kernel)
set_option maxRecDepth 20000 in
theorem gX3_offOfPart_X3_size : GoodIn wsX3_offOfPart (va_wsS RX3 58 yX3_size wsX3_size) := goodIn_app (goodIn_of _ (by decide +kernel)) ggX3_offOfPart_X3_size
theorem dX3_offOfPart_0 : decode cX3_offOfPart 0 = .ok (.iconst 0, 1) := by decide +kernel
theorem dX3_offOfPart_1 : decode cX3_offOfPart 1 = .ok (.istore_n 1, 1) := by decide +kernel
theorem dX3_offOfPart_2 : decode cX3_offOfPart 2 = .ok (.iconst 0, 1) := by decide +kernel
theorem dX3_offOfPart_3 : decode cX3_offOfPart 3 = .ok (.istore_n 2, 1) := by decide +kernel
theorem dX3_offOfPart_4 : decode cX3_offOfPart 4 = .ok (.iload_n 2, 1) := by decide +kernel
theorem dX3_offOfPart_5 : decode cX3_offOfPart 5 = .ok (.aload_n 0, 1) := by decide +kernel
theorem dX3_offOfPart_6 : decode cX3_offOfPart 6 = .ok (.getfield 7, 3) := by decide +kernel
theorem dX3_offOfPart_9 : decode cX3_offOfPart 9 = .ok (.bipush 9, 2) := by decide +kernel
theorem dX3_offOfPart_11 : decode cX3_offOfPart 11 = .ok (.iaload, 1) := by decide +kernel
theorem dX3_offOfPart_12 : decode cX3_offOfPart 12 = .ok (.if_icmp .ge 69, 3) := by decide +kernel
theorem dX3_offOfPart_15 : decode cX3_offOfPart 15 = .ok (.bipush (-6), 2) := by decide +kernel
theorem dX3_offOfPart_17 : decode cX3_offOfPart 17 = .ok (.istore_n 3, 1) := by decide +kernel
theorem dX3_offOfPart_18 : decode cX3_offOfPart 18 = .ok (.iconst 0, 1) := by decide +kernel
theorem dX3_offOfPart_19 : decode cX3_offOfPart 19 = .ok (.istore 4, 2) := by decide +kernel
theorem dX3_offOfPart_21 : decode cX3_offOfPart 21 = .ok (.iload 4, 2) := by decide +kernel
theorem dX3_offOfPart_23 : decode cX3_offOfPart 23 = .ok (.bipush 64, 2) := by decide +kernel
theorem dX3_offOfPart_25 : decode cX3_offOfPart 25 = .ok (.if_icmp .ge 46, 3) := by decide +kernel
theorem dX3_offOfPart_28 : decode cX3_offOfPart 28 = .ok (.aload_n 0, 1) := by decide +kernel
theorem dX3_offOfPart_29 : decode cX3_offOfPart 29 = .ok (.iload 4, 2) := by decide +kernel
theorem dX3_offOfPart_31 : decode cX3_offOfPart 31 = .ok (.aload_n 0, 1) := by decide +kernel
theorem dX3_offOfPart_32 : decode cX3_offOfPart 32 = .ok (.getfield 7, 3) := by decide +kernel
theorem dX3_offOfPart_35 : decode cX3_offOfPart 35 = .ok (.bipush 10, 2) := by decide +kernel
theorem dX3_offOfPart_37 : decode cX3_offOfPart 37 = .ok (.iload_n 2, 1) := by decide +kernel
theorem dX3_offOfPart_38 : decode cX3_offOfPart 38 = .ok (.iadd, 1) := by decide +kernel
theorem dX3_offOfPart_39 : decode cX3_offOfPart 39 = .ok (.iaload, 1) := by decide +kernel
theorem dX3_offOfPart_40 : decode cX3_offOfPart 40 = .ok (.invokevirtual 54, 3) := by decide +kernel
theorem dX3_offOfPart_43 : decode cX3_offOfPart 43 = .ok (.invokestatic 58, 3) := by decide +kernel
theorem dX3_offOfPart_46 : decode cX3_offOfPart 46 = .ok (.istore 5, 2) := by decide +kernel
theorem dX3_offOfPart_48 : decode cX3_offOfPart 48 = .ok (.iload_n 3, 1) := by decide +kernel
theorem dX3_offOfPart_49 : decode cX3_offOfPart 49 = .ok (.ifCond .lt 9, 3) := by decide +kernel
theorem dX3_offOfPart_52 : decode cX3_offOfPart 52 = .ok (.iload 5, 2) := by decide +kernel
theorem dX3_offOfPart_54 : decode cX3_offOfPart 54 = .ok (.iload_n 3, 1) := by decide +kernel
theorem dX3_offOfPart_55 : decode cX3_offOfPart 55 = .ok (.if_icmp .ge 8, 3) := by decide +kernel
theorem dX3_offOfPart_58 : decode cX3_offOfPart 58 = .ok (.iload 5, 2) := by decide +kernel
theorem dX3_offOfPart_60 : decode cX3_offOfPart 60 = .ok (.goto 4, 3) := by decide +kernel
theorem dX3_offOfPart_63 : decode cX3_offOfPart 63 = .ok (.iload_n 3, 1) := by decide +kernel
theorem dX3_offOfPart_64 : decode cX3_offOfPart 64 = .ok (.istore_n 3, 1) := by decide +kernel
theorem dX3_offOfPart_65 : decode cX3_offOfPart 65 = .ok (.iinc 4 1, 3) := by decide +kernel
theorem dX3_offOfPart_68 : decode cX3_offOfPart 68 = .ok (.goto (-47), 3) := by decide +kernel
theorem dX3_offOfPart_71 : decode cX3_offOfPart 71 = .ok (.iload_n 1, 1) := by decide +kernel
theorem dX3_offOfPart_72 : decode cX3_offOfPart 72 = .ok (.iload_n 3, 1) := by decide +kernel
theorem dX3_offOfPart_73 : decode cX3_offOfPart 73 = .ok (.iadd, 1) := by decide +kernel
theorem dX3_offOfPart_74 : decode cX3_offOfPart 74 = .ok (.istore_n 1, 1) := by decide +kernel
theorem dX3_offOfPart_75 : decode cX3_offOfPart 75 = .ok (.iinc 2 1, 3) := by decide +kernel
theorem dX3_offOfPart_78 : decode cX3_offOfPart 78 = .ok (.goto (-74), 3) := by decide +kernel
theorem dX3_offOfPart_81 : decode cX3_offOfPart 81 = .ok (.iload_n 1, 1) := by decide +kernel
theorem dX3_offOfPart_82 : decode cX3_offOfPart 82 = .ok (.ireturn, 1) := by decide +kernel
set_option maxRecDepth 20000 in
theorem ggX3_tune_X3_in : GoodIn wsX3_tune wsX3_in := goodIn_r _ [5] (by decide +kernel) (by decide +kernel)
set_option maxRecDepth 20000 in
theorem gX3_tune_X3_in : GoodIn wsX3_tune (va_wsS RX3 33 yX3_in wsX3_in) := goodIn_app (goodIn_of _ (by decide +kernel)) ggX3_tune_X3_in
set_option maxRecDepth 20000 in
theorem ggX3_tune_X3_offOfPart : GoodIn wsX3_tune wsX3_offOfPart := goodIn_r _ [9, 1, 10, 11, 12, 4, 13, 14, 15, 16, 17, 18, 19, 20, 21, 22, 23, 24, 25, 26, 27, 28, 29, 30, 31, 32, 33] (by decide +kernel) (by decide +kernel)
set_option maxRecDepth 20000 in
theorem gX3_tune_X3_offOfPart : GoodIn wsX3_tune (wsV RX3 117 RX3 yX3_offOfPart wsX3_offOfPart) := goodIn_app (goodIn_of _ (by decide +kernel)) ggX3_tune_X3_offOfPart
theorem dX3_tune_0 : decode cX3_tune 0 = .ok (.iload_n 1, 1) := by decide +kernel
theorem dX3_tune_1 : decode cX3_tune 1 = .ok (.iconst 0, 1) := by decide +kernel
theorem dX3_tune_2 : decode cX3_tune 2 = .ok (.iconst 2, 1) := by decide +kernel
theorem dX3_tune_3 : decode cX3_tune 3 = .ok (.invokestatic 33, 3) := by decide +kernel
theorem dX3_tune_6 : decode cX3_tune 6 = .ok (.ifCond .ne 5, 3) := by decide +kernel
theorem dX3_tune_9 : decode cX3_tune 9 = .ok (.iconst (-1), 1) := by decide +kernel
theorem dX3_tune_10 : decode cX3_tune 10 = .ok (.ireturn, 1) := by decide +kernel
theorem dX3_tune_11 : decode cX3_tune 11 = .ok (.iload_n 2, 1) := by decide +kernel
theorem dX3_tune_12 : decode cX3_tune 12 = .ok (.iconst 0, 1) := by decide +kernel
theorem dX3_tune_13 : decode cX3_tune 13 = .ok (.iconst 1, 1) := by decide +kernel
theorem dX3_tune_14 : decode cX3_tune 14 = .ok (.invokestatic 33, 3) := by decide +kernel
theorem dX3_tune_17 : decode cX3_tune 17 = .ok (.ifCond .ne 6, 3) := by decide +kernel
theorem dX3_tune_20 : decode cX3_tune 20 = .ok (.bipush (-2), 2) := by decide +kernel
theorem dX3_tune_22 : decode cX3_tune 22 = .ok (.ireturn, 1) := by decide +kernel
theorem dX3_tune_23 : decode cX3_tune 23 = .ok (.aload_n 0, 1) := by decide +kernel
theorem dX3_tune_24 : decode cX3_tune 24 = .ok (.getfield 7, 3) := by decide +kernel
theorem dX3_tune_27 : decode cX3_tune 27 = .ok (.iconst 0, 1) := by decide +kernel
theorem dX3_tune_28 : decode cX3_tune 28 = .ok (.iaload, 1) := by decide +kernel
theorem dX3_tune_29 : decode cX3_tune 29 = .ok (.iconst 1, 1) := by decide +kernel
theorem dX3_tune_30 : decode cX3_tune 30 = .ok (.if_icmp .ne 6, 3) := by decide +kernel
theorem dX3_tune_33 : decode cX3_tune 33 = .ok (.bipush (-3), 2) := by decide +kernel
theorem dX3_tune_35 : decode cX3_tune 35 = .ok (.ireturn, 1) := by decide +kernel
theorem dX3_tune_36 : decode cX3_tune 36 = .ok (.aload_n 0, 1) := by decide +kernel
theorem dX3_tune_37 : decode cX3_tune 37 = .ok (.getfield 7, 3) := by decide +kernel
theorem dX3_tune_40 : decode cX3_tune 40 = .ok (.iconst 1, 1) := by decide +kernel
theorem dX3_tune_41 : decode cX3_tune 41 = .ok (.iload_n 1, 1) := by decide +kernel
theorem dX3_tune_42 : decode cX3_tune 42 = .ok (.iadd, 1) := by decide +kernel
theorem dX3_tune_43 : decode cX3_tune 43 = .ok (.iaload, 1) := by decide +kernel
theorem dX3_tune_44 : decode cX3_tune 44 = .ok (.istore_n 3, 1) := by decide +kernel
theorem dX3_tune_45 : decode cX3_tune 45 = .ok (.bipush (-6), 2) := by decide +kernel
theorem dX3_tune_47 : decode cX3_tune 47 = .ok (.istore 4, 2) := by decide +kernel
theorem dX3_tune_49 : decode cX3_tune 49 = .ok (.iconst 0, 1) := by decide +kernel
theorem dX3_tune_50 : decode cX3_tune 50 = .ok (.istore 5, 2) := by decide +kernel
theorem dX3_tune_52 : decode cX3_tune 52 = .ok (.iconst 0, 1) := by decide +kernel
theorem dX3_tune_53 : decode cX3_tune 53 = .ok (.istore 6, 2) := by decide +kernel
theorem dX3_tune_55 : decode cX3_tune 55 = .ok (.iload 6, 2) := by decide +kernel
theorem dX3_tune_57 : decode cX3_tune 57 = .ok (.sipush 400, 3) := by decide +kernel
theorem dX3_tune_60 : decode cX3_tune 60 = .ok (.if_icmp .gt 45, 3) := by decide +kernel
theorem dX3_tune_63 : decode cX3_tune 63 = .ok (.aload_n 0, 1) := by decide +kernel
theorem dX3_tune_64 : decode cX3_tune 64 = .ok (.getfield 7, 3) := by decide +kernel
theorem dX3_tune_67 : decode cX3_tune 67 = .ok (.iconst 1, 1) := by decide +kernel
theorem dX3_tune_68 : decode cX3_tune 68 = .ok (.iload_n 1, 1) := by decide +kernel
theorem dX3_tune_69 : decode cX3_tune 69 = .ok (.iadd, 1) := by decide +kernel
theorem dX3_tune_70 : decode cX3_tune 70 = .ok (.iload 6, 2) := by decide +kernel
theorem dX3_tune_72 : decode cX3_tune 72 = .ok (.iastore, 1) := by decide +kernel
theorem dX3_tune_73 : decode cX3_tune 73 = .ok (.aload_n 0, 1) := by decide +kernel
theorem dX3_tune_74 : decode cX3_tune 74 = .ok (.invokevirtual 117, 3) := by decide +kernel
theorem dX3_tune_77 : decode cX3_tune 77 = .ok (.istore 7, 2) := by decide +kernel
theorem dX3_tune_79 : decode cX3_tune 79 = .ok (.iload 4, 2) := by decide +kernel
theorem dX3_tune_81 : decode cX3_tune 81 = .ok (.ifCond .lt 10, 3) := by decide +kernel
theorem dX3_tune_84 : decode cX3_tune 84 = .ok (.iload 7, 2) := by decide +kernel
theorem dX3_tune_86 : decode cX3_tune 86 = .ok (.iload 5, 2) := by decide +kernel
theorem dX3_tune_88 : decode cX3_tune 88 = .ok (.if_icmp .ge 11, 3) := by decide +kernel
theorem dX3_tune_91 : decode cX3_tune 91 = .ok (.iload 6, 2) := by decide +kernel
theorem dX3_tune_93 : decode cX3_tune 93 = .ok (.istore 4, 2) := by decide +kernel
theorem dX3_tune_95 : decode cX3_tune 95 = .ok (.iload 7, 2) := by decide +kernel
theorem dX3_tune_97 : decode cX3_tune 97 = .ok (.istore 5, 2) := by decide +kernel
theorem dX3_tune_99 : decode cX3_tune 99 = .ok (.iinc 6 5, 3) := by decide +kernel
theorem dX3_tune_102 : decode cX3_tune 102 = .ok (.goto (-47), 3) := by decide +kernel
theorem dX3_tune_105 : decode cX3_tune 105 = .ok (.aload_n 0, 1) := by decide +kernel
theorem dX3_tune_106 : decode cX3_tune 106 = .ok (.getfield 7, 3) := by decide +kernel
theorem dX3_tune_109 : decode cX3_tune 109 = .ok (.iconst 1, 1) := by decide +kernel
theorem dX3_tune_110 : decode cX3_tune 110 = .ok (.iload_n 1, 1) := by decide +kernel
theorem dX3_tune_111 : decode cX3_tune 111 = .ok (.iadd, 1) := by decide +kernel
theorem dX3_tune_112 : decode cX3_tune 112 = .ok (.iload_n 3, 1) := by decide +kernel
theorem dX3_tune_113 : decode cX3_tune 113 = .ok (.iastore, 1) := by decide +kernel
theorem dX3_tune_114 : decode cX3_tune 114 = .ok (.iload_n 2, 1) := by decide +kernel
theorem dX3_tune_115 : decode cX3_tune 115 = .ok (.ifCond .ne 8, 3) := by decide +kernel
theorem dX3_tune_118 : decode cX3_tune 118 = .ok (.iload 4, 2) := by decide +kernel
theorem dX3_tune_120 : decode cX3_tune 120 = .ok (.goto 5, 3) := by decide +kernel
theorem dX3_tune_123 : decode cX3_tune 123 = .ok (.iload 5, 2) := by decide +kernel
theorem dX3_tune_125 : decode cX3_tune 125 = .ok (.ireturn, 1) := by decide +kernel
set_option maxRecDepth 20000 in
theorem ggX3_image_X3_in : GoodIn wsX3_image wsX3_in := goodIn_r _ [7] (by decide +kernel) (by decide +kernel)
set_option maxRecDepth 20000 in
theorem gX3_image_X3_in : GoodIn wsX3_image (va_wsS RX3 33 yX3_in wsX3_in) := goodIn_app (goodIn_of _ (by decide +kernel)) ggX3_image_X3_in
theorem dX3_image_0 : decode cX3_image 0 = .ok (.iload_n 1, 1) := by decide +kernel
theorem dX3_image_1 : decode cX3_image 1 = .ok (.iconst 0, 1) := by decide +kernel
theorem dX3_image_2 : decode cX3_image 2 = .ok (.iconst 1, 1) := by decide +kernel
theorem dX3_image_3 : decode cX3_image 3 = .ok (.invokestatic 33, 3) := by decide +kernel
theorem dX3_image_6 : decode cX3_image 6 = .ok (.ifCond .ne 6, 3) := by decide +kernel
theorem dX3_image_9 : decode cX3_image 9 = .ok (.bipush (-2), 2) := by decide +kernel
theorem dX3_image_11 : decode cX3_image 11 = .ok (.ireturn, 1) := by decide +kernel
theorem dX3_image_12 : decode cX3_image 12 = .ok (.iconst 0, 1) := by decide +kernel
theorem dX3_image_13 : decode cX3_image 13 = .ok (.istore_n 2, 1) := by decide +kernel
theorem dX3_image_14 : decode cX3_image 14 = .ok (.iload_n 2, 1) := by decide +kernel
theorem dX3_image_15 : decode cX3_image 15 = .ok (.bipush 22, 2) := by decide +kernel
theorem dX3_image_17 : decode cX3_image 17 = .ok (.if_icmp .ge 26, 3) := by decide +kernel
theorem dX3_image_20 : decode cX3_image 20 = .ok (.aload_n 0, 1) := by decide +kernel
theorem dX3_image_21 : decode cX3_image 21 = .ok (.getfield 13, 3) := by decide +kernel
theorem dX3_image_24 : decode cX3_image 24 = .ok (.bipush 22, 2) := by decide +kernel
theorem dX3_image_26 : decode cX3_image 26 = .ok (.iload_n 1, 1) := by decide +kernel
theorem dX3_image_27 : decode cX3_image 27 = .ok (.imul, 1) := by decide +kernel
theorem dX3_image_28 : decode cX3_image 28 = .ok (.iload_n 2, 1) := by decide +kernel
theorem dX3_image_29 : decode cX3_image 29 = .ok (.iadd, 1) := by decide +kernel
theorem dX3_image_30 : decode cX3_image 30 = .ok (.aload_n 0, 1) := by decide +kernel
theorem dX3_image_31 : decode cX3_image 31 = .ok (.getfield 7, 3) := by decide +kernel
theorem dX3_image_34 : decode cX3_image 34 = .ok (.iload_n 2, 1) := by decide +kernel
theorem dX3_image_35 : decode cX3_image 35 = .ok (.iaload, 1) := by decide +kernel
theorem dX3_image_36 : decode cX3_image 36 = .ok (.iastore, 1) := by decide +kernel
theorem dX3_image_37 : decode cX3_image 37 = .ok (.iinc 2 1, 3) := by decide +kernel
theorem dX3_image_40 : decode cX3_image 40 = .ok (.goto (-26), 3) := by decide +kernel
theorem dX3_image_43 : decode cX3_image 43 = .ok (.aload_n 0, 1) := by decide +kernel
theorem dX3_image_44 : decode cX3_image 44 = .ok (.getfield 16, 3) := by decide +kernel
theorem dX3_image_47 : decode cX3_image 47 = .ok (.iload_n 1, 1) := by decide +kernel
theorem dX3_image_48 : decode cX3_image 48 = .ok (.iconst 1, 1) := by decide +kernel
theorem dX3_image_49 : decode cX3_image 49 = .ok (.bastore, 1) := by decide +kernel
theorem dX3_image_50 : decode cX3_image 50 = .ok (.iconst 1, 1) := by decide +kernel
theorem dX3_image_51 : decode cX3_image 51 = .ok (.ireturn, 1) := by decide +kernel
set_option maxRecDepth 20000 in
theorem ggX3_restore_X3_in : GoodIn wsX3_restore wsX3_in := goodIn_r _ [7] (by decide +kernel) (by decide +kernel)
set_option maxRecDepth 20000 in
theorem gX3_restore_X3_in : GoodIn wsX3_restore (va_wsS RX3 33 yX3_in wsX3_in) := goodIn_app (goodIn_of _ (by decide +kernel)) ggX3_restore_X3_in
theorem dX3_restore_0 : decode cX3_restore 0 = .ok (.iload_n 1, 1) := by decide +kernel
theorem dX3_restore_1 : decode cX3_restore 1 = .ok (.iconst 0, 1) := by decide +kernel
theorem dX3_restore_2 : decode cX3_restore 2 = .ok (.iconst 1, 1) := by decide +kernel
theorem dX3_restore_3 : decode cX3_restore 3 = .ok (.invokestatic 33, 3) := by decide +kernel
theorem dX3_restore_6 : decode cX3_restore 6 = .ok (.ifCond .ne 6, 3) := by decide +kernel
theorem dX3_restore_9 : decode cX3_restore 9 = .ok (.bipush (-2), 2) := by decide +kernel
theorem dX3_restore_11 : decode cX3_restore 11 = .ok (.ireturn, 1) := by decide +kernel
theorem dX3_restore_12 : decode cX3_restore 12 = .ok (.aload_n 0, 1) := by decide +kernel
theorem dX3_restore_13 : decode cX3_restore 13 = .ok (.getfield 16, 3) := by decide +kernel
theorem dX3_restore_16 : decode cX3_restore 16 = .ok (.iload_n 1, 1) := by decide +kernel
theorem dX3_restore_17 : decode cX3_restore 17 = .ok (.baload, 1) := by decide +kernel
theorem dX3_restore_18 : decode cX3_restore 18 = .ok (.ifCond .ne 6, 3) := by decide +kernel
theorem dX3_restore_21 : decode cX3_restore 21 = .ok (.bipush (-3), 2) := by decide +kernel
theorem dX3_restore_23 : decode cX3_restore 23 = .ok (.ireturn, 1) := by decide +kernel
theorem dX3_restore_24 : decode cX3_restore 24 = .ok (.iconst 0, 1) := by decide +kernel
theorem dX3_restore_25 : decode cX3_restore 25 = .ok (.istore_n 2, 1) := by decide +kernel
theorem dX3_restore_26 : decode cX3_restore 26 = .ok (.iload_n 2, 1) := by decide +kernel
theorem dX3_restore_27 : decode cX3_restore 27 = .ok (.bipush 22, 2) := by decide +kernel
theorem dX3_restore_29 : decode cX3_restore 29 = .ok (.if_icmp .ge 26, 3) := by decide +kernel
theorem dX3_restore_32 : decode cX3_restore 32 = .ok (.aload_n 0, 1) := by decide +kernel
theorem dX3_restore_33 : decode cX3_restore 33 = .ok (.getfield 7, 3) := by decide +kernel
theorem dX3_restore_36 : decode cX3_restore 36 = .ok (.iload_n 2, 1) := by decide +kernel
theorem dX3_restore_37 : decode cX3_restore 37 = .ok (.aload_n 0, 1) := by decide +kernel
theorem dX3_restore_38 : decode cX3_restore 38 = .ok (.getfield 13, 3) := by decide +kernel
theorem dX3_restore_41 : decode cX3_restore 41 = .ok (.bipush 22, 2) := by decide +kernel
theorem dX3_restore_43 : decode cX3_restore 43 = .ok (.iload_n 1, 1) := by decide +kernel
theorem dX3_restore_44 : decode cX3_restore 44 = .ok (.imul, 1) := by decide +kernel
theorem dX3_restore_45 : decode cX3_restore 45 = .ok (.iload_n 2, 1) := by decide +kernel
theorem dX3_restore_46 : decode cX3_restore 46 = .ok (.iadd, 1) := by decide +kernel
theorem dX3_restore_47 : decode cX3_restore 47 = .ok (.iaload, 1) := by decide +kernel
theorem dX3_restore_48 : decode cX3_restore 48 = .ok (.iastore, 1) := by decide +kernel
theorem dX3_restore_49 : decode cX3_restore 49 = .ok (.iinc 2 1, 3) := by decide +kernel
theorem dX3_restore_52 : decode cX3_restore 52 = .ok (.goto (-26), 3) := by decide +kernel
theorem dX3_restore_55 : decode cX3_restore 55 = .ok (.iconst 1, 1) := by decide +kernel
theorem dX3_restore_56 : decode cX3_restore 56 = .ok (.ireturn, 1) := by decide +kernel
set_option maxRecDepth 20000 in
theorem ggX3_count_X3_in : GoodIn wsX3_count wsX3_in := goodIn_r _ [6] (by decide +kernel) (by decide +kernel)
set_option maxRecDepth 20000 in
theorem gX3_count_X3_in : GoodIn wsX3_count (va_wsS RX3 33 yX3_in wsX3_in) := goodIn_app (goodIn_of _ (by decide +kernel)) ggX3_count_X3_in
set_option maxRecDepth 20000 in
theorem ggX3_count_X3_isPlace : GoodIn wsX3_count wsX3_isPlace := goodIn_r _ [10, 1, 3, 4, 5, 6, 11, 12, 13, 14, 15, 16, 17] (by decide +kernel) (by decide +kernel)
set_option maxRecDepth 20000 in
theorem gX3_count_X3_isPlace : GoodIn wsX3_count (wsV RX3 71 RX3 yX3_isPlace wsX3_isPlace) := goodIn_app (goodIn_of _ (by decide +kernel)) ggX3_count_X3_isPlace
theorem dX3_count_0 : decode cX3_count 0 = .ok (.iload_n 1, 1) := by decide +kernel
theorem dX3_count_1 : decode cX3_count 1 = .ok (.bipush 10, 2) := by decide +kernel
theorem dX3_count_3 : decode cX3_count 3 = .ok (.bipush 14, 2) := by decide +kernel
theorem dX3_count_5 : decode cX3_count 5 = .ok (.invokestatic 33, 3) := by decide +kernel
theorem dX3_count_8 : decode cX3_count 8 = .ok (.ifCond .eq 15, 3) := by decide +kernel
theorem dX3_count_11 : decode cX3_count 11 = .ok (.aload_n 0, 1) := by decide +kernel
theorem dX3_count_12 : decode cX3_count 12 = .ok (.getfield 7, 3) := by decide +kernel
theorem dX3_count_15 : decode cX3_count 15 = .ok (.iconst 4, 1) := by decide +kernel
theorem dX3_count_16 : decode cX3_count 16 = .ok (.iload_n 1, 1) := by decide +kernel
theorem dX3_count_17 : decode cX3_count 17 = .ok (.iadd, 1) := by decide +kernel
theorem dX3_count_18 : decode cX3_count 18 = .ok (.bipush 10, 2) := by decide +kernel
theorem dX3_count_20 : decode cX3_count 20 = .ok (.isub, 1) := by decide +kernel
theorem dX3_count_21 : decode cX3_count 21 = .ok (.iaload, 1) := by decide +kernel
theorem dX3_count_22 : decode cX3_count 22 = .ok (.ireturn, 1) := by decide +kernel
theorem dX3_count_23 : decode cX3_count 23 = .ok (.iload_n 1, 1) := by decide +kernel
theorem dX3_count_24 : decode cX3_count 24 = .ok (.bipush 20, 2) := by decide +kernel
theorem dX3_count_26 : decode cX3_count 26 = .ok (.bipush 22, 2) := by decide +kernel
theorem dX3_count_28 : decode cX3_count 28 = .ok (.invokestatic 33, 3) := by decide +kernel
theorem dX3_count_31 : decode cX3_count 31 = .ok (.ifCond .eq 15, 3) := by decide +kernel
theorem dX3_count_34 : decode cX3_count 34 = .ok (.aload_n 0, 1) := by decide +kernel
theorem dX3_count_35 : decode cX3_count 35 = .ok (.getfield 7, 3) := by decide +kernel
theorem dX3_count_38 : decode cX3_count 38 = .ok (.iconst 1, 1) := by decide +kernel
theorem dX3_count_39 : decode cX3_count 39 = .ok (.iload_n 1, 1) := by decide +kernel
theorem dX3_count_40 : decode cX3_count 40 = .ok (.iadd, 1) := by decide +kernel
theorem dX3_count_41 : decode cX3_count 41 = .ok (.bipush 20, 2) := by decide +kernel
theorem dX3_count_43 : decode cX3_count 43 = .ok (.isub, 1) := by decide +kernel
theorem dX3_count_44 : decode cX3_count 44 = .ok (.iaload, 1) := by decide +kernel
theorem dX3_count_45 : decode cX3_count 45 = .ok (.ireturn, 1) := by decide +kernel
theorem dX3_count_46 : decode cX3_count 46 = .ok (.iload_n 1, 1) := by decide +kernel
theorem dX3_count_47 : decode cX3_count 47 = .ok (.bipush 30, 2) := by decide +kernel
theorem dX3_count_49 : decode cX3_count 49 = .ok (.bipush 41, 2) := by decide +kernel
theorem dX3_count_51 : decode cX3_count 51 = .ok (.invokestatic 33, 3) := by decide +kernel
theorem dX3_count_54 : decode cX3_count 54 = .ok (.ifCond .eq 32, 3) := by decide +kernel
theorem dX3_count_57 : decode cX3_count 57 = .ok (.aload_n 0, 1) := by decide +kernel
theorem dX3_count_58 : decode cX3_count 58 = .ok (.iload_n 1, 1) := by decide +kernel
theorem dX3_count_59 : decode cX3_count 59 = .ok (.bipush 30, 2) := by decide +kernel
theorem dX3_count_61 : decode cX3_count 61 = .ok (.isub, 1) := by decide +kernel
theorem dX3_count_62 : decode cX3_count 62 = .ok (.invokevirtual 71, 3) := by decide +kernel
theorem dX3_count_65 : decode cX3_count 65 = .ok (.ifCond .eq 18, 3) := by decide +kernel
theorem dX3_count_68 : decode cX3_count 68 = .ok (.aload_n 0, 1) := by decide +kernel
theorem dX3_count_69 : decode cX3_count 69 = .ok (.getfield 7, 3) := by decide +kernel
theorem dX3_count_72 : decode cX3_count 72 = .ok (.bipush 10, 2) := by decide +kernel
theorem dX3_count_74 : decode cX3_count 74 = .ok (.iload_n 1, 1) := by decide +kernel
theorem dX3_count_75 : decode cX3_count 75 = .ok (.iadd, 1) := by decide +kernel
theorem dX3_count_76 : decode cX3_count 76 = .ok (.bipush 30, 2) := by decide +kernel
theorem dX3_count_78 : decode cX3_count 78 = .ok (.isub, 1) := by decide +kernel
theorem dX3_count_79 : decode cX3_count 79 = .ok (.iaload, 1) := by decide +kernel
theorem dX3_count_80 : decode cX3_count 80 = .ok (.goto 5, 3) := by decide +kernel
theorem dX3_count_83 : decode cX3_count 83 = .ok (.bipush (-6), 2) := by decide +kernel
theorem dX3_count_85 : decode cX3_count 85 = .ok (.ireturn, 1) := by decide +kernel
theorem dX3_count_86 : decode cX3_count 86 = .ok (.iload_n 1, 1) := by decide +kernel
theorem dX3_count_87 : decode cX3_count 87 = .ok (.tableswitch 70 0 2 #[25, 32, 40], 25) := by decide +kernel
theorem dX3_count_112 : decode cX3_count 112 = .ok (.aload_n 0, 1) := by decide +kernel
theorem dX3_count_113 : decode cX3_count 113 = .ok (.getfield 7, 3) := by decide +kernel
theorem dX3_count_116 : decode cX3_count 116 = .ok (.iconst 0, 1) := by decide +kernel
theorem dX3_count_117 : decode cX3_count 117 = .ok (.iaload, 1) := by decide +kernel
theorem dX3_count_118 : decode cX3_count 118 = .ok (.ireturn, 1) := by decide +kernel
theorem dX3_count_119 : decode cX3_count 119 = .ok (.aload_n 0, 1) := by decide +kernel
theorem dX3_count_120 : decode cX3_count 120 = .ok (.getfield 7, 3) := by decide +kernel
theorem dX3_count_123 : decode cX3_count 123 = .ok (.bipush 9, 2) := by decide +kernel
theorem dX3_count_125 : decode cX3_count 125 = .ok (.iaload, 1) := by decide +kernel
theorem dX3_count_126 : decode cX3_count 126 = .ok (.ireturn, 1) := by decide +kernel
theorem dX3_count_127 : decode cX3_count 127 = .ok (.aload_n 0, 1) := by decide +kernel
theorem dX3_count_128 : decode cX3_count 128 = .ok (.getfield 16, 3) := by decide +kernel
theorem dX3_count_131 : decode cX3_count 131 = .ok (.iconst 0, 1) := by decide +kernel
theorem dX3_count_132 : decode cX3_count 132 = .ok (.baload, 1) := by decide +kernel
theorem dX3_count_133 : decode cX3_count 133 = .ok (.ifCond .eq 7, 3) := by decide +kernel
theorem dX3_count_136 : decode cX3_count 136 = .ok (.iconst 1, 1) := by decide +kernel
theorem dX3_count_137 : decode cX3_count 137 = .ok (.goto 4, 3) := by decide +kernel
theorem dX3_count_140 : decode cX3_count 140 = .ok (.iconst 0, 1) := by decide +kernel
theorem dX3_count_141 : decode cX3_count 141 = .ok (.aload_n 0, 1) := by decide +kernel
theorem dX3_count_142 : decode cX3_count 142 = .ok (.getfield 16, 3) := by decide +kernel
theorem dX3_count_145 : decode cX3_count 145 = .ok (.iconst 1, 1) := by decide +kernel
theorem dX3_count_146 : decode cX3_count 146 = .ok (.baload, 1) := by decide +kernel
theorem dX3_count_147 : decode cX3_count 147 = .ok (.ifCond .eq 7, 3) := by decide +kernel
theorem dX3_count_150 : decode cX3_count 150 = .ok (.iconst 2, 1) := by decide +kernel
theorem dX3_count_151 : decode cX3_count 151 = .ok (.goto 4, 3) := by decide +kernel
theorem dX3_count_154 : decode cX3_count 154 = .ok (.iconst 0, 1) := by decide +kernel
theorem dX3_count_155 : decode cX3_count 155 = .ok (.iadd, 1) := by decide +kernel
theorem dX3_count_156 : decode cX3_count 156 = .ok (.ireturn, 1) := by decide +kernel
theorem dX3_count_157 : decode cX3_count 157 = .ok (.bipush (-2), 2) := by decide +kernel
theorem dX3_count_159 : decode cX3_count 159 = .ok (.ireturn, 1) := by decide +kernel
theorem dJ6_bitCount_0f7a4_0 : decode cJ6_bitCount_0f7a4 0 = .ok (.iload_n 0, 1) := by decide +kernel
theorem dJ6_bitCount_0f7a4_1 : decode cJ6_bitCount_0f7a4 1 = .ok (.iload_n 0, 1) := by decide +kernel
theorem dJ6_bitCount_0f7a4_2 : decode cJ6_bitCount_0f7a4 2 = .ok (.iconst 1, 1) := by decide +kernel
theorem dJ6_bitCount_0f7a4_3 : decode cJ6_bitCount_0f7a4 3 = .ok (.iushr, 1) := by decide +kernel
theorem dJ6_bitCount_0f7a4_4 : decode cJ6_bitCount_0f7a4 4 = .ok (.ldc_w 265, 3) := by decide +kernel
theorem dJ6_bitCount_0f7a4_7 : decode cJ6_bitCount_0f7a4 7 = .ok (.iand, 1) := by decide +kernel
theorem dJ6_bitCount_0f7a4_8 : decode cJ6_bitCount_0f7a4 8 = .ok (.isub, 1) := by decide +kernel
theorem dJ6_bitCount_0f7a4_9 : decode cJ6_bitCount_0f7a4 9 = .ok (.istore_n 0, 1) := by decide +kernel
theorem dJ6_bitCount_0f7a4_10 : decode cJ6_bitCount_0f7a4 10 = .ok (.iload_n 0, 1) := by decide +kernel
theorem dJ6_bitCount_0f7a4_11 : decode cJ6_bitCount_0f7a4 11 = .ok (.ldc_w 266, 3) := by decide +kernel
theorem dJ6_bitCount_0f7a4_14 : decode cJ6_bitCount_0f7a4 14 = .ok (.iand, 1) := by decide +kernel
theorem dJ6_bitCount_0f7a4_15 : decode cJ6_bitCount_0f7a4 15 = .ok (.iload_n 0, 1) := by decide +kernel
theorem dJ6_bitCount_0f7a4_16 : decode cJ6_bitCount_0f7a4 16 = .ok (.iconst 2, 1) := by decide +kernel
theorem dJ6_bitCount_0f7a4_17 : decode cJ6_bitCount_0f7a4 17 = .ok (.iushr, 1) := by decide +kernel
theorem dJ6_bitCount_0f7a4_18 : decode cJ6_bitCount_0f7a4 18 = .ok (.ldc_w 266, 3) := by decide +kernel
theorem dJ6_bitCount_0f7a4_21 : decode cJ6_bitCount_0f7a4 21 = .ok (.iand, 1) := by decide +kernel
theorem dJ6_bitCount_0f7a4_22 : decode cJ6_bitCount_0f7a4 22 = .ok (.iadd, 1) := by decide +kernel
theorem dJ6_bitCount_0f7a4_23 : decode cJ6_bitCount_0f7a4 23 = .ok (.istore_n 0, 1) := by decide +kernel
theorem dJ6_bitCount_0f7a4_24 : decode cJ6_bitCount_0f7a4 24 = .ok (.iload_n 0, 1) := by decide +kernel
theorem dJ6_bitCount_0f7a4_25 : decode cJ6_bitCount_0f7a4 25 = .ok (.iload_n 0, 1) := by decide +kernel
theorem dJ6_bitCount_0f7a4_26 : decode cJ6_bitCount_0f7a4 26 = .ok (.iconst 4, 1) := by decide +kernel
theorem dJ6_bitCount_0f7a4_27 : decode cJ6_bitCount_0f7a4 27 = .ok (.iushr, 1) := by decide +kernel
theorem dJ6_bitCount_0f7a4_28 : decode cJ6_bitCount_0f7a4 28 = .ok (.iadd, 1) := by decide +kernel
theorem dJ6_bitCount_0f7a4_29 : decode cJ6_bitCount_0f7a4 29 = .ok (.ldc_w 267, 3) := by decide +kernel
theorem dJ6_bitCount_0f7a4_32 : decode cJ6_bitCount_0f7a4 32 = .ok (.iand, 1) := by decide +kernel
theorem dJ6_bitCount_0f7a4_33 : decode cJ6_bitCount_0f7a4 33 = .ok (.istore_n 0, 1) := by decide +kernel
theorem dJ6_bitCount_0f7a4_34 : decode cJ6_bitCount_0f7a4 34 = .ok (.iload_n 0, 1) := by decide +kernel
theorem dJ6_bitCount_0f7a4_35 : decode cJ6_bitCount_0f7a4 35 = .ok (.iload_n 0, 1) := by decide +kernel
theorem dJ6_bitCount_0f7a4_36 : decode cJ6_bitCount_0f7a4 36 = .ok (.bipush 8, 2) := by decide +kernel
theorem dJ6_bitCount_0f7a4_38 : decode cJ6_bitCount_0f7a4 38 = .ok (.iushr, 1) := by decide +kernel
theorem dJ6_bitCount_0f7a4_39 : decode cJ6_bitCount_0f7a4 39 = .ok (.iadd, 1) := by decide +kernel
theorem dJ6_bitCount_0f7a4_40 : decode cJ6_bitCount_0f7a4 40 = .ok (.istore_n 0, 1) := by decide +kernel
theorem dJ6_bitCount_0f7a4_41 : decode cJ6_bitCount_0f7a4 41 = .ok (.iload_n 0, 1) := by decide +kernel
theorem dJ6_bitCount_0f7a4_42 : decode cJ6_bitCount_0f7a4 42 = .ok (.iload_n 0, 1) := by decide +kernel
theorem dJ6_bitCount_0f7a4_43 : decode cJ6_bitCount_0f7a4 43 = .ok (.bipush 16, 2) := by decide +kernel
theorem dJ6_bitCount_0f7a4_45 : decode cJ6_bitCount_0f7a4 45 = .ok (.iushr, 1) := by decide +kernel
theorem dJ6_bitCount_0f7a4_46 : decode cJ6_bitCount_0f7a4 46 = .ok (.iadd, 1) := by decide +kernel
theorem dJ6_bitCount_0f7a4_47 : decode cJ6_bitCount_0f7a4 47 = .ok (.istore_n 0, 1) := by decide +kernel
theorem dJ6_bitCount_0f7a4_48 : decode cJ6_bitCount_0f7a4 48 = .ok (.iload_n 0, 1) := by decide +kernel
theorem dJ6_bitCount_0f7a4_49 : decode cJ6_bitCount_0f7a4 49 = .ok (.bipush 63, 2) := by decide +kernel
theorem dJ6_bitCount_0f7a4_51 : decode cJ6_bitCount_0f7a4 51 = .ok (.iand, 1) := by decide +kernel
theorem dJ6_bitCount_0f7a4_52 : decode cJ6_bitCount_0f7a4 52 = .ok (.ireturn, 1) := by decide +kernel
theorem dJ9_abs_0f7a4_0 : decode cJ9_abs_0f7a4 0 = .ok (.iload_n 0, 1) := by decide +kernel
theorem dJ9_abs_0f7a4_1 : decode cJ9_abs_0f7a4 1 = .ok (.ifCond .ge 8, 3) := by decide +kernel
theorem dJ9_abs_0f7a4_4 : decode cJ9_abs_0f7a4 4 = .ok (.iload_n 0, 1) := by decide +kernel
theorem dJ9_abs_0f7a4_5 : decode cJ9_abs_0f7a4 5 = .ok (.ineg, 1) := by decide +kernel
theorem dJ9_abs_0f7a4_6 : decode cJ9_abs_0f7a4 6 = .ok (.goto 4, 3) := by decide +kernel
theorem dJ9_abs_0f7a4_9 : decode cJ9_abs_0f7a4 9 = .ok (.iload_n 0, 1) := by decide +kernel
theorem dJ9_abs_0f7a4_10 : decode cJ9_abs_0f7a4 10 = .ok (.ireturn, 1) := by decide +kernel
theorem dJ9_min_7cf53_0 : decode cJ9_min_7cf53 0 = .ok (.iload_n 0, 1) := by decide +kernel
theorem dJ9_min_7cf53_1 : decode cJ9_min_7cf53 1 = .ok (.iload_n 1, 1) := by decide +kernel
theorem dJ9_min_7cf53_2 : decode cJ9_min_7cf53 2 = .ok (.if_icmp .gt 7, 3) := by decide +kernel
theorem dJ9_min_7cf53_5 : decode cJ9_min_7cf53 5 = .ok (.iload_n 0, 1) := by decide +kernel
theorem dJ9_min_7cf53_6 : decode cJ9_min_7cf53 6 = .ok (.goto 4, 3) := by decide +kernel
theorem dJ9_min_7cf53_9 : decode cJ9_min_7cf53 9 = .ok (.iload_n 1, 1) := by decide +kernel
theorem dJ9_min_7cf53_10 : decode cJ9_min_7cf53 10 = .ok (.ireturn, 1) := by decide +kernel
set_option maxRecDepth 20000 in
theorem ggL_law_X2_init : GoodIn wsL_law wsX2_init := goodIn_r _ [8, 9, 10, 11, 12, 13, 14, 15, 16, 17, 18, 19, 20, 21, 22, 23, 24, 25, 26, 27, 28, 29, 30, 31, 32, 33, 34, 35, 36, 37, 38, 39, 40, 41, 42, 43, 44, 479, 480, 481, 482, 483, 464, 465, 466, 467, 468, 469, 470, 471, 484, 485, 486, 487, 488, 489] (by decide +kernel) (by decide +kernel)
set_option maxRecDepth 20000 in
theorem gL_law_X2_init : GoodIn wsL_law (wsX2_init) := ggL_law_X2_init
set_option maxRecDepth 20000 in
theorem ggL_law_X3_init : GoodIn wsL_law wsX3_init := goodIn_r _ [47, 48, 10, 11, 22, 49, 50, 51, 52, 53, 43, 54, 55, 56, 472, 473, 474, 475, 476, 477, 478] (by decide +kernel) (by decide +kernel)
set_option maxRecDepth 20000 in
theorem gL_law_X3_init : GoodIn wsL_law (wsX3_init) := ggL_law_X3_init
set_option maxRecDepth 20000 in
theorem ggL_law_X2_horn : GoodIn wsL_law wsX2_horn := goodIn_r _ [60, 15, 61, 464, 465, 466, 467, 468, 469, 470, 471, 479, 480, 481, 482, 483] (by decide +kernel) (by decide +kernel)
set_option maxRecDepth 20000 in
theorem gL_law_X2_horn : GoodIn wsL_law (wsV RL 13 RX2 yX2_horn wsX2_horn) := goodIn_app (goodIn_of _ (by decide +kernel)) ggL_law_X2_horn
set_option maxRecDepth 20000 in
theorem ggL_law_X3_horn : GoodIn wsL_law wsX3_horn := goodIn_r _ [65, 49, 66, 67, 5, 68, 472, 473, 474, 475, 476, 477, 478] (by decide +kernel) (by decide +kernel)
set_option maxRecDepth 20000 in
theorem gL_law_X3_horn : GoodIn wsL_law (wsV RL 17 RX3 yX3_horn wsX3_horn) := goodIn_app (goodIn_of _ (by decide +kernel)) ggL_law_X3_horn
set_option maxRecDepth 20000 in
theorem ggL_law_X2_valve : GoodIn wsL_law wsX2_valve := goodIn_r _ [72, 15, 73, 74, 75, 2, 76, 464, 465, 466, 467, 468, 469, 470, 471, 479, 480, 481, 482, 483] (by decide +kernel) (by decide +kernel)
set_option maxRecDepth 20000 in
theorem gL_law_X2_valve : GoodIn wsL_law (wsV RL 18 RX2 yX2_valve wsX2_valve) := goodIn_app (goodIn_of _ (by decide +kernel)) ggL_law_X2_valve
set_option maxRecDepth 20000 in
theorem ggL_law_X3_valve : GoodIn wsL_law wsX3_valve := goodIn_r _ [80, 49, 66, 67, 5, 68, 472, 473, 474, 475, 476, 477, 478] (by decide +kernel) (by decide +kernel)
set_option maxRecDepth 20000 in
theorem gL_law_X3_valve : GoodIn wsL_law (wsV RL 22 RX3 yX3_valve wsX3_valve) := goodIn_app (goodIn_of _ (by decide +kernel)) ggL_law_X3_valve
set_option maxRecDepth 20000 in
theorem ggL_law_X2_rule : GoodIn wsL_law wsX2_rule := goodIn_r _ [84, 85, 15, 86, 464, 465, 466, 467, 468, 469, 470, 471, 479, 480, 481, 482, 483] (by decide +kernel) (by decide +kernel)
set_option maxRecDepth 20000 in
theorem gL_law_X2_rule : GoodIn wsL_law (wsV RL 23 RX2 yX2_rule wsX2_rule) := goodIn_app (goodIn_of _ (by decide +kernel)) ggL_law_X2_rule
set_option maxRecDepth 20000 in
theorem ggL_law_X3_rule : GoodIn wsL_law wsX3_rule := goodIn_r _ [90, 49, 66, 67, 5, 68, 472, 473, 474, 475, 476, 477, 478] (by decide +kernel) (by decide +kernel)
set_option maxRecDepth 20000 in
theorem gL_law_X3_rule : GoodIn wsL_law (wsV RL 26 RX3 yX3_rule wsX3_rule) := goodIn_app (goodIn_of _ (by decide +kernel)) ggL_law_X3_rule
set_option maxRecDepth 20000 in
theorem ggL_law_X2_lowers : GoodIn wsL_law wsX2_lowers := goodIn_r _ [94, 15, 95, 96, 97, 14, 98, 30, 99, 100, 101, 102, 31, 32, 103, 2, 104, 464, 465, 466, 467, 468, 469, 470, 471, 479, 480, 481, 482, 483] (by decide +kernel) (by decide +kernel)
set_option maxRecDepth 20000 in
theorem gL_law_X2_lowers : GoodIn wsL_law (wsV RL 27 RX2 yX2_lowers wsX2_lowers) := goodIn_app (goodIn_of _ (by decide +kernel)) ggL_law_X2_lowers
set_option maxRecDepth 20000 in
theorem ggL_law_X3_lowers : GoodIn wsL_law wsX3_lowers := goodIn_r _ [108, 109, 110, 111, 5, 112, 49, 66, 67, 68, 113, 114, 115, 116, 117, 118, 119, 472, 473, 474, 475, 476, 477, 478] (by decide +kernel) (by decide +kernel)
set_option maxRecDepth 20000 in
theorem gL_law_X3_lowers : GoodIn wsL_law (wsV RL 30 RX3 yX3_lowers wsX3_lowers) := goodIn_app (goodIn_of _ (by decide +kernel)) ggL_law_X3_lowers
set_option maxRecDepth 20000 in
theorem ggL_law_X2_off : GoodIn wsL_law wsX2_off := goodIn_r _ [123, 15, 124, 125, 126, 14, 127, 128, 96, 97, 98, 30, 129, 130, 2, 131, 132, 133, 134, 135, 136, 100, 101, 102, 31, 32, 103, 104, 464, 465, 466, 467, 468, 469, 470, 471, 479, 480, 481, 482, 483] (by decide +kernel) (by decide +kernel)
set_option maxRecDepth 20000 in
theorem gL_law_X2_off : GoodIn wsL_law (wsV RL 31 RX2 yX2_off wsX2_off) := goodIn_app (goodIn_of _ (by decide +kernel)) ggL_law_X2_off
set_option maxRecDepth 20000 in
theorem ggL_law_X3_off : GoodIn wsL_law wsX3_off := goodIn_r _ [140, 141, 142, 143, 5, 144, 66, 67, 68, 109, 110, 111, 112, 49, 145, 146, 147, 148, 149, 150, 151, 152, 153, 154, 113, 114, 115, 116, 117, 118, 119, 472, 473, 474, 475, 476, 477, 478] (by decide +kernel) (by decide +kernel)
set_option maxRecDepth 20000 in
theorem gL_law_X3_off : GoodIn wsL_law (wsV RL 34 RX3 yX3_off wsX3_off) := goodIn_app (goodIn_of _ (by decide +kernel)) ggL_law_X3_off
set_option maxRecDepth 20000 in
theorem ggL_law_X2_ways : GoodIn wsL_law wsX2_ways := goodIn_r _ [158, 15, 23, 129, 130, 2, 131, 159, 160, 161, 14, 162, 163, 164, 165, 166, 32, 167, 125, 126, 127, 128, 96, 97, 98, 30, 168, 133, 134, 135, 136, 100, 101, 102, 31, 103, 104, 464, 465, 466, 467, 468, 469, 470, 471, 479, 480, 481, 482, 483] (by decide +kernel) (by decide +kernel)
set_option maxRecDepth 20000 in
theorem gL_law_X2_ways : GoodIn wsL_law (wsV RL 35 RX2 yX2_ways wsX2_ways) := goodIn_app (goodIn_of _ (by decide +kernel)) ggL_law_X2_ways
set_option maxRecDepth 20000 in
theorem ggL_law_X3_ways : GoodIn wsL_law wsX3_ways := goodIn_r _ [172, 145, 146, 5, 147, 66, 67, 68, 173, 174, 175, 176, 177, 178, 179, 180, 49, 141, 142, 143, 144, 109, 110, 111, 112, 148, 149, 150, 151, 152, 153, 154, 113, 114, 115, 116, 117, 118, 119, 181, 182, 183, 472, 473, 474, 475, 476, 477, 478] (by decide +kernel) (by decide +kernel)
set_option maxRecDepth 20000 in
theorem gL_law_X3_ways : GoodIn wsL_law (wsV RL 38 RX3 yX3_ways wsX3_ways) := goodIn_app (goodIn_of _ (by decide +kernel)) ggL_law_X3_ways
set_option maxRecDepth 20000 in
theorem ggL_law_X2_truest : GoodIn wsL_law wsX2_truest := goodIn_r _ [187, 15, 23, 188, 189, 164, 165, 166, 129, 130, 2, 131, 159, 160, 161, 14, 162, 163, 32, 167, 125, 126, 127, 128, 96, 97, 98, 30, 168, 133, 134, 135, 136, 100, 101, 102, 31, 103, 104, 132, 464, 465, 466, 467, 468, 469, 470, 471, 479, 480, 481, 482, 483] (by decide +kernel) (by decide +kernel)
set_option maxRecDepth 20000 in
theorem gL_law_X2_truest : GoodIn wsL_law (wsV RL 39 RX2 yX2_truest wsX2_truest) := goodIn_app (goodIn_of _ (by decide +kernel)) ggL_law_X2_truest
set_option maxRecDepth 20000 in
theorem ggL_law_X3_truest : GoodIn wsL_law wsX3_truest := goodIn_r _ [193, 145, 146, 5, 147, 66, 67, 68, 177, 178, 179, 180, 49, 141, 142, 143, 144, 109, 110, 111, 112, 148, 149, 150, 151, 152, 153, 154, 113, 114, 115, 116, 117, 118, 119, 181, 182, 183, 472, 473, 474, 475, 476, 477, 478] (by decide +kernel) (by decide +kernel)
set_option maxRecDepth 20000 in
theorem gL_law_X3_truest : GoodIn wsL_law (wsV RL 42 RX3 yX3_truest wsX3_truest) := goodIn_app (goodIn_of _ (by decide +kernel)) ggL_law_X3_truest
set_option maxRecDepth 20000 in
theorem ggL_law_X2_range : GoodIn wsL_law wsX2_range := goodIn_r _ [197, 15, 23, 159, 160, 161, 14, 162, 163, 164, 165, 166, 32, 167, 125, 126, 127, 128, 96, 97, 98, 30, 168, 133, 134, 135, 136, 100, 101, 102, 31, 103, 2, 104, 464, 465, 466, 467, 468, 469, 470, 471, 479, 480, 481, 482, 483] (by decide +kernel) (by decide +kernel)
set_option maxRecDepth 20000 in
theorem gL_law_X2_range : GoodIn wsL_law (wsV RL 43 RX2 yX2_range wsX2_range) := goodIn_app (goodIn_of _ (by decide +kernel)) ggL_law_X2_range
set_option maxRecDepth 20000 in
theorem ggL_law_X3_range : GoodIn wsL_law wsX3_range := goodIn_r _ [201, 66, 67, 5, 68, 173, 174, 175, 176, 177, 178, 179, 180, 49, 141, 142, 143, 144, 109, 110, 111, 112, 148, 149, 150, 151, 152, 153, 154, 113, 114, 115, 116, 117, 118, 119, 181, 182, 183, 472, 473, 474, 475, 476, 477, 478] (by decide +kernel) (by decide +kernel)
set_option maxRecDepth 20000 in
theorem gL_law_X3_range : GoodIn wsL_law (wsV RL 46 RX3 yX3_range wsX3_range) := goodIn_app (goodIn_of _ (by decide +kernel)) ggL_law_X3_range
set_option maxRecDepth 20000 in
theorem ggL_law_X2_note : GoodIn wsL_law wsX2_note := goodIn_r _ [205, 15, 206, 207, 129, 130, 2, 131, 464, 465, 466, 467, 468, 469, 470, 471, 479, 480, 481, 482, 483] (by decide +kernel) (by decide +kernel)
set_option maxRecDepth 20000 in
theorem gL_law_X2_note : GoodIn wsL_law (wsV RL 47 RX2 yX2_note wsX2_note) := goodIn_app (goodIn_of _ (by decide +kernel)) ggL_law_X2_note
set_option maxRecDepth 20000 in
theorem ggL_law_X3_note : GoodIn wsL_law wsX3_note := goodIn_r _ [211, 49, 145, 146, 5, 147, 66, 67, 68, 472, 473, 474, 475, 476, 477, 478] (by decide +kernel) (by decide +kernel)
set_option maxRecDepth 20000 in
theorem gL_law_X3_note : GoodIn wsL_law (wsV RL 50 RX3 yX3_note wsX3_note) := goodIn_app (goodIn_of _ (by decide +kernel)) ggL_law_X3_note
set_option maxRecDepth 20000 in
theorem ggL_law_X2_set : GoodIn wsL_law wsX2_set := goodIn_r _ [215, 15, 207, 216, 217, 218, 2, 219, 206, 129, 130, 131, 464, 465, 466, 467, 468, 469, 470, 471, 479, 480, 481, 482, 483] (by decide +kernel) (by decide +kernel)
set_option maxRecDepth 20000 in
theorem gL_law_X2_set : GoodIn wsL_law (wsV RL 51 RX2 yX2_set wsX2_set) := goodIn_app (goodIn_of _ (by decide +kernel)) ggL_law_X2_set
set_option maxRecDepth 20000 in
theorem ggL_law_X3_set : GoodIn wsL_law wsX3_set := goodIn_r _ [223, 49, 224, 225, 226, 5, 227, 66, 67, 68, 145, 146, 147, 472, 473, 474, 475, 476, 477, 478] (by decide +kernel) (by decide +kernel)
set_option maxRecDepth 20000 in
theorem gL_law_X3_set : GoodIn wsL_law (wsV RL 54 RX3 yX3_set wsX3_set) := goodIn_app (goodIn_of _ (by decide +kernel)) ggL_law_X3_set
set_option maxRecDepth 20000 in
theorem ggL_law_X2_clear : GoodIn wsL_law wsX2_clear := goodIn_r _ [231, 15, 206, 464, 465, 466, 467, 468, 469, 470, 471, 479, 480, 481, 482, 483] (by decide +kernel) (by decide +kernel)
set_option maxRecDepth 20000 in
theorem gL_law_X2_clear : GoodIn wsL_law (wsV RL 55 RX2 yX2_clear wsX2_clear) := goodIn_app (goodIn_of _ (by decide +kernel)) ggL_law_X2_clear
set_option maxRecDepth 20000 in
theorem ggL_law_X3_clear : GoodIn wsL_law wsX3_clear := goodIn_r _ [235, 49, 472, 473, 474, 475, 476, 477, 478] (by decide +kernel) (by decide +kernel)
set_option maxRecDepth 20000 in
theorem gL_law_X3_clear : GoodIn wsL_law (wsV RL 59 RX3 yX3_clear wsX3_clear) := goodIn_app (goodIn_of _ (by decide +kernel)) ggL_law_X3_clear
set_option maxRecDepth 20000 in
theorem ggL_law_X2_effort : GoodIn wsL_law wsX2_effort := goodIn_r _ [239, 15, 124, 125, 126, 14, 127, 128, 96, 97, 98, 30, 240, 241, 242, 243, 163, 164, 165, 166, 32, 244, 245, 246, 247, 248, 249, 250, 464, 465, 466, 467, 468, 469, 470, 471, 479, 480, 481, 482, 483] (by decide +kernel) (by decide +kernel)
set_option maxRecDepth 20000 in
theorem gL_law_X2_effort : GoodIn wsL_law (wsV RL 60 RX2 yX2_effort wsX2_effort) := goodIn_app (goodIn_of _ (by decide +kernel)) ggL_law_X2_effort
set_option maxRecDepth 20000 in
theorem ggL_law_X3_effort : GoodIn wsL_law wsX3_effort := goodIn_r _ [254, 141, 142, 143, 5, 144, 66, 67, 68, 109, 110, 111, 112, 49, 255, 256, 257, 258, 117, 118, 119, 181, 182, 183, 472, 473, 474, 475, 476, 477, 478] (by decide +kernel) (by decide +kernel)
set_option maxRecDepth 20000 in
theorem gL_law_X3_effort : GoodIn wsL_law (wsV RL 63 RX3 yX3_effort wsX3_effort) := goodIn_app (goodIn_of _ (by decide +kernel)) ggL_law_X3_effort
set_option maxRecDepth 20000 in
theorem ggL_law_X2_least : GoodIn wsL_law wsX2_least := goodIn_r _ [262, 15, 206, 21, 263, 264, 265, 20, 266, 267, 38, 39, 268, 40, 269, 160, 161, 14, 162, 163, 164, 165, 166, 32, 167, 125, 126, 127, 128, 96, 97, 98, 30, 168, 133, 134, 135, 136, 100, 101, 102, 31, 103, 2, 104, 270, 271, 272, 273, 274, 42, 44, 41, 275, 241, 242, 243, 244, 245, 246, 247, 248, 249, 250, 276, 277, 278, 279, 280, 281, 282, 283, 284, 285, 286, 287, 288, 289, 290, 291, 292, 293, 294, 295, 296, 297, 298, 299, 300, 301, 302, 303, 304, 305, 306, 307, 308, 309, 310, 311, 464, 465, 466, 467, 468, 469, 470, 471, 479, 480, 481, 482, 483, 484, 485, 486, 487, 488, 489] (by decide +kernel) (by decide +kernel)
set_option maxRecDepth 20000 in
theorem gL_law_X2_least : GoodIn wsL_law (wsV RL 64 RX2 yX2_least wsX2_least) := goodIn_app (goodIn_of _ (by decide +kernel)) ggL_law_X2_least
set_option maxRecDepth 20000 in
theorem ggL_law_X3_least : GoodIn wsL_law wsX3_least := goodIn_r _ [315, 49, 53, 316, 317, 318, 5, 319, 54, 320, 321, 322, 323, 324, 325, 326, 177, 178, 179, 180, 141, 142, 143, 144, 66, 67, 68, 109, 110, 111, 112, 148, 149, 150, 151, 152, 153, 154, 113, 114, 115, 116, 117, 118, 119, 181, 182, 183, 327, 328, 329, 330, 55, 331, 332, 333, 334, 255, 256, 257, 258, 335, 336, 337, 338, 339, 340, 341, 342, 472, 473, 474, 475, 476, 477, 478] (by decide +kernel) (by decide +kernel)
set_option maxRecDepth 20000 in
theorem gL_law_X3_least : GoodIn wsL_law (wsV RL 67 RX3 yX3_least wsX3_least) := goodIn_app (goodIn_of _ (by decide +kernel)) ggL_law_X3_least
set_option maxRecDepth 20000 in
theorem ggL_law_X2_plans : GoodIn wsL_law wsX2_plans := goodIn_r _ [346, 347, 21, 15, 348, 263, 264, 265, 20, 266, 267, 38, 39, 268, 40, 269, 160, 161, 14, 162, 163, 164, 165, 166, 32, 167, 125, 126, 127, 128, 96, 97, 98, 30, 168, 133, 134, 135, 136, 100, 101, 102, 31, 103, 2, 104, 270, 271, 272, 273, 274, 42, 44, 41, 275, 241, 242, 243, 244, 245, 246, 247, 248, 249, 250, 276, 277, 278, 279, 349, 285, 286, 287, 350, 351, 352, 353, 354, 281, 282, 283, 284, 303, 289, 290, 291, 292, 293, 294, 216, 217, 218, 219, 206, 280, 355, 356, 357, 358, 299, 300, 301, 302, 307, 308, 309, 310, 311, 464, 465, 466, 467, 468, 469, 470, 471, 479, 480, 481, 482, 483, 484, 485, 486, 487, 488, 489] (by decide +kernel) (by decide +kernel)
set_option maxRecDepth 20000 in
theorem gL_law_X2_plans : GoodIn wsL_law (wsV RL 68 RX2 yX2_plans wsX2_plans) := goodIn_app (goodIn_of _ (by decide +kernel)) ggL_law_X2_plans
set_option maxRecDepth 20000 in
theorem ggL_law_X3_plans : GoodIn wsL_law wsX3_plans := goodIn_r _ [362, 363, 364, 49, 54, 53, 55, 66, 67, 5, 68, 316, 317, 318, 319, 320, 321, 322, 323, 324, 325, 326, 177, 178, 179, 180, 141, 142, 143, 144, 109, 110, 111, 112, 148, 149, 150, 151, 152, 153, 154, 113, 114, 115, 116, 117, 118, 119, 181, 182, 183, 327, 328, 329, 330, 331, 332, 333, 334, 255, 256, 257, 258, 335, 336, 337, 338, 365, 366, 367, 368, 56, 369, 370, 371, 372, 224, 225, 226, 227, 373, 374, 375, 376, 472, 473, 474, 475, 476, 477, 478] (by decide +kernel) (by decide +kernel)
set_option maxRecDepth 20000 in
theorem gL_law_X3_plans : GoodIn wsL_law (wsV RL 72 RX3 yX3_plans wsX3_plans) := goodIn_app (goodIn_of _ (by decide +kernel)) ggL_law_X3_plans
set_option maxRecDepth 20000 in
theorem ggL_law_X2_dumb : GoodIn wsL_law wsX2_dumb := goodIn_r _ [380, 15, 206, 207, 23, 159, 160, 161, 14, 162, 163, 164, 165, 166, 32, 167, 125, 126, 127, 128, 96, 97, 98, 30, 168, 133, 134, 135, 136, 100, 101, 102, 31, 103, 2, 104, 464, 465, 466, 467, 468, 469, 470, 471, 479, 480, 481, 482, 483] (by decide +kernel) (by decide +kernel)
set_option maxRecDepth 20000 in
theorem gL_law_X2_dumb : GoodIn wsL_law (wsV RL 73 RX2 yX2_dumb wsX2_dumb) := goodIn_app (goodIn_of _ (by decide +kernel)) ggL_law_X2_dumb
set_option maxRecDepth 20000 in
theorem ggL_law_X3_dumb : GoodIn wsL_law wsX3_dumb := goodIn_r _ [384, 49, 173, 174, 175, 5, 176, 177, 178, 179, 180, 141, 142, 143, 144, 66, 67, 68, 109, 110, 111, 112, 148, 149, 150, 151, 152, 153, 154, 113, 114, 115, 116, 117, 118, 119, 181, 182, 183, 472, 473, 474, 475, 476, 477, 478] (by decide +kernel) (by decide +kernel)
set_option maxRecDepth 20000 in
theorem gL_law_X3_dumb : GoodIn wsL_law (wsV RL 76 RX3 yX3_dumb wsX3_dumb) := goodIn_app (goodIn_of _ (by decide +kernel)) ggL_law_X3_dumb
set_option maxRecDepth 20000 in
theorem ggL_law_X2_trill : GoodIn wsL_law wsX2_trill := goodIn_r _ [388, 129, 130, 2, 131, 389, 390, 391, 392, 15, 23, 24, 188, 393, 293, 165, 294, 159, 160, 161, 14, 162, 163, 164, 166, 32, 167, 125, 126, 127, 128, 96, 97, 98, 30, 168, 133, 134, 135, 136, 100, 101, 102, 31, 103, 104, 240, 241, 242, 243, 244, 245, 246, 247, 248, 249, 250, 464, 465, 466, 467, 468, 469, 470, 471, 479, 480, 481, 482, 483] (by decide +kernel) (by decide +kernel)
set_option maxRecDepth 20000 in
theorem gL_law_X2_trill : GoodIn wsL_law (wsV RL 77 RX2 yX2_trill wsX2_trill) := goodIn_app (goodIn_of _ (by decide +kernel)) ggL_law_X2_trill
set_option maxRecDepth 20000 in
theorem ggL_law_X3_trill : GoodIn wsL_law wsX3_trill := goodIn_r _ [397, 145, 146, 5, 147, 66, 67, 68, 398, 399, 400, 401, 177, 178, 179, 180, 49, 141, 142, 143, 144, 109, 110, 111, 112, 148, 149, 150, 151, 152, 153, 154, 113, 114, 115, 116, 117, 118, 119, 181, 182, 183, 255, 256, 257, 258, 472, 473, 474, 475, 476, 477, 478] (by decide +kernel) (by decide +kernel)
set_option maxRecDepth 20000 in
theorem gL_law_X3_trill : GoodIn wsL_law (wsV RL 80 RX3 yX3_trill wsX3_trill) := goodIn_app (goodIn_of _ (by decide +kernel)) ggL_law_X3_trill
set_option maxRecDepth 20000 in
theorem ggL_law_X2_awkward : GoodIn wsL_law wsX2_awkward := goodIn_r _ [405, 389, 390, 391, 2, 392, 15, 23, 24, 188, 393, 293, 165, 294, 159, 160, 161, 14, 162, 163, 164, 166, 32, 167, 125, 126, 127, 128, 96, 97, 98, 30, 168, 133, 134, 135, 136, 100, 101, 102, 31, 103, 104, 240, 241, 242, 243, 244, 245, 246, 247, 248, 249, 250, 464, 465, 466, 467, 468, 469, 470, 471, 479, 480, 481, 482, 483] (by decide +kernel) (by decide +kernel)
set_option maxRecDepth 20000 in
theorem gL_law_X2_awkward : GoodIn wsL_law (wsV RL 81 RX2 yX2_awkward wsX2_awkward) := goodIn_app (goodIn_of _ (by decide +kernel)) ggL_law_X2_awkward
set_option maxRecDepth 20000 in
theorem ggL_law_X3_awkward : GoodIn wsL_law wsX3_awkward := goodIn_r _ [409, 66, 67, 5, 68, 398, 399, 400, 401, 177, 178, 179, 180, 49, 141, 142, 143, 144, 109, 110, 111, 112, 148, 149, 150, 151, 152, 153, 154, 113, 114, 115, 116, 117, 118, 119, 181, 182, 183, 255, 256, 257, 258, 472, 473, 474, 475, 476, 477, 478] (by decide +kernel) (by decide +kernel)
set_option maxRecDepth 20000 in
theorem gL_law_X3_awkward : GoodIn wsL_law (wsV RL 84 RX3 yX3_awkward wsX3_awkward) := goodIn_app (goodIn_of _ (by decide +kernel)) ggL_law_X3_awkward
set_option maxRecDepth 20000 in
theorem ggL_law_X2_tune : GoodIn wsL_law wsX2_tune := goodIn_r _ [413, 15, 61, 74, 75, 2, 76, 414, 415, 416, 417, 25, 73, 26, 86, 206, 207, 418, 103, 104, 419, 420, 421, 422, 188, 423, 189, 164, 165, 166, 393, 293, 294, 464, 465, 466, 467, 468, 469, 470, 471, 479, 480, 481, 482, 483] (by decide +kernel) (by decide +kernel)
set_option maxRecDepth 20000 in
theorem gL_law_X2_tune : GoodIn wsL_law (wsV RL 85 RX2 yX2_tune wsX2_tune) := goodIn_app (goodIn_of _ (by decide +kernel)) ggL_law_X2_tune
set_option maxRecDepth 20000 in
theorem ggL_law_X3_tune : GoodIn wsL_law wsX3_tune := goodIn_r _ [427, 49, 66, 67, 5, 68, 428, 429, 430, 431, 148, 149, 150, 151, 152, 153, 154, 113, 114, 115, 116, 117, 118, 119, 181, 182, 183, 472, 473, 474, 475, 476, 477, 478] (by decide +kernel) (by decide +kernel)
set_option maxRecDepth 20000 in
theorem gL_law_X3_tune : GoodIn wsL_law (wsV RL 88 RX3 yX3_tune wsX3_tune) := goodIn_app (goodIn_of _ (by decide +kernel)) ggL_law_X3_tune
set_option maxRecDepth 20000 in
theorem ggL_law_X2_image : GoodIn wsL_law wsX2_image := goodIn_r _ [435, 16, 15, 17, 436, 437, 438, 14, 439, 30, 34, 31, 440, 441, 442, 443, 32, 33, 464, 465, 466, 467, 468, 469, 470, 471, 479, 480, 481, 482, 483] (by decide +kernel) (by decide +kernel)
set_option maxRecDepth 20000 in
theorem gL_law_X2_image : GoodIn wsL_law (wsV RL 89 RX2 yX2_image wsX2_image) := goodIn_app (goodIn_of _ (by decide +kernel)) ggL_law_X2_image
set_option maxRecDepth 20000 in
theorem ggL_law_X3_image : GoodIn wsL_law wsX3_image := goodIn_r _ [447, 50, 49, 52, 66, 67, 5, 68, 472, 473, 474, 475, 476, 477, 478] (by decide +kernel) (by decide +kernel)
set_option maxRecDepth 20000 in
theorem gL_law_X3_image : GoodIn wsL_law (wsV RL 92 RX3 yX3_image wsX3_image) := goodIn_app (goodIn_of _ (by decide +kernel)) ggL_law_X3_image
set_option maxRecDepth 20000 in
theorem ggL_law_X2_restore : GoodIn wsL_law wsX2_restore := goodIn_r _ [451, 17, 15, 16, 436, 437, 438, 14, 439, 30, 34, 31, 440, 441, 442, 443, 32, 33, 464, 465, 466, 467, 468, 469, 470, 471, 479, 480, 481, 482, 483] (by decide +kernel) (by decide +kernel)
set_option maxRecDepth 20000 in
theorem gL_law_X2_restore : GoodIn wsL_law (wsV RL 93 RX2 yX2_restore wsX2_restore) := goodIn_app (goodIn_of _ (by decide +kernel)) ggL_law_X2_restore
set_option maxRecDepth 20000 in
theorem ggL_law_X3_restore : GoodIn wsL_law wsX3_restore := goodIn_r _ [455, 52, 49, 50, 66, 67, 5, 68, 472, 473, 474, 475, 476, 477, 478] (by decide +kernel) (by decide +kernel)
set_option maxRecDepth 20000 in
theorem gL_law_X3_restore : GoodIn wsL_law (wsV RL 96 RX3 yX3_restore wsX3_restore) := goodIn_app (goodIn_of _ (by decide +kernel)) ggL_law_X3_restore
set_option maxRecDepth 20000 in
theorem ggL_law_X2_count : GoodIn wsL_law wsX2_count := goodIn_r _ [459, 15, 61, 206, 17, 86, 73, 207, 216, 217, 218, 2, 219, 464, 465, 466, 467, 468, 469, 470, 471, 479, 480, 481, 482, 483] (by decide +kernel) (by decide +kernel)
set_option maxRecDepth 20000 in
theorem gL_law_X2_count : GoodIn wsL_law (wsV RL 97 RX2 yX2_count wsX2_count) := goodIn_app (goodIn_of _ (by decide +kernel)) ggL_law_X2_count
set_option maxRecDepth 20000 in
theorem ggL_law_X3_count : GoodIn wsL_law wsX3_count := goodIn_r _ [463, 49, 52, 66, 67, 5, 68, 224, 225, 226, 227, 472, 473, 474, 475, 476, 477, 478] (by decide +kernel) (by decide +kernel)
set_option maxRecDepth 20000 in
theorem gL_law_X3_count : GoodIn wsL_law (wsV RL 100 RX3 yX3_count wsX3_count) := goodIn_app (goodIn_of _ (by decide +kernel)) ggL_law_X3_count
theorem dL_law_0 : decode cL_law 0 = .ok (.new 7, 3) := by decide +kernel
theorem dL_law_3 : decode cL_law 3 = .ok (.dup, 1) := by decide +kernel
theorem dL_law_4 : decode cL_law 4 = .ok (.invokespecial 9, 3) := by decide +kernel
theorem dL_law_7 : decode cL_law 7 = .ok (.astore_n 1, 1) := by decide +kernel
theorem dL_law_8 : decode cL_law 8 = .ok (.new 10, 3) := by decide +kernel
theorem dL_law_11 : decode cL_law 11 = .ok (.dup, 1) := by decide +kernel
theorem dL_law_12 : decode cL_law 12 = .ok (.invokespecial 12, 3) := by decide +kernel
theorem dL_law_15 : decode cL_law 15 = .ok (.astore_n 2, 1) := by decide +kernel
theorem dL_law_16 : decode cL_law 16 = .ok (.iconst 0, 1) := by decide +kernel
theorem dL_law_17 : decode cL_law 17 = .ok (.istore_n 3, 1) := by decide +kernel
theorem dL_law_18 : decode cL_law 18 = .ok (.iload_n 3, 1) := by decide +kernel
theorem dL_law_19 : decode cL_law 19 = .ok (.aload_n 0, 1) := by decide +kernel
theorem dL_law_20 : decode cL_law 20 = .ok (.arraylength, 1) := by decide +kernel
theorem dL_law_21 : decode cL_law 21 = .ok (.iconst 3, 1) := by decide +kernel
theorem dL_law_22 : decode cL_law 22 = .ok (.isub, 1) := by decide +kernel
theorem dL_law_23 : decode cL_law 23 = .ok (.if_icmp .gt 669, 3) := by decide +kernel
theorem dL_law_26 : decode cL_law 26 = .ok (.aload_n 0, 1) := by decide +kernel
theorem dL_law_27 : decode cL_law 27 = .ok (.iload_n 3, 1) := by decide +kernel
theorem dL_law_28 : decode cL_law 28 = .ok (.iaload, 1) := by decide +kernel
theorem dL_law_29 : decode cL_law 29 = .ok (.bipush 31, 2) := by decide +kernel
theorem dL_law_31 : decode cL_law 31 = .ok (.iand, 1) := by decide +kernel
theorem dL_law_32 : decode cL_law 32 = .ok (.tableswitch 654 0 20 #[100, 123, 156, 189, 212, 245, 278, 301, 324, 347, 380, 393, 426, 449, 473, 486, 519, 552, 585, 608, 631], 100) := by decide +kernel
theorem dL_law_132 : decode cL_law 132 = .ok (.aload_n 1, 1) := by decide +kernel
theorem dL_law_133 : decode cL_law 133 = .ok (.aload_n 0, 1) := by decide +kernel
theorem dL_law_134 : decode cL_law 134 = .ok (.iload_n 3, 1) := by decide +kernel
theorem dL_law_135 : decode cL_law 135 = .ok (.iconst 1, 1) := by decide +kernel
theorem dL_law_136 : decode cL_law 136 = .ok (.iadd, 1) := by decide +kernel
theorem dL_law_137 : decode cL_law 137 = .ok (.iaload, 1) := by decide +kernel
theorem dL_law_138 : decode cL_law 138 = .ok (.invokevirtual 13, 3) := by decide +kernel
theorem dL_law_141 : decode cL_law 141 = .ok (.aload_n 2, 1) := by decide +kernel
theorem dL_law_142 : decode cL_law 142 = .ok (.aload_n 0, 1) := by decide +kernel
theorem dL_law_143 : decode cL_law 143 = .ok (.iload_n 3, 1) := by decide +kernel
theorem dL_law_144 : decode cL_law 144 = .ok (.iconst 1, 1) := by decide +kernel
theorem dL_law_145 : decode cL_law 145 = .ok (.iadd, 1) := by decide +kernel
theorem dL_law_146 : decode cL_law 146 = .ok (.iaload, 1) := by decide +kernel
theorem dL_law_147 : decode cL_law 147 = .ok (.invokevirtual 17, 3) := by decide +kernel
theorem dL_law_150 : decode cL_law 150 = .ok (.if_icmp .eq 536, 3) := by decide +kernel
theorem dL_law_153 : decode cL_law 153 = .ok (.iconst 0, 1) := by decide +kernel
theorem dL_law_154 : decode cL_law 154 = .ok (.ireturn, 1) := by decide +kernel
theorem dL_law_155 : decode cL_law 155 = .ok (.aload_n 1, 1) := by decide +kernel
theorem dL_law_156 : decode cL_law 156 = .ok (.aload_n 0, 1) := by decide +kernel
theorem dL_law_157 : decode cL_law 157 = .ok (.iload_n 3, 1) := by decide +kernel
theorem dL_law_158 : decode cL_law 158 = .ok (.iconst 1, 1) := by decide +kernel
theorem dL_law_159 : decode cL_law 159 = .ok (.iadd, 1) := by decide +kernel
theorem dL_law_160 : decode cL_law 160 = .ok (.iaload, 1) := by decide +kernel
theorem dL_law_161 : decode cL_law 161 = .ok (.aload_n 0, 1) := by decide +kernel
theorem dL_law_162 : decode cL_law 162 = .ok (.iload_n 3, 1) := by decide +kernel
theorem dL_law_163 : decode cL_law 163 = .ok (.iconst 2, 1) := by decide +kernel
theorem dL_law_164 : decode cL_law 164 = .ok (.iadd, 1) := by decide +kernel
theorem dL_law_165 : decode cL_law 165 = .ok (.iaload, 1) := by decide +kernel
theorem dL_law_166 : decode cL_law 166 = .ok (.invokevirtual 18, 3) := by decide +kernel
theorem dL_law_169 : decode cL_law 169 = .ok (.aload_n 2, 1) := by decide +kernel
theorem dL_law_170 : decode cL_law 170 = .ok (.aload_n 0, 1) := by decide +kernel
theorem dL_law_171 : decode cL_law 171 = .ok (.iload_n 3, 1) := by decide +kernel
theorem dL_law_172 : decode cL_law 172 = .ok (.iconst 1, 1) := by decide +kernel
theorem dL_law_173 : decode cL_law 173 = .ok (.iadd, 1) := by decide +kernel
theorem dL_law_174 : decode cL_law 174 = .ok (.iaload, 1) := by decide +kernel
theorem dL_law_175 : decode cL_law 175 = .ok (.aload_n 0, 1) := by decide +kernel
theorem dL_law_176 : decode cL_law 176 = .ok (.iload_n 3, 1) := by decide +kernel
theorem dL_law_177 : decode cL_law 177 = .ok (.iconst 2, 1) := by decide +kernel
theorem dL_law_178 : decode cL_law 178 = .ok (.iadd, 1) := by decide +kernel
theorem dL_law_179 : decode cL_law 179 = .ok (.iaload, 1) := by decide +kernel
theorem dL_law_180 : decode cL_law 180 = .ok (.invokevirtual 22, 3) := by decide +kernel
theorem dL_law_183 : decode cL_law 183 = .ok (.if_icmp .eq 503, 3) := by decide +kernel
theorem dL_law_186 : decode cL_law 186 = .ok (.iconst 0, 1) := by decide +kernel
theorem dL_law_187 : decode cL_law 187 = .ok (.ireturn, 1) := by decide +kernel
theorem dL_law_188 : decode cL_law 188 = .ok (.aload_n 1, 1) := by decide +kernel
theorem dL_law_189 : decode cL_law 189 = .ok (.aload_n 0, 1) := by decide +kernel
theorem dL_law_190 : decode cL_law 190 = .ok (.iload_n 3, 1) := by decide +kernel
theorem dL_law_191 : decode cL_law 191 = .ok (.iconst 1, 1) := by decide +kernel
theorem dL_law_192 : decode cL_law 192 = .ok (.iadd, 1) := by decide +kernel
theorem dL_law_193 : decode cL_law 193 = .ok (.iaload, 1) := by decide +kernel
theorem dL_law_194 : decode cL_law 194 = .ok (.aload_n 0, 1) := by decide +kernel
theorem dL_law_195 : decode cL_law 195 = .ok (.iload_n 3, 1) := by decide +kernel
theorem dL_law_196 : decode cL_law 196 = .ok (.iconst 2, 1) := by decide +kernel
theorem dL_law_197 : decode cL_law 197 = .ok (.iadd, 1) := by decide +kernel
theorem dL_law_198 : decode cL_law 198 = .ok (.iaload, 1) := by decide +kernel
theorem dL_law_199 : decode cL_law 199 = .ok (.invokevirtual 23, 3) := by decide +kernel
theorem dL_law_202 : decode cL_law 202 = .ok (.aload_n 2, 1) := by decide +kernel
theorem dL_law_203 : decode cL_law 203 = .ok (.aload_n 0, 1) := by decide +kernel
theorem dL_law_204 : decode cL_law 204 = .ok (.iload_n 3, 1) := by decide +kernel
theorem dL_law_205 : decode cL_law 205 = .ok (.iconst 1, 1) := by decide +kernel
theorem dL_law_206 : decode cL_law 206 = .ok (.iadd, 1) := by decide +kernel
theorem dL_law_207 : decode cL_law 207 = .ok (.iaload, 1) := by decide +kernel
theorem dL_law_208 : decode cL_law 208 = .ok (.aload_n 0, 1) := by decide +kernel
theorem dL_law_209 : decode cL_law 209 = .ok (.iload_n 3, 1) := by decide +kernel
theorem dL_law_210 : decode cL_law 210 = .ok (.iconst 2, 1) := by decide +kernel
theorem dL_law_211 : decode cL_law 211 = .ok (.iadd, 1) := by decide +kernel
theorem dL_law_212 : decode cL_law 212 = .ok (.iaload, 1) := by decide +kernel
theorem dL_law_213 : decode cL_law 213 = .ok (.invokevirtual 26, 3) := by decide +kernel
theorem dL_law_216 : decode cL_law 216 = .ok (.if_icmp .eq 470, 3) := by decide +kernel
theorem dL_law_219 : decode cL_law 219 = .ok (.iconst 0, 1) := by decide +kernel
theorem dL_law_220 : decode cL_law 220 = .ok (.ireturn, 1) := by decide +kernel
theorem dL_law_221 : decode cL_law 221 = .ok (.aload_n 1, 1) := by decide +kernel
theorem dL_law_222 : decode cL_law 222 = .ok (.aload_n 0, 1) := by decide +kernel
theorem dL_law_223 : decode cL_law 223 = .ok (.iload_n 3, 1) := by decide +kernel
theorem dL_law_224 : decode cL_law 224 = .ok (.iconst 1, 1) := by decide +kernel
theorem dL_law_225 : decode cL_law 225 = .ok (.iadd, 1) := by decide +kernel
theorem dL_law_226 : decode cL_law 226 = .ok (.iaload, 1) := by decide +kernel
theorem dL_law_227 : decode cL_law 227 = .ok (.invokevirtual 27, 3) := by decide +kernel
theorem dL_law_230 : decode cL_law 230 = .ok (.aload_n 2, 1) := by decide +kernel
theorem dL_law_231 : decode cL_law 231 = .ok (.aload_n 0, 1) := by decide +kernel
theorem dL_law_232 : decode cL_law 232 = .ok (.iload_n 3, 1) := by decide +kernel
theorem dL_law_233 : decode cL_law 233 = .ok (.iconst 1, 1) := by decide +kernel
theorem dL_law_234 : decode cL_law 234 = .ok (.iadd, 1) := by decide +kernel
theorem dL_law_235 : decode cL_law 235 = .ok (.iaload, 1) := by decide +kernel
theorem dL_law_236 : decode cL_law 236 = .ok (.invokevirtual 30, 3) := by decide +kernel
theorem dL_law_239 : decode cL_law 239 = .ok (.if_icmp .eq 447, 3) := by decide +kernel
theorem dL_law_242 : decode cL_law 242 = .ok (.iconst 0, 1) := by decide +kernel
theorem dL_law_243 : decode cL_law 243 = .ok (.ireturn, 1) := by decide +kernel
theorem dL_law_244 : decode cL_law 244 = .ok (.aload_n 1, 1) := by decide +kernel
theorem dL_law_245 : decode cL_law 245 = .ok (.aload_n 0, 1) := by decide +kernel
theorem dL_law_246 : decode cL_law 246 = .ok (.iload_n 3, 1) := by decide +kernel
theorem dL_law_247 : decode cL_law 247 = .ok (.iconst 1, 1) := by decide +kernel
theorem dL_law_248 : decode cL_law 248 = .ok (.iadd, 1) := by decide +kernel
theorem dL_law_249 : decode cL_law 249 = .ok (.iaload, 1) := by decide +kernel
theorem dL_law_250 : decode cL_law 250 = .ok (.aload_n 0, 1) := by decide +kernel
theorem dL_law_251 : decode cL_law 251 = .ok (.iload_n 3, 1) := by decide +kernel
theorem dL_law_252 : decode cL_law 252 = .ok (.iconst 2, 1) := by decide +kernel
theorem dL_law_253 : decode cL_law 253 = .ok (.iadd, 1) := by decide +kernel
theorem dL_law_254 : decode cL_law 254 = .ok (.iaload, 1) := by decide +kernel
theorem dL_law_255 : decode cL_law 255 = .ok (.invokevirtual 31, 3) := by decide +kernel
theorem dL_law_258 : decode cL_law 258 = .ok (.aload_n 2, 1) := by decide +kernel
theorem dL_law_259 : decode cL_law 259 = .ok (.aload_n 0, 1) := by decide +kernel
theorem dL_law_260 : decode cL_law 260 = .ok (.iload_n 3, 1) := by decide +kernel
theorem dL_law_261 : decode cL_law 261 = .ok (.iconst 1, 1) := by decide +kernel
theorem dL_law_262 : decode cL_law 262 = .ok (.iadd, 1) := by decide +kernel
theorem dL_law_263 : decode cL_law 263 = .ok (.iaload, 1) := by decide +kernel
theorem dL_law_264 : decode cL_law 264 = .ok (.aload_n 0, 1) := by decide +kernel
theorem dL_law_265 : decode cL_law 265 = .ok (.iload_n 3, 1) := by decide +kernel
theorem dL_law_266 : decode cL_law 266 = .ok (.iconst 2, 1) := by decide +kernel
theorem dL_law_267 : decode cL_law 267 = .ok (.iadd, 1) := by decide +kernel
theorem dL_law_268 : decode cL_law 268 = .ok (.iaload, 1) := by decide +kernel
theorem dL_law_269 : decode cL_law 269 = .ok (.invokevirtual 34, 3) := by decide +kernel
theorem dL_law_272 : decode cL_law 272 = .ok (.if_icmp .eq 414, 3) := by decide +kernel
theorem dL_law_275 : decode cL_law 275 = .ok (.iconst 0, 1) := by decide +kernel
theorem dL_law_276 : decode cL_law 276 = .ok (.ireturn, 1) := by decide +kernel
theorem dL_law_277 : decode cL_law 277 = .ok (.aload_n 1, 1) := by decide +kernel
theorem dL_law_278 : decode cL_law 278 = .ok (.aload_n 0, 1) := by decide +kernel
theorem dL_law_279 : decode cL_law 279 = .ok (.iload_n 3, 1) := by decide +kernel
theorem dL_law_280 : decode cL_law 280 = .ok (.iconst 1, 1) := by decide +kernel
theorem dL_law_281 : decode cL_law 281 = .ok (.iadd, 1) := by decide +kernel
theorem dL_law_282 : decode cL_law 282 = .ok (.iaload, 1) := by decide +kernel
theorem dL_law_283 : decode cL_law 283 = .ok (.aload_n 0, 1) := by decide +kernel
theorem dL_law_284 : decode cL_law 284 = .ok (.iload_n 3, 1) := by decide +kernel
theorem dL_law_285 : decode cL_law 285 = .ok (.iconst 2, 1) := by decide +kernel
theorem dL_law_286 : decode cL_law 286 = .ok (.iadd, 1) := by decide +kernel
theorem dL_law_287 : decode cL_law 287 = .ok (.iaload, 1) := by decide +kernel
theorem dL_law_288 : decode cL_law 288 = .ok (.invokevirtual 35, 3) := by decide +kernel
theorem dL_law_291 : decode cL_law 291 = .ok (.aload_n 2, 1) := by decide +kernel
theorem dL_law_292 : decode cL_law 292 = .ok (.aload_n 0, 1) := by decide +kernel
theorem dL_law_293 : decode cL_law 293 = .ok (.iload_n 3, 1) := by decide +kernel
theorem dL_law_294 : decode cL_law 294 = .ok (.iconst 1, 1) := by decide +kernel
theorem dL_law_295 : decode cL_law 295 = .ok (.iadd, 1) := by decide +kernel
theorem dL_law_296 : decode cL_law 296 = .ok (.iaload, 1) := by decide +kernel
theorem dL_law_297 : decode cL_law 297 = .ok (.aload_n 0, 1) := by decide +kernel
theorem dL_law_298 : decode cL_law 298 = .ok (.iload_n 3, 1) := by decide +kernel
theorem dL_law_299 : decode cL_law 299 = .ok (.iconst 2, 1) := by decide +kernel
theorem dL_law_300 : decode cL_law 300 = .ok (.iadd, 1) := by decide +kernel
theorem dL_law_301 : decode cL_law 301 = .ok (.iaload, 1) := by decide +kernel
theorem dL_law_302 : decode cL_law 302 = .ok (.invokevirtual 38, 3) := by decide +kernel
theorem dL_law_305 : decode cL_law 305 = .ok (.if_icmp .eq 381, 3) := by decide +kernel
theorem dL_law_308 : decode cL_law 308 = .ok (.iconst 0, 1) := by decide +kernel
theorem dL_law_309 : decode cL_law 309 = .ok (.ireturn, 1) := by decide +kernel
theorem dL_law_310 : decode cL_law 310 = .ok (.aload_n 1, 1) := by decide +kernel
theorem dL_law_311 : decode cL_law 311 = .ok (.aload_n 0, 1) := by decide +kernel
theorem dL_law_312 : decode cL_law 312 = .ok (.iload_n 3, 1) := by decide +kernel
theorem dL_law_313 : decode cL_law 313 = .ok (.iconst 1, 1) := by decide +kernel
theorem dL_law_314 : decode cL_law 314 = .ok (.iadd, 1) := by decide +kernel
theorem dL_law_315 : decode cL_law 315 = .ok (.iaload, 1) := by decide +kernel
theorem dL_law_316 : decode cL_law 316 = .ok (.invokevirtual 39, 3) := by decide +kernel
theorem dL_law_319 : decode cL_law 319 = .ok (.aload_n 2, 1) := by decide +kernel
theorem dL_law_320 : decode cL_law 320 = .ok (.aload_n 0, 1) := by decide +kernel
theorem dL_law_321 : decode cL_law 321 = .ok (.iload_n 3, 1) := by decide +kernel
theorem dL_law_322 : decode cL_law 322 = .ok (.iconst 1, 1) := by decide +kernel
theorem dL_law_323 : decode cL_law 323 = .ok (.iadd, 1) := by decide +kernel
theorem dL_law_324 : decode cL_law 324 = .ok (.iaload, 1) := by decide +kernel
theorem dL_law_325 : decode cL_law 325 = .ok (.invokevirtual 42, 3) := by decide +kernel
theorem dL_law_328 : decode cL_law 328 = .ok (.if_icmp .eq 358, 3) := by decide +kernel
theorem dL_law_331 : decode cL_law 331 = .ok (.iconst 0, 1) := by decide +kernel
theorem dL_law_332 : decode cL_law 332 = .ok (.ireturn, 1) := by decide +kernel
theorem dL_law_333 : decode cL_law 333 = .ok (.aload_n 1, 1) := by decide +kernel
theorem dL_law_334 : decode cL_law 334 = .ok (.aload_n 0, 1) := by decide +kernel
theorem dL_law_335 : decode cL_law 335 = .ok (.iload_n 3, 1) := by decide +kernel
theorem dL_law_336 : decode cL_law 336 = .ok (.iconst 1, 1) := by decide +kernel
theorem dL_law_337 : decode cL_law 337 = .ok (.iadd, 1) := by decide +kernel
theorem dL_law_338 : decode cL_law 338 = .ok (.iaload, 1) := by decide +kernel
theorem dL_law_339 : decode cL_law 339 = .ok (.invokevirtual 43, 3) := by decide +kernel
theorem dL_law_342 : decode cL_law 342 = .ok (.aload_n 2, 1) := by decide +kernel
theorem dL_law_343 : decode cL_law 343 = .ok (.aload_n 0, 1) := by decide +kernel
theorem dL_law_344 : decode cL_law 344 = .ok (.iload_n 3, 1) := by decide +kernel
theorem dL_law_345 : decode cL_law 345 = .ok (.iconst 1, 1) := by decide +kernel
theorem dL_law_346 : decode cL_law 346 = .ok (.iadd, 1) := by decide +kernel
theorem dL_law_347 : decode cL_law 347 = .ok (.iaload, 1) := by decide +kernel
theorem dL_law_348 : decode cL_law 348 = .ok (.invokevirtual 46, 3) := by decide +kernel
theorem dL_law_351 : decode cL_law 351 = .ok (.if_icmp .eq 335, 3) := by decide +kernel
theorem dL_law_354 : decode cL_law 354 = .ok (.iconst 0, 1) := by decide +kernel
theorem dL_law_355 : decode cL_law 355 = .ok (.ireturn, 1) := by decide +kernel
theorem dL_law_356 : decode cL_law 356 = .ok (.aload_n 1, 1) := by decide +kernel
theorem dL_law_357 : decode cL_law 357 = .ok (.aload_n 0, 1) := by decide +kernel
theorem dL_law_358 : decode cL_law 358 = .ok (.iload_n 3, 1) := by decide +kernel
theorem dL_law_359 : decode cL_law 359 = .ok (.iconst 1, 1) := by decide +kernel
theorem dL_law_360 : decode cL_law 360 = .ok (.iadd, 1) := by decide +kernel
theorem dL_law_361 : decode cL_law 361 = .ok (.iaload, 1) := by decide +kernel
theorem dL_law_362 : decode cL_law 362 = .ok (.invokevirtual 47, 3) := by decide +kernel
theorem dL_law_365 : decode cL_law 365 = .ok (.aload_n 2, 1) := by decide +kernel
theorem dL_law_366 : decode cL_law 366 = .ok (.aload_n 0, 1) := by decide +kernel
theorem dL_law_367 : decode cL_law 367 = .ok (.iload_n 3, 1) := by decide +kernel
theorem dL_law_368 : decode cL_law 368 = .ok (.iconst 1, 1) := by decide +kernel
theorem dL_law_369 : decode cL_law 369 = .ok (.iadd, 1) := by decide +kernel
theorem dL_law_370 : decode cL_law 370 = .ok (.iaload, 1) := by decide +kernel
theorem dL_law_371 : decode cL_law 371 = .ok (.invokevirtual 50, 3) := by decide +kernel
theorem dL_law_374 : decode cL_law 374 = .ok (.if_icmp .eq 312, 3) := by decide +kernel
theorem dL_law_377 : decode cL_law 377 = .ok (.iconst 0, 1) := by decide +kernel
theorem dL_law_378 : decode cL_law 378 = .ok (.ireturn, 1) := by decide +kernel
theorem dL_law_379 : decode cL_law 379 = .ok (.aload_n 1, 1) := by decide +kernel
theorem dL_law_380 : decode cL_law 380 = .ok (.aload_n 0, 1) := by decide +kernel
theorem dL_law_381 : decode cL_law 381 = .ok (.iload_n 3, 1) := by decide +kernel
theorem dL_law_382 : decode cL_law 382 = .ok (.iconst 1, 1) := by decide +kernel
theorem dL_law_383 : decode cL_law 383 = .ok (.iadd, 1) := by decide +kernel
theorem dL_law_384 : decode cL_law 384 = .ok (.iaload, 1) := by decide +kernel
theorem dL_law_385 : decode cL_law 385 = .ok (.aload_n 0, 1) := by decide +kernel
theorem dL_law_386 : decode cL_law 386 = .ok (.iload_n 3, 1) := by decide +kernel
theorem dL_law_387 : decode cL_law 387 = .ok (.iconst 2, 1) := by decide +kernel
theorem dL_law_388 : decode cL_law 388 = .ok (.iadd, 1) := by decide +kernel
theorem dL_law_389 : decode cL_law 389 = .ok (.iaload, 1) := by decide +kernel
theorem dL_law_390 : decode cL_law 390 = .ok (.invokevirtual 51, 3) := by decide +kernel
theorem dL_law_393 : decode cL_law 393 = .ok (.aload_n 2, 1) := by decide +kernel
theorem dL_law_394 : decode cL_law 394 = .ok (.aload_n 0, 1) := by decide +kernel
theorem dL_law_395 : decode cL_law 395 = .ok (.iload_n 3, 1) := by decide +kernel
theorem dL_law_396 : decode cL_law 396 = .ok (.iconst 1, 1) := by decide +kernel
theorem dL_law_397 : decode cL_law 397 = .ok (.iadd, 1) := by decide +kernel
theorem dL_law_398 : decode cL_law 398 = .ok (.iaload, 1) := by decide +kernel
theorem dL_law_399 : decode cL_law 399 = .ok (.aload_n 0, 1) := by decide +kernel
theorem dL_law_400 : decode cL_law 400 = .ok (.iload_n 3, 1) := by decide +kernel
theorem dL_law_401 : decode cL_law 401 = .ok (.iconst 2, 1) := by decide +kernel
theorem dL_law_402 : decode cL_law 402 = .ok (.iadd, 1) := by decide +kernel
theorem dL_law_403 : decode cL_law 403 = .ok (.iaload, 1) := by decide +kernel
theorem dL_law_404 : decode cL_law 404 = .ok (.invokevirtual 54, 3) := by decide +kernel
theorem dL_law_407 : decode cL_law 407 = .ok (.if_icmp .eq 279, 3) := by decide +kernel
theorem dL_law_410 : decode cL_law 410 = .ok (.iconst 0, 1) := by decide +kernel
theorem dL_law_411 : decode cL_law 411 = .ok (.ireturn, 1) := by decide +kernel
theorem dL_law_412 : decode cL_law 412 = .ok (.aload_n 1, 1) := by decide +kernel
theorem dL_law_413 : decode cL_law 413 = .ok (.invokevirtual 55, 3) := by decide +kernel
theorem dL_law_416 : decode cL_law 416 = .ok (.aload_n 2, 1) := by decide +kernel
theorem dL_law_417 : decode cL_law 417 = .ok (.invokevirtual 59, 3) := by decide +kernel
theorem dL_law_420 : decode cL_law 420 = .ok (.if_icmp .eq 266, 3) := by decide +kernel
theorem dL_law_423 : decode cL_law 423 = .ok (.iconst 0, 1) := by decide +kernel
theorem dL_law_424 : decode cL_law 424 = .ok (.ireturn, 1) := by decide +kernel
theorem dL_law_425 : decode cL_law 425 = .ok (.aload_n 1, 1) := by decide +kernel
theorem dL_law_426 : decode cL_law 426 = .ok (.aload_n 0, 1) := by decide +kernel
theorem dL_law_427 : decode cL_law 427 = .ok (.iload_n 3, 1) := by decide +kernel
theorem dL_law_428 : decode cL_law 428 = .ok (.iconst 1, 1) := by decide +kernel
theorem dL_law_429 : decode cL_law 429 = .ok (.iadd, 1) := by decide +kernel
theorem dL_law_430 : decode cL_law 430 = .ok (.iaload, 1) := by decide +kernel
theorem dL_law_431 : decode cL_law 431 = .ok (.aload_n 0, 1) := by decide +kernel
theorem dL_law_432 : decode cL_law 432 = .ok (.iload_n 3, 1) := by decide +kernel
theorem dL_law_433 : decode cL_law 433 = .ok (.iconst 2, 1) := by decide +kernel
theorem dL_law_434 : decode cL_law 434 = .ok (.iadd, 1) := by decide +kernel
theorem dL_law_435 : decode cL_law 435 = .ok (.iaload, 1) := by decide +kernel
theorem dL_law_436 : decode cL_law 436 = .ok (.invokevirtual 60, 3) := by decide +kernel
theorem dL_law_439 : decode cL_law 439 = .ok (.aload_n 2, 1) := by decide +kernel
theorem dL_law_440 : decode cL_law 440 = .ok (.aload_n 0, 1) := by decide +kernel
theorem dL_law_441 : decode cL_law 441 = .ok (.iload_n 3, 1) := by decide +kernel
theorem dL_law_442 : decode cL_law 442 = .ok (.iconst 1, 1) := by decide +kernel
theorem dL_law_443 : decode cL_law 443 = .ok (.iadd, 1) := by decide +kernel
theorem dL_law_444 : decode cL_law 444 = .ok (.iaload, 1) := by decide +kernel
theorem dL_law_445 : decode cL_law 445 = .ok (.aload_n 0, 1) := by decide +kernel
theorem dL_law_446 : decode cL_law 446 = .ok (.iload_n 3, 1) := by decide +kernel
theorem dL_law_447 : decode cL_law 447 = .ok (.iconst 2, 1) := by decide +kernel
theorem dL_law_448 : decode cL_law 448 = .ok (.iadd, 1) := by decide +kernel
theorem dL_law_449 : decode cL_law 449 = .ok (.iaload, 1) := by decide +kernel
theorem dL_law_450 : decode cL_law 450 = .ok (.invokevirtual 63, 3) := by decide +kernel
theorem dL_law_453 : decode cL_law 453 = .ok (.if_icmp .eq 233, 3) := by decide +kernel
theorem dL_law_456 : decode cL_law 456 = .ok (.iconst 0, 1) := by decide +kernel
theorem dL_law_457 : decode cL_law 457 = .ok (.ireturn, 1) := by decide +kernel
theorem dL_law_458 : decode cL_law 458 = .ok (.aload_n 1, 1) := by decide +kernel
theorem dL_law_459 : decode cL_law 459 = .ok (.aload_n 0, 1) := by decide +kernel
theorem dL_law_460 : decode cL_law 460 = .ok (.iload_n 3, 1) := by decide +kernel
theorem dL_law_461 : decode cL_law 461 = .ok (.iconst 1, 1) := by decide +kernel
theorem dL_law_462 : decode cL_law 462 = .ok (.iadd, 1) := by decide +kernel
theorem dL_law_463 : decode cL_law 463 = .ok (.iaload, 1) := by decide +kernel
theorem dL_law_464 : decode cL_law 464 = .ok (.invokevirtual 64, 3) := by decide +kernel
theorem dL_law_467 : decode cL_law 467 = .ok (.aload_n 2, 1) := by decide +kernel
theorem dL_law_468 : decode cL_law 468 = .ok (.aload_n 0, 1) := by decide +kernel
theorem dL_law_469 : decode cL_law 469 = .ok (.iload_n 3, 1) := by decide +kernel
theorem dL_law_470 : decode cL_law 470 = .ok (.iconst 1, 1) := by decide +kernel
theorem dL_law_471 : decode cL_law 471 = .ok (.iadd, 1) := by decide +kernel
theorem dL_law_472 : decode cL_law 472 = .ok (.iaload, 1) := by decide +kernel
theorem dL_law_473 : decode cL_law 473 = .ok (.invokevirtual 67, 3) := by decide +kernel
theorem dL_law_476 : decode cL_law 476 = .ok (.if_icmp .eq 210, 3) := by decide +kernel
theorem dL_law_479 : decode cL_law 479 = .ok (.iconst 0, 1) := by decide +kernel
theorem dL_law_480 : decode cL_law 480 = .ok (.ireturn, 1) := by decide +kernel
theorem dL_law_481 : decode cL_law 481 = .ok (.aload_n 1, 1) := by decide +kernel
theorem dL_law_482 : decode cL_law 482 = .ok (.aload_n 0, 1) := by decide +kernel
theorem dL_law_483 : decode cL_law 483 = .ok (.iload_n 3, 1) := by decide +kernel
theorem dL_law_484 : decode cL_law 484 = .ok (.iconst 1, 1) := by decide +kernel
theorem dL_law_485 : decode cL_law 485 = .ok (.iadd, 1) := by decide +kernel
theorem dL_law_486 : decode cL_law 486 = .ok (.iaload, 1) := by decide +kernel
theorem dL_law_487 : decode cL_law 487 = .ok (.invokevirtual 68, 3) := by decide +kernel
theorem dL_law_490 : decode cL_law 490 = .ok (.aload_n 2, 1) := by decide +kernel
theorem dL_law_491 : decode cL_law 491 = .ok (.aload_n 0, 1) := by decide +kernel
theorem dL_law_492 : decode cL_law 492 = .ok (.iload_n 3, 1) := by decide +kernel
theorem dL_law_493 : decode cL_law 493 = .ok (.iconst 1, 1) := by decide +kernel
theorem dL_law_494 : decode cL_law 494 = .ok (.iadd, 1) := by decide +kernel
theorem dL_law_495 : decode cL_law 495 = .ok (.iaload, 1) := by decide +kernel
theorem dL_law_496 : decode cL_law 496 = .ok (.invokevirtual 72, 3) := by decide +kernel
theorem dL_law_499 : decode cL_law 499 = .ok (.lcmp, 1) := by decide +kernel
theorem dL_law_500 : decode cL_law 500 = .ok (.ifCond .eq 186, 3) := by decide +kernel
theorem dL_law_503 : decode cL_law 503 = .ok (.iconst 0, 1) := by decide +kernel
theorem dL_law_504 : decode cL_law 504 = .ok (.ireturn, 1) := by decide +kernel
theorem dL_law_505 : decode cL_law 505 = .ok (.aload_n 1, 1) := by decide +kernel
theorem dL_law_506 : decode cL_law 506 = .ok (.invokevirtual 73, 3) := by decide +kernel
theorem dL_law_509 : decode cL_law 509 = .ok (.aload_n 2, 1) := by decide +kernel
theorem dL_law_510 : decode cL_law 510 = .ok (.invokevirtual 76, 3) := by decide +kernel
theorem dL_law_513 : decode cL_law 513 = .ok (.if_icmp .eq 173, 3) := by decide +kernel
theorem dL_law_516 : decode cL_law 516 = .ok (.iconst 0, 1) := by decide +kernel
theorem dL_law_517 : decode cL_law 517 = .ok (.ireturn, 1) := by decide +kernel
theorem dL_law_518 : decode cL_law 518 = .ok (.aload_n 1, 1) := by decide +kernel
theorem dL_law_519 : decode cL_law 519 = .ok (.aload_n 0, 1) := by decide +kernel
theorem dL_law_520 : decode cL_law 520 = .ok (.iload_n 3, 1) := by decide +kernel
theorem dL_law_521 : decode cL_law 521 = .ok (.iconst 1, 1) := by decide +kernel
theorem dL_law_522 : decode cL_law 522 = .ok (.iadd, 1) := by decide +kernel
theorem dL_law_523 : decode cL_law 523 = .ok (.iaload, 1) := by decide +kernel
theorem dL_law_524 : decode cL_law 524 = .ok (.aload_n 0, 1) := by decide +kernel
theorem dL_law_525 : decode cL_law 525 = .ok (.iload_n 3, 1) := by decide +kernel
theorem dL_law_526 : decode cL_law 526 = .ok (.iconst 2, 1) := by decide +kernel
theorem dL_law_527 : decode cL_law 527 = .ok (.iadd, 1) := by decide +kernel
theorem dL_law_528 : decode cL_law 528 = .ok (.iaload, 1) := by decide +kernel
theorem dL_law_529 : decode cL_law 529 = .ok (.invokevirtual 77, 3) := by decide +kernel
theorem dL_law_532 : decode cL_law 532 = .ok (.aload_n 2, 1) := by decide +kernel
theorem dL_law_533 : decode cL_law 533 = .ok (.aload_n 0, 1) := by decide +kernel
theorem dL_law_534 : decode cL_law 534 = .ok (.iload_n 3, 1) := by decide +kernel
theorem dL_law_535 : decode cL_law 535 = .ok (.iconst 1, 1) := by decide +kernel
theorem dL_law_536 : decode cL_law 536 = .ok (.iadd, 1) := by decide +kernel
theorem dL_law_537 : decode cL_law 537 = .ok (.iaload, 1) := by decide +kernel
theorem dL_law_538 : decode cL_law 538 = .ok (.aload_n 0, 1) := by decide +kernel
theorem dL_law_539 : decode cL_law 539 = .ok (.iload_n 3, 1) := by decide +kernel
theorem dL_law_540 : decode cL_law 540 = .ok (.iconst 2, 1) := by decide +kernel
theorem dL_law_541 : decode cL_law 541 = .ok (.iadd, 1) := by decide +kernel
theorem dL_law_542 : decode cL_law 542 = .ok (.iaload, 1) := by decide +kernel
theorem dL_law_543 : decode cL_law 543 = .ok (.invokevirtual 80, 3) := by decide +kernel
theorem dL_law_546 : decode cL_law 546 = .ok (.if_icmp .eq 140, 3) := by decide +kernel
theorem dL_law_549 : decode cL_law 549 = .ok (.iconst 0, 1) := by decide +kernel
theorem dL_law_550 : decode cL_law 550 = .ok (.ireturn, 1) := by decide +kernel
theorem dL_law_551 : decode cL_law 551 = .ok (.aload_n 1, 1) := by decide +kernel
theorem dL_law_552 : decode cL_law 552 = .ok (.aload_n 0, 1) := by decide +kernel
theorem dL_law_553 : decode cL_law 553 = .ok (.iload_n 3, 1) := by decide +kernel
theorem dL_law_554 : decode cL_law 554 = .ok (.iconst 1, 1) := by decide +kernel
theorem dL_law_555 : decode cL_law 555 = .ok (.iadd, 1) := by decide +kernel
theorem dL_law_556 : decode cL_law 556 = .ok (.iaload, 1) := by decide +kernel
theorem dL_law_557 : decode cL_law 557 = .ok (.aload_n 0, 1) := by decide +kernel
theorem dL_law_558 : decode cL_law 558 = .ok (.iload_n 3, 1) := by decide +kernel
theorem dL_law_559 : decode cL_law 559 = .ok (.iconst 2, 1) := by decide +kernel
theorem dL_law_560 : decode cL_law 560 = .ok (.iadd, 1) := by decide +kernel
theorem dL_law_561 : decode cL_law 561 = .ok (.iaload, 1) := by decide +kernel
theorem dL_law_562 : decode cL_law 562 = .ok (.invokevirtual 81, 3) := by decide +kernel
theorem dL_law_565 : decode cL_law 565 = .ok (.aload_n 2, 1) := by decide +kernel
theorem dL_law_566 : decode cL_law 566 = .ok (.aload_n 0, 1) := by decide +kernel
theorem dL_law_567 : decode cL_law 567 = .ok (.iload_n 3, 1) := by decide +kernel
theorem dL_law_568 : decode cL_law 568 = .ok (.iconst 1, 1) := by decide +kernel
theorem dL_law_569 : decode cL_law 569 = .ok (.iadd, 1) := by decide +kernel
theorem dL_law_570 : decode cL_law 570 = .ok (.iaload, 1) := by decide +kernel
theorem dL_law_571 : decode cL_law 571 = .ok (.aload_n 0, 1) := by decide +kernel
theorem dL_law_572 : decode cL_law 572 = .ok (.iload_n 3, 1) := by decide +kernel
theorem dL_law_573 : decode cL_law 573 = .ok (.iconst 2, 1) := by decide +kernel
theorem dL_law_574 : decode cL_law 574 = .ok (.iadd, 1) := by decide +kernel
theorem dL_law_575 : decode cL_law 575 = .ok (.iaload, 1) := by decide +kernel
theorem dL_law_576 : decode cL_law 576 = .ok (.invokevirtual 84, 3) := by decide +kernel
theorem dL_law_579 : decode cL_law 579 = .ok (.if_icmp .eq 107, 3) := by decide +kernel
theorem dL_law_582 : decode cL_law 582 = .ok (.iconst 0, 1) := by decide +kernel
theorem dL_law_583 : decode cL_law 583 = .ok (.ireturn, 1) := by decide +kernel
theorem dL_law_584 : decode cL_law 584 = .ok (.aload_n 1, 1) := by decide +kernel
theorem dL_law_585 : decode cL_law 585 = .ok (.aload_n 0, 1) := by decide +kernel
theorem dL_law_586 : decode cL_law 586 = .ok (.iload_n 3, 1) := by decide +kernel
theorem dL_law_587 : decode cL_law 587 = .ok (.iconst 1, 1) := by decide +kernel
theorem dL_law_588 : decode cL_law 588 = .ok (.iadd, 1) := by decide +kernel
theorem dL_law_589 : decode cL_law 589 = .ok (.iaload, 1) := by decide +kernel
theorem dL_law_590 : decode cL_law 590 = .ok (.aload_n 0, 1) := by decide +kernel
theorem dL_law_591 : decode cL_law 591 = .ok (.iload_n 3, 1) := by decide +kernel
theorem dL_law_592 : decode cL_law 592 = .ok (.iconst 2, 1) := by decide +kernel
theorem dL_law_593 : decode cL_law 593 = .ok (.iadd, 1) := by decide +kernel
theorem dL_law_594 : decode cL_law 594 = .ok (.iaload, 1) := by decide +kernel
theorem dL_law_595 : decode cL_law 595 = .ok (.invokevirtual 85, 3) := by decide +kernel
theorem dL_law_598 : decode cL_law 598 = .ok (.aload_n 2, 1) := by decide +kernel
theorem dL_law_599 : decode cL_law 599 = .ok (.aload_n 0, 1) := by decide +kernel
theorem dL_law_600 : decode cL_law 600 = .ok (.iload_n 3, 1) := by decide +kernel
theorem dL_law_601 : decode cL_law 601 = .ok (.iconst 1, 1) := by decide +kernel
theorem dL_law_602 : decode cL_law 602 = .ok (.iadd, 1) := by decide +kernel
theorem dL_law_603 : decode cL_law 603 = .ok (.iaload, 1) := by decide +kernel
theorem dL_law_604 : decode cL_law 604 = .ok (.aload_n 0, 1) := by decide +kernel
theorem dL_law_605 : decode cL_law 605 = .ok (.iload_n 3, 1) := by decide +kernel
theorem dL_law_606 : decode cL_law 606 = .ok (.iconst 2, 1) := by decide +kernel
theorem dL_law_607 : decode cL_law 607 = .ok (.iadd, 1) := by decide +kernel
theorem dL_law_608 : decode cL_law 608 = .ok (.iaload, 1) := by decide +kernel
theorem dL_law_609 : decode cL_law 609 = .ok (.invokevirtual 88, 3) := by decide +kernel
theorem dL_law_612 : decode cL_law 612 = .ok (.if_icmp .eq 74, 3) := by decide +kernel
theorem dL_law_615 : decode cL_law 615 = .ok (.iconst 0, 1) := by decide +kernel
theorem dL_law_616 : decode cL_law 616 = .ok (.ireturn, 1) := by decide +kernel
theorem dL_law_617 : decode cL_law 617 = .ok (.aload_n 1, 1) := by decide +kernel
theorem dL_law_618 : decode cL_law 618 = .ok (.aload_n 0, 1) := by decide +kernel
theorem dL_law_619 : decode cL_law 619 = .ok (.iload_n 3, 1) := by decide +kernel
theorem dL_law_620 : decode cL_law 620 = .ok (.iconst 1, 1) := by decide +kernel
theorem dL_law_621 : decode cL_law 621 = .ok (.iadd, 1) := by decide +kernel
theorem dL_law_622 : decode cL_law 622 = .ok (.iaload, 1) := by decide +kernel
theorem dL_law_623 : decode cL_law 623 = .ok (.invokevirtual 89, 3) := by decide +kernel
theorem dL_law_626 : decode cL_law 626 = .ok (.aload_n 2, 1) := by decide +kernel
theorem dL_law_627 : decode cL_law 627 = .ok (.aload_n 0, 1) := by decide +kernel
theorem dL_law_628 : decode cL_law 628 = .ok (.iload_n 3, 1) := by decide +kernel
theorem dL_law_629 : decode cL_law 629 = .ok (.iconst 1, 1) := by decide +kernel
theorem dL_law_630 : decode cL_law 630 = .ok (.iadd, 1) := by decide +kernel
theorem dL_law_631 : decode cL_law 631 = .ok (.iaload, 1) := by decide +kernel
theorem dL_law_632 : decode cL_law 632 = .ok (.invokevirtual 92, 3) := by decide +kernel
theorem dL_law_635 : decode cL_law 635 = .ok (.if_icmp .eq 51, 3) := by decide +kernel
theorem dL_law_638 : decode cL_law 638 = .ok (.iconst 0, 1) := by decide +kernel
theorem dL_law_639 : decode cL_law 639 = .ok (.ireturn, 1) := by decide +kernel
theorem dL_law_640 : decode cL_law 640 = .ok (.aload_n 1, 1) := by decide +kernel
theorem dL_law_641 : decode cL_law 641 = .ok (.aload_n 0, 1) := by decide +kernel
theorem dL_law_642 : decode cL_law 642 = .ok (.iload_n 3, 1) := by decide +kernel
theorem dL_law_643 : decode cL_law 643 = .ok (.iconst 1, 1) := by decide +kernel
theorem dL_law_644 : decode cL_law 644 = .ok (.iadd, 1) := by decide +kernel
theorem dL_law_645 : decode cL_law 645 = .ok (.iaload, 1) := by decide +kernel
theorem dL_law_646 : decode cL_law 646 = .ok (.invokevirtual 93, 3) := by decide +kernel
theorem dL_law_649 : decode cL_law 649 = .ok (.aload_n 2, 1) := by decide +kernel
theorem dL_law_650 : decode cL_law 650 = .ok (.aload_n 0, 1) := by decide +kernel
theorem dL_law_651 : decode cL_law 651 = .ok (.iload_n 3, 1) := by decide +kernel
theorem dL_law_652 : decode cL_law 652 = .ok (.iconst 1, 1) := by decide +kernel
theorem dL_law_653 : decode cL_law 653 = .ok (.iadd, 1) := by decide +kernel
theorem dL_law_654 : decode cL_law 654 = .ok (.iaload, 1) := by decide +kernel
theorem dL_law_655 : decode cL_law 655 = .ok (.invokevirtual 96, 3) := by decide +kernel
theorem dL_law_658 : decode cL_law 658 = .ok (.if_icmp .eq 28, 3) := by decide +kernel
theorem dL_law_661 : decode cL_law 661 = .ok (.iconst 0, 1) := by decide +kernel
theorem dL_law_662 : decode cL_law 662 = .ok (.ireturn, 1) := by decide +kernel
theorem dL_law_663 : decode cL_law 663 = .ok (.aload_n 1, 1) := by decide +kernel
theorem dL_law_664 : decode cL_law 664 = .ok (.aload_n 0, 1) := by decide +kernel
theorem dL_law_665 : decode cL_law 665 = .ok (.iload_n 3, 1) := by decide +kernel
theorem dL_law_666 : decode cL_law 666 = .ok (.iconst 1, 1) := by decide +kernel
theorem dL_law_667 : decode cL_law 667 = .ok (.iadd, 1) := by decide +kernel
theorem dL_law_668 : decode cL_law 668 = .ok (.iaload, 1) := by decide +kernel
theorem dL_law_669 : decode cL_law 669 = .ok (.invokevirtual 97, 3) := by decide +kernel
theorem dL_law_672 : decode cL_law 672 = .ok (.aload_n 2, 1) := by decide +kernel
theorem dL_law_673 : decode cL_law 673 = .ok (.aload_n 0, 1) := by decide +kernel
theorem dL_law_674 : decode cL_law 674 = .ok (.iload_n 3, 1) := by decide +kernel
theorem dL_law_675 : decode cL_law 675 = .ok (.iconst 1, 1) := by decide +kernel
theorem dL_law_676 : decode cL_law 676 = .ok (.iadd, 1) := by decide +kernel
theorem dL_law_677 : decode cL_law 677 = .ok (.iaload, 1) := by decide +kernel
theorem dL_law_678 : decode cL_law 678 = .ok (.invokevirtual 100, 3) := by decide +kernel
theorem dL_law_681 : decode cL_law 681 = .ok (.if_icmp .eq 5, 3) := by decide +kernel
theorem dL_law_684 : decode cL_law 684 = .ok (.iconst 0, 1) := by decide +kernel
theorem dL_law_685 : decode cL_law 685 = .ok (.ireturn, 1) := by decide +kernel
theorem dL_law_686 : decode cL_law 686 = .ok (.iinc 3 3, 3) := by decide +kernel
theorem dL_law_689 : decode cL_law 689 = .ok (.goto (-671), 3) := by decide +kernel
theorem dL_law_692 : decode cL_law 692 = .ok (.iconst 1, 1) := by decide +kernel
theorem dL_law_693 : decode cL_law 693 = .ok (.ireturn, 1) := by decide +kernel
