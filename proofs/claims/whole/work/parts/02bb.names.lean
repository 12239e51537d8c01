theorem dX2_plans_15 : decode cX2_plans 15 = .ok (.iload_n 1, 1) := by decide +kernel
theorem dX2_plans_16 : decode cX2_plans 16 = .ok (.bipush 22, 2) := by decide +kernel
theorem dX2_plans_18 : decode cX2_plans 18 = .ok (.if_icmp .lt 7, 3) := by decide +kernel
theorem dX2_plans_21 : decode cX2_plans 21 = .ok (.ldc2_w 115, 3) := by decide +kernel
theorem dX2_plans_24 : decode cX2_plans 24 = .ok (.lreturn, 1) := by decide +kernel
theorem dX2_plans_25 : decode cX2_plans 25 = .ok (.aload_n 0, 1) := by decide +kernel
theorem dX2_plans_26 : decode cX2_plans 26 = .ok (.getfield 27, 3) := by decide +kernel
theorem dX2_plans_29 : decode cX2_plans 29 = .ok (.aload_n 0, 1) := by decide +kernel
theorem dX2_plans_30 : decode cX2_plans 30 = .ok (.getfield 12, 3) := by decide +kernel
theorem dX2_plans_33 : decode cX2_plans 33 = .ok (.invokevirtual 99, 3) := by decide +kernel
theorem dX2_plans_36 : decode cX2_plans 36 = .ok (.iload_n 1, 1) := by decide +kernel
theorem dX2_plans_37 : decode cX2_plans 37 = .ok (.ifCond .ne 11, 3) := by decide +kernel
theorem dX2_plans_40 : decode cX2_plans 40 = .ok (.aload_n 0, 1) := by decide +kernel
theorem dX2_plans_41 : decode cX2_plans 41 = .ok (.getfield 27, 3) := by decide +kernel
theorem dX2_plans_44 : decode cX2_plans 44 = .ok (.invokevirtual 117, 3) := by decide +kernel
theorem dX2_plans_47 : decode cX2_plans 47 = .ok (.lreturn, 1) := by decide +kernel
theorem dX2_plans_48 : decode cX2_plans 48 = .ok (.iload_n 1, 1) := by decide +kernel
theorem dX2_plans_49 : decode cX2_plans 49 = .ok (.iconst 1, 1) := by decide +kernel
theorem dX2_plans_50 : decode cX2_plans 50 = .ok (.if_icmp .ne 11, 3) := by decide +kernel
theorem dX2_plans_53 : decode cX2_plans 53 = .ok (.aload_n 0, 1) := by decide +kernel
theorem dX2_plans_54 : decode cX2_plans 54 = .ok (.getfield 27, 3) := by decide +kernel
theorem dX2_plans_57 : decode cX2_plans 57 = .ok (.invokevirtual 121, 3) := by decide +kernel
theorem dX2_plans_60 : decode cX2_plans 60 = .ok (.lreturn, 1) := by decide +kernel
theorem dX2_plans_61 : decode cX2_plans 61 = .ok (.iload_n 1, 1) := by decide +kernel
theorem dX2_plans_62 : decode cX2_plans 62 = .ok (.bipush 10, 2) := by decide +kernel
theorem dX2_plans_64 : decode cX2_plans 64 = .ok (.isub, 1) := by decide +kernel
theorem dX2_plans_65 : decode cX2_plans 65 = .ok (.istore_n 2, 1) := by decide +kernel
theorem dX2_plans_66 : decode cX2_plans 66 = .ok (.aload_n 0, 1) := by decide +kernel
theorem dX2_plans_67 : decode cX2_plans 67 = .ok (.iload_n 2, 1) := by decide +kernel
theorem dX2_plans_68 : decode cX2_plans 68 = .ok (.invokevirtual 93, 3) := by decide +kernel
theorem dX2_plans_71 : decode cX2_plans 71 = .ok (.ifCond .eq 29, 3) := by decide +kernel
theorem dX2_plans_74 : decode cX2_plans 74 = .ok (.aload_n 0, 1) := by decide +kernel
theorem dX2_plans_75 : decode cX2_plans 75 = .ok (.getfield 27, 3) := by decide +kernel
theorem dX2_plans_78 : decode cX2_plans 78 = .ok (.invokevirtual 103, 3) := by decide +kernel
theorem dX2_plans_81 : decode cX2_plans 81 = .ok (.ifCond .eq 19, 3) := by decide +kernel
theorem dX2_plans_84 : decode cX2_plans 84 = .ok (.aload_n 0, 1) := by decide +kernel
theorem dX2_plans_85 : decode cX2_plans 85 = .ok (.getfield 27, 3) := by decide +kernel
theorem dX2_plans_88 : decode cX2_plans 88 = .ok (.aload_n 0, 1) := by decide +kernel
theorem dX2_plans_89 : decode cX2_plans 89 = .ok (.getfield 12, 3) := by decide +kernel
theorem dX2_plans_92 : decode cX2_plans 92 = .ok (.iload_n 2, 1) := by decide +kernel
theorem dX2_plans_93 : decode cX2_plans 93 = .ok (.invokevirtual 124, 3) := by decide +kernel
theorem dX2_plans_96 : decode cX2_plans 96 = .ok (.i2l, 1) := by decide +kernel
theorem dX2_plans_97 : decode cX2_plans 97 = .ok (.goto 6, 3) := by decide +kernel
theorem dX2_plans_100 : decode cX2_plans 100 = .ok (.ldc2_w 127, 3) := by decide +kernel
theorem dX2_plans_103 : decode cX2_plans 103 = .ok (.lreturn, 1) := by decide +kernel
set_option maxRecDepth 20000 in
theorem ggX2_dumb_X1_gatherWays : GoodIn wsX2_dumb wsX1_gatherWays := goodIn_r _ [9, 10, 11, 12, 13, 14, 15, 16, 17, 8, 18, 19, 20, 21, 22, 23, 24, 25, 26, 27, 28, 29, 30, 31, 32, 33, 34, 35, 44, 45, 46, 47, 48] (by decide +kernel) (by decide +kernel)
set_option maxRecDepth 20000 in
theorem gX2_dumb_X1_gatherWays : GoodIn wsX2_dumb (wsV RX2 77 RX1 yX1_gatherWays wsX1_gatherWays) := goodIn_app (goodIn_of _ (by decide +kernel)) ggX2_dumb_X1_gatherWays
theorem dX2_dumb_0 : decode cX2_dumb 0 = .ok (.iconst 0, 1) := by decide +kernel
theorem dX2_dumb_1 : decode cX2_dumb 1 = .ok (.istore_n 1, 1) := by decide +kernel
theorem dX2_dumb_2 : decode cX2_dumb 2 = .ok (.iload_n 1, 1) := by decide +kernel
theorem dX2_dumb_3 : decode cX2_dumb 3 = .ok (.aload_n 0, 1) := by decide +kernel
theorem dX2_dumb_4 : decode cX2_dumb 4 = .ok (.getfield 12, 3) := by decide +kernel
theorem dX2_dumb_7 : decode cX2_dumb 7 = .ok (.getfield 87, 3) := by decide +kernel
theorem dX2_dumb_10 : decode cX2_dumb 10 = .ok (.if_icmp .ge 35, 3) := by decide +kernel
theorem dX2_dumb_13 : decode cX2_dumb 13 = .ok (.aload_n 0, 1) := by decide +kernel
theorem dX2_dumb_14 : decode cX2_dumb 14 = .ok (.getfield 12, 3) := by decide +kernel
theorem dX2_dumb_17 : decode cX2_dumb 17 = .ok (.aload_n 0, 1) := by decide +kernel
theorem dX2_dumb_18 : decode cX2_dumb 18 = .ok (.getfield 12, 3) := by decide +kernel
theorem dX2_dumb_21 : decode cX2_dumb 21 = .ok (.getfield 90, 3) := by decide +kernel
theorem dX2_dumb_24 : decode cX2_dumb 24 = .ok (.iload_n 1, 1) := by decide +kernel
theorem dX2_dumb_25 : decode cX2_dumb 25 = .ok (.iaload, 1) := by decide +kernel
theorem dX2_dumb_26 : decode cX2_dumb 26 = .ok (.aload_n 0, 1) := by decide +kernel
theorem dX2_dumb_27 : decode cX2_dumb 27 = .ok (.getfield 31, 3) := by decide +kernel
theorem dX2_dumb_30 : decode cX2_dumb 30 = .ok (.iconst 0, 1) := by decide +kernel
theorem dX2_dumb_31 : decode cX2_dumb 31 = .ok (.invokevirtual 77, 3) := by decide +kernel
theorem dX2_dumb_34 : decode cX2_dumb 34 = .ok (.ifCond .ne 5, 3) := by decide +kernel
theorem dX2_dumb_37 : decode cX2_dumb 37 = .ok (.iload_n 1, 1) := by decide +kernel
theorem dX2_dumb_38 : decode cX2_dumb 38 = .ok (.ireturn, 1) := by decide +kernel
theorem dX2_dumb_39 : decode cX2_dumb 39 = .ok (.iinc 1 1, 3) := by decide +kernel
theorem dX2_dumb_42 : decode cX2_dumb 42 = .ok (.goto (-40), 3) := by decide +kernel
theorem dX2_dumb_45 : decode cX2_dumb 45 = .ok (.bipush (-6), 2) := by decide +kernel
theorem dX2_dumb_47 : decode cX2_dumb 47 = .ok (.ireturn, 1) := by decide +kernel
set_option maxRecDepth 20000 in
theorem ggX2_trill_X2_isNote : GoodIn wsX2_trill wsX2_isNote := goodIn_r _ [4] (by decide +kernel) (by decide +kernel)
set_option maxRecDepth 20000 in
theorem gX2_trill_X2_isNote : GoodIn wsX2_trill (va_wsS RX2 70 yX2_isNote wsX2_isNote) := goodIn_app (goodIn_of _ (by decide +kernel)) ggX2_trill_X2_isNote
set_option maxRecDepth 20000 in
theorem ggX2_trill_X2_leastMotion : GoodIn wsX2_trill wsX2_leastMotion := goodIn_r _ [8, 9, 10, 11, 12, 13, 14, 15, 16, 17, 18, 19, 20, 21, 22, 23, 24, 25, 26, 27, 28, 29, 30, 31, 32, 33, 34, 35, 36, 37, 38, 39, 40, 41, 42, 43, 44, 3, 45, 46, 47, 48, 49, 50, 51, 52, 53, 54, 55, 56, 57, 58, 59, 60, 61, 62, 63, 64, 65, 66, 67, 68, 69] (by decide +kernel) (by decide +kernel)
set_option maxRecDepth 20000 in
theorem gX2_trill_X2_leastMotion : GoodIn wsX2_trill (wsV RX2 129 RX2 yX2_leastMotion wsX2_leastMotion) := goodIn_app (goodIn_of _ (by decide +kernel)) ggX2_trill_X2_leastMotion
theorem dX2_trill_0 : decode cX2_trill 0 = .ok (.iload_n 1, 1) := by decide +kernel
theorem dX2_trill_1 : decode cX2_trill 1 = .ok (.invokestatic 70, 3) := by decide +kernel
theorem dX2_trill_4 : decode cX2_trill 4 = .ok (.ifCond .eq 19, 3) := by decide +kernel
theorem dX2_trill_7 : decode cX2_trill 7 = .ok (.iload_n 2, 1) := by decide +kernel
theorem dX2_trill_8 : decode cX2_trill 8 = .ok (.invokestatic 70, 3) := by decide +kernel
theorem dX2_trill_11 : decode cX2_trill 11 = .ok (.ifCond .eq 12, 3) := by decide +kernel
theorem dX2_trill_14 : decode cX2_trill 14 = .ok (.aload_n 0, 1) := by decide +kernel
theorem dX2_trill_15 : decode cX2_trill 15 = .ok (.iload_n 1, 1) := by decide +kernel
theorem dX2_trill_16 : decode cX2_trill 16 = .ok (.iload_n 2, 1) := by decide +kernel
theorem dX2_trill_17 : decode cX2_trill 17 = .ok (.invokevirtual 129, 3) := by decide +kernel
theorem dX2_trill_20 : decode cX2_trill 20 = .ok (.goto 5, 3) := by decide +kernel
theorem dX2_trill_23 : decode cX2_trill 23 = .ok (.bipush (-2), 2) := by decide +kernel
theorem dX2_trill_25 : decode cX2_trill 25 = .ok (.ireturn, 1) := by decide +kernel
set_option maxRecDepth 20000 in
theorem ggX2_awkward_X2_leastMotion : GoodIn wsX2_awkward wsX2_leastMotion := goodIn_r _ [5, 6, 7, 8, 9, 10, 11, 12, 13, 14, 15, 16, 17, 18, 19, 20, 21, 22, 23, 24, 25, 26, 27, 28, 29, 30, 31, 32, 33, 34, 35, 36, 37, 38, 39, 40, 41, 4, 42, 43, 44, 45, 46, 47, 48, 49, 50, 51, 52, 53, 54, 55, 56, 57, 58, 59, 60, 61, 62, 63, 64, 65, 66] (by decide +kernel) (by decide +kernel)
set_option maxRecDepth 20000 in
theorem gX2_awkward_X2_leastMotion : GoodIn wsX2_awkward (wsV RX2 129 RX2 yX2_leastMotion wsX2_leastMotion) := goodIn_app (goodIn_of _ (by decide +kernel)) ggX2_awkward_X2_leastMotion
theorem dX2_awkward_0 : decode cX2_awkward 0 = .ok (.iload_n 1, 1) := by decide +kernel
theorem dX2_awkward_1 : decode cX2_awkward 1 = .ok (.iconst 1, 1) := by decide +kernel
theorem dX2_awkward_2 : decode cX2_awkward 2 = .ok (.if_icmp .lt 19, 3) := by decide +kernel
theorem dX2_awkward_5 : decode cX2_awkward 5 = .ok (.iload_n 1, 1) := by decide +kernel
theorem dX2_awkward_6 : decode cX2_awkward 6 = .ok (.bipush 12, 2) := by decide +kernel
theorem dX2_awkward_8 : decode cX2_awkward 8 = .ok (.if_icmp .gt 13, 3) := by decide +kernel
theorem dX2_awkward_11 : decode cX2_awkward 11 = .ok (.iload_n 2, 1) := by decide +kernel
theorem dX2_awkward_12 : decode cX2_awkward 12 = .ok (.ifCond .lt 9, 3) := by decide +kernel
theorem dX2_awkward_15 : decode cX2_awkward 15 = .ok (.iload_n 2, 1) := by decide +kernel
theorem dX2_awkward_16 : decode cX2_awkward 16 = .ok (.bipush 99, 2) := by decide +kernel
theorem dX2_awkward_18 : decode cX2_awkward 18 = .ok (.if_icmp .le 6, 3) := by decide +kernel
theorem dX2_awkward_21 : decode cX2_awkward 21 = .ok (.bipush (-2), 2) := by decide +kernel
theorem dX2_awkward_23 : decode cX2_awkward 23 = .ok (.ireturn, 1) := by decide +kernel
theorem dX2_awkward_24 : decode cX2_awkward 24 = .ok (.iconst 0, 1) := by decide +kernel
theorem dX2_awkward_25 : decode cX2_awkward 25 = .ok (.istore_n 3, 1) := by decide +kernel
theorem dX2_awkward_26 : decode cX2_awkward 26 = .ok (.iconst 0, 1) := by decide +kernel
theorem dX2_awkward_27 : decode cX2_awkward 27 = .ok (.istore 4, 2) := by decide +kernel
theorem dX2_awkward_29 : decode cX2_awkward 29 = .ok (.iload 4, 2) := by decide +kernel
theorem dX2_awkward_31 : decode cX2_awkward 31 = .ok (.iload_n 1, 1) := by decide +kernel
theorem dX2_awkward_32 : decode cX2_awkward 32 = .ok (.iadd, 1) := by decide +kernel
theorem dX2_awkward_33 : decode cX2_awkward 33 = .ok (.bipush 37, 2) := by decide +kernel
theorem dX2_awkward_35 : decode cX2_awkward 35 = .ok (.if_icmp .ge 26, 3) := by decide +kernel
theorem dX2_awkward_38 : decode cX2_awkward 38 = .ok (.aload_n 0, 1) := by decide +kernel
theorem dX2_awkward_39 : decode cX2_awkward 39 = .ok (.iload 4, 2) := by decide +kernel
theorem dX2_awkward_41 : decode cX2_awkward 41 = .ok (.iload 4, 2) := by decide +kernel
theorem dX2_awkward_43 : decode cX2_awkward 43 = .ok (.iload_n 1, 1) := by decide +kernel
theorem dX2_awkward_44 : decode cX2_awkward 44 = .ok (.iadd, 1) := by decide +kernel
theorem dX2_awkward_45 : decode cX2_awkward 45 = .ok (.invokevirtual 129, 3) := by decide +kernel
theorem dX2_awkward_48 : decode cX2_awkward 48 = .ok (.iload_n 2, 1) := by decide +kernel
theorem dX2_awkward_49 : decode cX2_awkward 49 = .ok (.if_icmp .le 6, 3) := by decide +kernel
theorem dX2_awkward_52 : decode cX2_awkward 52 = .ok (.iinc 3 1, 3) := by decide +kernel
theorem dX2_awkward_55 : decode cX2_awkward 55 = .ok (.iinc 4 1, 3) := by decide +kernel
theorem dX2_awkward_58 : decode cX2_awkward 58 = .ok (.goto (-29), 3) := by decide +kernel
theorem dX2_awkward_61 : decode cX2_awkward 61 = .ok (.iload_n 3, 1) := by decide +kernel
theorem dX2_awkward_62 : decode cX2_awkward 62 = .ok (.ireturn, 1) := by decide +kernel
set_option maxRecDepth 20000 in
theorem ggX2_tune_X2_isValve : GoodIn wsX2_tune wsX2_isValve := goodIn_r _ [6] (by decide +kernel) (by decide +kernel)
set_option maxRecDepth 20000 in
theorem gX2_tune_X2_isValve : GoodIn wsX2_tune (va_wsS RX2 47 yX2_isValve wsX2_isValve) := goodIn_app (goodIn_of _ (by decide +kernel)) ggX2_tune_X2_isValve
set_option maxRecDepth 20000 in
theorem ggX2_tune_X2_missOfPart : GoodIn wsX2_tune wsX2_missOfPart := goodIn_r _ [10, 11, 1, 12, 13, 14, 15, 16, 17, 18, 5, 19, 20, 21, 22, 23, 24, 25, 26, 27, 28, 29, 30, 31, 32, 33, 34, 35, 36, 37, 38, 39, 40, 41, 42, 43, 44, 45] (by decide +kernel) (by decide +kernel)
set_option maxRecDepth 20000 in
theorem gX2_tune_X2_missOfPart : GoodIn wsX2_tune (wsV RX2 132 RX2 yX2_missOfPart wsX2_missOfPart) := goodIn_app (goodIn_of _ (by decide +kernel)) ggX2_tune_X2_missOfPart
theorem dX2_tune_0 : decode cX2_tune 0 = .ok (.iload_n 1, 1) := by decide +kernel
theorem dX2_tune_1 : decode cX2_tune 1 = .ok (.invokestatic 47, 3) := by decide +kernel
theorem dX2_tune_4 : decode cX2_tune 4 = .ok (.ifCond .ne 5, 3) := by decide +kernel
theorem dX2_tune_7 : decode cX2_tune 7 = .ok (.iconst (-1), 1) := by decide +kernel
theorem dX2_tune_8 : decode cX2_tune 8 = .ok (.ireturn, 1) := by decide +kernel
theorem dX2_tune_9 : decode cX2_tune 9 = .ok (.iload_n 2, 1) := by decide +kernel
theorem dX2_tune_10 : decode cX2_tune 10 = .ok (.ifCond .lt 8, 3) := by decide +kernel
theorem dX2_tune_13 : decode cX2_tune 13 = .ok (.iload_n 2, 1) := by decide +kernel
theorem dX2_tune_14 : decode cX2_tune 14 = .ok (.iconst 1, 1) := by decide +kernel
theorem dX2_tune_15 : decode cX2_tune 15 = .ok (.if_icmp .le 6, 3) := by decide +kernel
theorem dX2_tune_18 : decode cX2_tune 18 = .ok (.bipush (-2), 2) := by decide +kernel
theorem dX2_tune_20 : decode cX2_tune 20 = .ok (.ireturn, 1) := by decide +kernel
theorem dX2_tune_21 : decode cX2_tune 21 = .ok (.aload_n 0, 1) := by decide +kernel
theorem dX2_tune_22 : decode cX2_tune 22 = .ok (.getfield 12, 3) := by decide +kernel
theorem dX2_tune_25 : decode cX2_tune 25 = .ok (.getfield 44, 3) := by decide +kernel
theorem dX2_tune_28 : decode cX2_tune 28 = .ok (.iconst 1, 1) := by decide +kernel
theorem dX2_tune_29 : decode cX2_tune 29 = .ok (.if_icmp .ne 6, 3) := by decide +kernel
theorem dX2_tune_32 : decode cX2_tune 32 = .ok (.bipush (-3), 2) := by decide +kernel
theorem dX2_tune_34 : decode cX2_tune 34 = .ok (.ireturn, 1) := by decide +kernel
theorem dX2_tune_35 : decode cX2_tune 35 = .ok (.iconst 0, 1) := by decide +kernel
theorem dX2_tune_36 : decode cX2_tune 36 = .ok (.istore_n 3, 1) := by decide +kernel
theorem dX2_tune_37 : decode cX2_tune 37 = .ok (.aload_n 0, 1) := by decide +kernel
theorem dX2_tune_38 : decode cX2_tune 38 = .ok (.iload_n 1, 1) := by decide +kernel
theorem dX2_tune_39 : decode cX2_tune 39 = .ok (.iconst 0, 1) := by decide +kernel
theorem dX2_tune_40 : decode cX2_tune 40 = .ok (.invokevirtual 132, 3) := by decide +kernel
theorem dX2_tune_43 : decode cX2_tune 43 = .ok (.istore 4, 2) := by decide +kernel
theorem dX2_tune_45 : decode cX2_tune 45 = .ok (.iconst 5, 1) := by decide +kernel
theorem dX2_tune_46 : decode cX2_tune 46 = .ok (.istore 5, 2) := by decide +kernel
theorem dX2_tune_48 : decode cX2_tune 48 = .ok (.iload 5, 2) := by decide +kernel
theorem dX2_tune_50 : decode cX2_tune 50 = .ok (.sipush 400, 3) := by decide +kernel
theorem dX2_tune_53 : decode cX2_tune 53 = .ok (.if_icmp .gt 32, 3) := by decide +kernel
theorem dX2_tune_56 : decode cX2_tune 56 = .ok (.aload_n 0, 1) := by decide +kernel
theorem dX2_tune_57 : decode cX2_tune 57 = .ok (.iload_n 1, 1) := by decide +kernel
theorem dX2_tune_58 : decode cX2_tune 58 = .ok (.iload 5, 2) := by decide +kernel
theorem dX2_tune_60 : decode cX2_tune 60 = .ok (.invokevirtual 132, 3) := by decide +kernel
theorem dX2_tune_63 : decode cX2_tune 63 = .ok (.istore 6, 2) := by decide +kernel
theorem dX2_tune_65 : decode cX2_tune 65 = .ok (.iload 6, 2) := by decide +kernel
theorem dX2_tune_67 : decode cX2_tune 67 = .ok (.iload 4, 2) := by decide +kernel
theorem dX2_tune_69 : decode cX2_tune 69 = .ok (.if_icmp .ge 10, 3) := by decide +kernel
theorem dX2_tune_72 : decode cX2_tune 72 = .ok (.iload 6, 2) := by decide +kernel
theorem dX2_tune_74 : decode cX2_tune 74 = .ok (.istore 4, 2) := by decide +kernel
theorem dX2_tune_76 : decode cX2_tune 76 = .ok (.iload 5, 2) := by decide +kernel
theorem dX2_tune_78 : decode cX2_tune 78 = .ok (.istore_n 3, 1) := by decide +kernel
theorem dX2_tune_79 : decode cX2_tune 79 = .ok (.iinc 5 5, 3) := by decide +kernel
theorem dX2_tune_82 : decode cX2_tune 82 = .ok (.goto (-34), 3) := by decide +kernel
theorem dX2_tune_85 : decode cX2_tune 85 = .ok (.iload_n 2, 1) := by decide +kernel
theorem dX2_tune_86 : decode cX2_tune 86 = .ok (.ifCond .ne 7, 3) := by decide +kernel
theorem dX2_tune_89 : decode cX2_tune 89 = .ok (.iload_n 3, 1) := by decide +kernel
theorem dX2_tune_90 : decode cX2_tune 90 = .ok (.goto 5, 3) := by decide +kernel
theorem dX2_tune_93 : decode cX2_tune 93 = .ok (.iload 4, 2) := by decide +kernel
theorem dX2_tune_95 : decode cX2_tune 95 = .ok (.ireturn, 1) := by decide +kernel
set_option maxRecDepth 20000 in
theorem ggX2_image_X1_takeFrom : GoodIn wsX2_image wsX1_takeFrom := goodIn_r _ [8, 9, 10, 11, 12, 13, 14, 15, 16, 17, 26, 27, 28, 29, 30] (by decide +kernel) (by decide +kernel)
set_option maxRecDepth 20000 in
theorem gX2_image_X1_takeFrom : GoodIn wsX2_image (wsV RX2 135 RX1 yX1_takeFrom wsX1_takeFrom) := goodIn_app (goodIn_of _ (by decide +kernel)) ggX2_image_X1_takeFrom
theorem dX2_image_0 : decode cX2_image 0 = .ok (.iload_n 1, 1) := by decide +kernel
theorem dX2_image_1 : decode cX2_image 1 = .ok (.ifCond .lt 8, 3) := by decide +kernel
theorem dX2_image_4 : decode cX2_image 4 = .ok (.iload_n 1, 1) := by decide +kernel
theorem dX2_image_5 : decode cX2_image 5 = .ok (.iconst 2, 1) := by decide +kernel
theorem dX2_image_6 : decode cX2_image 6 = .ok (.if_icmp .lt 6, 3) := by decide +kernel
theorem dX2_image_9 : decode cX2_image 9 = .ok (.bipush (-2), 2) := by decide +kernel
theorem dX2_image_11 : decode cX2_image 11 = .ok (.ireturn, 1) := by decide +kernel
theorem dX2_image_12 : decode cX2_image 12 = .ok (.aload_n 0, 1) := by decide +kernel
theorem dX2_image_13 : decode cX2_image 13 = .ok (.getfield 16, 3) := by decide +kernel
theorem dX2_image_16 : decode cX2_image 16 = .ok (.iload_n 1, 1) := by decide +kernel
theorem dX2_image_17 : decode cX2_image 17 = .ok (.aaload, 1) := by decide +kernel
theorem dX2_image_18 : decode cX2_image 18 = .ok (.aload_n 0, 1) := by decide +kernel
theorem dX2_image_19 : decode cX2_image 19 = .ok (.getfield 12, 3) := by decide +kernel
theorem dX2_image_22 : decode cX2_image 22 = .ok (.invokevirtual 135, 3) := by decide +kernel
theorem dX2_image_25 : decode cX2_image 25 = .ok (.aload_n 0, 1) := by decide +kernel
theorem dX2_image_26 : decode cX2_image 26 = .ok (.dup, 1) := by decide +kernel
theorem dX2_image_27 : decode cX2_image 27 = .ok (.getfield 20, 3) := by decide +kernel
theorem dX2_image_30 : decode cX2_image 30 = .ok (.iconst 1, 1) := by decide +kernel
theorem dX2_image_31 : decode cX2_image 31 = .ok (.iload_n 1, 1) := by decide +kernel
theorem dX2_image_32 : decode cX2_image 32 = .ok (.ishl, 1) := by decide +kernel
theorem dX2_image_33 : decode cX2_image 33 = .ok (.ior, 1) := by decide +kernel
theorem dX2_image_34 : decode cX2_image 34 = .ok (.putfield 20, 3) := by decide +kernel
theorem dX2_image_37 : decode cX2_image 37 = .ok (.iconst 1, 1) := by decide +kernel
theorem dX2_image_38 : decode cX2_image 38 = .ok (.ireturn, 1) := by decide +kernel
set_option maxRecDepth 20000 in
theorem ggX2_restore_X1_takeFrom : GoodIn wsX2_restore wsX1_takeFrom := goodIn_r _ [8, 9, 10, 11, 12, 13, 14, 15, 16, 17, 26, 27, 28, 29, 30] (by decide +kernel) (by decide +kernel)
set_option maxRecDepth 20000 in
theorem gX2_restore_X1_takeFrom : GoodIn wsX2_restore (wsV RX2 135 RX1 yX1_takeFrom wsX1_takeFrom) := goodIn_app (goodIn_of _ (by decide +kernel)) ggX2_restore_X1_takeFrom
theorem dX2_restore_0 : decode cX2_restore 0 = .ok (.iload_n 1, 1) := by decide +kernel
theorem dX2_restore_1 : decode cX2_restore 1 = .ok (.ifCond .lt 8, 3) := by decide +kernel
theorem dX2_restore_4 : decode cX2_restore 4 = .ok (.iload_n 1, 1) := by decide +kernel
theorem dX2_restore_5 : decode cX2_restore 5 = .ok (.iconst 2, 1) := by decide +kernel
theorem dX2_restore_6 : decode cX2_restore 6 = .ok (.if_icmp .lt 6, 3) := by decide +kernel
theorem dX2_restore_9 : decode cX2_restore 9 = .ok (.bipush (-2), 2) := by decide +kernel
theorem dX2_restore_11 : decode cX2_restore 11 = .ok (.ireturn, 1) := by decide +kernel
theorem dX2_restore_12 : decode cX2_restore 12 = .ok (.aload_n 0, 1) := by decide +kernel
theorem dX2_restore_13 : decode cX2_restore 13 = .ok (.getfield 20, 3) := by decide +kernel
theorem dX2_restore_16 : decode cX2_restore 16 = .ok (.iload_n 1, 1) := by decide +kernel
theorem dX2_restore_17 : decode cX2_restore 17 = .ok (.ishr, 1) := by decide +kernel
theorem dX2_restore_18 : decode cX2_restore 18 = .ok (.iconst 1, 1) := by decide +kernel
theorem dX2_restore_19 : decode cX2_restore 19 = .ok (.iand, 1) := by decide +kernel
theorem dX2_restore_20 : decode cX2_restore 20 = .ok (.ifCond .ne 6, 3) := by decide +kernel
theorem dX2_restore_23 : decode cX2_restore 23 = .ok (.bipush (-3), 2) := by decide +kernel
theorem dX2_restore_25 : decode cX2_restore 25 = .ok (.ireturn, 1) := by decide +kernel
theorem dX2_restore_26 : decode cX2_restore 26 = .ok (.aload_n 0, 1) := by decide +kernel
theorem dX2_restore_27 : decode cX2_restore 27 = .ok (.getfield 12, 3) := by decide +kernel
theorem dX2_restore_30 : decode cX2_restore 30 = .ok (.aload_n 0, 1) := by decide +kernel
theorem dX2_restore_31 : decode cX2_restore 31 = .ok (.getfield 16, 3) := by decide +kernel
theorem dX2_restore_34 : decode cX2_restore 34 = .ok (.iload_n 1, 1) := by decide +kernel
theorem dX2_restore_35 : decode cX2_restore 35 = .ok (.aaload, 1) := by decide +kernel
theorem dX2_restore_36 : decode cX2_restore 36 = .ok (.invokevirtual 135, 3) := by decide +kernel
theorem dX2_restore_39 : decode cX2_restore 39 = .ok (.iconst 1, 1) := by decide +kernel
theorem dX2_restore_40 : decode cX2_restore 40 = .ok (.ireturn, 1) := by decide +kernel
set_option maxRecDepth 20000 in
theorem ggX2_count_X2_isPlace : GoodIn wsX2_count wsX2_isPlace := goodIn_r _ [12, 1, 3, 13, 14, 15, 16, 17, 18, 19, 20, 21, 22, 23, 24, 25] (by decide +kernel) (by decide +kernel)
set_option maxRecDepth 20000 in
theorem gX2_count_X2_isPlace : GoodIn wsX2_count (wsV RX2 93 RX2 yX2_isPlace wsX2_isPlace) := goodIn_app (goodIn_of _ (by decide +kernel)) ggX2_count_X2_isPlace
theorem dX2_count_0 : decode cX2_count 0 = .ok (.iload_n 1, 1) := by decide +kernel
theorem dX2_count_1 : decode cX2_count 1 = .ok (.ifCond .ne 11, 3) := by decide +kernel
theorem dX2_count_4 : decode cX2_count 4 = .ok (.aload_n 0, 1) := by decide +kernel
theorem dX2_count_5 : decode cX2_count 5 = .ok (.getfield 12, 3) := by decide +kernel
theorem dX2_count_8 : decode cX2_count 8 = .ok (.getfield 44, 3) := by decide +kernel
theorem dX2_count_11 : decode cX2_count 11 = .ok (.ireturn, 1) := by decide +kernel
theorem dX2_count_12 : decode cX2_count 12 = .ok (.iload_n 1, 1) := by decide +kernel
theorem dX2_count_13 : decode cX2_count 13 = .ok (.iconst 1, 1) := by decide +kernel
theorem dX2_count_14 : decode cX2_count 14 = .ok (.if_icmp .ne 11, 3) := by decide +kernel
theorem dX2_count_17 : decode cX2_count 17 = .ok (.aload_n 0, 1) := by decide +kernel
theorem dX2_count_18 : decode cX2_count 18 = .ok (.getfield 12, 3) := by decide +kernel
theorem dX2_count_21 : decode cX2_count 21 = .ok (.getfield 87, 3) := by decide +kernel
theorem dX2_count_24 : decode cX2_count 24 = .ok (.ireturn, 1) := by decide +kernel
theorem dX2_count_25 : decode cX2_count 25 = .ok (.iload_n 1, 1) := by decide +kernel
theorem dX2_count_26 : decode cX2_count 26 = .ok (.iconst 2, 1) := by decide +kernel
theorem dX2_count_27 : decode cX2_count 27 = .ok (.if_icmp .ne 8, 3) := by decide +kernel
theorem dX2_count_30 : decode cX2_count 30 = .ok (.aload_n 0, 1) := by decide +kernel
theorem dX2_count_31 : decode cX2_count 31 = .ok (.getfield 20, 3) := by decide +kernel
theorem dX2_count_34 : decode cX2_count 34 = .ok (.ireturn, 1) := by decide +kernel
theorem dX2_count_35 : decode cX2_count 35 = .ok (.iload_n 1, 1) := by decide +kernel
theorem dX2_count_36 : decode cX2_count 36 = .ok (.bipush 10, 2) := by decide +kernel
theorem dX2_count_38 : decode cX2_count 38 = .ok (.if_icmp .lt 22, 3) := by decide +kernel
theorem dX2_count_41 : decode cX2_count 41 = .ok (.iload_n 1, 1) := by decide +kernel
theorem dX2_count_42 : decode cX2_count 42 = .ok (.bipush 15, 2) := by decide +kernel
theorem dX2_count_44 : decode cX2_count 44 = .ok (.if_icmp .ge 16, 3) := by decide +kernel
theorem dX2_count_47 : decode cX2_count 47 = .ok (.aload_n 0, 1) := by decide +kernel
theorem dX2_count_48 : decode cX2_count 48 = .ok (.getfield 12, 3) := by decide +kernel
theorem dX2_count_51 : decode cX2_count 51 = .ok (.getfield 57, 3) := by decide +kernel
theorem dX2_count_54 : decode cX2_count 54 = .ok (.iload_n 1, 1) := by decide +kernel
theorem dX2_count_55 : decode cX2_count 55 = .ok (.bipush 10, 2) := by decide +kernel
theorem dX2_count_57 : decode cX2_count 57 = .ok (.isub, 1) := by decide +kernel
theorem dX2_count_58 : decode cX2_count 58 = .ok (.iaload, 1) := by decide +kernel
theorem dX2_count_59 : decode cX2_count 59 = .ok (.ireturn, 1) := by decide +kernel
theorem dX2_count_60 : decode cX2_count 60 = .ok (.iload_n 1, 1) := by decide +kernel
theorem dX2_count_61 : decode cX2_count 61 = .ok (.bipush 20, 2) := by decide +kernel
theorem dX2_count_63 : decode cX2_count 63 = .ok (.if_icmp .lt 22, 3) := by decide +kernel
theorem dX2_count_66 : decode cX2_count 66 = .ok (.iload_n 1, 1) := by decide +kernel
theorem dX2_count_67 : decode cX2_count 67 = .ok (.bipush 23, 2) := by decide +kernel
theorem dX2_count_69 : decode cX2_count 69 = .ok (.if_icmp .ge 16, 3) := by decide +kernel
theorem dX2_count_72 : decode cX2_count 72 = .ok (.aload_n 0, 1) := by decide +kernel
theorem dX2_count_73 : decode cX2_count 73 = .ok (.getfield 12, 3) := by decide +kernel
theorem dX2_count_76 : decode cX2_count 76 = .ok (.getfield 51, 3) := by decide +kernel
theorem dX2_count_79 : decode cX2_count 79 = .ok (.iload_n 1, 1) := by decide +kernel
theorem dX2_count_80 : decode cX2_count 80 = .ok (.bipush 20, 2) := by decide +kernel
theorem dX2_count_82 : decode cX2_count 82 = .ok (.isub, 1) := by decide +kernel
theorem dX2_count_83 : decode cX2_count 83 = .ok (.iaload, 1) := by decide +kernel
theorem dX2_count_84 : decode cX2_count 84 = .ok (.ireturn, 1) := by decide +kernel
theorem dX2_count_85 : decode cX2_count 85 = .ok (.iload_n 1, 1) := by decide +kernel
theorem dX2_count_86 : decode cX2_count 86 = .ok (.bipush 30, 2) := by decide +kernel
theorem dX2_count_88 : decode cX2_count 88 = .ok (.if_icmp .lt 38, 3) := by decide +kernel
theorem dX2_count_91 : decode cX2_count 91 = .ok (.iload_n 1, 1) := by decide +kernel
theorem dX2_count_92 : decode cX2_count 92 = .ok (.bipush 42, 2) := by decide +kernel
theorem dX2_count_94 : decode cX2_count 94 = .ok (.if_icmp .ge 32, 3) := by decide +kernel
theorem dX2_count_97 : decode cX2_count 97 = .ok (.aload_n 0, 1) := by decide +kernel
theorem dX2_count_98 : decode cX2_count 98 = .ok (.iload_n 1, 1) := by decide +kernel
theorem dX2_count_99 : decode cX2_count 99 = .ok (.bipush 30, 2) := by decide +kernel
theorem dX2_count_101 : decode cX2_count 101 = .ok (.isub, 1) := by decide +kernel
theorem dX2_count_102 : decode cX2_count 102 = .ok (.invokevirtual 93, 3) := by decide +kernel
theorem dX2_count_105 : decode cX2_count 105 = .ok (.ifCond .eq 18, 3) := by decide +kernel
theorem dX2_count_108 : decode cX2_count 108 = .ok (.aload_n 0, 1) := by decide +kernel
theorem dX2_count_109 : decode cX2_count 109 = .ok (.getfield 12, 3) := by decide +kernel
theorem dX2_count_112 : decode cX2_count 112 = .ok (.getfield 90, 3) := by decide +kernel
theorem dX2_count_115 : decode cX2_count 115 = .ok (.iload_n 1, 1) := by decide +kernel
theorem dX2_count_116 : decode cX2_count 116 = .ok (.bipush 30, 2) := by decide +kernel
theorem dX2_count_118 : decode cX2_count 118 = .ok (.isub, 1) := by decide +kernel
theorem dX2_count_119 : decode cX2_count 119 = .ok (.iaload, 1) := by decide +kernel
theorem dX2_count_120 : decode cX2_count 120 = .ok (.goto 5, 3) := by decide +kernel
theorem dX2_count_123 : decode cX2_count 123 = .ok (.bipush (-6), 2) := by decide +kernel
theorem dX2_count_125 : decode cX2_count 125 = .ok (.ireturn, 1) := by decide +kernel
theorem dX2_count_126 : decode cX2_count 126 = .ok (.bipush (-2), 2) := by decide +kernel
theorem dX2_count_128 : decode cX2_count 128 = .ok (.ireturn, 1) := by decide +kernel
theorem dX2_isValve_0 : decode cX2_isValve 0 = .ok (.iload_n 0, 1) := by decide +kernel
theorem dX2_isValve_1 : decode cX2_isValve 1 = .ok (.ifCond .lt 12, 3) := by decide +kernel
theorem dX2_isValve_4 : decode cX2_isValve 4 = .ok (.iload_n 0, 1) := by decide +kernel
theorem dX2_isValve_5 : decode cX2_isValve 5 = .ok (.iconst 3, 1) := by decide +kernel
theorem dX2_isValve_6 : decode cX2_isValve 6 = .ok (.if_icmp .ge 7, 3) := by decide +kernel
theorem dX2_isValve_9 : decode cX2_isValve 9 = .ok (.iconst 1, 1) := by decide +kernel
theorem dX2_isValve_10 : decode cX2_isValve 10 = .ok (.goto 4, 3) := by decide +kernel
theorem dX2_isValve_13 : decode cX2_isValve 13 = .ok (.iconst 0, 1) := by decide +kernel
theorem dX2_isValve_14 : decode cX2_isValve 14 = .ok (.ireturn, 1) := by decide +kernel
theorem dX2_isNote_0 : decode cX2_isNote 0 = .ok (.iload_n 0, 1) := by decide +kernel
theorem dX2_isNote_1 : decode cX2_isNote 1 = .ok (.ifCond .lt 13, 3) := by decide +kernel
theorem dX2_isNote_4 : decode cX2_isNote 4 = .ok (.iload_n 0, 1) := by decide +kernel
theorem dX2_isNote_5 : decode cX2_isNote 5 = .ok (.bipush 37, 2) := by decide +kernel
theorem dX2_isNote_7 : decode cX2_isNote 7 = .ok (.if_icmp .ge 7, 3) := by decide +kernel
theorem dX2_isNote_10 : decode cX2_isNote 10 = .ok (.iconst 1, 1) := by decide +kernel
theorem dX2_isNote_11 : decode cX2_isNote 11 = .ok (.goto 4, 3) := by decide +kernel
theorem dX2_isNote_14 : decode cX2_isNote 14 = .ok (.iconst 0, 1) := by decide +kernel
theorem dX2_isNote_15 : decode cX2_isNote 15 = .ok (.ireturn, 1) := by decide +kernel
theorem dX2_isPlace_0 : decode cX2_isPlace 0 = .ok (.iload_n 1, 1) := by decide +kernel
theorem dX2_isPlace_1 : decode cX2_isPlace 1 = .ok (.ifCond .lt 18, 3) := by decide +kernel
theorem dX2_isPlace_4 : decode cX2_isPlace 4 = .ok (.iload_n 1, 1) := by decide +kernel
theorem dX2_isPlace_5 : decode cX2_isPlace 5 = .ok (.aload_n 0, 1) := by decide +kernel
theorem dX2_isPlace_6 : decode cX2_isPlace 6 = .ok (.getfield 12, 3) := by decide +kernel
theorem dX2_isPlace_9 : decode cX2_isPlace 9 = .ok (.getfield 87, 3) := by decide +kernel
theorem dX2_isPlace_12 : decode cX2_isPlace 12 = .ok (.if_icmp .ge 7, 3) := by decide +kernel
theorem dX2_isPlace_15 : decode cX2_isPlace 15 = .ok (.iconst 1, 1) := by decide +kernel
theorem dX2_isPlace_16 : decode cX2_isPlace 16 = .ok (.goto 4, 3) := by decide +kernel
theorem dX2_isPlace_19 : decode cX2_isPlace 19 = .ok (.iconst 0, 1) := by decide +kernel
theorem dX2_isPlace_20 : decode cX2_isPlace 20 = .ok (.ireturn, 1) := by decide +kernel
set_option maxRecDepth 20000 in
theorem ggX2_leastMotion_X1_gatherWays : GoodIn wsX2_leastMotion wsX1_gatherWays := goodIn_r _ [13, 14, 15, 7, 16, 17, 18, 19, 20, 12, 21, 22, 23, 24, 25, 26, 27, 28, 29, 30, 31, 32, 33, 34, 35, 36, 37, 38, 58, 59, 60, 61, 62] (by decide +kernel) (by decide +kernel)
set_option maxRecDepth 20000 in
theorem gX2_leastMotion_X1_gatherWays : GoodIn wsX2_leastMotion (wsV RX2 77 RX1 yX1_gatherWays wsX1_gatherWays) := goodIn_app (goodIn_of _ (by decide +kernel)) ggX2_leastMotion_X1_gatherWays
set_option maxRecDepth 20000 in
theorem ggX2_leastMotion_X1_motion : GoodIn wsX2_leastMotion wsX1_motion := goodIn_r _ [42, 26, 14, 15, 7, 16, 17, 43, 44, 45, 46, 47, 48, 49, 58, 59, 60, 61, 62] (by decide +kernel) (by decide +kernel)
set_option maxRecDepth 20000 in
theorem gX2_leastMotion_X1_motion : GoodIn wsX2_leastMotion (wsV RX2 96 RX1 yX1_motion wsX1_motion) := goodIn_app (goodIn_of _ (by decide +kernel)) ggX2_leastMotion_X1_motion
theorem dX2_leastMotion_0 : decode cX2_leastMotion 0 = .ok (.aload_n 0, 1) := by decide +kernel
theorem dX2_leastMotion_1 : decode cX2_leastMotion 1 = .ok (.getfield 12, 3) := by decide +kernel
theorem dX2_leastMotion_4 : decode cX2_leastMotion 4 = .ok (.iload_n 1, 1) := by decide +kernel
theorem dX2_leastMotion_5 : decode cX2_leastMotion 5 = .ok (.aload_n 0, 1) := by decide +kernel
theorem dX2_leastMotion_6 : decode cX2_leastMotion 6 = .ok (.getfield 31, 3) := by decide +kernel
theorem dX2_leastMotion_9 : decode cX2_leastMotion 9 = .ok (.iconst 0, 1) := by decide +kernel
theorem dX2_leastMotion_10 : decode cX2_leastMotion 10 = .ok (.invokevirtual 77, 3) := by decide +kernel
theorem dX2_leastMotion_13 : decode cX2_leastMotion 13 = .ok (.istore_n 3, 1) := by decide +kernel
theorem dX2_leastMotion_14 : decode cX2_leastMotion 14 = .ok (.aload_n 0, 1) := by decide +kernel
theorem dX2_leastMotion_15 : decode cX2_leastMotion 15 = .ok (.getfield 12, 3) := by decide +kernel
theorem dX2_leastMotion_18 : decode cX2_leastMotion 18 = .ok (.iload_n 2, 1) := by decide +kernel
theorem dX2_leastMotion_19 : decode cX2_leastMotion 19 = .ok (.aload_n 0, 1) := by decide +kernel
theorem dX2_leastMotion_20 : decode cX2_leastMotion 20 = .ok (.getfield 35, 3) := by decide +kernel
theorem dX2_leastMotion_23 : decode cX2_leastMotion 23 = .ok (.iconst 0, 1) := by decide +kernel
theorem dX2_leastMotion_24 : decode cX2_leastMotion 24 = .ok (.invokevirtual 77, 3) := by decide +kernel
theorem dX2_leastMotion_27 : decode cX2_leastMotion 27 = .ok (.istore 4, 2) := by decide +kernel
theorem dX2_leastMotion_29 : decode cX2_leastMotion 29 = .ok (.iload_n 3, 1) := by decide +kernel
theorem dX2_leastMotion_30 : decode cX2_leastMotion 30 = .ok (.ifCond .eq 8, 3) := by decide +kernel
theorem dX2_leastMotion_33 : decode cX2_leastMotion 33 = .ok (.iload 4, 2) := by decide +kernel
theorem dX2_leastMotion_35 : decode cX2_leastMotion 35 = .ok (.ifCond .ne 6, 3) := by decide +kernel
theorem dX2_leastMotion_38 : decode cX2_leastMotion 38 = .ok (.bipush (-6), 2) := by decide +kernel
theorem dX2_leastMotion_40 : decode cX2_leastMotion 40 = .ok (.ireturn, 1) := by decide +kernel
theorem dX2_leastMotion_41 : decode cX2_leastMotion 41 = .ok (.ldc 81, 2) := by decide +kernel
theorem dX2_leastMotion_43 : decode cX2_leastMotion 43 = .ok (.istore 5, 2) := by decide +kernel
theorem dX2_leastMotion_45 : decode cX2_leastMotion 45 = .ok (.iconst 0, 1) := by decide +kernel
theorem dX2_leastMotion_46 : decode cX2_leastMotion 46 = .ok (.istore 6, 2) := by decide +kernel
theorem dX2_leastMotion_48 : decode cX2_leastMotion 48 = .ok (.iload 6, 2) := by decide +kernel
theorem dX2_leastMotion_50 : decode cX2_leastMotion 50 = .ok (.iload_n 3, 1) := by decide +kernel
theorem dX2_leastMotion_51 : decode cX2_leastMotion 51 = .ok (.if_icmp .ge 53, 3) := by decide +kernel
theorem dX2_leastMotion_54 : decode cX2_leastMotion 54 = .ok (.iconst 0, 1) := by decide +kernel
theorem dX2_leastMotion_55 : decode cX2_leastMotion 55 = .ok (.istore 7, 2) := by decide +kernel
theorem dX2_leastMotion_57 : decode cX2_leastMotion 57 = .ok (.iload 7, 2) := by decide +kernel
theorem dX2_leastMotion_59 : decode cX2_leastMotion 59 = .ok (.iload 4, 2) := by decide +kernel
theorem dX2_leastMotion_61 : decode cX2_leastMotion 61 = .ok (.if_icmp .ge 37, 3) := by decide +kernel
theorem dX2_leastMotion_64 : decode cX2_leastMotion 64 = .ok (.iload 5, 2) := by decide +kernel
theorem dX2_leastMotion_66 : decode cX2_leastMotion 66 = .ok (.aload_n 0, 1) := by decide +kernel
theorem dX2_leastMotion_67 : decode cX2_leastMotion 67 = .ok (.getfield 12, 3) := by decide +kernel
theorem dX2_leastMotion_70 : decode cX2_leastMotion 70 = .ok (.aload_n 0, 1) := by decide +kernel
theorem dX2_leastMotion_71 : decode cX2_leastMotion 71 = .ok (.getfield 31, 3) := by decide +kernel
theorem dX2_leastMotion_74 : decode cX2_leastMotion 74 = .ok (.iload 6, 2) := by decide +kernel
theorem dX2_leastMotion_76 : decode cX2_leastMotion 76 = .ok (.iaload, 1) := by decide +kernel
theorem dX2_leastMotion_77 : decode cX2_leastMotion 77 = .ok (.aload_n 0, 1) := by decide +kernel
theorem dX2_leastMotion_78 : decode cX2_leastMotion 78 = .ok (.getfield 35, 3) := by decide +kernel
theorem dX2_leastMotion_81 : decode cX2_leastMotion 81 = .ok (.iload 7, 2) := by decide +kernel
theorem dX2_leastMotion_83 : decode cX2_leastMotion 83 = .ok (.iaload, 1) := by decide +kernel
theorem dX2_leastMotion_84 : decode cX2_leastMotion 84 = .ok (.invokevirtual 96, 3) := by decide +kernel
theorem dX2_leastMotion_87 : decode cX2_leastMotion 87 = .ok (.invokestatic 138, 3) := by decide +kernel
theorem dX2_leastMotion_90 : decode cX2_leastMotion 90 = .ok (.istore 5, 2) := by decide +kernel
theorem dX2_leastMotion_92 : decode cX2_leastMotion 92 = .ok (.iinc 7 1, 3) := by decide +kernel
theorem dX2_leastMotion_95 : decode cX2_leastMotion 95 = .ok (.goto (-38), 3) := by decide +kernel
theorem dX2_leastMotion_98 : decode cX2_leastMotion 98 = .ok (.iinc 6 1, 3) := by decide +kernel
theorem dX2_leastMotion_101 : decode cX2_leastMotion 101 = .ok (.goto (-53), 3) := by decide +kernel
theorem dX2_leastMotion_104 : decode cX2_leastMotion 104 = .ok (.iload 5, 2) := by decide +kernel
theorem dX2_leastMotion_106 : decode cX2_leastMotion 106 = .ok (.ireturn, 1) := by decide +kernel
set_option maxRecDepth 20000 in
theorem ggX2_missOfPart_X2_valveDrop : GoodIn wsX2_missOfPart wsX2_valveDrop := goodIn_r _ [11] (by decide +kernel) (by decide +kernel)
set_option maxRecDepth 20000 in
theorem gX2_missOfPart_X2_valveDrop : GoodIn wsX2_missOfPart (va_wsS RX2 141 yX2_valveDrop wsX2_valveDrop) := goodIn_app (goodIn_of _ (by decide +kernel)) ggX2_missOfPart_X2_valveDrop
set_option maxRecDepth 20000 in
theorem ggX2_missOfPart_X2_nearestMiss : GoodIn wsX2_missOfPart wsX2_nearestMiss := goodIn_r _ [15, 16, 4, 17, 18, 19, 20, 21, 22, 23, 24, 25, 26, 27, 28, 29, 30, 31, 32] (by decide +kernel) (by decide +kernel)
set_option maxRecDepth 20000 in
theorem gX2_missOfPart_X2_nearestMiss : GoodIn wsX2_missOfPart (wsV RX2 144 RX2 yX2_nearestMiss wsX2_nearestMiss) := goodIn_app (goodIn_of _ (by decide +kernel)) ggX2_missOfPart_X2_nearestMiss
theorem dX2_missOfPart_0 : decode cX2_missOfPart 0 = .ok (.iconst 0, 1) := by decide +kernel
theorem dX2_missOfPart_1 : decode cX2_missOfPart 1 = .ok (.istore_n 3, 1) := by decide +kernel
theorem dX2_missOfPart_2 : decode cX2_missOfPart 2 = .ok (.iload_n 3, 1) := by decide +kernel
theorem dX2_missOfPart_3 : decode cX2_missOfPart 3 = .ok (.iconst 3, 1) := by decide +kernel
theorem dX2_missOfPart_4 : decode cX2_missOfPart 4 = .ok (.if_icmp .ge 33, 3) := by decide +kernel
theorem dX2_missOfPart_7 : decode cX2_missOfPart 7 = .ok (.aload_n 0, 1) := by decide +kernel
theorem dX2_missOfPart_8 : decode cX2_missOfPart 8 = .ok (.getfield 38, 3) := by decide +kernel
theorem dX2_missOfPart_11 : decode cX2_missOfPart 11 = .ok (.iload_n 3, 1) := by decide +kernel
theorem dX2_missOfPart_12 : decode cX2_missOfPart 12 = .ok (.iload_n 3, 1) := by decide +kernel
theorem dX2_missOfPart_13 : decode cX2_missOfPart 13 = .ok (.iload_n 1, 1) := by decide +kernel
theorem dX2_missOfPart_14 : decode cX2_missOfPart 14 = .ok (.if_icmp .ne 7, 3) := by decide +kernel
theorem dX2_missOfPart_17 : decode cX2_missOfPart 17 = .ok (.iload_n 2, 1) := by decide +kernel
theorem dX2_missOfPart_18 : decode cX2_missOfPart 18 = .ok (.goto 12, 3) := by decide +kernel
theorem dX2_missOfPart_21 : decode cX2_missOfPart 21 = .ok (.aload_n 0, 1) := by decide +kernel
theorem dX2_missOfPart_22 : decode cX2_missOfPart 22 = .ok (.getfield 12, 3) := by decide +kernel
theorem dX2_missOfPart_25 : decode cX2_missOfPart 25 = .ok (.getfield 51, 3) := by decide +kernel
theorem dX2_missOfPart_28 : decode cX2_missOfPart 28 = .ok (.iload_n 3, 1) := by decide +kernel
theorem dX2_missOfPart_29 : decode cX2_missOfPart 29 = .ok (.iaload, 1) := by decide +kernel
theorem dX2_missOfPart_30 : decode cX2_missOfPart 30 = .ok (.iastore, 1) := by decide +kernel
theorem dX2_missOfPart_31 : decode cX2_missOfPart 31 = .ok (.iinc 3 1, 3) := by decide +kernel
theorem dX2_missOfPart_34 : decode cX2_missOfPart 34 = .ok (.goto (-32), 3) := by decide +kernel
theorem dX2_missOfPart_37 : decode cX2_missOfPart 37 = .ok (.iconst 0, 1) := by decide +kernel
theorem dX2_missOfPart_38 : decode cX2_missOfPart 38 = .ok (.istore_n 3, 1) := by decide +kernel
theorem dX2_missOfPart_39 : decode cX2_missOfPart 39 = .ok (.iload_n 3, 1) := by decide +kernel
theorem dX2_missOfPart_40 : decode cX2_missOfPart 40 = .ok (.bipush 8, 2) := by decide +kernel
theorem dX2_missOfPart_42 : decode cX2_missOfPart 42 = .ok (.if_icmp .ge 32, 3) := by decide +kernel
theorem dX2_missOfPart_45 : decode cX2_missOfPart 45 = .ok (.aload_n 0, 1) := by decide +kernel
theorem dX2_missOfPart_46 : decode cX2_missOfPart 46 = .ok (.getfield 41, 3) := by decide +kernel
theorem dX2_missOfPart_49 : decode cX2_missOfPart 49 = .ok (.iload_n 3, 1) := by decide +kernel
theorem dX2_missOfPart_50 : decode cX2_missOfPart 50 = .ok (.iload_n 3, 1) := by decide +kernel
theorem dX2_missOfPart_51 : decode cX2_missOfPart 51 = .ok (.aload_n 0, 1) := by decide +kernel
theorem dX2_missOfPart_52 : decode cX2_missOfPart 52 = .ok (.getfield 38, 3) := by decide +kernel
theorem dX2_missOfPart_55 : decode cX2_missOfPart 55 = .ok (.aload_n 0, 1) := by decide +kernel
theorem dX2_missOfPart_56 : decode cX2_missOfPart 56 = .ok (.getfield 12, 3) := by decide +kernel
theorem dX2_missOfPart_59 : decode cX2_missOfPart 59 = .ok (.getfield 57, 3) := by decide +kernel
theorem dX2_missOfPart_62 : decode cX2_missOfPart 62 = .ok (.iconst 0, 1) := by decide +kernel
theorem dX2_missOfPart_63 : decode cX2_missOfPart 63 = .ok (.iaload, 1) := by decide +kernel
theorem dX2_missOfPart_64 : decode cX2_missOfPart 64 = .ok (.invokestatic 141, 3) := by decide +kernel
theorem dX2_missOfPart_67 : decode cX2_missOfPart 67 = .ok (.iastore, 1) := by decide +kernel
theorem dX2_missOfPart_68 : decode cX2_missOfPart 68 = .ok (.iinc 3 1, 3) := by decide +kernel
theorem dX2_missOfPart_71 : decode cX2_missOfPart 71 = .ok (.goto (-32), 3) := by decide +kernel
theorem dX2_missOfPart_74 : decode cX2_missOfPart 74 = .ok (.iconst 0, 1) := by decide +kernel
theorem dX2_missOfPart_75 : decode cX2_missOfPart 75 = .ok (.istore_n 3, 1) := by decide +kernel
theorem dX2_missOfPart_76 : decode cX2_missOfPart 76 = .ok (.iconst 0, 1) := by decide +kernel
theorem dX2_missOfPart_77 : decode cX2_missOfPart 77 = .ok (.istore 4, 2) := by decide +kernel
theorem dX2_missOfPart_79 : decode cX2_missOfPart 79 = .ok (.iload 4, 2) := by decide +kernel
theorem dX2_missOfPart_81 : decode cX2_missOfPart 81 = .ok (.aload_n 0, 1) := by decide +kernel
theorem dX2_missOfPart_82 : decode cX2_missOfPart 82 = .ok (.getfield 12, 3) := by decide +kernel
theorem dX2_missOfPart_85 : decode cX2_missOfPart 85 = .ok (.getfield 87, 3) := by decide +kernel
theorem dX2_missOfPart_88 : decode cX2_missOfPart 88 = .ok (.if_icmp .ge 26, 3) := by decide +kernel
theorem dX2_missOfPart_91 : decode cX2_missOfPart 91 = .ok (.iload_n 3, 1) := by decide +kernel
theorem dX2_missOfPart_92 : decode cX2_missOfPart 92 = .ok (.aload_n 0, 1) := by decide +kernel
theorem dX2_missOfPart_93 : decode cX2_missOfPart 93 = .ok (.aload_n 0, 1) := by decide +kernel
theorem dX2_missOfPart_94 : decode cX2_missOfPart 94 = .ok (.getfield 12, 3) := by decide +kernel
theorem dX2_missOfPart_97 : decode cX2_missOfPart 97 = .ok (.getfield 90, 3) := by decide +kernel
theorem dX2_missOfPart_100 : decode cX2_missOfPart 100 = .ok (.iload 4, 2) := by decide +kernel
theorem dX2_missOfPart_102 : decode cX2_missOfPart 102 = .ok (.iaload, 1) := by decide +kernel
theorem dX2_missOfPart_103 : decode cX2_missOfPart 103 = .ok (.invokevirtual 144, 3) := by decide +kernel
theorem dX2_missOfPart_106 : decode cX2_missOfPart 106 = .ok (.iadd, 1) := by decide +kernel
theorem dX2_missOfPart_107 : decode cX2_missOfPart 107 = .ok (.istore_n 3, 1) := by decide +kernel
theorem dX2_missOfPart_108 : decode cX2_missOfPart 108 = .ok (.iinc 4 1, 3) := by decide +kernel
theorem dX2_missOfPart_111 : decode cX2_missOfPart 111 = .ok (.goto (-32), 3) := by decide +kernel
theorem dX2_missOfPart_114 : decode cX2_missOfPart 114 = .ok (.iload_n 3, 1) := by decide +kernel
theorem dX2_missOfPart_115 : decode cX2_missOfPart 115 = .ok (.ireturn, 1) := by decide +kernel
theorem dX2_nearestMiss_0 : decode cX2_nearestMiss 0 = .ok (.ldc 81, 2) := by decide +kernel
theorem dX2_nearestMiss_2 : decode cX2_nearestMiss 2 = .ok (.istore_n 2, 1) := by decide +kernel
theorem dX2_nearestMiss_3 : decode cX2_nearestMiss 3 = .ok (.iconst 0, 1) := by decide +kernel
theorem dX2_nearestMiss_4 : decode cX2_nearestMiss 4 = .ok (.istore_n 3, 1) := by decide +kernel
theorem dX2_nearestMiss_5 : decode cX2_nearestMiss 5 = .ok (.iload_n 3, 1) := by decide +kernel
theorem dX2_nearestMiss_6 : decode cX2_nearestMiss 6 = .ok (.bipush 8, 2) := by decide +kernel
theorem dX2_nearestMiss_8 : decode cX2_nearestMiss 8 = .ok (.if_icmp .ge 55, 3) := by decide +kernel
theorem dX2_nearestMiss_11 : decode cX2_nearestMiss 11 = .ok (.aload_n 0, 1) := by decide +kernel
theorem dX2_nearestMiss_12 : decode cX2_nearestMiss 12 = .ok (.getfield 41, 3) := by decide +kernel
theorem dX2_nearestMiss_15 : decode cX2_nearestMiss 15 = .ok (.iload_n 3, 1) := by decide +kernel
theorem dX2_nearestMiss_16 : decode cX2_nearestMiss 16 = .ok (.iaload, 1) := by decide +kernel
theorem dX2_nearestMiss_17 : decode cX2_nearestMiss 17 = .ok (.bipush 100, 2) := by decide +kernel
theorem dX2_nearestMiss_19 : decode cX2_nearestMiss 19 = .ok (.iload_n 1, 1) := by decide +kernel
theorem dX2_nearestMiss_20 : decode cX2_nearestMiss 20 = .ok (.imul, 1) := by decide +kernel
theorem dX2_nearestMiss_21 : decode cX2_nearestMiss 21 = .ok (.iadd, 1) := by decide +kernel
theorem dX2_nearestMiss_22 : decode cX2_nearestMiss 22 = .ok (.istore 4, 2) := by decide +kernel
theorem dX2_nearestMiss_24 : decode cX2_nearestMiss 24 = .ok (.iconst 0, 1) := by decide +kernel
theorem dX2_nearestMiss_25 : decode cX2_nearestMiss 25 = .ok (.istore 5, 2) := by decide +kernel
theorem dX2_nearestMiss_27 : decode cX2_nearestMiss 27 = .ok (.iload 5, 2) := by decide +kernel
theorem dX2_nearestMiss_29 : decode cX2_nearestMiss 29 = .ok (.bipush 8, 2) := by decide +kernel
theorem dX2_nearestMiss_31 : decode cX2_nearestMiss 31 = .ok (.if_icmp .ge 26, 3) := by decide +kernel
theorem dX2_nearestMiss_34 : decode cX2_nearestMiss 34 = .ok (.iload_n 2, 1) := by decide +kernel
theorem dX2_nearestMiss_35 : decode cX2_nearestMiss 35 = .ok (.getstatic 147, 3) := by decide +kernel
theorem dX2_nearestMiss_38 : decode cX2_nearestMiss 38 = .ok (.iload 5, 2) := by decide +kernel
theorem dX2_nearestMiss_40 : decode cX2_nearestMiss 40 = .ok (.iaload, 1) := by decide +kernel
theorem dX2_nearestMiss_41 : decode cX2_nearestMiss 41 = .ok (.iload 4, 2) := by decide +kernel
theorem dX2_nearestMiss_43 : decode cX2_nearestMiss 43 = .ok (.isub, 1) := by decide +kernel
theorem dX2_nearestMiss_44 : decode cX2_nearestMiss 44 = .ok (.invokestatic 82, 3) := by decide +kernel
theorem dX2_nearestMiss_47 : decode cX2_nearestMiss 47 = .ok (.invokestatic 138, 3) := by decide +kernel
theorem dX2_nearestMiss_50 : decode cX2_nearestMiss 50 = .ok (.istore_n 2, 1) := by decide +kernel
theorem dX2_nearestMiss_51 : decode cX2_nearestMiss 51 = .ok (.iinc 5 1, 3) := by decide +kernel
theorem dX2_nearestMiss_54 : decode cX2_nearestMiss 54 = .ok (.goto (-27), 3) := by decide +kernel
theorem dX2_nearestMiss_57 : decode cX2_nearestMiss 57 = .ok (.iinc 3 1, 3) := by decide +kernel
theorem dX2_nearestMiss_60 : decode cX2_nearestMiss 60 = .ok (.goto (-55), 3) := by decide +kernel
theorem dX2_nearestMiss_63 : decode cX2_nearestMiss 63 = .ok (.iload_n 2, 1) := by decide +kernel
theorem dX2_nearestMiss_64 : decode cX2_nearestMiss 64 = .ok (.ireturn, 1) := by decide +kernel
theorem dX2_valveDrop_0 : decode cX2_valveDrop 0 = .ok (.iconst 0, 1) := by decide +kernel
theorem dX2_valveDrop_1 : decode cX2_valveDrop 1 = .ok (.istore_n 3, 1) := by decide +kernel
theorem dX2_valveDrop_2 : decode cX2_valveDrop 2 = .ok (.iconst 0, 1) := by decide +kernel
theorem dX2_valveDrop_3 : decode cX2_valveDrop 3 = .ok (.istore 4, 2) := by decide +kernel
theorem dX2_valveDrop_5 : decode cX2_valveDrop 5 = .ok (.iconst 0, 1) := by decide +kernel
theorem dX2_valveDrop_6 : decode cX2_valveDrop 6 = .ok (.istore 5, 2) := by decide +kernel
theorem dX2_valveDrop_8 : decode cX2_valveDrop 8 = .ok (.iload 5, 2) := by decide +kernel
theorem dX2_valveDrop_10 : decode cX2_valveDrop 10 = .ok (.iconst 3, 1) := by decide +kernel
theorem dX2_valveDrop_11 : decode cX2_valveDrop 11 = .ok (.if_icmp .ge 34, 3) := by decide +kernel
theorem dX2_valveDrop_14 : decode cX2_valveDrop 14 = .ok (.iload_n 0, 1) := by decide +kernel
theorem dX2_valveDrop_15 : decode cX2_valveDrop 15 = .ok (.iload 5, 2) := by decide +kernel
theorem dX2_valveDrop_17 : decode cX2_valveDrop 17 = .ok (.ishr, 1) := by decide +kernel
theorem dX2_valveDrop_18 : decode cX2_valveDrop 18 = .ok (.iconst 1, 1) := by decide +kernel
theorem dX2_valveDrop_19 : decode cX2_valveDrop 19 = .ok (.iand, 1) := by decide +kernel
theorem dX2_valveDrop_20 : decode cX2_valveDrop 20 = .ok (.iconst 1, 1) := by decide +kernel
theorem dX2_valveDrop_21 : decode cX2_valveDrop 21 = .ok (.if_icmp .ne 18, 3) := by decide +kernel
theorem dX2_valveDrop_24 : decode cX2_valveDrop 24 = .ok (.iload_n 3, 1) := by decide +kernel
theorem dX2_valveDrop_25 : decode cX2_valveDrop 25 = .ok (.aload_n 1, 1) := by decide +kernel
theorem dX2_valveDrop_26 : decode cX2_valveDrop 26 = .ok (.iload 5, 2) := by decide +kernel
theorem dX2_valveDrop_28 : decode cX2_valveDrop 28 = .ok (.iaload, 1) := by decide +kernel
theorem dX2_valveDrop_29 : decode cX2_valveDrop 29 = .ok (.iload_n 2, 1) := by decide +kernel
theorem dX2_valveDrop_30 : decode cX2_valveDrop 30 = .ok (.iload 4, 2) := by decide +kernel
theorem dX2_valveDrop_32 : decode cX2_valveDrop 32 = .ok (.imul, 1) := by decide +kernel
theorem dX2_valveDrop_33 : decode cX2_valveDrop 33 = .ok (.isub, 1) := by decide +kernel
theorem dX2_valveDrop_34 : decode cX2_valveDrop 34 = .ok (.iadd, 1) := by decide +kernel
theorem dX2_valveDrop_35 : decode cX2_valveDrop 35 = .ok (.istore_n 3, 1) := by decide +kernel
theorem dX2_valveDrop_36 : decode cX2_valveDrop 36 = .ok (.iinc 4 1, 3) := by decide +kernel
theorem dX2_valveDrop_39 : decode cX2_valveDrop 39 = .ok (.iinc 5 1, 3) := by decide +kernel
theorem dX2_valveDrop_42 : decode cX2_valveDrop 42 = .ok (.goto (-34), 3) := by decide +kernel
theorem dX2_valveDrop_45 : decode cX2_valveDrop 45 = .ok (.iload_n 3, 1) := by decide +kernel
theorem dX2_valveDrop_46 : decode cX2_valveDrop 46 = .ok (.ireturn, 1) := by decide +kernel
theorem dX3_init_0 : decode cX3_init 0 = .ok (.aload_n 0, 1) := by decide +kernel
theorem dX3_init_1 : decode cX3_init 1 = .ok (.invokespecial 1, 3) := by decide +kernel
theorem dX3_init_4 : decode cX3_init 4 = .ok (.aload_n 0, 1) := by decide +kernel
theorem dX3_init_5 : decode cX3_init 5 = .ok (.bipush 22, 2) := by decide +kernel
theorem dX3_init_7 : decode cX3_init 7 = .ok (.newarray .int, 2) := by decide +kernel
theorem dX3_init_9 : decode cX3_init 9 = .ok (.putfield 7, 3) := by decide +kernel
theorem dX3_init_12 : decode cX3_init 12 = .ok (.aload_n 0, 1) := by decide +kernel
theorem dX3_init_13 : decode cX3_init 13 = .ok (.bipush 44, 2) := by decide +kernel
theorem dX3_init_15 : decode cX3_init 15 = .ok (.newarray .int, 2) := by decide +kernel
theorem dX3_init_17 : decode cX3_init 17 = .ok (.putfield 13, 3) := by decide +kernel
theorem dX3_init_20 : decode cX3_init 20 = .ok (.aload_n 0, 1) := by decide +kernel
theorem dX3_init_21 : decode cX3_init 21 = .ok (.iconst 2, 1) := by decide +kernel
theorem dX3_init_22 : decode cX3_init 22 = .ok (.newarray .boolean, 2) := by decide +kernel
theorem dX3_init_24 : decode cX3_init 24 = .ok (.putfield 16, 3) := by decide +kernel
theorem dX3_init_27 : decode cX3_init 27 = .ok (.aload_n 0, 1) := by decide +kernel
theorem dX3_init_28 : decode cX3_init 28 = .ok (.sipush 768, 3) := by decide +kernel
theorem dX3_init_31 : decode cX3_init 31 = .ok (.newarray .int, 2) := by decide +kernel
theorem dX3_init_33 : decode cX3_init 33 = .ok (.putfield 20, 3) := by decide +kernel
theorem dX3_init_36 : decode cX3_init 36 = .ok (.aload_n 0, 1) := by decide +kernel
theorem dX3_init_37 : decode cX3_init 37 = .ok (.sipush 768, 3) := by decide +kernel
theorem dX3_init_40 : decode cX3_init 40 = .ok (.newarray .long, 2) := by decide +kernel
theorem dX3_init_42 : decode cX3_init 42 = .ok (.putfield 23, 3) := by decide +kernel
theorem dX3_init_45 : decode cX3_init 45 = .ok (.aload_n 0, 1) := by decide +kernel
theorem dX3_init_46 : decode cX3_init 46 = .ok (.sipush 768, 3) := by decide +kernel
theorem dX3_init_49 : decode cX3_init 49 = .ok (.newarray .long, 2) := by decide +kernel
theorem dX3_init_51 : decode cX3_init 51 = .ok (.putfield 27, 3) := by decide +kernel
theorem dX3_init_54 : decode cX3_init 54 = .ok (.aload_n 0, 1) := by decide +kernel
theorem dX3_init_55 : decode cX3_init 55 = .ok (.sipush 768, 3) := by decide +kernel
theorem dX3_init_58 : decode cX3_init 58 = .ok (.newarray .int, 2) := by decide +kernel
theorem dX3_init_60 : decode cX3_init 60 = .ok (.putfield 30, 3) := by decide +kernel
theorem dX3_init_63 : decode cX3_init 63 = .ok (.aload_n 0, 1) := by decide +kernel
theorem dX3_init_64 : decode cX3_init 64 = .ok (.getfield 7, 3) := by decide +kernel
theorem dX3_init_67 : decode cX3_init 67 = .ok (.iconst 1, 1) := by decide +kernel
theorem dX3_init_68 : decode cX3_init 68 = .ok (.sipush 200, 3) := by decide +kernel
theorem dX3_init_71 : decode cX3_init 71 = .ok (.iastore, 1) := by decide +kernel
theorem dX3_init_72 : decode cX3_init 72 = .ok (.aload_n 0, 1) := by decide +kernel
theorem dX3_init_73 : decode cX3_init 73 = .ok (.getfield 7, 3) := by decide +kernel
theorem dX3_init_76 : decode cX3_init 76 = .ok (.iconst 2, 1) := by decide +kernel
theorem dX3_init_77 : decode cX3_init 77 = .ok (.bipush 100, 2) := by decide +kernel
theorem dX3_init_79 : decode cX3_init 79 = .ok (.iastore, 1) := by decide +kernel
theorem dX3_init_80 : decode cX3_init 80 = .ok (.aload_n 0, 1) := by decide +kernel
theorem dX3_init_81 : decode cX3_init 81 = .ok (.getfield 7, 3) := by decide +kernel
theorem dX3_init_84 : decode cX3_init 84 = .ok (.iconst 3, 1) := by decide +kernel
theorem dX3_init_85 : decode cX3_init 85 = .ok (.sipush 300, 3) := by decide +kernel
theorem dX3_init_88 : decode cX3_init 88 = .ok (.iastore, 1) := by decide +kernel
theorem dX3_init_89 : decode cX3_init 89 = .ok (.aload_n 0, 1) := by decide +kernel
theorem dX3_init_90 : decode cX3_init 90 = .ok (.getfield 7, 3) := by decide +kernel
theorem dX3_init_93 : decode cX3_init 93 = .ok (.iconst 4, 1) := by decide +kernel
theorem dX3_init_94 : decode cX3_init 94 = .ok (.bipush 10, 2) := by decide +kernel
theorem dX3_init_96 : decode cX3_init 96 = .ok (.iastore, 1) := by decide +kernel
theorem dX3_init_97 : decode cX3_init 97 = .ok (.aload_n 0, 1) := by decide +kernel
theorem dX3_init_98 : decode cX3_init 98 = .ok (.getfield 7, 3) := by decide +kernel
theorem dX3_init_101 : decode cX3_init 101 = .ok (.iconst 5, 1) := by decide +kernel
theorem dX3_init_102 : decode cX3_init 102 = .ok (.bipush 35, 2) := by decide +kernel
theorem dX3_init_104 : decode cX3_init 104 = .ok (.iastore, 1) := by decide +kernel
theorem dX3_init_105 : decode cX3_init 105 = .ok (.aload_n 0, 1) := by decide +kernel
theorem dX3_init_106 : decode cX3_init 106 = .ok (.getfield 7, 3) := by decide +kernel
theorem dX3_init_109 : decode cX3_init 109 = .ok (.bipush 6, 2) := by decide +kernel
theorem dX3_init_111 : decode cX3_init 111 = .ok (.iconst 2, 1) := by decide +kernel
theorem dX3_init_112 : decode cX3_init 112 = .ok (.iastore, 1) := by decide +kernel
theorem dX3_init_113 : decode cX3_init 113 = .ok (.aload_n 0, 1) := by decide +kernel
theorem dX3_init_114 : decode cX3_init 114 = .ok (.getfield 7, 3) := by decide +kernel
theorem dX3_init_117 : decode cX3_init 117 = .ok (.bipush 7, 2) := by decide +kernel
theorem dX3_init_119 : decode cX3_init 119 = .ok (.iconst 1, 1) := by decide +kernel
theorem dX3_init_120 : decode cX3_init 120 = .ok (.iastore, 1) := by decide +kernel
theorem dX3_init_121 : decode cX3_init 121 = .ok (.aload_n 0, 1) := by decide +kernel
theorem dX3_init_122 : decode cX3_init 122 = .ok (.getfield 7, 3) := by decide +kernel
theorem dX3_init_125 : decode cX3_init 125 = .ok (.bipush 8, 2) := by decide +kernel
theorem dX3_init_127 : decode cX3_init 127 = .ok (.iconst 1, 1) := by decide +kernel
theorem dX3_init_128 : decode cX3_init 128 = .ok (.iastore, 1) := by decide +kernel
theorem dX3_init_129 : decode cX3_init 129 = .ok (.return_, 1) := by decide +kernel
theorem dX3_in_0 : decode cX3_in 0 = .ok (.iload_n 0, 1) := by decide +kernel
theorem dX3_in_1 : decode cX3_in 1 = .ok (.iload_n 1, 1) := by decide +kernel
theorem dX3_in_2 : decode cX3_in 2 = .ok (.if_icmp .lt 12, 3) := by decide +kernel
theorem dX3_in_5 : decode cX3_in 5 = .ok (.iload_n 0, 1) := by decide +kernel
theorem dX3_in_6 : decode cX3_in 6 = .ok (.iload_n 2, 1) := by decide +kernel
theorem dX3_in_7 : decode cX3_in 7 = .ok (.if_icmp .gt 7, 3) := by decide +kernel
theorem dX3_in_10 : decode cX3_in 10 = .ok (.iconst 1, 1) := by decide +kernel
theorem dX3_in_11 : decode cX3_in 11 = .ok (.goto 4, 3) := by decide +kernel
theorem dX3_in_14 : decode cX3_in 14 = .ok (.iconst 0, 1) := by decide +kernel
theorem dX3_in_15 : decode cX3_in 15 = .ok (.ireturn, 1) := by decide +kernel
theorem dX3_size_0 : decode cX3_size 0 = .ok (.iload_n 0, 1) := by decide +kernel
theorem dX3_size_1 : decode cX3_size 1 = .ok (.ifCond .ge 8, 3) := by decide +kernel
theorem dX3_size_4 : decode cX3_size 4 = .ok (.iload_n 0, 1) := by decide +kernel
theorem dX3_size_5 : decode cX3_size 5 = .ok (.ineg, 1) := by decide +kernel
theorem dX3_size_6 : decode cX3_size 6 = .ok (.goto 4, 3) := by decide +kernel
theorem dX3_size_9 : decode cX3_size 9 = .ok (.iload_n 0, 1) := by decide +kernel
theorem dX3_size_10 : decode cX3_size 10 = .ok (.ireturn, 1) := by decide +kernel
set_option maxRecDepth 20000 in
theorem ggX3_isSetting_X3_in : GoodIn wsX3_isSetting wsX3_in := goodIn_r _ [5] (by decide +kernel) (by decide +kernel)
set_option maxRecDepth 20000 in
theorem gX3_isSetting_X3_in : GoodIn wsX3_isSetting (va_wsS RX3 33 yX3_in wsX3_in) := goodIn_app (goodIn_of _ (by decide +kernel)) ggX3_isSetting_X3_in
theorem dX3_isSetting_0 : decode cX3_isSetting 0 = .ok (.iload_n 1, 1) := by decide +kernel
theorem dX3_isSetting_1 : decode cX3_isSetting 1 = .ok (.iconst 0, 1) := by decide +kernel
theorem dX3_isSetting_2 : decode cX3_isSetting 2 = .ok (.aload_n 0, 1) := by decide +kernel
theorem dX3_isSetting_3 : decode cX3_isSetting 3 = .ok (.getfield 7, 3) := by decide +kernel
theorem dX3_isSetting_6 : decode cX3_isSetting 6 = .ok (.iconst 0, 1) := by decide +kernel
theorem dX3_isSetting_7 : decode cX3_isSetting 7 = .ok (.iaload, 1) := by decide +kernel
theorem dX3_isSetting_8 : decode cX3_isSetting 8 = .ok (.ifCond .ne 8, 3) := by decide +kernel
theorem dX3_isSetting_11 : decode cX3_isSetting 11 = .ok (.bipush 7, 2) := by decide +kernel
theorem dX3_isSetting_13 : decode cX3_isSetting 13 = .ok (.goto 5, 3) := by decide +kernel
theorem dX3_isSetting_16 : decode cX3_isSetting 16 = .ok (.bipush 6, 2) := by decide +kernel
theorem dX3_isSetting_18 : decode cX3_isSetting 18 = .ok (.invokestatic 33, 3) := by decide +kernel
theorem dX3_isSetting_21 : decode cX3_isSetting 21 = .ok (.ireturn, 1) := by decide +kernel
set_option maxRecDepth 20000 in
theorem ggX3_isWay_X3_in : GoodIn wsX3_isWay wsX3_in := goodIn_r _ [4] (by decide +kernel) (by decide +kernel)
set_option maxRecDepth 20000 in
theorem gX3_isWay_X3_in : GoodIn wsX3_isWay (va_wsS RX3 33 yX3_in wsX3_in) := goodIn_app (goodIn_of _ (by decide +kernel)) ggX3_isWay_X3_in
set_option maxRecDepth 20000 in
theorem ggX3_isWay_X3_isSetting : GoodIn wsX3_isWay wsX3_isSetting := goodIn_r _ [8, 9, 1, 2, 3, 4, 10, 11, 12, 13, 14, 15, 16] (by decide +kernel) (by decide +kernel)
set_option maxRecDepth 20000 in
theorem gX3_isWay_X3_isSetting : GoodIn wsX3_isWay (wsV RX3 37 RX3 yX3_isSetting wsX3_isSetting) := goodIn_app (goodIn_of _ (by decide +kernel)) ggX3_isWay_X3_isSetting
theorem dX3_isWay_0 : decode cX3_isWay 0 = .ok (.iload_n 1, 1) := by decide +kernel
theorem dX3_isWay_1 : decode cX3_isWay 1 = .ok (.iconst 0, 1) := by decide +kernel
theorem dX3_isWay_2 : decode cX3_isWay 2 = .ok (.bipush 63, 2) := by decide +kernel
theorem dX3_isWay_4 : decode cX3_isWay 4 = .ok (.invokestatic 33, 3) := by decide +kernel
theorem dX3_isWay_7 : decode cX3_isWay 7 = .ok (.ifCond .eq 18, 3) := by decide +kernel
theorem dX3_isWay_10 : decode cX3_isWay 10 = .ok (.aload_n 0, 1) := by decide +kernel
theorem dX3_isWay_11 : decode cX3_isWay 11 = .ok (.iload_n 1, 1) := by decide +kernel
theorem dX3_isWay_12 : decode cX3_isWay 12 = .ok (.bipush 8, 2) := by decide +kernel
theorem dX3_isWay_14 : decode cX3_isWay 14 = .ok (.irem, 1) := by decide +kernel
theorem dX3_isWay_15 : decode cX3_isWay 15 = .ok (.invokevirtual 37, 3) := by decide +kernel
theorem dX3_isWay_18 : decode cX3_isWay 18 = .ok (.ifCond .eq 7, 3) := by decide +kernel
theorem dX3_isWay_21 : decode cX3_isWay 21 = .ok (.iconst 1, 1) := by decide +kernel
theorem dX3_isWay_22 : decode cX3_isWay 22 = .ok (.goto 4, 3) := by decide +kernel
theorem dX3_isWay_25 : decode cX3_isWay 25 = .ok (.iconst 0, 1) := by decide +kernel
theorem dX3_isWay_26 : decode cX3_isWay 26 = .ok (.ireturn, 1) := by decide +kernel
set_option maxRecDepth 20000 in
theorem ggX3_isNote_X3_in : GoodIn wsX3_isNote wsX3_in := goodIn_r _ [4] (by decide +kernel) (by decide +kernel)
set_option maxRecDepth 20000 in
theorem gX3_isNote_X3_in : GoodIn wsX3_isNote (va_wsS RX3 33 yX3_in wsX3_in) := goodIn_app (goodIn_of _ (by decide +kernel)) ggX3_isNote_X3_in
theorem dX3_isNote_0 : decode cX3_isNote 0 = .ok (.iload_n 0, 1) := by decide +kernel
theorem dX3_isNote_1 : decode cX3_isNote 1 = .ok (.iconst 0, 1) := by decide +kernel
theorem dX3_isNote_2 : decode cX3_isNote 2 = .ok (.bipush 36, 2) := by decide +kernel
theorem dX3_isNote_4 : decode cX3_isNote 4 = .ok (.invokestatic 33, 3) := by decide +kernel
theorem dX3_isNote_7 : decode cX3_isNote 7 = .ok (.ireturn, 1) := by decide +kernel
set_option maxRecDepth 20000 in
theorem ggX3_isPlace_X3_in : GoodIn wsX3_isPlace wsX3_in := goodIn_r _ [5] (by decide +kernel) (by decide +kernel)
set_option maxRecDepth 20000 in
theorem gX3_isPlace_X3_in : GoodIn wsX3_isPlace (va_wsS RX3 33 yX3_in wsX3_in) := goodIn_app (goodIn_of _ (by decide +kernel)) ggX3_isPlace_X3_in
theorem dX3_isPlace_0 : decode cX3_isPlace 0 = .ok (.iload_n 1, 1) := by decide +kernel
theorem dX3_isPlace_1 : decode cX3_isPlace 1 = .ok (.iconst 0, 1) := by decide +kernel
theorem dX3_isPlace_2 : decode cX3_isPlace 2 = .ok (.aload_n 0, 1) := by decide +kernel
theorem dX3_isPlace_3 : decode cX3_isPlace 3 = .ok (.getfield 7, 3) := by decide +kernel
theorem dX3_isPlace_6 : decode cX3_isPlace 6 = .ok (.bipush 9, 2) := by decide +kernel
theorem dX3_isPlace_8 : decode cX3_isPlace 8 = .ok (.iaload, 1) := by decide +kernel
theorem dX3_isPlace_9 : decode cX3_isPlace 9 = .ok (.iconst 1, 1) := by decide +kernel
theorem dX3_isPlace_10 : decode cX3_isPlace 10 = .ok (.isub, 1) := by decide +kernel
theorem dX3_isPlace_11 : decode cX3_isPlace 11 = .ok (.invokestatic 33, 3) := by decide +kernel
theorem dX3_isPlace_14 : decode cX3_isPlace 14 = .ok (.ireturn, 1) := by decide +kernel
theorem dX3_bits_0 : decode cX3_bits 0 = .ok (.iload_n 0, 1) := by decide +kernel
theorem dX3_bits_1 : decode cX3_bits 1 = .ok (.iconst 1, 1) := by decide +kernel
theorem dX3_bits_2 : decode cX3_bits 2 = .ok (.iand, 1) := by decide +kernel
theorem dX3_bits_3 : decode cX3_bits 3 = .ok (.iload_n 0, 1) := by decide +kernel
theorem dX3_bits_4 : decode cX3_bits 4 = .ok (.iconst 1, 1) := by decide +kernel
theorem dX3_bits_5 : decode cX3_bits 5 = .ok (.ishr, 1) := by decide +kernel
theorem dX3_bits_6 : decode cX3_bits 6 = .ok (.iconst 1, 1) := by decide +kernel
theorem dX3_bits_7 : decode cX3_bits 7 = .ok (.iand, 1) := by decide +kernel
theorem dX3_bits_8 : decode cX3_bits 8 = .ok (.iadd, 1) := by decide +kernel
theorem dX3_bits_9 : decode cX3_bits 9 = .ok (.iload_n 0, 1) := by decide +kernel
theorem dX3_bits_10 : decode cX3_bits 10 = .ok (.iconst 2, 1) := by decide +kernel
theorem dX3_bits_11 : decode cX3_bits 11 = .ok (.ishr, 1) := by decide +kernel
theorem dX3_bits_12 : decode cX3_bits 12 = .ok (.iconst 1, 1) := by decide +kernel
theorem dX3_bits_13 : decode cX3_bits 13 = .ok (.iand, 1) := by decide +kernel
theorem dX3_bits_14 : decode cX3_bits 14 = .ok (.iadd, 1) := by decide +kernel
theorem dX3_bits_15 : decode cX3_bits 15 = .ok (.ireturn, 1) := by decide +kernel
set_option maxRecDepth 20000 in
theorem ggX3_lowersBy_X3_bits : GoodIn wsX3_lowersBy wsX3_bits := goodIn_r _ [5] (by decide +kernel) (by decide +kernel)
set_option maxRecDepth 20000 in
theorem gX3_lowersBy_X3_bits : GoodIn wsX3_lowersBy (va_wsS RX3 41 yX3_bits wsX3_bits) := goodIn_app (goodIn_of _ (by decide +kernel)) ggX3_lowersBy_X3_bits
theorem dX3_lowersBy_0 : decode cX3_lowersBy 0 = .ok (.aload_n 0, 1) := by decide +kernel
theorem dX3_lowersBy_1 : decode cX3_lowersBy 1 = .ok (.getfield 7, 3) := by decide +kernel
theorem dX3_lowersBy_4 : decode cX3_lowersBy 4 = .ok (.iconst 0, 1) := by decide +kernel
theorem dX3_lowersBy_5 : decode cX3_lowersBy 5 = .ok (.iaload, 1) := by decide +kernel
theorem dX3_lowersBy_6 : decode cX3_lowersBy 6 = .ok (.iconst 1, 1) := by decide +kernel
theorem dX3_lowersBy_7 : decode cX3_lowersBy 7 = .ok (.if_icmp .ne 8, 3) := by decide +kernel
theorem dX3_lowersBy_10 : decode cX3_lowersBy 10 = .ok (.bipush 100, 2) := by decide +kernel
theorem dX3_lowersBy_12 : decode cX3_lowersBy 12 = .ok (.iload_n 1, 1) := by decide +kernel
theorem dX3_lowersBy_13 : decode cX3_lowersBy 13 = .ok (.imul, 1) := by decide +kernel
theorem dX3_lowersBy_14 : decode cX3_lowersBy 14 = .ok (.ireturn, 1) := by decide +kernel
theorem dX3_lowersBy_15 : decode cX3_lowersBy 15 = .ok (.iconst 0, 1) := by decide +kernel
theorem dX3_lowersBy_16 : decode cX3_lowersBy 16 = .ok (.istore_n 2, 1) := by decide +kernel
theorem dX3_lowersBy_17 : decode cX3_lowersBy 17 = .ok (.iconst 0, 1) := by decide +kernel
theorem dX3_lowersBy_18 : decode cX3_lowersBy 18 = .ok (.istore_n 3, 1) := by decide +kernel
theorem dX3_lowersBy_19 : decode cX3_lowersBy 19 = .ok (.iload_n 3, 1) := by decide +kernel
theorem dX3_lowersBy_20 : decode cX3_lowersBy 20 = .ok (.iconst 3, 1) := by decide +kernel
theorem dX3_lowersBy_21 : decode cX3_lowersBy 21 = .ok (.if_icmp .ge 26, 3) := by decide +kernel
theorem dX3_lowersBy_24 : decode cX3_lowersBy 24 = .ok (.iload_n 2, 1) := by decide +kernel
theorem dX3_lowersBy_25 : decode cX3_lowersBy 25 = .ok (.iload_n 1, 1) := by decide +kernel
theorem dX3_lowersBy_26 : decode cX3_lowersBy 26 = .ok (.iload_n 3, 1) := by decide +kernel
theorem dX3_lowersBy_27 : decode cX3_lowersBy 27 = .ok (.ishr, 1) := by decide +kernel
theorem dX3_lowersBy_28 : decode cX3_lowersBy 28 = .ok (.iconst 1, 1) := by decide +kernel
theorem dX3_lowersBy_29 : decode cX3_lowersBy 29 = .ok (.iand, 1) := by decide +kernel
theorem dX3_lowersBy_30 : decode cX3_lowersBy 30 = .ok (.aload_n 0, 1) := by decide +kernel
theorem dX3_lowersBy_31 : decode cX3_lowersBy 31 = .ok (.getfield 7, 3) := by decide +kernel
theorem dX3_lowersBy_34 : decode cX3_lowersBy 34 = .ok (.iconst 1, 1) := by decide +kernel
theorem dX3_lowersBy_35 : decode cX3_lowersBy 35 = .ok (.iload_n 3, 1) := by decide +kernel
theorem dX3_lowersBy_36 : decode cX3_lowersBy 36 = .ok (.iadd, 1) := by decide +kernel
theorem dX3_lowersBy_37 : decode cX3_lowersBy 37 = .ok (.iaload, 1) := by decide +kernel
theorem dX3_lowersBy_38 : decode cX3_lowersBy 38 = .ok (.imul, 1) := by decide +kernel
theorem dX3_lowersBy_39 : decode cX3_lowersBy 39 = .ok (.iadd, 1) := by decide +kernel
theorem dX3_lowersBy_40 : decode cX3_lowersBy 40 = .ok (.istore_n 2, 1) := by decide +kernel
theorem dX3_lowersBy_41 : decode cX3_lowersBy 41 = .ok (.iinc 3 1, 3) := by decide +kernel
theorem dX3_lowersBy_44 : decode cX3_lowersBy 44 = .ok (.goto (-25), 3) := by decide +kernel
theorem dX3_lowersBy_47 : decode cX3_lowersBy 47 = .ok (.iload_n 1, 1) := by decide +kernel
theorem dX3_lowersBy_48 : decode cX3_lowersBy 48 = .ok (.invokestatic 41, 3) := by decide +kernel
theorem dX3_lowersBy_51 : decode cX3_lowersBy 51 = .ok (.istore_n 3, 1) := by decide +kernel
theorem dX3_lowersBy_52 : decode cX3_lowersBy 52 = .ok (.iload_n 2, 1) := by decide +kernel
theorem dX3_lowersBy_53 : decode cX3_lowersBy 53 = .ok (.aload_n 0, 1) := by decide +kernel
theorem dX3_lowersBy_54 : decode cX3_lowersBy 54 = .ok (.getfield 7, 3) := by decide +kernel
theorem dX3_lowersBy_57 : decode cX3_lowersBy 57 = .ok (.iconst 4, 1) := by decide +kernel
theorem dX3_lowersBy_58 : decode cX3_lowersBy 58 = .ok (.iaload, 1) := by decide +kernel
theorem dX3_lowersBy_59 : decode cX3_lowersBy 59 = .ok (.iload_n 3, 1) := by decide +kernel
theorem dX3_lowersBy_60 : decode cX3_lowersBy 60 = .ok (.iload_n 3, 1) := by decide +kernel
theorem dX3_lowersBy_61 : decode cX3_lowersBy 61 = .ok (.iconst 1, 1) := by decide +kernel
theorem dX3_lowersBy_62 : decode cX3_lowersBy 62 = .ok (.isub, 1) := by decide +kernel
theorem dX3_lowersBy_63 : decode cX3_lowersBy 63 = .ok (.imul, 1) := by decide +kernel
theorem dX3_lowersBy_64 : decode cX3_lowersBy 64 = .ok (.iconst 2, 1) := by decide +kernel
theorem dX3_lowersBy_65 : decode cX3_lowersBy 65 = .ok (.idiv, 1) := by decide +kernel
theorem dX3_lowersBy_66 : decode cX3_lowersBy 66 = .ok (.imul, 1) := by decide +kernel
theorem dX3_lowersBy_67 : decode cX3_lowersBy 67 = .ok (.isub, 1) := by decide +kernel
theorem dX3_lowersBy_68 : decode cX3_lowersBy 68 = .ok (.ireturn, 1) := by decide +kernel
theorem dX3_highOf_0 : decode cX3_highOf 0 = .ok (.iload_n 0, 1) := by decide +kernel
theorem dX3_highOf_1 : decode cX3_highOf 1 = .ok (.tableswitch 69 0 6 #[43, 45, 49, 53, 57, 61, 65], 43) := by decide +kernel
theorem dX3_highOf_44 : decode cX3_highOf 44 = .ok (.iconst 0, 1) := by decide +kernel
theorem dX3_highOf_45 : decode cX3_highOf 45 = .ok (.ireturn, 1) := by decide +kernel
theorem dX3_highOf_46 : decode cX3_highOf 46 = .ok (.sipush 1200, 3) := by decide +kernel
theorem dX3_highOf_49 : decode cX3_highOf 49 = .ok (.ireturn, 1) := by decide +kernel
theorem dX3_highOf_50 : decode cX3_highOf 50 = .ok (.sipush 1902, 3) := by decide +kernel
theorem dX3_highOf_53 : decode cX3_highOf 53 = .ok (.ireturn, 1) := by decide +kernel
theorem dX3_highOf_54 : decode cX3_highOf 54 = .ok (.sipush 2400, 3) := by decide +kernel
theorem dX3_highOf_57 : decode cX3_highOf 57 = .ok (.ireturn, 1) := by decide +kernel
theorem dX3_highOf_58 : decode cX3_highOf 58 = .ok (.sipush 2786, 3) := by decide +kernel
theorem dX3_highOf_61 : decode cX3_highOf 61 = .ok (.ireturn, 1) := by decide +kernel
theorem dX3_highOf_62 : decode cX3_highOf 62 = .ok (.sipush 3102, 3) := by decide +kernel
theorem dX3_highOf_65 : decode cX3_highOf 65 = .ok (.ireturn, 1) := by decide +kernel
theorem dX3_highOf_66 : decode cX3_highOf 66 = .ok (.sipush 3369, 3) := by decide +kernel
theorem dX3_highOf_69 : decode cX3_highOf 69 = .ok (.ireturn, 1) := by decide +kernel
theorem dX3_highOf_70 : decode cX3_highOf 70 = .ok (.sipush 3600, 3) := by decide +kernel
theorem dX3_highOf_73 : decode cX3_highOf 73 = .ok (.ireturn, 1) := by decide +kernel
set_option maxRecDepth 20000 in
theorem ggX3_offOf_X3_highOf : GoodIn wsX3_offOf wsX3_highOf := goodIn_r _ [4] (by decide +kernel) (by decide +kernel)
set_option maxRecDepth 20000 in
theorem gX3_offOf_X3_highOf : GoodIn wsX3_offOf (va_wsS RX3 45 yX3_highOf wsX3_highOf) := goodIn_app (goodIn_of _ (by decide +kernel)) ggX3_offOf_X3_highOf
set_option maxRecDepth 20000 in
theorem ggX3_offOf_X3_lowersBy : GoodIn wsX3_offOf wsX3_lowersBy := goodIn_r _ [8, 9, 10, 11, 3, 12, 13, 14, 15, 16, 17, 18, 19] (by decide +kernel) (by decide +kernel)
set_option maxRecDepth 20000 in
theorem gX3_offOf_X3_lowersBy : GoodIn wsX3_offOf (wsV RX3 48 RX3 yX3_lowersBy wsX3_lowersBy) := goodIn_app (goodIn_of _ (by decide +kernel)) ggX3_offOf_X3_lowersBy
theorem dX3_offOf_0 : decode cX3_offOf 0 = .ok (.iload_n 1, 1) := by decide +kernel
theorem dX3_offOf_1 : decode cX3_offOf 1 = .ok (.bipush 8, 2) := by decide +kernel
theorem dX3_offOf_3 : decode cX3_offOf 3 = .ok (.idiv, 1) := by decide +kernel
theorem dX3_offOf_4 : decode cX3_offOf 4 = .ok (.invokestatic 45, 3) := by decide +kernel
theorem dX3_offOf_7 : decode cX3_offOf 7 = .ok (.aload_n 0, 1) := by decide +kernel
theorem dX3_offOf_8 : decode cX3_offOf 8 = .ok (.iload_n 1, 1) := by decide +kernel
theorem dX3_offOf_9 : decode cX3_offOf 9 = .ok (.bipush 8, 2) := by decide +kernel
theorem dX3_offOf_11 : decode cX3_offOf 11 = .ok (.irem, 1) := by decide +kernel
theorem dX3_offOf_12 : decode cX3_offOf 12 = .ok (.invokevirtual 48, 3) := by decide +kernel
theorem dX3_offOf_15 : decode cX3_offOf 15 = .ok (.isub, 1) := by decide +kernel
theorem dX3_offOf_16 : decode cX3_offOf 16 = .ok (.bipush 100, 2) := by decide +kernel
theorem dX3_offOf_18 : decode cX3_offOf 18 = .ok (.iload_n 2, 1) := by decide +kernel
theorem dX3_offOf_19 : decode cX3_offOf 19 = .ok (.imul, 1) := by decide +kernel
theorem dX3_offOf_20 : decode cX3_offOf 20 = .ok (.isub, 1) := by decide +kernel
theorem dX3_offOf_21 : decode cX3_offOf 21 = .ok (.ireturn, 1) := by decide +kernel
set_option maxRecDepth 20000 in
theorem ggX3_sounds_X3_isWay : GoodIn wsX3_sounds wsX3_isWay := goodIn_r _ [6, 7, 8, 5, 9, 10, 11, 12, 13, 1, 31, 32, 33, 34, 35, 36, 37] (by decide +kernel) (by decide +kernel)
set_option maxRecDepth 20000 in
theorem gX3_sounds_X3_isWay : GoodIn wsX3_sounds (wsV RX3 51 RX3 yX3_isWay wsX3_isWay) := goodIn_app (goodIn_of _ (by decide +kernel)) ggX3_sounds_X3_isWay
set_option maxRecDepth 20000 in
theorem ggX3_sounds_X3_offOf : GoodIn wsX3_sounds wsX3_offOf := goodIn_r _ [17, 18, 19, 5, 20, 21, 22, 23, 24, 1, 25, 26, 27, 31, 32, 33, 34, 35, 36, 37] (by decide +kernel) (by decide +kernel)
set_option maxRecDepth 20000 in
theorem gX3_sounds_X3_offOf : GoodIn wsX3_sounds (wsV RX3 54 RX3 yX3_offOf wsX3_offOf) := goodIn_app (goodIn_of _ (by decide +kernel)) ggX3_sounds_X3_offOf
set_option maxRecDepth 20000 in
theorem ggX3_sounds_X3_size : GoodIn wsX3_sounds wsX3_size := goodIn_r _ [30] (by decide +kernel) (by decide +kernel)
set_option maxRecDepth 20000 in
theorem gX3_sounds_X3_size : GoodIn wsX3_sounds (va_wsS RX3 58 yX3_size wsX3_size) := goodIn_app (goodIn_of _ (by decide +kernel)) ggX3_sounds_X3_size
theorem dX3_sounds_0 : decode cX3_sounds 0 = .ok (.aload_n 0, 1) := by decide +kernel
theorem dX3_sounds_1 : decode cX3_sounds 1 = .ok (.iload_n 1, 1) := by decide +kernel
theorem dX3_sounds_2 : decode cX3_sounds 2 = .ok (.invokevirtual 51, 3) := by decide +kernel
theorem dX3_sounds_5 : decode cX3_sounds 5 = .ok (.ifCond .eq 25, 3) := by decide +kernel
theorem dX3_sounds_8 : decode cX3_sounds 8 = .ok (.aload_n 0, 1) := by decide +kernel
theorem dX3_sounds_9 : decode cX3_sounds 9 = .ok (.iload_n 1, 1) := by decide +kernel
theorem dX3_sounds_10 : decode cX3_sounds 10 = .ok (.iload_n 2, 1) := by decide +kernel
theorem dX3_sounds_11 : decode cX3_sounds 11 = .ok (.invokevirtual 54, 3) := by decide +kernel
theorem dX3_sounds_14 : decode cX3_sounds 14 = .ok (.invokestatic 58, 3) := by decide +kernel
theorem dX3_sounds_17 : decode cX3_sounds 17 = .ok (.aload_n 0, 1) := by decide +kernel
theorem dX3_sounds_18 : decode cX3_sounds 18 = .ok (.getfield 7, 3) := by decide +kernel
theorem dX3_sounds_21 : decode cX3_sounds 21 = .ok (.iconst 5, 1) := by decide +kernel
theorem dX3_sounds_22 : decode cX3_sounds 22 = .ok (.iaload, 1) := by decide +kernel
theorem dX3_sounds_23 : decode cX3_sounds 23 = .ok (.if_icmp .gt 7, 3) := by decide +kernel
theorem dX3_sounds_26 : decode cX3_sounds 26 = .ok (.iconst 1, 1) := by decide +kernel
theorem dX3_sounds_27 : decode cX3_sounds 27 = .ok (.goto 4, 3) := by decide +kernel
theorem dX3_sounds_30 : decode cX3_sounds 30 = .ok (.iconst 0, 1) := by decide +kernel
theorem dX3_sounds_31 : decode cX3_sounds 31 = .ok (.ireturn, 1) := by decide +kernel
set_option maxRecDepth 20000 in
theorem ggX3_horn_X3_in : GoodIn wsX3_horn wsX3_in := goodIn_r _ [5] (by decide +kernel) (by decide +kernel)
set_option maxRecDepth 20000 in
theorem gX3_horn_X3_in : GoodIn wsX3_horn (va_wsS RX3 33 yX3_in wsX3_in) := goodIn_app (goodIn_of _ (by decide +kernel)) ggX3_horn_X3_in
theorem dX3_horn_0 : decode cX3_horn 0 = .ok (.iload_n 1, 1) := by decide +kernel
theorem dX3_horn_1 : decode cX3_horn 1 = .ok (.iconst 0, 1) := by decide +kernel
theorem dX3_horn_2 : decode cX3_horn 2 = .ok (.iconst 1, 1) := by decide +kernel
theorem dX3_horn_3 : decode cX3_horn 3 = .ok (.invokestatic 33, 3) := by decide +kernel
theorem dX3_horn_6 : decode cX3_horn 6 = .ok (.ifCond .ne 6, 3) := by decide +kernel
theorem dX3_horn_9 : decode cX3_horn 9 = .ok (.bipush (-2), 2) := by decide +kernel
theorem dX3_horn_11 : decode cX3_horn 11 = .ok (.ireturn, 1) := by decide +kernel
theorem dX3_horn_12 : decode cX3_horn 12 = .ok (.aload_n 0, 1) := by decide +kernel
theorem dX3_horn_13 : decode cX3_horn 13 = .ok (.getfield 7, 3) := by decide +kernel
theorem dX3_horn_16 : decode cX3_horn 16 = .ok (.iconst 0, 1) := by decide +kernel
theorem dX3_horn_17 : decode cX3_horn 17 = .ok (.iaload, 1) := by decide +kernel
theorem dX3_horn_18 : decode cX3_horn 18 = .ok (.istore_n 2, 1) := by decide +kernel
theorem dX3_horn_19 : decode cX3_horn 19 = .ok (.aload_n 0, 1) := by decide +kernel
theorem dX3_horn_20 : decode cX3_horn 20 = .ok (.getfield 7, 3) := by decide +kernel
theorem dX3_horn_23 : decode cX3_horn 23 = .ok (.iconst 0, 1) := by decide +kernel
theorem dX3_horn_24 : decode cX3_horn 24 = .ok (.iload_n 1, 1) := by decide +kernel
theorem dX3_horn_25 : decode cX3_horn 25 = .ok (.iastore, 1) := by decide +kernel
theorem dX3_horn_26 : decode cX3_horn 26 = .ok (.iload_n 2, 1) := by decide +kernel
theorem dX3_horn_27 : decode cX3_horn 27 = .ok (.ireturn, 1) := by decide +kernel
set_option maxRecDepth 20000 in
theorem ggX3_valve_X3_in : GoodIn wsX3_valve wsX3_in := goodIn_r _ [5] (by decide +kernel) (by decide +kernel)
set_option maxRecDepth 20000 in
theorem gX3_valve_X3_in : GoodIn wsX3_valve (va_wsS RX3 33 yX3_in wsX3_in) := goodIn_app (goodIn_of _ (by decide +kernel)) ggX3_valve_X3_in
theorem dX3_valve_0 : decode cX3_valve 0 = .ok (.iload_n 1, 1) := by decide +kernel
theorem dX3_valve_1 : decode cX3_valve 1 = .ok (.iconst 0, 1) := by decide +kernel
theorem dX3_valve_2 : decode cX3_valve 2 = .ok (.iconst 2, 1) := by decide +kernel
theorem dX3_valve_3 : decode cX3_valve 3 = .ok (.invokestatic 33, 3) := by decide +kernel
theorem dX3_valve_6 : decode cX3_valve 6 = .ok (.ifCond .ne 5, 3) := by decide +kernel
theorem dX3_valve_9 : decode cX3_valve 9 = .ok (.iconst (-1), 1) := by decide +kernel
theorem dX3_valve_10 : decode cX3_valve 10 = .ok (.ireturn, 1) := by decide +kernel
theorem dX3_valve_11 : decode cX3_valve 11 = .ok (.iload_n 2, 1) := by decide +kernel
theorem dX3_valve_12 : decode cX3_valve 12 = .ok (.iconst 0, 1) := by decide +kernel
theorem dX3_valve_13 : decode cX3_valve 13 = .ok (.sipush 400, 3) := by decide +kernel
theorem dX3_valve_16 : decode cX3_valve 16 = .ok (.invokestatic 33, 3) := by decide +kernel
theorem dX3_valve_19 : decode cX3_valve 19 = .ok (.ifCond .ne 6, 3) := by decide +kernel
theorem dX3_valve_22 : decode cX3_valve 22 = .ok (.bipush (-2), 2) := by decide +kernel
theorem dX3_valve_24 : decode cX3_valve 24 = .ok (.ireturn, 1) := by decide +kernel
theorem dX3_valve_25 : decode cX3_valve 25 = .ok (.aload_n 0, 1) := by decide +kernel
theorem dX3_valve_26 : decode cX3_valve 26 = .ok (.getfield 7, 3) := by decide +kernel
theorem dX3_valve_29 : decode cX3_valve 29 = .ok (.iconst 1, 1) := by decide +kernel
theorem dX3_valve_30 : decode cX3_valve 30 = .ok (.iload_n 1, 1) := by decide +kernel
theorem dX3_valve_31 : decode cX3_valve 31 = .ok (.iadd, 1) := by decide +kernel
theorem dX3_valve_32 : decode cX3_valve 32 = .ok (.iaload, 1) := by decide +kernel
theorem dX3_valve_33 : decode cX3_valve 33 = .ok (.istore_n 3, 1) := by decide +kernel
theorem dX3_valve_34 : decode cX3_valve 34 = .ok (.aload_n 0, 1) := by decide +kernel
theorem dX3_valve_35 : decode cX3_valve 35 = .ok (.getfield 7, 3) := by decide +kernel
theorem dX3_valve_38 : decode cX3_valve 38 = .ok (.iconst 1, 1) := by decide +kernel
theorem dX3_valve_39 : decode cX3_valve 39 = .ok (.iload_n 1, 1) := by decide +kernel
theorem dX3_valve_40 : decode cX3_valve 40 = .ok (.iadd, 1) := by decide +kernel
theorem dX3_valve_41 : decode cX3_valve 41 = .ok (.iload_n 2, 1) := by decide +kernel
theorem dX3_valve_42 : decode cX3_valve 42 = .ok (.iastore, 1) := by decide +kernel
theorem dX3_valve_43 : decode cX3_valve 43 = .ok (.iload_n 3, 1) := by decide +kernel
theorem dX3_valve_44 : decode cX3_valve 44 = .ok (.ireturn, 1) := by decide +kernel
set_option maxRecDepth 20000 in
theorem ggX3_rule_X3_in : GoodIn wsX3_rule wsX3_in := goodIn_r _ [5] (by decide +kernel) (by decide +kernel)
set_option maxRecDepth 20000 in
theorem gX3_rule_X3_in : GoodIn wsX3_rule (va_wsS RX3 33 yX3_in wsX3_in) := goodIn_app (goodIn_of _ (by decide +kernel)) ggX3_rule_X3_in
theorem dX3_rule_0 : decode cX3_rule 0 = .ok (.iload_n 1, 1) := by decide +kernel
theorem dX3_rule_1 : decode cX3_rule 1 = .ok (.iconst 0, 1) := by decide +kernel
theorem dX3_rule_2 : decode cX3_rule 2 = .ok (.iconst 4, 1) := by decide +kernel
theorem dX3_rule_3 : decode cX3_rule 3 = .ok (.invokestatic 33, 3) := by decide +kernel
theorem dX3_rule_6 : decode cX3_rule 6 = .ok (.ifCond .eq 32, 3) := by decide +kernel
theorem dX3_rule_9 : decode cX3_rule 9 = .ok (.iload_n 2, 1) := by decide +kernel
theorem dX3_rule_10 : decode cX3_rule 10 = .ok (.iconst 0, 1) := by decide +kernel
theorem dX3_rule_11 : decode cX3_rule 11 = .ok (.iload_n 1, 1) := by decide +kernel
theorem dX3_rule_12 : decode cX3_rule 12 = .ok (.ifCond .ne 8, 3) := by decide +kernel
theorem dX3_rule_15 : decode cX3_rule 15 = .ok (.bipush 50, 2) := by decide +kernel
theorem dX3_rule_17 : decode cX3_rule 17 = .ok (.goto 15, 3) := by decide +kernel
theorem dX3_rule_20 : decode cX3_rule 20 = .ok (.iload_n 1, 1) := by decide +kernel
theorem dX3_rule_21 : decode cX3_rule 21 = .ok (.iconst 1, 1) := by decide +kernel
theorem dX3_rule_22 : decode cX3_rule 22 = .ok (.if_icmp .ne 8, 3) := by decide +kernel
theorem dX3_rule_25 : decode cX3_rule 25 = .ok (.bipush 99, 2) := by decide +kernel
theorem dX3_rule_27 : decode cX3_rule 27 = .ok (.goto 5, 3) := by decide +kernel
theorem dX3_rule_30 : decode cX3_rule 30 = .ok (.bipush 9, 2) := by decide +kernel
theorem dX3_rule_32 : decode cX3_rule 32 = .ok (.invokestatic 33, 3) := by decide +kernel
theorem dX3_rule_35 : decode cX3_rule 35 = .ok (.ifCond .ne 6, 3) := by decide +kernel
theorem dX3_rule_38 : decode cX3_rule 38 = .ok (.bipush (-2), 2) := by decide +kernel
theorem dX3_rule_40 : decode cX3_rule 40 = .ok (.ireturn, 1) := by decide +kernel
theorem dX3_rule_41 : decode cX3_rule 41 = .ok (.aload_n 0, 1) := by decide +kernel
theorem dX3_rule_42 : decode cX3_rule 42 = .ok (.getfield 7, 3) := by decide +kernel
theorem dX3_rule_45 : decode cX3_rule 45 = .ok (.iconst 4, 1) := by decide +kernel
theorem dX3_rule_46 : decode cX3_rule 46 = .ok (.iload_n 1, 1) := by decide +kernel
theorem dX3_rule_47 : decode cX3_rule 47 = .ok (.iadd, 1) := by decide +kernel
theorem dX3_rule_48 : decode cX3_rule 48 = .ok (.iaload, 1) := by decide +kernel
theorem dX3_rule_49 : decode cX3_rule 49 = .ok (.istore_n 3, 1) := by decide +kernel
theorem dX3_rule_50 : decode cX3_rule 50 = .ok (.aload_n 0, 1) := by decide +kernel
theorem dX3_rule_51 : decode cX3_rule 51 = .ok (.getfield 7, 3) := by decide +kernel
theorem dX3_rule_54 : decode cX3_rule 54 = .ok (.iconst 4, 1) := by decide +kernel
theorem dX3_rule_55 : decode cX3_rule 55 = .ok (.iload_n 1, 1) := by decide +kernel
theorem dX3_rule_56 : decode cX3_rule 56 = .ok (.iadd, 1) := by decide +kernel
theorem dX3_rule_57 : decode cX3_rule 57 = .ok (.iload_n 2, 1) := by decide +kernel
theorem dX3_rule_58 : decode cX3_rule 58 = .ok (.iastore, 1) := by decide +kernel
theorem dX3_rule_59 : decode cX3_rule 59 = .ok (.iload_n 3, 1) := by decide +kernel
theorem dX3_rule_60 : decode cX3_rule 60 = .ok (.ireturn, 1) := by decide +kernel
set_option maxRecDepth 20000 in
theorem ggX3_lowers_X3_isSetting : GoodIn wsX3_lowers wsX3_isSetting := goodIn_r _ [5, 6, 7, 8, 4, 9, 17, 18, 19, 20, 21, 22, 23] (by decide +kernel) (by decide +kernel)
set_option maxRecDepth 20000 in
theorem gX3_lowers_X3_isSetting : GoodIn wsX3_lowers (wsV RX3 37 RX3 yX3_isSetting wsX3_isSetting) := goodIn_app (goodIn_of _ (by decide +kernel)) ggX3_lowers_X3_isSetting
set_option maxRecDepth 20000 in
theorem ggX3_lowers_X3_lowersBy : GoodIn wsX3_lowers wsX3_lowersBy := goodIn_r _ [13, 6, 14, 15, 4, 16, 17, 18, 19, 20, 21, 22, 23] (by decide +kernel) (by decide +kernel)
set_option maxRecDepth 20000 in
theorem gX3_lowers_X3_lowersBy : GoodIn wsX3_lowers (wsV RX3 48 RX3 yX3_lowersBy wsX3_lowersBy) := goodIn_app (goodIn_of _ (by decide +kernel)) ggX3_lowers_X3_lowersBy
theorem dX3_lowers_0 : decode cX3_lowers 0 = .ok (.aload_n 0, 1) := by decide +kernel
theorem dX3_lowers_1 : decode cX3_lowers 1 = .ok (.iload_n 1, 1) := by decide +kernel
theorem dX3_lowers_2 : decode cX3_lowers 2 = .ok (.invokevirtual 37, 3) := by decide +kernel
theorem dX3_lowers_5 : decode cX3_lowers 5 = .ok (.ifCond .eq 15, 3) := by decide +kernel
theorem dX3_lowers_8 : decode cX3_lowers 8 = .ok (.aload_n 0, 1) := by decide +kernel
theorem dX3_lowers_9 : decode cX3_lowers 9 = .ok (.iload_n 1, 1) := by decide +kernel
theorem dX3_lowers_10 : decode cX3_lowers 10 = .ok (.invokevirtual 48, 3) := by decide +kernel
theorem dX3_lowers_13 : decode cX3_lowers 13 = .ok (.sipush 1000, 3) := by decide +kernel
theorem dX3_lowers_16 : decode cX3_lowers 16 = .ok (.iadd, 1) := by decide +kernel
theorem dX3_lowers_17 : decode cX3_lowers 17 = .ok (.goto 5, 3) := by decide +kernel
theorem dX3_lowers_20 : decode cX3_lowers 20 = .ok (.bipush (-2), 2) := by decide +kernel
theorem dX3_lowers_22 : decode cX3_lowers 22 = .ok (.ireturn, 1) := by decide +kernel
set_option maxRecDepth 20000 in
theorem ggX3_off_X3_isWay : GoodIn wsX3_off wsX3_isWay := goodIn_r _ [5, 6, 7, 4, 8, 9, 10, 11, 12, 13, 31, 32, 33, 34, 35, 36, 37] (by decide +kernel) (by decide +kernel)
set_option maxRecDepth 20000 in
theorem gX3_off_X3_isWay : GoodIn wsX3_off (wsV RX3 51 RX3 yX3_isWay wsX3_isWay) := goodIn_app (goodIn_of _ (by decide +kernel)) ggX3_off_X3_isWay
set_option maxRecDepth 20000 in
theorem ggX3_off_X3_isNote : GoodIn wsX3_off wsX3_isNote := goodIn_r _ [16, 6, 7, 4, 8] (by decide +kernel) (by decide +kernel)
set_option maxRecDepth 20000 in
theorem gX3_off_X3_isNote : GoodIn wsX3_off (va_wsS RX3 61 yX3_isNote wsX3_isNote) := goodIn_app (goodIn_of _ (by decide +kernel)) ggX3_off_X3_isNote
set_option maxRecDepth 20000 in
theorem ggX3_off_X3_offOf : GoodIn wsX3_off wsX3_offOf := goodIn_r _ [20, 21, 22, 4, 23, 24, 25, 26, 27, 13, 28, 29, 30, 31, 32, 33, 34, 35, 36, 37] (by decide +kernel) (by decide +kernel)
set_option maxRecDepth 20000 in
theorem gX3_off_X3_offOf : GoodIn wsX3_off (wsV RX3 54 RX3 yX3_offOf wsX3_offOf) := goodIn_app (goodIn_of _ (by decide +kernel)) ggX3_off_X3_offOf
theorem dX3_off_0 : decode cX3_off 0 = .ok (.aload_n 0, 1) := by decide +kernel
theorem dX3_off_1 : decode cX3_off 1 = .ok (.iload_n 1, 1) := by decide +kernel
theorem dX3_off_2 : decode cX3_off 2 = .ok (.invokevirtual 51, 3) := by decide +kernel
theorem dX3_off_5 : decode cX3_off 5 = .ok (.ifCond .eq 23, 3) := by decide +kernel
theorem dX3_off_8 : decode cX3_off 8 = .ok (.iload_n 2, 1) := by decide +kernel
theorem dX3_off_9 : decode cX3_off 9 = .ok (.invokestatic 61, 3) := by decide +kernel
theorem dX3_off_12 : decode cX3_off 12 = .ok (.ifCond .eq 16, 3) := by decide +kernel
theorem dX3_off_15 : decode cX3_off 15 = .ok (.aload_n 0, 1) := by decide +kernel
theorem dX3_off_16 : decode cX3_off 16 = .ok (.iload_n 1, 1) := by decide +kernel
theorem dX3_off_17 : decode cX3_off 17 = .ok (.iload_n 2, 1) := by decide +kernel
theorem dX3_off_18 : decode cX3_off 18 = .ok (.invokevirtual 54, 3) := by decide +kernel
theorem dX3_off_21 : decode cX3_off 21 = .ok (.sipush 10000, 3) := by decide +kernel
theorem dX3_off_24 : decode cX3_off 24 = .ok (.iadd, 1) := by decide +kernel
theorem dX3_off_25 : decode cX3_off 25 = .ok (.goto 5, 3) := by decide +kernel
theorem dX3_off_28 : decode cX3_off 28 = .ok (.bipush (-2), 2) := by decide +kernel
theorem dX3_off_30 : decode cX3_off 30 = .ok (.ireturn, 1) := by decide +kernel
set_option maxRecDepth 20000 in
theorem ggX3_waysOf_X3_sounds : GoodIn wsX3_waysOf wsX3_sounds := goodIn_r _ [5, 6, 7, 8, 9, 4, 10, 11, 12, 13, 14, 15, 16, 17, 18, 19, 20, 21, 22, 23, 24, 25, 26, 27, 28, 29, 30, 31, 32, 33, 34, 35, 36, 37, 38, 39, 40, 41] (by decide +kernel) (by decide +kernel)
set_option maxRecDepth 20000 in
theorem gX3_waysOf_X3_sounds : GoodIn wsX3_waysOf (wsV RX3 64 RX3 yX3_sounds wsX3_sounds) := goodIn_app (goodIn_of _ (by decide +kernel)) ggX3_waysOf_X3_sounds
theorem dX3_waysOf_0 : decode cX3_waysOf 0 = .ok (.iconst 0, 1) := by decide +kernel
theorem dX3_waysOf_1 : decode cX3_waysOf 1 = .ok (.istore_n 2, 1) := by decide +kernel
theorem dX3_waysOf_2 : decode cX3_waysOf 2 = .ok (.iconst 0, 1) := by decide +kernel
theorem dX3_waysOf_3 : decode cX3_waysOf 3 = .ok (.istore_n 3, 1) := by decide +kernel
theorem dX3_waysOf_4 : decode cX3_waysOf 4 = .ok (.iload_n 3, 1) := by decide +kernel
theorem dX3_waysOf_5 : decode cX3_waysOf 5 = .ok (.bipush 64, 2) := by decide +kernel
theorem dX3_waysOf_7 : decode cX3_waysOf 7 = .ok (.if_icmp .ge 26, 3) := by decide +kernel
theorem dX3_waysOf_10 : decode cX3_waysOf 10 = .ok (.iload_n 2, 1) := by decide +kernel
theorem dX3_waysOf_11 : decode cX3_waysOf 11 = .ok (.aload_n 0, 1) := by decide +kernel
theorem dX3_waysOf_12 : decode cX3_waysOf 12 = .ok (.iload_n 3, 1) := by decide +kernel
theorem dX3_waysOf_13 : decode cX3_waysOf 13 = .ok (.iload_n 1, 1) := by decide +kernel
theorem dX3_waysOf_14 : decode cX3_waysOf 14 = .ok (.invokevirtual 64, 3) := by decide +kernel
theorem dX3_waysOf_17 : decode cX3_waysOf 17 = .ok (.ifCond .eq 7, 3) := by decide +kernel
theorem dX3_waysOf_20 : decode cX3_waysOf 20 = .ok (.iconst 1, 1) := by decide +kernel
theorem dX3_waysOf_21 : decode cX3_waysOf 21 = .ok (.goto 4, 3) := by decide +kernel
theorem dX3_waysOf_24 : decode cX3_waysOf 24 = .ok (.iconst 0, 1) := by decide +kernel
theorem dX3_waysOf_25 : decode cX3_waysOf 25 = .ok (.iadd, 1) := by decide +kernel
theorem dX3_waysOf_26 : decode cX3_waysOf 26 = .ok (.istore_n 2, 1) := by decide +kernel
theorem dX3_waysOf_27 : decode cX3_waysOf 27 = .ok (.iinc 3 1, 3) := by decide +kernel
theorem dX3_waysOf_30 : decode cX3_waysOf 30 = .ok (.goto (-26), 3) := by decide +kernel
theorem dX3_waysOf_33 : decode cX3_waysOf 33 = .ok (.iload_n 2, 1) := by decide +kernel
theorem dX3_waysOf_34 : decode cX3_waysOf 34 = .ok (.ireturn, 1) := by decide +kernel
set_option maxRecDepth 20000 in
theorem ggX3_ways_X3_isNote : GoodIn wsX3_ways wsX3_isNote := goodIn_r _ [4, 5, 6, 3, 7] (by decide +kernel) (by decide +kernel)
set_option maxRecDepth 20000 in
theorem gX3_ways_X3_isNote : GoodIn wsX3_ways (va_wsS RX3 61 yX3_isNote wsX3_isNote) := goodIn_app (goodIn_of _ (by decide +kernel)) ggX3_ways_X3_isNote
set_option maxRecDepth 20000 in
theorem ggX3_ways_X3_waysOf : GoodIn wsX3_ways wsX3_waysOf := goodIn_r _ [11, 12, 13, 14, 3, 15, 16, 17, 18, 19, 20, 5, 6, 7, 21, 22, 23, 24, 25, 26, 27, 28, 29, 30, 31, 32, 33, 34, 35, 36, 37, 38, 39, 40, 41, 42, 43, 44, 45, 46, 47, 48] (by decide +kernel) (by decide +kernel)
set_option maxRecDepth 20000 in
theorem gX3_ways_X3_waysOf : GoodIn wsX3_ways (wsV RX3 68 RX3 yX3_waysOf wsX3_waysOf) := goodIn_app (goodIn_of _ (by decide +kernel)) ggX3_ways_X3_waysOf
set_option maxRecDepth 20000 in
theorem ggX3_ways_X3_sounds : GoodIn wsX3_ways wsX3_sounds := goodIn_r _ [15, 16, 17, 18, 19, 3, 20, 5, 6, 7, 21, 22, 23, 24, 25, 26, 27, 28, 29, 30, 31, 32, 33, 34, 35, 36, 37, 38, 39, 40, 41, 42, 43, 44, 45, 46, 47, 48] (by decide +kernel) (by decide +kernel)
set_option maxRecDepth 20000 in
theorem gX3_ways_X3_sounds : GoodIn wsX3_ways (wsV RX3 64 RX3 yX3_sounds wsX3_sounds) := goodIn_app (goodIn_of _ (by decide +kernel)) ggX3_ways_X3_sounds
theorem dX3_ways_0 : decode cX3_ways 0 = .ok (.iload_n 1, 1) := by decide +kernel
theorem dX3_ways_1 : decode cX3_ways 1 = .ok (.invokestatic 61, 3) := by decide +kernel
theorem dX3_ways_4 : decode cX3_ways 4 = .ok (.ifCond .eq 8, 3) := by decide +kernel
theorem dX3_ways_7 : decode cX3_ways 7 = .ok (.iload_n 2, 1) := by decide +kernel
theorem dX3_ways_8 : decode cX3_ways 8 = .ok (.iconst (-1), 1) := by decide +kernel
theorem dX3_ways_9 : decode cX3_ways 9 = .ok (.if_icmp .ge 6, 3) := by decide +kernel
theorem dX3_ways_12 : decode cX3_ways 12 = .ok (.bipush (-2), 2) := by decide +kernel
theorem dX3_ways_14 : decode cX3_ways 14 = .ok (.ireturn, 1) := by decide +kernel
theorem dX3_ways_15 : decode cX3_ways 15 = .ok (.iload_n 2, 1) := by decide +kernel
theorem dX3_ways_16 : decode cX3_ways 16 = .ok (.iconst (-1), 1) := by decide +kernel
theorem dX3_ways_17 : decode cX3_ways 17 = .ok (.if_icmp .ne 9, 3) := by decide +kernel
theorem dX3_ways_20 : decode cX3_ways 20 = .ok (.aload_n 0, 1) := by decide +kernel
theorem dX3_ways_21 : decode cX3_ways 21 = .ok (.iload_n 1, 1) := by decide +kernel
theorem dX3_ways_22 : decode cX3_ways 22 = .ok (.invokevirtual 68, 3) := by decide +kernel
theorem dX3_ways_25 : decode cX3_ways 25 = .ok (.ireturn, 1) := by decide +kernel
theorem dX3_ways_26 : decode cX3_ways 26 = .ok (.iconst 0, 1) := by decide +kernel
theorem dX3_ways_27 : decode cX3_ways 27 = .ok (.istore_n 3, 1) := by decide +kernel
theorem dX3_ways_28 : decode cX3_ways 28 = .ok (.iconst 0, 1) := by decide +kernel
theorem dX3_ways_29 : decode cX3_ways 29 = .ok (.istore 4, 2) := by decide +kernel
theorem dX3_ways_31 : decode cX3_ways 31 = .ok (.iload 4, 2) := by decide +kernel
theorem dX3_ways_33 : decode cX3_ways 33 = .ok (.bipush 64, 2) := by decide +kernel
theorem dX3_ways_35 : decode cX3_ways 35 = .ok (.if_icmp .ge 30, 3) := by decide +kernel
theorem dX3_ways_38 : decode cX3_ways 38 = .ok (.aload_n 0, 1) := by decide +kernel
theorem dX3_ways_39 : decode cX3_ways 39 = .ok (.iload 4, 2) := by decide +kernel
theorem dX3_ways_41 : decode cX3_ways 41 = .ok (.iload_n 1, 1) := by decide +kernel
theorem dX3_ways_42 : decode cX3_ways 42 = .ok (.invokevirtual 64, 3) := by decide +kernel
theorem dX3_ways_45 : decode cX3_ways 45 = .ok (.ifCond .eq 14, 3) := by decide +kernel
theorem dX3_ways_48 : decode cX3_ways 48 = .ok (.iload_n 3, 1) := by decide +kernel
theorem dX3_ways_49 : decode cX3_ways 49 = .ok (.iload_n 2, 1) := by decide +kernel
theorem dX3_ways_50 : decode cX3_ways 50 = .ok (.if_icmp .ne 6, 3) := by decide +kernel
theorem dX3_ways_53 : decode cX3_ways 53 = .ok (.iload 4, 2) := by decide +kernel
theorem dX3_ways_55 : decode cX3_ways 55 = .ok (.ireturn, 1) := by decide +kernel
theorem dX3_ways_56 : decode cX3_ways 56 = .ok (.iinc 3 1, 3) := by decide +kernel
theorem dX3_ways_59 : decode cX3_ways 59 = .ok (.iinc 4 1, 3) := by decide +kernel
theorem dX3_ways_62 : decode cX3_ways 62 = .ok (.goto (-31), 3) := by decide +kernel
theorem dX3_ways_65 : decode cX3_ways 65 = .ok (.bipush (-6), 2) := by decide +kernel
theorem dX3_ways_67 : decode cX3_ways 67 = .ok (.ireturn, 1) := by decide +kernel
set_option maxRecDepth 20000 in
theorem ggX3_truest_X3_isNote : GoodIn wsX3_truest wsX3_isNote := goodIn_r _ [4, 5, 6, 3, 7] (by decide +kernel) (by decide +kernel)
set_option maxRecDepth 20000 in
theorem gX3_truest_X3_isNote : GoodIn wsX3_truest (va_wsS RX3 61 yX3_isNote wsX3_isNote) := goodIn_app (goodIn_of _ (by decide +kernel)) ggX3_truest_X3_isNote
set_option maxRecDepth 20000 in
theorem ggX3_truest_X3_sounds : GoodIn wsX3_truest wsX3_sounds := goodIn_r _ [11, 12, 13, 14, 15, 3, 16, 5, 6, 7, 17, 18, 19, 20, 21, 22, 23, 24, 25, 26, 27, 28, 29, 30, 31, 32, 33, 34, 35, 36, 37, 38, 39, 40, 41, 42, 43, 44] (by decide +kernel) (by decide +kernel)
set_option maxRecDepth 20000 in
theorem gX3_truest_X3_sounds : GoodIn wsX3_truest (wsV RX3 64 RX3 yX3_sounds wsX3_sounds) := goodIn_app (goodIn_of _ (by decide +kernel)) ggX3_truest_X3_sounds
set_option maxRecDepth 20000 in
theorem ggX3_truest_X3_offOf : GoodIn wsX3_truest wsX3_offOf := goodIn_r _ [24, 25, 26, 3, 27, 28, 29, 30, 31, 12, 32, 33, 34, 38, 39, 40, 41, 42, 43, 44] (by decide +kernel) (by decide +kernel)
set_option maxRecDepth 20000 in
theorem gX3_truest_X3_offOf : GoodIn wsX3_truest (wsV RX3 54 RX3 yX3_offOf wsX3_offOf) := goodIn_app (goodIn_of _ (by decide +kernel)) ggX3_truest_X3_offOf
set_option maxRecDepth 20000 in
theorem ggX3_truest_X3_size : GoodIn wsX3_truest wsX3_size := goodIn_r _ [37] (by decide +kernel) (by decide +kernel)
set_option maxRecDepth 20000 in
theorem gX3_truest_X3_size : GoodIn wsX3_truest (va_wsS RX3 58 yX3_size wsX3_size) := goodIn_app (goodIn_of _ (by decide +kernel)) ggX3_truest_X3_size
theorem dX3_truest_0 : decode cX3_truest 0 = .ok (.iload_n 1, 1) := by decide +kernel
theorem dX3_truest_1 : decode cX3_truest 1 = .ok (.invokestatic 61, 3) := by decide +kernel
theorem dX3_truest_4 : decode cX3_truest 4 = .ok (.ifCond .ne 6, 3) := by decide +kernel
theorem dX3_truest_7 : decode cX3_truest 7 = .ok (.bipush (-2), 2) := by decide +kernel
theorem dX3_truest_9 : decode cX3_truest 9 = .ok (.ireturn, 1) := by decide +kernel
theorem dX3_truest_10 : decode cX3_truest 10 = .ok (.bipush (-6), 2) := by decide +kernel
theorem dX3_truest_12 : decode cX3_truest 12 = .ok (.istore_n 2, 1) := by decide +kernel
theorem dX3_truest_13 : decode cX3_truest 13 = .ok (.iconst 0, 1) := by decide +kernel
theorem dX3_truest_14 : decode cX3_truest 14 = .ok (.istore_n 3, 1) := by decide +kernel
theorem dX3_truest_15 : decode cX3_truest 15 = .ok (.iload_n 3, 1) := by decide +kernel
theorem dX3_truest_16 : decode cX3_truest 16 = .ok (.bipush 64, 2) := by decide +kernel
theorem dX3_truest_18 : decode cX3_truest 18 = .ok (.if_icmp .ge 49, 3) := by decide +kernel
theorem dX3_truest_21 : decode cX3_truest 21 = .ok (.aload_n 0, 1) := by decide +kernel
theorem dX3_truest_22 : decode cX3_truest 22 = .ok (.iload_n 3, 1) := by decide +kernel
theorem dX3_truest_23 : decode cX3_truest 23 = .ok (.iload_n 1, 1) := by decide +kernel
theorem dX3_truest_24 : decode cX3_truest 24 = .ok (.invokevirtual 64, 3) := by decide +kernel
theorem dX3_truest_27 : decode cX3_truest 27 = .ok (.ifCond .eq 32, 3) := by decide +kernel
theorem dX3_truest_30 : decode cX3_truest 30 = .ok (.iload_n 2, 1) := by decide +kernel
theorem dX3_truest_31 : decode cX3_truest 31 = .ok (.ifCond .lt 24, 3) := by decide +kernel
theorem dX3_truest_34 : decode cX3_truest 34 = .ok (.aload_n 0, 1) := by decide +kernel
theorem dX3_truest_35 : decode cX3_truest 35 = .ok (.iload_n 3, 1) := by decide +kernel
theorem dX3_truest_36 : decode cX3_truest 36 = .ok (.iload_n 1, 1) := by decide +kernel
theorem dX3_truest_37 : decode cX3_truest 37 = .ok (.invokevirtual 54, 3) := by decide +kernel
theorem dX3_truest_40 : decode cX3_truest 40 = .ok (.invokestatic 58, 3) := by decide +kernel
theorem dX3_truest_43 : decode cX3_truest 43 = .ok (.aload_n 0, 1) := by decide +kernel
theorem dX3_truest_44 : decode cX3_truest 44 = .ok (.iload_n 2, 1) := by decide +kernel
theorem dX3_truest_45 : decode cX3_truest 45 = .ok (.iload_n 1, 1) := by decide +kernel
theorem dX3_truest_46 : decode cX3_truest 46 = .ok (.invokevirtual 54, 3) := by decide +kernel
theorem dX3_truest_49 : decode cX3_truest 49 = .ok (.invokestatic 58, 3) := by decide +kernel
theorem dX3_truest_52 : decode cX3_truest 52 = .ok (.if_icmp .ge 7, 3) := by decide +kernel
theorem dX3_truest_55 : decode cX3_truest 55 = .ok (.iload_n 3, 1) := by decide +kernel
theorem dX3_truest_56 : decode cX3_truest 56 = .ok (.goto 4, 3) := by decide +kernel
theorem dX3_truest_59 : decode cX3_truest 59 = .ok (.iload_n 2, 1) := by decide +kernel
theorem dX3_truest_60 : decode cX3_truest 60 = .ok (.istore_n 2, 1) := by decide +kernel
theorem dX3_truest_61 : decode cX3_truest 61 = .ok (.iinc 3 1, 3) := by decide +kernel
theorem dX3_truest_64 : decode cX3_truest 64 = .ok (.goto (-49), 3) := by decide +kernel
theorem dX3_truest_67 : decode cX3_truest 67 = .ok (.iload_n 2, 1) := by decide +kernel
theorem dX3_truest_68 : decode cX3_truest 68 = .ok (.ireturn, 1) := by decide +kernel
set_option maxRecDepth 20000 in
theorem ggX3_range_X3_in : GoodIn wsX3_range wsX3_in := goodIn_r _ [4] (by decide +kernel) (by decide +kernel)
set_option maxRecDepth 20000 in
theorem gX3_range_X3_in : GoodIn wsX3_range (va_wsS RX3 33 yX3_in wsX3_in) := goodIn_app (goodIn_of _ (by decide +kernel)) ggX3_range_X3_in
set_option maxRecDepth 20000 in
theorem ggX3_range_X3_waysOf : GoodIn wsX3_range wsX3_waysOf := goodIn_r _ [8, 9, 10, 11, 3, 12, 13, 14, 15, 16, 17, 1, 2, 4, 18, 19, 20, 21, 22, 23, 24, 25, 26, 27, 28, 29, 30, 31, 32, 33, 34, 35, 36, 37, 38, 39, 40, 41, 42, 43, 44, 45] (by decide +kernel) (by decide +kernel)
set_option maxRecDepth 20000 in
theorem gX3_range_X3_waysOf : GoodIn wsX3_range (wsV RX3 68 RX3 yX3_waysOf wsX3_waysOf) := goodIn_app (goodIn_of _ (by decide +kernel)) ggX3_range_X3_waysOf
theorem dX3_range_0 : decode cX3_range 0 = .ok (.iload_n 1, 1) := by decide +kernel
theorem dX3_range_1 : decode cX3_range 1 = .ok (.iconst (-1), 1) := by decide +kernel
theorem dX3_range_2 : decode cX3_range 2 = .ok (.bipush 64, 2) := by decide +kernel
theorem dX3_range_4 : decode cX3_range 4 = .ok (.invokestatic 33, 3) := by decide +kernel
theorem dX3_range_7 : decode cX3_range 7 = .ok (.ifCond .ne 6, 3) := by decide +kernel
theorem dX3_range_10 : decode cX3_range 10 = .ok (.bipush (-2), 2) := by decide +kernel
theorem dX3_range_12 : decode cX3_range 12 = .ok (.ireturn, 1) := by decide +kernel
theorem dX3_range_13 : decode cX3_range 13 = .ok (.iconst 0, 1) := by decide +kernel
theorem dX3_range_14 : decode cX3_range 14 = .ok (.istore_n 2, 1) := by decide +kernel
theorem dX3_range_15 : decode cX3_range 15 = .ok (.iconst 0, 1) := by decide +kernel
theorem dX3_range_16 : decode cX3_range 16 = .ok (.istore_n 3, 1) := by decide +kernel
theorem dX3_range_17 : decode cX3_range 17 = .ok (.iload_n 3, 1) := by decide +kernel
theorem dX3_range_18 : decode cX3_range 18 = .ok (.bipush 37, 2) := by decide +kernel
theorem dX3_range_20 : decode cX3_range 20 = .ok (.if_icmp .ge 43, 3) := by decide +kernel
theorem dX3_range_23 : decode cX3_range 23 = .ok (.aload_n 0, 1) := by decide +kernel
theorem dX3_range_24 : decode cX3_range 24 = .ok (.iload_n 3, 1) := by decide +kernel
theorem dX3_range_25 : decode cX3_range 25 = .ok (.invokevirtual 68, 3) := by decide +kernel
theorem dX3_range_28 : decode cX3_range 28 = .ok (.istore 4, 2) := by decide +kernel
theorem dX3_range_30 : decode cX3_range 30 = .ok (.iload_n 2, 1) := by decide +kernel
theorem dX3_range_31 : decode cX3_range 31 = .ok (.iload_n 1, 1) := by decide +kernel
theorem dX3_range_32 : decode cX3_range 32 = .ok (.iconst (-1), 1) := by decide +kernel
theorem dX3_range_33 : decode cX3_range 33 = .ok (.if_icmp .ne 11, 3) := by decide +kernel
theorem dX3_range_36 : decode cX3_range 36 = .ok (.iload 4, 2) := by decide +kernel
theorem dX3_range_38 : decode cX3_range 38 = .ok (.ifCond .le 16, 3) := by decide +kernel
theorem dX3_range_41 : decode cX3_range 41 = .ok (.goto 9, 3) := by decide +kernel
theorem dX3_range_44 : decode cX3_range 44 = .ok (.iload 4, 2) := by decide +kernel
theorem dX3_range_46 : decode cX3_range 46 = .ok (.iload_n 1, 1) := by decide +kernel
theorem dX3_range_47 : decode cX3_range 47 = .ok (.if_icmp .ne 7, 3) := by decide +kernel
theorem dX3_range_50 : decode cX3_range 50 = .ok (.iconst 1, 1) := by decide +kernel
theorem dX3_range_51 : decode cX3_range 51 = .ok (.goto 4, 3) := by decide +kernel
theorem dX3_range_54 : decode cX3_range 54 = .ok (.iconst 0, 1) := by decide +kernel
theorem dX3_range_55 : decode cX3_range 55 = .ok (.iadd, 1) := by decide +kernel
theorem dX3_range_56 : decode cX3_range 56 = .ok (.istore_n 2, 1) := by decide +kernel
theorem dX3_range_57 : decode cX3_range 57 = .ok (.iinc 3 1, 3) := by decide +kernel
theorem dX3_range_60 : decode cX3_range 60 = .ok (.goto (-43), 3) := by decide +kernel
theorem dX3_range_63 : decode cX3_range 63 = .ok (.iload_n 2, 1) := by decide +kernel
theorem dX3_range_64 : decode cX3_range 64 = .ok (.ireturn, 1) := by decide +kernel
set_option maxRecDepth 20000 in
theorem ggX3_note_X3_isNote : GoodIn wsX3_note wsX3_isNote := goodIn_r _ [5, 6, 7, 4, 8] (by decide +kernel) (by decide +kernel)
set_option maxRecDepth 20000 in
theorem gX3_note_X3_isNote : GoodIn wsX3_note (va_wsS RX3 61 yX3_isNote wsX3_isNote) := goodIn_app (goodIn_of _ (by decide +kernel)) ggX3_note_X3_isNote
theorem dX3_note_0 : decode cX3_note 0 = .ok (.iload_n 1, 1) := by decide +kernel
theorem dX3_note_1 : decode cX3_note 1 = .ok (.invokestatic 61, 3) := by decide +kernel
theorem dX3_note_4 : decode cX3_note 4 = .ok (.ifCond .ne 6, 3) := by decide +kernel
theorem dX3_note_7 : decode cX3_note 7 = .ok (.bipush (-2), 2) := by decide +kernel
theorem dX3_note_9 : decode cX3_note 9 = .ok (.ireturn, 1) := by decide +kernel
theorem dX3_note_10 : decode cX3_note 10 = .ok (.aload_n 0, 1) := by decide +kernel
theorem dX3_note_11 : decode cX3_note 11 = .ok (.getfield 7, 3) := by decide +kernel
theorem dX3_note_14 : decode cX3_note 14 = .ok (.bipush 9, 2) := by decide +kernel
theorem dX3_note_16 : decode cX3_note 16 = .ok (.iaload, 1) := by decide +kernel
theorem dX3_note_17 : decode cX3_note 17 = .ok (.bipush 12, 2) := by decide +kernel
theorem dX3_note_19 : decode cX3_note 19 = .ok (.if_icmp .ne 6, 3) := by decide +kernel
theorem dX3_note_22 : decode cX3_note 22 = .ok (.bipush (-4), 2) := by decide +kernel
theorem dX3_note_24 : decode cX3_note 24 = .ok (.ireturn, 1) := by decide +kernel
theorem dX3_note_25 : decode cX3_note 25 = .ok (.aload_n 0, 1) := by decide +kernel
theorem dX3_note_26 : decode cX3_note 26 = .ok (.getfield 7, 3) := by decide +kernel
theorem dX3_note_29 : decode cX3_note 29 = .ok (.bipush 10, 2) := by decide +kernel
theorem dX3_note_31 : decode cX3_note 31 = .ok (.aload_n 0, 1) := by decide +kernel
theorem dX3_note_32 : decode cX3_note 32 = .ok (.getfield 7, 3) := by decide +kernel
theorem dX3_note_35 : decode cX3_note 35 = .ok (.bipush 9, 2) := by decide +kernel
theorem dX3_note_37 : decode cX3_note 37 = .ok (.iaload, 1) := by decide +kernel
theorem dX3_note_38 : decode cX3_note 38 = .ok (.iadd, 1) := by decide +kernel
theorem dX3_note_39 : decode cX3_note 39 = .ok (.iload_n 1, 1) := by decide +kernel
theorem dX3_note_40 : decode cX3_note 40 = .ok (.iastore, 1) := by decide +kernel
theorem dX3_note_41 : decode cX3_note 41 = .ok (.aload_n 0, 1) := by decide +kernel
theorem dX3_note_42 : decode cX3_note 42 = .ok (.getfield 7, 3) := by decide +kernel
theorem dX3_note_45 : decode cX3_note 45 = .ok (.bipush 9, 2) := by decide +kernel
theorem dX3_note_47 : decode cX3_note 47 = .ok (.dup2, 1) := by decide +kernel
theorem dX3_note_48 : decode cX3_note 48 = .ok (.iaload, 1) := by decide +kernel
theorem dX3_note_49 : decode cX3_note 49 = .ok (.iconst 1, 1) := by decide +kernel
theorem dX3_note_50 : decode cX3_note 50 = .ok (.iadd, 1) := by decide +kernel
theorem dX3_note_51 : decode cX3_note 51 = .ok (.iastore, 1) := by decide +kernel
theorem dX3_note_52 : decode cX3_note 52 = .ok (.aload_n 0, 1) := by decide +kernel
theorem dX3_note_53 : decode cX3_note 53 = .ok (.getfield 7, 3) := by decide +kernel
theorem dX3_note_56 : decode cX3_note 56 = .ok (.bipush 9, 2) := by decide +kernel
theorem dX3_note_58 : decode cX3_note 58 = .ok (.iaload, 1) := by decide +kernel
theorem dX3_note_59 : decode cX3_note 59 = .ok (.iconst 1, 1) := by decide +kernel
theorem dX3_note_60 : decode cX3_note 60 = .ok (.isub, 1) := by decide +kernel
theorem dX3_note_61 : decode cX3_note 61 = .ok (.ireturn, 1) := by decide +kernel
set_option maxRecDepth 20000 in
theorem ggX3_set_X3_isPlace : GoodIn wsX3_set wsX3_isPlace := goodIn_r _ [6, 1, 7, 8, 5, 9, 13, 14, 15, 16, 17, 18, 19] (by decide +kernel) (by decide +kernel)
set_option maxRecDepth 20000 in
theorem gX3_set_X3_isPlace : GoodIn wsX3_set (wsV RX3 71 RX3 yX3_isPlace wsX3_isPlace) := goodIn_app (goodIn_of _ (by decide +kernel)) ggX3_set_X3_isPlace
set_option maxRecDepth 20000 in
theorem ggX3_set_X3_isNote : GoodIn wsX3_set wsX3_isNote := goodIn_r _ [12, 7, 8, 5, 9] (by decide +kernel) (by decide +kernel)
set_option maxRecDepth 20000 in
theorem gX3_set_X3_isNote : GoodIn wsX3_set (va_wsS RX3 61 yX3_isNote wsX3_isNote) := goodIn_app (goodIn_of _ (by decide +kernel)) ggX3_set_X3_isNote
theorem dX3_set_0 : decode cX3_set 0 = .ok (.aload_n 0, 1) := by decide +kernel
theorem dX3_set_1 : decode cX3_set 1 = .ok (.iload_n 1, 1) := by decide +kernel
theorem dX3_set_2 : decode cX3_set 2 = .ok (.invokevirtual 71, 3) := by decide +kernel
theorem dX3_set_5 : decode cX3_set 5 = .ok (.ifCond .ne 5, 3) := by decide +kernel
theorem dX3_set_8 : decode cX3_set 8 = .ok (.iconst (-1), 1) := by decide +kernel
theorem dX3_set_9 : decode cX3_set 9 = .ok (.ireturn, 1) := by decide +kernel
theorem dX3_set_10 : decode cX3_set 10 = .ok (.iload_n 2, 1) := by decide +kernel
theorem dX3_set_11 : decode cX3_set 11 = .ok (.invokestatic 61, 3) := by decide +kernel
theorem dX3_set_14 : decode cX3_set 14 = .ok (.ifCond .ne 6, 3) := by decide +kernel
theorem dX3_set_17 : decode cX3_set 17 = .ok (.bipush (-2), 2) := by decide +kernel
theorem dX3_set_19 : decode cX3_set 19 = .ok (.ireturn, 1) := by decide +kernel
theorem dX3_set_20 : decode cX3_set 20 = .ok (.aload_n 0, 1) := by decide +kernel
theorem dX3_set_21 : decode cX3_set 21 = .ok (.getfield 7, 3) := by decide +kernel
theorem dX3_set_24 : decode cX3_set 24 = .ok (.bipush 10, 2) := by decide +kernel
theorem dX3_set_26 : decode cX3_set 26 = .ok (.iload_n 1, 1) := by decide +kernel
theorem dX3_set_27 : decode cX3_set 27 = .ok (.iadd, 1) := by decide +kernel
theorem dX3_set_28 : decode cX3_set 28 = .ok (.iaload, 1) := by decide +kernel
theorem dX3_set_29 : decode cX3_set 29 = .ok (.istore_n 3, 1) := by decide +kernel
theorem dX3_set_30 : decode cX3_set 30 = .ok (.aload_n 0, 1) := by decide +kernel
theorem dX3_set_31 : decode cX3_set 31 = .ok (.getfield 7, 3) := by decide +kernel
theorem dX3_set_34 : decode cX3_set 34 = .ok (.bipush 10, 2) := by decide +kernel
theorem dX3_set_36 : decode cX3_set 36 = .ok (.iload_n 1, 1) := by decide +kernel
theorem dX3_set_37 : decode cX3_set 37 = .ok (.iadd, 1) := by decide +kernel
theorem dX3_set_38 : decode cX3_set 38 = .ok (.iload_n 2, 1) := by decide +kernel
theorem dX3_set_39 : decode cX3_set 39 = .ok (.iastore, 1) := by decide +kernel
theorem dX3_set_40 : decode cX3_set 40 = .ok (.iload_n 3, 1) := by decide +kernel
theorem dX3_set_41 : decode cX3_set 41 = .ok (.ireturn, 1) := by decide +kernel
theorem dX3_clear_0 : decode cX3_clear 0 = .ok (.aload_n 0, 1) := by decide +kernel
theorem dX3_clear_1 : decode cX3_clear 1 = .ok (.getfield 7, 3) := by decide +kernel
theorem dX3_clear_4 : decode cX3_clear 4 = .ok (.bipush 9, 2) := by decide +kernel
theorem dX3_clear_6 : decode cX3_clear 6 = .ok (.iaload, 1) := by decide +kernel
theorem dX3_clear_7 : decode cX3_clear 7 = .ok (.istore_n 1, 1) := by decide +kernel
theorem dX3_clear_8 : decode cX3_clear 8 = .ok (.aload_n 0, 1) := by decide +kernel
theorem dX3_clear_9 : decode cX3_clear 9 = .ok (.getfield 7, 3) := by decide +kernel
theorem dX3_clear_12 : decode cX3_clear 12 = .ok (.bipush 9, 2) := by decide +kernel
theorem dX3_clear_14 : decode cX3_clear 14 = .ok (.iconst 0, 1) := by decide +kernel
theorem dX3_clear_15 : decode cX3_clear 15 = .ok (.iastore, 1) := by decide +kernel
theorem dX3_clear_16 : decode cX3_clear 16 = .ok (.iload_n 1, 1) := by decide +kernel
theorem dX3_clear_17 : decode cX3_clear 17 = .ok (.ireturn, 1) := by decide +kernel
set_option maxRecDepth 20000 in
theorem ggX3_effortOf_X3_bits : GoodIn wsX3_effortOf wsX3_bits := goodIn_r _ [5] (by decide +kernel) (by decide +kernel)
set_option maxRecDepth 20000 in
theorem gX3_effortOf_X3_bits : GoodIn wsX3_effortOf (va_wsS RX3 41 yX3_bits wsX3_bits) := goodIn_app (goodIn_of _ (by decide +kernel)) ggX3_effortOf_X3_bits
set_option maxRecDepth 20000 in
theorem ggX3_effortOf_X3_size : GoodIn wsX3_effortOf wsX3_size := goodIn_r _ [8] (by decide +kernel) (by decide +kernel)
set_option maxRecDepth 20000 in
theorem gX3_effortOf_X3_size : GoodIn wsX3_effortOf (va_wsS RX3 58 yX3_size wsX3_size) := goodIn_app (goodIn_of _ (by decide +kernel)) ggX3_effortOf_X3_size
theorem dX3_effortOf_0 : decode cX3_effortOf 0 = .ok (.aload_n 0, 1) := by decide +kernel
theorem dX3_effortOf_1 : decode cX3_effortOf 1 = .ok (.getfield 7, 3) := by decide +kernel
theorem dX3_effortOf_4 : decode cX3_effortOf 4 = .ok (.iconst 0, 1) := by decide +kernel
theorem dX3_effortOf_5 : decode cX3_effortOf 5 = .ok (.iaload, 1) := by decide +kernel
theorem dX3_effortOf_6 : decode cX3_effortOf 6 = .ok (.ifCond .ne 18, 3) := by decide +kernel
theorem dX3_effortOf_9 : decode cX3_effortOf 9 = .ok (.iload_n 1, 1) := by decide +kernel
theorem dX3_effortOf_10 : decode cX3_effortOf 10 = .ok (.bipush 8, 2) := by decide +kernel
theorem dX3_effortOf_12 : decode cX3_effortOf 12 = .ok (.irem, 1) := by decide +kernel
theorem dX3_effortOf_13 : decode cX3_effortOf 13 = .ok (.iload_n 2, 1) := by decide +kernel
theorem dX3_effortOf_14 : decode cX3_effortOf 14 = .ok (.bipush 8, 2) := by decide +kernel
theorem dX3_effortOf_16 : decode cX3_effortOf 16 = .ok (.irem, 1) := by decide +kernel
theorem dX3_effortOf_17 : decode cX3_effortOf 17 = .ok (.ixor, 1) := by decide +kernel
theorem dX3_effortOf_18 : decode cX3_effortOf 18 = .ok (.invokestatic 41, 3) := by decide +kernel
theorem dX3_effortOf_21 : decode cX3_effortOf 21 = .ok (.goto 15, 3) := by decide +kernel
theorem dX3_effortOf_24 : decode cX3_effortOf 24 = .ok (.iload_n 1, 1) := by decide +kernel
theorem dX3_effortOf_25 : decode cX3_effortOf 25 = .ok (.bipush 8, 2) := by decide +kernel
theorem dX3_effortOf_27 : decode cX3_effortOf 27 = .ok (.irem, 1) := by decide +kernel
theorem dX3_effortOf_28 : decode cX3_effortOf 28 = .ok (.iload_n 2, 1) := by decide +kernel
theorem dX3_effortOf_29 : decode cX3_effortOf 29 = .ok (.bipush 8, 2) := by decide +kernel
theorem dX3_effortOf_31 : decode cX3_effortOf 31 = .ok (.irem, 1) := by decide +kernel
theorem dX3_effortOf_32 : decode cX3_effortOf 32 = .ok (.isub, 1) := by decide +kernel
theorem dX3_effortOf_33 : decode cX3_effortOf 33 = .ok (.invokestatic 58, 3) := by decide +kernel
theorem dX3_effortOf_36 : decode cX3_effortOf 36 = .ok (.istore_n 3, 1) := by decide +kernel
theorem dX3_effortOf_37 : decode cX3_effortOf 37 = .ok (.aload_n 0, 1) := by decide +kernel
theorem dX3_effortOf_38 : decode cX3_effortOf 38 = .ok (.getfield 7, 3) := by decide +kernel
theorem dX3_effortOf_41 : decode cX3_effortOf 41 = .ok (.bipush 6, 2) := by decide +kernel
theorem dX3_effortOf_43 : decode cX3_effortOf 43 = .ok (.iaload, 1) := by decide +kernel
theorem dX3_effortOf_44 : decode cX3_effortOf 44 = .ok (.iload_n 3, 1) := by decide +kernel
theorem dX3_effortOf_45 : decode cX3_effortOf 45 = .ok (.imul, 1) := by decide +kernel
theorem dX3_effortOf_46 : decode cX3_effortOf 46 = .ok (.aload_n 0, 1) := by decide +kernel
theorem dX3_effortOf_47 : decode cX3_effortOf 47 = .ok (.getfield 7, 3) := by decide +kernel
theorem dX3_effortOf_50 : decode cX3_effortOf 50 = .ok (.bipush 7, 2) := by decide +kernel
theorem dX3_effortOf_52 : decode cX3_effortOf 52 = .ok (.iaload, 1) := by decide +kernel
theorem dX3_effortOf_53 : decode cX3_effortOf 53 = .ok (.iload_n 1, 1) := by decide +kernel
theorem dX3_effortOf_54 : decode cX3_effortOf 54 = .ok (.bipush 8, 2) := by decide +kernel
