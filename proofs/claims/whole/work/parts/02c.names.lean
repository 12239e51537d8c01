set_option maxRecDepth 20000 in
theorem ggX2_image_X1_takeFrom : GoodIn wsX2_image wsX1_takeFrom := goodIn_r _ [8, 9, 10, 11, 12, 13, 14, 15, 16, 17, 26, 27, 28, 29, 30] (by decide +kernel) (by decide +kernel)
set_option maxRecDepth 20000 in
theorem gX2_image_X1_takeFrom : GoodIn wsX2_image (wsV RX2 135 RX1 yX1_takeFrom wsX1_takeFrom) := goodIn_app (goodIn_of _ (by decide +kernel)) ggX2_image_X1_takeFrom
theorem dX2_image_0 : decode cX2_image 0 = .ok (.iload_n 1, 1) := by decide +kernel
theorem dX2_image_1 : decode cX2_image 1 = .ok (.ifCond .lt 8, 3) := by decide +kernel
theorem dX2_image_4 : decode cX2_image 4 = .ok (.iload_n 1, 1) := by decide +kernel
theorem dX2_image_5 : decode cX2_image 5 = .ok (.iconst 2, 1) := by decide +kernel
theorem dX2_image_6 : decode cX2_image 6 = .ok (.if_icmp .lt 6, 3) := by decide +kernel
theorem dX2_image_9 : decode cX2_image 9 = .ok (.bipush (-2), 2) := by decide +kernel
theorem dX2_image_11 : decode cX2_image 11 = .ok (.ireturn, 1) := by decide +kernel
theorem dX2_image_12 : decode cX2_image 12 = .ok (.aload_n 0, 1) := by decide +kernel
theorem dX2_image_13 : decode cX2_image 13 = .ok (.getfield 16, 3) := by decide +kernel
theorem dX2_image_16 : decode cX2_image 16 = .ok (.iload_n 1, 1) := by decide +kernel
theorem dX2_image_17 : decode cX2_image 17 = .ok (.aaload, 1) := by decide +kernel
theorem dX2_image_18 : decode cX2_image 18 = .ok (.aload_n 0, 1) := by decide +kernel
theorem dX2_image_19 : decode cX2_image 19 = .ok (.getfield 12, 3) := by decide +kernel
theorem dX2_image_22 : decode cX2_image 22 = .ok (.invokevirtual 135, 3) := by decide +kernel
theorem dX2_image_25 : decode cX2_image 25 = .ok (.aload_n 0, 1) := by decide +kernel
theorem dX2_image_26 : decode cX2_image 26 = .ok (.dup, 1) := by decide +kernel
theorem dX2_image_27 : decode cX2_image 27 = .ok (.getfield 20, 3) := by decide +kernel
theorem dX2_image_30 : decode cX2_image 30 = .ok (.iconst 1, 1) := by decide +kernel
theorem dX2_image_31 : decode cX2_image 31 = .ok (.iload_n 1, 1) := by decide +kernel
theorem dX2_image_32 : decode cX2_image 32 = .ok (.ishl, 1) := by decide +kernel
theorem dX2_image_33 : decode cX2_image 33 = .ok (.ior, 1) := by decide +kernel
theorem dX2_image_34 : decode cX2_image 34 = .ok (.putfield 20, 3) := by decide +kernel
theorem dX2_image_37 : decode cX2_image 37 = .ok (.iconst 1, 1) := by decide +kernel
theorem dX2_image_38 : decode cX2_image 38 = .ok (.ireturn, 1) := by decide +kernel
set_option maxRecDepth 20000 in
theorem ggX2_restore_X1_takeFrom : GoodIn wsX2_restore wsX1_takeFrom := goodIn_r _ [8, 9, 10, 11, 12, 13, 14, 15, 16, 17, 26, 27, 28, 29, 30] (by decide +kernel) (by decide +kernel)
set_option maxRecDepth 20000 in
theorem gX2_restore_X1_takeFrom : GoodIn wsX2_restore (wsV RX2 135 RX1 yX1_takeFrom wsX1_takeFrom) := goodIn_app (goodIn_of _ (by decide +kernel)) ggX2_restore_X1_takeFrom
theorem dX2_restore_0 : decode cX2_restore 0 = .ok (.iload_n 1, 1) := by decide +kernel
theorem dX2_restore_1 : decode cX2_restore 1 = .ok (.ifCond .lt 8, 3) := by decide +kernel
theorem dX2_restore_4 : decode cX2_restore 4 = .ok (.iload_n 1, 1) := by decide +kernel
theorem dX2_restore_5 : decode cX2_restore 5 = .ok (.iconst 2, 1) := by decide +kernel
theorem dX2_restore_6 : decode cX2_restore 6 = .ok (.if_icmp .lt 6, 3) := by decide +kernel
theorem dX2_restore_9 : decode cX2_restore 9 = .ok (.bipush (-2), 2) := by decide +kernel
theorem dX2_restore_11 : decode cX2_restore 11 = .ok (.ireturn, 1) := by decide +kernel
theorem dX2_restore_12 : decode cX2_restore 12 = .ok (.aload_n 0, 1) := by decide +kernel
theorem dX2_restore_13 : decode cX2_restore 13 = .ok (.getfield 20, 3) := by decide +kernel
theorem dX2_restore_16 : decode cX2_restore 16 = .ok (.iload_n 1, 1) := by decide +kernel
theorem dX2_restore_17 : decode cX2_restore 17 = .ok (.ishr, 1) := by decide +kernel
theorem dX2_restore_18 : decode cX2_restore 18 = .ok (.iconst 1, 1) := by decide +kernel
theorem dX2_restore_19 : decode cX2_restore 19 = .ok (.iand, 1) := by decide +kernel
theorem dX2_restore_20 : decode cX2_restore 20 = .ok (.ifCond .ne 6, 3) := by decide +kernel
theorem dX2_restore_23 : decode cX2_restore 23 = .ok (.bipush (-3), 2) := by decide +kernel
theorem dX2_restore_25 : decode cX2_restore 25 = .ok (.ireturn, 1) := by decide +kernel
theorem dX2_restore_26 : decode cX2_restore 26 = .ok (.aload_n 0, 1) := by decide +kernel
theorem dX2_restore_27 : decode cX2_restore 27 = .ok (.getfield 12, 3) := by decide +kernel
theorem dX2_restore_30 : decode cX2_restore 30 = .ok (.aload_n 0, 1) := by decide +kernel
theorem dX2_restore_31 : decode cX2_restore 31 = .ok (.getfield 16, 3) := by decide +kernel
theorem dX2_restore_34 : decode cX2_restore 34 = .ok (.iload_n 1, 1) := by decide +kernel
theorem dX2_restore_35 : decode cX2_restore 35 = .ok (.aaload, 1) := by decide +kernel
theorem dX2_restore_36 : decode cX2_restore 36 = .ok (.invokevirtual 135, 3) := by decide +kernel
theorem dX2_restore_39 : decode cX2_restore 39 = .ok (.iconst 1, 1) := by decide +kernel
theorem dX2_restore_40 : decode cX2_restore 40 = .ok (.ireturn, 1) := by decide +kernel
set_option maxRecDepth 20000 in
theorem ggX2_count_X2_isPlace : GoodIn wsX2_count wsX2_isPlace := goodIn_r _ [12, 1, 3, 13, 14, 15, 16, 17, 18, 19, 20, 21, 22, 23, 24, 25] (by decide +kernel) (by decide +kernel)
set_option maxRecDepth 20000 in
theorem gX2_count_X2_isPlace : GoodIn wsX2_count (wsV RX2 93 RX2 yX2_isPlace wsX2_isPlace) := goodIn_app (goodIn_of _ (by decide +kernel)) ggX2_count_X2_isPlace
theorem dX2_count_0 : decode cX2_count 0 = .ok (.iload_n 1, 1) := by decide +kernel
theorem dX2_count_1 : decode cX2_count 1 = .ok (.ifCond .ne 11, 3) := by decide +kernel
theorem dX2_count_4 : decode cX2_count 4 = .ok (.aload_n 0, 1) := by decide +kernel
theorem dX2_count_5 : decode cX2_count 5 = .ok (.getfield 12, 3) := by decide +kernel
theorem dX2_count_8 : decode cX2_count 8 = .ok (.getfield 44, 3) := by decide +kernel
theorem dX2_count_11 : decode cX2_count 11 = .ok (.ireturn, 1) := by decide +kernel
theorem dX2_count_12 : decode cX2_count 12 = .ok (.iload_n 1, 1) := by decide +kernel
theorem dX2_count_13 : decode cX2_count 13 = .ok (.iconst 1, 1) := by decide +kernel
theorem dX2_count_14 : decode cX2_count 14 = .ok (.if_icmp .ne 11, 3) := by decide +kernel
theorem dX2_count_17 : decode cX2_count 17 = .ok (.aload_n 0, 1) := by decide +kernel
theorem dX2_count_18 : decode cX2_count 18 = .ok (.getfield 12, 3) := by decide +kernel
theorem dX2_count_21 : decode cX2_count 21 = .ok (.getfield 87, 3) := by decide +kernel
theorem dX2_count_24 : decode cX2_count 24 = .ok (.ireturn, 1) := by decide +kernel
theorem dX2_count_25 : decode cX2_count 25 = .ok (.iload_n 1, 1) := by decide +kernel
theorem dX2_count_26 : decode cX2_count 26 = .ok (.iconst 2, 1) := by decide +kernel
theorem dX2_count_27 : decode cX2_count 27 = .ok (.if_icmp .ne 8, 3) := by decide +kernel
theorem dX2_count_30 : decode cX2_count 30 = .ok (.aload_n 0, 1) := by decide +kernel
theorem dX2_count_31 : decode cX2_count 31 = .ok (.getfield 20, 3) := by decide +kernel
theorem dX2_count_34 : decode cX2_count 34 = .ok (.ireturn, 1) := by decide +kernel
theorem dX2_count_35 : decode cX2_count 35 = .ok (.iload_n 1, 1) := by decide +kernel
theorem dX2_count_36 : decode cX2_count 36 = .ok (.bipush 10, 2) := by decide +kernel
theorem dX2_count_38 : decode cX2_count 38 = .ok (.if_icmp .lt 22, 3) := by decide +kernel
theorem dX2_count_41 : decode cX2_count 41 = .ok (.iload_n 1, 1) := by decide +kernel
theorem dX2_count_42 : decode cX2_count 42 = .ok (.bipush 15, 2) := by decide +kernel
theorem dX2_count_44 : decode cX2_count 44 = .ok (.if_icmp .ge 16, 3) := by decide +kernel
theorem dX2_count_47 : decode cX2_count 47 = .ok (.aload_n 0, 1) := by decide +kernel
theorem dX2_count_48 : decode cX2_count 48 = .ok (.getfield 12, 3) := by decide +kernel
theorem dX2_count_51 : decode cX2_count 51 = .ok (.getfield 57, 3) := by decide +kernel
theorem dX2_count_54 : decode cX2_count 54 = .ok (.iload_n 1, 1) := by decide +kernel
theorem dX2_count_55 : decode cX2_count 55 = .ok (.bipush 10, 2) := by decide +kernel
theorem dX2_count_57 : decode cX2_count 57 = .ok (.isub, 1) := by decide +kernel
theorem dX2_count_58 : decode cX2_count 58 = .ok (.iaload, 1) := by decide +kernel
theorem dX2_count_59 : decode cX2_count 59 = .ok (.ireturn, 1) := by decide +kernel
theorem dX2_count_60 : decode cX2_count 60 = .ok (.iload_n 1, 1) := by decide +kernel
theorem dX2_count_61 : decode cX2_count 61 = .ok (.bipush 20, 2) := by decide +kernel
theorem dX2_count_63 : decode cX2_count 63 = .ok (.if_icmp .lt 22, 3) := by decide +kernel
theorem dX2_count_66 : decode cX2_count 66 = .ok (.iload_n 1, 1) := by decide +kernel
theorem dX2_count_67 : decode cX2_count 67 = .ok (.bipush 23, 2) := by decide +kernel
theorem dX2_count_69 : decode cX2_count 69 = .ok (.if_icmp .ge 16, 3) := by decide +kernel
theorem dX2_count_72 : decode cX2_count 72 = .ok (.aload_n 0, 1) := by decide +kernel
theorem dX2_count_73 : decode cX2_count 73 = .ok (.getfield 12, 3) := by decide +kernel
theorem dX2_count_76 : decode cX2_count 76 = .ok (.getfield 51, 3) := by decide +kernel
theorem dX2_count_79 : decode cX2_count 79 = .ok (.iload_n 1, 1) := by decide +kernel
theorem dX2_count_80 : decode cX2_count 80 = .ok (.bipush 20, 2) := by decide +kernel
theorem dX2_count_82 : decode cX2_count 82 = .ok (.isub, 1) := by decide +kernel
theorem dX2_count_83 : decode cX2_count 83 = .ok (.iaload, 1) := by decide +kernel
theorem dX2_count_84 : decode cX2_count 84 = .ok (.ireturn, 1) := by decide +kernel
theorem dX2_count_85 : decode cX2_count 85 = .ok (.iload_n 1, 1) := by decide +kernel
theorem dX2_count_86 : decode cX2_count 86 = .ok (.bipush 30, 2) := by decide +kernel
theorem dX2_count_88 : decode cX2_count 88 = .ok (.if_icmp .lt 38, 3) := by decide +kernel
theorem dX2_count_91 : decode cX2_count 91 = .ok (.iload_n 1, 1) := by decide +kernel
theorem dX2_count_92 : decode cX2_count 92 = .ok (.bipush 42, 2) := by decide +kernel
theorem dX2_count_94 : decode cX2_count 94 = .ok (.if_icmp .ge 32, 3) := by decide +kernel
theorem dX2_count_97 : decode cX2_count 97 = .ok (.aload_n 0, 1) := by decide +kernel
theorem dX2_count_98 : decode cX2_count 98 = .ok (.iload_n 1, 1) := by decide +kernel
theorem dX2_count_99 : decode cX2_count 99 = .ok (.bipush 30, 2) := by decide +kernel
theorem dX2_count_101 : decode cX2_count 101 = .ok (.isub, 1) := by decide +kernel
theorem dX2_count_102 : decode cX2_count 102 = .ok (.invokevirtual 93, 3) := by decide +kernel
theorem dX2_count_105 : decode cX2_count 105 = .ok (.ifCond .eq 18, 3) := by decide +kernel
theorem dX2_count_108 : decode cX2_count 108 = .ok (.aload_n 0, 1) := by decide +kernel
theorem dX2_count_109 : decode cX2_count 109 = .ok (.getfield 12, 3) := by decide +kernel
theorem dX2_count_112 : decode cX2_count 112 = .ok (.getfield 90, 3) := by decide +kernel
theorem dX2_count_115 : decode cX2_count 115 = .ok (.iload_n 1, 1) := by decide +kernel
theorem dX2_count_116 : decode cX2_count 116 = .ok (.bipush 30, 2) := by decide +kernel
theorem dX2_count_118 : decode cX2_count 118 = .ok (.isub, 1) := by decide +kernel
theorem dX2_count_119 : decode cX2_count 119 = .ok (.iaload, 1) := by decide +kernel
theorem dX2_count_120 : decode cX2_count 120 = .ok (.goto 5, 3) := by decide +kernel
theorem dX2_count_123 : decode cX2_count 123 = .ok (.bipush (-6), 2) := by decide +kernel
theorem dX2_count_125 : decode cX2_count 125 = .ok (.ireturn, 1) := by decide +kernel
theorem dX2_count_126 : decode cX2_count 126 = .ok (.bipush (-2), 2) := by decide +kernel
theorem dX2_count_128 : decode cX2_count 128 = .ok (.ireturn, 1) := by decide +kernel
theorem dX2_isValve_0 : decode cX2_isValve 0 = .ok (.iload_n 0, 1) := by decide +kernel
theorem dX2_isValve_1 : decode cX2_isValve 1 = .ok (.ifCond .lt 12, 3) := by decide +kernel
theorem dX2_isValve_4 : decode cX2_isValve 4 = .ok (.iload_n 0, 1) := by decide +kernel
theorem dX2_isValve_5 : decode cX2_isValve 5 = .ok (.iconst 3, 1) := by decide +kernel
theorem dX2_isValve_6 : decode cX2_isValve 6 = .ok (.if_icmp .ge 7, 3) := by decide +kernel
theorem dX2_isValve_9 : decode cX2_isValve 9 = .ok (.iconst 1, 1) := by decide +kernel
theorem dX2_isValve_10 : decode cX2_isValve 10 = .ok (.goto 4, 3) := by decide +kernel
theorem dX2_isValve_13 : decode cX2_isValve 13 = .ok (.iconst 0, 1) := by decide +kernel
theorem dX2_isValve_14 : decode cX2_isValve 14 = .ok (.ireturn, 1) := by decide +kernel
theorem dX2_isNote_0 : decode cX2_isNote 0 = .ok (.iload_n 0, 1) := by decide +kernel
theorem dX2_isNote_1 : decode cX2_isNote 1 = .ok (.ifCond .lt 13, 3) := by decide +kernel
theorem dX2_isNote_4 : decode cX2_isNote 4 = .ok (.iload_n 0, 1) := by decide +kernel
theorem dX2_isNote_5 : decode cX2_isNote 5 = .ok (.bipush 37, 2) := by decide +kernel
theorem dX2_isNote_7 : decode cX2_isNote 7 = .ok (.if_icmp .ge 7, 3) := by decide +kernel
theorem dX2_isNote_10 : decode cX2_isNote 10 = .ok (.iconst 1, 1) := by decide +kernel
theorem dX2_isNote_11 : decode cX2_isNote 11 = .ok (.goto 4, 3) := by decide +kernel
theorem dX2_isNote_14 : decode cX2_isNote 14 = .ok (.iconst 0, 1) := by decide +kernel
theorem dX2_isNote_15 : decode cX2_isNote 15 = .ok (.ireturn, 1) := by decide +kernel
theorem dX2_isPlace_0 : decode cX2_isPlace 0 = .ok (.iload_n 1, 1) := by decide +kernel
theorem dX2_isPlace_1 : decode cX2_isPlace 1 = .ok (.ifCond .lt 18, 3) := by decide +kernel
theorem dX2_isPlace_4 : decode cX2_isPlace 4 = .ok (.iload_n 1, 1) := by decide +kernel
theorem dX2_isPlace_5 : decode cX2_isPlace 5 = .ok (.aload_n 0, 1) := by decide +kernel
theorem dX2_isPlace_6 : decode cX2_isPlace 6 = .ok (.getfield 12, 3) := by decide +kernel
theorem dX2_isPlace_9 : decode cX2_isPlace 9 = .ok (.getfield 87, 3) := by decide +kernel
theorem dX2_isPlace_12 : decode cX2_isPlace 12 = .ok (.if_icmp .ge 7, 3) := by decide +kernel
theorem dX2_isPlace_15 : decode cX2_isPlace 15 = .ok (.iconst 1, 1) := by decide +kernel
theorem dX2_isPlace_16 : decode cX2_isPlace 16 = .ok (.goto 4, 3) := by decide +kernel
theorem dX2_isPlace_19 : decode cX2_isPlace 19 = .ok (.iconst 0, 1) := by decide +kernel
theorem dX2_isPlace_20 : decode cX2_isPlace 20 = .ok (.ireturn, 1) := by decide +kernel
set_option maxRecDepth 20000 in
theorem ggX2_leastMotion_X1_gatherWays : GoodIn wsX2_leastMotion wsX1_gatherWays := goodIn_r _ [13, 14, 15, 7, 16, 17, 18, 19, 20, 12, 21, 22, 23, 24, 25, 26, 27, 28, 29, 30, 31, 32, 33, 34, 35, 36, 37, 38, 58, 59, 60, 61, 62] (by decide +kernel) (by decide +kernel)
set_option maxRecDepth 20000 in
theorem gX2_leastMotion_X1_gatherWays : GoodIn wsX2_leastMotion (wsV RX2 77 RX1 yX1_gatherWays wsX1_gatherWays) := goodIn_app (goodIn_of _ (by decide +kernel)) ggX2_leastMotion_X1_gatherWays
set_option maxRecDepth 20000 in
theorem ggX2_leastMotion_X1_motion : GoodIn wsX2_leastMotion wsX1_motion := goodIn_r _ [42, 26, 14, 15, 7, 16, 17, 43, 44, 45, 46, 47, 48, 49, 58, 59, 60, 61, 62] (by decide +kernel) (by decide +kernel)
set_option maxRecDepth 20000 in
theorem gX2_leastMotion_X1_motion : GoodIn wsX2_leastMotion (wsV RX2 96 RX1 yX1_motion wsX1_motion) := goodIn_app (goodIn_of _ (by decide +kernel)) ggX2_leastMotion_X1_motion
theorem dX2_leastMotion_0 : decode cX2_leastMotion 0 = .ok (.aload_n 0, 1) := by decide +kernel
theorem dX2_leastMotion_1 : decode cX2_leastMotion 1 = .ok (.getfield 12, 3) := by decide +kernel
theorem dX2_leastMotion_4 : decode cX2_leastMotion 4 = .ok (.iload_n 1, 1) := by decide +kernel
theorem dX2_leastMotion_5 : decode cX2_leastMotion 5 = .ok (.aload_n 0, 1) := by decide +kernel
theorem dX2_leastMotion_6 : decode cX2_leastMotion 6 = .ok (.getfield 31, 3) := by decide +kernel
theorem dX2_leastMotion_9 : decode cX2_leastMotion 9 = .ok (.iconst 0, 1) := by decide +kernel
theorem dX2_leastMotion_10 : decode cX2_leastMotion 10 = .ok (.invokevirtual 77, 3) := by decide +kernel
theorem dX2_leastMotion_13 : decode cX2_leastMotion 13 = .ok (.istore_n 3, 1) := by decide +kernel
theorem dX2_leastMotion_14 : decode cX2_leastMotion 14 = .ok (.aload_n 0, 1) := by decide +kernel
theorem dX2_leastMotion_15 : decode cX2_leastMotion 15 = .ok (.getfield 12, 3) := by decide +kernel
theorem dX2_leastMotion_18 : decode cX2_leastMotion 18 = .ok (.iload_n 2, 1) := by decide +kernel
theorem dX2_leastMotion_19 : decode cX2_leastMotion 19 = .ok (.aload_n 0, 1) := by decide +kernel
theorem dX2_leastMotion_20 : decode cX2_leastMotion 20 = .ok (.getfield 35, 3) := by decide +kernel
theorem dX2_leastMotion_23 : decode cX2_leastMotion 23 = .ok (.iconst 0, 1) := by decide +kernel
theorem dX2_leastMotion_24 : decode cX2_leastMotion 24 = .ok (.invokevirtual 77, 3) := by decide +kernel
theorem dX2_leastMotion_27 : decode cX2_leastMotion 27 = .ok (.istore 4, 2) := by decide +kernel
theorem dX2_leastMotion_29 : decode cX2_leastMotion 29 = .ok (.iload_n 3, 1) := by decide +kernel
theorem dX2_leastMotion_30 : decode cX2_leastMotion 30 = .ok (.ifCond .eq 8, 3) := by decide +kernel
theorem dX2_leastMotion_33 : decode cX2_leastMotion 33 = .ok (.iload 4, 2) := by decide +kernel
theorem dX2_leastMotion_35 : decode cX2_leastMotion 35 = .ok (.ifCond .ne 6, 3) := by decide +kernel
theorem dX2_leastMotion_38 : decode cX2_leastMotion 38 = .ok (.bipush (-6), 2) := by decide +kernel
theorem dX2_leastMotion_40 : decode cX2_leastMotion 40 = .ok (.ireturn, 1) := by decide +kernel
theorem dX2_leastMotion_41 : decode cX2_leastMotion 41 = .ok (.ldc 81, 2) := by decide +kernel
theorem dX2_leastMotion_43 : decode cX2_leastMotion 43 = .ok (.istore 5, 2) := by decide +kernel
theorem dX2_leastMotion_45 : decode cX2_leastMotion 45 = .ok (.iconst 0, 1) := by decide +kernel
theorem dX2_leastMotion_46 : decode cX2_leastMotion 46 = .ok (.istore 6, 2) := by decide +kernel
theorem dX2_leastMotion_48 : decode cX2_leastMotion 48 = .ok (.iload 6, 2) := by decide +kernel
theorem dX2_leastMotion_50 : decode cX2_leastMotion 50 = .ok (.iload_n 3, 1) := by decide +kernel
theorem dX2_leastMotion_51 : decode cX2_leastMotion 51 = .ok (.if_icmp .ge 53, 3) := by decide +kernel
theorem dX2_leastMotion_54 : decode cX2_leastMotion 54 = .ok (.iconst 0, 1) := by decide +kernel
theorem dX2_leastMotion_55 : decode cX2_leastMotion 55 = .ok (.istore 7, 2) := by decide +kernel
theorem dX2_leastMotion_57 : decode cX2_leastMotion 57 = .ok (.iload 7, 2) := by decide +kernel
theorem dX2_leastMotion_59 : decode cX2_leastMotion 59 = .ok (.iload 4, 2) := by decide +kernel
theorem dX2_leastMotion_61 : decode cX2_leastMotion 61 = .ok (.if_icmp .ge 37, 3) := by decide +kernel
theorem dX2_leastMotion_64 : decode cX2_leastMotion 64 = .ok (.iload 5, 2) := by decide +kernel
theorem dX2_leastMotion_66 : decode cX2_leastMotion 66 = .ok (.aload_n 0, 1) := by decide +kernel
theorem dX2_leastMotion_67 : decode cX2_leastMotion 67 = .ok (.getfield 12, 3) := by decide +kernel
theorem dX2_leastMotion_70 : decode cX2_leastMotion 70 = .ok (.aload_n 0, 1) := by decide +kernel
theorem dX2_leastMotion_71 : decode cX2_leastMotion 71 = .ok (.getfield 31, 3) := by decide +kernel
theorem dX2_leastMotion_74 : decode cX2_leastMotion 74 = .ok (.iload 6, 2) := by decide +kernel
theorem dX2_leastMotion_76 : decode cX2_leastMotion 76 = .ok (.iaload, 1) := by decide +kernel
theorem dX2_leastMotion_77 : decode cX2_leastMotion 77 = .ok (.aload_n 0, 1) := by decide +kernel
theorem dX2_leastMotion_78 : decode cX2_leastMotion 78 = .ok (.getfield 35, 3) := by decide +kernel
theorem dX2_leastMotion_81 : decode cX2_leastMotion 81 = .ok (.iload 7, 2) := by decide +kernel
theorem dX2_leastMotion_83 : decode cX2_leastMotion 83 = .ok (.iaload, 1) := by decide +kernel
theorem dX2_leastMotion_84 : decode cX2_leastMotion 84 = .ok (.invokevirtual 96, 3) := by decide +kernel
theorem dX2_leastMotion_87 : decode cX2_leastMotion 87 = .ok (.invokestatic 138, 3) := by decide +kernel
theorem dX2_leastMotion_90 : decode cX2_leastMotion 90 = .ok (.istore 5, 2) := by decide +kernel
theorem dX2_leastMotion_92 : decode cX2_leastMotion 92 = .ok (.iinc 7 1, 3) := by decide +kernel
theorem dX2_leastMotion_95 : decode cX2_leastMotion 95 = .ok (.goto (-38), 3) := by decide +kernel
theorem dX2_leastMotion_98 : decode cX2_leastMotion 98 = .ok (.iinc 6 1, 3) := by decide +kernel
theorem dX2_leastMotion_101 : decode cX2_leastMotion 101 = .ok (.goto (-53), 3) := by decide +kernel
theorem dX2_leastMotion_104 : decode cX2_leastMotion 104 = .ok (.iload 5, 2) := by decide +kernel
theorem dX2_leastMotion_106 : decode cX2_leastMotion 106 = .ok (.ireturn, 1) := by decide +kernel
set_option maxRecDepth 20000 in
theorem ggX2_missOfPart_X2_valveDrop : GoodIn wsX2_missOfPart wsX2_valveDrop := goodIn_r _ [11] (by decide +kernel) (by decide +kernel)
set_option maxRecDepth 20000 in
theorem gX2_missOfPart_X2_valveDrop : GoodIn wsX2_missOfPart (va_wsS RX2 141 yX2_valveDrop wsX2_valveDrop) := goodIn_app (goodIn_of _ (by decide +kernel)) ggX2_missOfPart_X2_valveDrop
set_option maxRecDepth 20000 in
theorem ggX2_missOfPart_X2_nearestMiss : GoodIn wsX2_missOfPart wsX2_nearestMiss := goodIn_r _ [15, 16, 4, 17, 18, 19, 20, 21, 22, 23, 24, 25, 26, 27, 28, 29, 30, 31, 32] (by decide +kernel) (by decide +kernel)
set_option maxRecDepth 20000 in
theorem gX2_missOfPart_X2_nearestMiss : GoodIn wsX2_missOfPart (wsV RX2 144 RX2 yX2_nearestMiss wsX2_nearestMiss) := goodIn_app (goodIn_of _ (by decide +kernel)) ggX2_missOfPart_X2_nearestMiss
theorem dX2_missOfPart_0 : decode cX2_missOfPart 0 = .ok (.iconst 0, 1) := by decide +kernel
theorem dX2_missOfPart_1 : decode cX2_missOfPart 1 = .ok (.istore_n 3, 1) := by decide +kernel
theorem dX2_missOfPart_2 : decode cX2_missOfPart 2 = .ok (.iload_n 3, 1) := by decide +kernel
theorem dX2_missOfPart_3 : decode cX2_missOfPart 3 = .ok (.iconst 3, 1) := by decide +kernel
theorem dX2_missOfPart_4 : decode cX2_missOfPart 4 = .ok (.if_icmp .ge 33, 3) := by decide +kernel
theorem dX2_missOfPart_7 : decode cX2_missOfPart 7 = .ok (.aload_n 0, 1) := by decide +kernel
theorem dX2_missOfPart_8 : decode cX2_missOfPart 8 = .ok (.getfield 38, 3) := by decide +kernel
theorem dX2_missOfPart_11 : decode cX2_missOfPart 11 = .ok (.iload_n 3, 1) := by decide +kernel
theorem dX2_missOfPart_12 : decode cX2_missOfPart 12 = .ok (.iload_n 3, 1) := by decide +kernel
theorem dX2_missOfPart_13 : decode cX2_missOfPart 13 = .ok (.iload_n 1, 1) := by decide +kernel
theorem dX2_missOfPart_14 : decode cX2_missOfPart 14 = .ok (.if_icmp .ne 7, 3) := by decide +kernel
theorem dX2_missOfPart_17 : decode cX2_missOfPart 17 = .ok (.iload_n 2, 1) := by decide +kernel
theorem dX2_missOfPart_18 : decode cX2_missOfPart 18 = .ok (.goto 12, 3) := by decide +kernel
theorem dX2_missOfPart_21 : decode cX2_missOfPart 21 = .ok (.aload_n 0, 1) := by decide +kernel
theorem dX2_missOfPart_22 : decode cX2_missOfPart 22 = .ok (.getfield 12, 3) := by decide +kernel
theorem dX2_missOfPart_25 : decode cX2_missOfPart 25 = .ok (.getfield 51, 3) := by decide +kernel
theorem dX2_missOfPart_28 : decode cX2_missOfPart 28 = .ok (.iload_n 3, 1) := by decide +kernel
theorem dX2_missOfPart_29 : decode cX2_missOfPart 29 = .ok (.iaload, 1) := by decide +kernel
theorem dX2_missOfPart_30 : decode cX2_missOfPart 30 = .ok (.iastore, 1) := by decide +kernel
theorem dX2_missOfPart_31 : decode cX2_missOfPart 31 = .ok (.iinc 3 1, 3) := by decide +kernel
theorem dX2_missOfPart_34 : decode cX2_missOfPart 34 = .ok (.goto (-32), 3) := by decide +kernel
theorem dX2_missOfPart_37 : decode cX2_missOfPart 37 = .ok (.iconst 0, 1) := by decide +kernel
theorem dX2_missOfPart_38 : decode cX2_missOfPart 38 = .ok (.istore_n 3, 1) := by decide +kernel
theorem dX2_missOfPart_39 : decode cX2_missOfPart 39 = .ok (.iload_n 3, 1) := by decide +kernel
theorem dX2_missOfPart_40 : decode cX2_missOfPart 40 = .ok (.bipush 8, 2) := by decide +kernel
theorem dX2_missOfPart_42 : decode cX2_missOfPart 42 = .ok (.if_icmp .ge 32, 3) := by decide +kernel
theorem dX2_missOfPart_45 : decode cX2_missOfPart 45 = .ok (.aload_n 0, 1) := by decide +kernel
theorem dX2_missOfPart_46 : decode cX2_missOfPart 46 = .ok (.getfield 41, 3) := by decide +kernel
theorem dX2_missOfPart_49 : decode cX2_missOfPart 49 = .ok (.iload_n 3, 1) := by decide +kernel
theorem dX2_missOfPart_50 : decode cX2_missOfPart 50 = .ok (.iload_n 3, 1) := by decide +kernel
theorem dX2_missOfPart_51 : decode cX2_missOfPart 51 = .ok (.aload_n 0, 1) := by decide +kernel
theorem dX2_missOfPart_52 : decode cX2_missOfPart 52 = .ok (.getfield 38, 3) := by decide +kernel
theorem dX2_missOfPart_55 : decode cX2_missOfPart 55 = .ok (.aload_n 0, 1) := by decide +kernel
theorem dX2_missOfPart_56 : decode cX2_missOfPart 56 = .ok (.getfield 12, 3) := by decide +kernel
theorem dX2_missOfPart_59 : decode cX2_missOfPart 59 = .ok (.getfield 57, 3) := by decide +kernel
theorem dX2_missOfPart_62 : decode cX2_missOfPart 62 = .ok (.iconst 0, 1) := by decide +kernel
theorem dX2_missOfPart_63 : decode cX2_missOfPart 63 = .ok (.iaload, 1) := by decide +kernel
theorem dX2_missOfPart_64 : decode cX2_missOfPart 64 = .ok (.invokestatic 141, 3) := by decide +kernel
theorem dX2_missOfPart_67 : decode cX2_missOfPart 67 = .ok (.iastore, 1) := by decide +kernel
theorem dX2_missOfPart_68 : decode cX2_missOfPart 68 = .ok (.iinc 3 1, 3) := by decide +kernel
theorem dX2_missOfPart_71 : decode cX2_missOfPart 71 = .ok (.goto (-32), 3) := by decide +kernel
theorem dX2_missOfPart_74 : decode cX2_missOfPart 74 = .ok (.iconst 0, 1) := by decide +kernel
theorem dX2_missOfPart_75 : decode cX2_missOfPart 75 = .ok (.istore_n 3, 1) := by decide +kernel
theorem dX2_missOfPart_76 : decode cX2_missOfPart 76 = .ok (.iconst 0, 1) := by decide +kernel
theorem dX2_missOfPart_77 : decode cX2_missOfPart 77 = .ok (.istore 4, 2) := by decide +kernel
theorem dX2_missOfPart_79 : decode cX2_missOfPart 79 = .ok (.iload 4, 2) := by decide +kernel
theorem dX2_missOfPart_81 : decode cX2_missOfPart 81 = .ok (.aload_n 0, 1) := by decide +kernel
theorem dX2_missOfPart_82 : decode cX2_missOfPart 82 = .ok (.getfield 12, 3) := by decide +kernel
theorem dX2_missOfPart_85 : decode cX2_missOfPart 85 = .ok (.getfield 87, 3) := by decide +kernel
theorem dX2_missOfPart_88 : decode cX2_missOfPart 88 = .ok (.if_icmp .ge 26, 3) := by decide +kernel
theorem dX2_missOfPart_91 : decode cX2_missOfPart 91 = .ok (.iload_n 3, 1) := by decide +kernel
theorem dX2_missOfPart_92 : decode cX2_missOfPart 92 = .ok (.aload_n 0, 1) := by decide +kernel
theorem dX2_missOfPart_93 : decode cX2_missOfPart 93 = .ok (.aload_n 0, 1) := by decide +kernel
theorem dX2_missOfPart_94 : decode cX2_missOfPart 94 = .ok (.getfield 12, 3) := by decide +kernel
theorem dX2_missOfPart_97 : decode cX2_missOfPart 97 = .ok (.getfield 90, 3) := by decide +kernel
theorem dX2_missOfPart_100 : decode cX2_missOfPart 100 = .ok (.iload 4, 2) := by decide +kernel
theorem dX2_missOfPart_102 : decode cX2_missOfPart 102 = .ok (.iaload, 1) := by decide +kernel
theorem dX2_missOfPart_103 : decode cX2_missOfPart 103 = .ok (.invokevirtual 144, 3) := by decide +kernel
theorem dX2_missOfPart_106 : decode cX2_missOfPart 106 = .ok (.iadd, 1) := by decide +kernel
theorem dX2_missOfPart_107 : decode cX2_missOfPart 107 = .ok (.istore_n 3, 1) := by decide +kernel
theorem dX2_missOfPart_108 : decode cX2_missOfPart 108 = .ok (.iinc 4 1, 3) := by decide +kernel
theorem dX2_missOfPart_111 : decode cX2_missOfPart 111 = .ok (.goto (-32), 3) := by decide +kernel
theorem dX2_missOfPart_114 : decode cX2_missOfPart 114 = .ok (.iload_n 3, 1) := by decide +kernel
theorem dX2_missOfPart_115 : decode cX2_missOfPart 115 = .ok (.ireturn, 1) := by decide +kernel
theorem dX2_nearestMiss_0 : decode cX2_nearestMiss 0 = .ok (.ldc 81, 2) := by decide +kernel
theorem dX2_nearestMiss_2 : decode cX2_nearestMiss 2 = .ok (.istore_n 2, 1) := by decide +kernel
theorem dX2_nearestMiss_3 : decode cX2_nearestMiss 3 = .ok (.iconst 0, 1) := by decide +kernel
theorem dX2_nearestMiss_4 : decode cX2_nearestMiss 4 = .ok (.istore_n 3, 1) := by decide +kernel
theorem dX2_nearestMiss_5 : decode cX2_nearestMiss 5 = .ok (.iload_n 3, 1) := by decide +kernel
theorem dX2_nearestMiss_6 : decode cX2_nearestMiss 6 = .ok (.bipush 8, 2) := by decide +kernel
theorem dX2_nearestMiss_8 : decode cX2_nearestMiss 8 = .ok (.if_icmp .ge 55, 3) := by decide +kernel
theorem dX2_nearestMiss_11 : decode cX2_nearestMiss 11 = .ok (.aload_n 0, 1) := by decide +kernel
theorem dX2_nearestMiss_12 : decode cX2_nearestMiss 12 = .ok (.getfield 41, 3) := by decide +kernel
theorem dX2_nearestMiss_15 : decode cX2_nearestMiss 15 = .ok (.iload_n 3, 1) := by decide +kernel
theorem dX2_nearestMiss_16 : decode cX2_nearestMiss 16 = .ok (.iaload, 1) := by decide +kernel
theorem dX2_nearestMiss_17 : decode cX2_nearestMiss 17 = .ok (.bipush 100, 2) := by decide +kernel
theorem dX2_nearestMiss_19 : decode cX2_nearestMiss 19 = .ok (.iload_n 1, 1) := by decide +kernel
theorem dX2_nearestMiss_20 : decode cX2_nearestMiss 20 = .ok (.imul, 1) := by decide +kernel
theorem dX2_nearestMiss_21 : decode cX2_nearestMiss 21 = .ok (.iadd, 1) := by decide +kernel
theorem dX2_nearestMiss_22 : decode cX2_nearestMiss 22 = .ok (.istore 4, 2) := by decide +kernel
theorem dX2_nearestMiss_24 : decode cX2_nearestMiss 24 = .ok (.iconst 0, 1) := by decide +kernel
theorem dX2_nearestMiss_25 : decode cX2_nearestMiss 25 = .ok (.istore 5, 2) := by decide +kernel
theorem dX2_nearestMiss_27 : decode cX2_nearestMiss 27 = .ok (.iload 5, 2) := by decide +kernel
theorem dX2_nearestMiss_29 : decode cX2_nearestMiss 29 = .ok (.bipush 8, 2) := by decide +kernel
theorem dX2_nearestMiss_31 : decode cX2_nearestMiss 31 = .ok (.if_icmp .ge 26, 3) := by decide +kernel
theorem dX2_nearestMiss_34 : decode cX2_nearestMiss 34 = .ok (.iload_n 2, 1) := by decide +kernel
theorem dX2_nearestMiss_35 : decode cX2_nearestMiss 35 = .ok (.getstatic 147, 3) := by decide +kernel
theorem dX2_nearestMiss_38 : decode cX2_nearestMiss 38 = .ok (.iload 5, 2) := by decide +kernel
theorem dX2_nearestMiss_40 : decode cX2_nearestMiss 40 = .ok (.iaload, 1) := by decide +kernel
theorem dX2_nearestMiss_41 : decode cX2_nearestMiss 41 = .ok (.iload 4, 2) := by decide +kernel
theorem dX2_nearestMiss_43 : decode cX2_nearestMiss 43 = .ok (.isub, 1) := by decide +kernel
theorem dX2_nearestMiss_44 : decode cX2_nearestMiss 44 = .ok (.invokestatic 82, 3) := by decide +kernel
theorem dX2_nearestMiss_47 : decode cX2_nearestMiss 47 = .ok (.invokestatic 138, 3) := by decide +kernel
theorem dX2_nearestMiss_50 : decode cX2_nearestMiss 50 = .ok (.istore_n 2, 1) := by decide +kernel
theorem dX2_nearestMiss_51 : decode cX2_nearestMiss 51 = .ok (.iinc 5 1, 3) := by decide +kernel
theorem dX2_nearestMiss_54 : decode cX2_nearestMiss 54 = .ok (.goto (-27), 3) := by decide +kernel
theorem dX2_nearestMiss_57 : decode cX2_nearestMiss 57 = .ok (.iinc 3 1, 3) := by decide +kernel
theorem dX2_nearestMiss_60 : decode cX2_nearestMiss 60 = .ok (.goto (-55), 3) := by decide +kernel
theorem dX2_nearestMiss_63 : decode cX2_nearestMiss 63 = .ok (.iload_n 2, 1) := by decide +kernel
theorem dX2_nearestMiss_64 : decode cX2_nearestMiss 64 = .ok (.ireturn, 1) := by decide +kernel
theorem dX2_valveDrop_0 : decode cX2_valveDrop 0 = .ok (.iconst 0, 1) := by decide +kernel
theorem dX2_valveDrop_1 : decode cX2_valveDrop 1 = .ok (.istore_n 3, 1) := by decide +kernel
theorem dX2_valveDrop_2 : decode cX2_valveDrop 2 = .ok (.iconst 0, 1) := by decide +kernel
theorem dX2_valveDrop_3 : decode cX2_valveDrop 3 = .ok (.istore 4, 2) := by decide +kernel
theorem dX2_valveDrop_5 : decode cX2_valveDrop 5 = .ok (.iconst 0, 1) := by decide +kernel
theorem dX2_valveDrop_6 : decode cX2_valveDrop 6 = .ok (.istore 5, 2) := by decide +kernel
theorem dX2_valveDrop_8 : decode cX2_valveDrop 8 = .ok (.iload 5, 2) := by decide +kernel
theorem dX2_valveDrop_10 : decode cX2_valveDrop 10 = .ok (.iconst 3, 1) := by decide +kernel
theorem dX2_valveDrop_11 : decode cX2_valveDrop 11 = .ok (.if_icmp .ge 34, 3) := by decide +kernel
theorem dX2_valveDrop_14 : decode cX2_valveDrop 14 = .ok (.iload_n 0, 1) := by decide +kernel
theorem dX2_valveDrop_15 : decode cX2_valveDrop 15 = .ok (.iload 5, 2) := by decide +kernel
theorem dX2_valveDrop_17 : decode cX2_valveDrop 17 = .ok (.ishr, 1) := by decide +kernel
theorem dX2_valveDrop_18 : decode cX2_valveDrop 18 = .ok (.iconst 1, 1) := by decide +kernel
theorem dX2_valveDrop_19 : decode cX2_valveDrop 19 = .ok (.iand, 1) := by decide +kernel
theorem dX2_valveDrop_20 : decode cX2_valveDrop 20 = .ok (.iconst 1, 1) := by decide +kernel
theorem dX2_valveDrop_21 : decode cX2_valveDrop 21 = .ok (.if_icmp .ne 18, 3) := by decide +kernel
theorem dX2_valveDrop_24 : decode cX2_valveDrop 24 = .ok (.iload_n 3, 1) := by decide +kernel
theorem dX2_valveDrop_25 : decode cX2_valveDrop 25 = .ok (.aload_n 1, 1) := by decide +kernel
theorem dX2_valveDrop_26 : decode cX2_valveDrop 26 = .ok (.iload 5, 2) := by decide +kernel
theorem dX2_valveDrop_28 : decode cX2_valveDrop 28 = .ok (.iaload, 1) := by decide +kernel
theorem dX2_valveDrop_29 : decode cX2_valveDrop 29 = .ok (.iload_n 2, 1) := by decide +kernel
theorem dX2_valveDrop_30 : decode cX2_valveDrop 30 = .ok (.iload 4, 2) := by decide +kernel
theorem dX2_valveDrop_32 : decode cX2_valveDrop 32 = .ok (.imul, 1) := by decide +kernel
theorem dX2_valveDrop_33 : decode cX2_valveDrop 33 = .ok (.isub, 1) := by decide +kernel
theorem dX2_valveDrop_34 : decode cX2_valveDrop 34 = .ok (.iadd, 1) := by decide +kernel
theorem dX2_valveDrop_35 : decode cX2_valveDrop 35 = .ok (.istore_n 3, 1) := by decide +kernel
theorem dX2_valveDrop_36 : decode cX2_valveDrop 36 = .ok (.iinc 4 1, 3) := by decide +kernel
theorem dX2_valveDrop_39 : decode cX2_valveDrop 39 = .ok (.iinc 5 1, 3) := by decide +kernel
theorem dX2_valveDrop_42 : decode cX2_valveDrop 42 = .ok (.goto (-34), 3) := by decide +kernel
theorem dX2_valveDrop_45 : decode cX2_valveDrop 45 = .ok (.iload_n 3, 1) := by decide +kernel
theorem dX2_valveDrop_46 : decode cX2_valveDrop 46 = .ok (.ireturn, 1) := by decide +kernel
theorem dX3_init_0 : decode cX3_init 0 = .ok (.aload_n 0, 1) := by decide +kernel
theorem dX3_init_1 : decode cX3_init 1 = .ok (.invokespecial 1, 3) := by decide +kernel
theorem dX3_init_4 : decode cX3_init 4 = .ok (.aload_n 0, 1) := by decide +kernel
theorem dX3_init_5 : decode cX3_init 5 = .ok (.bipush 22, 2) := by decide +kernel
theorem dX3_init_7 : decode cX3_init 7 = .ok (.newarray .int, 2) := by decide +kernel
theorem dX3_init_9 : decode cX3_init 9 = .ok (.putfield 7, 3) := by decide +kernel
theorem dX3_init_12 : decode cX3_init 12 = .ok (.aload_n 0, 1) := by decide +kernel
theorem dX3_init_13 : decode cX3_init 13 = .ok (.bipush 44, 2) := by decide +kernel
theorem dX3_init_15 : decode cX3_init 15 = .ok (.newarray .int, 2) := by decide +kernel
theorem dX3_init_17 : decode cX3_init 17 = .ok (.putfield 13, 3) := by decide +kernel
theorem dX3_init_20 : decode cX3_init 20 = .ok (.aload_n 0, 1) := by decide +kernel
theorem dX3_init_21 : decode cX3_init 21 = .ok (.iconst 2, 1) := by decide +kernel
theorem dX3_init_22 : decode cX3_init 22 = .ok (.newarray .boolean, 2) := by decide +kernel
theorem dX3_init_24 : decode cX3_init 24 = .ok (.putfield 16, 3) := by decide +kernel
theorem dX3_init_27 : decode cX3_init 27 = .ok (.aload_n 0, 1) := by decide +kernel
theorem dX3_init_28 : decode cX3_init 28 = .ok (.sipush 768, 3) := by decide +kernel
theorem dX3_init_31 : decode cX3_init 31 = .ok (.newarray .int, 2) := by decide +kernel
theorem dX3_init_33 : decode cX3_init 33 = .ok (.putfield 20, 3) := by decide +kernel
theorem dX3_init_36 : decode cX3_init 36 = .ok (.aload_n 0, 1) := by decide +kernel
theorem dX3_init_37 : decode cX3_init 37 = .ok (.sipush 768, 3) := by decide +kernel
theorem dX3_init_40 : decode cX3_init 40 = .ok (.newarray .long, 2) := by decide +kernel
theorem dX3_init_42 : decode cX3_init 42 = .ok (.putfield 23, 3) := by decide +kernel
theorem dX3_init_45 : decode cX3_init 45 = .ok (.aload_n 0, 1) := by decide +kernel
theorem dX3_init_46 : decode cX3_init 46 = .ok (.sipush 768, 3) := by decide +kernel
theorem dX3_init_49 : decode cX3_init 49 = .ok (.newarray .long, 2) := by decide +kernel
theorem dX3_init_51 : decode cX3_init 51 = .ok (.putfield 27, 3) := by decide +kernel
theorem dX3_init_54 : decode cX3_init 54 = .ok (.aload_n 0, 1) := by decide +kernel
theorem dX3_init_55 : decode cX3_init 55 = .ok (.sipush 768, 3) := by decide +kernel
theorem dX3_init_58 : decode cX3_init 58 = .ok (.newarray .int, 2) := by decide +kernel
theorem dX3_init_60 : decode cX3_init 60 = .ok (.putfield 30, 3) := by decide +kernel
theorem dX3_init_63 : decode cX3_init 63 = .ok (.aload_n 0, 1) := by decide +kernel
theorem dX3_init_64 : decode cX3_init 64 = .ok (.getfield 7, 3) := by decide +kernel
theorem dX3_init_67 : decode cX3_init 67 = .ok (.iconst 1, 1) := by decide +kernel
theorem dX3_init_68 : decode cX3_init 68 = .ok (.sipush 200, 3) := by decide +kernel
theorem dX3_init_71 : decode cX3_init 71 = .ok (.iastore, 1) := by decide +kernel
theorem dX3_init_72 : decode cX3_init 72 = .ok (.aload_n 0, 1) := by decide +kernel
theorem dX3_init_73 : decode cX3_init 73 = .ok (.getfield 7, 3) := by decide +kernel
theorem dX3_init_76 : decode cX3_init 76 = .ok (.iconst 2, 1) := by decide +kernel
theorem dX3_init_77 : decode cX3_init 77 = .ok (.bipush 100, 2) := by decide +kernel
theorem dX3_init_79 : decode cX3_init 79 = .ok (.iastore, 1) := by decide +kernel
theorem dX3_init_80 : decode cX3_init 80 = .ok (.aload_n 0, 1) := by decide +kernel
theorem dX3_init_81 : decode cX3_init 81 = .ok (.getfield 7, 3) := by decide +kernel
theorem dX3_init_84 : decode cX3_init 84 = .ok (.iconst 3, 1) := by decide +kernel
theorem dX3_init_85 : decode cX3_init 85 = .ok (.sipush 300, 3) := by decide +kernel
theorem dX3_init_88 : decode cX3_init 88 = .ok (.iastore, 1) := by decide +kernel
theorem dX3_init_89 : decode cX3_init 89 = .ok (.aload_n 0, 1) := by decide +kernel
theorem dX3_init_90 : decode cX3_init 90 = .ok (.getfield 7, 3) := by decide +kernel
theorem dX3_init_93 : decode cX3_init 93 = .ok (.iconst 4, 1) := by decide +kernel
theorem dX3_init_94 : decode cX3_init 94 = .ok (.bipush 10, 2) := by decide +kernel
theorem dX3_init_96 : decode cX3_init 96 = .ok (.iastore, 1) := by decide +kernel
theorem dX3_init_97 : decode cX3_init 97 = .ok (.aload_n 0, 1) := by decide +kernel
theorem dX3_init_98 : decode cX3_init 98 = .ok (.getfield 7, 3) := by decide +kernel
theorem dX3_init_101 : decode cX3_init 101 = .ok (.iconst 5, 1) := by decide +kernel
theorem dX3_init_102 : decode cX3_init 102 = .ok (.bipush 35, 2) := by decide +kernel
theorem dX3_init_104 : decode cX3_init 104 = .ok (.iastore, 1) := by decide +kernel
theorem dX3_init_105 : decode cX3_init 105 = .ok (.aload_n 0, 1) := by decide +kernel
theorem dX3_init_106 : decode cX3_init 106 = .ok (.getfield 7, 3) := by decide +kernel
theorem dX3_init_109 : decode cX3_init 109 = .ok (.bipush 6, 2) := by decide +kernel
theorem dX3_init_111 : decode cX3_init 111 = .ok (.iconst 2, 1) := by decide +kernel
theorem dX3_init_112 : decode cX3_init 112 = .ok (.iastore, 1) := by decide +kernel
theorem dX3_init_113 : decode cX3_init 113 = .ok (.aload_n 0, 1) := by decide +kernel
theorem dX3_init_114 : decode cX3_init 114 = .ok (.getfield 7, 3) := by decide +kernel
theorem dX3_init_117 : decode cX3_init 117 = .ok (.bipush 7, 2) := by decide +kernel
theorem dX3_init_119 : decode cX3_init 119 = .ok (.iconst 1, 1) := by decide +kernel
theorem dX3_init_120 : decode cX3_init 120 = .ok (.iastore, 1) := by decide +kernel
theorem dX3_init_121 : decode cX3_init 121 = .ok (.aload_n 0, 1) := by decide +kernel
theorem dX3_init_122 : decode cX3_init 122 = .ok (.getfield 7, 3) := by decide +kernel
theorem dX3_init_125 : decode cX3_init 125 = .ok (.bipush 8, 2) := by decide +kernel
theorem dX3_init_127 : decode cX3_init 127 = .ok (.iconst 1, 1) := by decide +kernel
theorem dX3_init_128 : decode cX3_init 128 = .ok (.iastore, 1) := by decide +kernel
theorem dX3_init_129 : decode cX3_init 129 = .ok (.return_, 1) := by decide +kernel
theorem dX3_in_0 : decode cX3_in 0 = .ok (.iload_n 0, 1) := by decide +kernel
theorem dX3_in_1 : decode cX3_in 1 = .ok (.iload_n 1, 1) := by decide +kernel
theorem dX3_in_2 : decode cX3_in 2 = .ok (.if_icmp .lt 12, 3) := by decide +kernel
theorem dX3_in_5 : decode cX3_in 5 = .ok (.iload_n 0, 1) := by decide +kernel
theorem dX3_in_6 : decode cX3_in 6 = .ok (.iload_n 2, 1) := by decide +kernel
theorem dX3_in_7 : decode cX3_in 7 = .ok (.if_icmp .gt 7, 3) := by decide +kernel
theorem dX3_in_10 : decode cX3_in 10 = .ok (.iconst 1, 1) := by decide +kernel
theorem dX3_in_11 : decode cX3_in 11 = .ok (.goto 4, 3) := by decide +kernel
theorem dX3_in_14 : decode cX3_in 14 = .ok (.iconst 0, 1) := by decide +kernel
theorem dX3_in_15 : decode cX3_in 15 = .ok (.ireturn, 1) := by decide +kernel
theorem dX3_size_0 : decode cX3_size 0 = .ok (.iload_n 0, 1) := by decide +kernel
theorem dX3_size_1 : decode cX3_size 1 = .ok (.ifCond .ge 8, 3) := by decide +kernel
theorem dX3_size_4 : decode cX3_size 4 = .ok (.iload_n 0, 1) := by decide +kernel
theorem dX3_size_5 : decode cX3_size 5 = .ok (.ineg, 1) := by decide +kernel
theorem dX3_size_6 : decode cX3_size 6 = .ok (.goto 4, 3) := by decide +kernel
theorem dX3_size_9 : decode cX3_size 9 = .ok (.iload_n 0, 1) := by decide +kernel
theorem dX3_size_10 : decode cX3_size 10 = .ok (.ireturn, 1) := by decide +kernel
set_option maxRecDepth 20000 in
theorem ggX3_isSetting_X3_in : GoodIn wsX3_isSetting wsX3_in := goodIn_r _ [5] (by decide +kernel) (by decide +kernel)
set_option maxRecDepth 20000 in
theorem gX3_isSetting_X3_in : GoodIn wsX3_isSetting (va_wsS RX3 33 yX3_in wsX3_in) := goodIn_app (goodIn_of _ (by decide +kernel)) ggX3_isSetting_X3_in
theorem dX3_isSetting_0 : decode cX3_isSetting 0 = .ok (.iload_n 1, 1) := by decide +kernel
theorem dX3_isSetting_1 : decode cX3_isSetting 1 = .ok (.iconst 0, 1) := by decide +kernel
theorem dX3_isSetting_2 : decode cX3_isSetting 2 = .ok (.aload_n 0, 1) := by decide +kernel
theorem dX3_isSetting_3 : decode cX3_isSetting 3 = .ok (.getfield 7, 3) := by decide +kernel
theorem dX3_isSetting_6 : decode cX3_isSetting 6 = .ok (.iconst 0, 1) := by decide +kernel
theorem dX3_isSetting_7 : decode cX3_isSetting 7 = .ok (.iaload, 1) := by decide +kernel
theorem dX3_isSetting_8 : decode cX3_isSetting 8 = .ok (.ifCond .ne 8, 3) := by decide +kernel
theorem dX3_isSetting_11 : decode cX3_isSetting 11 = .ok (.bipush 7, 2) := by decide +kernel
theorem dX3_isSetting_13 : decode cX3_isSetting 13 = .ok (.goto 5, 3) := by decide +kernel
theorem dX3_isSetting_16 : decode cX3_isSetting 16 = .ok (.bipush 6, 2) := by decide +kernel
theorem dX3_isSetting_18 : decode cX3_isSetting 18 = .ok (.invokestatic 33, 3) := by decide +kernel
theorem dX3_isSetting_21 : decode cX3_isSetting 21 = .ok (.ireturn, 1) := by decide +kernel
set_option maxRecDepth 20000 in
theorem ggX3_isWay_X3_in : GoodIn wsX3_isWay wsX3_in := goodIn_r _ [4] (by decide +kernel) (by decide +kernel)
set_option maxRecDepth 20000 in
theorem gX3_isWay_X3_in : GoodIn wsX3_isWay (va_wsS RX3 33 yX3_in wsX3_in) := goodIn_app (goodIn_of _ (by decide +kernel)) ggX3_isWay_X3_in
set_option maxRecDepth 20000 in
theorem ggX3_isWay_X3_isSetting : GoodIn wsX3_isWay wsX3_isSetting := goodIn_r _ [8, 9, 1, 2, 3, 4, 10, 11, 12, 13, 14, 15, 16] (by decide +kernel) (by decide +kernel)
set_option maxRecDepth 20000 in
theorem gX3_isWay_X3_isSetting : GoodIn wsX3_isWay (wsV RX3 37 RX3 yX3_isSetting wsX3_isSetting) := goodIn_app (goodIn_of _ (by decide +kernel)) ggX3_isWay_X3_isSetting
theorem dX3_isWay_0 : decode cX3_isWay 0 = .ok (.iload_n 1, 1) := by decide +kernel
theorem dX3_isWay_1 : decode cX3_isWay 1 = .ok (.iconst 0, 1) := by decide +kernel
theorem dX3_isWay_2 : decode cX3_isWay 2 = .ok (.bipush 63, 2) := by decide +kernel
theorem dX3_isWay_4 : decode cX3_isWay 4 = .ok (.invokestatic 33, 3) := by decide +kernel
theorem dX3_isWay_7 : decode cX3_isWay 7 = .ok (.ifCond .eq 18, 3) := by decide +kernel
theorem dX3_isWay_10 : decode cX3_isWay 10 = .ok (.aload_n 0, 1) := by decide +kernel
theorem dX3_isWay_11 : decode cX3_isWay 11 = .ok (.iload_n 1, 1) := by decide +kernel
theorem dX3_isWay_12 : decode cX3_isWay 12 = .ok (.bipush 8, 2) := by decide +kernel
theorem dX3_isWay_14 : decode cX3_isWay 14 = .ok (.irem, 1) := by decide +kernel
theorem dX3_isWay_15 : decode cX3_isWay 15 = .ok (.invokevirtual 37, 3) := by decide +kernel
theorem dX3_isWay_18 : decode cX3_isWay 18 = .ok (.ifCond .eq 7, 3) := by decide +kernel
theorem dX3_isWay_21 : decode cX3_isWay 21 = .ok (.iconst 1, 1) := by decide +kernel
theorem dX3_isWay_22 : decode cX3_isWay 22 = .ok (.goto 4, 3) := by decide +kernel
theorem dX3_isWay_25 : decode cX3_isWay 25 = .ok (.iconst 0, 1) := by decide +kernel
theorem dX3_isWay_26 : decode cX3_isWay 26 = .ok (.ireturn, 1) := by decide +kernel
set_option maxRecDepth 20000 in
theorem ggX3_isNote_X3_in : GoodIn wsX3_isNote wsX3_in := goodIn_r _ [4] (by decide +kernel) (by decide +kernel)
set_option maxRecDepth 20000 in
theorem gX3_isNote_X3_in : GoodIn wsX3_isNote (va_wsS RX3 33 yX3_in wsX3_in) := goodIn_app (goodIn_of _ (by decide +kernel)) ggX3_isNote_X3_in
theorem dX3_isNote_0 : decode cX3_isNote 0 = .ok (.iload_n 0, 1) := by decide +kernel
theorem dX3_isNote_1 : decode cX3_isNote 1 = .ok (.iconst 0, 1) := by decide +kernel
theorem dX3_isNote_2 : decode cX3_isNote 2 = .ok (.bipush 36, 2) := by decide +kernel
theorem dX3_isNote_4 : decode cX3_isNote 4 = .ok (.invokestatic 33, 3) := by decide +kernel
theorem dX3_isNote_7 : decode cX3_isNote 7 = .ok (.ireturn, 1) := by decide +kernel
set_option maxRecDepth 20000 in
theorem ggX3_isPlace_X3_in : GoodIn wsX3_isPlace wsX3_in := goodIn_r _ [5] (by decide +kernel) (by decide +kernel)
set_option maxRecDepth 20000 in
theorem gX3_isPlace_X3_in : GoodIn wsX3_isPlace (va_wsS RX3 33 yX3_in wsX3_in) := goodIn_app (goodIn_of _ (by decide +kernel)) ggX3_isPlace_X3_in
theorem dX3_isPlace_0 : decode cX3_isPlace 0 = .ok (.iload_n 1, 1) := by decide +kernel
theorem dX3_isPlace_1 : decode cX3_isPlace 1 = .ok (.iconst 0, 1) := by decide +kernel
theorem dX3_isPlace_2 : decode cX3_isPlace 2 = .ok (.aload_n 0, 1) := by decide +kernel
theorem dX3_isPlace_3 : decode cX3_isPlace 3 = .ok (.getfield 7, 3) := by decide +kernel
theorem dX3_isPlace_6 : decode cX3_isPlace 6 = .ok (.bipush 9, 2) := by decide +kernel
theorem dX3_isPlace_8 : decode cX3_isPlace 8 = .ok (.iaload, 1) := by decide +kernel
theorem dX3_isPlace_9 : decode cX3_isPlace 9 = .ok (.iconst 1, 1) := by decide +kernel
theorem dX3_isPlace_10 : decode cX3_isPlace 10 = .ok (.isub, 1) := by decide +kernel
theorem dX3_isPlace_11 : decode cX3_isPlace 11 = .ok (.invokestatic 33, 3) := by decide +kernel
theorem dX3_isPlace_14 : decode cX3_isPlace 14 = .ok (.ireturn, 1) := by decide +kernel
theorem dX3_bits_0 : decode cX3_bits 0 = .ok (.iload_n 0, 1) := by decide +kernel
theorem dX3_bits_1 : decode cX3_bits 1 = .ok (.iconst 1, 1) := by decide +kernel
theorem dX3_bits_2 : decode cX3_bits 2 = .ok (.iand, 1) := by decide +kernel
theorem dX3_bits_3 : decode cX3_bits 3 = .ok (.iload_n 0, 1) := by decide +kernel
theorem dX3_bits_4 : decode cX3_bits 4 = .ok (.iconst 1, 1) := by decide +kernel
theorem dX3_bits_5 : decode cX3_bits 5 = .ok (.ishr, 1) := by decide +kernel
theorem dX3_bits_6 : decode cX3_bits 6 = .ok (.iconst 1, 1) := by decide +kernel
theorem dX3_bits_7 : decode cX3_bits 7 = .ok (.iand, 1) := by decide +kernel
theorem dX3_bits_8 : decode cX3_bits 8 = .ok (.iadd, 1) := by decide +kernel
theorem dX3_bits_9 : decode cX3_bits 9 = .ok (.iload_n 0, 1) := by decide +kernel
theorem dX3_bits_10 : decode cX3_bits 10 = .ok (.iconst 2, 1) := by decide +kernel
theorem dX3_bits_11 : decode cX3_bits 11 = .ok (.ishr, 1) := by decide +kernel
theorem dX3_bits_12 : decode cX3_bits 12 = .ok (.iconst 1, 1) := by decide +kernel
theorem dX3_bits_13 : decode cX3_bits 13 = .ok (.iand, 1) := by decide +kernel
theorem dX3_bits_14 : decode cX3_bits 14 = .ok (.iadd, 1) := by decide +kernel
theorem dX3_bits_15 : decode cX3_bits 15 = .ok (.ireturn, 1) := by decide +kernel
set_option maxRecDepth 20000 in
theorem ggX3_lowersBy_X3_bits : GoodIn wsX3_lowersBy wsX3_bits := goodIn_r _ [5] (by decide +kernel) (by decide +kernel)
set_option maxRecDepth 20000 in
theorem gX3_lowersBy_X3_bits : GoodIn wsX3_lowersBy (va_wsS RX3 41 yX3_bits wsX3_bits) := goodIn_app (goodIn_of _ (by decide +kernel)) ggX3_lowersBy_X3_bits
theorem dX3_lowersBy_0 : decode cX3_lowersBy 0 = .ok (.aload_n 0, 1) := by decide +kernel
theorem dX3_lowersBy_1 : decode cX3_lowersBy 1 = .ok (.getfield 7, 3) := by decide +kernel
theorem dX3_lowersBy_4 : decode cX3_lowersBy 4 = .ok (.iconst 0, 1) := by decide +kernel
theorem dX3_lowersBy_5 : decode cX3_lowersBy 5 = .ok (.iaload, 1) := by decide +kernel
theorem dX3_lowersBy_6 : decode cX3_lowersBy 6 = .ok (.iconst 1, 1) := by decide +kernel
theorem dX3_lowersBy_7 : decode cX3_lowersBy 7 = .ok (.if_icmp .ne 8, 3) := by decide +kernel
theorem dX3_lowersBy_10 : decode cX3_lowersBy 10 = .ok (.bipush 100, 2) := by decide +kernel
theorem dX3_lowersBy_12 : decode cX3_lowersBy 12 = .ok (.iload_n 1, 1) := by decide +kernel
theorem dX3_lowersBy_13 : decode cX3_lowersBy 13 = .ok (.imul, 1) := by decide +kernel
theorem dX3_lowersBy_14 : decode cX3_lowersBy 14 = .ok (.ireturn, 1) := by decide +kernel
theorem dX3_lowersBy_15 : decode cX3_lowersBy 15 = .ok (.iconst 0, 1) := by decide +kernel
theorem dX3_lowersBy_16 : decode cX3_lowersBy 16 = .ok (.istore_n 2, 1) := by decide +kernel
theorem dX3_lowersBy_17 : decode cX3_lowersBy 17 = .ok (.iconst 0, 1) := by decide +kernel
theorem dX3_lowersBy_18 : decode cX3_lowersBy 18 = .ok (.istore_n 3, 1) := by decide +kernel
theorem dX3_lowersBy_19 : decode cX3_lowersBy 19 = .ok (.iload_n 3, 1) := by decide +kernel
theorem dX3_lowersBy_20 : decode cX3_lowersBy 20 = .ok (.iconst 3, 1) := by decide +kernel
theorem dX3_lowersBy_21 : decode cX3_lowersBy 21 = .ok (.if_icmp .ge 26, 3) := by decide +kernel
theorem dX3_lowersBy_24 : decode cX3_lowersBy 24 = .ok (.iload_n 2, 1) := by decide +kernel
theorem dX3_lowersBy_25 : decode cX3_lowersBy 25 = .ok (.iload_n 1, 1) := by decide +kernel
theorem dX3_lowersBy_26 : decode cX3_lowersBy 26 = .ok (.iload_n 3, 1) := by decide +kernel
theorem dX3_lowersBy_27 : decode cX3_lowersBy 27 = .ok (.ishr, 1) := by decide +kernel
theorem dX3_lowersBy_28 : decode cX3_lowersBy 28 = .ok (.iconst 1, 1) := by decide +kernel
theorem dX3_lowersBy_29 : decode cX3_lowersBy 29 = .ok (.iand, 1) := by decide +kernel
theorem dX3_lowersBy_30 : decode cX3_lowersBy 30 = .ok (.aload_n 0, 1) := by decide +kernel
theorem dX3_lowersBy_31 : decode cX3_lowersBy 31 = .ok (.getfield 7, 3) := by decide +kernel
theorem dX3_lowersBy_34 : decode cX3_lowersBy 34 = .ok (.iconst 1, 1) := by decide +kernel
theorem dX3_lowersBy_35 : decode cX3_lowersBy 35 = .ok (.iload_n 3, 1) := by decide +kernel
theorem dX3_lowersBy_36 : decode cX3_lowersBy 36 = .ok (.iadd, 1) := by decide +kernel
theorem dX3_lowersBy_37 : decode cX3_lowersBy 37 = .ok (.iaload, 1) := by decide +kernel
theorem dX3_lowersBy_38 : decode cX3_lowersBy 38 = .ok (.imul, 1) := by decide +kernel
theorem dX3_lowersBy_39 : decode cX3_lowersBy 39 = .ok (.iadd, 1) := by decide +kernel
theorem dX3_lowersBy_40 : decode cX3_lowersBy 40 = .ok (.istore_n 2, 1) := by decide +kernel
theorem dX3_lowersBy_41 : decode cX3_lowersBy 41 = .ok (.iinc 3 1, 3) := by decide +kernel
theorem dX3_lowersBy_44 : decode cX3_lowersBy 44 = .ok (.goto (-25), 3) := by decide +kernel
theorem dX3_lowersBy_47 : decode cX3_lowersBy 47 = .ok (.iload_n 1, 1) := by decide +kernel
theorem dX3_lowersBy_48 : decode cX3_lowersBy 48 = .ok (.invokestatic 41, 3) := by decide +kernel
theorem dX3_lowersBy_51 : decode cX3_lowersBy 51 = .ok (.istore_n 3, 1) := by decide +kernel
theorem dX3_lowersBy_52 : decode cX3_lowersBy 52 = .ok (.iload_n 2, 1) := by decide +kernel
theorem dX3_lowersBy_53 : decode cX3_lowersBy 53 = .ok (.aload_n 0, 1) := by decide +kernel
theorem dX3_lowersBy_54 : decode cX3_lowersBy 54 = .ok (.getfield 7, 3) := by decide +kernel
theorem dX3_lowersBy_57 : decode cX3_lowersBy 57 = .ok (.iconst 4, 1) := by decide +kernel
theorem dX3_lowersBy_58 : decode cX3_lowersBy 58 = .ok (.iaload, 1) := by decide +kernel
theorem dX3_lowersBy_59 : decode cX3_lowersBy 59 = .ok (.iload_n 3, 1) := by decide +kernel
theorem dX3_lowersBy_60 : decode cX3_lowersBy 60 = .ok (.iload_n 3, 1) := by decide +kernel
theorem dX3_lowersBy_61 : decode cX3_lowersBy 61 = .ok (.iconst 1, 1) := by decide +kernel
theorem dX3_lowersBy_62 : decode cX3_lowersBy 62 = .ok (.isub, 1) := by decide +kernel
theorem dX3_lowersBy_63 : decode cX3_lowersBy 63 = .ok (.imul, 1) := by decide +kernel
theorem dX3_lowersBy_64 : decode cX3_lowersBy 64 = .ok (.iconst 2, 1) := by decide +kernel
theorem dX3_lowersBy_65 : decode cX3_lowersBy 65 = .ok (.idiv, 1) := by decide +kernel
theorem dX3_lowersBy_66 : decode cX3_lowersBy 66 = .ok (.imul, 1) := by decide +kernel
theorem dX3_lowersBy_67 : decode cX3_lowersBy 67 = .ok (.isub, 1) := by decide +kernel
theorem dX3_lowersBy_68 : decode cX3_lowersBy 68 = .ok (.ireturn, 1) := by decide +kernel
theorem dX3_highOf_0 : decode cX3_highOf 0 = .ok (.iload_n 0, 1) := by decide +kernel
theorem dX3_highOf_1 : decode cX3_highOf 1 = .ok (.tableswitch 69 0 6 #[43, 45, 49, 53, 57, 61, 65], 43) := by decide +kernel
theorem dX3_highOf_44 : decode cX3_highOf 44 = .ok (.iconst 0, 1) := by decide +kernel
theorem dX3_highOf_45 : decode cX3_highOf 45 = .ok (.ireturn, 1) := by decide +kernel
theorem dX3_highOf_46 : decode cX3_highOf 46 = .ok (.sipush 1200, 3) := by decide +kernel
theorem dX3_highOf_49 : decode cX3_highOf 49 = .ok (.ireturn, 1) := by decide +kernel
theorem dX3_highOf_50 : decode cX3_highOf 50 = .ok (.sipush 1902, 3) := by decide +kernel
theorem dX3_highOf_53 : decode cX3_highOf 53 = .ok (.ireturn, 1) := by decide +kernel
theorem dX3_highOf_54 : decode cX3_highOf 54 = .ok (.sipush 2400, 3) := by decide +kernel
theorem dX3_highOf_57 : decode cX3_highOf 57 = .ok (.ireturn, 1) := by decide +kernel
theorem dX3_highOf_58 : decode cX3_highOf 58 = .ok (.sipush 2786, 3) := by decide +kernel
theorem dX3_highOf_61 : decode cX3_highOf 61 = .ok (.ireturn, 1) := by decide +kernel
theorem dX3_highOf_62 : decode cX3_highOf 62 = .ok (.sipush 3102, 3) := by decide +kernel
theorem dX3_highOf_65 : decode cX3_highOf 65 = .ok (.ireturn, 1) := by decide +kernel
theorem dX3_highOf_66 : decode cX3_highOf 66 = .ok (.sipush 3369, 3) := by decide +kernel
theorem dX3_highOf_69 : decode cX3_highOf 69 = .ok (.ireturn, 1) := by decide +kernel
theorem dX3_highOf_70 : decode cX3_highOf 70 = .ok (.sipush 3600, 3) := by decide +kernel
theorem dX3_highOf_73 : decode cX3_highOf 73 = .ok (.ireturn, 1) := by decide +kernel
set_option maxRecDepth 20000 in
theorem ggX3_offOf_X3_highOf : GoodIn wsX3_offOf wsX3_highOf := goodIn_r _ [4] (by decide +kernel) (by decide +kernel)
set_option maxRecDepth 20000 in
theorem gX3_offOf_X3_highOf : GoodIn wsX3_offOf (va_wsS RX3 45 yX3_highOf wsX3_highOf) := goodIn_app (goodIn_of _ (by decide +kernel)) ggX3_offOf_X3_highOf
set_option maxRecDepth 20000 in
theorem ggX3_offOf_X3_lowersBy : GoodIn wsX3_offOf wsX3_lowersBy := goodIn_r _ [8, 9, 10, 11, 3, 12, 13, 14, 15, 16, 17, 18, 19] (by decide +kernel) (by decide +kernel)
set_option maxRecDepth 20000 in
theorem gX3_offOf_X3_lowersBy : GoodIn wsX3_offOf (wsV RX3 48 RX3 yX3_lowersBy wsX3_lowersBy) := goodIn_app (goodIn_of _ (by decide +kernel)) ggX3_offOf_X3_lowersBy
theorem dX3_offOf_0 : decode cX3_offOf 0 = .ok (.iload_n 1, 1) := by decide +kernel
theorem dX3_offOf_1 : decode cX3_offOf 1 = .ok (.bipush 8, 2) := by decide +kernel
theorem dX3_offOf_3 : decode cX3_offOf 3 = .ok (.idiv, 1) := by decide +kernel
theorem dX3_offOf_4 : decode cX3_offOf 4 = .ok (.invokestatic 45, 3) := by decide +kernel
theorem dX3_offOf_7 : decode cX3_offOf 7 = .ok (.aload_n 0, 1) := by decide +kernel
theorem dX3_offOf_8 : decode cX3_offOf 8 = .ok (.iload_n 1, 1) := by decide +kernel
theorem dX3_offOf_9 : decode cX3_offOf 9 = .ok (.bipush 8, 2) := by decide +kernel
theorem dX3_offOf_11 : decode cX3_offOf 11 = .ok (.irem, 1) := by decide +kernel
theorem dX3_offOf_12 : decode cX3_offOf 12 = .ok (.invokevirtual 48, 3) := by decide +kernel
theorem dX3_offOf_15 : decode cX3_offOf 15 = .ok (.isub, 1) := by decide +kernel
theorem dX3_offOf_16 : decode cX3_offOf 16 = .ok (.bipush 100, 2) := by decide +kernel
theorem dX3_offOf_18 : decode cX3_offOf 18 = .ok (.iload_n 2, 1) := by decide +kernel
theorem dX3_offOf_19 : decode cX3_offOf 19 = .ok (.imul, 1) := by decide +kernel
theorem dX3_offOf_20 : decode cX3_offOf 20 = .ok (.isub, 1) := by decide +kernel
theorem dX3_offOf_21 : decode cX3_offOf 21 = .ok (.ireturn, 1) := by decide +kernel
set_option maxRecDepth 20000 in
theorem ggX3_sounds_X3_isWay : GoodIn wsX3_sounds wsX3_isWay := goodIn_r _ [6, 7, 8, 5, 9, 10, 11, 12, 13, 1, 31, 32, 33, 34, 35, 36, 37] (by decide +kernel) (by decide +kernel)
set_option maxRecDepth 20000 in
theorem gX3_sounds_X3_isWay : GoodIn wsX3_sounds (wsV RX3 51 RX3 yX3_isWay wsX3_isWay) := goodIn_app (goodIn_of _ (by decide +kernel)) ggX3_sounds_X3_isWay
set_option maxRecDepth 20000 in
theorem ggX3_sounds_X3_offOf : GoodIn wsX3_sounds wsX3_offOf := goodIn_r _ [17, 18, 19, 5, 20, 21, 22, 23, 24, 1, 25, 26, 27, 31, 32, 33, 34, 35, 36, 37] (by decide +kernel) (by decide +kernel)
set_option maxRecDepth 20000 in
theorem gX3_sounds_X3_offOf : GoodIn wsX3_sounds (wsV RX3 54 RX3 yX3_offOf wsX3_offOf) := goodIn_app (goodIn_of _ (by decide +kernel)) ggX3_sounds_X3_offOf
set_option maxRecDepth 20000 in
theorem ggX3_sounds_X3_size : GoodIn wsX3_sounds wsX3_size := goodIn_r _ [30] (by decide +kernel) (by decide +kernel)
set_option maxRecDepth 20000 in
theorem gX3_sounds_X3_size : GoodIn wsX3_sounds (va_wsS RX3 58 yX3_size wsX3_size) := goodIn_app (goodIn_of _ (by decide +kernel)) ggX3_sounds_X3_size
theorem dX3_sounds_0 : decode cX3_sounds 0 = .ok (.aload_n 0, 1) := by decide +kernel
theorem dX3_sounds_1 : decode cX3_sounds 1 = .ok (.iload_n 1, 1) := by decide +kernel
theorem dX3_sounds_2 : decode cX3_sounds 2 = .ok (.invokevirtual 51, 3) := by decide +kernel
theorem dX3_sounds_5 : decode cX3_sounds 5 = .ok (.ifCond .eq 25, 3) := by decide +kernel
theorem dX3_sounds_8 : decode cX3_sounds 8 = .ok (.aload_n 0, 1) := by decide +kernel
theorem dX3_sounds_9 : decode cX3_sounds 9 = .ok (.iload_n 1, 1) := by decide +kernel
theorem dX3_sounds_10 : decode cX3_sounds 10 = .ok (.iload_n 2, 1) := by decide +kernel
theorem dX3_sounds_11 : decode cX3_sounds 11 = .ok (.invokevirtual 54, 3) := by decide +kernel
theorem dX3_sounds_14 : decode cX3_sounds 14 = .ok (.invokestatic 58, 3) := by decide +kernel
theorem dX3_sounds_17 : decode cX3_sounds 17 = .ok (.aload_n 0, 1) := by decide +kernel
theorem dX3_sounds_18 : decode cX3_sounds 18 = .ok (.getfield 7, 3) := by decide +kernel
theorem dX3_sounds_21 : decode cX3_sounds 21 = .ok (.iconst 5, 1) := by decide +kernel
theorem dX3_sounds_22 : decode cX3_sounds 22 = .ok (.iaload, 1) := by decide +kernel
theorem dX3_sounds_23 : decode cX3_sounds 23 = .ok (.if_icmp .gt 7, 3) := by decide +kernel
theorem dX3_sounds_26 : decode cX3_sounds 26 = .ok (.iconst 1, 1) := by decide +kernel
theorem dX3_sounds_27 : decode cX3_sounds 27 = .ok (.goto 4, 3) := by decide +kernel
theorem dX3_sounds_30 : decode cX3_sounds 30 = .ok (.iconst 0, 1) := by decide +kernel
theorem dX3_sounds_31 : decode cX3_sounds 31 = .ok (.ireturn, 1) := by decide +kernel
set_option maxRecDepth 20000 in
theorem ggX3_horn_X3_in : GoodIn wsX3_horn wsX3_in := goodIn_r _ [5] (by decide +kernel) (by decide +kernel)
set_option maxRecDepth 20000 in
theorem gX3_horn_X3_in : GoodIn wsX3_horn (va_wsS RX3 33 yX3_in wsX3_in) := goodIn_app (goodIn_of _ (by decide +kernel)) ggX3_horn_X3_in
theorem dX3_horn_0 : decode cX3_horn 0 = .ok (.iload_n 1, 1) := by decide +kernel
theorem dX3_horn_1 : decode cX3_horn 1 = .ok (.iconst 0, 1) := by decide +kernel
theorem dX3_horn_2 : decode cX3_horn 2 = .ok (.iconst 1, 1) := by decide +kernel
theorem dX3_horn_3 : decode cX3_horn 3 = .ok (.invokestatic 33, 3) := by decide +kernel
theorem dX3_horn_6 : decode cX3_horn 6 = .ok (.ifCond .ne 6, 3) := by decide +kernel
theorem dX3_horn_9 : decode cX3_horn 9 = .ok (.bipush (-2), 2) := by decide +kernel
theorem dX3_horn_11 : decode cX3_horn 11 = .ok (.ireturn, 1) := by decide +kernel
theorem dX3_horn_12 : decode cX3_horn 12 = .ok (.aload_n 0, 1) := by decide +kernel
theorem dX3_horn_13 : decode cX3_horn 13 = .ok (.getfield 7, 3) := by decide +kernel
theorem dX3_horn_16 : decode cX3_horn 16 = .ok (.iconst 0, 1) := by decide +kernel
theorem dX3_horn_17 : decode cX3_horn 17 = .ok (.iaload, 1) := by decide +kernel
theorem dX3_horn_18 : decode cX3_horn 18 = .ok (.istore_n 2, 1) := by decide +kernel
theorem dX3_horn_19 : decode cX3_horn 19 = .ok (.aload_n 0, 1) := by decide +kernel
theorem dX3_horn_20 : decode cX3_horn 20 = .ok (.getfield 7, 3) := by decide +kernel
theorem dX3_horn_23 : decode cX3_horn 23 = .ok (.iconst 0, 1) := by decide +kernel
theorem dX3_horn_24 : decode cX3_horn 24 = .ok (.iload_n 1, 1) := by decide +kernel
theorem dX3_horn_25 : decode cX3_horn 25 = .ok (.iastore, 1) := by decide +kernel
theorem dX3_horn_26 : decode cX3_horn 26 = .ok (.iload_n 2, 1) := by decide +kernel
theorem dX3_horn_27 : decode cX3_horn 27 = .ok (.ireturn, 1) := by decide +kernel
set_option maxRecDepth 20000 in
theorem ggX3_valve_X3_in : GoodIn wsX3_valve wsX3_in := goodIn_r _ [5] (by decide +kernel) (by decide +kernel)
set_option maxRecDepth 20000 in
theorem gX3_valve_X3_in : GoodIn wsX3_valve (va_wsS RX3 33 yX3_in wsX3_in) := goodIn_app (goodIn_of _ (by decide +kernel)) ggX3_valve_X3_in
theorem dX3_valve_0 : decode cX3_valve 0 = .ok (.iload_n 1, 1) := by decide +kernel
theorem dX3_valve_1 : decode cX3_valve 1 = .ok (.iconst 0, 1) := by decide +kernel
theorem dX3_valve_2 : decode cX3_valve 2 = .ok (.iconst 2, 1) := by decide +kernel
theorem dX3_valve_3 : decode cX3_valve 3 = .ok (.invokestatic 33, 3) := by decide +kernel
theorem dX3_valve_6 : decode cX3_valve 6 = .ok (.ifCond .ne 5, 3) := by decide +kernel
theorem dX3_valve_9 : decode cX3_valve 9 = .ok (.iconst (-1), 1) := by decide +kernel
theorem dX3_valve_10 : decode cX3_valve 10 = .ok (.ireturn, 1) := by decide +kernel
theorem dX3_valve_11 : decode cX3_valve 11 = .ok (.iload_n 2, 1) := by decide +kernel
theorem dX3_valve_12 : decode cX3_valve 12 = .ok (.iconst 0, 1) := by decide +kernel
theorem dX3_valve_13 : decode cX3_valve 13 = .ok (.sipush 400, 3) := by decide +kernel
theorem dX3_valve_16 : decode cX3_valve 16 = .ok (.invokestatic 33, 3) := by decide +kernel
theorem dX3_valve_19 : decode cX3_valve 19 = .ok (.ifCond .ne 6, 3) := by decide +kernel
theorem dX3_valve_22 : decode cX3_valve 22 = .ok (.bipush (-2), 2) := by decide +kernel
theorem dX3_valve_24 : decode cX3_valve 24 = .ok (.ireturn, 1) := by decide +kernel
theorem dX3_valve_25 : decode cX3_valve 25 = .ok (.aload_n 0, 1) := by decide +kernel
theorem dX3_valve_26 : decode cX3_valve 26 = .ok (.getfield 7, 3) := by decide +kernel
theorem dX3_valve_29 : decode cX3_valve 29 = .ok (.iconst 1, 1) := by decide +kernel
theorem dX3_valve_30 : decode cX3_valve 30 = .ok (.iload_n 1, 1) := by decide +kernel
theorem dX3_valve_31 : decode cX3_valve 31 = .ok (.iadd, 1) := by decide +kernel
theorem dX3_valve_32 : decode cX3_valve 32 = .ok (.iaload, 1) := by decide +kernel
theorem dX3_valve_33 : decode cX3_valve 33 = .ok (.istore_n 3, 1) := by decide +kernel
theorem dX3_valve_34 : decode cX3_valve 34 = .ok (.aload_n 0, 1) := by decide +kernel
theorem dX3_valve_35 : decode cX3_valve 35 = .ok (.getfield 7, 3) := by decide +kernel
theorem dX3_valve_38 : decode cX3_valve 38 = .ok (.iconst 1, 1) := by decide +kernel
theorem dX3_valve_39 : decode cX3_valve 39 = .ok (.iload_n 1, 1) := by decide +kernel
theorem dX3_valve_40 : decode cX3_valve 40 = .ok (.iadd, 1) := by decide +kernel
theorem dX3_valve_41 : decode cX3_valve 41 = .ok (.iload_n 2, 1) := by decide +kernel
theorem dX3_valve_42 : decode cX3_valve 42 = .ok (.iastore, 1) := by decide +kernel
theorem dX3_valve_43 : decode cX3_valve 43 = .ok (.iload_n 3, 1) := by decide +kernel
theorem dX3_valve_44 : decode cX3_valve 44 = .ok (.ireturn, 1) := by decide +kernel
set_option maxRecDepth 20000 in
theorem ggX3_rule_X3_in : GoodIn wsX3_rule wsX3_in := goodIn_r _ [5] (by decide +kernel) (by decide +kernel)
set_option maxRecDepth 20000 in
theorem gX3_rule_X3_in : GoodIn wsX3_rule (va_wsS RX3 33 yX3_in wsX3_in) := goodIn_app (goodIn_of _ (by decide +kernel)) ggX3_rule_X3_in
theorem dX3_rule_0 : decode cX3_rule 0 = .ok (.iload_n 1, 1) := by decide +kernel
theorem dX3_rule_1 : decode cX3_rule 1 = .ok (.iconst 0, 1) := by decide +kernel
theorem dX3_rule_2 : decode cX3_rule 2 = .ok (.iconst 4, 1) := by decide +kernel
theorem dX3_rule_3 : decode cX3_rule 3 = .ok (.invokestatic 33, 3) := by decide +kernel
theorem dX3_rule_6 : decode cX3_rule 6 = .ok (.ifCond .eq 32, 3) := by decide +kernel
theorem dX3_rule_9 : decode cX3_rule 9 = .ok (.iload_n 2, 1) := by decide +kernel
theorem dX3_rule_10 : decode cX3_rule 10 = .ok (.iconst 0, 1) := by decide +kernel
theorem dX3_rule_11 : decode cX3_rule 11 = .ok (.iload_n 1, 1) := by decide +kernel
theorem dX3_rule_12 : decode cX3_rule 12 = .ok (.ifCond .ne 8, 3) := by decide +kernel
theorem dX3_rule_15 : decode cX3_rule 15 = .ok (.bipush 50, 2) := by decide +kernel
theorem dX3_rule_17 : decode cX3_rule 17 = .ok (.goto 15, 3) := by decide +kernel
theorem dX3_rule_20 : decode cX3_rule 20 = .ok (.iload_n 1, 1) := by decide +kernel
theorem dX3_rule_21 : decode cX3_rule 21 = .ok (.iconst 1, 1) := by decide +kernel
theorem dX3_rule_22 : decode cX3_rule 22 = .ok (.if_icmp .ne 8, 3) := by decide +kernel
theorem dX3_rule_25 : decode cX3_rule 25 = .ok (.bipush 99, 2) := by decide +kernel
theorem dX3_rule_27 : decode cX3_rule 27 = .ok (.goto 5, 3) := by decide +kernel
theorem dX3_rule_30 : decode cX3_rule 30 = .ok (.bipush 9, 2) := by decide +kernel
theorem dX3_rule_32 : decode cX3_rule 32 = .ok (.invokestatic 33, 3) := by decide +kernel
theorem dX3_rule_35 : decode cX3_rule 35 = .ok (.ifCond .ne 6, 3) := by decide +kernel
theorem dX3_rule_38 : decode cX3_rule 38 = .ok (.bipush (-2), 2) := by decide +kernel
theorem dX3_rule_40 : decode cX3_rule 40 = .ok (.ireturn, 1) := by decide +kernel
theorem dX3_rule_41 : decode cX3_rule 41 = .ok (.aload_n 0, 1) := by decide +kernel
theorem dX3_rule_42 : decode cX3_rule 42 = .ok (.getfield 7, 3) := by decide +kernel
theorem dX3_rule_45 : decode cX3_rule 45 = .ok (.iconst 4, 1) := by decide +kernel
theorem dX3_rule_46 : decode cX3_rule 46 = .ok (.iload_n 1, 1) := by decide +kernel
theorem dX3_rule_47 : decode cX3_rule 47 = .ok (.iadd, 1) := by decide +kernel
theorem dX3_rule_48 : decode cX3_rule 48 = .ok (.iaload, 1) := by decide +kernel
theorem dX3_rule_49 : decode cX3_rule 49 = .ok (.istore_n 3, 1) := by decide +kernel
theorem dX3_rule_50 : decode cX3_rule 50 = .ok (.aload_n 0, 1) := by decide +kernel
theorem dX3_rule_51 : decode cX3_rule 51 = .ok (.getfield 7, 3) := by decide +kernel
theorem dX3_rule_54 : decode cX3_rule 54 = .ok (.iconst 4, 1) := by decide +kernel
theorem dX3_rule_55 : decode cX3_rule 55 = .ok (.iload_n 1, 1) := by decide +kernel
theorem dX3_rule_56 : decode cX3_rule 56 = .ok (.iadd, 1) := by decide +kernel
theorem dX3_rule_57 : decode cX3_rule 57 = .ok (.iload_n 2, 1) := by decide +kernel
theorem dX3_rule_58 : decode cX3_rule 58 = .ok (.iastore, 1) := by decide +kernel
theorem dX3_rule_59 : decode cX3_rule 59 = .ok (.iload_n 3, 1) := by decide +kernel
theorem dX3_rule_60 : decode cX3_rule 60 = .ok (.ireturn, 1) := by decide +kernel
set_option maxRecDepth 20000 in
theorem ggX3_lowers_X3_isSetting : GoodIn wsX3_lowers wsX3_isSetting := goodIn_r _ [5, 6, 7, 8, 4, 9, 17, 18, 19, 20, 21, 22, 23] (by decide +kernel) (by decide +kernel)
set_option maxRecDepth 20000 in
theorem gX3_lowers_X3_isSetting : GoodIn wsX3_lowers (wsV RX3 37 RX3 yX3_isSetting wsX3_isSetting) := goodIn_app (goodIn_of _ (by decide +kernel)) ggX3_lowers_X3_isSetting
set_option maxRecDepth 20000 in
theorem ggX3_lowers_X3_lowersBy : GoodIn wsX3_lowers wsX3_lowersBy := goodIn_r _ [13, 6, 14, 15, 4, 16, 17, 18, 19, 20, 21, 22, 23] (by decide +kernel) (by decide +kernel)
set_option maxRecDepth 20000 in
theorem gX3_lowers_X3_lowersBy : GoodIn wsX3_lowers (wsV RX3 48 RX3 yX3_lowersBy wsX3_lowersBy) := goodIn_app (goodIn_of _ (by decide +kernel)) ggX3_lowers_X3_lowersBy
theorem dX3_lowers_0 : decode cX3_lowers 0 = .ok (.aload_n 0, 1) := by decide +kernel
theorem dX3_lowers_1 : decode cX3_lowers 1 = .ok (.iload_n 1, 1) := by decide +kernel
theorem dX3_lowers_2 : decode cX3_lowers 2 = .ok (.invokevirtual 37, 3) := by decide +kernel
theorem dX3_lowers_5 : decode cX3_lowers 5 = .ok (.ifCond .eq 15, 3) := by decide +kernel
theorem dX3_lowers_8 : decode cX3_lowers 8 = .ok (.aload_n 0, 1) := by decide +kernel
theorem dX3_lowers_9 : decode cX3_lowers 9 = .ok (.iload_n 1, 1) := by decide +kernel
theorem dX3_lowers_10 : decode cX3_lowers 10 = .ok (.invokevirtual 48, 3) := by decide +kernel
theorem dX3_lowers_13 : decode cX3_lowers 13 = .ok (.sipush 1000, 3) := by decide +kernel
theorem dX3_lowers_16 : decode cX3_lowers 16 = .ok (.iadd, 1) := by decide +kernel
theorem dX3_lowers_17 : decode cX3_lowers 17 = .ok (.goto 5, 3) := by decide +kernel
theorem dX3_lowers_20 : decode cX3_lowers 20 = .ok (.bipush (-2), 2) := by decide +kernel
theorem dX3_lowers_22 : decode cX3_lowers 22 = .ok (.ireturn, 1) := by decide +kernel
set_option maxRecDepth 20000 in
theorem ggX3_off_X3_isWay : GoodIn wsX3_off wsX3_isWay := goodIn_r _ [5, 6, 7, 4, 8, 9, 10, 11, 12, 13, 31, 32, 33, 34, 35, 36, 37] (by decide +kernel) (by decide +kernel)
set_option maxRecDepth 20000 in
theorem gX3_off_X3_isWay : GoodIn wsX3_off (wsV RX3 51 RX3 yX3_isWay wsX3_isWay) := goodIn_app (goodIn_of _ (by decide +kernel)) ggX3_off_X3_isWay
set_option maxRecDepth 20000 in
theorem ggX3_off_X3_isNote : GoodIn wsX3_off wsX3_isNote := goodIn_r _ [16, 6, 7, 4, 8] (by decide +kernel) (by decide +kernel)
set_option maxRecDepth 20000 in
theorem gX3_off_X3_isNote : GoodIn wsX3_off (va_wsS RX3 61 yX3_isNote wsX3_isNote) := goodIn_app (goodIn_of _ (by decide +kernel)) ggX3_off_X3_isNote
set_option maxRecDepth 20000 in
theorem ggX3_off_X3_offOf : GoodIn wsX3_off wsX3_offOf := goodIn_r _ [20, 21, 22, 4, 23, 24, 25, 26, 27, 13, 28, 29, 30, 31, 32, 33, 34, 35, 36, 37] (by decide +kernel) (by decide +kernel)
set_option maxRecDepth 20000 in
theorem gX3_off_X3_offOf : GoodIn wsX3_off (wsV RX3 54 RX3 yX3_offOf wsX3_offOf) := goodIn_app (goodIn_of _ (by decide +kernel)) ggX3_off_X3_offOf
theorem dX3_off_0 : decode cX3_off 0 = .ok (.aload_n 0, 1) := by decide +kernel
theorem dX3_off_1 : decode cX3_off 1 = .ok (.iload_n 1, 1) := by decide +kernel
theorem dX3_off_2 : decode cX3_off 2 = .ok (.invokevirtual 51, 3) := by decide +kernel
theorem dX3_off_5 : decode cX3_off 5 = .ok (.ifCond .eq 23, 3) := by decide +kernel
theorem dX3_off_8 : decode cX3_off 8 = .ok (.iload_n 2, 1) := by decide +kernel
theorem dX3_off_9 : decode cX3_off 9 = .ok (.invokestatic 61, 3) := by decide +kernel
theorem dX3_off_12 : decode cX3_off 12 = .ok (.ifCond .eq 16, 3) := by decide +kernel
theorem dX3_off_15 : decode cX3_off 15 = .ok (.aload_n 0, 1) := by decide +kernel
theorem dX3_off_16 : decode cX3_off 16 = .ok (.iload_n 1, 1) := by decide +kernel
theorem dX3_off_17 : decode cX3_off 17 = .ok (.iload_n 2, 1) := by decide +kernel
theorem dX3_off_18 : decode cX3_off 18 = .ok (.invokevirtual 54, 3) := by decide +kernel
theorem dX3_off_21 : decode cX3_off 21 = .ok (.sipush 10000, 3) := by decide +kernel
theorem dX3_off_24 : decode cX3_off 24 = .ok (.iadd, 1) := by decide +kernel
theorem dX3_off_25 : decode cX3_off 25 = .ok (.goto 5, 3) := by decide +kernel
theorem dX3_off_28 : decode cX3_off 28 = .ok (.bipush (-2), 2) := by decide +kernel
theorem dX3_off_30 : decode cX3_off 30 = .ok (.ireturn, 1) := by decide +kernel
set_option maxRecDepth 20000 in
theorem ggX3_waysOf_X3_sounds : GoodIn wsX3_waysOf wsX3_sounds := goodIn_r _ [5, 6, 7, 8, 9, 4, 10, 11, 12, 13, 14, 15, 16, 17, 18, 19, 20, 21, 22, 23, 24, 25, 26, 27, 28, 29, 30, 31, 32, 33, 34, 35, 36, 37, 38, 39, 40, 41] (by decide +kernel) (by decide +kernel)
set_option maxRecDepth 20000 in
theorem gX3_waysOf_X3_sounds : GoodIn wsX3_waysOf (wsV RX3 64 RX3 yX3_sounds wsX3_sounds) := goodIn_app (goodIn_of _ (by decide +kernel)) ggX3_waysOf_X3_sounds
theorem dX3_waysOf_0 : decode cX3_waysOf 0 = .ok (.iconst 0, 1) := by decide +kernel
theorem dX3_waysOf_1 : decode cX3_waysOf 1 = .ok (.istore_n 2, 1) := by decide +kernel
theorem dX3_waysOf_2 : decode cX3_waysOf 2 = .ok (.iconst 0, 1) := by decide +kernel
theorem dX3_waysOf_3 : decode cX3_waysOf 3 = .ok (.istore_n 3, 1) := by decide +kernel
theorem dX3_waysOf_4 : decode cX3_waysOf 4 = .ok (.iload_n 3, 1) := by decide +kernel
theorem dX3_waysOf_5 : decode cX3_waysOf 5 = .ok (.bipush 64, 2) := by decide +kernel
theorem dX3_waysOf_7 : decode cX3_waysOf 7 = .ok (.if_icmp .ge 26, 3) := by decide +kernel
theorem dX3_waysOf_10 : decode cX3_waysOf 10 = .ok (.iload_n 2, 1) := by decide +kernel
theorem dX3_waysOf_11 : decode cX3_waysOf 11 = .ok (.aload_n 0, 1) := by decide +kernel
theorem dX3_waysOf_12 : decode cX3_waysOf 12 = .ok (.iload_n 3, 1) := by decide +kernel
theorem dX3_waysOf_13 : decode cX3_waysOf 13 = .ok (.iload_n 1, 1) := by decide +kernel
theorem dX3_waysOf_14 : decode cX3_waysOf 14 = .ok (.invokevirtual 64, 3) := by decide +kernel
theorem dX3_waysOf_17 : decode cX3_waysOf 17 = .ok (.ifCond .eq 7, 3) := by decide +kernel
theorem dX3_waysOf_20 : decode cX3_waysOf 20 = .ok (.iconst 1, 1) := by decide +kernel
theorem dX3_waysOf_21 : decode cX3_waysOf 21 = .ok (.goto 4, 3) := by decide +kernel
theorem dX3_waysOf_24 : decode cX3_waysOf 24 = .ok (.iconst 0, 1) := by decide +kernel
theorem dX3_waysOf_25 : decode cX3_waysOf 25 = .ok (.iadd, 1) := by decide +kernel
theorem dX3_waysOf_26 : decode cX3_waysOf 26 = .ok (.istore_n 2, 1) := by decide +kernel
theorem dX3_waysOf_27 : decode cX3_waysOf 27 = .ok (.iinc 3 1, 3) := by decide +kernel
theorem dX3_waysOf_30 : decode cX3_waysOf 30 = .ok (.goto (-26), 3) := by decide +kernel
theorem dX3_waysOf_33 : decode cX3_waysOf 33 = .ok (.iload_n 2, 1) := by decide +kernel
theorem dX3_waysOf_34 : decode cX3_waysOf 34 = .ok (.ireturn, 1) := by decide +kernel
set_option maxRecDepth 20000 in
theorem ggX3_ways_X3_isNote : GoodIn wsX3_ways wsX3_isNote := goodIn_r _ [4, 5, 6, 3, 7] (by decide +kernel) (by decide +kernel)
set_option maxRecDepth 20000 in
theorem gX3_ways_X3_isNote : GoodIn wsX3_ways (va_wsS RX3 61 yX3_isNote wsX3_isNote) := goodIn_app (goodIn_of _ (by decide +kernel)) ggX3_ways_X3_isNote
set_option maxRecDepth 20000 in
theorem ggX3_ways_X3_waysOf : GoodIn wsX3_ways wsX3_waysOf := goodIn_r _ [11, 12, 13, 14, 3, 15, 16, 17, 18, 19, 20, 5, 6, 7, 21, 22, 23, 24, 25, 26, 27, 28, 29, 30, 31, 32, 33, 34, 35, 36, 37, 38, 39, 40, 41, 42, 43, 44, 45, 46, 47, 48] (by decide +kernel) (by decide +kernel)
set_option maxRecDepth 20000 in
theorem gX3_ways_X3_waysOf : GoodIn wsX3_ways (wsV RX3 68 RX3 yX3_waysOf wsX3_waysOf) := goodIn_app (goodIn_of _ (by decide +kernel)) ggX3_ways_X3_waysOf
set_option maxRecDepth 20000 in
theorem ggX3_ways_X3_sounds : GoodIn wsX3_ways wsX3_sounds := goodIn_r _ [15, 16, 17, 18, 19, 3, 20, 5, 6, 7, 21, 22, 23, 24, 25, 26, 27, 28, 29, 30, 31, 32, 33, 34, 35, 36, 37, 38, 39, 40, 41, 42, 43, 44, 45, 46, 47, 48] (by decide +kernel) (by decide +kernel)
set_option maxRecDepth 20000 in
theorem gX3_ways_X3_sounds : GoodIn wsX3_ways (wsV RX3 64 RX3 yX3_sounds wsX3_sounds) := goodIn_app (goodIn_of _ (by decide +kernel)) ggX3_ways_X3_sounds
theorem dX3_ways_0 : decode cX3_ways 0 = .ok (.iload_n 1, 1) := by decide +kernel
theorem dX3_ways_1 : decode cX3_ways 1 = .ok (.invokestatic 61, 3) := by decide +kernel
theorem dX3_ways_4 : decode cX3_ways 4 = .ok (.ifCond .eq 8, 3) := by decide +kernel
theorem dX3_ways_7 : decode cX3_ways 7 = .ok (.iload_n 2, 1) := by decide +kernel
theorem dX3_ways_8 : decode cX3_ways 8 = .ok (.iconst (-1), 1) := by decide +kernel
theorem dX3_ways_9 : decode cX3_ways 9 = .ok (.if_icmp .ge 6, 3) := by decide +kernel
theorem dX3_ways_12 : decode cX3_ways 12 = .ok (.bipush (-2), 2) := by decide +kernel
theorem dX3_ways_14 : decode cX3_ways 14 = .ok (.ireturn, 1) := by decide +kernel
theorem dX3_ways_15 : decode cX3_ways 15 = .ok (.iload_n 2, 1) := by decide +kernel
theorem dX3_ways_16 : decode cX3_ways 16 = .ok (.iconst (-1), 1) := by decide +kernel
theorem dX3_ways_17 : decode cX3_ways 17 = .ok (.if_icmp .ne 9, 3) := by decide +kernel
theorem dX3_ways_20 : decode cX3_ways 20 = .ok (.aload_n 0, 1) := by decide +kernel
theorem dX3_ways_21 : decode cX3_ways 21 = .ok (.iload_n 1, 1) := by decide +kernel
theorem dX3_ways_22 : decode cX3_ways 22 = .ok (.invokevirtual 68, 3) := by decide +kernel
theorem dX3_ways_25 : decode cX3_ways 25 = .ok (.ireturn, 1) := by decide +kernel
theorem dX3_ways_26 : decode cX3_ways 26 = .ok (.iconst 0, 1) := by decide +kernel
theorem dX3_ways_27 : decode cX3_ways 27 = .ok (.istore_n 3, 1) := by decide +kernel
theorem dX3_ways_28 : decode cX3_ways 28 = .ok (.iconst 0, 1) := by decide +kernel
theorem dX3_ways_29 : decode cX3_ways 29 = .ok (.istore 4, 2) := by decide +kernel
theorem dX3_ways_31 : decode cX3_ways 31 = .ok (.iload 4, 2) := by decide +kernel
theorem dX3_ways_33 : decode cX3_ways 33 = .ok (.bipush 64, 2) := by decide +kernel
theorem dX3_ways_35 : decode cX3_ways 35 = .ok (.if_icmp .ge 30, 3) := by decide +kernel
theorem dX3_ways_38 : decode cX3_ways 38 = .ok (.aload_n 0, 1) := by decide +kernel
theorem dX3_ways_39 : decode cX3_ways 39 = .ok (.iload 4, 2) := by decide +kernel
theorem dX3_ways_41 : decode cX3_ways 41 = .ok (.iload_n 1, 1) := by decide +kernel
theorem dX3_ways_42 : decode cX3_ways 42 = .ok (.invokevirtual 64, 3) := by decide +kernel
theorem dX3_ways_45 : decode cX3_ways 45 = .ok (.ifCond .eq 14, 3) := by decide +kernel
theorem dX3_ways_48 : decode cX3_ways 48 = .ok (.iload_n 3, 1) := by decide +kernel
theorem dX3_ways_49 : decode cX3_ways 49 = .ok (.iload_n 2, 1) := by decide +kernel
theorem dX3_ways_50 : decode cX3_ways 50 = .ok (.if_icmp .ne 6, 3) := by decide +kernel
theorem dX3_ways_53 : decode cX3_ways 53 = .ok (.iload 4, 2) := by decide +kernel
theorem dX3_ways_55 : decode cX3_ways 55 = .ok (.ireturn, 1) := by decide +kernel
theorem dX3_ways_56 : decode cX3_ways 56 = .ok (.iinc 3 1, 3) := by decide +kernel
theorem dX3_ways_59 : decode cX3_ways 59 = .ok (.iinc 4 1, 3) := by decide +kernel
theorem dX3_ways_62 : decode cX3_ways 62 = .ok (.goto (-31), 3) := by decide +kernel
theorem dX3_ways_65 : decode cX3_ways 65 = .ok (.bipush (-6), 2) := by decide +kernel
theorem dX3_ways_67 : decode cX3_ways 67 = .ok (.ireturn, 1) := by decide +kernel
set_option maxRecDepth 20000 in
theorem ggX3_truest_X3_isNote : GoodIn wsX3_truest wsX3_isNote := goodIn_r _ [4, 5, 6, 3, 7] (by decide +kernel) (by decide +kernel)
set_option maxRecDepth 20000 in
theorem gX3_truest_X3_isNote : GoodIn wsX3_truest (va_wsS RX3 61 yX3_isNote wsX3_isNote) := goodIn_app (goodIn_of _ (by decide +kernel)) ggX3_truest_X3_isNote
set_option maxRecDepth 20000 in
theorem ggX3_truest_X3_sounds : GoodIn wsX3_truest wsX3_sounds := goodIn_r _ [11, 12, 13, 14, 15, 3, 16, 5, 6, 7, 17, 18, 19, 20, 21, 22, 23, 24, 25, 26, 27, 28, 29, 30, 31, 32, 33, 34, 35, 36, 37, 38, 39, 40, 41, 42, 43, 44] (by decide +kernel) (by decide +kernel)
set_option maxRecDepth 20000 in
theorem gX3_truest_X3_sounds : GoodIn wsX3_truest (wsV RX3 64 RX3 yX3_sounds wsX3_sounds) := goodIn_app (goodIn_of _ (by decide +kernel)) ggX3_truest_X3_sounds
set_option maxRecDepth 20000 in
theorem ggX3_truest_X3_offOf : GoodIn wsX3_truest wsX3_offOf := goodIn_r _ [24, 25, 26, 3, 27, 28, 29, 30, 31, 12, 32, 33, 34, 38, 39, 40, 41, 42, 43, 44] (by decide +kernel) (by decide +kernel)
set_option maxRecDepth 20000 in
theorem gX3_truest_X3_offOf : GoodIn wsX3_truest (wsV RX3 54 RX3 yX3_offOf wsX3_offOf) := goodIn_app (goodIn_of _ (by decide +kernel)) ggX3_truest_X3_offOf
set_option maxRecDepth 20000 in
theorem ggX3_truest_X3_size : GoodIn wsX3_truest wsX3_size := goodIn_r _ [37] (by decide +kernel) (by decide +kernel)
set_option maxRecDepth 20000 in
theorem gX3_truest_X3_size : GoodIn wsX3_truest (va_wsS RX3 58 yX3_size wsX3_size) := goodIn_app (goodIn_of _ (by decide +kernel)) ggX3_truest_X3_size
theorem dX3_truest_0 : decode cX3_truest 0 = .ok (.iload_n 1, 1) := by decide +kernel
theorem dX3_truest_1 : decode cX3_truest 1 = .ok (.invokestatic 61, 3) := by decide +kernel
theorem dX3_truest_4 : decode cX3_truest 4 = .ok (.ifCond .ne 6, 3) := by decide +kernel
theorem dX3_truest_7 : decode cX3_truest 7 = .ok (.bipush (-2), 2) := by decide +kernel
theorem dX3_truest_9 : decode cX3_truest 9 = .ok (.ireturn, 1) := by decide +kernel
theorem dX3_truest_10 : decode cX3_truest 10 = .ok (.bipush (-6), 2) := by decide +kernel
theorem dX3_truest_12 : decode cX3_truest 12 = .ok (.istore_n 2, 1) := by decide +kernel
theorem dX3_truest_13 : decode cX3_truest 13 = .ok (.iconst 0, 1) := by decide +kernel
theorem dX3_truest_14 : decode cX3_truest 14 = .ok (.istore_n 3, 1) := by decide +kernel
theorem dX3_truest_15 : decode cX3_truest 15 = .ok (.iload_n 3, 1) := by decide +kernel
theorem dX3_truest_16 : decode cX3_truest 16 = .ok (.bipush 64, 2) := by decide +kernel
theorem dX3_truest_18 : decode cX3_truest 18 = .ok (.if_icmp .ge 49, 3) := by decide +kernel
theorem dX3_truest_21 : decode cX3_truest 21 = .ok (.aload_n 0, 1) := by decide +kernel
theorem dX3_truest_22 : decode cX3_truest 22 = .ok (.iload_n 3, 1) := by decide +kernel
theorem dX3_truest_23 : decode cX3_truest 23 = .ok (.iload_n 1, 1) := by decide +kernel
theorem dX3_truest_24 : decode cX3_truest 24 = .ok (.invokevirtual 64, 3) := by decide +kernel
theorem dX3_truest_27 : decode cX3_truest 27 = .ok (.ifCond .eq 32, 3) := by decide +kernel
theorem dX3_truest_30 : decode cX3_truest 30 = .ok (.iload_n 2, 1) := by decide +kernel
theorem dX3_truest_31 : decode cX3_truest 31 = .ok (.ifCond .lt 24, 3) := by decide +kernel
theorem dX3_truest_34 : decode cX3_truest 34 = .ok (.aload_n 0, 1) := by decide +kernel
theorem dX3_truest_35 : decode cX3_truest 35 = .ok (.iload_n 3, 1) := by decide +kernel
theorem dX3_truest_36 : decode cX3_truest 36 = .ok (.iload_n 1, 1) := by decide +kernel
theorem dX3_truest_37 : decode cX3_truest 37 = .ok (.invokevirtual 54, 3) := by decide +kernel
theorem dX3_truest_40 : decode cX3_truest 40 = .ok (.invokestatic 58, 3) := by decide +kernel
theorem dX3_truest_43 : decode cX3_truest 43 = .ok (.aload_n 0, 1) := by decide +kernel
theorem dX3_truest_44 : decode cX3_truest 44 = .ok (.iload_n 2, 1) := by decide +kernel
theorem dX3_truest_45 : decode cX3_truest 45 = .ok (.iload_n 1, 1) := by decide +kernel
theorem dX3_truest_46 : decode cX3_truest 46 = .ok (.invokevirtual 54, 3) := by decide +kernel
theorem dX3_truest_49 : decode cX3_truest 49 = .ok (.invokestatic 58, 3) := by decide +kernel
theorem dX3_truest_52 : decode cX3_truest 52 = .ok (.if_icmp .ge 7, 3) := by decide +kernel
theorem dX3_truest_55 : decode cX3_truest 55 = .ok (.iload_n 3, 1) := by decide +kernel
theorem dX3_truest_56 : decode cX3_truest 56 = .ok (.goto 4, 3) := by decide +kernel
theorem dX3_truest_59 : decode cX3_truest 59 = .ok (.iload_n 2, 1) := by decide +kernel
theorem dX3_truest_60 : decode cX3_truest 60 = .ok (.istore_n 2, 1) := by decide +kernel
theorem dX3_truest_61 : decode cX3_truest 61 = .ok (.iinc 3 1, 3) := by decide +kernel
theorem dX3_truest_64 : decode cX3_truest 64 = .ok (.goto (-49), 3) := by decide +kernel
theorem dX3_truest_67 : decode cX3_truest 67 = .ok (.iload_n 2, 1) := by decide +kernel
theorem dX3_truest_68 : decode cX3_truest 68 = .ok (.ireturn, 1) := by decide +kernel
set_option maxRecDepth 20000 in
theorem ggX3_range_X3_in : GoodIn wsX3_range wsX3_in := goodIn_r _ [4] (by decide +kernel) (by decide +kernel)
set_option maxRecDepth 20000 in
theorem gX3_range_X3_in : GoodIn wsX3_range (va_wsS RX3 33 yX3_in wsX3_in) := goodIn_app (goodIn_of _ (by decide +kernel)) ggX3_range_X3_in
set_option maxRecDepth 20000 in
theorem ggX3_range_X3_waysOf : GoodIn wsX3_range wsX3_waysOf := goodIn_r _ [8, 9, 10, 11, 3, 12, 13, 14, 15, 16, 17, 1, 2, 4, 18, 19, 20, 21, 22, 23, 24, 25, 26, 27, 28, 29, 30, 31, 32, 33, 34, 35, 36, 37, 38, 39, 40, 41, 42, 43, 44, 45] (by decide +kernel) (by decide +kernel)
set_option maxRecDepth 20000 in
theorem gX3_range_X3_waysOf : GoodIn wsX3_range (wsV RX3 68 RX3 yX3_waysOf wsX3_waysOf) := goodIn_app (goodIn_of _ (by decide +kernel)) ggX3_range_X3_waysOf
theorem dX3_range_0 : decode cX3_range 0 = .ok (.iload_n 1, 1) := by decide +kernel
theorem dX3_range_1 : decode cX3_range 1 = .ok (.iconst (-1), 1) := by decide +kernel
theorem dX3_range_2 : decode cX3_range 2 = .ok (.bipush 64, 2) := by decide +kernel
theorem dX3_range_4 : decode cX3_range 4 = .ok (.invokestatic 33, 3) := by decide +kernel
theorem dX3_range_7 : decode cX3_range 7 = .ok (.ifCond .ne 6, 3) := by decide +kernel
theorem dX3_range_10 : decode cX3_range 10 = .ok (.bipush (-2), 2) := by decide +kernel
theorem dX3_range_12 : decode cX3_range 12 = .ok (.ireturn, 1) := by decide +kernel
theorem dX3_range_13 : decode cX3_range 13 = .ok (.iconst 0, 1) := by decide +kernel
theorem dX3_range_14 : decode cX3_range 14 = .ok (.istore_n 2, 1) := by decide +kernel
theorem dX3_range_15 : decode cX3_range 15 = .ok (.iconst 0, 1) := by decide +kernel
theorem dX3_range_16 : decode cX3_range 16 = .ok (.istore_n 3, 1) := by decide +kernel
theorem dX3_range_17 : decode cX3_range 17 = .ok (.iload_n 3, 1) := by decide +kernel
theorem dX3_range_18 : decode cX3_range 18 = .ok (.bipush 37, 2) := by decide +kernel
theorem dX3_range_20 : decode cX3_range 20 = .ok (.if_icmp .ge 43, 3) := by decide +kernel
theorem dX3_range_23 : decode cX3_range 23 = .ok (.aload_n 0, 1) := by decide +kernel
theorem dX3_range_24 : decode cX3_range 24 = .ok (.iload_n 3, 1) := by decide +kernel
theorem dX3_range_25 : decode cX3_range 25 = .ok (.invokevirtual 68, 3) := by decide +kernel
theorem dX3_range_28 : decode cX3_range 28 = .ok (.istore 4, 2) := by decide +kernel
theorem dX3_range_30 : decode cX3_range 30 = .ok (.iload_n 2, 1) := by decide +kernel
theorem dX3_range_31 : decode cX3_range 31 = .ok (.iload_n 1, 1) := by decide +kernel
theorem dX3_range_32 : decode cX3_range 32 = .ok (.iconst (-1), 1) := by decide +kernel
theorem dX3_range_33 : decode cX3_range 33 = .ok (.if_icmp .ne 11, 3) := by decide +kernel
theorem dX3_range_36 : decode cX3_range 36 = .ok (.iload 4, 2) := by decide +kernel
theorem dX3_range_38 : decode cX3_range 38 = .ok (.ifCond .le 16, 3) := by decide +kernel
theorem dX3_range_41 : decode cX3_range 41 = .ok (.goto 9, 3) := by decide +kernel
theorem dX3_range_44 : decode cX3_range 44 = .ok (.iload 4, 2) := by decide +kernel
theorem dX3_range_46 : decode cX3_range 46 = .ok (.iload_n 1, 1) := by decide +kernel
theorem dX3_range_47 : decode cX3_range 47 = .ok (.if_icmp .ne 7, 3) := by decide +kernel
theorem dX3_range_50 : decode cX3_range 50 = .ok (.iconst 1, 1) := by decide +kernel
theorem dX3_range_51 : decode cX3_range 51 = .ok (.goto 4, 3) := by decide +kernel
theorem dX3_range_54 : decode cX3_range 54 = .ok (.iconst 0, 1) := by decide +kernel
theorem dX3_range_55 : decode cX3_range 55 = .ok (.iadd, 1) := by decide +kernel
theorem dX3_range_56 : decode cX3_range 56 = .ok (.istore_n 2, 1) := by decide +kernel
theorem dX3_range_57 : decode cX3_range 57 = .ok (.iinc 3 1, 3) := by decide +kernel
theorem dX3_range_60 : decode cX3_range 60 = .ok (.goto (-43), 3) := by decide +kernel
theorem dX3_range_63 : decode cX3_range 63 = .ok (.iload_n 2, 1) := by decide +kernel
theorem dX3_range_64 : decode cX3_range 64 = .ok (.ireturn, 1) := by decide +kernel
set_option maxRecDepth 20000 in
theorem ggX3_note_X3_isNote : GoodIn wsX3_note wsX3_isNote := goodIn_r _ [5, 6, 7, 4, 8] (by decide +kernel) (by decide +kernel)
set_option maxRecDepth 20000 in
theorem gX3_note_X3_isNote : GoodIn wsX3_note (va_wsS RX3 61 yX3_isNote wsX3_isNote) := goodIn_app (goodIn_of _ (by decide +kernel)) ggX3_note_X3_isNote
theorem dX3_note_0 : decode cX3_note 0 = .ok (.iload_n 1, 1) := by decide +kernel
theorem dX3_note_1 : decode cX3_note 1 = .ok (.invokestatic 61, 3) := by decide +kernel
theorem dX3_note_4 : decode cX3_note 4 = .ok (.ifCond .ne 6, 3) := by decide +kernel
theorem dX3_note_7 : decode cX3_note 7 = .ok (.bipush (-2), 2) := by decide +kernel
theorem dX3_note_9 : decode cX3_note 9 = .ok (.ireturn, 1) := by decide +kernel
theorem dX3_note_10 : decode cX3_note 10 = .ok (.aload_n 0, 1) := by decide +kernel
theorem dX3_note_11 : decode cX3_note 11 = .ok (.getfield 7, 3) := by decide +kernel
theorem dX3_note_14 : decode cX3_note 14 = .ok (.bipush 9, 2) := by decide +kernel
theorem dX3_note_16 : decode cX3_note 16 = .ok (.iaload, 1) := by decide +kernel
theorem dX3_note_17 : decode cX3_note 17 = .ok (.bipush 12, 2) := by decide +kernel
theorem dX3_note_19 : decode cX3_note 19 = .ok (.if_icmp .ne 6, 3) := by decide +kernel
theorem dX3_note_22 : decode cX3_note 22 = .ok (.bipush (-4), 2) := by decide +kernel
theorem dX3_note_24 : decode cX3_note 24 = .ok (.ireturn, 1) := by decide +kernel
theorem dX3_note_25 : decode cX3_note 25 = .ok (.aload_n 0, 1) := by decide +kernel
theorem dX3_note_26 : decode cX3_note 26 = .ok (.getfield 7, 3) := by decide +kernel
theorem dX3_note_29 : decode cX3_note 29 = .ok (.bipush 10, 2) := by decide +kernel
theorem dX3_note_31 : decode cX3_note 31 = .ok (.aload_n 0, 1) := by decide +kernel
theorem dX3_note_32 : decode cX3_note 32 = .ok (.getfield 7, 3) := by decide +kernel
theorem dX3_note_35 : decode cX3_note 35 = .ok (.bipush 9, 2) := by decide +kernel
theorem dX3_note_37 : decode cX3_note 37 = .ok (.iaload, 1) := by decide +kernel
theorem dX3_note_38 : decode cX3_note 38 = .ok (.iadd, 1) := by decide +kernel
theorem dX3_note_39 : decode cX3_note 39 = .ok (.iload_n 1, 1) := by decide +kernel
theorem dX3_note_40 : decode cX3_note 40 = .ok (.iastore, 1) := by decide +kernel
theorem dX3_note_41 : decode cX3_note 41 = .ok (.aload_n 0, 1) := by decide +kernel
theorem dX3_note_42 : decode cX3_note 42 = .ok (.getfield 7, 3) := by decide +kernel
theorem dX3_note_45 : decode cX3_note 45 = .ok (.bipush 9, 2) := by decide +kernel
theorem dX3_note_47 : decode cX3_note 47 = .ok (.dup2, 1) := by decide +kernel
theorem dX3_note_48 : decode cX3_note 48 = .ok (.iaload, 1) := by decide +kernel
theorem dX3_note_49 : decode cX3_note 49 = .ok (.iconst 1, 1) := by decide +kernel
theorem dX3_note_50 : decode cX3_note 50 = .ok (.iadd, 1) := by decide +kernel
theorem dX3_note_51 : decode cX3_note 51 = .ok (.iastore, 1) := by decide +kernel
theorem dX3_note_52 : decode cX3_note 52 = .ok (.aload_n 0, 1) := by decide +kernel
theorem dX3_note_53 : decode cX3_note 53 = .ok (.getfield 7, 3) := by decide +kernel
theorem dX3_note_56 : decode cX3_note 56 = .ok (.bipush 9, 2) := by decide +kernel
theorem dX3_note_58 : decode cX3_note 58 = .ok (.iaload, 1) := by decide +kernel
theorem dX3_note_59 : decode cX3_note 59 = .ok (.iconst 1, 1) := by decide +kernel
theorem dX3_note_60 : decode cX3_note 60 = .ok (.isub, 1) := by decide +kernel
theorem dX3_note_61 : decode cX3_note 61 = .ok (.ireturn, 1) := by decide +kernel
set_option maxRecDepth 20000 in
theorem ggX3_set_X3_isPlace : GoodIn wsX3_set wsX3_isPlace := goodIn_r _ [6, 1, 7, 8, 5, 9, 13, 14, 15, 16, 17, 18, 19] (by decide +kernel) (by decide +kernel)
set_option maxRecDepth 20000 in
theorem gX3_set_X3_isPlace : GoodIn wsX3_set (wsV RX3 71 RX3 yX3_isPlace wsX3_isPlace) := goodIn_app (goodIn_of _ (by decide +kernel)) ggX3_set_X3_isPlace
set_option maxRecDepth 20000 in
theorem ggX3_set_X3_isNote : GoodIn wsX3_set wsX3_isNote := goodIn_r _ [12, 7, 8, 5, 9] (by decide +kernel) (by decide +kernel)
set_option maxRecDepth 20000 in
theorem gX3_set_X3_isNote : GoodIn wsX3_set (va_wsS RX3 61 yX3_isNote wsX3_isNote) := goodIn_app (goodIn_of _ (by decide +kernel)) ggX3_set_X3_isNote
theorem dX3_set_0 : decode cX3_set 0 = .ok (.aload_n 0, 1) := by decide +kernel
theorem dX3_set_1 : decode cX3_set 1 = .ok (.iload_n 1, 1) := by decide +kernel
theorem dX3_set_2 : decode cX3_set 2 = .ok (.invokevirtual 71, 3) := by decide +kernel
theorem dX3_set_5 : decode cX3_set 5 = .ok (.ifCond .ne 5, 3) := by decide +kernel
theorem dX3_set_8 : decode cX3_set 8 = .ok (.iconst (-1), 1) := by decide +kernel
theorem dX3_set_9 : decode cX3_set 9 = .ok (.ireturn, 1) := by decide +kernel
theorem dX3_set_10 : decode cX3_set 10 = .ok (.iload_n 2, 1) := by decide +kernel
theorem dX3_set_11 : decode cX3_set 11 = .ok (.invokestatic 61, 3) := by decide +kernel
theorem dX3_set_14 : decode cX3_set 14 = .ok (.ifCond .ne 6, 3) := by decide +kernel
theorem dX3_set_17 : decode cX3_set 17 = .ok (.bipush (-2), 2) := by decide +kernel
theorem dX3_set_19 : decode cX3_set 19 = .ok (.ireturn, 1) := by decide +kernel
theorem dX3_set_20 : decode cX3_set 20 = .ok (.aload_n 0, 1) := by decide +kernel
theorem dX3_set_21 : decode cX3_set 21 = .ok (.getfield 7, 3) := by decide +kernel
theorem dX3_set_24 : decode cX3_set 24 = .ok (.bipush 10, 2) := by decide +kernel
theorem dX3_set_26 : decode cX3_set 26 = .ok (.iload_n 1, 1) := by decide +kernel
theorem dX3_set_27 : decode cX3_set 27 = .ok (.iadd, 1) := by decide +kernel
theorem dX3_set_28 : decode cX3_set 28 = .ok (.iaload, 1) := by decide +kernel
theorem dX3_set_29 : decode cX3_set 29 = .ok (.istore_n 3, 1) := by decide +kernel
theorem dX3_set_30 : decode cX3_set 30 = .ok (.aload_n 0, 1) := by decide +kernel
theorem dX3_set_31 : decode cX3_set 31 = .ok (.getfield 7, 3) := by decide +kernel
theorem dX3_set_34 : decode cX3_set 34 = .ok (.bipush 10, 2) := by decide +kernel
theorem dX3_set_36 : decode cX3_set 36 = .ok (.iload_n 1, 1) := by decide +kernel
theorem dX3_set_37 : decode cX3_set 37 = .ok (.iadd, 1) := by decide +kernel
theorem dX3_set_38 : decode cX3_set 38 = .ok (.iload_n 2, 1) := by decide +kernel
theorem dX3_set_39 : decode cX3_set 39 = .ok (.iastore, 1) := by decide +kernel
theorem dX3_set_40 : decode cX3_set 40 = .ok (.iload_n 3, 1) := by decide +kernel
theorem dX3_set_41 : decode cX3_set 41 = .ok (.ireturn, 1) := by decide +kernel
theorem dX3_clear_0 : decode cX3_clear 0 = .ok (.aload_n 0, 1) := by decide +kernel
theorem dX3_clear_1 : decode cX3_clear 1 = .ok (.getfield 7, 3) := by decide +kernel
theorem dX3_clear_4 : decode cX3_clear 4 = .ok (.bipush 9, 2) := by decide +kernel
theorem dX3_clear_6 : decode cX3_clear 6 = .ok (.iaload, 1) := by decide +kernel
theorem dX3_clear_7 : decode cX3_clear 7 = .ok (.istore_n 1, 1) := by decide +kernel
theorem dX3_clear_8 : decode cX3_clear 8 = .ok (.aload_n 0, 1) := by decide +kernel
theorem dX3_clear_9 : decode cX3_clear 9 = .ok (.getfield 7, 3) := by decide +kernel
theorem dX3_clear_12 : decode cX3_clear 12 = .ok (.bipush 9, 2) := by decide +kernel
theorem dX3_clear_14 : decode cX3_clear 14 = .ok (.iconst 0, 1) := by decide +kernel
theorem dX3_clear_15 : decode cX3_clear 15 = .ok (.iastore, 1) := by decide +kernel
theorem dX3_clear_16 : decode cX3_clear 16 = .ok (.iload_n 1, 1) := by decide +kernel
theorem dX3_clear_17 : decode cX3_clear 17 = .ok (.ireturn, 1) := by decide +kernel
set_option maxRecDepth 20000 in
theorem ggX3_effortOf_X3_bits : GoodIn wsX3_effortOf wsX3_bits := goodIn_r _ [5] (by decide +kernel) (by decide +kernel)
set_option maxRecDepth 20000 in
theorem gX3_effortOf_X3_bits : GoodIn wsX3_effortOf (va_wsS RX3 41 yX3_bits wsX3_bits) := goodIn_app (goodIn_of _ (by decide +kernel)) ggX3_effortOf_X3_bits
set_option maxRecDepth 20000 in
theorem ggX3_effortOf_X3_size : GoodIn wsX3_effortOf wsX3_size := goodIn_r _ [8] (by decide +kernel) (by decide +kernel)
set_option maxRecDepth 20000 in
theorem gX3_effortOf_X3_size : GoodIn wsX3_effortOf (va_wsS RX3 58 yX3_size wsX3_size) := goodIn_app (goodIn_of _ (by decide +kernel)) ggX3_effortOf_X3_size
theorem dX3_effortOf_0 : decode cX3_effortOf 0 = .ok (.aload_n 0, 1) := by decide +kernel
theorem dX3_effortOf_1 : decode cX3_effortOf 1 = .ok (.getfield 7, 3) := by decide +kernel
theorem dX3_effortOf_4 : decode cX3_effortOf 4 = .ok (.iconst 0, 1) := by decide +kernel
theorem dX3_effortOf_5 : decode cX3_effortOf 5 = .ok (.iaload, 1) := by decide +kernel
theorem dX3_effortOf_6 : decode cX3_effortOf 6 = .ok (.ifCond .ne 18, 3) := by decide +kernel
theorem dX3_effortOf_9 : decode cX3_effortOf 9 = .ok (.iload_n 1, 1) := by decide +kernel
theorem dX3_effortOf_10 : decode cX3_effortOf 10 = .ok (.bipush 8, 2) := by decide +kernel
theorem dX3_effortOf_12 : decode cX3_effortOf 12 = .ok (.irem, 1) := by decide +kernel
theorem dX3_effortOf_13 : decode cX3_effortOf 13 = .ok (.iload_n 2, 1) := by decide +kernel
theorem dX3_effortOf_14 : decode cX3_effortOf 14 = .ok (.bipush 8, 2) := by decide +kernel
theorem dX3_effortOf_16 : decode cX3_effortOf 16 = .ok (.irem, 1) := by decide +kernel
theorem dX3_effortOf_17 : decode cX3_effortOf 17 = .ok (.ixor, 1) := by decide +kernel
theorem dX3_effortOf_18 : decode cX3_effortOf 18 = .ok (.invokestatic 41, 3) := by decide +kernel
theorem dX3_effortOf_21 : decode cX3_effortOf 21 = .ok (.goto 15, 3) := by decide +kernel
theorem dX3_effortOf_24 : decode cX3_effortOf 24 = .ok (.iload_n 1, 1) := by decide +kernel
theorem dX3_effortOf_25 : decode cX3_effortOf 25 = .ok (.bipush 8, 2) := by decide +kernel
theorem dX3_effortOf_27 : decode cX3_effortOf 27 = .ok (.irem, 1) := by decide +kernel
theorem dX3_effortOf_28 : decode cX3_effortOf 28 = .ok (.iload_n 2, 1) := by decide +kernel
theorem dX3_effortOf_29 : decode cX3_effortOf 29 = .ok (.bipush 8, 2) := by decide +kernel
theorem dX3_effortOf_31 : decode cX3_effortOf 31 = .ok (.irem, 1) := by decide +kernel
theorem dX3_effortOf_32 : decode cX3_effortOf 32 = .ok (.isub, 1) := by decide +kernel
theorem dX3_effortOf_33 : decode cX3_effortOf 33 = .ok (.invokestatic 58, 3) := by decide +kernel
theorem dX3_effortOf_36 : decode cX3_effortOf 36 = .ok (.istore_n 3, 1) := by decide +kernel
theorem dX3_effortOf_37 : decode cX3_effortOf 37 = .ok (.aload_n 0, 1) := by decide +kernel
theorem dX3_effortOf_38 : decode cX3_effortOf 38 = .ok (.getfield 7, 3) := by decide +kernel
theorem dX3_effortOf_41 : decode cX3_effortOf 41 = .ok (.bipush 6, 2) := by decide +kernel
theorem dX3_effortOf_43 : decode cX3_effortOf 43 = .ok (.iaload, 1) := by decide +kernel
theorem dX3_effortOf_44 : decode cX3_effortOf 44 = .ok (.iload_n 3, 1) := by decide +kernel
theorem dX3_effortOf_45 : decode cX3_effortOf 45 = .ok (.imul, 1) := by decide +kernel
theorem dX3_effortOf_46 : decode cX3_effortOf 46 = .ok (.aload_n 0, 1) := by decide +kernel
theorem dX3_effortOf_47 : decode cX3_effortOf 47 = .ok (.getfield 7, 3) := by decide +kernel
theorem dX3_effortOf_50 : decode cX3_effortOf 50 = .ok (.bipush 7, 2) := by decide +kernel
theorem dX3_effortOf_52 : decode cX3_effortOf 52 = .ok (.iaload, 1) := by decide +kernel
theorem dX3_effortOf_53 : decode cX3_effortOf 53 = .ok (.iload_n 1, 1) := by decide +kernel
theorem dX3_effortOf_54 : decode cX3_effortOf 54 = .ok (.bipush 8, 2) := by decide +kernel
theorem dX3_effortOf_56 : decode cX3_effortOf 56 = .ok (.idiv, 1) := by decide +kernel
theorem dX3_effortOf_57 : decode cX3_effortOf 57 = .ok (.iload_n 2, 1) := by decide +kernel
theorem dX3_effortOf_58 : decode cX3_effortOf 58 = .ok (.bipush 8, 2) := by decide +kernel
theorem dX3_effortOf_60 : decode cX3_effortOf 60 = .ok (.idiv, 1) := by decide +kernel
theorem dX3_effortOf_61 : decode cX3_effortOf 61 = .ok (.isub, 1) := by decide +kernel
theorem dX3_effortOf_62 : decode cX3_effortOf 62 = .ok (.invokestatic 58, 3) := by decide +kernel
theorem dX3_effortOf_65 : decode cX3_effortOf 65 = .ok (.imul, 1) := by decide +kernel
theorem dX3_effortOf_66 : decode cX3_effortOf 66 = .ok (.iadd, 1) := by decide +kernel
theorem dX3_effortOf_67 : decode cX3_effortOf 67 = .ok (.ireturn, 1) := by decide +kernel
set_option maxRecDepth 20000 in
theorem ggX3_effort_X3_isWay : GoodIn wsX3_effort wsX3_isWay := goodIn_r _ [5, 6, 7, 4, 8, 9, 10, 11, 12, 13, 24, 25, 26, 27, 28, 29, 30] (by decide +kernel) (by decide +kernel)
set_option maxRecDepth 20000 in
theorem gX3_effort_X3_isWay : GoodIn wsX3_effort (wsV RX3 51 RX3 yX3_isWay wsX3_isWay) := goodIn_app (goodIn_of _ (by decide +kernel)) ggX3_effort_X3_isWay
set_option maxRecDepth 20000 in
theorem ggX3_effort_X3_effortOf : GoodIn wsX3_effort wsX3_effortOf := goodIn_r _ [17, 13, 18, 19, 4, 20, 21, 22, 23, 24, 25, 26, 27, 28, 29, 30] (by decide +kernel) (by decide +kernel)
set_option maxRecDepth 20000 in
theorem gX3_effort_X3_effortOf : GoodIn wsX3_effort (wsV RX3 74 RX3 yX3_effortOf wsX3_effortOf) := goodIn_app (goodIn_of _ (by decide +kernel)) ggX3_effort_X3_effortOf
theorem dX3_effort_0 : decode cX3_effort 0 = .ok (.aload_n 0, 1) := by decide +kernel
theorem dX3_effort_1 : decode cX3_effort 1 = .ok (.iload_n 1, 1) := by decide +kernel
theorem dX3_effort_2 : decode cX3_effort 2 = .ok (.invokevirtual 51, 3) := by decide +kernel
theorem dX3_effort_5 : decode cX3_effort 5 = .ok (.ifCond .eq 20, 3) := by decide +kernel
theorem dX3_effort_8 : decode cX3_effort 8 = .ok (.aload_n 0, 1) := by decide +kernel
theorem dX3_effort_9 : decode cX3_effort 9 = .ok (.iload_n 2, 1) := by decide +kernel
theorem dX3_effort_10 : decode cX3_effort 10 = .ok (.invokevirtual 51, 3) := by decide +kernel
theorem dX3_effort_13 : decode cX3_effort 13 = .ok (.ifCond .eq 12, 3) := by decide +kernel
theorem dX3_effort_16 : decode cX3_effort 16 = .ok (.aload_n 0, 1) := by decide +kernel
theorem dX3_effort_17 : decode cX3_effort 17 = .ok (.iload_n 1, 1) := by decide +kernel
theorem dX3_effort_18 : decode cX3_effort 18 = .ok (.iload_n 2, 1) := by decide +kernel
theorem dX3_effort_19 : decode cX3_effort 19 = .ok (.invokevirtual 74, 3) := by decide +kernel
theorem dX3_effort_22 : decode cX3_effort 22 = .ok (.goto 5, 3) := by decide +kernel
theorem dX3_effort_25 : decode cX3_effort 25 = .ok (.bipush (-2), 2) := by decide +kernel
theorem dX3_effort_27 : decode cX3_effort 27 = .ok (.ireturn, 1) := by decide +kernel
set_option maxRecDepth 20000 in
theorem ggX3_faultOf_X3_offOf : GoodIn wsX3_faultOf wsX3_offOf := goodIn_r _ [6, 7, 8, 5, 9, 10, 11, 12, 13, 1, 14, 15, 16, 20, 21, 22, 23, 24, 25, 26] (by decide +kernel) (by decide +kernel)
set_option maxRecDepth 20000 in
theorem gX3_faultOf_X3_offOf : GoodIn wsX3_faultOf (wsV RX3 54 RX3 yX3_offOf wsX3_offOf) := goodIn_app (goodIn_of _ (by decide +kernel)) ggX3_faultOf_X3_offOf
set_option maxRecDepth 20000 in
theorem ggX3_faultOf_X3_size : GoodIn wsX3_faultOf wsX3_size := goodIn_r _ [19] (by decide +kernel) (by decide +kernel)
set_option maxRecDepth 20000 in
theorem gX3_faultOf_X3_size : GoodIn wsX3_faultOf (va_wsS RX3 58 yX3_size wsX3_size) := goodIn_app (goodIn_of _ (by decide +kernel)) ggX3_faultOf_X3_size
theorem dX3_faultOf_0 : decode cX3_faultOf 0 = .ok (.aload_n 0, 1) := by decide +kernel
theorem dX3_faultOf_1 : decode cX3_faultOf 1 = .ok (.getfield 7, 3) := by decide +kernel
theorem dX3_faultOf_4 : decode cX3_faultOf 4 = .ok (.bipush 8, 2) := by decide +kernel
theorem dX3_faultOf_6 : decode cX3_faultOf 6 = .ok (.iaload, 1) := by decide +kernel
theorem dX3_faultOf_7 : decode cX3_faultOf 7 = .ok (.aload_n 0, 1) := by decide +kernel
theorem dX3_faultOf_8 : decode cX3_faultOf 8 = .ok (.iload_n 1, 1) := by decide +kernel
theorem dX3_faultOf_9 : decode cX3_faultOf 9 = .ok (.iload_n 2, 1) := by decide +kernel
theorem dX3_faultOf_10 : decode cX3_faultOf 10 = .ok (.invokevirtual 54, 3) := by decide +kernel
theorem dX3_faultOf_13 : decode cX3_faultOf 13 = .ok (.invokestatic 58, 3) := by decide +kernel
theorem dX3_faultOf_16 : decode cX3_faultOf 16 = .ok (.imul, 1) := by decide +kernel
theorem dX3_faultOf_17 : decode cX3_faultOf 17 = .ok (.bipush 10, 2) := by decide +kernel
theorem dX3_faultOf_19 : decode cX3_faultOf 19 = .ok (.idiv, 1) := by decide +kernel
theorem dX3_faultOf_20 : decode cX3_faultOf 20 = .ok (.ireturn, 1) := by decide +kernel
theorem dX3_at_0 : decode cX3_at 0 = .ok (.bipush 64, 2) := by decide +kernel
theorem dX3_at_2 : decode cX3_at 2 = .ok (.iload_n 0, 1) := by decide +kernel
theorem dX3_at_3 : decode cX3_at 3 = .ok (.imul, 1) := by decide +kernel
theorem dX3_at_4 : decode cX3_at 4 = .ok (.iload_n 1, 1) := by decide +kernel
theorem dX3_at_5 : decode cX3_at 5 = .ok (.iadd, 1) := by decide +kernel
theorem dX3_at_6 : decode cX3_at 6 = .ok (.ireturn, 1) := by decide +kernel
set_option maxRecDepth 20000 in
theorem ggX3_isAt_X3_sounds : GoodIn wsX3_isAt wsX3_sounds := goodIn_r _ [6, 1, 7, 8, 9, 5, 10, 11, 12, 13, 14, 15, 16, 17, 18, 19, 20, 21, 22, 23, 24, 25, 26, 27, 28, 29, 30, 31, 32, 33, 34, 35, 36, 37, 38, 39, 40, 41] (by decide +kernel) (by decide +kernel)
set_option maxRecDepth 20000 in
theorem gX3_isAt_X3_sounds : GoodIn wsX3_isAt (wsV RX3 64 RX3 yX3_sounds wsX3_sounds) := goodIn_app (goodIn_of _ (by decide +kernel)) ggX3_isAt_X3_sounds
theorem dX3_isAt_0 : decode cX3_isAt 0 = .ok (.aload_n 0, 1) := by decide +kernel
theorem dX3_isAt_1 : decode cX3_isAt 1 = .ok (.iload_n 2, 1) := by decide +kernel
theorem dX3_isAt_2 : decode cX3_isAt 2 = .ok (.aload_n 0, 1) := by decide +kernel
theorem dX3_isAt_3 : decode cX3_isAt 3 = .ok (.getfield 7, 3) := by decide +kernel
theorem dX3_isAt_6 : decode cX3_isAt 6 = .ok (.bipush 10, 2) := by decide +kernel
theorem dX3_isAt_8 : decode cX3_isAt 8 = .ok (.iload_n 1, 1) := by decide +kernel
theorem dX3_isAt_9 : decode cX3_isAt 9 = .ok (.iadd, 1) := by decide +kernel
theorem dX3_isAt_10 : decode cX3_isAt 10 = .ok (.iaload, 1) := by decide +kernel
theorem dX3_isAt_11 : decode cX3_isAt 11 = .ok (.invokevirtual 64, 3) := by decide +kernel
theorem dX3_isAt_14 : decode cX3_isAt 14 = .ok (.ireturn, 1) := by decide +kernel
set_option maxRecDepth 20000 in
theorem ggX3_layRest_X3_at : GoodIn wsX3_layRest wsX3_at := goodIn_r _ [8] (by decide +kernel) (by decide +kernel)
set_option maxRecDepth 20000 in
theorem gX3_layRest_X3_at : GoodIn wsX3_layRest (va_wsS RX3 77 yX3_at wsX3_at) := goodIn_app (goodIn_of _ (by decide +kernel)) ggX3_layRest_X3_at
set_option maxRecDepth 20000 in
theorem ggX3_layRest_X3_faultOf : GoodIn wsX3_layRest wsX3_faultOf := goodIn_r _ [12, 1, 13, 14, 15, 7, 16, 17, 18, 19, 20, 21, 22, 23, 24, 25, 26, 27, 28, 29, 34, 35, 36, 37, 38, 39, 40] (by decide +kernel) (by decide +kernel)
set_option maxRecDepth 20000 in
theorem gX3_layRest_X3_faultOf : GoodIn wsX3_layRest (wsV RX3 80 RX3 yX3_faultOf wsX3_faultOf) := goodIn_app (goodIn_of _ (by decide +kernel)) ggX3_layRest_X3_faultOf
set_option maxRecDepth 20000 in
theorem ggX3_layRest_X3_effortOf : GoodIn wsX3_layRest wsX3_effortOf := goodIn_r _ [33, 1, 24, 25, 7, 26, 27, 28, 29, 34, 35, 36, 37, 38, 39, 40] (by decide +kernel) (by decide +kernel)
set_option maxRecDepth 20000 in
theorem gX3_layRest_X3_effortOf : GoodIn wsX3_layRest (wsV RX3 74 RX3 yX3_effortOf wsX3_effortOf) := goodIn_app (goodIn_of _ (by decide +kernel)) ggX3_layRest_X3_effortOf
theorem dX3_layRest_0 : decode cX3_layRest 0 = .ok (.iload_n 1, 1) := by decide +kernel
theorem dX3_layRest_1 : decode cX3_layRest 1 = .ok (.iload_n 2, 1) := by decide +kernel
theorem dX3_layRest_2 : decode cX3_layRest 2 = .ok (.invokestatic 77, 3) := by decide +kernel
theorem dX3_layRest_5 : decode cX3_layRest 5 = .ok (.istore_n 3, 1) := by decide +kernel
theorem dX3_layRest_6 : decode cX3_layRest 6 = .ok (.aload_n 0, 1) := by decide +kernel
theorem dX3_layRest_7 : decode cX3_layRest 7 = .ok (.iload_n 2, 1) := by decide +kernel
theorem dX3_layRest_8 : decode cX3_layRest 8 = .ok (.aload_n 0, 1) := by decide +kernel
theorem dX3_layRest_9 : decode cX3_layRest 9 = .ok (.getfield 7, 3) := by decide +kernel
theorem dX3_layRest_12 : decode cX3_layRest 12 = .ok (.bipush 10, 2) := by decide +kernel
theorem dX3_layRest_14 : decode cX3_layRest 14 = .ok (.iload_n 1, 1) := by decide +kernel
theorem dX3_layRest_15 : decode cX3_layRest 15 = .ok (.iadd, 1) := by decide +kernel
theorem dX3_layRest_16 : decode cX3_layRest 16 = .ok (.iaload, 1) := by decide +kernel
theorem dX3_layRest_17 : decode cX3_layRest 17 = .ok (.invokevirtual 80, 3) := by decide +kernel
theorem dX3_layRest_20 : decode cX3_layRest 20 = .ok (.istore 4, 2) := by decide +kernel
theorem dX3_layRest_22 : decode cX3_layRest 22 = .ok (.iload_n 1, 1) := by decide +kernel
theorem dX3_layRest_23 : decode cX3_layRest 23 = .ok (.iconst 1, 1) := by decide +kernel
theorem dX3_layRest_24 : decode cX3_layRest 24 = .ok (.iadd, 1) := by decide +kernel
theorem dX3_layRest_25 : decode cX3_layRest 25 = .ok (.aload_n 0, 1) := by decide +kernel
theorem dX3_layRest_26 : decode cX3_layRest 26 = .ok (.getfield 7, 3) := by decide +kernel
theorem dX3_layRest_29 : decode cX3_layRest 29 = .ok (.bipush 9, 2) := by decide +kernel
theorem dX3_layRest_31 : decode cX3_layRest 31 = .ok (.iaload, 1) := by decide +kernel
theorem dX3_layRest_32 : decode cX3_layRest 32 = .ok (.if_icmp .ne 7, 3) := by decide +kernel
theorem dX3_layRest_35 : decode cX3_layRest 35 = .ok (.iconst 1, 1) := by decide +kernel
theorem dX3_layRest_36 : decode cX3_layRest 36 = .ok (.goto 4, 3) := by decide +kernel
theorem dX3_layRest_39 : decode cX3_layRest 39 = .ok (.iconst 0, 1) := by decide +kernel
theorem dX3_layRest_40 : decode cX3_layRest 40 = .ok (.istore 5, 2) := by decide +kernel
theorem dX3_layRest_42 : decode cX3_layRest 42 = .ok (.aload_n 0, 1) := by decide +kernel
theorem dX3_layRest_43 : decode cX3_layRest 43 = .ok (.getfield 20, 3) := by decide +kernel
theorem dX3_layRest_46 : decode cX3_layRest 46 = .ok (.iload_n 3, 1) := by decide +kernel
theorem dX3_layRest_47 : decode cX3_layRest 47 = .ok (.iload 5, 2) := by decide +kernel
theorem dX3_layRest_49 : decode cX3_layRest 49 = .ok (.ifCond .eq 8, 3) := by decide +kernel
theorem dX3_layRest_52 : decode cX3_layRest 52 = .ok (.iload 4, 2) := by decide +kernel
theorem dX3_layRest_54 : decode cX3_layRest 54 = .ok (.goto 5, 3) := by decide +kernel
theorem dX3_layRest_57 : decode cX3_layRest 57 = .ok (.bipush (-6), 2) := by decide +kernel
theorem dX3_layRest_59 : decode cX3_layRest 59 = .ok (.iastore, 1) := by decide +kernel
theorem dX3_layRest_60 : decode cX3_layRest 60 = .ok (.aload_n 0, 1) := by decide +kernel
theorem dX3_layRest_61 : decode cX3_layRest 61 = .ok (.getfield 23, 3) := by decide +kernel
theorem dX3_layRest_64 : decode cX3_layRest 64 = .ok (.iload_n 3, 1) := by decide +kernel
theorem dX3_layRest_65 : decode cX3_layRest 65 = .ok (.iload 5, 2) := by decide +kernel
theorem dX3_layRest_67 : decode cX3_layRest 67 = .ok (.ifCond .eq 7, 3) := by decide +kernel
theorem dX3_layRest_70 : decode cX3_layRest 70 = .ok (.lconst 1, 1) := by decide +kernel
theorem dX3_layRest_71 : decode cX3_layRest 71 = .ok (.goto 4, 3) := by decide +kernel
theorem dX3_layRest_74 : decode cX3_layRest 74 = .ok (.lconst 0, 1) := by decide +kernel
theorem dX3_layRest_75 : decode cX3_layRest 75 = .ok (.lastore, 1) := by decide +kernel
theorem dX3_layRest_76 : decode cX3_layRest 76 = .ok (.aload_n 0, 1) := by decide +kernel
theorem dX3_layRest_77 : decode cX3_layRest 77 = .ok (.getfield 27, 3) := by decide +kernel
theorem dX3_layRest_80 : decode cX3_layRest 80 = .ok (.iload_n 3, 1) := by decide +kernel
theorem dX3_layRest_81 : decode cX3_layRest 81 = .ok (.iload 5, 2) := by decide +kernel
theorem dX3_layRest_83 : decode cX3_layRest 83 = .ok (.ifCond .eq 7, 3) := by decide +kernel
theorem dX3_layRest_86 : decode cX3_layRest 86 = .ok (.lconst 1, 1) := by decide +kernel
theorem dX3_layRest_87 : decode cX3_layRest 87 = .ok (.goto 4, 3) := by decide +kernel
theorem dX3_layRest_90 : decode cX3_layRest 90 = .ok (.lconst 0, 1) := by decide +kernel
theorem dX3_layRest_91 : decode cX3_layRest 91 = .ok (.lastore, 1) := by decide +kernel
theorem dX3_layRest_92 : decode cX3_layRest 92 = .ok (.iconst 0, 1) := by decide +kernel
theorem dX3_layRest_93 : decode cX3_layRest 93 = .ok (.istore 6, 2) := by decide +kernel
theorem dX3_layRest_95 : decode cX3_layRest 95 = .ok (.iload 6, 2) := by decide +kernel
theorem dX3_layRest_97 : decode cX3_layRest 97 = .ok (.bipush 64, 2) := by decide +kernel
theorem dX3_layRest_99 : decode cX3_layRest 99 = .ok (.if_icmp .ge 138, 3) := by decide +kernel
theorem dX3_layRest_102 : decode cX3_layRest 102 = .ok (.iload 5, 2) := by decide +kernel
theorem dX3_layRest_104 : decode cX3_layRest 104 = .ok (.ifCond .ne 133, 3) := by decide +kernel
theorem dX3_layRest_107 : decode cX3_layRest 107 = .ok (.iload_n 1, 1) := by decide +kernel
theorem dX3_layRest_108 : decode cX3_layRest 108 = .ok (.iconst 1, 1) := by decide +kernel
theorem dX3_layRest_109 : decode cX3_layRest 109 = .ok (.iadd, 1) := by decide +kernel
theorem dX3_layRest_110 : decode cX3_layRest 110 = .ok (.iload 6, 2) := by decide +kernel
theorem dX3_layRest_112 : decode cX3_layRest 112 = .ok (.invokestatic 77, 3) := by decide +kernel
theorem dX3_layRest_115 : decode cX3_layRest 115 = .ok (.istore 7, 2) := by decide +kernel
theorem dX3_layRest_117 : decode cX3_layRest 117 = .ok (.aload_n 0, 1) := by decide +kernel
theorem dX3_layRest_118 : decode cX3_layRest 118 = .ok (.getfield 23, 3) := by decide +kernel
theorem dX3_layRest_121 : decode cX3_layRest 121 = .ok (.iload 7, 2) := by decide +kernel
theorem dX3_layRest_123 : decode cX3_layRest 123 = .ok (.laload, 1) := by decide +kernel
theorem dX3_layRest_124 : decode cX3_layRest 124 = .ok (.lconst 0, 1) := by decide +kernel
theorem dX3_layRest_125 : decode cX3_layRest 125 = .ok (.lcmp, 1) := by decide +kernel
theorem dX3_layRest_126 : decode cX3_layRest 126 = .ok (.ifCond .le 105, 3) := by decide +kernel
theorem dX3_layRest_129 : decode cX3_layRest 129 = .ok (.iload 4, 2) := by decide +kernel
theorem dX3_layRest_131 : decode cX3_layRest 131 = .ok (.aload_n 0, 1) := by decide +kernel
theorem dX3_layRest_132 : decode cX3_layRest 132 = .ok (.iload_n 2, 1) := by decide +kernel
theorem dX3_layRest_133 : decode cX3_layRest 133 = .ok (.iload 6, 2) := by decide +kernel
theorem dX3_layRest_135 : decode cX3_layRest 135 = .ok (.invokevirtual 74, 3) := by decide +kernel
theorem dX3_layRest_138 : decode cX3_layRest 138 = .ok (.iadd, 1) := by decide +kernel
theorem dX3_layRest_139 : decode cX3_layRest 139 = .ok (.aload_n 0, 1) := by decide +kernel
theorem dX3_layRest_140 : decode cX3_layRest 140 = .ok (.getfield 20, 3) := by decide +kernel
theorem dX3_layRest_143 : decode cX3_layRest 143 = .ok (.iload 7, 2) := by decide +kernel
theorem dX3_layRest_145 : decode cX3_layRest 145 = .ok (.iaload, 1) := by decide +kernel
theorem dX3_layRest_146 : decode cX3_layRest 146 = .ok (.iadd, 1) := by decide +kernel
theorem dX3_layRest_147 : decode cX3_layRest 147 = .ok (.istore 8, 2) := by decide +kernel
theorem dX3_layRest_149 : decode cX3_layRest 149 = .ok (.aload_n 0, 1) := by decide +kernel
theorem dX3_layRest_150 : decode cX3_layRest 150 = .ok (.getfield 20, 3) := by decide +kernel
theorem dX3_layRest_153 : decode cX3_layRest 153 = .ok (.iload_n 3, 1) := by decide +kernel
theorem dX3_layRest_154 : decode cX3_layRest 154 = .ok (.iaload, 1) := by decide +kernel
theorem dX3_layRest_155 : decode cX3_layRest 155 = .ok (.ifCond .lt 14, 3) := by decide +kernel
theorem dX3_layRest_158 : decode cX3_layRest 158 = .ok (.iload 8, 2) := by decide +kernel
theorem dX3_layRest_160 : decode cX3_layRest 160 = .ok (.aload_n 0, 1) := by decide +kernel
theorem dX3_layRest_161 : decode cX3_layRest 161 = .ok (.getfield 20, 3) := by decide +kernel
theorem dX3_layRest_164 : decode cX3_layRest 164 = .ok (.iload_n 3, 1) := by decide +kernel
theorem dX3_layRest_165 : decode cX3_layRest 165 = .ok (.iaload, 1) := by decide +kernel
theorem dX3_layRest_166 : decode cX3_layRest 166 = .ok (.if_icmp .ge 18, 3) := by decide +kernel
theorem dX3_layRest_169 : decode cX3_layRest 169 = .ok (.aload_n 0, 1) := by decide +kernel
theorem dX3_layRest_170 : decode cX3_layRest 170 = .ok (.getfield 20, 3) := by decide +kernel
theorem dX3_layRest_173 : decode cX3_layRest 173 = .ok (.iload_n 3, 1) := by decide +kernel
theorem dX3_layRest_174 : decode cX3_layRest 174 = .ok (.iload 8, 2) := by decide +kernel
theorem dX3_layRest_176 : decode cX3_layRest 176 = .ok (.iastore, 1) := by decide +kernel
theorem dX3_layRest_177 : decode cX3_layRest 177 = .ok (.aload_n 0, 1) := by decide +kernel
theorem dX3_layRest_178 : decode cX3_layRest 178 = .ok (.getfield 27, 3) := by decide +kernel
theorem dX3_layRest_181 : decode cX3_layRest 181 = .ok (.iload_n 3, 1) := by decide +kernel
theorem dX3_layRest_182 : decode cX3_layRest 182 = .ok (.lconst 0, 1) := by decide +kernel
theorem dX3_layRest_183 : decode cX3_layRest 183 = .ok (.lastore, 1) := by decide +kernel
theorem dX3_layRest_184 : decode cX3_layRest 184 = .ok (.aload_n 0, 1) := by decide +kernel
theorem dX3_layRest_185 : decode cX3_layRest 185 = .ok (.getfield 27, 3) := by decide +kernel
theorem dX3_layRest_188 : decode cX3_layRest 188 = .ok (.iload_n 3, 1) := by decide +kernel
theorem dX3_layRest_189 : decode cX3_layRest 189 = .ok (.dup2, 1) := by decide +kernel
theorem dX3_layRest_190 : decode cX3_layRest 190 = .ok (.laload, 1) := by decide +kernel
theorem dX3_layRest_191 : decode cX3_layRest 191 = .ok (.iload 8, 2) := by decide +kernel
theorem dX3_layRest_193 : decode cX3_layRest 193 = .ok (.aload_n 0, 1) := by decide +kernel
theorem dX3_layRest_194 : decode cX3_layRest 194 = .ok (.getfield 20, 3) := by decide +kernel
theorem dX3_layRest_197 : decode cX3_layRest 197 = .ok (.iload_n 3, 1) := by decide +kernel
theorem dX3_layRest_198 : decode cX3_layRest 198 = .ok (.iaload, 1) := by decide +kernel
theorem dX3_layRest_199 : decode cX3_layRest 199 = .ok (.if_icmp .ne 13, 3) := by decide +kernel
theorem dX3_layRest_202 : decode cX3_layRest 202 = .ok (.aload_n 0, 1) := by decide +kernel
theorem dX3_layRest_203 : decode cX3_layRest 203 = .ok (.getfield 27, 3) := by decide +kernel
theorem dX3_layRest_206 : decode cX3_layRest 206 = .ok (.iload 7, 2) := by decide +kernel
theorem dX3_layRest_208 : decode cX3_layRest 208 = .ok (.laload, 1) := by decide +kernel
theorem dX3_layRest_209 : decode cX3_layRest 209 = .ok (.goto 4, 3) := by decide +kernel
theorem dX3_layRest_212 : decode cX3_layRest 212 = .ok (.lconst 0, 1) := by decide +kernel
theorem dX3_layRest_213 : decode cX3_layRest 213 = .ok (.ladd, 1) := by decide +kernel
theorem dX3_layRest_214 : decode cX3_layRest 214 = .ok (.lastore, 1) := by decide +kernel
theorem dX3_layRest_215 : decode cX3_layRest 215 = .ok (.aload_n 0, 1) := by decide +kernel
theorem dX3_layRest_216 : decode cX3_layRest 216 = .ok (.getfield 23, 3) := by decide +kernel
theorem dX3_layRest_219 : decode cX3_layRest 219 = .ok (.iload_n 3, 1) := by decide +kernel
theorem dX3_layRest_220 : decode cX3_layRest 220 = .ok (.dup2, 1) := by decide +kernel
theorem dX3_layRest_221 : decode cX3_layRest 221 = .ok (.laload, 1) := by decide +kernel
theorem dX3_layRest_222 : decode cX3_layRest 222 = .ok (.aload_n 0, 1) := by decide +kernel
theorem dX3_layRest_223 : decode cX3_layRest 223 = .ok (.getfield 23, 3) := by decide +kernel
theorem dX3_layRest_226 : decode cX3_layRest 226 = .ok (.iload 7, 2) := by decide +kernel
theorem dX3_layRest_228 : decode cX3_layRest 228 = .ok (.laload, 1) := by decide +kernel
theorem dX3_layRest_229 : decode cX3_layRest 229 = .ok (.ladd, 1) := by decide +kernel
theorem dX3_layRest_230 : decode cX3_layRest 230 = .ok (.lastore, 1) := by decide +kernel
theorem dX3_layRest_231 : decode cX3_layRest 231 = .ok (.iinc 6 1, 3) := by decide +kernel
theorem dX3_layRest_234 : decode cX3_layRest 234 = .ok (.goto (-139), 3) := by decide +kernel
theorem dX3_layRest_237 : decode cX3_layRest 237 = .ok (.return_, 1) := by decide +kernel
set_option maxRecDepth 20000 in
theorem ggX3_layAllRests_X3_at : GoodIn wsX3_layAllRests wsX3_at := goodIn_r _ [6] (by decide +kernel) (by decide +kernel)
set_option maxRecDepth 20000 in
theorem gX3_layAllRests_X3_at : GoodIn wsX3_layAllRests (va_wsS RX3 77 yX3_at wsX3_at) := goodIn_app (goodIn_of _ (by decide +kernel)) ggX3_layAllRests_X3_at
set_option maxRecDepth 20000 in
theorem ggX3_layAllRests_X3_isAt : GoodIn wsX3_layAllRests wsX3_isAt := goodIn_r _ [10, 1, 11, 12, 13, 5, 14, 15, 16, 17, 18, 19, 20, 21, 22, 23, 24, 25, 26, 27, 28, 29, 30, 31, 32, 33, 34, 35, 36, 37, 38, 39, 40, 41, 42, 57, 58, 59, 60, 61, 62, 63] (by decide +kernel) (by decide +kernel)
set_option maxRecDepth 20000 in
theorem gX3_layAllRests_X3_isAt : GoodIn wsX3_layAllRests (wsV RX3 83 RX3 yX3_isAt wsX3_isAt) := goodIn_app (goodIn_of _ (by decide +kernel)) ggX3_layAllRests_X3_isAt
set_option maxRecDepth 20000 in
theorem ggX3_layAllRests_X3_layRest : GoodIn wsX3_layAllRests wsX3_layRest := goodIn_r _ [46, 1, 47, 2, 48, 3, 4, 5, 6, 49, 50, 51, 52, 26, 27, 28, 29, 30, 31, 32, 33, 34, 35, 36, 37, 38, 39, 40, 41, 42, 53, 54, 55, 56, 57, 58, 59, 60, 61, 62, 63] (by decide +kernel) (by decide +kernel)
set_option maxRecDepth 20000 in
theorem gX3_layAllRests_X3_layRest : GoodIn wsX3_layAllRests (wsV RX3 86 RX3 yX3_layRest wsX3_layRest) := goodIn_app (goodIn_of _ (by decide +kernel)) ggX3_layAllRests_X3_layRest
theorem dX3_layAllRests_0 : decode cX3_layAllRests 0 = .ok (.aload_n 0, 1) := by decide +kernel
theorem dX3_layAllRests_1 : decode cX3_layAllRests 1 = .ok (.getfield 7, 3) := by decide +kernel
theorem dX3_layAllRests_4 : decode cX3_layAllRests 4 = .ok (.bipush 9, 2) := by decide +kernel
theorem dX3_layAllRests_6 : decode cX3_layAllRests 6 = .ok (.iaload, 1) := by decide +kernel
theorem dX3_layAllRests_7 : decode cX3_layAllRests 7 = .ok (.iconst 1, 1) := by decide +kernel
theorem dX3_layAllRests_8 : decode cX3_layAllRests 8 = .ok (.isub, 1) := by decide +kernel
theorem dX3_layAllRests_9 : decode cX3_layAllRests 9 = .ok (.istore_n 1, 1) := by decide +kernel
theorem dX3_layAllRests_10 : decode cX3_layAllRests 10 = .ok (.iload_n 1, 1) := by decide +kernel
theorem dX3_layAllRests_11 : decode cX3_layAllRests 11 = .ok (.ifCond .lt 49, 3) := by decide +kernel
theorem dX3_layAllRests_14 : decode cX3_layAllRests 14 = .ok (.iconst 0, 1) := by decide +kernel
theorem dX3_layAllRests_15 : decode cX3_layAllRests 15 = .ok (.istore_n 2, 1) := by decide +kernel
theorem dX3_layAllRests_16 : decode cX3_layAllRests 16 = .ok (.iload_n 2, 1) := by decide +kernel
theorem dX3_layAllRests_17 : decode cX3_layAllRests 17 = .ok (.bipush 64, 2) := by decide +kernel
theorem dX3_layAllRests_19 : decode cX3_layAllRests 19 = .ok (.if_icmp .ge 35, 3) := by decide +kernel
theorem dX3_layAllRests_22 : decode cX3_layAllRests 22 = .ok (.aload_n 0, 1) := by decide +kernel
theorem dX3_layAllRests_23 : decode cX3_layAllRests 23 = .ok (.getfield 23, 3) := by decide +kernel
theorem dX3_layAllRests_26 : decode cX3_layAllRests 26 = .ok (.iload_n 1, 1) := by decide +kernel
theorem dX3_layAllRests_27 : decode cX3_layAllRests 27 = .ok (.iload_n 2, 1) := by decide +kernel
theorem dX3_layAllRests_28 : decode cX3_layAllRests 28 = .ok (.invokestatic 77, 3) := by decide +kernel
theorem dX3_layAllRests_31 : decode cX3_layAllRests 31 = .ok (.lconst 0, 1) := by decide +kernel
theorem dX3_layAllRests_32 : decode cX3_layAllRests 32 = .ok (.lastore, 1) := by decide +kernel
theorem dX3_layAllRests_33 : decode cX3_layAllRests 33 = .ok (.aload_n 0, 1) := by decide +kernel
theorem dX3_layAllRests_34 : decode cX3_layAllRests 34 = .ok (.iload_n 1, 1) := by decide +kernel
theorem dX3_layAllRests_35 : decode cX3_layAllRests 35 = .ok (.iload_n 2, 1) := by decide +kernel
theorem dX3_layAllRests_36 : decode cX3_layAllRests 36 = .ok (.invokevirtual 83, 3) := by decide +kernel
theorem dX3_layAllRests_39 : decode cX3_layAllRests 39 = .ok (.ifCond .eq 9, 3) := by decide +kernel
theorem dX3_layAllRests_42 : decode cX3_layAllRests 42 = .ok (.aload_n 0, 1) := by decide +kernel
theorem dX3_layAllRests_43 : decode cX3_layAllRests 43 = .ok (.iload_n 1, 1) := by decide +kernel
theorem dX3_layAllRests_44 : decode cX3_layAllRests 44 = .ok (.iload_n 2, 1) := by decide +kernel
theorem dX3_layAllRests_45 : decode cX3_layAllRests 45 = .ok (.invokevirtual 86, 3) := by decide +kernel
theorem dX3_layAllRests_48 : decode cX3_layAllRests 48 = .ok (.iinc 2 1, 3) := by decide +kernel
theorem dX3_layAllRests_51 : decode cX3_layAllRests 51 = .ok (.goto (-35), 3) := by decide +kernel
theorem dX3_layAllRests_54 : decode cX3_layAllRests 54 = .ok (.iinc 1 (-1), 3) := by decide +kernel
theorem dX3_layAllRests_57 : decode cX3_layAllRests 57 = .ok (.goto (-47), 3) := by decide +kernel
theorem dX3_layAllRests_60 : decode cX3_layAllRests 60 = .ok (.return_, 1) := by decide +kernel
theorem dX3_leastOfAll_0 : decode cX3_leastOfAll 0 = .ok (.aload_n 0, 1) := by decide +kernel
theorem dX3_leastOfAll_1 : decode cX3_leastOfAll 1 = .ok (.getfield 7, 3) := by decide +kernel
theorem dX3_leastOfAll_4 : decode cX3_leastOfAll 4 = .ok (.bipush 9, 2) := by decide +kernel
theorem dX3_leastOfAll_6 : decode cX3_leastOfAll 6 = .ok (.iaload, 1) := by decide +kernel
theorem dX3_leastOfAll_7 : decode cX3_leastOfAll 7 = .ok (.ifCond .ne 5, 3) := by decide +kernel
theorem dX3_leastOfAll_10 : decode cX3_leastOfAll 10 = .ok (.iconst 0, 1) := by decide +kernel
theorem dX3_leastOfAll_11 : decode cX3_leastOfAll 11 = .ok (.ireturn, 1) := by decide +kernel
theorem dX3_leastOfAll_12 : decode cX3_leastOfAll 12 = .ok (.bipush (-6), 2) := by decide +kernel
theorem dX3_leastOfAll_14 : decode cX3_leastOfAll 14 = .ok (.istore_n 1, 1) := by decide +kernel
theorem dX3_leastOfAll_15 : decode cX3_leastOfAll 15 = .ok (.iconst 0, 1) := by decide +kernel
theorem dX3_leastOfAll_16 : decode cX3_leastOfAll 16 = .ok (.istore_n 2, 1) := by decide +kernel
theorem dX3_leastOfAll_17 : decode cX3_leastOfAll 17 = .ok (.iload_n 2, 1) := by decide +kernel
theorem dX3_leastOfAll_18 : decode cX3_leastOfAll 18 = .ok (.bipush 64, 2) := by decide +kernel
theorem dX3_leastOfAll_20 : decode cX3_leastOfAll 20 = .ok (.if_icmp .ge 55, 3) := by decide +kernel
theorem dX3_leastOfAll_23 : decode cX3_leastOfAll 23 = .ok (.aload_n 0, 1) := by decide +kernel
theorem dX3_leastOfAll_24 : decode cX3_leastOfAll 24 = .ok (.getfield 23, 3) := by decide +kernel
theorem dX3_leastOfAll_27 : decode cX3_leastOfAll 27 = .ok (.iload_n 2, 1) := by decide +kernel
theorem dX3_leastOfAll_28 : decode cX3_leastOfAll 28 = .ok (.laload, 1) := by decide +kernel
theorem dX3_leastOfAll_29 : decode cX3_leastOfAll 29 = .ok (.lconst 0, 1) := by decide +kernel
theorem dX3_leastOfAll_30 : decode cX3_leastOfAll 30 = .ok (.lcmp, 1) := by decide +kernel
theorem dX3_leastOfAll_31 : decode cX3_leastOfAll 31 = .ok (.ifCond .le 21, 3) := by decide +kernel
theorem dX3_leastOfAll_34 : decode cX3_leastOfAll 34 = .ok (.iload_n 1, 1) := by decide +kernel
theorem dX3_leastOfAll_35 : decode cX3_leastOfAll 35 = .ok (.ifCond .lt 13, 3) := by decide +kernel
theorem dX3_leastOfAll_38 : decode cX3_leastOfAll 38 = .ok (.aload_n 0, 1) := by decide +kernel
theorem dX3_leastOfAll_39 : decode cX3_leastOfAll 39 = .ok (.getfield 20, 3) := by decide +kernel
theorem dX3_leastOfAll_42 : decode cX3_leastOfAll 42 = .ok (.iload_n 2, 1) := by decide +kernel
theorem dX3_leastOfAll_43 : decode cX3_leastOfAll 43 = .ok (.iaload, 1) := by decide +kernel
theorem dX3_leastOfAll_44 : decode cX3_leastOfAll 44 = .ok (.iload_n 1, 1) := by decide +kernel
theorem dX3_leastOfAll_45 : decode cX3_leastOfAll 45 = .ok (.if_icmp .ge 7, 3) := by decide +kernel
theorem dX3_leastOfAll_48 : decode cX3_leastOfAll 48 = .ok (.iconst 1, 1) := by decide +kernel
theorem dX3_leastOfAll_49 : decode cX3_leastOfAll 49 = .ok (.goto 4, 3) := by decide +kernel
theorem dX3_leastOfAll_52 : decode cX3_leastOfAll 52 = .ok (.iconst 0, 1) := by decide +kernel
theorem dX3_leastOfAll_53 : decode cX3_leastOfAll 53 = .ok (.istore_n 3, 1) := by decide +kernel
theorem dX3_leastOfAll_54 : decode cX3_leastOfAll 54 = .ok (.iload_n 3, 1) := by decide +kernel
theorem dX3_leastOfAll_55 : decode cX3_leastOfAll 55 = .ok (.ifCond .eq 12, 3) := by decide +kernel
theorem dX3_leastOfAll_58 : decode cX3_leastOfAll 58 = .ok (.aload_n 0, 1) := by decide +kernel
theorem dX3_leastOfAll_59 : decode cX3_leastOfAll 59 = .ok (.getfield 20, 3) := by decide +kernel
theorem dX3_leastOfAll_62 : decode cX3_leastOfAll 62 = .ok (.iload_n 2, 1) := by decide +kernel
theorem dX3_leastOfAll_63 : decode cX3_leastOfAll 63 = .ok (.iaload, 1) := by decide +kernel
theorem dX3_leastOfAll_64 : decode cX3_leastOfAll 64 = .ok (.goto 4, 3) := by decide +kernel
theorem dX3_leastOfAll_67 : decode cX3_leastOfAll 67 = .ok (.iload_n 1, 1) := by decide +kernel
theorem dX3_leastOfAll_68 : decode cX3_leastOfAll 68 = .ok (.istore_n 1, 1) := by decide +kernel
theorem dX3_leastOfAll_69 : decode cX3_leastOfAll 69 = .ok (.iinc 2 1, 3) := by decide +kernel
theorem dX3_leastOfAll_72 : decode cX3_leastOfAll 72 = .ok (.goto (-55), 3) := by decide +kernel
theorem dX3_leastOfAll_75 : decode cX3_leastOfAll 75 = .ok (.iload_n 1, 1) := by decide +kernel
theorem dX3_leastOfAll_76 : decode cX3_leastOfAll 76 = .ok (.ireturn, 1) := by decide +kernel
set_option maxRecDepth 20000 in
theorem ggX3_nextWay_X3_effortOf : GoodIn wsX3_nextWay wsX3_effortOf := goodIn_r _ [7, 8, 9, 10, 6, 11, 12, 13, 14, 18, 19, 20, 21, 22, 23, 24] (by decide +kernel) (by decide +kernel)
set_option maxRecDepth 20000 in
theorem gX3_nextWay_X3_effortOf : GoodIn wsX3_nextWay (wsV RX3 74 RX3 yX3_effortOf wsX3_effortOf) := goodIn_app (goodIn_of _ (by decide +kernel)) ggX3_nextWay_X3_effortOf
set_option maxRecDepth 20000 in
theorem ggX3_nextWay_X3_at : GoodIn wsX3_nextWay wsX3_at := goodIn_r _ [17] (by decide +kernel) (by decide +kernel)
set_option maxRecDepth 20000 in
theorem gX3_nextWay_X3_at : GoodIn wsX3_nextWay (va_wsS RX3 77 yX3_at wsX3_at) := goodIn_app (goodIn_of _ (by decide +kernel)) ggX3_nextWay_X3_at
theorem dX3_nextWay_0 : decode cX3_nextWay 0 = .ok (.iconst 0, 1) := by decide +kernel
theorem dX3_nextWay_1 : decode cX3_nextWay 1 = .ok (.istore 4, 2) := by decide +kernel
theorem dX3_nextWay_3 : decode cX3_nextWay 3 = .ok (.iload 4, 2) := by decide +kernel
theorem dX3_nextWay_5 : decode cX3_nextWay 5 = .ok (.bipush 64, 2) := by decide +kernel
theorem dX3_nextWay_7 : decode cX3_nextWay 7 = .ok (.if_icmp .ge 63, 3) := by decide +kernel
theorem dX3_nextWay_10 : decode cX3_nextWay 10 = .ok (.iload_n 1, 1) := by decide +kernel
theorem dX3_nextWay_11 : decode cX3_nextWay 11 = .ok (.ifCond .ne 7, 3) := by decide +kernel
theorem dX3_nextWay_14 : decode cX3_nextWay 14 = .ok (.iconst 0, 1) := by decide +kernel
theorem dX3_nextWay_15 : decode cX3_nextWay 15 = .ok (.goto 10, 3) := by decide +kernel
theorem dX3_nextWay_18 : decode cX3_nextWay 18 = .ok (.aload_n 0, 1) := by decide +kernel
theorem dX3_nextWay_19 : decode cX3_nextWay 19 = .ok (.iload_n 2, 1) := by decide +kernel
theorem dX3_nextWay_20 : decode cX3_nextWay 20 = .ok (.iload 4, 2) := by decide +kernel
theorem dX3_nextWay_22 : decode cX3_nextWay 22 = .ok (.invokevirtual 74, 3) := by decide +kernel
theorem dX3_nextWay_25 : decode cX3_nextWay 25 = .ok (.aload_n 0, 1) := by decide +kernel
theorem dX3_nextWay_26 : decode cX3_nextWay 26 = .ok (.getfield 20, 3) := by decide +kernel
theorem dX3_nextWay_29 : decode cX3_nextWay 29 = .ok (.iload_n 1, 1) := by decide +kernel
theorem dX3_nextWay_30 : decode cX3_nextWay 30 = .ok (.iload 4, 2) := by decide +kernel
theorem dX3_nextWay_32 : decode cX3_nextWay 32 = .ok (.invokestatic 77, 3) := by decide +kernel
theorem dX3_nextWay_35 : decode cX3_nextWay 35 = .ok (.iaload, 1) := by decide +kernel
theorem dX3_nextWay_36 : decode cX3_nextWay 36 = .ok (.iadd, 1) := by decide +kernel
theorem dX3_nextWay_37 : decode cX3_nextWay 37 = .ok (.istore 5, 2) := by decide +kernel
theorem dX3_nextWay_39 : decode cX3_nextWay 39 = .ok (.aload_n 0, 1) := by decide +kernel
theorem dX3_nextWay_40 : decode cX3_nextWay 40 = .ok (.getfield 23, 3) := by decide +kernel
theorem dX3_nextWay_43 : decode cX3_nextWay 43 = .ok (.iload_n 1, 1) := by decide +kernel
theorem dX3_nextWay_44 : decode cX3_nextWay 44 = .ok (.iload 4, 2) := by decide +kernel
theorem dX3_nextWay_46 : decode cX3_nextWay 46 = .ok (.invokestatic 77, 3) := by decide +kernel
theorem dX3_nextWay_49 : decode cX3_nextWay 49 = .ok (.laload, 1) := by decide +kernel
theorem dX3_nextWay_50 : decode cX3_nextWay 50 = .ok (.lconst 0, 1) := by decide +kernel
theorem dX3_nextWay_51 : decode cX3_nextWay 51 = .ok (.lcmp, 1) := by decide +kernel
theorem dX3_nextWay_52 : decode cX3_nextWay 52 = .ok (.ifCond .le 12, 3) := by decide +kernel
theorem dX3_nextWay_55 : decode cX3_nextWay 55 = .ok (.iload 5, 2) := by decide +kernel
theorem dX3_nextWay_57 : decode cX3_nextWay 57 = .ok (.iload_n 3, 1) := by decide +kernel
theorem dX3_nextWay_58 : decode cX3_nextWay 58 = .ok (.if_icmp .ne 6, 3) := by decide +kernel
theorem dX3_nextWay_61 : decode cX3_nextWay 61 = .ok (.iload 4, 2) := by decide +kernel
theorem dX3_nextWay_63 : decode cX3_nextWay 63 = .ok (.ireturn, 1) := by decide +kernel
theorem dX3_nextWay_64 : decode cX3_nextWay 64 = .ok (.iinc 4 1, 3) := by decide +kernel
theorem dX3_nextWay_67 : decode cX3_nextWay 67 = .ok (.goto (-64), 3) := by decide +kernel
theorem dX3_nextWay_70 : decode cX3_nextWay 70 = .ok (.bipush (-6), 2) := by decide +kernel
theorem dX3_nextWay_72 : decode cX3_nextWay 72 = .ok (.ireturn, 1) := by decide +kernel
set_option maxRecDepth 20000 in
theorem ggX3_least_X3_layAllRests : GoodIn wsX3_least wsX3_layAllRests := goodIn_r _ [7, 1, 8, 9, 10, 6, 11, 12, 13, 14, 15, 16, 17, 18, 19, 20, 21, 22, 23, 24, 25, 26, 27, 28, 29, 30, 31, 32, 33, 34, 35, 36, 37, 38, 39, 40, 41, 42, 43, 44, 45, 46, 47, 48, 49, 50, 51, 2, 52, 53, 54, 55, 56, 57, 58, 59, 60, 69, 70, 71, 72, 73, 74, 75] (by decide +kernel) (by decide +kernel)
set_option maxRecDepth 20000 in
theorem gX3_least_X3_layAllRests : GoodIn wsX3_least (wsV RX3 90 RX3 yX3_layAllRests wsX3_layAllRests) := goodIn_app (goodIn_of _ (by decide +kernel)) ggX3_least_X3_layAllRests
set_option maxRecDepth 20000 in
theorem ggX3_least_X3_leastOfAll : GoodIn wsX3_least wsX3_leastOfAll := goodIn_r _ [64, 1, 8, 2, 69, 70, 71, 72, 73, 74, 75] (by decide +kernel) (by decide +kernel)
set_option maxRecDepth 20000 in
theorem gX3_least_X3_leastOfAll : GoodIn wsX3_least (wsV RX3 93 RX3 yX3_leastOfAll wsX3_leastOfAll) := goodIn_app (goodIn_of _ (by decide +kernel)) ggX3_least_X3_leastOfAll
set_option maxRecDepth 20000 in
theorem ggX3_least_X3_nextWay : GoodIn wsX3_least wsX3_nextWay := goodIn_r _ [68, 2, 8, 57, 58, 59, 6, 60, 1, 42, 43, 44, 45, 46, 47, 9, 10, 11, 69, 70, 71, 72, 73, 74, 75] (by decide +kernel) (by decide +kernel)
set_option maxRecDepth 20000 in
theorem gX3_least_X3_nextWay : GoodIn wsX3_least (wsV RX3 97 RX3 yX3_nextWay wsX3_nextWay) := goodIn_app (goodIn_of _ (by decide +kernel)) ggX3_least_X3_nextWay
set_option maxRecDepth 20000 in
theorem ggX3_least_X3_at : GoodIn wsX3_least wsX3_at := goodIn_r _ [11] (by decide +kernel) (by decide +kernel)
set_option maxRecDepth 20000 in
theorem gX3_least_X3_at : GoodIn wsX3_least (va_wsS RX3 77 yX3_at wsX3_at) := goodIn_app (goodIn_of _ (by decide +kernel)) ggX3_least_X3_at
set_option maxRecDepth 20000 in
theorem ggX3_least_X3_faultOf : GoodIn wsX3_least wsX3_faultOf := goodIn_r _ [56, 1, 31, 32, 33, 6, 34, 35, 36, 37, 38, 39, 40, 41, 42, 43, 44, 45, 46, 47, 69, 70, 71, 72, 73, 74, 75] (by decide +kernel) (by decide +kernel)
set_option maxRecDepth 20000 in
theorem gX3_least_X3_faultOf : GoodIn wsX3_least (wsV RX3 80 RX3 yX3_faultOf wsX3_faultOf) := goodIn_app (goodIn_of _ (by decide +kernel)) ggX3_least_X3_faultOf
theorem dX3_least_0 : decode cX3_least 0 = .ok (.iload_n 1, 1) := by decide +kernel
theorem dX3_least_1 : decode cX3_least 1 = .ok (.iconst (-1), 1) := by decide +kernel
theorem dX3_least_2 : decode cX3_least 2 = .ok (.if_icmp .ge 6, 3) := by decide +kernel
theorem dX3_least_5 : decode cX3_least 5 = .ok (.bipush (-2), 2) := by decide +kernel
theorem dX3_least_7 : decode cX3_least 7 = .ok (.ireturn, 1) := by decide +kernel
theorem dX3_least_8 : decode cX3_least 8 = .ok (.aload_n 0, 1) := by decide +kernel
theorem dX3_least_9 : decode cX3_least 9 = .ok (.invokevirtual 90, 3) := by decide +kernel
theorem dX3_least_12 : decode cX3_least 12 = .ok (.aload_n 0, 1) := by decide +kernel
theorem dX3_least_13 : decode cX3_least 13 = .ok (.invokevirtual 93, 3) := by decide +kernel
theorem dX3_least_16 : decode cX3_least 16 = .ok (.istore_n 2, 1) := by decide +kernel
theorem dX3_least_17 : decode cX3_least 17 = .ok (.iload_n 1, 1) := by decide +kernel
theorem dX3_least_18 : decode cX3_least 18 = .ok (.iconst (-1), 1) := by decide +kernel
theorem dX3_least_19 : decode cX3_least 19 = .ok (.if_icmp .eq 18, 3) := by decide +kernel
theorem dX3_least_22 : decode cX3_least 22 = .ok (.iload_n 2, 1) := by decide +kernel
theorem dX3_least_23 : decode cX3_least 23 = .ok (.ifCond .lt 14, 3) := by decide +kernel
theorem dX3_least_26 : decode cX3_least 26 = .ok (.iload_n 1, 1) := by decide +kernel
theorem dX3_least_27 : decode cX3_least 27 = .ok (.aload_n 0, 1) := by decide +kernel
theorem dX3_least_28 : decode cX3_least 28 = .ok (.getfield 7, 3) := by decide +kernel
theorem dX3_least_31 : decode cX3_least 31 = .ok (.bipush 9, 2) := by decide +kernel
theorem dX3_least_33 : decode cX3_least 33 = .ok (.iaload, 1) := by decide +kernel
theorem dX3_least_34 : decode cX3_least 34 = .ok (.if_icmp .lt 15, 3) := by decide +kernel
theorem dX3_least_37 : decode cX3_least 37 = .ok (.iload_n 1, 1) := by decide +kernel
theorem dX3_least_38 : decode cX3_least 38 = .ok (.iconst (-1), 1) := by decide +kernel
theorem dX3_least_39 : decode cX3_least 39 = .ok (.if_icmp .ne 7, 3) := by decide +kernel
theorem dX3_least_42 : decode cX3_least 42 = .ok (.iload_n 2, 1) := by decide +kernel
theorem dX3_least_43 : decode cX3_least 43 = .ok (.goto 5, 3) := by decide +kernel
theorem dX3_least_46 : decode cX3_least 46 = .ok (.bipush (-6), 2) := by decide +kernel
theorem dX3_least_48 : decode cX3_least 48 = .ok (.ireturn, 1) := by decide +kernel
theorem dX3_least_49 : decode cX3_least 49 = .ok (.aload_n 0, 1) := by decide +kernel
theorem dX3_least_50 : decode cX3_least 50 = .ok (.iconst 0, 1) := by decide +kernel
theorem dX3_least_51 : decode cX3_least 51 = .ok (.iconst 0, 1) := by decide +kernel
theorem dX3_least_52 : decode cX3_least 52 = .ok (.iload_n 2, 1) := by decide +kernel
theorem dX3_least_53 : decode cX3_least 53 = .ok (.invokevirtual 97, 3) := by decide +kernel
theorem dX3_least_56 : decode cX3_least 56 = .ok (.istore_n 3, 1) := by decide +kernel
theorem dX3_least_57 : decode cX3_least 57 = .ok (.iconst 1, 1) := by decide +kernel
theorem dX3_least_58 : decode cX3_least 58 = .ok (.istore 4, 2) := by decide +kernel
theorem dX3_least_60 : decode cX3_least 60 = .ok (.iload 4, 2) := by decide +kernel
theorem dX3_least_62 : decode cX3_least 62 = .ok (.iload_n 1, 1) := by decide +kernel
theorem dX3_least_63 : decode cX3_least 63 = .ok (.if_icmp .gt 52, 3) := by decide +kernel
theorem dX3_least_66 : decode cX3_least 66 = .ok (.aload_n 0, 1) := by decide +kernel
theorem dX3_least_67 : decode cX3_least 67 = .ok (.getfield 20, 3) := by decide +kernel
theorem dX3_least_70 : decode cX3_least 70 = .ok (.iload 4, 2) := by decide +kernel
theorem dX3_least_72 : decode cX3_least 72 = .ok (.iconst 1, 1) := by decide +kernel
theorem dX3_least_73 : decode cX3_least 73 = .ok (.isub, 1) := by decide +kernel
theorem dX3_least_74 : decode cX3_least 74 = .ok (.iload_n 3, 1) := by decide +kernel
theorem dX3_least_75 : decode cX3_least 75 = .ok (.invokestatic 77, 3) := by decide +kernel
theorem dX3_least_78 : decode cX3_least 78 = .ok (.iaload, 1) := by decide +kernel
theorem dX3_least_79 : decode cX3_least 79 = .ok (.aload_n 0, 1) := by decide +kernel
theorem dX3_least_80 : decode cX3_least 80 = .ok (.iload_n 3, 1) := by decide +kernel
theorem dX3_least_81 : decode cX3_least 81 = .ok (.aload_n 0, 1) := by decide +kernel
theorem dX3_least_82 : decode cX3_least 82 = .ok (.getfield 7, 3) := by decide +kernel
theorem dX3_least_85 : decode cX3_least 85 = .ok (.bipush 10, 2) := by decide +kernel
theorem dX3_least_87 : decode cX3_least 87 = .ok (.iload 4, 2) := by decide +kernel
theorem dX3_least_89 : decode cX3_least 89 = .ok (.iadd, 1) := by decide +kernel
theorem dX3_least_90 : decode cX3_least 90 = .ok (.iconst 1, 1) := by decide +kernel
theorem dX3_least_91 : decode cX3_least 91 = .ok (.isub, 1) := by decide +kernel
theorem dX3_least_92 : decode cX3_least 92 = .ok (.iaload, 1) := by decide +kernel
theorem dX3_least_93 : decode cX3_least 93 = .ok (.invokevirtual 80, 3) := by decide +kernel
theorem dX3_least_96 : decode cX3_least 96 = .ok (.isub, 1) := by decide +kernel
theorem dX3_least_97 : decode cX3_least 97 = .ok (.istore 5, 2) := by decide +kernel
theorem dX3_least_99 : decode cX3_least 99 = .ok (.aload_n 0, 1) := by decide +kernel
theorem dX3_least_100 : decode cX3_least 100 = .ok (.iload 4, 2) := by decide +kernel
theorem dX3_least_102 : decode cX3_least 102 = .ok (.iload_n 3, 1) := by decide +kernel
theorem dX3_least_103 : decode cX3_least 103 = .ok (.iload 5, 2) := by decide +kernel
theorem dX3_least_105 : decode cX3_least 105 = .ok (.invokevirtual 97, 3) := by decide +kernel
theorem dX3_least_108 : decode cX3_least 108 = .ok (.istore_n 3, 1) := by decide +kernel
theorem dX3_least_109 : decode cX3_least 109 = .ok (.iinc 4 1, 3) := by decide +kernel
theorem dX3_least_112 : decode cX3_least 112 = .ok (.goto (-52), 3) := by decide +kernel
theorem dX3_least_115 : decode cX3_least 115 = .ok (.iload_n 3, 1) := by decide +kernel
theorem dX3_least_116 : decode cX3_least 116 = .ok (.ireturn, 1) := by decide +kernel
