theorem inJ6 : ∀ w ∈ wsJ60, w ∈ lw_tbl := by decide +kernel
theorem inJ9 : ∀ w ∈ wsJ90, w ∈ lw_tbl := by decide +kernel
theorem inJ10 : ∀ w ∈ wsJ100, w ∈ lw_tbl := by decide +kernel
theorem dX0_init_0 : decode cX0_init 0 = .ok (.aload_n 0, 1) := by decide +kernel
theorem dX0_init_1 : decode cX0_init 1 = .ok (.invokespecial 3, 3) := by decide +kernel
theorem dX0_init_4 : decode cX0_init 4 = .ok (.aload_n 0, 1) := by decide +kernel
theorem dX0_init_5 : decode cX0_init 5 = .ok (.iconst 0, 1) := by decide +kernel
theorem dX0_init_6 : decode cX0_init 6 = .ok (.putfield 9, 3) := by decide +kernel
theorem dX0_init_9 : decode cX0_init 9 = .ok (.aload_n 0, 1) := by decide +kernel
theorem dX0_init_10 : decode cX0_init 10 = .ok (.bipush 12, 2) := by decide +kernel
theorem dX0_init_12 : decode cX0_init 12 = .ok (.newarray .int, 2) := by decide +kernel
theorem dX0_init_14 : decode cX0_init 14 = .ok (.putfield 15, 3) := by decide +kernel
theorem dX0_init_17 : decode cX0_init 17 = .ok (.aload_n 0, 1) := by decide +kernel
theorem dX0_init_18 : decode cX0_init 18 = .ok (.bipush 96, 2) := by decide +kernel
theorem dX0_init_20 : decode cX0_init 20 = .ok (.newarray .int, 2) := by decide +kernel
theorem dX0_init_22 : decode cX0_init 22 = .ok (.putfield 19, 3) := by decide +kernel
theorem dX0_init_25 : decode cX0_init 25 = .ok (.aload_n 0, 1) := by decide +kernel
theorem dX0_init_26 : decode cX0_init 26 = .ok (.bipush 96, 2) := by decide +kernel
theorem dX0_init_28 : decode cX0_init 28 = .ok (.newarray .int, 2) := by decide +kernel
theorem dX0_init_30 : decode cX0_init 30 = .ok (.putfield 22, 3) := by decide +kernel
theorem dX0_init_33 : decode cX0_init 33 = .ok (.aload_n 0, 1) := by decide +kernel
theorem dX0_init_34 : decode cX0_init 34 = .ok (.bipush 96, 2) := by decide +kernel
theorem dX0_init_36 : decode cX0_init 36 = .ok (.newarray .int, 2) := by decide +kernel
theorem dX0_init_38 : decode cX0_init 38 = .ok (.putfield 25, 3) := by decide +kernel
theorem dX0_init_41 : decode cX0_init 41 = .ok (.aload_n 0, 1) := by decide +kernel
theorem dX0_init_42 : decode cX0_init 42 = .ok (.bipush 96, 2) := by decide +kernel
theorem dX0_init_44 : decode cX0_init 44 = .ok (.newarray .long, 2) := by decide +kernel
theorem dX0_init_46 : decode cX0_init 46 = .ok (.putfield 28, 3) := by decide +kernel
theorem dX0_init_49 : decode cX0_init 49 = .ok (.return_, 1) := by decide +kernel
set_option maxRecDepth 20000 in
theorem ggX0_workOut_X1_gatherWays : GoodIn wsX0_workOut wsX1_gatherWays := goodIn_r _ [10, 11, 12, 13, 14, 15, 16, 17, 18, 9, 19, 20, 21, 22, 23, 24, 25, 26, 27, 28, 29, 30, 31, 32, 33, 34, 35, 36, 61, 62, 63, 64, 65] (by decide +kernel) (by decide +kernel)
set_option maxRecDepth 20000 in
theorem gX0_workOut_X1_gatherWays : GoodIn wsX0_workOut (wsV RX0 38 RX1 yX1_gatherWays wsX1_gatherWays) := goodIn_app (goodIn_of _ (by decide +kernel)) ggX0_workOut_X1_gatherWays
set_option maxRecDepth 20000 in
theorem ggX0_workOut_X0_weigh : GoodIn wsX0_workOut wsX0_weigh := goodIn_r _ [41, 2, 42, 3, 5, 43, 44, 45, 4, 46, 47, 48, 9, 49, 24, 11, 12, 13, 14, 15, 50, 51, 52, 53, 54, 55, 56, 57, 58, 59, 60, 25, 26, 27, 28, 29, 30, 31, 32, 33, 34, 35, 36, 66, 67, 68, 69, 70, 71, 61, 62, 63, 64, 65] (by decide +kernel) (by decide +kernel)
set_option maxRecDepth 20000 in
theorem gX0_workOut_X0_weigh : GoodIn wsX0_workOut (wsV RX0 42 RX0 yX0_weigh wsX0_weigh) := goodIn_app (goodIn_of _ (by decide +kernel)) ggX0_workOut_X0_weigh
theorem dX0_workOut_0 : decode cX0_workOut 0 = .ok (.aload_n 0, 1) := by decide +kernel
theorem dX0_workOut_1 : decode cX0_workOut 1 = .ok (.aload_n 1, 1) := by decide +kernel
theorem dX0_workOut_2 : decode cX0_workOut 2 = .ok (.getfield 32, 3) := by decide +kernel
theorem dX0_workOut_5 : decode cX0_workOut 5 = .ok (.putfield 9, 3) := by decide +kernel
theorem dX0_workOut_8 : decode cX0_workOut 8 = .ok (.iconst 0, 1) := by decide +kernel
theorem dX0_workOut_9 : decode cX0_workOut 9 = .ok (.istore_n 2, 1) := by decide +kernel
theorem dX0_workOut_10 : decode cX0_workOut 10 = .ok (.iload_n 2, 1) := by decide +kernel
theorem dX0_workOut_11 : decode cX0_workOut 11 = .ok (.aload_n 0, 1) := by decide +kernel
theorem dX0_workOut_12 : decode cX0_workOut 12 = .ok (.getfield 9, 3) := by decide +kernel
theorem dX0_workOut_15 : decode cX0_workOut 15 = .ok (.if_icmp .ge 33, 3) := by decide +kernel
theorem dX0_workOut_18 : decode cX0_workOut 18 = .ok (.aload_n 0, 1) := by decide +kernel
theorem dX0_workOut_19 : decode cX0_workOut 19 = .ok (.getfield 15, 3) := by decide +kernel
theorem dX0_workOut_22 : decode cX0_workOut 22 = .ok (.iload_n 2, 1) := by decide +kernel
theorem dX0_workOut_23 : decode cX0_workOut 23 = .ok (.aload_n 1, 1) := by decide +kernel
theorem dX0_workOut_24 : decode cX0_workOut 24 = .ok (.aload_n 1, 1) := by decide +kernel
theorem dX0_workOut_25 : decode cX0_workOut 25 = .ok (.getfield 35, 3) := by decide +kernel
theorem dX0_workOut_28 : decode cX0_workOut 28 = .ok (.iload_n 2, 1) := by decide +kernel
theorem dX0_workOut_29 : decode cX0_workOut 29 = .ok (.iaload, 1) := by decide +kernel
theorem dX0_workOut_30 : decode cX0_workOut 30 = .ok (.aload_n 0, 1) := by decide +kernel
theorem dX0_workOut_31 : decode cX0_workOut 31 = .ok (.getfield 19, 3) := by decide +kernel
theorem dX0_workOut_34 : decode cX0_workOut 34 = .ok (.bipush 8, 2) := by decide +kernel
theorem dX0_workOut_36 : decode cX0_workOut 36 = .ok (.iload_n 2, 1) := by decide +kernel
theorem dX0_workOut_37 : decode cX0_workOut 37 = .ok (.imul, 1) := by decide +kernel
theorem dX0_workOut_38 : decode cX0_workOut 38 = .ok (.invokevirtual 38, 3) := by decide +kernel
theorem dX0_workOut_41 : decode cX0_workOut 41 = .ok (.iastore, 1) := by decide +kernel
theorem dX0_workOut_42 : decode cX0_workOut 42 = .ok (.iinc 2 1, 3) := by decide +kernel
theorem dX0_workOut_45 : decode cX0_workOut 45 = .ok (.goto (-35), 3) := by decide +kernel
theorem dX0_workOut_48 : decode cX0_workOut 48 = .ok (.aload_n 0, 1) := by decide +kernel
theorem dX0_workOut_49 : decode cX0_workOut 49 = .ok (.getfield 9, 3) := by decide +kernel
theorem dX0_workOut_52 : decode cX0_workOut 52 = .ok (.iconst 1, 1) := by decide +kernel
theorem dX0_workOut_53 : decode cX0_workOut 53 = .ok (.isub, 1) := by decide +kernel
theorem dX0_workOut_54 : decode cX0_workOut 54 = .ok (.istore_n 2, 1) := by decide +kernel
theorem dX0_workOut_55 : decode cX0_workOut 55 = .ok (.iload_n 2, 1) := by decide +kernel
theorem dX0_workOut_56 : decode cX0_workOut 56 = .ok (.ifCond .lt 39, 3) := by decide +kernel
theorem dX0_workOut_59 : decode cX0_workOut 59 = .ok (.iconst 0, 1) := by decide +kernel
theorem dX0_workOut_60 : decode cX0_workOut 60 = .ok (.istore_n 3, 1) := by decide +kernel
theorem dX0_workOut_61 : decode cX0_workOut 61 = .ok (.iload_n 3, 1) := by decide +kernel
theorem dX0_workOut_62 : decode cX0_workOut 62 = .ok (.aload_n 0, 1) := by decide +kernel
theorem dX0_workOut_63 : decode cX0_workOut 63 = .ok (.getfield 15, 3) := by decide +kernel
theorem dX0_workOut_66 : decode cX0_workOut 66 = .ok (.iload_n 2, 1) := by decide +kernel
theorem dX0_workOut_67 : decode cX0_workOut 67 = .ok (.iaload, 1) := by decide +kernel
theorem dX0_workOut_68 : decode cX0_workOut 68 = .ok (.if_icmp .ge 21, 3) := by decide +kernel
theorem dX0_workOut_71 : decode cX0_workOut 71 = .ok (.aload_n 0, 1) := by decide +kernel
theorem dX0_workOut_72 : decode cX0_workOut 72 = .ok (.aload_n 1, 1) := by decide +kernel
theorem dX0_workOut_73 : decode cX0_workOut 73 = .ok (.iload_n 2, 1) := by decide +kernel
theorem dX0_workOut_74 : decode cX0_workOut 74 = .ok (.bipush 8, 2) := by decide +kernel
theorem dX0_workOut_76 : decode cX0_workOut 76 = .ok (.iload_n 2, 1) := by decide +kernel
theorem dX0_workOut_77 : decode cX0_workOut 77 = .ok (.imul, 1) := by decide +kernel
theorem dX0_workOut_78 : decode cX0_workOut 78 = .ok (.iload_n 3, 1) := by decide +kernel
theorem dX0_workOut_79 : decode cX0_workOut 79 = .ok (.iadd, 1) := by decide +kernel
theorem dX0_workOut_80 : decode cX0_workOut 80 = .ok (.invokevirtual 42, 3) := by decide +kernel
theorem dX0_workOut_83 : decode cX0_workOut 83 = .ok (.iinc 3 1, 3) := by decide +kernel
theorem dX0_workOut_86 : decode cX0_workOut 86 = .ok (.goto (-25), 3) := by decide +kernel
theorem dX0_workOut_89 : decode cX0_workOut 89 = .ok (.iinc 2 (-1), 3) := by decide +kernel
theorem dX0_workOut_92 : decode cX0_workOut 92 = .ok (.goto (-37), 3) := by decide +kernel
theorem dX0_workOut_95 : decode cX0_workOut 95 = .ok (.return_, 1) := by decide +kernel
set_option maxRecDepth 20000 in
theorem ggX0_weigh_X1_motion : GoodIn wsX0_weigh wsX1_motion := goodIn_r _ [13, 14, 15, 16, 17, 18, 19, 20, 21, 22, 23, 24, 25, 26, 49, 50, 51, 52, 53] (by decide +kernel) (by decide +kernel)
set_option maxRecDepth 20000 in
theorem gX0_weigh_X1_motion : GoodIn wsX0_weigh (wsV RX0 47 RX1 yX1_motion wsX1_motion) := goodIn_app (goodIn_of _ (by decide +kernel)) ggX0_weigh_X1_motion
set_option maxRecDepth 20000 in
theorem ggX0_weigh_X1_fault : GoodIn wsX0_weigh wsX1_fault := goodIn_r _ [30, 19, 15, 16, 17, 18, 31, 32, 33, 12, 34, 35, 36, 37, 38, 14, 39, 40, 41, 42, 49, 50, 51, 52, 53] (by decide +kernel) (by decide +kernel)
set_option maxRecDepth 20000 in
theorem gX0_weigh_X1_fault : GoodIn wsX0_weigh (wsV RX0 51 RX1 yX1_fault wsX1_fault) := goodIn_app (goodIn_of _ (by decide +kernel)) ggX0_weigh_X1_fault
theorem dX0_weigh_0 : decode cX0_weigh 0 = .ok (.iconst 0, 1) := by decide +kernel
theorem dX0_weigh_1 : decode cX0_weigh 1 = .ok (.istore 4, 2) := by decide +kernel
theorem dX0_weigh_3 : decode cX0_weigh 3 = .ok (.lconst 1, 1) := by decide +kernel
theorem dX0_weigh_4 : decode cX0_weigh 4 = .ok (.lstore 5, 2) := by decide +kernel
theorem dX0_weigh_6 : decode cX0_weigh 6 = .ok (.iload_n 2, 1) := by decide +kernel
theorem dX0_weigh_7 : decode cX0_weigh 7 = .ok (.iconst 1, 1) := by decide +kernel
theorem dX0_weigh_8 : decode cX0_weigh 8 = .ok (.iadd, 1) := by decide +kernel
theorem dX0_weigh_9 : decode cX0_weigh 9 = .ok (.aload_n 0, 1) := by decide +kernel
theorem dX0_weigh_10 : decode cX0_weigh 10 = .ok (.getfield 9, 3) := by decide +kernel
theorem dX0_weigh_13 : decode cX0_weigh 13 = .ok (.if_icmp .ge 113, 3) := by decide +kernel
theorem dX0_weigh_16 : decode cX0_weigh 16 = .ok (.ldc 46, 2) := by decide +kernel
theorem dX0_weigh_18 : decode cX0_weigh 18 = .ok (.istore 4, 2) := by decide +kernel
theorem dX0_weigh_20 : decode cX0_weigh 20 = .ok (.lconst 0, 1) := by decide +kernel
theorem dX0_weigh_21 : decode cX0_weigh 21 = .ok (.lstore 5, 2) := by decide +kernel
theorem dX0_weigh_23 : decode cX0_weigh 23 = .ok (.bipush 8, 2) := by decide +kernel
theorem dX0_weigh_25 : decode cX0_weigh 25 = .ok (.iload_n 2, 1) := by decide +kernel
theorem dX0_weigh_26 : decode cX0_weigh 26 = .ok (.iconst 1, 1) := by decide +kernel
theorem dX0_weigh_27 : decode cX0_weigh 27 = .ok (.iadd, 1) := by decide +kernel
theorem dX0_weigh_28 : decode cX0_weigh 28 = .ok (.imul, 1) := by decide +kernel
theorem dX0_weigh_29 : decode cX0_weigh 29 = .ok (.istore 7, 2) := by decide +kernel
theorem dX0_weigh_31 : decode cX0_weigh 31 = .ok (.iload 7, 2) := by decide +kernel
theorem dX0_weigh_33 : decode cX0_weigh 33 = .ok (.istore 8, 2) := by decide +kernel
theorem dX0_weigh_35 : decode cX0_weigh 35 = .ok (.iload 8, 2) := by decide +kernel
theorem dX0_weigh_37 : decode cX0_weigh 37 = .ok (.iload 7, 2) := by decide +kernel
theorem dX0_weigh_39 : decode cX0_weigh 39 = .ok (.aload_n 0, 1) := by decide +kernel
theorem dX0_weigh_40 : decode cX0_weigh 40 = .ok (.getfield 15, 3) := by decide +kernel
theorem dX0_weigh_43 : decode cX0_weigh 43 = .ok (.iload_n 2, 1) := by decide +kernel
theorem dX0_weigh_44 : decode cX0_weigh 44 = .ok (.iconst 1, 1) := by decide +kernel
theorem dX0_weigh_45 : decode cX0_weigh 45 = .ok (.iadd, 1) := by decide +kernel
theorem dX0_weigh_46 : decode cX0_weigh 46 = .ok (.iaload, 1) := by decide +kernel
theorem dX0_weigh_47 : decode cX0_weigh 47 = .ok (.iadd, 1) := by decide +kernel
theorem dX0_weigh_48 : decode cX0_weigh 48 = .ok (.if_icmp .ge 78, 3) := by decide +kernel
theorem dX0_weigh_51 : decode cX0_weigh 51 = .ok (.aload_n 1, 1) := by decide +kernel
theorem dX0_weigh_52 : decode cX0_weigh 52 = .ok (.aload_n 0, 1) := by decide +kernel
theorem dX0_weigh_53 : decode cX0_weigh 53 = .ok (.getfield 19, 3) := by decide +kernel
theorem dX0_weigh_56 : decode cX0_weigh 56 = .ok (.iload_n 3, 1) := by decide +kernel
theorem dX0_weigh_57 : decode cX0_weigh 57 = .ok (.iaload, 1) := by decide +kernel
theorem dX0_weigh_58 : decode cX0_weigh 58 = .ok (.aload_n 0, 1) := by decide +kernel
theorem dX0_weigh_59 : decode cX0_weigh 59 = .ok (.getfield 19, 3) := by decide +kernel
theorem dX0_weigh_62 : decode cX0_weigh 62 = .ok (.iload 8, 2) := by decide +kernel
theorem dX0_weigh_64 : decode cX0_weigh 64 = .ok (.iaload, 1) := by decide +kernel
theorem dX0_weigh_65 : decode cX0_weigh 65 = .ok (.invokevirtual 47, 3) := by decide +kernel
theorem dX0_weigh_68 : decode cX0_weigh 68 = .ok (.aload_n 0, 1) := by decide +kernel
theorem dX0_weigh_69 : decode cX0_weigh 69 = .ok (.getfield 25, 3) := by decide +kernel
theorem dX0_weigh_72 : decode cX0_weigh 72 = .ok (.iload 8, 2) := by decide +kernel
theorem dX0_weigh_74 : decode cX0_weigh 74 = .ok (.iaload, 1) := by decide +kernel
theorem dX0_weigh_75 : decode cX0_weigh 75 = .ok (.iadd, 1) := by decide +kernel
theorem dX0_weigh_76 : decode cX0_weigh 76 = .ok (.istore 9, 2) := by decide +kernel
theorem dX0_weigh_78 : decode cX0_weigh 78 = .ok (.iload 9, 2) := by decide +kernel
theorem dX0_weigh_80 : decode cX0_weigh 80 = .ok (.iload 4, 2) := by decide +kernel
theorem dX0_weigh_82 : decode cX0_weigh 82 = .ok (.if_icmp .ge 19, 3) := by decide +kernel
theorem dX0_weigh_85 : decode cX0_weigh 85 = .ok (.iload 9, 2) := by decide +kernel
theorem dX0_weigh_87 : decode cX0_weigh 87 = .ok (.istore 4, 2) := by decide +kernel
theorem dX0_weigh_89 : decode cX0_weigh 89 = .ok (.aload_n 0, 1) := by decide +kernel
theorem dX0_weigh_90 : decode cX0_weigh 90 = .ok (.getfield 28, 3) := by decide +kernel
theorem dX0_weigh_93 : decode cX0_weigh 93 = .ok (.iload 8, 2) := by decide +kernel
theorem dX0_weigh_95 : decode cX0_weigh 95 = .ok (.laload, 1) := by decide +kernel
theorem dX0_weigh_96 : decode cX0_weigh 96 = .ok (.lstore 5, 2) := by decide +kernel
theorem dX0_weigh_98 : decode cX0_weigh 98 = .ok (.goto 22, 3) := by decide +kernel
theorem dX0_weigh_101 : decode cX0_weigh 101 = .ok (.iload 9, 2) := by decide +kernel
theorem dX0_weigh_103 : decode cX0_weigh 103 = .ok (.iload 4, 2) := by decide +kernel
theorem dX0_weigh_105 : decode cX0_weigh 105 = .ok (.if_icmp .ne 15, 3) := by decide +kernel
theorem dX0_weigh_108 : decode cX0_weigh 108 = .ok (.lload 5, 2) := by decide +kernel
theorem dX0_weigh_110 : decode cX0_weigh 110 = .ok (.aload_n 0, 1) := by decide +kernel
theorem dX0_weigh_111 : decode cX0_weigh 111 = .ok (.getfield 28, 3) := by decide +kernel
theorem dX0_weigh_114 : decode cX0_weigh 114 = .ok (.iload 8, 2) := by decide +kernel
theorem dX0_weigh_116 : decode cX0_weigh 116 = .ok (.laload, 1) := by decide +kernel
theorem dX0_weigh_117 : decode cX0_weigh 117 = .ok (.ladd, 1) := by decide +kernel
theorem dX0_weigh_118 : decode cX0_weigh 118 = .ok (.lstore 5, 2) := by decide +kernel
theorem dX0_weigh_120 : decode cX0_weigh 120 = .ok (.iinc 8 1, 3) := by decide +kernel
theorem dX0_weigh_123 : decode cX0_weigh 123 = .ok (.goto (-88), 3) := by decide +kernel
theorem dX0_weigh_126 : decode cX0_weigh 126 = .ok (.aload_n 0, 1) := by decide +kernel
theorem dX0_weigh_127 : decode cX0_weigh 127 = .ok (.getfield 22, 3) := by decide +kernel
theorem dX0_weigh_130 : decode cX0_weigh 130 = .ok (.iload_n 3, 1) := by decide +kernel
theorem dX0_weigh_131 : decode cX0_weigh 131 = .ok (.iload 4, 2) := by decide +kernel
theorem dX0_weigh_133 : decode cX0_weigh 133 = .ok (.iastore, 1) := by decide +kernel
theorem dX0_weigh_134 : decode cX0_weigh 134 = .ok (.aload_n 0, 1) := by decide +kernel
theorem dX0_weigh_135 : decode cX0_weigh 135 = .ok (.getfield 25, 3) := by decide +kernel
theorem dX0_weigh_138 : decode cX0_weigh 138 = .ok (.iload_n 3, 1) := by decide +kernel
theorem dX0_weigh_139 : decode cX0_weigh 139 = .ok (.iload 4, 2) := by decide +kernel
theorem dX0_weigh_141 : decode cX0_weigh 141 = .ok (.aload_n 1, 1) := by decide +kernel
theorem dX0_weigh_142 : decode cX0_weigh 142 = .ok (.aload_n 0, 1) := by decide +kernel
theorem dX0_weigh_143 : decode cX0_weigh 143 = .ok (.getfield 19, 3) := by decide +kernel
theorem dX0_weigh_146 : decode cX0_weigh 146 = .ok (.iload_n 3, 1) := by decide +kernel
theorem dX0_weigh_147 : decode cX0_weigh 147 = .ok (.iaload, 1) := by decide +kernel
theorem dX0_weigh_148 : decode cX0_weigh 148 = .ok (.aload_n 1, 1) := by decide +kernel
theorem dX0_weigh_149 : decode cX0_weigh 149 = .ok (.getfield 35, 3) := by decide +kernel
theorem dX0_weigh_152 : decode cX0_weigh 152 = .ok (.iload_n 2, 1) := by decide +kernel
theorem dX0_weigh_153 : decode cX0_weigh 153 = .ok (.iaload, 1) := by decide +kernel
theorem dX0_weigh_154 : decode cX0_weigh 154 = .ok (.invokevirtual 51, 3) := by decide +kernel
theorem dX0_weigh_157 : decode cX0_weigh 157 = .ok (.iadd, 1) := by decide +kernel
theorem dX0_weigh_158 : decode cX0_weigh 158 = .ok (.iastore, 1) := by decide +kernel
theorem dX0_weigh_159 : decode cX0_weigh 159 = .ok (.aload_n 0, 1) := by decide +kernel
theorem dX0_weigh_160 : decode cX0_weigh 160 = .ok (.getfield 28, 3) := by decide +kernel
theorem dX0_weigh_163 : decode cX0_weigh 163 = .ok (.iload_n 3, 1) := by decide +kernel
theorem dX0_weigh_164 : decode cX0_weigh 164 = .ok (.lload 5, 2) := by decide +kernel
theorem dX0_weigh_166 : decode cX0_weigh 166 = .ok (.lastore, 1) := by decide +kernel
theorem dX0_weigh_167 : decode cX0_weigh 167 = .ok (.return_, 1) := by decide +kernel
set_option maxRecDepth 20000 in
theorem ggX0_hasPlan_X0_countAll : GoodIn wsX0_hasPlan wsX0_countAll := goodIn_r _ [5, 6, 7, 8, 9, 10, 11, 12, 13] (by decide +kernel) (by decide +kernel)
set_option maxRecDepth 20000 in
theorem gX0_hasPlan_X0_countAll : GoodIn wsX0_hasPlan (wsV RX0 54 RX0 yX0_countAll wsX0_countAll) := goodIn_app (goodIn_of _ (by decide +kernel)) ggX0_hasPlan_X0_countAll
theorem dX0_hasPlan_0 : decode cX0_hasPlan 0 = .ok (.aload_n 0, 1) := by decide +kernel
theorem dX0_hasPlan_1 : decode cX0_hasPlan 1 = .ok (.invokevirtual 54, 3) := by decide +kernel
theorem dX0_hasPlan_4 : decode cX0_hasPlan 4 = .ok (.lconst 0, 1) := by decide +kernel
theorem dX0_hasPlan_5 : decode cX0_hasPlan 5 = .ok (.lcmp, 1) := by decide +kernel
theorem dX0_hasPlan_6 : decode cX0_hasPlan 6 = .ok (.ifCond .le 7, 3) := by decide +kernel
theorem dX0_hasPlan_9 : decode cX0_hasPlan 9 = .ok (.iconst 1, 1) := by decide +kernel
theorem dX0_hasPlan_10 : decode cX0_hasPlan 10 = .ok (.goto 4, 3) := by decide +kernel
theorem dX0_hasPlan_13 : decode cX0_hasPlan 13 = .ok (.iconst 0, 1) := by decide +kernel
theorem dX0_hasPlan_14 : decode cX0_hasPlan 14 = .ok (.ireturn, 1) := by decide +kernel
theorem dX0_countAll_0 : decode cX0_countAll 0 = .ok (.lconst 1, 1) := by decide +kernel
theorem dX0_countAll_1 : decode cX0_countAll 1 = .ok (.lstore_n 1, 1) := by decide +kernel
theorem dX0_countAll_2 : decode cX0_countAll 2 = .ok (.iconst 0, 1) := by decide +kernel
theorem dX0_countAll_3 : decode cX0_countAll 3 = .ok (.istore_n 3, 1) := by decide +kernel
theorem dX0_countAll_4 : decode cX0_countAll 4 = .ok (.iload_n 3, 1) := by decide +kernel
theorem dX0_countAll_5 : decode cX0_countAll 5 = .ok (.aload_n 0, 1) := by decide +kernel
theorem dX0_countAll_6 : decode cX0_countAll 6 = .ok (.getfield 9, 3) := by decide +kernel
theorem dX0_countAll_9 : decode cX0_countAll 9 = .ok (.if_icmp .ge 19, 3) := by decide +kernel
theorem dX0_countAll_12 : decode cX0_countAll 12 = .ok (.lload_n 1, 1) := by decide +kernel
theorem dX0_countAll_13 : decode cX0_countAll 13 = .ok (.aload_n 0, 1) := by decide +kernel
theorem dX0_countAll_14 : decode cX0_countAll 14 = .ok (.getfield 15, 3) := by decide +kernel
theorem dX0_countAll_17 : decode cX0_countAll 17 = .ok (.iload_n 3, 1) := by decide +kernel
theorem dX0_countAll_18 : decode cX0_countAll 18 = .ok (.iaload, 1) := by decide +kernel
theorem dX0_countAll_19 : decode cX0_countAll 19 = .ok (.i2l, 1) := by decide +kernel
theorem dX0_countAll_20 : decode cX0_countAll 20 = .ok (.lmul, 1) := by decide +kernel
theorem dX0_countAll_21 : decode cX0_countAll 21 = .ok (.lstore_n 1, 1) := by decide +kernel
theorem dX0_countAll_22 : decode cX0_countAll 22 = .ok (.iinc 3 1, 3) := by decide +kernel
theorem dX0_countAll_25 : decode cX0_countAll 25 = .ok (.goto (-21), 3) := by decide +kernel
theorem dX0_countAll_28 : decode cX0_countAll 28 = .ok (.lload_n 1, 1) := by decide +kernel
theorem dX0_countAll_29 : decode cX0_countAll 29 = .ok (.lreturn, 1) := by decide +kernel
theorem dX0_leastCost_0 : decode cX0_leastCost 0 = .ok (.aload_n 0, 1) := by decide +kernel
theorem dX0_leastCost_1 : decode cX0_leastCost 1 = .ok (.getfield 9, 3) := by decide +kernel
theorem dX0_leastCost_4 : decode cX0_leastCost 4 = .ok (.ifCond .ne 5, 3) := by decide +kernel
theorem dX0_leastCost_7 : decode cX0_leastCost 7 = .ok (.iconst 0, 1) := by decide +kernel
theorem dX0_leastCost_8 : decode cX0_leastCost 8 = .ok (.ireturn, 1) := by decide +kernel
theorem dX0_leastCost_9 : decode cX0_leastCost 9 = .ok (.ldc 46, 2) := by decide +kernel
theorem dX0_leastCost_11 : decode cX0_leastCost 11 = .ok (.istore_n 1, 1) := by decide +kernel
theorem dX0_leastCost_12 : decode cX0_leastCost 12 = .ok (.iconst 0, 1) := by decide +kernel
theorem dX0_leastCost_13 : decode cX0_leastCost 13 = .ok (.istore_n 2, 1) := by decide +kernel
theorem dX0_leastCost_14 : decode cX0_leastCost 14 = .ok (.iload_n 2, 1) := by decide +kernel
theorem dX0_leastCost_15 : decode cX0_leastCost 15 = .ok (.aload_n 0, 1) := by decide +kernel
theorem dX0_leastCost_16 : decode cX0_leastCost 16 = .ok (.getfield 15, 3) := by decide +kernel
theorem dX0_leastCost_19 : decode cX0_leastCost 19 = .ok (.iconst 0, 1) := by decide +kernel
theorem dX0_leastCost_20 : decode cX0_leastCost 20 = .ok (.iaload, 1) := by decide +kernel
theorem dX0_leastCost_21 : decode cX0_leastCost 21 = .ok (.if_icmp .ge 20, 3) := by decide +kernel
theorem dX0_leastCost_24 : decode cX0_leastCost 24 = .ok (.iload_n 1, 1) := by decide +kernel
theorem dX0_leastCost_25 : decode cX0_leastCost 25 = .ok (.aload_n 0, 1) := by decide +kernel
theorem dX0_leastCost_26 : decode cX0_leastCost 26 = .ok (.getfield 25, 3) := by decide +kernel
theorem dX0_leastCost_29 : decode cX0_leastCost 29 = .ok (.iload_n 2, 1) := by decide +kernel
theorem dX0_leastCost_30 : decode cX0_leastCost 30 = .ok (.iaload, 1) := by decide +kernel
theorem dX0_leastCost_31 : decode cX0_leastCost 31 = .ok (.invokestatic 58, 3) := by decide +kernel
theorem dX0_leastCost_34 : decode cX0_leastCost 34 = .ok (.istore_n 1, 1) := by decide +kernel
theorem dX0_leastCost_35 : decode cX0_leastCost 35 = .ok (.iinc 2 1, 3) := by decide +kernel
theorem dX0_leastCost_38 : decode cX0_leastCost 38 = .ok (.goto (-24), 3) := by decide +kernel
theorem dX0_leastCost_41 : decode cX0_leastCost 41 = .ok (.iload_n 1, 1) := by decide +kernel
theorem dX0_leastCost_42 : decode cX0_leastCost 42 = .ok (.ireturn, 1) := by decide +kernel
set_option maxRecDepth 20000 in
theorem ggX0_countLeast_X0_hasPlan : GoodIn wsX0_countLeast wsX0_hasPlan := goodIn_r _ [9, 10, 11, 12, 8, 13, 1, 2, 23, 24, 25, 26, 27, 28] (by decide +kernel) (by decide +kernel)
set_option maxRecDepth 20000 in
theorem gX0_countLeast_X0_hasPlan : GoodIn wsX0_countLeast (wsV RX0 63 RX0 yX0_hasPlan wsX0_hasPlan) := goodIn_app (goodIn_of _ (by decide +kernel)) ggX0_countLeast_X0_hasPlan
set_option maxRecDepth 20000 in
theorem ggX0_countLeast_X0_countAll : GoodIn wsX0_countLeast wsX0_countAll := goodIn_r _ [13, 1, 2, 23, 24, 25, 26, 27, 28] (by decide +kernel) (by decide +kernel)
set_option maxRecDepth 20000 in
theorem gX0_countLeast_X0_countAll : GoodIn wsX0_countLeast (wsV RX0 54 RX0 yX0_countAll wsX0_countAll) := goodIn_app (goodIn_of _ (by decide +kernel)) ggX0_countLeast_X0_countAll
set_option maxRecDepth 20000 in
theorem ggX0_countLeast_X0_leastCost : GoodIn wsX0_countLeast wsX0_leastCost := goodIn_r _ [17, 1, 18, 2, 3, 19, 20, 21, 22, 23, 24, 25, 26, 27, 28] (by decide +kernel) (by decide +kernel)
set_option maxRecDepth 20000 in
theorem gX0_countLeast_X0_leastCost : GoodIn wsX0_countLeast (wsV RX0 67 RX0 yX0_leastCost wsX0_leastCost) := goodIn_app (goodIn_of _ (by decide +kernel)) ggX0_countLeast_X0_leastCost
theorem dX0_countLeast_0 : decode cX0_countLeast 0 = .ok (.aload_n 0, 1) := by decide +kernel
theorem dX0_countLeast_1 : decode cX0_countLeast 1 = .ok (.getfield 9, 3) := by decide +kernel
theorem dX0_countLeast_4 : decode cX0_countLeast 4 = .ok (.ifCond .eq 10, 3) := by decide +kernel
theorem dX0_countLeast_7 : decode cX0_countLeast 7 = .ok (.aload_n 0, 1) := by decide +kernel
theorem dX0_countLeast_8 : decode cX0_countLeast 8 = .ok (.invokevirtual 63, 3) := by decide +kernel
theorem dX0_countLeast_11 : decode cX0_countLeast 11 = .ok (.ifCond .ne 8, 3) := by decide +kernel
theorem dX0_countLeast_14 : decode cX0_countLeast 14 = .ok (.aload_n 0, 1) := by decide +kernel
theorem dX0_countLeast_15 : decode cX0_countLeast 15 = .ok (.invokevirtual 54, 3) := by decide +kernel
theorem dX0_countLeast_18 : decode cX0_countLeast 18 = .ok (.lreturn, 1) := by decide +kernel
theorem dX0_countLeast_19 : decode cX0_countLeast 19 = .ok (.aload_n 0, 1) := by decide +kernel
theorem dX0_countLeast_20 : decode cX0_countLeast 20 = .ok (.invokevirtual 67, 3) := by decide +kernel
theorem dX0_countLeast_23 : decode cX0_countLeast 23 = .ok (.istore_n 1, 1) := by decide +kernel
theorem dX0_countLeast_24 : decode cX0_countLeast 24 = .ok (.lconst 0, 1) := by decide +kernel
theorem dX0_countLeast_25 : decode cX0_countLeast 25 = .ok (.lstore_n 2, 1) := by decide +kernel
theorem dX0_countLeast_26 : decode cX0_countLeast 26 = .ok (.iconst 0, 1) := by decide +kernel
theorem dX0_countLeast_27 : decode cX0_countLeast 27 = .ok (.istore 4, 2) := by decide +kernel
theorem dX0_countLeast_29 : decode cX0_countLeast 29 = .ok (.iload 4, 2) := by decide +kernel
theorem dX0_countLeast_31 : decode cX0_countLeast 31 = .ok (.aload_n 0, 1) := by decide +kernel
theorem dX0_countLeast_32 : decode cX0_countLeast 32 = .ok (.getfield 15, 3) := by decide +kernel
theorem dX0_countLeast_35 : decode cX0_countLeast 35 = .ok (.iconst 0, 1) := by decide +kernel
theorem dX0_countLeast_36 : decode cX0_countLeast 36 = .ok (.iaload, 1) := by decide +kernel
theorem dX0_countLeast_37 : decode cX0_countLeast 37 = .ok (.if_icmp .ge 30, 3) := by decide +kernel
theorem dX0_countLeast_40 : decode cX0_countLeast 40 = .ok (.aload_n 0, 1) := by decide +kernel
theorem dX0_countLeast_41 : decode cX0_countLeast 41 = .ok (.getfield 25, 3) := by decide +kernel
theorem dX0_countLeast_44 : decode cX0_countLeast 44 = .ok (.iload 4, 2) := by decide +kernel
theorem dX0_countLeast_46 : decode cX0_countLeast 46 = .ok (.iaload, 1) := by decide +kernel
theorem dX0_countLeast_47 : decode cX0_countLeast 47 = .ok (.iload_n 1, 1) := by decide +kernel
theorem dX0_countLeast_48 : decode cX0_countLeast 48 = .ok (.if_icmp .ne 13, 3) := by decide +kernel
theorem dX0_countLeast_51 : decode cX0_countLeast 51 = .ok (.lload_n 2, 1) := by decide +kernel
theorem dX0_countLeast_52 : decode cX0_countLeast 52 = .ok (.aload_n 0, 1) := by decide +kernel
theorem dX0_countLeast_53 : decode cX0_countLeast 53 = .ok (.getfield 28, 3) := by decide +kernel
theorem dX0_countLeast_56 : decode cX0_countLeast 56 = .ok (.iload 4, 2) := by decide +kernel
theorem dX0_countLeast_58 : decode cX0_countLeast 58 = .ok (.laload, 1) := by decide +kernel
theorem dX0_countLeast_59 : decode cX0_countLeast 59 = .ok (.ladd, 1) := by decide +kernel
theorem dX0_countLeast_60 : decode cX0_countLeast 60 = .ok (.lstore_n 2, 1) := by decide +kernel
theorem dX0_countLeast_61 : decode cX0_countLeast 61 = .ok (.iinc 4 1, 3) := by decide +kernel
theorem dX0_countLeast_64 : decode cX0_countLeast 64 = .ok (.goto (-35), 3) := by decide +kernel
theorem dX0_countLeast_67 : decode cX0_countLeast 67 = .ok (.lload_n 2, 1) := by decide +kernel
theorem dX0_countLeast_68 : decode cX0_countLeast 68 = .ok (.lreturn, 1) := by decide +kernel
set_option maxRecDepth 20000 in
theorem ggX0_countWaysAt_X0_firstMarks : GoodIn wsX0_countWaysAt wsX0_firstMarks := goodIn_r _ [5, 6, 7, 8, 9, 10, 4, 11, 12, 13, 14, 15, 16, 17, 42, 43, 44, 45, 46, 47] (by decide +kernel) (by decide +kernel)
set_option maxRecDepth 20000 in
theorem gX0_countWaysAt_X0_firstMarks : GoodIn wsX0_countWaysAt (wsV RX0 71 RX0 yX0_firstMarks wsX0_firstMarks) := goodIn_app (goodIn_of _ (by decide +kernel)) ggX0_countWaysAt_X0_firstMarks
set_option maxRecDepth 20000 in
theorem ggX0_countWaysAt_X0_nextMarks : GoodIn wsX0_countWaysAt wsX0_nextMarks := goodIn_r _ [21, 12, 6, 22, 7, 23, 24, 25, 26, 27, 28, 29, 30, 31, 16, 32, 33, 34, 35, 36, 37, 38, 39, 40, 42, 43, 44, 45, 46, 47, 48, 49, 50, 51, 52] (by decide +kernel) (by decide +kernel)
set_option maxRecDepth 20000 in
theorem gX0_countWaysAt_X0_nextMarks : GoodIn wsX0_countWaysAt (wsV RX0 74 RX0 yX0_nextMarks wsX0_nextMarks) := goodIn_app (goodIn_of _ (by decide +kernel)) ggX0_countWaysAt_X0_nextMarks
set_option maxRecDepth 20000 in
theorem ggX0_countWaysAt_J6_bitCount_0f7a4 : GoodIn wsX0_countWaysAt wsJ6_bitCount_0f7a4 := goodIn_r _ [37, 38, 39, 40] (by decide +kernel) (by decide +kernel)
set_option maxRecDepth 20000 in
theorem gX0_countWaysAt_J6_bitCount_0f7a4 : GoodIn wsX0_countWaysAt (va_wsS RX0 78 yJ6_bitCount_0f7a4 wsJ6_bitCount_0f7a4) := goodIn_app (goodIn_of _ (by decide +kernel)) ggX0_countWaysAt_J6_bitCount_0f7a4
theorem dX0_countWaysAt_0 : decode cX0_countWaysAt 0 = .ok (.aload_n 0, 1) := by decide +kernel
theorem dX0_countWaysAt_1 : decode cX0_countWaysAt 1 = .ok (.invokevirtual 71, 3) := by decide +kernel
theorem dX0_countWaysAt_4 : decode cX0_countWaysAt 4 = .ok (.istore_n 3, 1) := by decide +kernel
theorem dX0_countWaysAt_5 : decode cX0_countWaysAt 5 = .ok (.iconst 0, 1) := by decide +kernel
theorem dX0_countWaysAt_6 : decode cX0_countWaysAt 6 = .ok (.istore 4, 2) := by decide +kernel
theorem dX0_countWaysAt_8 : decode cX0_countWaysAt 8 = .ok (.iload 4, 2) := by decide +kernel
theorem dX0_countWaysAt_10 : decode cX0_countWaysAt 10 = .ok (.iload_n 2, 1) := by decide +kernel
theorem dX0_countWaysAt_11 : decode cX0_countWaysAt 11 = .ok (.if_icmp .ge 18, 3) := by decide +kernel
theorem dX0_countWaysAt_14 : decode cX0_countWaysAt 14 = .ok (.aload_n 0, 1) := by decide +kernel
theorem dX0_countWaysAt_15 : decode cX0_countWaysAt 15 = .ok (.aload_n 1, 1) := by decide +kernel
theorem dX0_countWaysAt_16 : decode cX0_countWaysAt 16 = .ok (.iload 4, 2) := by decide +kernel
theorem dX0_countWaysAt_18 : decode cX0_countWaysAt 18 = .ok (.iload_n 3, 1) := by decide +kernel
theorem dX0_countWaysAt_19 : decode cX0_countWaysAt 19 = .ok (.invokevirtual 74, 3) := by decide +kernel
theorem dX0_countWaysAt_22 : decode cX0_countWaysAt 22 = .ok (.istore_n 3, 1) := by decide +kernel
theorem dX0_countWaysAt_23 : decode cX0_countWaysAt 23 = .ok (.iinc 4 1, 3) := by decide +kernel
theorem dX0_countWaysAt_26 : decode cX0_countWaysAt 26 = .ok (.goto (-18), 3) := by decide +kernel
theorem dX0_countWaysAt_29 : decode cX0_countWaysAt 29 = .ok (.iload_n 3, 1) := by decide +kernel
theorem dX0_countWaysAt_30 : decode cX0_countWaysAt 30 = .ok (.invokestatic 78, 3) := by decide +kernel
theorem dX0_countWaysAt_33 : decode cX0_countWaysAt 33 = .ok (.ireturn, 1) := by decide +kernel
set_option maxRecDepth 20000 in
theorem ggX0_leastWayAt_X0_firstMarks : GoodIn wsX0_leastWayAt wsX0_firstMarks := goodIn_r _ [7, 8, 9, 10, 11, 12, 6, 13, 1, 14, 15, 16, 17, 18, 45, 46, 47, 48, 49, 50] (by decide +kernel) (by decide +kernel)
set_option maxRecDepth 20000 in
theorem gX0_leastWayAt_X0_firstMarks : GoodIn wsX0_leastWayAt (wsV RX0 71 RX0 yX0_firstMarks wsX0_firstMarks) := goodIn_app (goodIn_of _ (by decide +kernel)) ggX0_leastWayAt_X0_firstMarks
set_option maxRecDepth 20000 in
theorem ggX0_leastWayAt_X0_lowestMark : GoodIn wsX0_leastWayAt wsX0_lowestMark := goodIn_r _ [21] (by decide +kernel) (by decide +kernel)
set_option maxRecDepth 20000 in
theorem gX0_leastWayAt_X0_lowestMark : GoodIn wsX0_leastWayAt (va_wsS RX0 84 yX0_lowestMark wsX0_lowestMark) := goodIn_app (goodIn_of _ (by decide +kernel)) ggX0_leastWayAt_X0_lowestMark
set_option maxRecDepth 20000 in
theorem ggX0_leastWayAt_X0_nextMarks : GoodIn wsX0_leastWayAt wsX0_nextMarks := goodIn_r _ [25, 1, 8, 2, 9, 26, 27, 28, 29, 30, 31, 32, 33, 34, 17, 35, 36, 37, 38, 39, 40, 41, 42, 43, 45, 46, 47, 48, 49, 50, 51, 52, 53, 54, 55] (by decide +kernel) (by decide +kernel)
set_option maxRecDepth 20000 in
theorem gX0_leastWayAt_X0_nextMarks : GoodIn wsX0_leastWayAt (wsV RX0 74 RX0 yX0_nextMarks wsX0_nextMarks) := goodIn_app (goodIn_of _ (by decide +kernel)) ggX0_leastWayAt_X0_nextMarks
set_option maxRecDepth 20000 in
theorem ggX0_leastWayAt_J6_bitCount_0f7a4 : GoodIn wsX0_leastWayAt wsJ6_bitCount_0f7a4 := goodIn_r _ [40, 41, 42, 43] (by decide +kernel) (by decide +kernel)
set_option maxRecDepth 20000 in
theorem gX0_leastWayAt_J6_bitCount_0f7a4 : GoodIn wsX0_leastWayAt (va_wsS RX0 78 yJ6_bitCount_0f7a4 wsJ6_bitCount_0f7a4) := goodIn_app (goodIn_of _ (by decide +kernel)) ggX0_leastWayAt_J6_bitCount_0f7a4
theorem dX0_leastWayAt_0 : decode cX0_leastWayAt 0 = .ok (.aload_n 0, 1) := by decide +kernel
theorem dX0_leastWayAt_1 : decode cX0_leastWayAt 1 = .ok (.invokevirtual 71, 3) := by decide +kernel
theorem dX0_leastWayAt_4 : decode cX0_leastWayAt 4 = .ok (.invokestatic 84, 3) := by decide +kernel
theorem dX0_leastWayAt_7 : decode cX0_leastWayAt 7 = .ok (.istore_n 3, 1) := by decide +kernel
theorem dX0_leastWayAt_8 : decode cX0_leastWayAt 8 = .ok (.iconst 0, 1) := by decide +kernel
theorem dX0_leastWayAt_9 : decode cX0_leastWayAt 9 = .ok (.istore 4, 2) := by decide +kernel
theorem dX0_leastWayAt_11 : decode cX0_leastWayAt 11 = .ok (.iload 4, 2) := by decide +kernel
theorem dX0_leastWayAt_13 : decode cX0_leastWayAt 13 = .ok (.iload_n 2, 1) := by decide +kernel
theorem dX0_leastWayAt_14 : decode cX0_leastWayAt 14 = .ok (.if_icmp .ge 21, 3) := by decide +kernel
theorem dX0_leastWayAt_17 : decode cX0_leastWayAt 17 = .ok (.aload_n 0, 1) := by decide +kernel
theorem dX0_leastWayAt_18 : decode cX0_leastWayAt 18 = .ok (.aload_n 1, 1) := by decide +kernel
theorem dX0_leastWayAt_19 : decode cX0_leastWayAt 19 = .ok (.iload 4, 2) := by decide +kernel
theorem dX0_leastWayAt_21 : decode cX0_leastWayAt 21 = .ok (.iload_n 3, 1) := by decide +kernel
theorem dX0_leastWayAt_22 : decode cX0_leastWayAt 22 = .ok (.invokevirtual 74, 3) := by decide +kernel
theorem dX0_leastWayAt_25 : decode cX0_leastWayAt 25 = .ok (.invokestatic 84, 3) := by decide +kernel
theorem dX0_leastWayAt_28 : decode cX0_leastWayAt 28 = .ok (.istore_n 3, 1) := by decide +kernel
theorem dX0_leastWayAt_29 : decode cX0_leastWayAt 29 = .ok (.iinc 4 1, 3) := by decide +kernel
theorem dX0_leastWayAt_32 : decode cX0_leastWayAt 32 = .ok (.goto (-21), 3) := by decide +kernel
theorem dX0_leastWayAt_35 : decode cX0_leastWayAt 35 = .ok (.iload_n 3, 1) := by decide +kernel
theorem dX0_leastWayAt_36 : decode cX0_leastWayAt 36 = .ok (.iconst 1, 1) := by decide +kernel
theorem dX0_leastWayAt_37 : decode cX0_leastWayAt 37 = .ok (.isub, 1) := by decide +kernel
theorem dX0_leastWayAt_38 : decode cX0_leastWayAt 38 = .ok (.invokestatic 78, 3) := by decide +kernel
theorem dX0_leastWayAt_41 : decode cX0_leastWayAt 41 = .ok (.istore 4, 2) := by decide +kernel
theorem dX0_leastWayAt_43 : decode cX0_leastWayAt 43 = .ok (.iload_n 3, 1) := by decide +kernel
theorem dX0_leastWayAt_44 : decode cX0_leastWayAt 44 = .ok (.ifCond .eq 26, 3) := by decide +kernel
theorem dX0_leastWayAt_47 : decode cX0_leastWayAt 47 = .ok (.iload_n 2, 1) := by decide +kernel
theorem dX0_leastWayAt_48 : decode cX0_leastWayAt 48 = .ok (.aload_n 0, 1) := by decide +kernel
theorem dX0_leastWayAt_49 : decode cX0_leastWayAt 49 = .ok (.getfield 9, 3) := by decide +kernel
theorem dX0_leastWayAt_52 : decode cX0_leastWayAt 52 = .ok (.if_icmp .ge 18, 3) := by decide +kernel
theorem dX0_leastWayAt_55 : decode cX0_leastWayAt 55 = .ok (.aload_n 0, 1) := by decide +kernel
theorem dX0_leastWayAt_56 : decode cX0_leastWayAt 56 = .ok (.getfield 19, 3) := by decide +kernel
theorem dX0_leastWayAt_59 : decode cX0_leastWayAt 59 = .ok (.bipush 8, 2) := by decide +kernel
theorem dX0_leastWayAt_61 : decode cX0_leastWayAt 61 = .ok (.iload_n 2, 1) := by decide +kernel
theorem dX0_leastWayAt_62 : decode cX0_leastWayAt 62 = .ok (.imul, 1) := by decide +kernel
theorem dX0_leastWayAt_63 : decode cX0_leastWayAt 63 = .ok (.iload 4, 2) := by decide +kernel
theorem dX0_leastWayAt_65 : decode cX0_leastWayAt 65 = .ok (.iadd, 1) := by decide +kernel
theorem dX0_leastWayAt_66 : decode cX0_leastWayAt 66 = .ok (.iaload, 1) := by decide +kernel
theorem dX0_leastWayAt_67 : decode cX0_leastWayAt 67 = .ok (.goto 5, 3) := by decide +kernel
theorem dX0_leastWayAt_70 : decode cX0_leastWayAt 70 = .ok (.bipush (-6), 2) := by decide +kernel
theorem dX0_leastWayAt_72 : decode cX0_leastWayAt 72 = .ok (.ireturn, 1) := by decide +kernel
theorem dX0_lowestMark_0 : decode cX0_lowestMark 0 = .ok (.iload_n 0, 1) := by decide +kernel
theorem dX0_lowestMark_1 : decode cX0_lowestMark 1 = .ok (.iload_n 0, 1) := by decide +kernel
theorem dX0_lowestMark_2 : decode cX0_lowestMark 2 = .ok (.ineg, 1) := by decide +kernel
theorem dX0_lowestMark_3 : decode cX0_lowestMark 3 = .ok (.iand, 1) := by decide +kernel
theorem dX0_lowestMark_4 : decode cX0_lowestMark 4 = .ok (.ireturn, 1) := by decide +kernel
set_option maxRecDepth 20000 in
theorem ggX0_firstMarks_X0_leastCost : GoodIn wsX0_firstMarks wsX0_leastCost := goodIn_r _ [7, 8, 9, 1, 2, 10, 11, 12, 13, 14, 15, 16, 17, 18, 19] (by decide +kernel) (by decide +kernel)
set_option maxRecDepth 20000 in
theorem gX0_firstMarks_X0_leastCost : GoodIn wsX0_firstMarks (wsV RX0 67 RX0 yX0_leastCost wsX0_leastCost) := goodIn_app (goodIn_of _ (by decide +kernel)) ggX0_firstMarks_X0_leastCost
theorem dX0_firstMarks_0 : decode cX0_firstMarks 0 = .ok (.aload_n 0, 1) := by decide +kernel
theorem dX0_firstMarks_1 : decode cX0_firstMarks 1 = .ok (.invokevirtual 67, 3) := by decide +kernel
theorem dX0_firstMarks_4 : decode cX0_firstMarks 4 = .ok (.istore_n 1, 1) := by decide +kernel
theorem dX0_firstMarks_5 : decode cX0_firstMarks 5 = .ok (.iconst 0, 1) := by decide +kernel
theorem dX0_firstMarks_6 : decode cX0_firstMarks 6 = .ok (.istore_n 2, 1) := by decide +kernel
theorem dX0_firstMarks_7 : decode cX0_firstMarks 7 = .ok (.iconst 0, 1) := by decide +kernel
theorem dX0_firstMarks_8 : decode cX0_firstMarks 8 = .ok (.istore_n 3, 1) := by decide +kernel
theorem dX0_firstMarks_9 : decode cX0_firstMarks 9 = .ok (.iload_n 3, 1) := by decide +kernel
theorem dX0_firstMarks_10 : decode cX0_firstMarks 10 = .ok (.aload_n 0, 1) := by decide +kernel
theorem dX0_firstMarks_11 : decode cX0_firstMarks 11 = .ok (.getfield 15, 3) := by decide +kernel
theorem dX0_firstMarks_14 : decode cX0_firstMarks 14 = .ok (.iconst 0, 1) := by decide +kernel
theorem dX0_firstMarks_15 : decode cX0_firstMarks 15 = .ok (.iaload, 1) := by decide +kernel
theorem dX0_firstMarks_16 : decode cX0_firstMarks 16 = .ok (.if_icmp .ge 25, 3) := by decide +kernel
theorem dX0_firstMarks_19 : decode cX0_firstMarks 19 = .ok (.aload_n 0, 1) := by decide +kernel
theorem dX0_firstMarks_20 : decode cX0_firstMarks 20 = .ok (.getfield 25, 3) := by decide +kernel
theorem dX0_firstMarks_23 : decode cX0_firstMarks 23 = .ok (.iload_n 3, 1) := by decide +kernel
theorem dX0_firstMarks_24 : decode cX0_firstMarks 24 = .ok (.iaload, 1) := by decide +kernel
theorem dX0_firstMarks_25 : decode cX0_firstMarks 25 = .ok (.iload_n 1, 1) := by decide +kernel
theorem dX0_firstMarks_26 : decode cX0_firstMarks 26 = .ok (.if_icmp .ne 9, 3) := by decide +kernel
theorem dX0_firstMarks_29 : decode cX0_firstMarks 29 = .ok (.iload_n 2, 1) := by decide +kernel
theorem dX0_firstMarks_30 : decode cX0_firstMarks 30 = .ok (.iconst 1, 1) := by decide +kernel
theorem dX0_firstMarks_31 : decode cX0_firstMarks 31 = .ok (.iload_n 3, 1) := by decide +kernel
theorem dX0_firstMarks_32 : decode cX0_firstMarks 32 = .ok (.ishl, 1) := by decide +kernel
theorem dX0_firstMarks_33 : decode cX0_firstMarks 33 = .ok (.ior, 1) := by decide +kernel
theorem dX0_firstMarks_34 : decode cX0_firstMarks 34 = .ok (.istore_n 2, 1) := by decide +kernel
theorem dX0_firstMarks_35 : decode cX0_firstMarks 35 = .ok (.iinc 3 1, 3) := by decide +kernel
theorem dX0_firstMarks_38 : decode cX0_firstMarks 38 = .ok (.goto (-29), 3) := by decide +kernel
theorem dX0_firstMarks_41 : decode cX0_firstMarks 41 = .ok (.iload_n 2, 1) := by decide +kernel
theorem dX0_firstMarks_42 : decode cX0_firstMarks 42 = .ok (.ireturn, 1) := by decide +kernel
set_option maxRecDepth 20000 in
theorem ggX0_nextMarks_X1_motion : GoodIn wsX0_nextMarks wsX1_motion := goodIn_r _ [10, 11, 12, 13, 14, 15, 16, 17, 18, 19, 20, 21, 22, 23, 30, 31, 32, 33, 34] (by decide +kernel) (by decide +kernel)
set_option maxRecDepth 20000 in
theorem gX0_nextMarks_X1_motion : GoodIn wsX0_nextMarks (wsV RX0 47 RX1 yX1_motion wsX1_motion) := goodIn_app (goodIn_of _ (by decide +kernel)) ggX0_nextMarks_X1_motion
theorem dX0_nextMarks_0 : decode cX0_nextMarks 0 = .ok (.iconst 0, 1) := by decide +kernel
theorem dX0_nextMarks_1 : decode cX0_nextMarks 1 = .ok (.istore 4, 2) := by decide +kernel
theorem dX0_nextMarks_3 : decode cX0_nextMarks 3 = .ok (.iload_n 2, 1) := by decide +kernel
theorem dX0_nextMarks_4 : decode cX0_nextMarks 4 = .ok (.iconst 1, 1) := by decide +kernel
theorem dX0_nextMarks_5 : decode cX0_nextMarks 5 = .ok (.iadd, 1) := by decide +kernel
theorem dX0_nextMarks_6 : decode cX0_nextMarks 6 = .ok (.aload_n 0, 1) := by decide +kernel
theorem dX0_nextMarks_7 : decode cX0_nextMarks 7 = .ok (.getfield 9, 3) := by decide +kernel
theorem dX0_nextMarks_10 : decode cX0_nextMarks 10 = .ok (.if_icmp .lt 6, 3) := by decide +kernel
theorem dX0_nextMarks_13 : decode cX0_nextMarks 13 = .ok (.iload 4, 2) := by decide +kernel
theorem dX0_nextMarks_15 : decode cX0_nextMarks 15 = .ok (.ireturn, 1) := by decide +kernel
theorem dX0_nextMarks_16 : decode cX0_nextMarks 16 = .ok (.iconst 0, 1) := by decide +kernel
theorem dX0_nextMarks_17 : decode cX0_nextMarks 17 = .ok (.istore 5, 2) := by decide +kernel
theorem dX0_nextMarks_19 : decode cX0_nextMarks 19 = .ok (.iload 5, 2) := by decide +kernel
theorem dX0_nextMarks_21 : decode cX0_nextMarks 21 = .ok (.aload_n 0, 1) := by decide +kernel
theorem dX0_nextMarks_22 : decode cX0_nextMarks 22 = .ok (.getfield 15, 3) := by decide +kernel
theorem dX0_nextMarks_25 : decode cX0_nextMarks 25 = .ok (.iload_n 2, 1) := by decide +kernel
theorem dX0_nextMarks_26 : decode cX0_nextMarks 26 = .ok (.iaload, 1) := by decide +kernel
theorem dX0_nextMarks_27 : decode cX0_nextMarks 27 = .ok (.if_icmp .ge 110, 3) := by decide +kernel
theorem dX0_nextMarks_30 : decode cX0_nextMarks 30 = .ok (.iconst 0, 1) := by decide +kernel
theorem dX0_nextMarks_31 : decode cX0_nextMarks 31 = .ok (.istore 6, 2) := by decide +kernel
theorem dX0_nextMarks_33 : decode cX0_nextMarks 33 = .ok (.iload 6, 2) := by decide +kernel
theorem dX0_nextMarks_35 : decode cX0_nextMarks 35 = .ok (.aload_n 0, 1) := by decide +kernel
theorem dX0_nextMarks_36 : decode cX0_nextMarks 36 = .ok (.getfield 15, 3) := by decide +kernel
theorem dX0_nextMarks_39 : decode cX0_nextMarks 39 = .ok (.iload_n 2, 1) := by decide +kernel
theorem dX0_nextMarks_40 : decode cX0_nextMarks 40 = .ok (.iconst 1, 1) := by decide +kernel
theorem dX0_nextMarks_41 : decode cX0_nextMarks 41 = .ok (.iadd, 1) := by decide +kernel
theorem dX0_nextMarks_42 : decode cX0_nextMarks 42 = .ok (.iaload, 1) := by decide +kernel
theorem dX0_nextMarks_43 : decode cX0_nextMarks 43 = .ok (.if_icmp .ge 88, 3) := by decide +kernel
theorem dX0_nextMarks_46 : decode cX0_nextMarks 46 = .ok (.bipush 8, 2) := by decide +kernel
theorem dX0_nextMarks_48 : decode cX0_nextMarks 48 = .ok (.iload_n 2, 1) := by decide +kernel
theorem dX0_nextMarks_49 : decode cX0_nextMarks 49 = .ok (.imul, 1) := by decide +kernel
theorem dX0_nextMarks_50 : decode cX0_nextMarks 50 = .ok (.iload 5, 2) := by decide +kernel
theorem dX0_nextMarks_52 : decode cX0_nextMarks 52 = .ok (.iadd, 1) := by decide +kernel
theorem dX0_nextMarks_53 : decode cX0_nextMarks 53 = .ok (.istore 7, 2) := by decide +kernel
theorem dX0_nextMarks_55 : decode cX0_nextMarks 55 = .ok (.bipush 8, 2) := by decide +kernel
theorem dX0_nextMarks_57 : decode cX0_nextMarks 57 = .ok (.iload_n 2, 1) := by decide +kernel
theorem dX0_nextMarks_58 : decode cX0_nextMarks 58 = .ok (.iconst 1, 1) := by decide +kernel
theorem dX0_nextMarks_59 : decode cX0_nextMarks 59 = .ok (.iadd, 1) := by decide +kernel
theorem dX0_nextMarks_60 : decode cX0_nextMarks 60 = .ok (.imul, 1) := by decide +kernel
theorem dX0_nextMarks_61 : decode cX0_nextMarks 61 = .ok (.iload 6, 2) := by decide +kernel
theorem dX0_nextMarks_63 : decode cX0_nextMarks 63 = .ok (.iadd, 1) := by decide +kernel
theorem dX0_nextMarks_64 : decode cX0_nextMarks 64 = .ok (.istore 8, 2) := by decide +kernel
theorem dX0_nextMarks_66 : decode cX0_nextMarks 66 = .ok (.aload_n 1, 1) := by decide +kernel
theorem dX0_nextMarks_67 : decode cX0_nextMarks 67 = .ok (.aload_n 0, 1) := by decide +kernel
theorem dX0_nextMarks_68 : decode cX0_nextMarks 68 = .ok (.getfield 19, 3) := by decide +kernel
theorem dX0_nextMarks_71 : decode cX0_nextMarks 71 = .ok (.iload 7, 2) := by decide +kernel
theorem dX0_nextMarks_73 : decode cX0_nextMarks 73 = .ok (.iaload, 1) := by decide +kernel
theorem dX0_nextMarks_74 : decode cX0_nextMarks 74 = .ok (.aload_n 0, 1) := by decide +kernel
theorem dX0_nextMarks_75 : decode cX0_nextMarks 75 = .ok (.getfield 19, 3) := by decide +kernel
theorem dX0_nextMarks_78 : decode cX0_nextMarks 78 = .ok (.iload 8, 2) := by decide +kernel
theorem dX0_nextMarks_80 : decode cX0_nextMarks 80 = .ok (.iaload, 1) := by decide +kernel
theorem dX0_nextMarks_81 : decode cX0_nextMarks 81 = .ok (.invokevirtual 47, 3) := by decide +kernel
theorem dX0_nextMarks_84 : decode cX0_nextMarks 84 = .ok (.aload_n 0, 1) := by decide +kernel
theorem dX0_nextMarks_85 : decode cX0_nextMarks 85 = .ok (.getfield 25, 3) := by decide +kernel
theorem dX0_nextMarks_88 : decode cX0_nextMarks 88 = .ok (.iload 8, 2) := by decide +kernel
theorem dX0_nextMarks_90 : decode cX0_nextMarks 90 = .ok (.iaload, 1) := by decide +kernel
theorem dX0_nextMarks_91 : decode cX0_nextMarks 91 = .ok (.iadd, 1) := by decide +kernel
theorem dX0_nextMarks_92 : decode cX0_nextMarks 92 = .ok (.istore 9, 2) := by decide +kernel
theorem dX0_nextMarks_94 : decode cX0_nextMarks 94 = .ok (.iload_n 3, 1) := by decide +kernel
theorem dX0_nextMarks_95 : decode cX0_nextMarks 95 = .ok (.iload 5, 2) := by decide +kernel
theorem dX0_nextMarks_97 : decode cX0_nextMarks 97 = .ok (.ishr, 1) := by decide +kernel
theorem dX0_nextMarks_98 : decode cX0_nextMarks 98 = .ok (.iconst 1, 1) := by decide +kernel
theorem dX0_nextMarks_99 : decode cX0_nextMarks 99 = .ok (.iand, 1) := by decide +kernel
theorem dX0_nextMarks_100 : decode cX0_nextMarks 100 = .ok (.iconst 1, 1) := by decide +kernel
theorem dX0_nextMarks_101 : decode cX0_nextMarks 101 = .ok (.if_icmp .ne 24, 3) := by decide +kernel
theorem dX0_nextMarks_104 : decode cX0_nextMarks 104 = .ok (.iload 9, 2) := by decide +kernel
theorem dX0_nextMarks_106 : decode cX0_nextMarks 106 = .ok (.aload_n 0, 1) := by decide +kernel
theorem dX0_nextMarks_107 : decode cX0_nextMarks 107 = .ok (.getfield 22, 3) := by decide +kernel
theorem dX0_nextMarks_110 : decode cX0_nextMarks 110 = .ok (.iload 7, 2) := by decide +kernel
theorem dX0_nextMarks_112 : decode cX0_nextMarks 112 = .ok (.iaload, 1) := by decide +kernel
theorem dX0_nextMarks_113 : decode cX0_nextMarks 113 = .ok (.if_icmp .ne 12, 3) := by decide +kernel
theorem dX0_nextMarks_116 : decode cX0_nextMarks 116 = .ok (.iload 4, 2) := by decide +kernel
theorem dX0_nextMarks_118 : decode cX0_nextMarks 118 = .ok (.iconst 1, 1) := by decide +kernel
theorem dX0_nextMarks_119 : decode cX0_nextMarks 119 = .ok (.iload 6, 2) := by decide +kernel
theorem dX0_nextMarks_121 : decode cX0_nextMarks 121 = .ok (.ishl, 1) := by decide +kernel
theorem dX0_nextMarks_122 : decode cX0_nextMarks 122 = .ok (.ior, 1) := by decide +kernel
theorem dX0_nextMarks_123 : decode cX0_nextMarks 123 = .ok (.istore 4, 2) := by decide +kernel
theorem dX0_nextMarks_125 : decode cX0_nextMarks 125 = .ok (.iinc 6 1, 3) := by decide +kernel
theorem dX0_nextMarks_128 : decode cX0_nextMarks 128 = .ok (.goto (-95), 3) := by decide +kernel
theorem dX0_nextMarks_131 : decode cX0_nextMarks 131 = .ok (.iinc 5 1, 3) := by decide +kernel
theorem dX0_nextMarks_134 : decode cX0_nextMarks 134 = .ok (.goto (-115), 3) := by decide +kernel
theorem dX0_nextMarks_137 : decode cX0_nextMarks 137 = .ok (.iload 4, 2) := by decide +kernel
theorem dX0_nextMarks_139 : decode cX0_nextMarks 139 = .ok (.ireturn, 1) := by decide +kernel
theorem dX1_init_0 : decode cX1_init 0 = .ok (.aload_n 0, 1) := by decide +kernel
theorem dX1_init_1 : decode cX1_init 1 = .ok (.invokespecial 3, 3) := by decide +kernel
theorem dX1_init_4 : decode cX1_init 4 = .ok (.aload_n 0, 1) := by decide +kernel
theorem dX1_init_5 : decode cX1_init 5 = .ok (.iconst 0, 1) := by decide +kernel
theorem dX1_init_6 : decode cX1_init 6 = .ok (.putfield 9, 3) := by decide +kernel
theorem dX1_init_9 : decode cX1_init 9 = .ok (.aload_n 0, 1) := by decide +kernel
theorem dX1_init_10 : decode cX1_init 10 = .ok (.iconst 3, 1) := by decide +kernel
theorem dX1_init_11 : decode cX1_init 11 = .ok (.newarray .int, 2) := by decide +kernel
theorem dX1_init_13 : decode cX1_init 13 = .ok (.dup, 1) := by decide +kernel
theorem dX1_init_14 : decode cX1_init 14 = .ok (.iconst 0, 1) := by decide +kernel
theorem dX1_init_15 : decode cX1_init 15 = .ok (.sipush 200, 3) := by decide +kernel
theorem dX1_init_18 : decode cX1_init 18 = .ok (.iastore, 1) := by decide +kernel
theorem dX1_init_19 : decode cX1_init 19 = .ok (.dup, 1) := by decide +kernel
theorem dX1_init_20 : decode cX1_init 20 = .ok (.iconst 1, 1) := by decide +kernel
theorem dX1_init_21 : decode cX1_init 21 = .ok (.bipush 100, 2) := by decide +kernel
theorem dX1_init_23 : decode cX1_init 23 = .ok (.iastore, 1) := by decide +kernel
theorem dX1_init_24 : decode cX1_init 24 = .ok (.dup, 1) := by decide +kernel
theorem dX1_init_25 : decode cX1_init 25 = .ok (.iconst 2, 1) := by decide +kernel
theorem dX1_init_26 : decode cX1_init 26 = .ok (.sipush 300, 3) := by decide +kernel
theorem dX1_init_29 : decode cX1_init 29 = .ok (.iastore, 1) := by decide +kernel
theorem dX1_init_30 : decode cX1_init 30 = .ok (.putfield 15, 3) := by decide +kernel
theorem dX1_init_33 : decode cX1_init 33 = .ok (.aload_n 0, 1) := by decide +kernel
theorem dX1_init_34 : decode cX1_init 34 = .ok (.iconst 5, 1) := by decide +kernel
theorem dX1_init_35 : decode cX1_init 35 = .ok (.newarray .int, 2) := by decide +kernel
theorem dX1_init_37 : decode cX1_init 37 = .ok (.dup, 1) := by decide +kernel
theorem dX1_init_38 : decode cX1_init 38 = .ok (.iconst 0, 1) := by decide +kernel
theorem dX1_init_39 : decode cX1_init 39 = .ok (.bipush 10, 2) := by decide +kernel
theorem dX1_init_41 : decode cX1_init 41 = .ok (.iastore, 1) := by decide +kernel
theorem dX1_init_42 : decode cX1_init 42 = .ok (.dup, 1) := by decide +kernel
theorem dX1_init_43 : decode cX1_init 43 = .ok (.iconst 1, 1) := by decide +kernel
theorem dX1_init_44 : decode cX1_init 44 = .ok (.bipush 35, 2) := by decide +kernel
theorem dX1_init_46 : decode cX1_init 46 = .ok (.iastore, 1) := by decide +kernel
theorem dX1_init_47 : decode cX1_init 47 = .ok (.dup, 1) := by decide +kernel
theorem dX1_init_48 : decode cX1_init 48 = .ok (.iconst 2, 1) := by decide +kernel
theorem dX1_init_49 : decode cX1_init 49 = .ok (.iconst 2, 1) := by decide +kernel
theorem dX1_init_50 : decode cX1_init 50 = .ok (.iastore, 1) := by decide +kernel
theorem dX1_init_51 : decode cX1_init 51 = .ok (.dup, 1) := by decide +kernel
theorem dX1_init_52 : decode cX1_init 52 = .ok (.iconst 3, 1) := by decide +kernel
theorem dX1_init_53 : decode cX1_init 53 = .ok (.iconst 1, 1) := by decide +kernel
theorem dX1_init_54 : decode cX1_init 54 = .ok (.iastore, 1) := by decide +kernel
theorem dX1_init_55 : decode cX1_init 55 = .ok (.dup, 1) := by decide +kernel
theorem dX1_init_56 : decode cX1_init 56 = .ok (.iconst 4, 1) := by decide +kernel
theorem dX1_init_57 : decode cX1_init 57 = .ok (.iconst 1, 1) := by decide +kernel
theorem dX1_init_58 : decode cX1_init 58 = .ok (.iastore, 1) := by decide +kernel
theorem dX1_init_59 : decode cX1_init 59 = .ok (.putfield 19, 3) := by decide +kernel
theorem dX1_init_62 : decode cX1_init 62 = .ok (.aload_n 0, 1) := by decide +kernel
theorem dX1_init_63 : decode cX1_init 63 = .ok (.bipush 12, 2) := by decide +kernel
theorem dX1_init_65 : decode cX1_init 65 = .ok (.newarray .int, 2) := by decide +kernel
theorem dX1_init_67 : decode cX1_init 67 = .ok (.putfield 22, 3) := by decide +kernel
theorem dX1_init_70 : decode cX1_init 70 = .ok (.aload_n 0, 1) := by decide +kernel
theorem dX1_init_71 : decode cX1_init 71 = .ok (.iconst 0, 1) := by decide +kernel
theorem dX1_init_72 : decode cX1_init 72 = .ok (.putfield 25, 3) := by decide +kernel
theorem dX1_init_75 : decode cX1_init 75 = .ok (.return_, 1) := by decide +kernel
theorem dX1_takeFrom_0 : decode cX1_takeFrom 0 = .ok (.aload_n 0, 1) := by decide +kernel
theorem dX1_takeFrom_1 : decode cX1_takeFrom 1 = .ok (.aload_n 1, 1) := by decide +kernel
theorem dX1_takeFrom_2 : decode cX1_takeFrom 2 = .ok (.getfield 9, 3) := by decide +kernel
theorem dX1_takeFrom_5 : decode cX1_takeFrom 5 = .ok (.putfield 9, 3) := by decide +kernel
theorem dX1_takeFrom_8 : decode cX1_takeFrom 8 = .ok (.aload_n 0, 1) := by decide +kernel
theorem dX1_takeFrom_9 : decode cX1_takeFrom 9 = .ok (.aload_n 1, 1) := by decide +kernel
theorem dX1_takeFrom_10 : decode cX1_takeFrom 10 = .ok (.getfield 25, 3) := by decide +kernel
theorem dX1_takeFrom_13 : decode cX1_takeFrom 13 = .ok (.putfield 25, 3) := by decide +kernel
theorem dX1_takeFrom_16 : decode cX1_takeFrom 16 = .ok (.aload_n 1, 1) := by decide +kernel
theorem dX1_takeFrom_17 : decode cX1_takeFrom 17 = .ok (.getfield 15, 3) := by decide +kernel
theorem dX1_takeFrom_20 : decode cX1_takeFrom 20 = .ok (.iconst 0, 1) := by decide +kernel
theorem dX1_takeFrom_21 : decode cX1_takeFrom 21 = .ok (.aload_n 0, 1) := by decide +kernel
theorem dX1_takeFrom_22 : decode cX1_takeFrom 22 = .ok (.getfield 15, 3) := by decide +kernel
theorem dX1_takeFrom_25 : decode cX1_takeFrom 25 = .ok (.iconst 0, 1) := by decide +kernel
theorem dX1_takeFrom_26 : decode cX1_takeFrom 26 = .ok (.iconst 3, 1) := by decide +kernel
theorem dX1_takeFrom_27 : decode cX1_takeFrom 27 = .ok (.invokestatic 28, 3) := by decide +kernel
theorem dX1_takeFrom_30 : decode cX1_takeFrom 30 = .ok (.aload_n 1, 1) := by decide +kernel
theorem dX1_takeFrom_31 : decode cX1_takeFrom 31 = .ok (.getfield 19, 3) := by decide +kernel
theorem dX1_takeFrom_34 : decode cX1_takeFrom 34 = .ok (.iconst 0, 1) := by decide +kernel
theorem dX1_takeFrom_35 : decode cX1_takeFrom 35 = .ok (.aload_n 0, 1) := by decide +kernel
theorem dX1_takeFrom_36 : decode cX1_takeFrom 36 = .ok (.getfield 19, 3) := by decide +kernel
theorem dX1_takeFrom_39 : decode cX1_takeFrom 39 = .ok (.iconst 0, 1) := by decide +kernel
theorem dX1_takeFrom_40 : decode cX1_takeFrom 40 = .ok (.iconst 5, 1) := by decide +kernel
theorem dX1_takeFrom_41 : decode cX1_takeFrom 41 = .ok (.invokestatic 28, 3) := by decide +kernel
theorem dX1_takeFrom_44 : decode cX1_takeFrom 44 = .ok (.aload_n 1, 1) := by decide +kernel
theorem dX1_takeFrom_45 : decode cX1_takeFrom 45 = .ok (.getfield 22, 3) := by decide +kernel
theorem dX1_takeFrom_48 : decode cX1_takeFrom 48 = .ok (.iconst 0, 1) := by decide +kernel
theorem dX1_takeFrom_49 : decode cX1_takeFrom 49 = .ok (.aload_n 0, 1) := by decide +kernel
theorem dX1_takeFrom_50 : decode cX1_takeFrom 50 = .ok (.getfield 22, 3) := by decide +kernel
theorem dX1_takeFrom_53 : decode cX1_takeFrom 53 = .ok (.iconst 0, 1) := by decide +kernel
theorem dX1_takeFrom_54 : decode cX1_takeFrom 54 = .ok (.bipush 12, 2) := by decide +kernel
theorem dX1_takeFrom_56 : decode cX1_takeFrom 56 = .ok (.invokestatic 28, 3) := by decide +kernel
theorem dX1_takeFrom_59 : decode cX1_takeFrom 59 = .ok (.return_, 1) := by decide +kernel
theorem dX1_hasSetting_0 : decode cX1_hasSetting 0 = .ok (.iload_n 1, 1) := by decide +kernel
theorem dX1_hasSetting_1 : decode cX1_hasSetting 1 = .ok (.ifCond .lt 26, 3) := by decide +kernel
theorem dX1_hasSetting_4 : decode cX1_hasSetting 4 = .ok (.iload_n 1, 1) := by decide +kernel
theorem dX1_hasSetting_5 : decode cX1_hasSetting 5 = .ok (.aload_n 0, 1) := by decide +kernel
theorem dX1_hasSetting_6 : decode cX1_hasSetting 6 = .ok (.getfield 9, 3) := by decide +kernel
theorem dX1_hasSetting_9 : decode cX1_hasSetting 9 = .ok (.iconst 1, 1) := by decide +kernel
theorem dX1_hasSetting_10 : decode cX1_hasSetting 10 = .ok (.if_icmp .ne 8, 3) := by decide +kernel
theorem dX1_hasSetting_13 : decode cX1_hasSetting 13 = .ok (.bipush 7, 2) := by decide +kernel
theorem dX1_hasSetting_15 : decode cX1_hasSetting 15 = .ok (.goto 5, 3) := by decide +kernel
theorem dX1_hasSetting_18 : decode cX1_hasSetting 18 = .ok (.bipush 8, 2) := by decide +kernel
theorem dX1_hasSetting_20 : decode cX1_hasSetting 20 = .ok (.if_icmp .ge 7, 3) := by decide +kernel
theorem dX1_hasSetting_23 : decode cX1_hasSetting 23 = .ok (.iconst 1, 1) := by decide +kernel
theorem dX1_hasSetting_24 : decode cX1_hasSetting 24 = .ok (.goto 4, 3) := by decide +kernel
theorem dX1_hasSetting_27 : decode cX1_hasSetting 27 = .ok (.iconst 0, 1) := by decide +kernel
theorem dX1_hasSetting_28 : decode cX1_hasSetting 28 = .ok (.ireturn, 1) := by decide +kernel
set_option maxRecDepth 20000 in
theorem ggX1_hasWay_X1_hasSetting : GoodIn wsX1_hasWay wsX1_hasSetting := goodIn_r _ [5, 6, 7, 8, 9, 10, 11] (by decide +kernel) (by decide +kernel)
set_option maxRecDepth 20000 in
theorem gX1_hasWay_X1_hasSetting : GoodIn wsX1_hasWay (wsV RX1 34 RX1 yX1_hasSetting wsX1_hasSetting) := goodIn_app (goodIn_of _ (by decide +kernel)) ggX1_hasWay_X1_hasSetting
theorem dX1_hasWay_0 : decode cX1_hasWay 0 = .ok (.iload_n 1, 1) := by decide +kernel
theorem dX1_hasWay_1 : decode cX1_hasWay 1 = .ok (.ifCond .lt 24, 3) := by decide +kernel
theorem dX1_hasWay_4 : decode cX1_hasWay 4 = .ok (.iload_n 1, 1) := by decide +kernel
theorem dX1_hasWay_5 : decode cX1_hasWay 5 = .ok (.bipush 64, 2) := by decide +kernel
theorem dX1_hasWay_7 : decode cX1_hasWay 7 = .ok (.if_icmp .ge 18, 3) := by decide +kernel
theorem dX1_hasWay_10 : decode cX1_hasWay 10 = .ok (.aload_n 0, 1) := by decide +kernel
theorem dX1_hasWay_11 : decode cX1_hasWay 11 = .ok (.iload_n 1, 1) := by decide +kernel
theorem dX1_hasWay_12 : decode cX1_hasWay 12 = .ok (.bipush 8, 2) := by decide +kernel
theorem dX1_hasWay_14 : decode cX1_hasWay 14 = .ok (.irem, 1) := by decide +kernel
theorem dX1_hasWay_15 : decode cX1_hasWay 15 = .ok (.invokevirtual 34, 3) := by decide +kernel
theorem dX1_hasWay_18 : decode cX1_hasWay 18 = .ok (.ifCond .eq 7, 3) := by decide +kernel
theorem dX1_hasWay_21 : decode cX1_hasWay 21 = .ok (.iconst 1, 1) := by decide +kernel
theorem dX1_hasWay_22 : decode cX1_hasWay 22 = .ok (.goto 4, 3) := by decide +kernel
theorem dX1_hasWay_25 : decode cX1_hasWay 25 = .ok (.iconst 0, 1) := by decide +kernel
theorem dX1_hasWay_26 : decode cX1_hasWay 26 = .ok (.ireturn, 1) := by decide +kernel
set_option maxRecDepth 20000 in
theorem ggX1_dropOf_X2_valveDrop : GoodIn wsX1_dropOf wsX2_valveDrop := goodIn_r _ [6] (by decide +kernel) (by decide +kernel)
set_option maxRecDepth 20000 in
theorem gX1_dropOf_X2_valveDrop_n38 : GoodIn wsX1_dropOf (wsX2_valveDrop) := ggX1_dropOf_X2_valveDrop
theorem dX1_dropOf_0 : decode cX1_dropOf 0 = .ok (.aload_n 0, 1) := by decide +kernel
theorem dX1_dropOf_1 : decode cX1_dropOf 1 = .ok (.getfield 9, 3) := by decide +kernel
theorem dX1_dropOf_4 : decode cX1_dropOf 4 = .ok (.iconst 1, 1) := by decide +kernel
theorem dX1_dropOf_5 : decode cX1_dropOf 5 = .ok (.if_icmp .ne 10, 3) := by decide +kernel
theorem dX1_dropOf_8 : decode cX1_dropOf 8 = .ok (.bipush 100, 2) := by decide +kernel
theorem dX1_dropOf_10 : decode cX1_dropOf 10 = .ok (.iload_n 1, 1) := by decide +kernel
theorem dX1_dropOf_11 : decode cX1_dropOf 11 = .ok (.imul, 1) := by decide +kernel
theorem dX1_dropOf_12 : decode cX1_dropOf 12 = .ok (.goto 17, 3) := by decide +kernel
theorem dX1_dropOf_15 : decode cX1_dropOf 15 = .ok (.iload_n 1, 1) := by decide +kernel
theorem dX1_dropOf_16 : decode cX1_dropOf 16 = .ok (.aload_n 0, 1) := by decide +kernel
theorem dX1_dropOf_17 : decode cX1_dropOf 17 = .ok (.getfield 15, 3) := by decide +kernel
theorem dX1_dropOf_20 : decode cX1_dropOf 20 = .ok (.aload_n 0, 1) := by decide +kernel
theorem dX1_dropOf_21 : decode cX1_dropOf 21 = .ok (.getfield 19, 3) := by decide +kernel
theorem dX1_dropOf_24 : decode cX1_dropOf 24 = .ok (.iconst 0, 1) := by decide +kernel
theorem dX1_dropOf_25 : decode cX1_dropOf 25 = .ok (.iaload, 1) := by decide +kernel
theorem dX1_dropOf_26 : decode cX1_dropOf 26 = .ok (.invokestatic 38, 3) := by decide +kernel
theorem dX1_dropOf_29 : decode cX1_dropOf 29 = .ok (.ireturn, 1) := by decide +kernel
set_option maxRecDepth 20000 in
theorem ggX1_offBy_X1_dropOf : GoodIn wsX1_offBy wsX1_dropOf := goodIn_r _ [5, 6, 7, 8, 9, 10, 11, 12, 13, 14, 15, 16] (by decide +kernel) (by decide +kernel)
set_option maxRecDepth 20000 in
theorem gX1_offBy_X1_dropOf : GoodIn wsX1_offBy (wsV RX1 45 RX1 yX1_dropOf wsX1_dropOf) := goodIn_app (goodIn_of _ (by decide +kernel)) ggX1_offBy_X1_dropOf
theorem dX1_offBy_0 : decode cX1_offBy 0 = .ok (.getstatic 42, 3) := by decide +kernel
theorem dX1_offBy_3 : decode cX1_offBy 3 = .ok (.iload_n 1, 1) := by decide +kernel
theorem dX1_offBy_4 : decode cX1_offBy 4 = .ok (.bipush 8, 2) := by decide +kernel
theorem dX1_offBy_6 : decode cX1_offBy 6 = .ok (.idiv, 1) := by decide +kernel
theorem dX1_offBy_7 : decode cX1_offBy 7 = .ok (.iaload, 1) := by decide +kernel
theorem dX1_offBy_8 : decode cX1_offBy 8 = .ok (.aload_n 0, 1) := by decide +kernel
theorem dX1_offBy_9 : decode cX1_offBy 9 = .ok (.iload_n 1, 1) := by decide +kernel
theorem dX1_offBy_10 : decode cX1_offBy 10 = .ok (.bipush 8, 2) := by decide +kernel
theorem dX1_offBy_12 : decode cX1_offBy 12 = .ok (.irem, 1) := by decide +kernel
theorem dX1_offBy_13 : decode cX1_offBy 13 = .ok (.invokevirtual 45, 3) := by decide +kernel
theorem dX1_offBy_16 : decode cX1_offBy 16 = .ok (.isub, 1) := by decide +kernel
theorem dX1_offBy_17 : decode cX1_offBy 17 = .ok (.bipush 100, 2) := by decide +kernel
theorem dX1_offBy_19 : decode cX1_offBy 19 = .ok (.iload_n 2, 1) := by decide +kernel
theorem dX1_offBy_20 : decode cX1_offBy 20 = .ok (.imul, 1) := by decide +kernel
theorem dX1_offBy_21 : decode cX1_offBy 21 = .ok (.isub, 1) := by decide +kernel
theorem dX1_offBy_22 : decode cX1_offBy 22 = .ok (.ireturn, 1) := by decide +kernel
set_option maxRecDepth 20000 in
theorem ggX1_gatherWays_X1_hasWay : GoodIn wsX1_gatherWays wsX1_hasWay := goodIn_r _ [10, 11, 12, 13, 9, 14, 15, 28, 29, 30, 31, 32] (by decide +kernel) (by decide +kernel)
set_option maxRecDepth 20000 in
theorem gX1_gatherWays_X1_hasWay : GoodIn wsX1_gatherWays (wsV RX1 49 RX1 yX1_hasWay wsX1_hasWay) := goodIn_app (goodIn_of _ (by decide +kernel)) ggX1_gatherWays_X1_hasWay
set_option maxRecDepth 20000 in
theorem ggX1_gatherWays_X1_offBy : GoodIn wsX1_gatherWays wsX1_offBy := goodIn_r _ [19, 20, 21, 22, 9, 23, 15, 24, 5, 25, 26, 27, 28, 29, 30, 31, 32] (by decide +kernel) (by decide +kernel)
set_option maxRecDepth 20000 in
theorem gX1_gatherWays_X1_offBy : GoodIn wsX1_gatherWays (wsV RX1 52 RX1 yX1_offBy wsX1_offBy) := goodIn_app (goodIn_of _ (by decide +kernel)) ggX1_gatherWays_X1_offBy
theorem dX1_gatherWays_0 : decode cX1_gatherWays 0 = .ok (.iconst 0, 1) := by decide +kernel
theorem dX1_gatherWays_1 : decode cX1_gatherWays 1 = .ok (.istore 4, 2) := by decide +kernel
theorem dX1_gatherWays_3 : decode cX1_gatherWays 3 = .ok (.iconst 0, 1) := by decide +kernel
theorem dX1_gatherWays_4 : decode cX1_gatherWays 4 = .ok (.istore 5, 2) := by decide +kernel
theorem dX1_gatherWays_6 : decode cX1_gatherWays 6 = .ok (.iload 5, 2) := by decide +kernel
theorem dX1_gatherWays_8 : decode cX1_gatherWays 8 = .ok (.bipush 64, 2) := by decide +kernel
theorem dX1_gatherWays_10 : decode cX1_gatherWays 10 = .ok (.if_icmp .ge 55, 3) := by decide +kernel
theorem dX1_gatherWays_13 : decode cX1_gatherWays 13 = .ok (.iload 4, 2) := by decide +kernel
theorem dX1_gatherWays_15 : decode cX1_gatherWays 15 = .ok (.bipush 8, 2) := by decide +kernel
theorem dX1_gatherWays_17 : decode cX1_gatherWays 17 = .ok (.if_icmp .ge 42, 3) := by decide +kernel
theorem dX1_gatherWays_20 : decode cX1_gatherWays 20 = .ok (.aload_n 0, 1) := by decide +kernel
theorem dX1_gatherWays_21 : decode cX1_gatherWays 21 = .ok (.iload 5, 2) := by decide +kernel
theorem dX1_gatherWays_23 : decode cX1_gatherWays 23 = .ok (.invokevirtual 49, 3) := by decide +kernel
theorem dX1_gatherWays_26 : decode cX1_gatherWays 26 = .ok (.ifCond .eq 33, 3) := by decide +kernel
theorem dX1_gatherWays_29 : decode cX1_gatherWays 29 = .ok (.aload_n 0, 1) := by decide +kernel
theorem dX1_gatherWays_30 : decode cX1_gatherWays 30 = .ok (.iload 5, 2) := by decide +kernel
theorem dX1_gatherWays_32 : decode cX1_gatherWays 32 = .ok (.iload_n 1, 1) := by decide +kernel
theorem dX1_gatherWays_33 : decode cX1_gatherWays 33 = .ok (.invokevirtual 52, 3) := by decide +kernel
theorem dX1_gatherWays_36 : decode cX1_gatherWays 36 = .ok (.invokestatic 56, 3) := by decide +kernel
theorem dX1_gatherWays_39 : decode cX1_gatherWays 39 = .ok (.aload_n 0, 1) := by decide +kernel
theorem dX1_gatherWays_40 : decode cX1_gatherWays 40 = .ok (.getfield 19, 3) := by decide +kernel
theorem dX1_gatherWays_43 : decode cX1_gatherWays 43 = .ok (.iconst 1, 1) := by decide +kernel
theorem dX1_gatherWays_44 : decode cX1_gatherWays 44 = .ok (.iaload, 1) := by decide +kernel
theorem dX1_gatherWays_45 : decode cX1_gatherWays 45 = .ok (.if_icmp .gt 14, 3) := by decide +kernel
theorem dX1_gatherWays_48 : decode cX1_gatherWays 48 = .ok (.aload_n 2, 1) := by decide +kernel
theorem dX1_gatherWays_49 : decode cX1_gatherWays 49 = .ok (.iload_n 3, 1) := by decide +kernel
theorem dX1_gatherWays_50 : decode cX1_gatherWays 50 = .ok (.iload 4, 2) := by decide +kernel
theorem dX1_gatherWays_52 : decode cX1_gatherWays 52 = .ok (.iadd, 1) := by decide +kernel
theorem dX1_gatherWays_53 : decode cX1_gatherWays 53 = .ok (.iload 5, 2) := by decide +kernel
theorem dX1_gatherWays_55 : decode cX1_gatherWays 55 = .ok (.iastore, 1) := by decide +kernel
theorem dX1_gatherWays_56 : decode cX1_gatherWays 56 = .ok (.iinc 4 1, 3) := by decide +kernel
theorem dX1_gatherWays_59 : decode cX1_gatherWays 59 = .ok (.iinc 5 1, 3) := by decide +kernel
theorem dX1_gatherWays_62 : decode cX1_gatherWays 62 = .ok (.goto (-56), 3) := by decide +kernel
theorem dX1_gatherWays_65 : decode cX1_gatherWays 65 = .ok (.iload 4, 2) := by decide +kernel
theorem dX1_gatherWays_67 : decode cX1_gatherWays 67 = .ok (.ireturn, 1) := by decide +kernel
set_option maxRecDepth 20000 in
theorem ggX1_motion_J6_bitCount_0f7a4 : GoodIn wsX1_motion wsJ6_bitCount_0f7a4 := goodIn_r _ [10, 11, 12, 13] (by decide +kernel) (by decide +kernel)
set_option maxRecDepth 20000 in
theorem gX1_motion_J6_bitCount_0f7a4 : GoodIn wsX1_motion (va_wsS RX1 61 yJ6_bitCount_0f7a4 wsJ6_bitCount_0f7a4) := goodIn_app (goodIn_of _ (by decide +kernel)) ggX1_motion_J6_bitCount_0f7a4
theorem dX1_motion_0 : decode cX1_motion 0 = .ok (.iload_n 1, 1) := by decide +kernel
theorem dX1_motion_1 : decode cX1_motion 1 = .ok (.bipush 8, 2) := by decide +kernel
theorem dX1_motion_3 : decode cX1_motion 3 = .ok (.irem, 1) := by decide +kernel
theorem dX1_motion_4 : decode cX1_motion 4 = .ok (.istore_n 3, 1) := by decide +kernel
theorem dX1_motion_5 : decode cX1_motion 5 = .ok (.iload_n 2, 1) := by decide +kernel
theorem dX1_motion_6 : decode cX1_motion 6 = .ok (.bipush 8, 2) := by decide +kernel
theorem dX1_motion_8 : decode cX1_motion 8 = .ok (.irem, 1) := by decide +kernel
theorem dX1_motion_9 : decode cX1_motion 9 = .ok (.istore 4, 2) := by decide +kernel
theorem dX1_motion_11 : decode cX1_motion 11 = .ok (.aload_n 0, 1) := by decide +kernel
theorem dX1_motion_12 : decode cX1_motion 12 = .ok (.getfield 9, 3) := by decide +kernel
theorem dX1_motion_15 : decode cX1_motion 15 = .ok (.iconst 1, 1) := by decide +kernel
theorem dX1_motion_16 : decode cX1_motion 16 = .ok (.if_icmp .ne 13, 3) := by decide +kernel
theorem dX1_motion_19 : decode cX1_motion 19 = .ok (.iload_n 3, 1) := by decide +kernel
theorem dX1_motion_20 : decode cX1_motion 20 = .ok (.iload 4, 2) := by decide +kernel
theorem dX1_motion_22 : decode cX1_motion 22 = .ok (.isub, 1) := by decide +kernel
theorem dX1_motion_23 : decode cX1_motion 23 = .ok (.invokestatic 56, 3) := by decide +kernel
theorem dX1_motion_26 : decode cX1_motion 26 = .ok (.goto 10, 3) := by decide +kernel
theorem dX1_motion_29 : decode cX1_motion 29 = .ok (.iload_n 3, 1) := by decide +kernel
theorem dX1_motion_30 : decode cX1_motion 30 = .ok (.iload 4, 2) := by decide +kernel
theorem dX1_motion_32 : decode cX1_motion 32 = .ok (.ixor, 1) := by decide +kernel
theorem dX1_motion_33 : decode cX1_motion 33 = .ok (.invokestatic 61, 3) := by decide +kernel
theorem dX1_motion_36 : decode cX1_motion 36 = .ok (.istore 5, 2) := by decide +kernel
theorem dX1_motion_38 : decode cX1_motion 38 = .ok (.iload_n 1, 1) := by decide +kernel
theorem dX1_motion_39 : decode cX1_motion 39 = .ok (.bipush 8, 2) := by decide +kernel
theorem dX1_motion_41 : decode cX1_motion 41 = .ok (.idiv, 1) := by decide +kernel
theorem dX1_motion_42 : decode cX1_motion 42 = .ok (.iload_n 2, 1) := by decide +kernel
theorem dX1_motion_43 : decode cX1_motion 43 = .ok (.bipush 8, 2) := by decide +kernel
theorem dX1_motion_45 : decode cX1_motion 45 = .ok (.idiv, 1) := by decide +kernel
theorem dX1_motion_46 : decode cX1_motion 46 = .ok (.isub, 1) := by decide +kernel
theorem dX1_motion_47 : decode cX1_motion 47 = .ok (.invokestatic 56, 3) := by decide +kernel
theorem dX1_motion_50 : decode cX1_motion 50 = .ok (.istore 6, 2) := by decide +kernel
theorem dX1_motion_52 : decode cX1_motion 52 = .ok (.aload_n 0, 1) := by decide +kernel
theorem dX1_motion_53 : decode cX1_motion 53 = .ok (.getfield 19, 3) := by decide +kernel
theorem dX1_motion_56 : decode cX1_motion 56 = .ok (.iconst 2, 1) := by decide +kernel
theorem dX1_motion_57 : decode cX1_motion 57 = .ok (.iaload, 1) := by decide +kernel
theorem dX1_motion_58 : decode cX1_motion 58 = .ok (.iload 5, 2) := by decide +kernel
theorem dX1_motion_60 : decode cX1_motion 60 = .ok (.imul, 1) := by decide +kernel
theorem dX1_motion_61 : decode cX1_motion 61 = .ok (.aload_n 0, 1) := by decide +kernel
theorem dX1_motion_62 : decode cX1_motion 62 = .ok (.getfield 19, 3) := by decide +kernel
theorem dX1_motion_65 : decode cX1_motion 65 = .ok (.iconst 3, 1) := by decide +kernel
theorem dX1_motion_66 : decode cX1_motion 66 = .ok (.iaload, 1) := by decide +kernel
theorem dX1_motion_67 : decode cX1_motion 67 = .ok (.iload 6, 2) := by decide +kernel
theorem dX1_motion_69 : decode cX1_motion 69 = .ok (.imul, 1) := by decide +kernel
theorem dX1_motion_70 : decode cX1_motion 70 = .ok (.iadd, 1) := by decide +kernel
theorem dX1_motion_71 : decode cX1_motion 71 = .ok (.ireturn, 1) := by decide +kernel
set_option maxRecDepth 20000 in
theorem ggX1_fault_X1_offBy : GoodIn wsX1_fault wsX1_offBy := goodIn_r _ [10, 11, 12, 13, 9, 14, 15, 16, 1, 17, 18, 19, 20, 21, 22, 23, 24] (by decide +kernel) (by decide +kernel)
set_option maxRecDepth 20000 in
theorem gX1_fault_X1_offBy : GoodIn wsX1_fault (wsV RX1 52 RX1 yX1_offBy wsX1_offBy) := goodIn_app (goodIn_of _ (by decide +kernel)) ggX1_fault_X1_offBy
theorem dX1_fault_0 : decode cX1_fault 0 = .ok (.aload_n 0, 1) := by decide +kernel
theorem dX1_fault_1 : decode cX1_fault 1 = .ok (.getfield 19, 3) := by decide +kernel
theorem dX1_fault_4 : decode cX1_fault 4 = .ok (.iconst 4, 1) := by decide +kernel
theorem dX1_fault_5 : decode cX1_fault 5 = .ok (.iaload, 1) := by decide +kernel
theorem dX1_fault_6 : decode cX1_fault 6 = .ok (.aload_n 0, 1) := by decide +kernel
theorem dX1_fault_7 : decode cX1_fault 7 = .ok (.iload_n 1, 1) := by decide +kernel
theorem dX1_fault_8 : decode cX1_fault 8 = .ok (.iload_n 2, 1) := by decide +kernel
theorem dX1_fault_9 : decode cX1_fault 9 = .ok (.invokevirtual 52, 3) := by decide +kernel
theorem dX1_fault_12 : decode cX1_fault 12 = .ok (.invokestatic 56, 3) := by decide +kernel
theorem dX1_fault_15 : decode cX1_fault 15 = .ok (.imul, 1) := by decide +kernel
theorem dX1_fault_16 : decode cX1_fault 16 = .ok (.bipush 10, 2) := by decide +kernel
theorem dX1_fault_18 : decode cX1_fault 18 = .ok (.idiv, 1) := by decide +kernel
theorem dX1_fault_19 : decode cX1_fault 19 = .ok (.ireturn, 1) := by decide +kernel
set_option maxRecDepth 20000 in
theorem ggX2_init_X1_init : GoodIn wsX2_init wsX1_init := goodIn_r _ [20, 21, 2, 3, 22, 14, 23, 24, 25, 26, 37, 38, 39, 40, 41] (by decide +kernel) (by decide +kernel)
set_option maxRecDepth 20000 in
theorem gX2_init_X1_init_n11 : GoodIn wsX2_init (wsX1_init) := ggX2_init_X1_init
set_option maxRecDepth 20000 in
theorem ggX2_init_X0_init : GoodIn wsX2_init wsX0_init := goodIn_r _ [28, 29, 2, 3, 30, 14, 31, 32, 33, 34, 35, 36, 50, 51, 52, 53, 54, 55] (by decide +kernel) (by decide +kernel)
set_option maxRecDepth 20000 in
theorem gX2_init_X0_init_n26 : GoodIn wsX2_init (wsX0_init) := ggX2_init_X0_init
theorem dX2_init_0 : decode cX2_init 0 = .ok (.aload_n 0, 1) := by decide +kernel
theorem dX2_init_1 : decode cX2_init 1 = .ok (.invokespecial 3, 3) := by decide +kernel
theorem dX2_init_4 : decode cX2_init 4 = .ok (.aload_n 0, 1) := by decide +kernel
theorem dX2_init_5 : decode cX2_init 5 = .ok (.new 9, 3) := by decide +kernel
theorem dX2_init_8 : decode cX2_init 8 = .ok (.dup, 1) := by decide +kernel
theorem dX2_init_9 : decode cX2_init 9 = .ok (.invokespecial 11, 3) := by decide +kernel
theorem dX2_init_12 : decode cX2_init 12 = .ok (.putfield 12, 3) := by decide +kernel
theorem dX2_init_15 : decode cX2_init 15 = .ok (.aload_n 0, 1) := by decide +kernel
theorem dX2_init_16 : decode cX2_init 16 = .ok (.iconst 2, 1) := by decide +kernel
theorem dX2_init_17 : decode cX2_init 17 = .ok (.anewarray 9, 3) := by decide +kernel
theorem dX2_init_20 : decode cX2_init 20 = .ok (.dup, 1) := by decide +kernel
theorem dX2_init_21 : decode cX2_init 21 = .ok (.iconst 0, 1) := by decide +kernel
theorem dX2_init_22 : decode cX2_init 22 = .ok (.new 9, 3) := by decide +kernel
theorem dX2_init_25 : decode cX2_init 25 = .ok (.dup, 1) := by decide +kernel
theorem dX2_init_26 : decode cX2_init 26 = .ok (.invokespecial 11, 3) := by decide +kernel
theorem dX2_init_29 : decode cX2_init 29 = .ok (.aastore, 1) := by decide +kernel
theorem dX2_init_30 : decode cX2_init 30 = .ok (.dup, 1) := by decide +kernel
theorem dX2_init_31 : decode cX2_init 31 = .ok (.iconst 1, 1) := by decide +kernel
theorem dX2_init_32 : decode cX2_init 32 = .ok (.new 9, 3) := by decide +kernel
theorem dX2_init_35 : decode cX2_init 35 = .ok (.dup, 1) := by decide +kernel
theorem dX2_init_36 : decode cX2_init 36 = .ok (.invokespecial 11, 3) := by decide +kernel
theorem dX2_init_39 : decode cX2_init 39 = .ok (.aastore, 1) := by decide +kernel
theorem dX2_init_40 : decode cX2_init 40 = .ok (.putfield 16, 3) := by decide +kernel
theorem dX2_init_43 : decode cX2_init 43 = .ok (.aload_n 0, 1) := by decide +kernel
theorem dX2_init_44 : decode cX2_init 44 = .ok (.iconst 0, 1) := by decide +kernel
theorem dX2_init_45 : decode cX2_init 45 = .ok (.putfield 20, 3) := by decide +kernel
theorem dX2_init_48 : decode cX2_init 48 = .ok (.aload_n 0, 1) := by decide +kernel
theorem dX2_init_49 : decode cX2_init 49 = .ok (.new 24, 3) := by decide +kernel
theorem dX2_init_52 : decode cX2_init 52 = .ok (.dup, 1) := by decide +kernel
theorem dX2_init_53 : decode cX2_init 53 = .ok (.invokespecial 26, 3) := by decide +kernel
theorem dX2_init_56 : decode cX2_init 56 = .ok (.putfield 27, 3) := by decide +kernel
theorem dX2_init_59 : decode cX2_init 59 = .ok (.aload_n 0, 1) := by decide +kernel
theorem dX2_init_60 : decode cX2_init 60 = .ok (.bipush 8, 2) := by decide +kernel
theorem dX2_init_62 : decode cX2_init 62 = .ok (.newarray .int, 2) := by decide +kernel
theorem dX2_init_64 : decode cX2_init 64 = .ok (.putfield 31, 3) := by decide +kernel
theorem dX2_init_67 : decode cX2_init 67 = .ok (.aload_n 0, 1) := by decide +kernel
theorem dX2_init_68 : decode cX2_init 68 = .ok (.bipush 8, 2) := by decide +kernel
theorem dX2_init_70 : decode cX2_init 70 = .ok (.newarray .int, 2) := by decide +kernel
theorem dX2_init_72 : decode cX2_init 72 = .ok (.putfield 35, 3) := by decide +kernel
theorem dX2_init_75 : decode cX2_init 75 = .ok (.aload_n 0, 1) := by decide +kernel
theorem dX2_init_76 : decode cX2_init 76 = .ok (.iconst 3, 1) := by decide +kernel
theorem dX2_init_77 : decode cX2_init 77 = .ok (.newarray .int, 2) := by decide +kernel
theorem dX2_init_79 : decode cX2_init 79 = .ok (.putfield 38, 3) := by decide +kernel
theorem dX2_init_82 : decode cX2_init 82 = .ok (.aload_n 0, 1) := by decide +kernel
theorem dX2_init_83 : decode cX2_init 83 = .ok (.bipush 8, 2) := by decide +kernel
theorem dX2_init_85 : decode cX2_init 85 = .ok (.newarray .int, 2) := by decide +kernel
theorem dX2_init_87 : decode cX2_init 87 = .ok (.putfield 41, 3) := by decide +kernel
theorem dX2_init_90 : decode cX2_init 90 = .ok (.return_, 1) := by decide +kernel
theorem dX2_horn_0 : decode cX2_horn 0 = .ok (.iload_n 1, 1) := by decide +kernel
theorem dX2_horn_1 : decode cX2_horn 1 = .ok (.ifCond .lt 8, 3) := by decide +kernel
theorem dX2_horn_4 : decode cX2_horn 4 = .ok (.iload_n 1, 1) := by decide +kernel
theorem dX2_horn_5 : decode cX2_horn 5 = .ok (.iconst 1, 1) := by decide +kernel
theorem dX2_horn_6 : decode cX2_horn 6 = .ok (.if_icmp .le 6, 3) := by decide +kernel
theorem dX2_horn_9 : decode cX2_horn 9 = .ok (.bipush (-2), 2) := by decide +kernel
theorem dX2_horn_11 : decode cX2_horn 11 = .ok (.ireturn, 1) := by decide +kernel
theorem dX2_horn_12 : decode cX2_horn 12 = .ok (.aload_n 0, 1) := by decide +kernel
theorem dX2_horn_13 : decode cX2_horn 13 = .ok (.getfield 12, 3) := by decide +kernel
theorem dX2_horn_16 : decode cX2_horn 16 = .ok (.getfield 44, 3) := by decide +kernel
theorem dX2_horn_19 : decode cX2_horn 19 = .ok (.istore_n 2, 1) := by decide +kernel
theorem dX2_horn_20 : decode cX2_horn 20 = .ok (.aload_n 0, 1) := by decide +kernel
theorem dX2_horn_21 : decode cX2_horn 21 = .ok (.getfield 12, 3) := by decide +kernel
theorem dX2_horn_24 : decode cX2_horn 24 = .ok (.iload_n 1, 1) := by decide +kernel
theorem dX2_horn_25 : decode cX2_horn 25 = .ok (.putfield 44, 3) := by decide +kernel
theorem dX2_horn_28 : decode cX2_horn 28 = .ok (.iload_n 2, 1) := by decide +kernel
theorem dX2_horn_29 : decode cX2_horn 29 = .ok (.ireturn, 1) := by decide +kernel
set_option maxRecDepth 20000 in
theorem ggX2_valve_X2_isValve : GoodIn wsX2_valve wsX2_isValve := goodIn_r _ [6] (by decide +kernel) (by decide +kernel)
set_option maxRecDepth 20000 in
theorem gX2_valve_X2_isValve : GoodIn wsX2_valve (va_wsS RX2 47 yX2_isValve wsX2_isValve) := goodIn_app (goodIn_of _ (by decide +kernel)) ggX2_valve_X2_isValve
theorem dX2_valve_0 : decode cX2_valve 0 = .ok (.iload_n 1, 1) := by decide +kernel
theorem dX2_valve_1 : decode cX2_valve 1 = .ok (.invokestatic 47, 3) := by decide +kernel
theorem dX2_valve_4 : decode cX2_valve 4 = .ok (.ifCond .ne 5, 3) := by decide +kernel
theorem dX2_valve_7 : decode cX2_valve 7 = .ok (.iconst (-1), 1) := by decide +kernel
theorem dX2_valve_8 : decode cX2_valve 8 = .ok (.ireturn, 1) := by decide +kernel
theorem dX2_valve_9 : decode cX2_valve 9 = .ok (.iload_n 2, 1) := by decide +kernel
theorem dX2_valve_10 : decode cX2_valve 10 = .ok (.ifCond .lt 10, 3) := by decide +kernel
theorem dX2_valve_13 : decode cX2_valve 13 = .ok (.iload_n 2, 1) := by decide +kernel
theorem dX2_valve_14 : decode cX2_valve 14 = .ok (.sipush 400, 3) := by decide +kernel
theorem dX2_valve_17 : decode cX2_valve 17 = .ok (.if_icmp .le 6, 3) := by decide +kernel
theorem dX2_valve_20 : decode cX2_valve 20 = .ok (.bipush (-2), 2) := by decide +kernel
theorem dX2_valve_22 : decode cX2_valve 22 = .ok (.ireturn, 1) := by decide +kernel
theorem dX2_valve_23 : decode cX2_valve 23 = .ok (.aload_n 0, 1) := by decide +kernel
theorem dX2_valve_24 : decode cX2_valve 24 = .ok (.getfield 12, 3) := by decide +kernel
theorem dX2_valve_27 : decode cX2_valve 27 = .ok (.getfield 51, 3) := by decide +kernel
theorem dX2_valve_30 : decode cX2_valve 30 = .ok (.iload_n 1, 1) := by decide +kernel
theorem dX2_valve_31 : decode cX2_valve 31 = .ok (.iaload, 1) := by decide +kernel
theorem dX2_valve_32 : decode cX2_valve 32 = .ok (.istore_n 3, 1) := by decide +kernel
theorem dX2_valve_33 : decode cX2_valve 33 = .ok (.aload_n 0, 1) := by decide +kernel
theorem dX2_valve_34 : decode cX2_valve 34 = .ok (.getfield 12, 3) := by decide +kernel
theorem dX2_valve_37 : decode cX2_valve 37 = .ok (.getfield 51, 3) := by decide +kernel
theorem dX2_valve_40 : decode cX2_valve 40 = .ok (.iload_n 1, 1) := by decide +kernel
theorem dX2_valve_41 : decode cX2_valve 41 = .ok (.iload_n 2, 1) := by decide +kernel
theorem dX2_valve_42 : decode cX2_valve 42 = .ok (.iastore, 1) := by decide +kernel
theorem dX2_valve_43 : decode cX2_valve 43 = .ok (.iload_n 3, 1) := by decide +kernel
theorem dX2_valve_44 : decode cX2_valve 44 = .ok (.ireturn, 1) := by decide +kernel
theorem dX2_rule_0 : decode cX2_rule 0 = .ok (.iload_n 1, 1) := by decide +kernel
theorem dX2_rule_1 : decode cX2_rule 1 = .ok (.ifCond .lt 21, 3) := by decide +kernel
theorem dX2_rule_4 : decode cX2_rule 4 = .ok (.iload_n 1, 1) := by decide +kernel
theorem dX2_rule_5 : decode cX2_rule 5 = .ok (.iconst 5, 1) := by decide +kernel
theorem dX2_rule_6 : decode cX2_rule 6 = .ok (.if_icmp .ge 16, 3) := by decide +kernel
theorem dX2_rule_9 : decode cX2_rule 9 = .ok (.iload_n 2, 1) := by decide +kernel
theorem dX2_rule_10 : decode cX2_rule 10 = .ok (.ifCond .lt 12, 3) := by decide +kernel
theorem dX2_rule_13 : decode cX2_rule 13 = .ok (.iload_n 2, 1) := by decide +kernel
theorem dX2_rule_14 : decode cX2_rule 14 = .ok (.getstatic 54, 3) := by decide +kernel
theorem dX2_rule_17 : decode cX2_rule 17 = .ok (.iload_n 1, 1) := by decide +kernel
theorem dX2_rule_18 : decode cX2_rule 18 = .ok (.iaload, 1) := by decide +kernel
theorem dX2_rule_19 : decode cX2_rule 19 = .ok (.if_icmp .le 6, 3) := by decide +kernel
theorem dX2_rule_22 : decode cX2_rule 22 = .ok (.bipush (-2), 2) := by decide +kernel
theorem dX2_rule_24 : decode cX2_rule 24 = .ok (.ireturn, 1) := by decide +kernel
theorem dX2_rule_25 : decode cX2_rule 25 = .ok (.aload_n 0, 1) := by decide +kernel
theorem dX2_rule_26 : decode cX2_rule 26 = .ok (.getfield 12, 3) := by decide +kernel
theorem dX2_rule_29 : decode cX2_rule 29 = .ok (.getfield 57, 3) := by decide +kernel
theorem dX2_rule_32 : decode cX2_rule 32 = .ok (.iload_n 1, 1) := by decide +kernel
theorem dX2_rule_33 : decode cX2_rule 33 = .ok (.iaload, 1) := by decide +kernel
theorem dX2_rule_34 : decode cX2_rule 34 = .ok (.istore_n 3, 1) := by decide +kernel
theorem dX2_rule_35 : decode cX2_rule 35 = .ok (.aload_n 0, 1) := by decide +kernel
theorem dX2_rule_36 : decode cX2_rule 36 = .ok (.getfield 12, 3) := by decide +kernel
theorem dX2_rule_39 : decode cX2_rule 39 = .ok (.getfield 57, 3) := by decide +kernel
theorem dX2_rule_42 : decode cX2_rule 42 = .ok (.iload_n 1, 1) := by decide +kernel
theorem dX2_rule_43 : decode cX2_rule 43 = .ok (.iload_n 2, 1) := by decide +kernel
theorem dX2_rule_44 : decode cX2_rule 44 = .ok (.iastore, 1) := by decide +kernel
theorem dX2_rule_45 : decode cX2_rule 45 = .ok (.iload_n 3, 1) := by decide +kernel
theorem dX2_rule_46 : decode cX2_rule 46 = .ok (.ireturn, 1) := by decide +kernel
set_option maxRecDepth 20000 in
theorem ggX2_lowers_X1_hasSetting : GoodIn wsX2_lowers wsX1_hasSetting := goodIn_r _ [6, 7, 25, 26, 27, 28, 29] (by decide +kernel) (by decide +kernel)
set_option maxRecDepth 20000 in
theorem gX2_lowers_X1_hasSetting : GoodIn wsX2_lowers (wsV RX2 60 RX1 yX1_hasSetting wsX1_hasSetting) := goodIn_app (goodIn_of _ (by decide +kernel)) ggX2_lowers_X1_hasSetting
set_option maxRecDepth 20000 in
theorem ggX2_lowers_X1_dropOf : GoodIn wsX2_lowers wsX1_dropOf := goodIn_r _ [11, 7, 12, 13, 14, 15, 16, 25, 26, 27, 28, 29] (by decide +kernel) (by decide +kernel)
set_option maxRecDepth 20000 in
theorem gX2_lowers_X1_dropOf : GoodIn wsX2_lowers (wsV RX2 63 RX1 yX1_dropOf wsX1_dropOf) := goodIn_app (goodIn_of _ (by decide +kernel)) ggX2_lowers_X1_dropOf
theorem dX2_lowers_0 : decode cX2_lowers 0 = .ok (.aload_n 0, 1) := by decide +kernel
theorem dX2_lowers_1 : decode cX2_lowers 1 = .ok (.getfield 12, 3) := by decide +kernel
theorem dX2_lowers_4 : decode cX2_lowers 4 = .ok (.iload_n 1, 1) := by decide +kernel
theorem dX2_lowers_5 : decode cX2_lowers 5 = .ok (.invokevirtual 60, 3) := by decide +kernel
theorem dX2_lowers_8 : decode cX2_lowers 8 = .ok (.ifCond .eq 18, 3) := by decide +kernel
theorem dX2_lowers_11 : decode cX2_lowers 11 = .ok (.aload_n 0, 1) := by decide +kernel
theorem dX2_lowers_12 : decode cX2_lowers 12 = .ok (.getfield 12, 3) := by decide +kernel
theorem dX2_lowers_15 : decode cX2_lowers 15 = .ok (.iload_n 1, 1) := by decide +kernel
theorem dX2_lowers_16 : decode cX2_lowers 16 = .ok (.invokevirtual 63, 3) := by decide +kernel
theorem dX2_lowers_19 : decode cX2_lowers 19 = .ok (.sipush 1000, 3) := by decide +kernel
theorem dX2_lowers_22 : decode cX2_lowers 22 = .ok (.iadd, 1) := by decide +kernel
theorem dX2_lowers_23 : decode cX2_lowers 23 = .ok (.goto 5, 3) := by decide +kernel
theorem dX2_lowers_26 : decode cX2_lowers 26 = .ok (.bipush (-2), 2) := by decide +kernel
theorem dX2_lowers_28 : decode cX2_lowers 28 = .ok (.ireturn, 1) := by decide +kernel
set_option maxRecDepth 20000 in
theorem ggX2_off_X1_hasWay : GoodIn wsX2_off wsX1_hasWay := goodIn_r _ [6, 7, 8, 9, 5, 10, 11, 36, 37, 38, 39, 40] (by decide +kernel) (by decide +kernel)
set_option maxRecDepth 20000 in
theorem gX2_off_X1_hasWay : GoodIn wsX2_off (wsV RX2 67 RX1 yX1_hasWay wsX1_hasWay) := goodIn_app (goodIn_of _ (by decide +kernel)) ggX2_off_X1_hasWay
set_option maxRecDepth 20000 in
theorem ggX2_off_X2_isNote : GoodIn wsX2_off wsX2_isNote := goodIn_r _ [15] (by decide +kernel) (by decide +kernel)
set_option maxRecDepth 20000 in
theorem gX2_off_X2_isNote : GoodIn wsX2_off (va_wsS RX2 70 yX2_isNote wsX2_isNote) := goodIn_app (goodIn_of _ (by decide +kernel)) ggX2_off_X2_isNote
set_option maxRecDepth 20000 in
theorem ggX2_off_X1_offBy : GoodIn wsX2_off wsX1_offBy := goodIn_r _ [19, 20, 21, 22, 5, 23, 11, 24, 25, 26, 14, 27, 36, 37, 38, 39, 40] (by decide +kernel) (by decide +kernel)
set_option maxRecDepth 20000 in
theorem gX2_off_X1_offBy : GoodIn wsX2_off (wsV RX2 73 RX1 yX1_offBy wsX1_offBy) := goodIn_app (goodIn_of _ (by decide +kernel)) ggX2_off_X1_offBy
theorem dX2_off_0 : decode cX2_off 0 = .ok (.aload_n 0, 1) := by decide +kernel
theorem dX2_off_1 : decode cX2_off 1 = .ok (.getfield 12, 3) := by decide +kernel
theorem dX2_off_4 : decode cX2_off 4 = .ok (.iload_n 1, 1) := by decide +kernel
theorem dX2_off_5 : decode cX2_off 5 = .ok (.invokevirtual 67, 3) := by decide +kernel
theorem dX2_off_8 : decode cX2_off 8 = .ok (.ifCond .eq 26, 3) := by decide +kernel
theorem dX2_off_11 : decode cX2_off 11 = .ok (.iload_n 2, 1) := by decide +kernel
theorem dX2_off_12 : decode cX2_off 12 = .ok (.invokestatic 70, 3) := by decide +kernel
theorem dX2_off_15 : decode cX2_off 15 = .ok (.ifCond .eq 19, 3) := by decide +kernel
theorem dX2_off_18 : decode cX2_off 18 = .ok (.aload_n 0, 1) := by decide +kernel
theorem dX2_off_19 : decode cX2_off 19 = .ok (.getfield 12, 3) := by decide +kernel
theorem dX2_off_22 : decode cX2_off 22 = .ok (.iload_n 1, 1) := by decide +kernel
theorem dX2_off_23 : decode cX2_off 23 = .ok (.iload_n 2, 1) := by decide +kernel
theorem dX2_off_24 : decode cX2_off 24 = .ok (.invokevirtual 73, 3) := by decide +kernel
theorem dX2_off_27 : decode cX2_off 27 = .ok (.sipush 10000, 3) := by decide +kernel
theorem dX2_off_30 : decode cX2_off 30 = .ok (.iadd, 1) := by decide +kernel
theorem dX2_off_31 : decode cX2_off 31 = .ok (.goto 5, 3) := by decide +kernel
theorem dX2_off_34 : decode cX2_off 34 = .ok (.bipush (-2), 2) := by decide +kernel
theorem dX2_off_36 : decode cX2_off 36 = .ok (.ireturn, 1) := by decide +kernel
set_option maxRecDepth 20000 in
theorem ggX2_ways_X2_isNote : GoodIn wsX2_ways wsX2_isNote := goodIn_r _ [6] (by decide +kernel) (by decide +kernel)
set_option maxRecDepth 20000 in
theorem gX2_ways_X2_isNote : GoodIn wsX2_ways (va_wsS RX2 70 yX2_isNote wsX2_isNote) := goodIn_app (goodIn_of _ (by decide +kernel)) ggX2_ways_X2_isNote
set_option maxRecDepth 20000 in
theorem ggX2_ways_X1_gatherWays : GoodIn wsX2_ways wsX1_gatherWays := goodIn_r _ [11, 12, 13, 14, 15, 16, 17, 18, 19, 10, 20, 21, 22, 23, 24, 25, 26, 27, 28, 29, 30, 31, 32, 33, 34, 35, 5, 36, 45, 46, 47, 48, 49] (by decide +kernel) (by decide +kernel)
set_option maxRecDepth 20000 in
theorem gX2_ways_X1_gatherWays : GoodIn wsX2_ways (wsV RX2 77 RX1 yX1_gatherWays wsX1_gatherWays) := goodIn_app (goodIn_of _ (by decide +kernel)) ggX2_ways_X1_gatherWays
theorem dX2_ways_0 : decode cX2_ways 0 = .ok (.iload_n 1, 1) := by decide +kernel
theorem dX2_ways_1 : decode cX2_ways 1 = .ok (.invokestatic 70, 3) := by decide +kernel
theorem dX2_ways_4 : decode cX2_ways 4 = .ok (.ifCond .eq 8, 3) := by decide +kernel
theorem dX2_ways_7 : decode cX2_ways 7 = .ok (.iload_n 2, 1) := by decide +kernel
theorem dX2_ways_8 : decode cX2_ways 8 = .ok (.iconst (-1), 1) := by decide +kernel
theorem dX2_ways_9 : decode cX2_ways 9 = .ok (.if_icmp .ge 6, 3) := by decide +kernel
theorem dX2_ways_12 : decode cX2_ways 12 = .ok (.bipush (-2), 2) := by decide +kernel
theorem dX2_ways_14 : decode cX2_ways 14 = .ok (.ireturn, 1) := by decide +kernel
theorem dX2_ways_15 : decode cX2_ways 15 = .ok (.aload_n 0, 1) := by decide +kernel
theorem dX2_ways_16 : decode cX2_ways 16 = .ok (.getfield 12, 3) := by decide +kernel
theorem dX2_ways_19 : decode cX2_ways 19 = .ok (.iload_n 1, 1) := by decide +kernel
theorem dX2_ways_20 : decode cX2_ways 20 = .ok (.aload_n 0, 1) := by decide +kernel
theorem dX2_ways_21 : decode cX2_ways 21 = .ok (.getfield 31, 3) := by decide +kernel
theorem dX2_ways_24 : decode cX2_ways 24 = .ok (.iconst 0, 1) := by decide +kernel
theorem dX2_ways_25 : decode cX2_ways 25 = .ok (.invokevirtual 77, 3) := by decide +kernel
theorem dX2_ways_28 : decode cX2_ways 28 = .ok (.istore_n 3, 1) := by decide +kernel
theorem dX2_ways_29 : decode cX2_ways 29 = .ok (.iload_n 2, 1) := by decide +kernel
theorem dX2_ways_30 : decode cX2_ways 30 = .ok (.iconst (-1), 1) := by decide +kernel
theorem dX2_ways_31 : decode cX2_ways 31 = .ok (.if_icmp .ne 5, 3) := by decide +kernel
theorem dX2_ways_34 : decode cX2_ways 34 = .ok (.iload_n 3, 1) := by decide +kernel
theorem dX2_ways_35 : decode cX2_ways 35 = .ok (.ireturn, 1) := by decide +kernel
theorem dX2_ways_36 : decode cX2_ways 36 = .ok (.iload_n 2, 1) := by decide +kernel
theorem dX2_ways_37 : decode cX2_ways 37 = .ok (.iload_n 3, 1) := by decide +kernel
theorem dX2_ways_38 : decode cX2_ways 38 = .ok (.if_icmp .ge 12, 3) := by decide +kernel
theorem dX2_ways_41 : decode cX2_ways 41 = .ok (.aload_n 0, 1) := by decide +kernel
theorem dX2_ways_42 : decode cX2_ways 42 = .ok (.getfield 31, 3) := by decide +kernel
theorem dX2_ways_45 : decode cX2_ways 45 = .ok (.iload_n 2, 1) := by decide +kernel
theorem dX2_ways_46 : decode cX2_ways 46 = .ok (.iaload, 1) := by decide +kernel
theorem dX2_ways_47 : decode cX2_ways 47 = .ok (.goto 5, 3) := by decide +kernel
theorem dX2_ways_50 : decode cX2_ways 50 = .ok (.bipush (-6), 2) := by decide +kernel
theorem dX2_ways_52 : decode cX2_ways 52 = .ok (.ireturn, 1) := by decide +kernel
set_option maxRecDepth 20000 in
theorem ggX2_truest_X2_isNote : GoodIn wsX2_truest wsX2_isNote := goodIn_r _ [11] (by decide +kernel) (by decide +kernel)
set_option maxRecDepth 20000 in
theorem gX2_truest_X2_isNote : GoodIn wsX2_truest (va_wsS RX2 70 yX2_isNote wsX2_isNote) := goodIn_app (goodIn_of _ (by decide +kernel)) ggX2_truest_X2_isNote
set_option maxRecDepth 20000 in
theorem ggX2_truest_X1_gatherWays : GoodIn wsX2_truest wsX1_gatherWays := goodIn_r _ [16, 17, 5, 6, 7, 18, 19, 20, 21, 15, 22, 23, 24, 25, 26, 27, 28, 29, 30, 31, 32, 33, 34, 35, 36, 37, 10, 38, 48, 49, 50, 51, 52] (by decide +kernel) (by decide +kernel)
set_option maxRecDepth 20000 in
theorem gX2_truest_X1_gatherWays : GoodIn wsX2_truest (wsV RX2 77 RX1 yX1_gatherWays wsX1_gatherWays) := goodIn_app (goodIn_of _ (by decide +kernel)) ggX2_truest_X1_gatherWays
set_option maxRecDepth 20000 in
theorem ggX2_truest_X1_offBy : GoodIn wsX2_truest wsX1_offBy := goodIn_r _ [31, 32, 33, 34, 15, 35, 27, 36, 18, 37, 10, 38, 48, 49, 50, 51, 52] (by decide +kernel) (by decide +kernel)
set_option maxRecDepth 20000 in
theorem gX2_truest_X1_offBy : GoodIn wsX2_truest (wsV RX2 73 RX1 yX1_offBy wsX1_offBy) := goodIn_app (goodIn_of _ (by decide +kernel)) ggX2_truest_X1_offBy
theorem dX2_truest_0 : decode cX2_truest 0 = .ok (.iload_n 1, 1) := by decide +kernel
theorem dX2_truest_1 : decode cX2_truest 1 = .ok (.invokestatic 70, 3) := by decide +kernel
theorem dX2_truest_4 : decode cX2_truest 4 = .ok (.ifCond .ne 6, 3) := by decide +kernel
theorem dX2_truest_7 : decode cX2_truest 7 = .ok (.bipush (-2), 2) := by decide +kernel
theorem dX2_truest_9 : decode cX2_truest 9 = .ok (.ireturn, 1) := by decide +kernel
theorem dX2_truest_10 : decode cX2_truest 10 = .ok (.aload_n 0, 1) := by decide +kernel
theorem dX2_truest_11 : decode cX2_truest 11 = .ok (.getfield 12, 3) := by decide +kernel
theorem dX2_truest_14 : decode cX2_truest 14 = .ok (.iload_n 1, 1) := by decide +kernel
theorem dX2_truest_15 : decode cX2_truest 15 = .ok (.aload_n 0, 1) := by decide +kernel
theorem dX2_truest_16 : decode cX2_truest 16 = .ok (.getfield 31, 3) := by decide +kernel
theorem dX2_truest_19 : decode cX2_truest 19 = .ok (.iconst 0, 1) := by decide +kernel
theorem dX2_truest_20 : decode cX2_truest 20 = .ok (.invokevirtual 77, 3) := by decide +kernel
theorem dX2_truest_23 : decode cX2_truest 23 = .ok (.istore_n 2, 1) := by decide +kernel
theorem dX2_truest_24 : decode cX2_truest 24 = .ok (.bipush (-6), 2) := by decide +kernel
theorem dX2_truest_26 : decode cX2_truest 26 = .ok (.istore_n 3, 1) := by decide +kernel
theorem dX2_truest_27 : decode cX2_truest 27 = .ok (.ldc 81, 2) := by decide +kernel
theorem dX2_truest_29 : decode cX2_truest 29 = .ok (.istore 4, 2) := by decide +kernel
theorem dX2_truest_31 : decode cX2_truest 31 = .ok (.iconst 0, 1) := by decide +kernel
theorem dX2_truest_32 : decode cX2_truest 32 = .ok (.istore 5, 2) := by decide +kernel
theorem dX2_truest_34 : decode cX2_truest 34 = .ok (.iload 5, 2) := by decide +kernel
theorem dX2_truest_36 : decode cX2_truest 36 = .ok (.iload_n 2, 1) := by decide +kernel
theorem dX2_truest_37 : decode cX2_truest 37 = .ok (.if_icmp .ge 48, 3) := by decide +kernel
theorem dX2_truest_40 : decode cX2_truest 40 = .ok (.aload_n 0, 1) := by decide +kernel
theorem dX2_truest_41 : decode cX2_truest 41 = .ok (.getfield 12, 3) := by decide +kernel
theorem dX2_truest_44 : decode cX2_truest 44 = .ok (.aload_n 0, 1) := by decide +kernel
theorem dX2_truest_45 : decode cX2_truest 45 = .ok (.getfield 31, 3) := by decide +kernel
theorem dX2_truest_48 : decode cX2_truest 48 = .ok (.iload 5, 2) := by decide +kernel
theorem dX2_truest_50 : decode cX2_truest 50 = .ok (.iaload, 1) := by decide +kernel
theorem dX2_truest_51 : decode cX2_truest 51 = .ok (.iload_n 1, 1) := by decide +kernel
theorem dX2_truest_52 : decode cX2_truest 52 = .ok (.invokevirtual 73, 3) := by decide +kernel
theorem dX2_truest_55 : decode cX2_truest 55 = .ok (.invokestatic 82, 3) := by decide +kernel
theorem dX2_truest_58 : decode cX2_truest 58 = .ok (.istore 6, 2) := by decide +kernel
theorem dX2_truest_60 : decode cX2_truest 60 = .ok (.iload 6, 2) := by decide +kernel
theorem dX2_truest_62 : decode cX2_truest 62 = .ok (.iload 4, 2) := by decide +kernel
theorem dX2_truest_64 : decode cX2_truest 64 = .ok (.if_icmp .ge 15, 3) := by decide +kernel
theorem dX2_truest_67 : decode cX2_truest 67 = .ok (.iload 6, 2) := by decide +kernel
theorem dX2_truest_69 : decode cX2_truest 69 = .ok (.istore 4, 2) := by decide +kernel
theorem dX2_truest_71 : decode cX2_truest 71 = .ok (.aload_n 0, 1) := by decide +kernel
theorem dX2_truest_72 : decode cX2_truest 72 = .ok (.getfield 31, 3) := by decide +kernel
theorem dX2_truest_75 : decode cX2_truest 75 = .ok (.iload 5, 2) := by decide +kernel
theorem dX2_truest_77 : decode cX2_truest 77 = .ok (.iaload, 1) := by decide +kernel
theorem dX2_truest_78 : decode cX2_truest 78 = .ok (.istore_n 3, 1) := by decide +kernel
theorem dX2_truest_79 : decode cX2_truest 79 = .ok (.iinc 5 1, 3) := by decide +kernel
theorem dX2_truest_82 : decode cX2_truest 82 = .ok (.goto (-48), 3) := by decide +kernel
theorem dX2_truest_85 : decode cX2_truest 85 = .ok (.iload_n 3, 1) := by decide +kernel
theorem dX2_truest_86 : decode cX2_truest 86 = .ok (.ireturn, 1) := by decide +kernel
set_option maxRecDepth 20000 in
theorem ggX2_range_X1_gatherWays : GoodIn wsX2_range wsX1_gatherWays := goodIn_r _ [7, 8, 9, 10, 11, 12, 13, 14, 15, 6, 16, 17, 18, 19, 20, 21, 22, 23, 24, 25, 26, 27, 28, 29, 30, 31, 32, 33, 42, 43, 44, 45, 46] (by decide +kernel) (by decide +kernel)
set_option maxRecDepth 20000 in
theorem gX2_range_X1_gatherWays : GoodIn wsX2_range (wsV RX2 77 RX1 yX1_gatherWays wsX1_gatherWays) := goodIn_app (goodIn_of _ (by decide +kernel)) ggX2_range_X1_gatherWays
theorem dX2_range_0 : decode cX2_range 0 = .ok (.iload_n 1, 1) := by decide +kernel
theorem dX2_range_1 : decode cX2_range 1 = .ok (.iconst (-1), 1) := by decide +kernel
theorem dX2_range_2 : decode cX2_range 2 = .ok (.if_icmp .lt 9, 3) := by decide +kernel
theorem dX2_range_5 : decode cX2_range 5 = .ok (.iload_n 1, 1) := by decide +kernel
theorem dX2_range_6 : decode cX2_range 6 = .ok (.bipush 64, 2) := by decide +kernel
theorem dX2_range_8 : decode cX2_range 8 = .ok (.if_icmp .le 6, 3) := by decide +kernel
theorem dX2_range_11 : decode cX2_range 11 = .ok (.bipush (-2), 2) := by decide +kernel
theorem dX2_range_13 : decode cX2_range 13 = .ok (.ireturn, 1) := by decide +kernel
theorem dX2_range_14 : decode cX2_range 14 = .ok (.iconst 0, 1) := by decide +kernel
theorem dX2_range_15 : decode cX2_range 15 = .ok (.istore_n 2, 1) := by decide +kernel
theorem dX2_range_16 : decode cX2_range 16 = .ok (.iconst 0, 1) := by decide +kernel
theorem dX2_range_17 : decode cX2_range 17 = .ok (.istore_n 3, 1) := by decide +kernel
theorem dX2_range_18 : decode cX2_range 18 = .ok (.iload_n 3, 1) := by decide +kernel
theorem dX2_range_19 : decode cX2_range 19 = .ok (.bipush 37, 2) := by decide +kernel
theorem dX2_range_21 : decode cX2_range 21 = .ok (.if_icmp .ge 46, 3) := by decide +kernel
theorem dX2_range_24 : decode cX2_range 24 = .ok (.aload_n 0, 1) := by decide +kernel
theorem dX2_range_25 : decode cX2_range 25 = .ok (.getfield 12, 3) := by decide +kernel
theorem dX2_range_28 : decode cX2_range 28 = .ok (.iload_n 3, 1) := by decide +kernel
theorem dX2_range_29 : decode cX2_range 29 = .ok (.aload_n 0, 1) := by decide +kernel
theorem dX2_range_30 : decode cX2_range 30 = .ok (.getfield 31, 3) := by decide +kernel
theorem dX2_range_33 : decode cX2_range 33 = .ok (.iconst 0, 1) := by decide +kernel
theorem dX2_range_34 : decode cX2_range 34 = .ok (.invokevirtual 77, 3) := by decide +kernel
theorem dX2_range_37 : decode cX2_range 37 = .ok (.istore 4, 2) := by decide +kernel
theorem dX2_range_39 : decode cX2_range 39 = .ok (.iload_n 1, 1) := by decide +kernel
theorem dX2_range_40 : decode cX2_range 40 = .ok (.iconst (-1), 1) := by decide +kernel
theorem dX2_range_41 : decode cX2_range 41 = .ok (.if_icmp .ne 11, 3) := by decide +kernel
theorem dX2_range_44 : decode cX2_range 44 = .ok (.iload 4, 2) := by decide +kernel
theorem dX2_range_46 : decode cX2_range 46 = .ok (.ifCond .le 15, 3) := by decide +kernel
theorem dX2_range_49 : decode cX2_range 49 = .ok (.goto 9, 3) := by decide +kernel
theorem dX2_range_52 : decode cX2_range 52 = .ok (.iload 4, 2) := by decide +kernel
theorem dX2_range_54 : decode cX2_range 54 = .ok (.iload_n 1, 1) := by decide +kernel
theorem dX2_range_55 : decode cX2_range 55 = .ok (.if_icmp .ne 6, 3) := by decide +kernel
theorem dX2_range_58 : decode cX2_range 58 = .ok (.iinc 2 1, 3) := by decide +kernel
theorem dX2_range_61 : decode cX2_range 61 = .ok (.iinc 3 1, 3) := by decide +kernel
theorem dX2_range_64 : decode cX2_range 64 = .ok (.goto (-46), 3) := by decide +kernel
theorem dX2_range_67 : decode cX2_range 67 = .ok (.iload_n 2, 1) := by decide +kernel
theorem dX2_range_68 : decode cX2_range 68 = .ok (.ireturn, 1) := by decide +kernel
set_option maxRecDepth 20000 in
theorem ggX2_note_X2_isNote : GoodIn wsX2_note wsX2_isNote := goodIn_r _ [7] (by decide +kernel) (by decide +kernel)
set_option maxRecDepth 20000 in
theorem gX2_note_X2_isNote : GoodIn wsX2_note (va_wsS RX2 70 yX2_isNote wsX2_isNote) := goodIn_app (goodIn_of _ (by decide +kernel)) ggX2_note_X2_isNote
theorem dX2_note_0 : decode cX2_note 0 = .ok (.iload_n 1, 1) := by decide +kernel
theorem dX2_note_1 : decode cX2_note 1 = .ok (.invokestatic 70, 3) := by decide +kernel
theorem dX2_note_4 : decode cX2_note 4 = .ok (.ifCond .ne 6, 3) := by decide +kernel
theorem dX2_note_7 : decode cX2_note 7 = .ok (.bipush (-2), 2) := by decide +kernel
theorem dX2_note_9 : decode cX2_note 9 = .ok (.ireturn, 1) := by decide +kernel
theorem dX2_note_10 : decode cX2_note 10 = .ok (.aload_n 0, 1) := by decide +kernel
theorem dX2_note_11 : decode cX2_note 11 = .ok (.getfield 12, 3) := by decide +kernel
theorem dX2_note_14 : decode cX2_note 14 = .ok (.getfield 87, 3) := by decide +kernel
theorem dX2_note_17 : decode cX2_note 17 = .ok (.bipush 12, 2) := by decide +kernel
theorem dX2_note_19 : decode cX2_note 19 = .ok (.if_icmp .lt 6, 3) := by decide +kernel
theorem dX2_note_22 : decode cX2_note 22 = .ok (.bipush (-4), 2) := by decide +kernel
theorem dX2_note_24 : decode cX2_note 24 = .ok (.ireturn, 1) := by decide +kernel
theorem dX2_note_25 : decode cX2_note 25 = .ok (.aload_n 0, 1) := by decide +kernel
theorem dX2_note_26 : decode cX2_note 26 = .ok (.getfield 12, 3) := by decide +kernel
theorem dX2_note_29 : decode cX2_note 29 = .ok (.getfield 87, 3) := by decide +kernel
theorem dX2_note_32 : decode cX2_note 32 = .ok (.istore_n 2, 1) := by decide +kernel
theorem dX2_note_33 : decode cX2_note 33 = .ok (.aload_n 0, 1) := by decide +kernel
theorem dX2_note_34 : decode cX2_note 34 = .ok (.getfield 12, 3) := by decide +kernel
theorem dX2_note_37 : decode cX2_note 37 = .ok (.getfield 90, 3) := by decide +kernel
theorem dX2_note_40 : decode cX2_note 40 = .ok (.iload_n 2, 1) := by decide +kernel
theorem dX2_note_41 : decode cX2_note 41 = .ok (.iload_n 1, 1) := by decide +kernel
theorem dX2_note_42 : decode cX2_note 42 = .ok (.iastore, 1) := by decide +kernel
theorem dX2_note_43 : decode cX2_note 43 = .ok (.aload_n 0, 1) := by decide +kernel
theorem dX2_note_44 : decode cX2_note 44 = .ok (.getfield 12, 3) := by decide +kernel
theorem dX2_note_47 : decode cX2_note 47 = .ok (.iload_n 2, 1) := by decide +kernel
theorem dX2_note_48 : decode cX2_note 48 = .ok (.iconst 1, 1) := by decide +kernel
theorem dX2_note_49 : decode cX2_note 49 = .ok (.iadd, 1) := by decide +kernel
theorem dX2_note_50 : decode cX2_note 50 = .ok (.putfield 87, 3) := by decide +kernel
theorem dX2_note_53 : decode cX2_note 53 = .ok (.iload_n 2, 1) := by decide +kernel
theorem dX2_note_54 : decode cX2_note 54 = .ok (.ireturn, 1) := by decide +kernel
set_option maxRecDepth 20000 in
theorem ggX2_set_X2_isPlace : GoodIn wsX2_set wsX2_isPlace := goodIn_r _ [7, 1, 8, 12, 13, 14, 15, 16, 17, 18, 19, 20, 21, 22, 23, 24] (by decide +kernel) (by decide +kernel)
set_option maxRecDepth 20000 in
theorem gX2_set_X2_isPlace : GoodIn wsX2_set (wsV RX2 93 RX2 yX2_isPlace wsX2_isPlace) := goodIn_app (goodIn_of _ (by decide +kernel)) ggX2_set_X2_isPlace
set_option maxRecDepth 20000 in
theorem ggX2_set_X2_isNote : GoodIn wsX2_set wsX2_isNote := goodIn_r _ [11] (by decide +kernel) (by decide +kernel)
set_option maxRecDepth 20000 in
theorem gX2_set_X2_isNote : GoodIn wsX2_set (va_wsS RX2 70 yX2_isNote wsX2_isNote) := goodIn_app (goodIn_of _ (by decide +kernel)) ggX2_set_X2_isNote
theorem dX2_set_0 : decode cX2_set 0 = .ok (.aload_n 0, 1) := by decide +kernel
theorem dX2_set_1 : decode cX2_set 1 = .ok (.iload_n 1, 1) := by decide +kernel
theorem dX2_set_2 : decode cX2_set 2 = .ok (.invokevirtual 93, 3) := by decide +kernel
theorem dX2_set_5 : decode cX2_set 5 = .ok (.ifCond .ne 5, 3) := by decide +kernel
theorem dX2_set_8 : decode cX2_set 8 = .ok (.iconst (-1), 1) := by decide +kernel
theorem dX2_set_9 : decode cX2_set 9 = .ok (.ireturn, 1) := by decide +kernel
theorem dX2_set_10 : decode cX2_set 10 = .ok (.iload_n 2, 1) := by decide +kernel
theorem dX2_set_11 : decode cX2_set 11 = .ok (.invokestatic 70, 3) := by decide +kernel
theorem dX2_set_14 : decode cX2_set 14 = .ok (.ifCond .ne 6, 3) := by decide +kernel
theorem dX2_set_17 : decode cX2_set 17 = .ok (.bipush (-2), 2) := by decide +kernel
theorem dX2_set_19 : decode cX2_set 19 = .ok (.ireturn, 1) := by decide +kernel
theorem dX2_set_20 : decode cX2_set 20 = .ok (.aload_n 0, 1) := by decide +kernel
theorem dX2_set_21 : decode cX2_set 21 = .ok (.getfield 12, 3) := by decide +kernel
theorem dX2_set_24 : decode cX2_set 24 = .ok (.getfield 90, 3) := by decide +kernel
theorem dX2_set_27 : decode cX2_set 27 = .ok (.iload_n 1, 1) := by decide +kernel
theorem dX2_set_28 : decode cX2_set 28 = .ok (.iaload, 1) := by decide +kernel
theorem dX2_set_29 : decode cX2_set 29 = .ok (.istore_n 3, 1) := by decide +kernel
theorem dX2_set_30 : decode cX2_set 30 = .ok (.aload_n 0, 1) := by decide +kernel
theorem dX2_set_31 : decode cX2_set 31 = .ok (.getfield 12, 3) := by decide +kernel
theorem dX2_set_34 : decode cX2_set 34 = .ok (.getfield 90, 3) := by decide +kernel
theorem dX2_set_37 : decode cX2_set 37 = .ok (.iload_n 1, 1) := by decide +kernel
theorem dX2_set_38 : decode cX2_set 38 = .ok (.iload_n 2, 1) := by decide +kernel
theorem dX2_set_39 : decode cX2_set 39 = .ok (.iastore, 1) := by decide +kernel
theorem dX2_set_40 : decode cX2_set 40 = .ok (.iload_n 3, 1) := by decide +kernel
theorem dX2_set_41 : decode cX2_set 41 = .ok (.ireturn, 1) := by decide +kernel
theorem dX2_clear_0 : decode cX2_clear 0 = .ok (.aload_n 0, 1) := by decide +kernel
theorem dX2_clear_1 : decode cX2_clear 1 = .ok (.getfield 12, 3) := by decide +kernel
theorem dX2_clear_4 : decode cX2_clear 4 = .ok (.getfield 87, 3) := by decide +kernel
theorem dX2_clear_7 : decode cX2_clear 7 = .ok (.istore_n 1, 1) := by decide +kernel
theorem dX2_clear_8 : decode cX2_clear 8 = .ok (.aload_n 0, 1) := by decide +kernel
theorem dX2_clear_9 : decode cX2_clear 9 = .ok (.getfield 12, 3) := by decide +kernel
theorem dX2_clear_12 : decode cX2_clear 12 = .ok (.iconst 0, 1) := by decide +kernel
theorem dX2_clear_13 : decode cX2_clear 13 = .ok (.putfield 87, 3) := by decide +kernel
theorem dX2_clear_16 : decode cX2_clear 16 = .ok (.iload_n 1, 1) := by decide +kernel
theorem dX2_clear_17 : decode cX2_clear 17 = .ok (.ireturn, 1) := by decide +kernel
set_option maxRecDepth 20000 in
theorem ggX2_effort_X1_hasWay : GoodIn wsX2_effort wsX1_hasWay := goodIn_r _ [6, 7, 8, 9, 5, 10, 11, 36, 37, 38, 39, 40] (by decide +kernel) (by decide +kernel)
set_option maxRecDepth 20000 in
theorem gX2_effort_X1_hasWay : GoodIn wsX2_effort (wsV RX2 67 RX1 yX1_hasWay wsX1_hasWay) := goodIn_app (goodIn_of _ (by decide +kernel)) ggX2_effort_X1_hasWay
set_option maxRecDepth 20000 in
theorem ggX2_effort_X1_motion : GoodIn wsX2_effort wsX1_motion := goodIn_r _ [15, 11, 16, 17, 18, 19, 20, 21, 22, 23, 24, 25, 26, 27, 36, 37, 38, 39, 40] (by decide +kernel) (by decide +kernel)
set_option maxRecDepth 20000 in
theorem gX2_effort_X1_motion : GoodIn wsX2_effort (wsV RX2 96 RX1 yX1_motion wsX1_motion) := goodIn_app (goodIn_of _ (by decide +kernel)) ggX2_effort_X1_motion
theorem dX2_effort_0 : decode cX2_effort 0 = .ok (.aload_n 0, 1) := by decide +kernel
theorem dX2_effort_1 : decode cX2_effort 1 = .ok (.getfield 12, 3) := by decide +kernel
theorem dX2_effort_4 : decode cX2_effort 4 = .ok (.iload_n 1, 1) := by decide +kernel
theorem dX2_effort_5 : decode cX2_effort 5 = .ok (.invokevirtual 67, 3) := by decide +kernel
theorem dX2_effort_8 : decode cX2_effort 8 = .ok (.ifCond .eq 26, 3) := by decide +kernel
theorem dX2_effort_11 : decode cX2_effort 11 = .ok (.aload_n 0, 1) := by decide +kernel
theorem dX2_effort_12 : decode cX2_effort 12 = .ok (.getfield 12, 3) := by decide +kernel
theorem dX2_effort_15 : decode cX2_effort 15 = .ok (.iload_n 2, 1) := by decide +kernel
theorem dX2_effort_16 : decode cX2_effort 16 = .ok (.invokevirtual 67, 3) := by decide +kernel
theorem dX2_effort_19 : decode cX2_effort 19 = .ok (.ifCond .eq 15, 3) := by decide +kernel
theorem dX2_effort_22 : decode cX2_effort 22 = .ok (.aload_n 0, 1) := by decide +kernel
theorem dX2_effort_23 : decode cX2_effort 23 = .ok (.getfield 12, 3) := by decide +kernel
theorem dX2_effort_26 : decode cX2_effort 26 = .ok (.iload_n 1, 1) := by decide +kernel
theorem dX2_effort_27 : decode cX2_effort 27 = .ok (.iload_n 2, 1) := by decide +kernel
theorem dX2_effort_28 : decode cX2_effort 28 = .ok (.invokevirtual 96, 3) := by decide +kernel
theorem dX2_effort_31 : decode cX2_effort 31 = .ok (.goto 5, 3) := by decide +kernel
theorem dX2_effort_34 : decode cX2_effort 34 = .ok (.bipush (-2), 2) := by decide +kernel
theorem dX2_effort_36 : decode cX2_effort 36 = .ok (.ireturn, 1) := by decide +kernel
set_option maxRecDepth 20000 in
theorem ggX2_least_X0_workOut : GoodIn wsX2_least wsX0_workOut := goodIn_r _ [8, 9, 10, 11, 12, 13, 14, 15, 16, 17, 18, 19, 20, 21, 22, 23, 24, 25, 26, 27, 28, 29, 30, 31, 32, 33, 34, 35, 36, 37, 38, 39, 40, 41, 42, 43, 44, 45, 46, 47, 7, 48, 49, 50, 51, 52, 53, 54, 55, 56, 57, 58, 59, 60, 61, 62, 63, 64, 65, 66, 67, 108, 109, 110, 111, 112, 113, 114, 115, 116, 117, 118] (by decide +kernel) (by decide +kernel)
set_option maxRecDepth 20000 in
theorem gX2_least_X0_workOut : GoodIn wsX2_least (wsV RX2 99 RX0 yX0_workOut wsX0_workOut) := goodIn_app (goodIn_of _ (by decide +kernel)) ggX2_least_X0_workOut
set_option maxRecDepth 20000 in
theorem ggX2_least_X0_hasPlan : GoodIn wsX2_least wsX0_hasPlan := goodIn_r _ [71, 72, 73, 74, 7, 75, 10, 11, 113, 114, 115, 116, 117, 118] (by decide +kernel) (by decide +kernel)
set_option maxRecDepth 20000 in
theorem gX2_least_X0_hasPlan : GoodIn wsX2_least (wsV RX2 103 RX0 yX0_hasPlan wsX0_hasPlan) := goodIn_app (goodIn_of _ (by decide +kernel)) ggX2_least_X0_hasPlan
set_option maxRecDepth 20000 in
theorem ggX2_least_X0_leastCost : GoodIn wsX2_least wsX0_leastCost := goodIn_r _ [79, 10, 49, 11, 50, 80, 81, 21, 82, 113, 114, 115, 116, 117, 118] (by decide +kernel) (by decide +kernel)
set_option maxRecDepth 20000 in
theorem gX2_least_X0_leastCost : GoodIn wsX2_least (wsV RX2 107 RX0 yX0_leastCost wsX0_leastCost) := goodIn_app (goodIn_of _ (by decide +kernel)) ggX2_least_X0_leastCost
set_option maxRecDepth 20000 in
theorem ggX2_least_X0_leastWayAt : GoodIn wsX2_least wsX0_leastWayAt := goodIn_r _ [86, 10, 13, 87, 88, 89, 7, 90, 11, 50, 91, 77, 78, 79, 49, 80, 81, 21, 82, 92, 93, 94, 95, 96, 97, 98, 52, 53, 54, 55, 17, 56, 32, 19, 20, 22, 23, 57, 58, 59, 60, 61, 62, 63, 99, 113, 114, 115, 116, 117, 118, 108, 109, 110, 111, 112] (by decide +kernel) (by decide +kernel)
set_option maxRecDepth 20000 in
theorem gX2_least_X0_leastWayAt : GoodIn wsX2_least (wsV RX2 111 RX0 yX0_leastWayAt wsX0_leastWayAt) := goodIn_app (goodIn_of _ (by decide +kernel)) ggX2_least_X0_leastWayAt
theorem dX2_least_0 : decode cX2_least 0 = .ok (.iload_n 1, 1) := by decide +kernel
theorem dX2_least_1 : decode cX2_least 1 = .ok (.iconst (-1), 1) := by decide +kernel
theorem dX2_least_2 : decode cX2_least 2 = .ok (.if_icmp .ge 6, 3) := by decide +kernel
theorem dX2_least_5 : decode cX2_least 5 = .ok (.bipush (-2), 2) := by decide +kernel
theorem dX2_least_7 : decode cX2_least 7 = .ok (.ireturn, 1) := by decide +kernel
theorem dX2_least_8 : decode cX2_least 8 = .ok (.iload_n 1, 1) := by decide +kernel
theorem dX2_least_9 : decode cX2_least 9 = .ok (.aload_n 0, 1) := by decide +kernel
theorem dX2_least_10 : decode cX2_least 10 = .ok (.getfield 12, 3) := by decide +kernel
theorem dX2_least_13 : decode cX2_least 13 = .ok (.getfield 87, 3) := by decide +kernel
theorem dX2_least_16 : decode cX2_least 16 = .ok (.if_icmp .lt 6, 3) := by decide +kernel
theorem dX2_least_19 : decode cX2_least 19 = .ok (.bipush (-6), 2) := by decide +kernel
theorem dX2_least_21 : decode cX2_least 21 = .ok (.ireturn, 1) := by decide +kernel
theorem dX2_least_22 : decode cX2_least 22 = .ok (.aload_n 0, 1) := by decide +kernel
theorem dX2_least_23 : decode cX2_least 23 = .ok (.getfield 27, 3) := by decide +kernel
theorem dX2_least_26 : decode cX2_least 26 = .ok (.aload_n 0, 1) := by decide +kernel
theorem dX2_least_27 : decode cX2_least 27 = .ok (.getfield 12, 3) := by decide +kernel
theorem dX2_least_30 : decode cX2_least 30 = .ok (.invokevirtual 99, 3) := by decide +kernel
theorem dX2_least_33 : decode cX2_least 33 = .ok (.aload_n 0, 1) := by decide +kernel
theorem dX2_least_34 : decode cX2_least 34 = .ok (.getfield 27, 3) := by decide +kernel
theorem dX2_least_37 : decode cX2_least 37 = .ok (.invokevirtual 103, 3) := by decide +kernel
theorem dX2_least_40 : decode cX2_least 40 = .ok (.ifCond .ne 6, 3) := by decide +kernel
theorem dX2_least_43 : decode cX2_least 43 = .ok (.bipush (-6), 2) := by decide +kernel
theorem dX2_least_45 : decode cX2_least 45 = .ok (.ireturn, 1) := by decide +kernel
theorem dX2_least_46 : decode cX2_least 46 = .ok (.iload_n 1, 1) := by decide +kernel
theorem dX2_least_47 : decode cX2_least 47 = .ok (.iconst (-1), 1) := by decide +kernel
theorem dX2_least_48 : decode cX2_least 48 = .ok (.if_icmp .ne 13, 3) := by decide +kernel
theorem dX2_least_51 : decode cX2_least 51 = .ok (.aload_n 0, 1) := by decide +kernel
theorem dX2_least_52 : decode cX2_least 52 = .ok (.getfield 27, 3) := by decide +kernel
theorem dX2_least_55 : decode cX2_least 55 = .ok (.invokevirtual 107, 3) := by decide +kernel
theorem dX2_least_58 : decode cX2_least 58 = .ok (.goto 15, 3) := by decide +kernel
theorem dX2_least_61 : decode cX2_least 61 = .ok (.aload_n 0, 1) := by decide +kernel
theorem dX2_least_62 : decode cX2_least 62 = .ok (.getfield 27, 3) := by decide +kernel
theorem dX2_least_65 : decode cX2_least 65 = .ok (.aload_n 0, 1) := by decide +kernel
theorem dX2_least_66 : decode cX2_least 66 = .ok (.getfield 12, 3) := by decide +kernel
theorem dX2_least_69 : decode cX2_least 69 = .ok (.iload_n 1, 1) := by decide +kernel
theorem dX2_least_70 : decode cX2_least 70 = .ok (.invokevirtual 111, 3) := by decide +kernel
theorem dX2_least_73 : decode cX2_least 73 = .ok (.ireturn, 1) := by decide +kernel
set_option maxRecDepth 20000 in
theorem ggX2_plans_X0_workOut : GoodIn wsX2_plans wsX0_workOut := goodIn_r _ [9, 10, 11, 12, 13, 14, 15, 16, 17, 18, 19, 20, 21, 22, 23, 24, 25, 26, 27, 28, 29, 30, 31, 32, 33, 34, 35, 36, 37, 38, 39, 40, 41, 42, 43, 44, 45, 46, 47, 48, 8, 49, 50, 51, 52, 53, 54, 55, 56, 57, 58, 59, 60, 61, 62, 63, 64, 65, 66, 67, 68, 116, 117, 118, 119, 120, 121, 122, 123, 124, 125, 126] (by decide +kernel) (by decide +kernel)
set_option maxRecDepth 20000 in
theorem gX2_plans_X0_workOut : GoodIn wsX2_plans (wsV RX2 99 RX0 yX0_workOut wsX0_workOut) := goodIn_app (goodIn_of _ (by decide +kernel)) ggX2_plans_X0_workOut
set_option maxRecDepth 20000 in
theorem ggX2_plans_X0_countAll : GoodIn wsX2_plans wsX0_countAll := goodIn_r _ [72, 11, 12, 121, 122, 123, 124, 125, 126] (by decide +kernel) (by decide +kernel)
set_option maxRecDepth 20000 in
theorem gX2_plans_X0_countAll : GoodIn wsX2_plans (wsV RX2 117 RX0 yX0_countAll wsX0_countAll) := goodIn_app (goodIn_of _ (by decide +kernel)) ggX2_plans_X0_countAll
set_option maxRecDepth 20000 in
theorem ggX2_plans_X0_countLeast : GoodIn wsX2_plans wsX0_countLeast := goodIn_r _ [76, 11, 12, 51, 52, 77, 78, 79, 8, 80, 81, 70, 71, 72, 82, 83, 84, 85, 50, 86, 87, 22, 88, 121, 122, 123, 124, 125, 126] (by decide +kernel) (by decide +kernel)
set_option maxRecDepth 20000 in
theorem gX2_plans_X0_countLeast : GoodIn wsX2_plans (wsV RX2 121 RX0 yX0_countLeast wsX0_countLeast) := goodIn_app (goodIn_of _ (by decide +kernel)) ggX2_plans_X0_countLeast
set_option maxRecDepth 20000 in
theorem ggX2_plans_X2_isPlace : GoodIn wsX2_plans wsX2_isPlace := goodIn_r _ [92, 3, 93, 108, 109, 110, 111, 112, 113, 114, 115, 116, 117, 118, 119, 120] (by decide +kernel) (by decide +kernel)
set_option maxRecDepth 20000 in
theorem gX2_plans_X2_isPlace : GoodIn wsX2_plans (wsV RX2 93 RX2 yX2_isPlace wsX2_isPlace) := goodIn_app (goodIn_of _ (by decide +kernel)) ggX2_plans_X2_isPlace
set_option maxRecDepth 20000 in
theorem ggX2_plans_X0_hasPlan : GoodIn wsX2_plans wsX0_hasPlan := goodIn_r _ [80, 81, 70, 71, 8, 72, 11, 12, 121, 122, 123, 124, 125, 126] (by decide +kernel) (by decide +kernel)
set_option maxRecDepth 20000 in
theorem gX2_plans_X0_hasPlan : GoodIn wsX2_plans (wsV RX2 103 RX0 yX0_hasPlan wsX0_hasPlan) := goodIn_app (goodIn_of _ (by decide +kernel)) ggX2_plans_X0_hasPlan
set_option maxRecDepth 20000 in
theorem ggX2_plans_X0_countWaysAt : GoodIn wsX2_plans wsX0_countWaysAt := goodIn_r _ [98, 99, 100, 101, 8, 102, 12, 51, 82, 83, 84, 85, 11, 50, 86, 87, 22, 88, 103, 104, 105, 106, 14, 53, 54, 55, 56, 18, 57, 33, 20, 21, 23, 24, 58, 59, 60, 61, 62, 63, 64, 107, 121, 122, 123, 124, 125, 126, 116, 117, 118, 119, 120] (by decide +kernel) (by decide +kernel)
set_option maxRecDepth 20000 in
theorem gX2_plans_X0_countWaysAt : GoodIn wsX2_plans (wsV RX2 124 RX0 yX0_countWaysAt wsX0_countWaysAt) := goodIn_app (goodIn_of _ (by decide +kernel)) ggX2_plans_X0_countWaysAt
theorem dX2_plans_0 : decode cX2_plans 0 = .ok (.iload_n 1, 1) := by decide +kernel
theorem dX2_plans_1 : decode cX2_plans 1 = .ok (.ifCond .lt 20, 3) := by decide +kernel
theorem dX2_plans_4 : decode cX2_plans 4 = .ok (.iload_n 1, 1) := by decide +kernel
theorem dX2_plans_5 : decode cX2_plans 5 = .ok (.iconst 1, 1) := by decide +kernel
theorem dX2_plans_6 : decode cX2_plans 6 = .ok (.if_icmp .le 9, 3) := by decide +kernel
theorem dX2_plans_9 : decode cX2_plans 9 = .ok (.iload_n 1, 1) := by decide +kernel
theorem dX2_plans_10 : decode cX2_plans 10 = .ok (.bipush 10, 2) := by decide +kernel
theorem dX2_plans_12 : decode cX2_plans 12 = .ok (.if_icmp .lt 9, 3) := by decide +kernel
