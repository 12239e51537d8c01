theorem dX3_effortOf_56 : decode cX3_effortOf 56 = .ok (.idiv, 1) := by decide +kernel
theorem dX3_effortOf_57 : decode cX3_effortOf 57 = .ok (.iload_n 2, 1) := by decide +kernel
theorem dX3_effortOf_58 : decode cX3_effortOf 58 = .ok (.bipush 8, 2) := by decide +kernel
theorem dX3_effortOf_60 : decode cX3_effortOf 60 = .ok (.idiv, 1) := by decide +kernel
theorem dX3_effortOf_61 : decode cX3_effortOf 61 = .ok (.isub, 1) := by decide +kernel
theorem dX3_effortOf_62 : decode cX3_effortOf 62 = .ok (.invokestatic 58, 3) := by decide +kernel
theorem dX3_effortOf_65 : decode cX3_effortOf 65 = .ok (.imul, 1) := by decide +kernel
theorem dX3_effortOf_66 : decode cX3_effortOf 66 = .ok (.iadd, 1) := by decide +kernel
theorem dX3_effortOf_67 : decode cX3_effortOf 67 = .ok (.ireturn, 1) := by decide +kernel
set_option maxRecDepth 20000 in
theorem ggX3_effort_X3_isWay : GoodIn wsX3_effort wsX3_isWay := goodIn_r _ [5, 6, 7, 4, 8, 9, 10, 11, 12, 13, 24, 25, 26, 27, 28, 29, 30] (by decide +kernel) (by decide +kernel)
set_option maxRecDepth 20000 in
theorem gX3_effort_X3_isWay : GoodIn wsX3_effort (wsV RX3 51 RX3 yX3_isWay wsX3_isWay) := goodIn_app (goodIn_of _ (by decide +kernel)) ggX3_effort_X3_isWay
set_option maxRecDepth 20000 in
theorem ggX3_effort_X3_effortOf : GoodIn wsX3_effort wsX3_effortOf := goodIn_r _ [17, 13, 18, 19, 4, 20, 21, 22, 23, 24, 25, 26, 27, 28, 29, 30] (by decide +kernel) (by decide +kernel)
set_option maxRecDepth 20000 in
theorem gX3_effort_X3_effortOf : GoodIn wsX3_effort (wsV RX3 74 RX3 yX3_effortOf wsX3_effortOf) := goodIn_app (goodIn_of _ (by decide +kernel)) ggX3_effort_X3_effortOf
theorem dX3_effort_0 : decode cX3_effort 0 = .ok (.aload_n 0, 1) := by decide +kernel
theorem dX3_effort_1 : decode cX3_effort 1 = .ok (.iload_n 1, 1) := by decide +kernel
theorem dX3_effort_2 : decode cX3_effort 2 = .ok (.invokevirtual 51, 3) := by decide +kernel
theorem dX3_effort_5 : decode cX3_effort 5 = .ok (.ifCond .eq 20, 3) := by decide +kernel
theorem dX3_effort_8 : decode cX3_effort 8 = .ok (.aload_n 0, 1) := by decide +kernel
theorem dX3_effort_9 : decode cX3_effort 9 = .ok (.iload_n 2, 1) := by decide +kernel
theorem dX3_effort_10 : decode cX3_effort 10 = .ok (.invokevirtual 51, 3) := by decide +kernel
theorem dX3_effort_13 : decode cX3_effort 13 = .ok (.ifCond .eq 12, 3) := by decide +kernel
theorem dX3_effort_16 : decode cX3_effort 16 = .ok (.aload_n 0, 1) := by decide +kernel
theorem dX3_effort_17 : decode cX3_effort 17 = .ok (.iload_n 1, 1) := by decide +kernel
theorem dX3_effort_18 : decode cX3_effort 18 = .ok (.iload_n 2, 1) := by decide +kernel
theorem dX3_effort_19 : decode cX3_effort 19 = .ok (.invokevirtual 74, 3) := by decide +kernel
theorem dX3_effort_22 : decode cX3_effort 22 = .ok (.goto 5, 3) := by decide +kernel
theorem dX3_effort_25 : decode cX3_effort 25 = .ok (.bipush (-2), 2) := by decide +kernel
theorem dX3_effort_27 : decode cX3_effort 27 = .ok (.ireturn, 1) := by decide +kernel
set_option maxRecDepth 20000 in
theorem ggX3_faultOf_X3_offOf : GoodIn wsX3_faultOf wsX3_offOf := goodIn_r _ [6, 7, 8, 5, 9, 10, 11, 12, 13, 1, 14, 15, 16, 20, 21, 22, 23, 24, 25, 26] (by decide +kernel) (by decide +kernel)
set_option maxRecDepth 20000 in
theorem gX3_faultOf_X3_offOf : GoodIn wsX3_faultOf (wsV RX3 54 RX3 yX3_offOf wsX3_offOf) := goodIn_app (goodIn_of _ (by decide +kernel)) ggX3_faultOf_X3_offOf
set_option maxRecDepth 20000 in
theorem ggX3_faultOf_X3_size : GoodIn wsX3_faultOf wsX3_size := goodIn_r _ [19] (by decide +kernel) (by decide +kernel)
set_option maxRecDepth 20000 in
theorem gX3_faultOf_X3_size : GoodIn wsX3_faultOf (va_wsS RX3 58 yX3_size wsX3_size) := goodIn_app (goodIn_of _ (by decide +kernel)) ggX3_faultOf_X3_size
theorem dX3_faultOf_0 : decode cX3_faultOf 0 = .ok (.aload_n 0, 1) := by decide +kernel
theorem dX3_faultOf_1 : decode cX3_faultOf 1 = .ok (.getfield 7, 3) := by decide +kernel
theorem dX3_faultOf_4 : decode cX3_faultOf 4 = .ok (.bipush 8, 2) := by decide +kernel
theorem dX3_faultOf_6 : decode cX3_faultOf 6 = .ok (.iaload, 1) := by decide +kernel
theorem dX3_faultOf_7 : decode cX3_faultOf 7 = .ok (.aload_n 0, 1) := by decide +kernel
theorem dX3_faultOf_8 : decode cX3_faultOf 8 = .ok (.iload_n 1, 1) := by decide +kernel
theorem dX3_faultOf_9 : decode cX3_faultOf 9 = .ok (.iload_n 2, 1) := by decide +kernel
theorem dX3_faultOf_10 : decode cX3_faultOf 10 = .ok (.invokevirtual 54, 3) := by decide +kernel
theorem dX3_faultOf_13 : decode cX3_faultOf 13 = .ok (.invokestatic 58, 3) := by decide +kernel
theorem dX3_faultOf_16 : decode cX3_faultOf 16 = .ok (.imul, 1) := by decide +kernel
theorem dX3_faultOf_17 : decode cX3_faultOf 17 = .ok (.bipush 10, 2) := by decide +kernel
theorem dX3_faultOf_19 : decode cX3_faultOf 19 = .ok (.idiv, 1) := by decide +kernel
theorem dX3_faultOf_20 : decode cX3_faultOf 20 = .ok (.ireturn, 1) := by decide +kernel
theorem dX3_at_0 : decode cX3_at 0 = .ok (.bipush 64, 2) := by decide +kernel
theorem dX3_at_2 : decode cX3_at 2 = .ok (.iload_n 0, 1) := by decide +kernel
theorem dX3_at_3 : decode cX3_at 3 = .ok (.imul, 1) := by decide +kernel
theorem dX3_at_4 : decode cX3_at 4 = .ok (.iload_n 1, 1) := by decide +kernel
theorem dX3_at_5 : decode cX3_at 5 = .ok (.iadd, 1) := by decide +kernel
theorem dX3_at_6 : decode cX3_at 6 = .ok (.ireturn, 1) := by decide +kernel
set_option maxRecDepth 20000 in
theorem ggX3_isAt_X3_sounds : GoodIn wsX3_isAt wsX3_sounds := goodIn_r _ [6, 1, 7, 8, 9, 5, 10, 11, 12, 13, 14, 15, 16, 17, 18, 19, 20, 21, 22, 23, 24, 25, 26, 27, 28, 29, 30, 31, 32, 33, 34, 35, 36, 37, 38, 39, 40, 41] (by decide +kernel) (by decide +kernel)
set_option maxRecDepth 20000 in
theorem gX3_isAt_X3_sounds : GoodIn wsX3_isAt (wsV RX3 64 RX3 yX3_sounds wsX3_sounds) := goodIn_app (goodIn_of _ (by decide +kernel)) ggX3_isAt_X3_sounds
theorem dX3_isAt_0 : decode cX3_isAt 0 = .ok (.aload_n 0, 1) := by decide +kernel
theorem dX3_isAt_1 : decode cX3_isAt 1 = .ok (.iload_n 2, 1) := by decide +kernel
theorem dX3_isAt_2 : decode cX3_isAt 2 = .ok (.aload_n 0, 1) := by decide +kernel
theorem dX3_isAt_3 : decode cX3_isAt 3 = .ok (.getfield 7, 3) := by decide +kernel
theorem dX3_isAt_6 : decode cX3_isAt 6 = .ok (.bipush 10, 2) := by decide +kernel
theorem dX3_isAt_8 : decode cX3_isAt 8 = .ok (.iload_n 1, 1) := by decide +kernel
theorem dX3_isAt_9 : decode cX3_isAt 9 = .ok (.iadd, 1) := by decide +kernel
theorem dX3_isAt_10 : decode cX3_isAt 10 = .ok (.iaload, 1) := by decide +kernel
theorem dX3_isAt_11 : decode cX3_isAt 11 = .ok (.invokevirtual 64, 3) := by decide +kernel
theorem dX3_isAt_14 : decode cX3_isAt 14 = .ok (.ireturn, 1) := by decide +kernel
set_option maxRecDepth 20000 in
theorem ggX3_layRest_X3_at : GoodIn wsX3_layRest wsX3_at := goodIn_r _ [8] (by decide +kernel) (by decide +kernel)
set_option maxRecDepth 20000 in
theorem gX3_layRest_X3_at : GoodIn wsX3_layRest (va_wsS RX3 77 yX3_at wsX3_at) := goodIn_app (goodIn_of _ (by decide +kernel)) ggX3_layRest_X3_at
set_option maxRecDepth 20000 in
theorem ggX3_layRest_X3_faultOf : GoodIn wsX3_layRest wsX3_faultOf := goodIn_r _ [12, 1, 13, 14, 15, 7, 16, 17, 18, 19, 20, 21, 22, 23, 24, 25, 26, 27, 28, 29, 34, 35, 36, 37, 38, 39, 40] (by decide +kernel) (by decide +kernel)
set_option maxRecDepth 20000 in
theorem gX3_layRest_X3_faultOf : GoodIn wsX3_layRest (wsV RX3 80 RX3 yX3_faultOf wsX3_faultOf) := goodIn_app (goodIn_of _ (by decide +kernel)) ggX3_layRest_X3_faultOf
set_option maxRecDepth 20000 in
theorem ggX3_layRest_X3_effortOf : GoodIn wsX3_layRest wsX3_effortOf := goodIn_r _ [33, 1, 24, 25, 7, 26, 27, 28, 29, 34, 35, 36, 37, 38, 39, 40] (by decide +kernel) (by decide +kernel)
set_option maxRecDepth 20000 in
theorem gX3_layRest_X3_effortOf : GoodIn wsX3_layRest (wsV RX3 74 RX3 yX3_effortOf wsX3_effortOf) := goodIn_app (goodIn_of _ (by decide +kernel)) ggX3_layRest_X3_effortOf
theorem dX3_layRest_0 : decode cX3_layRest 0 = .ok (.iload_n 1, 1) := by decide +kernel
theorem dX3_layRest_1 : decode cX3_layRest 1 = .ok (.iload_n 2, 1) := by decide +kernel
theorem dX3_layRest_2 : decode cX3_layRest 2 = .ok (.invokestatic 77, 3) := by decide +kernel
theorem dX3_layRest_5 : decode cX3_layRest 5 = .ok (.istore_n 3, 1) := by decide +kernel
theorem dX3_layRest_6 : decode cX3_layRest 6 = .ok (.aload_n 0, 1) := by decide +kernel
theorem dX3_layRest_7 : decode cX3_layRest 7 = .ok (.iload_n 2, 1) := by decide +kernel
theorem dX3_layRest_8 : decode cX3_layRest 8 = .ok (.aload_n 0, 1) := by decide +kernel
theorem dX3_layRest_9 : decode cX3_layRest 9 = .ok (.getfield 7, 3) := by decide +kernel
theorem dX3_layRest_12 : decode cX3_layRest 12 = .ok (.bipush 10, 2) := by decide +kernel
theorem dX3_layRest_14 : decode cX3_layRest 14 = .ok (.iload_n 1, 1) := by decide +kernel
theorem dX3_layRest_15 : decode cX3_layRest 15 = .ok (.iadd, 1) := by decide +kernel
theorem dX3_layRest_16 : decode cX3_layRest 16 = .ok (.iaload, 1) := by decide +kernel
theorem dX3_layRest_17 : decode cX3_layRest 17 = .ok (.invokevirtual 80, 3) := by decide +kernel
theorem dX3_layRest_20 : decode cX3_layRest 20 = .ok (.istore 4, 2) := by decide +kernel
theorem dX3_layRest_22 : decode cX3_layRest 22 = .ok (.iload_n 1, 1) := by decide +kernel
theorem dX3_layRest_23 : decode cX3_layRest 23 = .ok (.iconst 1, 1) := by decide +kernel
theorem dX3_layRest_24 : decode cX3_layRest 24 = .ok (.iadd, 1) := by decide +kernel
theorem dX3_layRest_25 : decode cX3_layRest 25 = .ok (.aload_n 0, 1) := by decide +kernel
theorem dX3_layRest_26 : decode cX3_layRest 26 = .ok (.getfield 7, 3) := by decide +kernel
theorem dX3_layRest_29 : decode cX3_layRest 29 = .ok (.bipush 9, 2) := by decide +kernel
theorem dX3_layRest_31 : decode cX3_layRest 31 = .ok (.iaload, 1) := by decide +kernel
theorem dX3_layRest_32 : decode cX3_layRest 32 = .ok (.if_icmp .ne 7, 3) := by decide +kernel
theorem dX3_layRest_35 : decode cX3_layRest 35 = .ok (.iconst 1, 1) := by decide +kernel
theorem dX3_layRest_36 : decode cX3_layRest 36 = .ok (.goto 4, 3) := by decide +kernel
theorem dX3_layRest_39 : decode cX3_layRest 39 = .ok (.iconst 0, 1) := by decide +kernel
theorem dX3_layRest_40 : decode cX3_layRest 40 = .ok (.istore 5, 2) := by decide +kernel
theorem dX3_layRest_42 : decode cX3_layRest 42 = .ok (.aload_n 0, 1) := by decide +kernel
theorem dX3_layRest_43 : decode cX3_layRest 43 = .ok (.getfield 20, 3) := by decide +kernel
theorem dX3_layRest_46 : decode cX3_layRest 46 = .ok (.iload_n 3, 1) := by decide +kernel
theorem dX3_layRest_47 : decode cX3_layRest 47 = .ok (.iload 5, 2) := by decide +kernel
theorem dX3_layRest_49 : decode cX3_layRest 49 = .ok (.ifCond .eq 8, 3) := by decide +kernel
theorem dX3_layRest_52 : decode cX3_layRest 52 = .ok (.iload 4, 2) := by decide +kernel
theorem dX3_layRest_54 : decode cX3_layRest 54 = .ok (.goto 5, 3) := by decide +kernel
theorem dX3_layRest_57 : decode cX3_layRest 57 = .ok (.bipush (-6), 2) := by decide +kernel
theorem dX3_layRest_59 : decode cX3_layRest 59 = .ok (.iastore, 1) := by decide +kernel
theorem dX3_layRest_60 : decode cX3_layRest 60 = .ok (.aload_n 0, 1) := by decide +kernel
theorem dX3_layRest_61 : decode cX3_layRest 61 = .ok (.getfield 23, 3) := by decide +kernel
theorem dX3_layRest_64 : decode cX3_layRest 64 = .ok (.iload_n 3, 1) := by decide +kernel
theorem dX3_layRest_65 : decode cX3_layRest 65 = .ok (.iload 5, 2) := by decide +kernel
theorem dX3_layRest_67 : decode cX3_layRest 67 = .ok (.ifCond .eq 7, 3) := by decide +kernel
theorem dX3_layRest_70 : decode cX3_layRest 70 = .ok (.lconst 1, 1) := by decide +kernel
theorem dX3_layRest_71 : decode cX3_layRest 71 = .ok (.goto 4, 3) := by decide +kernel
theorem dX3_layRest_74 : decode cX3_layRest 74 = .ok (.lconst 0, 1) := by decide +kernel
theorem dX3_layRest_75 : decode cX3_layRest 75 = .ok (.lastore, 1) := by decide +kernel
theorem dX3_layRest_76 : decode cX3_layRest 76 = .ok (.aload_n 0, 1) := by decide +kernel
theorem dX3_layRest_77 : decode cX3_layRest 77 = .ok (.getfield 27, 3) := by decide +kernel
theorem dX3_layRest_80 : decode cX3_layRest 80 = .ok (.iload_n 3, 1) := by decide +kernel
theorem dX3_layRest_81 : decode cX3_layRest 81 = .ok (.iload 5, 2) := by decide +kernel
theorem dX3_layRest_83 : decode cX3_layRest 83 = .ok (.ifCond .eq 7, 3) := by decide +kernel
theorem dX3_layRest_86 : decode cX3_layRest 86 = .ok (.lconst 1, 1) := by decide +kernel
theorem dX3_layRest_87 : decode cX3_layRest 87 = .ok (.goto 4, 3) := by decide +kernel
theorem dX3_layRest_90 : decode cX3_layRest 90 = .ok (.lconst 0, 1) := by decide +kernel
theorem dX3_layRest_91 : decode cX3_layRest 91 = .ok (.lastore, 1) := by decide +kernel
theorem dX3_layRest_92 : decode cX3_layRest 92 = .ok (.iconst 0, 1) := by decide +kernel
theorem dX3_layRest_93 : decode cX3_layRest 93 = .ok (.istore 6, 2) := by decide +kernel
theorem dX3_layRest_95 : decode cX3_layRest 95 = .ok (.iload 6, 2) := by decide +kernel
theorem dX3_layRest_97 : decode cX3_layRest 97 = .ok (.bipush 64, 2) := by decide +kernel
theorem dX3_layRest_99 : decode cX3_layRest 99 = .ok (.if_icmp .ge 138, 3) := by decide +kernel
theorem dX3_layRest_102 : decode cX3_layRest 102 = .ok (.iload 5, 2) := by decide +kernel
theorem dX3_layRest_104 : decode cX3_layRest 104 = .ok (.ifCond .ne 133, 3) := by decide +kernel
theorem dX3_layRest_107 : decode cX3_layRest 107 = .ok (.iload_n 1, 1) := by decide +kernel
theorem dX3_layRest_108 : decode cX3_layRest 108 = .ok (.iconst 1, 1) := by decide +kernel
theorem dX3_layRest_109 : decode cX3_layRest 109 = .ok (.iadd, 1) := by decide +kernel
theorem dX3_layRest_110 : decode cX3_layRest 110 = .ok (.iload 6, 2) := by decide +kernel
theorem dX3_layRest_112 : decode cX3_layRest 112 = .ok (.invokestatic 77, 3) := by decide +kernel
theorem dX3_layRest_115 : decode cX3_layRest 115 = .ok (.istore 7, 2) := by decide +kernel
theorem dX3_layRest_117 : decode cX3_layRest 117 = .ok (.aload_n 0, 1) := by decide +kernel
theorem dX3_layRest_118 : decode cX3_layRest 118 = .ok (.getfield 23, 3) := by decide +kernel
theorem dX3_layRest_121 : decode cX3_layRest 121 = .ok (.iload 7, 2) := by decide +kernel
theorem dX3_layRest_123 : decode cX3_layRest 123 = .ok (.laload, 1) := by decide +kernel
theorem dX3_layRest_124 : decode cX3_layRest 124 = .ok (.lconst 0, 1) := by decide +kernel
theorem dX3_layRest_125 : decode cX3_layRest 125 = .ok (.lcmp, 1) := by decide +kernel
theorem dX3_layRest_126 : decode cX3_layRest 126 = .ok (.ifCond .le 105, 3) := by decide +kernel
theorem dX3_layRest_129 : decode cX3_layRest 129 = .ok (.iload 4, 2) := by decide +kernel
theorem dX3_layRest_131 : decode cX3_layRest 131 = .ok (.aload_n 0, 1) := by decide +kernel
theorem dX3_layRest_132 : decode cX3_layRest 132 = .ok (.iload_n 2, 1) := by decide +kernel
theorem dX3_layRest_133 : decode cX3_layRest 133 = .ok (.iload 6, 2) := by decide +kernel
theorem dX3_layRest_135 : decode cX3_layRest 135 = .ok (.invokevirtual 74, 3) := by decide +kernel
theorem dX3_layRest_138 : decode cX3_layRest 138 = .ok (.iadd, 1) := by decide +kernel
theorem dX3_layRest_139 : decode cX3_layRest 139 = .ok (.aload_n 0, 1) := by decide +kernel
theorem dX3_layRest_140 : decode cX3_layRest 140 = .ok (.getfield 20, 3) := by decide +kernel
theorem dX3_layRest_143 : decode cX3_layRest 143 = .ok (.iload 7, 2) := by decide +kernel
theorem dX3_layRest_145 : decode cX3_layRest 145 = .ok (.iaload, 1) := by decide +kernel
theorem dX3_layRest_146 : decode cX3_layRest 146 = .ok (.iadd, 1) := by decide +kernel
theorem dX3_layRest_147 : decode cX3_layRest 147 = .ok (.istore 8, 2) := by decide +kernel
theorem dX3_layRest_149 : decode cX3_layRest 149 = .ok (.aload_n 0, 1) := by decide +kernel
theorem dX3_layRest_150 : decode cX3_layRest 150 = .ok (.getfield 20, 3) := by decide +kernel
theorem dX3_layRest_153 : decode cX3_layRest 153 = .ok (.iload_n 3, 1) := by decide +kernel
theorem dX3_layRest_154 : decode cX3_layRest 154 = .ok (.iaload, 1) := by decide +kernel
theorem dX3_layRest_155 : decode cX3_layRest 155 = .ok (.ifCond .lt 14, 3) := by decide +kernel
theorem dX3_layRest_158 : decode cX3_layRest 158 = .ok (.iload 8, 2) := by decide +kernel
theorem dX3_layRest_160 : decode cX3_layRest 160 = .ok (.aload_n 0, 1) := by decide +kernel
theorem dX3_layRest_161 : decode cX3_layRest 161 = .ok (.getfield 20, 3) := by decide +kernel
theorem dX3_layRest_164 : decode cX3_layRest 164 = .ok (.iload_n 3, 1) := by decide +kernel
theorem dX3_layRest_165 : decode cX3_layRest 165 = .ok (.iaload, 1) := by decide +kernel
theorem dX3_layRest_166 : decode cX3_layRest 166 = .ok (.if_icmp .ge 18, 3) := by decide +kernel
theorem dX3_layRest_169 : decode cX3_layRest 169 = .ok (.aload_n 0, 1) := by decide +kernel
theorem dX3_layRest_170 : decode cX3_layRest 170 = .ok (.getfield 20, 3) := by decide +kernel
theorem dX3_layRest_173 : decode cX3_layRest 173 = .ok (.iload_n 3, 1) := by decide +kernel
theorem dX3_layRest_174 : decode cX3_layRest 174 = .ok (.iload 8, 2) := by decide +kernel
theorem dX3_layRest_176 : decode cX3_layRest 176 = .ok (.iastore, 1) := by decide +kernel
theorem dX3_layRest_177 : decode cX3_layRest 177 = .ok (.aload_n 0, 1) := by decide +kernel
theorem dX3_layRest_178 : decode cX3_layRest 178 = .ok (.getfield 27, 3) := by decide +kernel
theorem dX3_layRest_181 : decode cX3_layRest 181 = .ok (.iload_n 3, 1) := by decide +kernel
theorem dX3_layRest_182 : decode cX3_layRest 182 = .ok (.lconst 0, 1) := by decide +kernel
theorem dX3_layRest_183 : decode cX3_layRest 183 = .ok (.lastore, 1) := by decide +kernel
theorem dX3_layRest_184 : decode cX3_layRest 184 = .ok (.aload_n 0, 1) := by decide +kernel
theorem dX3_layRest_185 : decode cX3_layRest 185 = .ok (.getfield 27, 3) := by decide +kernel
theorem dX3_layRest_188 : decode cX3_layRest 188 = .ok (.iload_n 3, 1) := by decide +kernel
theorem dX3_layRest_189 : decode cX3_layRest 189 = .ok (.dup2, 1) := by decide +kernel
theorem dX3_layRest_190 : decode cX3_layRest 190 = .ok (.laload, 1) := by decide +kernel
theorem dX3_layRest_191 : decode cX3_layRest 191 = .ok (.iload 8, 2) := by decide +kernel
theorem dX3_layRest_193 : decode cX3_layRest 193 = .ok (.aload_n 0, 1) := by decide +kernel
theorem dX3_layRest_194 : decode cX3_layRest 194 = .ok (.getfield 20, 3) := by decide +kernel
theorem dX3_layRest_197 : decode cX3_layRest 197 = .ok (.iload_n 3, 1) := by decide +kernel
theorem dX3_layRest_198 : decode cX3_layRest 198 = .ok (.iaload, 1) := by decide +kernel
theorem dX3_layRest_199 : decode cX3_layRest 199 = .ok (.if_icmp .ne 13, 3) := by decide +kernel
theorem dX3_layRest_202 : decode cX3_layRest 202 = .ok (.aload_n 0, 1) := by decide +kernel
theorem dX3_layRest_203 : decode cX3_layRest 203 = .ok (.getfield 27, 3) := by decide +kernel
theorem dX3_layRest_206 : decode cX3_layRest 206 = .ok (.iload 7, 2) := by decide +kernel
theorem dX3_layRest_208 : decode cX3_layRest 208 = .ok (.laload, 1) := by decide +kernel
theorem dX3_layRest_209 : decode cX3_layRest 209 = .ok (.goto 4, 3) := by decide +kernel
theorem dX3_layRest_212 : decode cX3_layRest 212 = .ok (.lconst 0, 1) := by decide +kernel
theorem dX3_layRest_213 : decode cX3_layRest 213 = .ok (.ladd, 1) := by decide +kernel
theorem dX3_layRest_214 : decode cX3_layRest 214 = .ok (.lastore, 1) := by decide +kernel
theorem dX3_layRest_215 : decode cX3_layRest 215 = .ok (.aload_n 0, 1) := by decide +kernel
theorem dX3_layRest_216 : decode cX3_layRest 216 = .ok (.getfield 23, 3) := by decide +kernel
theorem dX3_layRest_219 : decode cX3_layRest 219 = .ok (.iload_n 3, 1) := by decide +kernel
theorem dX3_layRest_220 : decode cX3_layRest 220 = .ok (.dup2, 1) := by decide +kernel
theorem dX3_layRest_221 : decode cX3_layRest 221 = .ok (.laload, 1) := by decide +kernel
theorem dX3_layRest_222 : decode cX3_layRest 222 = .ok (.aload_n 0, 1) := by decide +kernel
theorem dX3_layRest_223 : decode cX3_layRest 223 = .ok (.getfield 23, 3) := by decide +kernel
theorem dX3_layRest_226 : decode cX3_layRest 226 = .ok (.iload 7, 2) := by decide +kernel
theorem dX3_layRest_228 : decode cX3_layRest 228 = .ok (.laload, 1) := by decide +kernel
theorem dX3_layRest_229 : decode cX3_layRest 229 = .ok (.ladd, 1) := by decide +kernel
theorem dX3_layRest_230 : decode cX3_layRest 230 = .ok (.lastore, 1) := by decide +kernel
theorem dX3_layRest_231 : decode cX3_layRest 231 = .ok (.iinc 6 1, 3) := by decide +kernel
theorem dX3_layRest_234 : decode cX3_layRest 234 = .ok (.goto (-139), 3) := by decide +kernel
theorem dX3_layRest_237 : decode cX3_layRest 237 = .ok (.return_, 1) := by decide +kernel
set_option maxRecDepth 20000 in
theorem ggX3_layAllRests_X3_at : GoodIn wsX3_layAllRests wsX3_at := goodIn_r _ [6] (by decide +kernel) (by decide +kernel)
set_option maxRecDepth 20000 in
theorem gX3_layAllRests_X3_at : GoodIn wsX3_layAllRests (va_wsS RX3 77 yX3_at wsX3_at) := goodIn_app (goodIn_of _ (by decide +kernel)) ggX3_layAllRests_X3_at
set_option maxRecDepth 20000 in
theorem ggX3_layAllRests_X3_isAt : GoodIn wsX3_layAllRests wsX3_isAt := goodIn_r _ [10, 1, 11, 12, 13, 5, 14, 15, 16, 17, 18, 19, 20, 21, 22, 23, 24, 25, 26, 27, 28, 29, 30, 31, 32, 33, 34, 35, 36, 37, 38, 39, 40, 41, 42, 57, 58, 59, 60, 61, 62, 63] (by decide +kernel) (by decide +kernel)
set_option maxRecDepth 20000 in
theorem gX3_layAllRests_X3_isAt : GoodIn wsX3_layAllRests (wsV RX3 83 RX3 yX3_isAt wsX3_isAt) := goodIn_app (goodIn_of _ (by decide +kernel)) ggX3_layAllRests_X3_isAt
set_option maxRecDepth 20000 in
theorem ggX3_layAllRests_X3_layRest : GoodIn wsX3_layAllRests wsX3_layRest := goodIn_r _ [46, 1, 47, 2, 48, 3, 4, 5, 6, 49, 50, 51, 52, 26, 27, 28, 29, 30, 31, 32, 33, 34, 35, 36, 37, 38, 39, 40, 41, 42, 53, 54, 55, 56, 57, 58, 59, 60, 61, 62, 63] (by decide +kernel) (by decide +kernel)
set_option maxRecDepth 20000 in
theorem gX3_layAllRests_X3_layRest : GoodIn wsX3_layAllRests (wsV RX3 86 RX3 yX3_layRest wsX3_layRest) := goodIn_app (goodIn_of _ (by decide +kernel)) ggX3_layAllRests_X3_layRest
theorem dX3_layAllRests_0 : decode cX3_layAllRests 0 = .ok (.aload_n 0, 1) := by decide +kernel
theorem dX3_layAllRests_1 : decode cX3_layAllRests 1 = .ok (.getfield 7, 3) := by decide +kernel
theorem dX3_layAllRests_4 : decode cX3_layAllRests 4 = .ok (.bipush 9, 2) := by decide +kernel
theorem dX3_layAllRests_6 : decode cX3_layAllRests 6 = .ok (.iaload, 1) := by decide +kernel
theorem dX3_layAllRests_7 : decode cX3_layAllRests 7 = .ok (.iconst 1, 1) := by decide +kernel
theorem dX3_layAllRests_8 : decode cX3_layAllRests 8 = .ok (.isub, 1) := by decide +kernel
theorem dX3_layAllRests_9 : decode cX3_layAllRests 9 = .ok (.istore_n 1, 1) := by decide +kernel
theorem dX3_layAllRests_10 : decode cX3_layAllRests 10 = .ok (.iload_n 1, 1) := by decide +kernel
theorem dX3_layAllRests_11 : decode cX3_layAllRests 11 = .ok (.ifCond .lt 49, 3) := by decide +kernel
theorem dX3_layAllRests_14 : decode cX3_layAllRests 14 = .ok (.iconst 0, 1) := by decide +kernel
theorem dX3_layAllRests_15 : decode cX3_layAllRests 15 = .ok (.istore_n 2, 1) := by decide +kernel
theorem dX3_layAllRests_16 : decode cX3_layAllRests 16 = .ok (.iload_n 2, 1) := by decide +kernel
theorem dX3_layAllRests_17 : decode cX3_layAllRests 17 = .ok (.bipush 64, 2) := by decide +kernel
theorem dX3_layAllRests_19 : decode cX3_layAllRests 19 = .ok (.if_icmp .ge 35, 3) := by decide +kernel
theorem dX3_layAllRests_22 : decode cX3_layAllRests 22 = .ok (.aload_n 0, 1) := by decide +kernel
theorem dX3_layAllRests_23 : decode cX3_layAllRests 23 = .ok (.getfield 23, 3) := by decide +kernel
theorem dX3_layAllRests_26 : decode cX3_layAllRests 26 = .ok (.iload_n 1, 1) := by decide +kernel
theorem dX3_layAllRests_27 : decode cX3_layAllRests 27 = .ok (.iload_n 2, 1) := by decide +kernel
theorem dX3_layAllRests_28 : decode cX3_layAllRests 28 = .ok (.invokestatic 77, 3) := by decide +kernel
theorem dX3_layAllRests_31 : decode cX3_layAllRests 31 = .ok (.lconst 0, 1) := by decide +kernel
theorem dX3_layAllRests_32 : decode cX3_layAllRests 32 = .ok (.lastore, 1) := by decide +kernel
theorem dX3_layAllRests_33 : decode cX3_layAllRests 33 = .ok (.aload_n 0, 1) := by decide +kernel
theorem dX3_layAllRests_34 : decode cX3_layAllRests 34 = .ok (.iload_n 1, 1) := by decide +kernel
theorem dX3_layAllRests_35 : decode cX3_layAllRests 35 = .ok (.iload_n 2, 1) := by decide +kernel
theorem dX3_layAllRests_36 : decode cX3_layAllRests 36 = .ok (.invokevirtual 83, 3) := by decide +kernel
theorem dX3_layAllRests_39 : decode cX3_layAllRests 39 = .ok (.ifCond .eq 9, 3) := by decide +kernel
theorem dX3_layAllRests_42 : decode cX3_layAllRests 42 = .ok (.aload_n 0, 1) := by decide +kernel
theorem dX3_layAllRests_43 : decode cX3_layAllRests 43 = .ok (.iload_n 1, 1) := by decide +kernel
theorem dX3_layAllRests_44 : decode cX3_layAllRests 44 = .ok (.iload_n 2, 1) := by decide +kernel
theorem dX3_layAllRests_45 : decode cX3_layAllRests 45 = .ok (.invokevirtual 86, 3) := by decide +kernel
theorem dX3_layAllRests_48 : decode cX3_layAllRests 48 = .ok (.iinc 2 1, 3) := by decide +kernel
theorem dX3_layAllRests_51 : decode cX3_layAllRests 51 = .ok (.goto (-35), 3) := by decide +kernel
theorem dX3_layAllRests_54 : decode cX3_layAllRests 54 = .ok (.iinc 1 (-1), 3) := by decide +kernel
theorem dX3_layAllRests_57 : decode cX3_layAllRests 57 = .ok (.goto (-47), 3) := by decide +kernel
theorem dX3_layAllRests_60 : decode cX3_layAllRests 60 = .ok (.return_, 1) := by decide +kernel
theorem dX3_leastOfAll_0 : decode cX3_leastOfAll 0 = .ok (.aload_n 0, 1) := by decide +kernel
theorem dX3_leastOfAll_1 : decode cX3_leastOfAll 1 = .ok (.getfield 7, 3) := by decide +kernel
theorem dX3_leastOfAll_4 : decode cX3_leastOfAll 4 = .ok (.bipush 9, 2) := by decide +kernel
theorem dX3_leastOfAll_6 : decode cX3_leastOfAll 6 = .ok (.iaload, 1) := by decide +kernel
theorem dX3_leastOfAll_7 : decode cX3_leastOfAll 7 = .ok (.ifCond .ne 5, 3) := by decide +kernel
theorem dX3_leastOfAll_10 : decode cX3_leastOfAll 10 = .ok (.iconst 0, 1) := by decide +kernel
theorem dX3_leastOfAll_11 : decode cX3_leastOfAll 11 = .ok (.ireturn, 1) := by decide +kernel
theorem dX3_leastOfAll_12 : decode cX3_leastOfAll 12 = .ok (.bipush (-6), 2) := by decide +kernel
theorem dX3_leastOfAll_14 : decode cX3_leastOfAll 14 = .ok (.istore_n 1, 1) := by decide +kernel
theorem dX3_leastOfAll_15 : decode cX3_leastOfAll 15 = .ok (.iconst 0, 1) := by decide +kernel
theorem dX3_leastOfAll_16 : decode cX3_leastOfAll 16 = .ok (.istore_n 2, 1) := by decide +kernel
theorem dX3_leastOfAll_17 : decode cX3_leastOfAll 17 = .ok (.iload_n 2, 1) := by decide +kernel
theorem dX3_leastOfAll_18 : decode cX3_leastOfAll 18 = .ok (.bipush 64, 2) := by decide +kernel
theorem dX3_leastOfAll_20 : decode cX3_leastOfAll 20 = .ok (.if_icmp .ge 55, 3) := by decide +kernel
theorem dX3_leastOfAll_23 : decode cX3_leastOfAll 23 = .ok (.aload_n 0, 1) := by decide +kernel
theorem dX3_leastOfAll_24 : decode cX3_leastOfAll 24 = .ok (.getfield 23, 3) := by decide +kernel
theorem dX3_leastOfAll_27 : decode cX3_leastOfAll 27 = .ok (.iload_n 2, 1) := by decide +kernel
theorem dX3_leastOfAll_28 : decode cX3_leastOfAll 28 = .ok (.laload, 1) := by decide +kernel
theorem dX3_leastOfAll_29 : decode cX3_leastOfAll 29 = .ok (.lconst 0, 1) := by decide +kernel
theorem dX3_leastOfAll_30 : decode cX3_leastOfAll 30 = .ok (.lcmp, 1) := by decide +kernel
theorem dX3_leastOfAll_31 : decode cX3_leastOfAll 31 = .ok (.ifCond .le 21, 3) := by decide +kernel
theorem dX3_leastOfAll_34 : decode cX3_leastOfAll 34 = .ok (.iload_n 1, 1) := by decide +kernel
theorem dX3_leastOfAll_35 : decode cX3_leastOfAll 35 = .ok (.ifCond .lt 13, 3) := by decide +kernel
theorem dX3_leastOfAll_38 : decode cX3_leastOfAll 38 = .ok (.aload_n 0, 1) := by decide +kernel
theorem dX3_leastOfAll_39 : decode cX3_leastOfAll 39 = .ok (.getfield 20, 3) := by decide +kernel
theorem dX3_leastOfAll_42 : decode cX3_leastOfAll 42 = .ok (.iload_n 2, 1) := by decide +kernel
theorem dX3_leastOfAll_43 : decode cX3_leastOfAll 43 = .ok (.iaload, 1) := by decide +kernel
theorem dX3_leastOfAll_44 : decode cX3_leastOfAll 44 = .ok (.iload_n 1, 1) := by decide +kernel
theorem dX3_leastOfAll_45 : decode cX3_leastOfAll 45 = .ok (.if_icmp .ge 7, 3) := by decide +kernel
theorem dX3_leastOfAll_48 : decode cX3_leastOfAll 48 = .ok (.iconst 1, 1) := by decide +kernel
theorem dX3_leastOfAll_49 : decode cX3_leastOfAll 49 = .ok (.goto 4, 3) := by decide +kernel
theorem dX3_leastOfAll_52 : decode cX3_leastOfAll 52 = .ok (.iconst 0, 1) := by decide +kernel
theorem dX3_leastOfAll_53 : decode cX3_leastOfAll 53 = .ok (.istore_n 3, 1) := by decide +kernel
theorem dX3_leastOfAll_54 : decode cX3_leastOfAll 54 = .ok (.iload_n 3, 1) := by decide +kernel
theorem dX3_leastOfAll_55 : decode cX3_leastOfAll 55 = .ok (.ifCond .eq 12, 3) := by decide +kernel
theorem dX3_leastOfAll_58 : decode cX3_leastOfAll 58 = .ok (.aload_n 0, 1) := by decide +kernel
theorem dX3_leastOfAll_59 : decode cX3_leastOfAll 59 = .ok (.getfield 20, 3) := by decide +kernel
theorem dX3_leastOfAll_62 : decode cX3_leastOfAll 62 = .ok (.iload_n 2, 1) := by decide +kernel
theorem dX3_leastOfAll_63 : decode cX3_leastOfAll 63 = .ok (.iaload, 1) := by decide +kernel
theorem dX3_leastOfAll_64 : decode cX3_leastOfAll 64 = .ok (.goto 4, 3) := by decide +kernel
theorem dX3_leastOfAll_67 : decode cX3_leastOfAll 67 = .ok (.iload_n 1, 1) := by decide +kernel
theorem dX3_leastOfAll_68 : decode cX3_leastOfAll 68 = .ok (.istore_n 1, 1) := by decide +kernel
theorem dX3_leastOfAll_69 : decode cX3_leastOfAll 69 = .ok (.iinc 2 1, 3) := by decide +kernel
theorem dX3_leastOfAll_72 : decode cX3_leastOfAll 72 = .ok (.goto (-55), 3) := by decide +kernel
theorem dX3_leastOfAll_75 : decode cX3_leastOfAll 75 = .ok (.iload_n 1, 1) := by decide +kernel
theorem dX3_leastOfAll_76 : decode cX3_leastOfAll 76 = .ok (.ireturn, 1) := by decide +kernel
set_option maxRecDepth 20000 in
theorem ggX3_nextWay_X3_effortOf : GoodIn wsX3_nextWay wsX3_effortOf := goodIn_r _ [7, 8, 9, 10, 6, 11, 12, 13, 14, 18, 19, 20, 21, 22, 23, 24] (by decide +kernel) (by decide +kernel)
set_option maxRecDepth 20000 in
theorem gX3_nextWay_X3_effortOf : GoodIn wsX3_nextWay (wsV RX3 74 RX3 yX3_effortOf wsX3_effortOf) := goodIn_app (goodIn_of _ (by decide +kernel)) ggX3_nextWay_X3_effortOf
set_option maxRecDepth 20000 in
theorem ggX3_nextWay_X3_at : GoodIn wsX3_nextWay wsX3_at := goodIn_r _ [17] (by decide +kernel) (by decide +kernel)
set_option maxRecDepth 20000 in
theorem gX3_nextWay_X3_at : GoodIn wsX3_nextWay (va_wsS RX3 77 yX3_at wsX3_at) := goodIn_app (goodIn_of _ (by decide +kernel)) ggX3_nextWay_X3_at
theorem dX3_nextWay_0 : decode cX3_nextWay 0 = .ok (.iconst 0, 1) := by decide +kernel
theorem dX3_nextWay_1 : decode cX3_nextWay 1 = .ok (.istore 4, 2) := by decide +kernel
theorem dX3_nextWay_3 : decode cX3_nextWay 3 = .ok (.iload 4, 2) := by decide +kernel
theorem dX3_nextWay_5 : decode cX3_nextWay 5 = .ok (.bipush 64, 2) := by decide +kernel
theorem dX3_nextWay_7 : decode cX3_nextWay 7 = .ok (.if_icmp .ge 63, 3) := by decide +kernel
theorem dX3_nextWay_10 : decode cX3_nextWay 10 = .ok (.iload_n 1, 1) := by decide +kernel
theorem dX3_nextWay_11 : decode cX3_nextWay 11 = .ok (.ifCond .ne 7, 3) := by decide +kernel
theorem dX3_nextWay_14 : decode cX3_nextWay 14 = .ok (.iconst 0, 1) := by decide +kernel
theorem dX3_nextWay_15 : decode cX3_nextWay 15 = .ok (.goto 10, 3) := by decide +kernel
theorem dX3_nextWay_18 : decode cX3_nextWay 18 = .ok (.aload_n 0, 1) := by decide +kernel
theorem dX3_nextWay_19 : decode cX3_nextWay 19 = .ok (.iload_n 2, 1) := by decide +kernel
theorem dX3_nextWay_20 : decode cX3_nextWay 20 = .ok (.iload 4, 2) := by decide +kernel
theorem dX3_nextWay_22 : decode cX3_nextWay 22 = .ok (.invokevirtual 74, 3) := by decide +kernel
theorem dX3_nextWay_25 : decode cX3_nextWay 25 = .ok (.aload_n 0, 1) := by decide +kernel
theorem dX3_nextWay_26 : decode cX3_nextWay 26 = .ok (.getfield 20, 3) := by decide +kernel
theorem dX3_nextWay_29 : decode cX3_nextWay 29 = .ok (.iload_n 1, 1) := by decide +kernel
theorem dX3_nextWay_30 : decode cX3_nextWay 30 = .ok (.iload 4, 2) := by decide +kernel
theorem dX3_nextWay_32 : decode cX3_nextWay 32 = .ok (.invokestatic 77, 3) := by decide +kernel
theorem dX3_nextWay_35 : decode cX3_nextWay 35 = .ok (.iaload, 1) := by decide +kernel
theorem dX3_nextWay_36 : decode cX3_nextWay 36 = .ok (.iadd, 1) := by decide +kernel
theorem dX3_nextWay_37 : decode cX3_nextWay 37 = .ok (.istore 5, 2) := by decide +kernel
theorem dX3_nextWay_39 : decode cX3_nextWay 39 = .ok (.aload_n 0, 1) := by decide +kernel
theorem dX3_nextWay_40 : decode cX3_nextWay 40 = .ok (.getfield 23, 3) := by decide +kernel
theorem dX3_nextWay_43 : decode cX3_nextWay 43 = .ok (.iload_n 1, 1) := by decide +kernel
theorem dX3_nextWay_44 : decode cX3_nextWay 44 = .ok (.iload 4, 2) := by decide +kernel
theorem dX3_nextWay_46 : decode cX3_nextWay 46 = .ok (.invokestatic 77, 3) := by decide +kernel
theorem dX3_nextWay_49 : decode cX3_nextWay 49 = .ok (.laload, 1) := by decide +kernel
theorem dX3_nextWay_50 : decode cX3_nextWay 50 = .ok (.lconst 0, 1) := by decide +kernel
theorem dX3_nextWay_51 : decode cX3_nextWay 51 = .ok (.lcmp, 1) := by decide +kernel
theorem dX3_nextWay_52 : decode cX3_nextWay 52 = .ok (.ifCond .le 12, 3) := by decide +kernel
theorem dX3_nextWay_55 : decode cX3_nextWay 55 = .ok (.iload 5, 2) := by decide +kernel
theorem dX3_nextWay_57 : decode cX3_nextWay 57 = .ok (.iload_n 3, 1) := by decide +kernel
theorem dX3_nextWay_58 : decode cX3_nextWay 58 = .ok (.if_icmp .ne 6, 3) := by decide +kernel
theorem dX3_nextWay_61 : decode cX3_nextWay 61 = .ok (.iload 4, 2) := by decide +kernel
theorem dX3_nextWay_63 : decode cX3_nextWay 63 = .ok (.ireturn, 1) := by decide +kernel
theorem dX3_nextWay_64 : decode cX3_nextWay 64 = .ok (.iinc 4 1, 3) := by decide +kernel
theorem dX3_nextWay_67 : decode cX3_nextWay 67 = .ok (.goto (-64), 3) := by decide +kernel
theorem dX3_nextWay_70 : decode cX3_nextWay 70 = .ok (.bipush (-6), 2) := by decide +kernel
theorem dX3_nextWay_72 : decode cX3_nextWay 72 = .ok (.ireturn, 1) := by decide +kernel
set_option maxRecDepth 20000 in
theorem ggX3_least_X3_layAllRests : GoodIn wsX3_least wsX3_layAllRests := goodIn_r _ [7, 1, 8, 9, 10, 6, 11, 12, 13, 14, 15, 16, 17, 18, 19, 20, 21, 22, 23, 24, 25, 26, 27, 28, 29, 30, 31, 32, 33, 34, 35, 36, 37, 38, 39, 40, 41, 42, 43, 44, 45, 46, 47, 48, 49, 50, 51, 2, 52, 53, 54, 55, 56, 57, 58, 59, 60, 69, 70, 71, 72, 73, 74, 75] (by decide +kernel) (by decide +kernel)
set_option maxRecDepth 20000 in
theorem gX3_least_X3_layAllRests : GoodIn wsX3_least (wsV RX3 90 RX3 yX3_layAllRests wsX3_layAllRests) := goodIn_app (goodIn_of _ (by decide +kernel)) ggX3_least_X3_layAllRests
set_option maxRecDepth 20000 in
theorem ggX3_least_X3_leastOfAll : GoodIn wsX3_least wsX3_leastOfAll := goodIn_r _ [64, 1, 8, 2, 69, 70, 71, 72, 73, 74, 75] (by decide +kernel) (by decide +kernel)
set_option maxRecDepth 20000 in
theorem gX3_least_X3_leastOfAll : GoodIn wsX3_least (wsV RX3 93 RX3 yX3_leastOfAll wsX3_leastOfAll) := goodIn_app (goodIn_of _ (by decide +kernel)) ggX3_least_X3_leastOfAll
set_option maxRecDepth 20000 in
theorem ggX3_least_X3_nextWay : GoodIn wsX3_least wsX3_nextWay := goodIn_r _ [68, 2, 8, 57, 58, 59, 6, 60, 1, 42, 43, 44, 45, 46, 47, 9, 10, 11, 69, 70, 71, 72, 73, 74, 75] (by decide +kernel) (by decide +kernel)
set_option maxRecDepth 20000 in
theorem gX3_least_X3_nextWay : GoodIn wsX3_least (wsV RX3 97 RX3 yX3_nextWay wsX3_nextWay) := goodIn_app (goodIn_of _ (by decide +kernel)) ggX3_least_X3_nextWay
set_option maxRecDepth 20000 in
theorem ggX3_least_X3_at : GoodIn wsX3_least wsX3_at := goodIn_r _ [11] (by decide +kernel) (by decide +kernel)
set_option maxRecDepth 20000 in
theorem gX3_least_X3_at : GoodIn wsX3_least (va_wsS RX3 77 yX3_at wsX3_at) := goodIn_app (goodIn_of _ (by decide +kernel)) ggX3_least_X3_at
set_option maxRecDepth 20000 in
theorem ggX3_least_X3_faultOf : GoodIn wsX3_least wsX3_faultOf := goodIn_r _ [56, 1, 31, 32, 33, 6, 34, 35, 36, 37, 38, 39, 40, 41, 42, 43, 44, 45, 46, 47, 69, 70, 71, 72, 73, 74, 75] (by decide +kernel) (by decide +kernel)
set_option maxRecDepth 20000 in
theorem gX3_least_X3_faultOf : GoodIn wsX3_least (wsV RX3 80 RX3 yX3_faultOf wsX3_faultOf) := goodIn_app (goodIn_of _ (by decide +kernel)) ggX3_least_X3_faultOf
theorem dX3_least_0 : decode cX3_least 0 = .ok (.iload_n 1, 1) := by decide +kernel
theorem dX3_least_1 : decode cX3_least 1 = .ok (.iconst (-1), 1) := by decide +kernel
theorem dX3_least_2 : decode cX3_least 2 = .ok (.if_icmp .ge 6, 3) := by decide +kernel
theorem dX3_least_5 : decode cX3_least 5 = .ok (.bipush (-2), 2) := by decide +kernel
theorem dX3_least_7 : decode cX3_least 7 = .ok (.ireturn, 1) := by decide +kernel
theorem dX3_least_8 : decode cX3_least 8 = .ok (.aload_n 0, 1) := by decide +kernel
theorem dX3_least_9 : decode cX3_least 9 = .ok (.invokevirtual 90, 3) := by decide +kernel
theorem dX3_least_12 : decode cX3_least 12 = .ok (.aload_n 0, 1) := by decide +kernel
theorem dX3_least_13 : decode cX3_least 13 = .ok (.invokevirtual 93, 3) := by decide +kernel
theorem dX3_least_16 : decode cX3_least 16 = .ok (.istore_n 2, 1) := by decide +kernel
theorem dX3_least_17 : decode cX3_least 17 = .ok (.iload_n 1, 1) := by decide +kernel
theorem dX3_least_18 : decode cX3_least 18 = .ok (.iconst (-1), 1) := by decide +kernel
theorem dX3_least_19 : decode cX3_least 19 = .ok (.if_icmp .eq 18, 3) := by decide +kernel
theorem dX3_least_22 : decode cX3_least 22 = .ok (.iload_n 2, 1) := by decide +kernel
theorem dX3_least_23 : decode cX3_least 23 = .ok (.ifCond .lt 14, 3) := by decide +kernel
theorem dX3_least_26 : decode cX3_least 26 = .ok (.iload_n 1, 1) := by decide +kernel
theorem dX3_least_27 : decode cX3_least 27 = .ok (.aload_n 0, 1) := by decide +kernel
theorem dX3_least_28 : decode cX3_least 28 = .ok (.getfield 7, 3) := by decide +kernel
theorem dX3_least_31 : decode cX3_least 31 = .ok (.bipush 9, 2) := by decide +kernel
theorem dX3_least_33 : decode cX3_least 33 = .ok (.iaload, 1) := by decide +kernel
theorem dX3_least_34 : decode cX3_least 34 = .ok (.if_icmp .lt 15, 3) := by decide +kernel
theorem dX3_least_37 : decode cX3_least 37 = .ok (.iload_n 1, 1) := by decide +kernel
theorem dX3_least_38 : decode cX3_least 38 = .ok (.iconst (-1), 1) := by decide +kernel
theorem dX3_least_39 : decode cX3_least 39 = .ok (.if_icmp .ne 7, 3) := by decide +kernel
theorem dX3_least_42 : decode cX3_least 42 = .ok (.iload_n 2, 1) := by decide +kernel
theorem dX3_least_43 : decode cX3_least 43 = .ok (.goto 5, 3) := by decide +kernel
theorem dX3_least_46 : decode cX3_least 46 = .ok (.bipush (-6), 2) := by decide +kernel
theorem dX3_least_48 : decode cX3_least 48 = .ok (.ireturn, 1) := by decide +kernel
theorem dX3_least_49 : decode cX3_least 49 = .ok (.aload_n 0, 1) := by decide +kernel
theorem dX3_least_50 : decode cX3_least 50 = .ok (.iconst 0, 1) := by decide +kernel
theorem dX3_least_51 : decode cX3_least 51 = .ok (.iconst 0, 1) := by decide +kernel
theorem dX3_least_52 : decode cX3_least 52 = .ok (.iload_n 2, 1) := by decide +kernel
theorem dX3_least_53 : decode cX3_least 53 = .ok (.invokevirtual 97, 3) := by decide +kernel
theorem dX3_least_56 : decode cX3_least 56 = .ok (.istore_n 3, 1) := by decide +kernel
theorem dX3_least_57 : decode cX3_least 57 = .ok (.iconst 1, 1) := by decide +kernel
theorem dX3_least_58 : decode cX3_least 58 = .ok (.istore 4, 2) := by decide +kernel
theorem dX3_least_60 : decode cX3_least 60 = .ok (.iload 4, 2) := by decide +kernel
theorem dX3_least_62 : decode cX3_least 62 = .ok (.iload_n 1, 1) := by decide +kernel
theorem dX3_least_63 : decode cX3_least 63 = .ok (.if_icmp .gt 52, 3) := by decide +kernel
theorem dX3_least_66 : decode cX3_least 66 = .ok (.aload_n 0, 1) := by decide +kernel
theorem dX3_least_67 : decode cX3_least 67 = .ok (.getfield 20, 3) := by decide +kernel
theorem dX3_least_70 : decode cX3_least 70 = .ok (.iload 4, 2) := by decide +kernel
theorem dX3_least_72 : decode cX3_least 72 = .ok (.iconst 1, 1) := by decide +kernel
theorem dX3_least_73 : decode cX3_least 73 = .ok (.isub, 1) := by decide +kernel
theorem dX3_least_74 : decode cX3_least 74 = .ok (.iload_n 3, 1) := by decide +kernel
theorem dX3_least_75 : decode cX3_least 75 = .ok (.invokestatic 77, 3) := by decide +kernel
theorem dX3_least_78 : decode cX3_least 78 = .ok (.iaload, 1) := by decide +kernel
theorem dX3_least_79 : decode cX3_least 79 = .ok (.aload_n 0, 1) := by decide +kernel
theorem dX3_least_80 : decode cX3_least 80 = .ok (.iload_n 3, 1) := by decide +kernel
theorem dX3_least_81 : decode cX3_least 81 = .ok (.aload_n 0, 1) := by decide +kernel
theorem dX3_least_82 : decode cX3_least 82 = .ok (.getfield 7, 3) := by decide +kernel
theorem dX3_least_85 : decode cX3_least 85 = .ok (.bipush 10, 2) := by decide +kernel
theorem dX3_least_87 : decode cX3_least 87 = .ok (.iload 4, 2) := by decide +kernel
theorem dX3_least_89 : decode cX3_least 89 = .ok (.iadd, 1) := by decide +kernel
theorem dX3_least_90 : decode cX3_least 90 = .ok (.iconst 1, 1) := by decide +kernel
theorem dX3_least_91 : decode cX3_least 91 = .ok (.isub, 1) := by decide +kernel
theorem dX3_least_92 : decode cX3_least 92 = .ok (.iaload, 1) := by decide +kernel
theorem dX3_least_93 : decode cX3_least 93 = .ok (.invokevirtual 80, 3) := by decide +kernel
theorem dX3_least_96 : decode cX3_least 96 = .ok (.isub, 1) := by decide +kernel
theorem dX3_least_97 : decode cX3_least 97 = .ok (.istore 5, 2) := by decide +kernel
theorem dX3_least_99 : decode cX3_least 99 = .ok (.aload_n 0, 1) := by decide +kernel
theorem dX3_least_100 : decode cX3_least 100 = .ok (.iload 4, 2) := by decide +kernel
theorem dX3_least_102 : decode cX3_least 102 = .ok (.iload_n 3, 1) := by decide +kernel
theorem dX3_least_103 : decode cX3_least 103 = .ok (.iload 5, 2) := by decide +kernel
theorem dX3_least_105 : decode cX3_least 105 = .ok (.invokevirtual 97, 3) := by decide +kernel
theorem dX3_least_108 : decode cX3_least 108 = .ok (.istore_n 3, 1) := by decide +kernel
theorem dX3_least_109 : decode cX3_least 109 = .ok (.iinc 4 1, 3) := by decide +kernel
theorem dX3_least_112 : decode cX3_least 112 = .ok (.goto (-52), 3) := by decide +kernel
theorem dX3_least_115 : decode cX3_least 115 = .ok (.iload_n 3, 1) := by decide +kernel
theorem dX3_least_116 : decode cX3_least 116 = .ok (.ireturn, 1) := by decide +kernel
set_option maxRecDepth 20000 in
theorem ggX3_layAhead_X3_at : GoodIn wsX3_layAhead wsX3_at := goodIn_r _ [6] (by decide +kernel) (by decide +kernel)
set_option maxRecDepth 20000 in
theorem gX3_layAhead_X3_at : GoodIn wsX3_layAhead (va_wsS RX3 77 yX3_at wsX3_at) := goodIn_app (goodIn_of _ (by decide +kernel)) ggX3_layAhead_X3_at
set_option maxRecDepth 20000 in
theorem ggX3_layAhead_X3_isAt : GoodIn wsX3_layAhead wsX3_isAt := goodIn_r _ [10, 1, 11, 12, 13, 5, 14, 15, 16, 17, 18, 19, 20, 21, 22, 23, 24, 25, 26, 27, 28, 29, 30, 31, 32, 33, 34, 35, 36, 37, 38, 39, 40, 41, 42, 55, 56, 57, 58, 59, 60, 61] (by decide +kernel) (by decide +kernel)
set_option maxRecDepth 20000 in
theorem gX3_layAhead_X3_isAt : GoodIn wsX3_layAhead (wsV RX3 83 RX3 yX3_isAt wsX3_isAt) := goodIn_app (goodIn_of _ (by decide +kernel)) ggX3_layAhead_X3_isAt
set_option maxRecDepth 20000 in
theorem ggX3_layAhead_X3_leastAhead : GoodIn wsX3_layAhead wsX3_leastAhead := goodIn_r _ [46, 2, 1, 3, 4, 5, 6, 47, 48, 49, 50, 26, 27, 28, 29, 30, 31, 32, 33, 34, 35, 36, 37, 38, 39, 40, 41, 42, 51, 52, 53, 54, 55, 56, 57, 58, 59, 60, 61] (by decide +kernel) (by decide +kernel)
set_option maxRecDepth 20000 in
theorem gX3_layAhead_X3_leastAhead : GoodIn wsX3_layAhead (wsV RX3 101 RX3 yX3_leastAhead wsX3_leastAhead) := goodIn_app (goodIn_of _ (by decide +kernel)) ggX3_layAhead_X3_leastAhead
theorem dX3_layAhead_0 : decode cX3_layAhead 0 = .ok (.iconst 0, 1) := by decide +kernel
theorem dX3_layAhead_1 : decode cX3_layAhead 1 = .ok (.istore_n 1, 1) := by decide +kernel
theorem dX3_layAhead_2 : decode cX3_layAhead 2 = .ok (.iload_n 1, 1) := by decide +kernel
theorem dX3_layAhead_3 : decode cX3_layAhead 3 = .ok (.aload_n 0, 1) := by decide +kernel
theorem dX3_layAhead_4 : decode cX3_layAhead 4 = .ok (.getfield 7, 3) := by decide +kernel
theorem dX3_layAhead_7 : decode cX3_layAhead 7 = .ok (.bipush 9, 2) := by decide +kernel
theorem dX3_layAhead_9 : decode cX3_layAhead 9 = .ok (.iaload, 1) := by decide +kernel
theorem dX3_layAhead_10 : decode cX3_layAhead 10 = .ok (.if_icmp .ge 61, 3) := by decide +kernel
theorem dX3_layAhead_13 : decode cX3_layAhead 13 = .ok (.iconst 0, 1) := by decide +kernel
theorem dX3_layAhead_14 : decode cX3_layAhead 14 = .ok (.istore_n 2, 1) := by decide +kernel
theorem dX3_layAhead_15 : decode cX3_layAhead 15 = .ok (.iload_n 2, 1) := by decide +kernel
theorem dX3_layAhead_16 : decode cX3_layAhead 16 = .ok (.bipush 64, 2) := by decide +kernel
theorem dX3_layAhead_18 : decode cX3_layAhead 18 = .ok (.if_icmp .ge 47, 3) := by decide +kernel
theorem dX3_layAhead_21 : decode cX3_layAhead 21 = .ok (.aload_n 0, 1) := by decide +kernel
theorem dX3_layAhead_22 : decode cX3_layAhead 22 = .ok (.getfield 30, 3) := by decide +kernel
theorem dX3_layAhead_25 : decode cX3_layAhead 25 = .ok (.iload_n 1, 1) := by decide +kernel
theorem dX3_layAhead_26 : decode cX3_layAhead 26 = .ok (.iload_n 2, 1) := by decide +kernel
theorem dX3_layAhead_27 : decode cX3_layAhead 27 = .ok (.invokestatic 77, 3) := by decide +kernel
theorem dX3_layAhead_30 : decode cX3_layAhead 30 = .ok (.aload_n 0, 1) := by decide +kernel
theorem dX3_layAhead_31 : decode cX3_layAhead 31 = .ok (.iload_n 1, 1) := by decide +kernel
theorem dX3_layAhead_32 : decode cX3_layAhead 32 = .ok (.iload_n 2, 1) := by decide +kernel
theorem dX3_layAhead_33 : decode cX3_layAhead 33 = .ok (.invokevirtual 83, 3) := by decide +kernel
theorem dX3_layAhead_36 : decode cX3_layAhead 36 = .ok (.ifCond .ne 8, 3) := by decide +kernel
theorem dX3_layAhead_39 : decode cX3_layAhead 39 = .ok (.bipush (-6), 2) := by decide +kernel
theorem dX3_layAhead_41 : decode cX3_layAhead 41 = .ok (.goto 17, 3) := by decide +kernel
theorem dX3_layAhead_44 : decode cX3_layAhead 44 = .ok (.iload_n 1, 1) := by decide +kernel
theorem dX3_layAhead_45 : decode cX3_layAhead 45 = .ok (.ifCond .ne 7, 3) := by decide +kernel
theorem dX3_layAhead_48 : decode cX3_layAhead 48 = .ok (.iconst 0, 1) := by decide +kernel
theorem dX3_layAhead_49 : decode cX3_layAhead 49 = .ok (.goto 9, 3) := by decide +kernel
theorem dX3_layAhead_52 : decode cX3_layAhead 52 = .ok (.aload_n 0, 1) := by decide +kernel
theorem dX3_layAhead_53 : decode cX3_layAhead 53 = .ok (.iload_n 1, 1) := by decide +kernel
theorem dX3_layAhead_54 : decode cX3_layAhead 54 = .ok (.iload_n 2, 1) := by decide +kernel
theorem dX3_layAhead_55 : decode cX3_layAhead 55 = .ok (.invokevirtual 101, 3) := by decide +kernel
theorem dX3_layAhead_58 : decode cX3_layAhead 58 = .ok (.iastore, 1) := by decide +kernel
theorem dX3_layAhead_59 : decode cX3_layAhead 59 = .ok (.iinc 2 1, 3) := by decide +kernel
theorem dX3_layAhead_62 : decode cX3_layAhead 62 = .ok (.goto (-47), 3) := by decide +kernel
theorem dX3_layAhead_65 : decode cX3_layAhead 65 = .ok (.iinc 1 1, 3) := by decide +kernel
theorem dX3_layAhead_68 : decode cX3_layAhead 68 = .ok (.goto (-66), 3) := by decide +kernel
theorem dX3_layAhead_71 : decode cX3_layAhead 71 = .ok (.return_, 1) := by decide +kernel
set_option maxRecDepth 20000 in
theorem ggX3_leastAhead_X3_at : GoodIn wsX3_leastAhead wsX3_at := goodIn_r _ [6] (by decide +kernel) (by decide +kernel)
set_option maxRecDepth 20000 in
theorem gX3_leastAhead_X3_at : GoodIn wsX3_leastAhead (va_wsS RX3 77 yX3_at wsX3_at) := goodIn_app (goodIn_of _ (by decide +kernel)) ggX3_leastAhead_X3_at
set_option maxRecDepth 20000 in
theorem ggX3_leastAhead_X3_faultOf : GoodIn wsX3_leastAhead wsX3_faultOf := goodIn_r _ [10, 2, 11, 12, 13, 5, 14, 15, 16, 17, 18, 19, 20, 21, 22, 23, 24, 25, 26, 27, 32, 33, 34, 35, 36, 37, 38] (by decide +kernel) (by decide +kernel)
set_option maxRecDepth 20000 in
theorem gX3_leastAhead_X3_faultOf : GoodIn wsX3_leastAhead (wsV RX3 80 RX3 yX3_faultOf wsX3_faultOf) := goodIn_app (goodIn_of _ (by decide +kernel)) ggX3_leastAhead_X3_faultOf
set_option maxRecDepth 20000 in
theorem ggX3_leastAhead_X3_effortOf : GoodIn wsX3_leastAhead wsX3_effortOf := goodIn_r _ [31, 2, 22, 23, 5, 24, 25, 26, 27, 32, 33, 34, 35, 36, 37, 38] (by decide +kernel) (by decide +kernel)
set_option maxRecDepth 20000 in
theorem gX3_leastAhead_X3_effortOf : GoodIn wsX3_leastAhead (wsV RX3 74 RX3 yX3_effortOf wsX3_effortOf) := goodIn_app (goodIn_of _ (by decide +kernel)) ggX3_leastAhead_X3_effortOf
theorem dX3_leastAhead_0 : decode cX3_leastAhead 0 = .ok (.bipush (-6), 2) := by decide +kernel
theorem dX3_leastAhead_2 : decode cX3_leastAhead 2 = .ok (.istore_n 3, 1) := by decide +kernel
theorem dX3_leastAhead_3 : decode cX3_leastAhead 3 = .ok (.iconst 0, 1) := by decide +kernel
theorem dX3_leastAhead_4 : decode cX3_leastAhead 4 = .ok (.istore 4, 2) := by decide +kernel
theorem dX3_leastAhead_6 : decode cX3_leastAhead 6 = .ok (.iload 4, 2) := by decide +kernel
theorem dX3_leastAhead_8 : decode cX3_leastAhead 8 = .ok (.bipush 64, 2) := by decide +kernel
theorem dX3_leastAhead_10 : decode cX3_leastAhead 10 = .ok (.if_icmp .ge 76, 3) := by decide +kernel
theorem dX3_leastAhead_13 : decode cX3_leastAhead 13 = .ok (.aload_n 0, 1) := by decide +kernel
theorem dX3_leastAhead_14 : decode cX3_leastAhead 14 = .ok (.getfield 30, 3) := by decide +kernel
theorem dX3_leastAhead_17 : decode cX3_leastAhead 17 = .ok (.iload_n 1, 1) := by decide +kernel
theorem dX3_leastAhead_18 : decode cX3_leastAhead 18 = .ok (.iconst 1, 1) := by decide +kernel
theorem dX3_leastAhead_19 : decode cX3_leastAhead 19 = .ok (.isub, 1) := by decide +kernel
theorem dX3_leastAhead_20 : decode cX3_leastAhead 20 = .ok (.iload 4, 2) := by decide +kernel
theorem dX3_leastAhead_22 : decode cX3_leastAhead 22 = .ok (.invokestatic 77, 3) := by decide +kernel
theorem dX3_leastAhead_25 : decode cX3_leastAhead 25 = .ok (.iaload, 1) := by decide +kernel
theorem dX3_leastAhead_26 : decode cX3_leastAhead 26 = .ok (.istore 5, 2) := by decide +kernel
theorem dX3_leastAhead_28 : decode cX3_leastAhead 28 = .ok (.iload 5, 2) := by decide +kernel
theorem dX3_leastAhead_30 : decode cX3_leastAhead 30 = .ok (.ifCond .lt 50, 3) := by decide +kernel
theorem dX3_leastAhead_33 : decode cX3_leastAhead 33 = .ok (.iload 5, 2) := by decide +kernel
theorem dX3_leastAhead_35 : decode cX3_leastAhead 35 = .ok (.aload_n 0, 1) := by decide +kernel
theorem dX3_leastAhead_36 : decode cX3_leastAhead 36 = .ok (.iload 4, 2) := by decide +kernel
theorem dX3_leastAhead_38 : decode cX3_leastAhead 38 = .ok (.aload_n 0, 1) := by decide +kernel
theorem dX3_leastAhead_39 : decode cX3_leastAhead 39 = .ok (.getfield 7, 3) := by decide +kernel
theorem dX3_leastAhead_42 : decode cX3_leastAhead 42 = .ok (.bipush 10, 2) := by decide +kernel
theorem dX3_leastAhead_44 : decode cX3_leastAhead 44 = .ok (.iload_n 1, 1) := by decide +kernel
theorem dX3_leastAhead_45 : decode cX3_leastAhead 45 = .ok (.iadd, 1) := by decide +kernel
theorem dX3_leastAhead_46 : decode cX3_leastAhead 46 = .ok (.iconst 1, 1) := by decide +kernel
theorem dX3_leastAhead_47 : decode cX3_leastAhead 47 = .ok (.isub, 1) := by decide +kernel
theorem dX3_leastAhead_48 : decode cX3_leastAhead 48 = .ok (.iaload, 1) := by decide +kernel
theorem dX3_leastAhead_49 : decode cX3_leastAhead 49 = .ok (.invokevirtual 80, 3) := by decide +kernel
theorem dX3_leastAhead_52 : decode cX3_leastAhead 52 = .ok (.iadd, 1) := by decide +kernel
theorem dX3_leastAhead_53 : decode cX3_leastAhead 53 = .ok (.aload_n 0, 1) := by decide +kernel
theorem dX3_leastAhead_54 : decode cX3_leastAhead 54 = .ok (.iload 4, 2) := by decide +kernel
theorem dX3_leastAhead_56 : decode cX3_leastAhead 56 = .ok (.iload_n 2, 1) := by decide +kernel
theorem dX3_leastAhead_57 : decode cX3_leastAhead 57 = .ok (.invokevirtual 74, 3) := by decide +kernel
theorem dX3_leastAhead_60 : decode cX3_leastAhead 60 = .ok (.iadd, 1) := by decide +kernel
theorem dX3_leastAhead_61 : decode cX3_leastAhead 61 = .ok (.istore 6, 2) := by decide +kernel
theorem dX3_leastAhead_63 : decode cX3_leastAhead 63 = .ok (.iload_n 3, 1) := by decide +kernel
theorem dX3_leastAhead_64 : decode cX3_leastAhead 64 = .ok (.ifCond .lt 9, 3) := by decide +kernel
theorem dX3_leastAhead_67 : decode cX3_leastAhead 67 = .ok (.iload 6, 2) := by decide +kernel
theorem dX3_leastAhead_69 : decode cX3_leastAhead 69 = .ok (.iload_n 3, 1) := by decide +kernel
theorem dX3_leastAhead_70 : decode cX3_leastAhead 70 = .ok (.if_icmp .ge 8, 3) := by decide +kernel
theorem dX3_leastAhead_73 : decode cX3_leastAhead 73 = .ok (.iload 6, 2) := by decide +kernel
theorem dX3_leastAhead_75 : decode cX3_leastAhead 75 = .ok (.goto 4, 3) := by decide +kernel
theorem dX3_leastAhead_78 : decode cX3_leastAhead 78 = .ok (.iload_n 3, 1) := by decide +kernel
theorem dX3_leastAhead_79 : decode cX3_leastAhead 79 = .ok (.istore_n 3, 1) := by decide +kernel
theorem dX3_leastAhead_80 : decode cX3_leastAhead 80 = .ok (.iinc 4 1, 3) := by decide +kernel
theorem dX3_leastAhead_83 : decode cX3_leastAhead 83 = .ok (.goto (-77), 3) := by decide +kernel
theorem dX3_leastAhead_86 : decode cX3_leastAhead 86 = .ok (.iload_n 3, 1) := by decide +kernel
theorem dX3_leastAhead_87 : decode cX3_leastAhead 87 = .ok (.ireturn, 1) := by decide +kernel
set_option maxRecDepth 20000 in
theorem ggX3_leastAt_X3_at : GoodIn wsX3_leastAt wsX3_at := goodIn_r _ [7] (by decide +kernel) (by decide +kernel)
set_option maxRecDepth 20000 in
theorem gX3_leastAt_X3_at : GoodIn wsX3_leastAt (va_wsS RX3 77 yX3_at wsX3_at) := goodIn_app (goodIn_of _ (by decide +kernel)) ggX3_leastAt_X3_at
theorem dX3_leastAt_0 : decode cX3_leastAt 0 = .ok (.iconst 0, 1) := by decide +kernel
theorem dX3_leastAt_1 : decode cX3_leastAt 1 = .ok (.istore_n 3, 1) := by decide +kernel
theorem dX3_leastAt_2 : decode cX3_leastAt 2 = .ok (.iconst 0, 1) := by decide +kernel
theorem dX3_leastAt_3 : decode cX3_leastAt 3 = .ok (.istore 4, 2) := by decide +kernel
theorem dX3_leastAt_5 : decode cX3_leastAt 5 = .ok (.iload 4, 2) := by decide +kernel
theorem dX3_leastAt_7 : decode cX3_leastAt 7 = .ok (.bipush 64, 2) := by decide +kernel
theorem dX3_leastAt_9 : decode cX3_leastAt 9 = .ok (.if_icmp .ge 66, 3) := by decide +kernel
theorem dX3_leastAt_12 : decode cX3_leastAt 12 = .ok (.iload_n 1, 1) := by decide +kernel
theorem dX3_leastAt_13 : decode cX3_leastAt 13 = .ok (.iload 4, 2) := by decide +kernel
theorem dX3_leastAt_15 : decode cX3_leastAt 15 = .ok (.invokestatic 77, 3) := by decide +kernel
theorem dX3_leastAt_18 : decode cX3_leastAt 18 = .ok (.istore 5, 2) := by decide +kernel
theorem dX3_leastAt_20 : decode cX3_leastAt 20 = .ok (.iload_n 3, 1) := by decide +kernel
theorem dX3_leastAt_21 : decode cX3_leastAt 21 = .ok (.aload_n 0, 1) := by decide +kernel
theorem dX3_leastAt_22 : decode cX3_leastAt 22 = .ok (.getfield 30, 3) := by decide +kernel
theorem dX3_leastAt_25 : decode cX3_leastAt 25 = .ok (.iload 5, 2) := by decide +kernel
theorem dX3_leastAt_27 : decode cX3_leastAt 27 = .ok (.iaload, 1) := by decide +kernel
theorem dX3_leastAt_28 : decode cX3_leastAt 28 = .ok (.ifCond .lt 38, 3) := by decide +kernel
theorem dX3_leastAt_31 : decode cX3_leastAt 31 = .ok (.aload_n 0, 1) := by decide +kernel
theorem dX3_leastAt_32 : decode cX3_leastAt 32 = .ok (.getfield 23, 3) := by decide +kernel
theorem dX3_leastAt_35 : decode cX3_leastAt 35 = .ok (.iload 5, 2) := by decide +kernel
theorem dX3_leastAt_37 : decode cX3_leastAt 37 = .ok (.laload, 1) := by decide +kernel
theorem dX3_leastAt_38 : decode cX3_leastAt 38 = .ok (.lconst 0, 1) := by decide +kernel
theorem dX3_leastAt_39 : decode cX3_leastAt 39 = .ok (.lcmp, 1) := by decide +kernel
theorem dX3_leastAt_40 : decode cX3_leastAt 40 = .ok (.ifCond .le 26, 3) := by decide +kernel
theorem dX3_leastAt_43 : decode cX3_leastAt 43 = .ok (.aload_n 0, 1) := by decide +kernel
theorem dX3_leastAt_44 : decode cX3_leastAt 44 = .ok (.getfield 30, 3) := by decide +kernel
theorem dX3_leastAt_47 : decode cX3_leastAt 47 = .ok (.iload 5, 2) := by decide +kernel
theorem dX3_leastAt_49 : decode cX3_leastAt 49 = .ok (.iaload, 1) := by decide +kernel
theorem dX3_leastAt_50 : decode cX3_leastAt 50 = .ok (.aload_n 0, 1) := by decide +kernel
theorem dX3_leastAt_51 : decode cX3_leastAt 51 = .ok (.getfield 20, 3) := by decide +kernel
theorem dX3_leastAt_54 : decode cX3_leastAt 54 = .ok (.iload 5, 2) := by decide +kernel
theorem dX3_leastAt_56 : decode cX3_leastAt 56 = .ok (.iaload, 1) := by decide +kernel
theorem dX3_leastAt_57 : decode cX3_leastAt 57 = .ok (.iadd, 1) := by decide +kernel
theorem dX3_leastAt_58 : decode cX3_leastAt 58 = .ok (.iload_n 2, 1) := by decide +kernel
theorem dX3_leastAt_59 : decode cX3_leastAt 59 = .ok (.if_icmp .ne 7, 3) := by decide +kernel
theorem dX3_leastAt_62 : decode cX3_leastAt 62 = .ok (.iconst 1, 1) := by decide +kernel
theorem dX3_leastAt_63 : decode cX3_leastAt 63 = .ok (.goto 4, 3) := by decide +kernel
theorem dX3_leastAt_66 : decode cX3_leastAt 66 = .ok (.iconst 0, 1) := by decide +kernel
theorem dX3_leastAt_67 : decode cX3_leastAt 67 = .ok (.iadd, 1) := by decide +kernel
theorem dX3_leastAt_68 : decode cX3_leastAt 68 = .ok (.istore_n 3, 1) := by decide +kernel
theorem dX3_leastAt_69 : decode cX3_leastAt 69 = .ok (.iinc 4 1, 3) := by decide +kernel
theorem dX3_leastAt_72 : decode cX3_leastAt 72 = .ok (.goto (-67), 3) := by decide +kernel
theorem dX3_leastAt_75 : decode cX3_leastAt 75 = .ok (.iload_n 3, 1) := by decide +kernel
theorem dX3_leastAt_76 : decode cX3_leastAt 76 = .ok (.ireturn, 1) := by decide +kernel
set_option maxRecDepth 20000 in
theorem ggX3_plans_X3_in : GoodIn wsX3_plans wsX3_in := goodIn_r _ [10] (by decide +kernel) (by decide +kernel)
set_option maxRecDepth 20000 in
theorem gX3_plans_X3_in : GoodIn wsX3_plans (va_wsS RX3 33 yX3_in wsX3_in) := goodIn_app (goodIn_of _ (by decide +kernel)) ggX3_plans_X3_in
set_option maxRecDepth 20000 in
theorem ggX3_plans_X3_layAllRests : GoodIn wsX3_plans wsX3_layAllRests := goodIn_r _ [14, 3, 4, 15, 16, 9, 17, 18, 19, 20, 21, 22, 23, 24, 25, 26, 27, 28, 29, 7, 8, 10, 30, 31, 32, 33, 34, 35, 36, 37, 38, 39, 40, 41, 42, 43, 44, 45, 46, 47, 48, 49, 50, 51, 52, 53, 54, 5, 6, 55, 56, 57, 58, 59, 60, 61, 62, 84, 85, 86, 87, 88, 89, 90] (by decide +kernel) (by decide +kernel)
set_option maxRecDepth 20000 in
theorem gX3_plans_X3_layAllRests : GoodIn wsX3_plans (wsV RX3 90 RX3 yX3_layAllRests wsX3_layAllRests) := goodIn_app (goodIn_of _ (by decide +kernel)) ggX3_plans_X3_layAllRests
set_option maxRecDepth 20000 in
theorem ggX3_plans_X3_leastOfAll : GoodIn wsX3_plans wsX3_leastOfAll := goodIn_r _ [66, 3, 4, 5, 84, 85, 86, 87, 88, 89, 90] (by decide +kernel) (by decide +kernel)
set_option maxRecDepth 20000 in
theorem gX3_plans_X3_leastOfAll : GoodIn wsX3_plans (wsV RX3 93 RX3 yX3_leastOfAll wsX3_leastOfAll) := goodIn_app (goodIn_of _ (by decide +kernel)) ggX3_plans_X3_leastOfAll
set_option maxRecDepth 20000 in
theorem ggX3_plans_X3_layAhead : GoodIn wsX3_plans wsX3_layAhead := goodIn_r _ [70, 3, 71, 15, 16, 9, 17, 18, 19, 20, 21, 22, 23, 24, 25, 26, 27, 28, 29, 7, 8, 10, 30, 31, 32, 33, 34, 35, 36, 37, 38, 39, 40, 41, 42, 43, 44, 45, 46, 47, 48, 49, 50, 72, 73, 74, 75, 55, 56, 57, 58, 59, 60, 61, 62, 84, 85, 86, 87, 88, 89, 90] (by decide +kernel) (by decide +kernel)
set_option maxRecDepth 20000 in
theorem gX3_plans_X3_layAhead : GoodIn wsX3_plans (wsV RX3 106 RX3 yX3_layAhead wsX3_layAhead) := goodIn_app (goodIn_of _ (by decide +kernel)) ggX3_plans_X3_layAhead
set_option maxRecDepth 20000 in
theorem ggX3_plans_X3_isPlace : GoodIn wsX3_plans wsX3_isPlace := goodIn_r _ [79, 3, 7, 8, 9, 10, 84, 85, 86, 87, 88, 89, 90] (by decide +kernel) (by decide +kernel)
set_option maxRecDepth 20000 in
theorem gX3_plans_X3_isPlace : GoodIn wsX3_plans (wsV RX3 71 RX3 yX3_isPlace wsX3_isPlace) := goodIn_app (goodIn_of _ (by decide +kernel)) ggX3_plans_X3_isPlace
set_option maxRecDepth 20000 in
theorem ggX3_plans_X3_leastAt : GoodIn wsX3_plans wsX3_leastAt := goodIn_r _ [83, 71, 4, 5, 15, 16, 9, 17, 84, 85, 86, 87, 88, 89, 90] (by decide +kernel) (by decide +kernel)
set_option maxRecDepth 20000 in
theorem gX3_plans_X3_leastAt : GoodIn wsX3_plans (wsV RX3 111 RX3 yX3_leastAt wsX3_leastAt) := goodIn_app (goodIn_of _ (by decide +kernel)) ggX3_plans_X3_leastAt
theorem dX3_plans_0 : decode cX3_plans 0 = .ok (.iload_n 1, 1) := by decide +kernel
theorem dX3_plans_1 : decode cX3_plans 1 = .ok (.iconst 0, 1) := by decide +kernel
theorem dX3_plans_2 : decode cX3_plans 2 = .ok (.iconst 1, 1) := by decide +kernel
theorem dX3_plans_3 : decode cX3_plans 3 = .ok (.invokestatic 33, 3) := by decide +kernel
theorem dX3_plans_6 : decode cX3_plans 6 = .ok (.ifCond .ne 18, 3) := by decide +kernel
theorem dX3_plans_9 : decode cX3_plans 9 = .ok (.iload_n 1, 1) := by decide +kernel
theorem dX3_plans_10 : decode cX3_plans 10 = .ok (.bipush 10, 2) := by decide +kernel
theorem dX3_plans_12 : decode cX3_plans 12 = .ok (.bipush 21, 2) := by decide +kernel
theorem dX3_plans_14 : decode cX3_plans 14 = .ok (.invokestatic 33, 3) := by decide +kernel
theorem dX3_plans_17 : decode cX3_plans 17 = .ok (.ifCond .ne 7, 3) := by decide +kernel
theorem dX3_plans_20 : decode cX3_plans 20 = .ok (.ldc2_w 104, 3) := by decide +kernel
theorem dX3_plans_23 : decode cX3_plans 23 = .ok (.lreturn, 1) := by decide +kernel
theorem dX3_plans_24 : decode cX3_plans 24 = .ok (.aload_n 0, 1) := by decide +kernel
theorem dX3_plans_25 : decode cX3_plans 25 = .ok (.invokevirtual 90, 3) := by decide +kernel
theorem dX3_plans_28 : decode cX3_plans 28 = .ok (.aload_n 0, 1) := by decide +kernel
theorem dX3_plans_29 : decode cX3_plans 29 = .ok (.invokevirtual 93, 3) := by decide +kernel
theorem dX3_plans_32 : decode cX3_plans 32 = .ok (.istore_n 2, 1) := by decide +kernel
theorem dX3_plans_33 : decode cX3_plans 33 = .ok (.iload_n 1, 1) := by decide +kernel
theorem dX3_plans_34 : decode cX3_plans 34 = .ok (.bipush 10, 2) := by decide +kernel
theorem dX3_plans_36 : decode cX3_plans 36 = .ok (.if_icmp .lt 39, 3) := by decide +kernel
theorem dX3_plans_39 : decode cX3_plans 39 = .ok (.aload_n 0, 1) := by decide +kernel
theorem dX3_plans_40 : decode cX3_plans 40 = .ok (.invokevirtual 106, 3) := by decide +kernel
theorem dX3_plans_43 : decode cX3_plans 43 = .ok (.iload_n 2, 1) := by decide +kernel
theorem dX3_plans_44 : decode cX3_plans 44 = .ok (.ifCond .lt 14, 3) := by decide +kernel
theorem dX3_plans_47 : decode cX3_plans 47 = .ok (.aload_n 0, 1) := by decide +kernel
theorem dX3_plans_48 : decode cX3_plans 48 = .ok (.iload_n 1, 1) := by decide +kernel
theorem dX3_plans_49 : decode cX3_plans 49 = .ok (.bipush 10, 2) := by decide +kernel
theorem dX3_plans_51 : decode cX3_plans 51 = .ok (.isub, 1) := by decide +kernel
theorem dX3_plans_52 : decode cX3_plans 52 = .ok (.invokevirtual 71, 3) := by decide +kernel
theorem dX3_plans_55 : decode cX3_plans 55 = .ok (.ifCond .ne 9, 3) := by decide +kernel
theorem dX3_plans_58 : decode cX3_plans 58 = .ok (.ldc2_w 109, 3) := by decide +kernel
theorem dX3_plans_61 : decode cX3_plans 61 = .ok (.goto 13, 3) := by decide +kernel
theorem dX3_plans_64 : decode cX3_plans 64 = .ok (.aload_n 0, 1) := by decide +kernel
theorem dX3_plans_65 : decode cX3_plans 65 = .ok (.iload_n 1, 1) := by decide +kernel
theorem dX3_plans_66 : decode cX3_plans 66 = .ok (.bipush 10, 2) := by decide +kernel
theorem dX3_plans_68 : decode cX3_plans 68 = .ok (.isub, 1) := by decide +kernel
theorem dX3_plans_69 : decode cX3_plans 69 = .ok (.iload_n 2, 1) := by decide +kernel
theorem dX3_plans_70 : decode cX3_plans 70 = .ok (.invokevirtual 111, 3) := by decide +kernel
theorem dX3_plans_73 : decode cX3_plans 73 = .ok (.i2l, 1) := by decide +kernel
theorem dX3_plans_74 : decode cX3_plans 74 = .ok (.lreturn, 1) := by decide +kernel
theorem dX3_plans_75 : decode cX3_plans 75 = .ok (.aload_n 0, 1) := by decide +kernel
theorem dX3_plans_76 : decode cX3_plans 76 = .ok (.getfield 7, 3) := by decide +kernel
theorem dX3_plans_79 : decode cX3_plans 79 = .ok (.bipush 9, 2) := by decide +kernel
theorem dX3_plans_81 : decode cX3_plans 81 = .ok (.iaload, 1) := by decide +kernel
theorem dX3_plans_82 : decode cX3_plans 82 = .ok (.ifCond .ne 5, 3) := by decide +kernel
theorem dX3_plans_85 : decode cX3_plans 85 = .ok (.lconst 1, 1) := by decide +kernel
theorem dX3_plans_86 : decode cX3_plans 86 = .ok (.lreturn, 1) := by decide +kernel
theorem dX3_plans_87 : decode cX3_plans 87 = .ok (.lconst 0, 1) := by decide +kernel
theorem dX3_plans_88 : decode cX3_plans 88 = .ok (.lstore_n 3, 1) := by decide +kernel
theorem dX3_plans_89 : decode cX3_plans 89 = .ok (.iconst 0, 1) := by decide +kernel
theorem dX3_plans_90 : decode cX3_plans 90 = .ok (.istore 5, 2) := by decide +kernel
theorem dX3_plans_92 : decode cX3_plans 92 = .ok (.iload 5, 2) := by decide +kernel
theorem dX3_plans_94 : decode cX3_plans 94 = .ok (.bipush 64, 2) := by decide +kernel
theorem dX3_plans_96 : decode cX3_plans 96 = .ok (.if_icmp .ge 60, 3) := by decide +kernel
theorem dX3_plans_99 : decode cX3_plans 99 = .ok (.aload_n 0, 1) := by decide +kernel
theorem dX3_plans_100 : decode cX3_plans 100 = .ok (.getfield 23, 3) := by decide +kernel
theorem dX3_plans_103 : decode cX3_plans 103 = .ok (.iload 5, 2) := by decide +kernel
theorem dX3_plans_105 : decode cX3_plans 105 = .ok (.laload, 1) := by decide +kernel
theorem dX3_plans_106 : decode cX3_plans 106 = .ok (.lconst 0, 1) := by decide +kernel
theorem dX3_plans_107 : decode cX3_plans 107 = .ok (.lcmp, 1) := by decide +kernel
theorem dX3_plans_108 : decode cX3_plans 108 = .ok (.ifCond .le 42, 3) := by decide +kernel
theorem dX3_plans_111 : decode cX3_plans 111 = .ok (.lload_n 3, 1) := by decide +kernel
theorem dX3_plans_112 : decode cX3_plans 112 = .ok (.iload_n 1, 1) := by decide +kernel
theorem dX3_plans_113 : decode cX3_plans 113 = .ok (.ifCond .ne 13, 3) := by decide +kernel
theorem dX3_plans_116 : decode cX3_plans 116 = .ok (.aload_n 0, 1) := by decide +kernel
theorem dX3_plans_117 : decode cX3_plans 117 = .ok (.getfield 23, 3) := by decide +kernel
theorem dX3_plans_120 : decode cX3_plans 120 = .ok (.iload 5, 2) := by decide +kernel
theorem dX3_plans_122 : decode cX3_plans 122 = .ok (.laload, 1) := by decide +kernel
theorem dX3_plans_123 : decode cX3_plans 123 = .ok (.goto 25, 3) := by decide +kernel
theorem dX3_plans_126 : decode cX3_plans 126 = .ok (.aload_n 0, 1) := by decide +kernel
theorem dX3_plans_127 : decode cX3_plans 127 = .ok (.getfield 20, 3) := by decide +kernel
theorem dX3_plans_130 : decode cX3_plans 130 = .ok (.iload 5, 2) := by decide +kernel
theorem dX3_plans_132 : decode cX3_plans 132 = .ok (.iaload, 1) := by decide +kernel
theorem dX3_plans_133 : decode cX3_plans 133 = .ok (.iload_n 2, 1) := by decide +kernel
theorem dX3_plans_134 : decode cX3_plans 134 = .ok (.if_icmp .ne 13, 3) := by decide +kernel
theorem dX3_plans_137 : decode cX3_plans 137 = .ok (.aload_n 0, 1) := by decide +kernel
theorem dX3_plans_138 : decode cX3_plans 138 = .ok (.getfield 27, 3) := by decide +kernel
theorem dX3_plans_141 : decode cX3_plans 141 = .ok (.iload 5, 2) := by decide +kernel
theorem dX3_plans_143 : decode cX3_plans 143 = .ok (.laload, 1) := by decide +kernel
theorem dX3_plans_144 : decode cX3_plans 144 = .ok (.goto 4, 3) := by decide +kernel
theorem dX3_plans_147 : decode cX3_plans 147 = .ok (.lconst 0, 1) := by decide +kernel
theorem dX3_plans_148 : decode cX3_plans 148 = .ok (.ladd, 1) := by decide +kernel
theorem dX3_plans_149 : decode cX3_plans 149 = .ok (.lstore_n 3, 1) := by decide +kernel
theorem dX3_plans_150 : decode cX3_plans 150 = .ok (.iinc 5 1, 3) := by decide +kernel
theorem dX3_plans_153 : decode cX3_plans 153 = .ok (.goto (-61), 3) := by decide +kernel
theorem dX3_plans_156 : decode cX3_plans 156 = .ok (.lload_n 3, 1) := by decide +kernel
theorem dX3_plans_157 : decode cX3_plans 157 = .ok (.lreturn, 1) := by decide +kernel
set_option maxRecDepth 20000 in
theorem ggX3_dumb_X3_waysOf : GoodIn wsX3_dumb wsX3_waysOf := goodIn_r _ [6, 7, 8, 9, 5, 10, 1, 11, 12, 13, 14, 15, 16, 17, 18, 19, 20, 21, 22, 23, 24, 25, 26, 27, 28, 29, 30, 31, 32, 33, 34, 35, 36, 37, 38, 39, 40, 41, 42, 43, 44, 45] (by decide +kernel) (by decide +kernel)
set_option maxRecDepth 20000 in
theorem gX3_dumb_X3_waysOf : GoodIn wsX3_dumb (wsV RX3 68 RX3 yX3_waysOf wsX3_waysOf) := goodIn_app (goodIn_of _ (by decide +kernel)) ggX3_dumb_X3_waysOf
theorem dX3_dumb_0 : decode cX3_dumb 0 = .ok (.iconst 0, 1) := by decide +kernel
theorem dX3_dumb_1 : decode cX3_dumb 1 = .ok (.istore_n 1, 1) := by decide +kernel
theorem dX3_dumb_2 : decode cX3_dumb 2 = .ok (.iload_n 1, 1) := by decide +kernel
theorem dX3_dumb_3 : decode cX3_dumb 3 = .ok (.aload_n 0, 1) := by decide +kernel
theorem dX3_dumb_4 : decode cX3_dumb 4 = .ok (.getfield 7, 3) := by decide +kernel
theorem dX3_dumb_7 : decode cX3_dumb 7 = .ok (.bipush 9, 2) := by decide +kernel
theorem dX3_dumb_9 : decode cX3_dumb 9 = .ok (.iaload, 1) := by decide +kernel
theorem dX3_dumb_10 : decode cX3_dumb 10 = .ok (.if_icmp .ge 27, 3) := by decide +kernel
theorem dX3_dumb_13 : decode cX3_dumb 13 = .ok (.aload_n 0, 1) := by decide +kernel
theorem dX3_dumb_14 : decode cX3_dumb 14 = .ok (.aload_n 0, 1) := by decide +kernel
theorem dX3_dumb_15 : decode cX3_dumb 15 = .ok (.getfield 7, 3) := by decide +kernel
theorem dX3_dumb_18 : decode cX3_dumb 18 = .ok (.bipush 10, 2) := by decide +kernel
theorem dX3_dumb_20 : decode cX3_dumb 20 = .ok (.iload_n 1, 1) := by decide +kernel
theorem dX3_dumb_21 : decode cX3_dumb 21 = .ok (.iadd, 1) := by decide +kernel
theorem dX3_dumb_22 : decode cX3_dumb 22 = .ok (.iaload, 1) := by decide +kernel
theorem dX3_dumb_23 : decode cX3_dumb 23 = .ok (.invokevirtual 68, 3) := by decide +kernel
theorem dX3_dumb_26 : decode cX3_dumb 26 = .ok (.ifCond .ne 5, 3) := by decide +kernel
theorem dX3_dumb_29 : decode cX3_dumb 29 = .ok (.iload_n 1, 1) := by decide +kernel
theorem dX3_dumb_30 : decode cX3_dumb 30 = .ok (.ireturn, 1) := by decide +kernel
theorem dX3_dumb_31 : decode cX3_dumb 31 = .ok (.iinc 1 1, 3) := by decide +kernel
theorem dX3_dumb_34 : decode cX3_dumb 34 = .ok (.goto (-32), 3) := by decide +kernel
theorem dX3_dumb_37 : decode cX3_dumb 37 = .ok (.bipush (-6), 2) := by decide +kernel
theorem dX3_dumb_39 : decode cX3_dumb 39 = .ok (.ireturn, 1) := by decide +kernel
set_option maxRecDepth 20000 in
theorem ggX3_trillOf_X3_sounds : GoodIn wsX3_trillOf wsX3_sounds := goodIn_r _ [5, 6, 7, 8, 9, 4, 10, 11, 12, 13, 14, 15, 16, 17, 18, 19, 20, 21, 22, 23, 24, 25, 26, 27, 28, 29, 30, 31, 32, 33, 34, 39, 40, 41, 42, 43, 44, 45] (by decide +kernel) (by decide +kernel)
set_option maxRecDepth 20000 in
theorem gX3_trillOf_X3_sounds : GoodIn wsX3_trillOf (wsV RX3 64 RX3 yX3_sounds wsX3_sounds) := goodIn_app (goodIn_of _ (by decide +kernel)) ggX3_trillOf_X3_sounds
set_option maxRecDepth 20000 in
theorem ggX3_trillOf_X3_effortOf : GoodIn wsX3_trillOf wsX3_effortOf := goodIn_r _ [38, 6, 29, 30, 4, 31, 32, 33, 34, 39, 40, 41, 42, 43, 44, 45] (by decide +kernel) (by decide +kernel)
set_option maxRecDepth 20000 in
theorem gX3_trillOf_X3_effortOf : GoodIn wsX3_trillOf (wsV RX3 74 RX3 yX3_effortOf wsX3_effortOf) := goodIn_app (goodIn_of _ (by decide +kernel)) ggX3_trillOf_X3_effortOf
theorem dX3_trillOf_0 : decode cX3_trillOf 0 = .ok (.bipush (-6), 2) := by decide +kernel
theorem dX3_trillOf_2 : decode cX3_trillOf 2 = .ok (.istore_n 3, 1) := by decide +kernel
theorem dX3_trillOf_3 : decode cX3_trillOf 3 = .ok (.iconst 0, 1) := by decide +kernel
theorem dX3_trillOf_4 : decode cX3_trillOf 4 = .ok (.istore 4, 2) := by decide +kernel
theorem dX3_trillOf_6 : decode cX3_trillOf 6 = .ok (.iload 4, 2) := by decide +kernel
theorem dX3_trillOf_8 : decode cX3_trillOf 8 = .ok (.bipush 64, 2) := by decide +kernel
theorem dX3_trillOf_10 : decode cX3_trillOf 10 = .ok (.if_icmp .ge 72, 3) := by decide +kernel
theorem dX3_trillOf_13 : decode cX3_trillOf 13 = .ok (.iconst 0, 1) := by decide +kernel
theorem dX3_trillOf_14 : decode cX3_trillOf 14 = .ok (.istore 5, 2) := by decide +kernel
theorem dX3_trillOf_16 : decode cX3_trillOf 16 = .ok (.iload 5, 2) := by decide +kernel
theorem dX3_trillOf_18 : decode cX3_trillOf 18 = .ok (.bipush 64, 2) := by decide +kernel
theorem dX3_trillOf_20 : decode cX3_trillOf 20 = .ok (.if_icmp .ge 56, 3) := by decide +kernel
theorem dX3_trillOf_23 : decode cX3_trillOf 23 = .ok (.aload_n 0, 1) := by decide +kernel
theorem dX3_trillOf_24 : decode cX3_trillOf 24 = .ok (.iload 4, 2) := by decide +kernel
theorem dX3_trillOf_26 : decode cX3_trillOf 26 = .ok (.iload_n 1, 1) := by decide +kernel
theorem dX3_trillOf_27 : decode cX3_trillOf 27 = .ok (.invokevirtual 64, 3) := by decide +kernel
theorem dX3_trillOf_30 : decode cX3_trillOf 30 = .ok (.ifCond .eq 46, 3) := by decide +kernel
theorem dX3_trillOf_33 : decode cX3_trillOf 33 = .ok (.aload_n 0, 1) := by decide +kernel
theorem dX3_trillOf_34 : decode cX3_trillOf 34 = .ok (.iload 5, 2) := by decide +kernel
theorem dX3_trillOf_36 : decode cX3_trillOf 36 = .ok (.iload_n 2, 1) := by decide +kernel
theorem dX3_trillOf_37 : decode cX3_trillOf 37 = .ok (.invokevirtual 64, 3) := by decide +kernel
theorem dX3_trillOf_40 : decode cX3_trillOf 40 = .ok (.ifCond .eq 30, 3) := by decide +kernel
theorem dX3_trillOf_43 : decode cX3_trillOf 43 = .ok (.aload_n 0, 1) := by decide +kernel
theorem dX3_trillOf_44 : decode cX3_trillOf 44 = .ok (.iload 4, 2) := by decide +kernel
theorem dX3_trillOf_46 : decode cX3_trillOf 46 = .ok (.iload 5, 2) := by decide +kernel
theorem dX3_trillOf_48 : decode cX3_trillOf 48 = .ok (.invokevirtual 74, 3) := by decide +kernel
theorem dX3_trillOf_51 : decode cX3_trillOf 51 = .ok (.istore 6, 2) := by decide +kernel
theorem dX3_trillOf_53 : decode cX3_trillOf 53 = .ok (.iload_n 3, 1) := by decide +kernel
theorem dX3_trillOf_54 : decode cX3_trillOf 54 = .ok (.ifCond .lt 9, 3) := by decide +kernel
theorem dX3_trillOf_57 : decode cX3_trillOf 57 = .ok (.iload 6, 2) := by decide +kernel
theorem dX3_trillOf_59 : decode cX3_trillOf 59 = .ok (.iload_n 3, 1) := by decide +kernel
theorem dX3_trillOf_60 : decode cX3_trillOf 60 = .ok (.if_icmp .ge 8, 3) := by decide +kernel
theorem dX3_trillOf_63 : decode cX3_trillOf 63 = .ok (.iload 6, 2) := by decide +kernel
theorem dX3_trillOf_65 : decode cX3_trillOf 65 = .ok (.goto 4, 3) := by decide +kernel
theorem dX3_trillOf_68 : decode cX3_trillOf 68 = .ok (.iload_n 3, 1) := by decide +kernel
theorem dX3_trillOf_69 : decode cX3_trillOf 69 = .ok (.istore_n 3, 1) := by decide +kernel
theorem dX3_trillOf_70 : decode cX3_trillOf 70 = .ok (.iinc 5 1, 3) := by decide +kernel
theorem dX3_trillOf_73 : decode cX3_trillOf 73 = .ok (.goto (-57), 3) := by decide +kernel
theorem dX3_trillOf_76 : decode cX3_trillOf 76 = .ok (.iinc 4 1, 3) := by decide +kernel
theorem dX3_trillOf_79 : decode cX3_trillOf 79 = .ok (.goto (-73), 3) := by decide +kernel
theorem dX3_trillOf_82 : decode cX3_trillOf 82 = .ok (.iload_n 3, 1) := by decide +kernel
theorem dX3_trillOf_83 : decode cX3_trillOf 83 = .ok (.ireturn, 1) := by decide +kernel
set_option maxRecDepth 20000 in
theorem ggX3_trill_X3_isNote : GoodIn wsX3_trill wsX3_isNote := goodIn_r _ [4, 5, 6, 3, 7] (by decide +kernel) (by decide +kernel)
set_option maxRecDepth 20000 in
theorem gX3_trill_X3_isNote : GoodIn wsX3_trill (va_wsS RX3 61 yX3_isNote wsX3_isNote) := goodIn_app (goodIn_of _ (by decide +kernel)) ggX3_trill_X3_isNote
set_option maxRecDepth 20000 in
theorem ggX3_trill_X3_trillOf : GoodIn wsX3_trill wsX3_trillOf := goodIn_r _ [11, 12, 13, 14, 3, 15, 16, 17, 18, 19, 20, 5, 6, 7, 21, 22, 23, 24, 25, 26, 27, 28, 29, 30, 31, 32, 33, 34, 35, 36, 37, 38, 39, 40, 41, 42, 43, 44, 45, 46, 47, 48, 49, 50, 51, 52] (by decide +kernel) (by decide +kernel)
set_option maxRecDepth 20000 in
theorem gX3_trill_X3_trillOf : GoodIn wsX3_trill (wsV RX3 114 RX3 yX3_trillOf wsX3_trillOf) := goodIn_app (goodIn_of _ (by decide +kernel)) ggX3_trill_X3_trillOf
theorem dX3_trill_0 : decode cX3_trill 0 = .ok (.iload_n 1, 1) := by decide +kernel
theorem dX3_trill_1 : decode cX3_trill 1 = .ok (.invokestatic 61, 3) := by decide +kernel
theorem dX3_trill_4 : decode cX3_trill 4 = .ok (.ifCond .eq 19, 3) := by decide +kernel
theorem dX3_trill_7 : decode cX3_trill 7 = .ok (.iload_n 2, 1) := by decide +kernel
theorem dX3_trill_8 : decode cX3_trill 8 = .ok (.invokestatic 61, 3) := by decide +kernel
theorem dX3_trill_11 : decode cX3_trill 11 = .ok (.ifCond .eq 12, 3) := by decide +kernel
theorem dX3_trill_14 : decode cX3_trill 14 = .ok (.aload_n 0, 1) := by decide +kernel
theorem dX3_trill_15 : decode cX3_trill 15 = .ok (.iload_n 1, 1) := by decide +kernel
theorem dX3_trill_16 : decode cX3_trill 16 = .ok (.iload_n 2, 1) := by decide +kernel
theorem dX3_trill_17 : decode cX3_trill 17 = .ok (.invokevirtual 114, 3) := by decide +kernel
theorem dX3_trill_20 : decode cX3_trill 20 = .ok (.goto 5, 3) := by decide +kernel
theorem dX3_trill_23 : decode cX3_trill 23 = .ok (.bipush (-2), 2) := by decide +kernel
theorem dX3_trill_25 : decode cX3_trill 25 = .ok (.ireturn, 1) := by decide +kernel
set_option maxRecDepth 20000 in
theorem ggX3_awkward_X3_in : GoodIn wsX3_awkward wsX3_in := goodIn_r _ [4] (by decide +kernel) (by decide +kernel)
set_option maxRecDepth 20000 in
theorem gX3_awkward_X3_in : GoodIn wsX3_awkward (va_wsS RX3 33 yX3_in wsX3_in) := goodIn_app (goodIn_of _ (by decide +kernel)) ggX3_awkward_X3_in
set_option maxRecDepth 20000 in
theorem ggX3_awkward_X3_trillOf : GoodIn wsX3_awkward wsX3_trillOf := goodIn_r _ [8, 9, 10, 11, 3, 12, 13, 14, 15, 16, 17, 1, 2, 4, 18, 19, 20, 21, 22, 23, 24, 25, 26, 27, 28, 29, 30, 31, 32, 33, 34, 35, 36, 37, 38, 39, 40, 41, 42, 43, 44, 45, 46, 47, 48, 49] (by decide +kernel) (by decide +kernel)
set_option maxRecDepth 20000 in
theorem gX3_awkward_X3_trillOf : GoodIn wsX3_awkward (wsV RX3 114 RX3 yX3_trillOf wsX3_trillOf) := goodIn_app (goodIn_of _ (by decide +kernel)) ggX3_awkward_X3_trillOf
theorem dX3_awkward_0 : decode cX3_awkward 0 = .ok (.iload_n 1, 1) := by decide +kernel
theorem dX3_awkward_1 : decode cX3_awkward 1 = .ok (.iconst 1, 1) := by decide +kernel
theorem dX3_awkward_2 : decode cX3_awkward 2 = .ok (.bipush 12, 2) := by decide +kernel
theorem dX3_awkward_4 : decode cX3_awkward 4 = .ok (.invokestatic 33, 3) := by decide +kernel
theorem dX3_awkward_7 : decode cX3_awkward 7 = .ok (.ifCond .eq 13, 3) := by decide +kernel
theorem dX3_awkward_10 : decode cX3_awkward 10 = .ok (.iload_n 2, 1) := by decide +kernel
theorem dX3_awkward_11 : decode cX3_awkward 11 = .ok (.iconst 0, 1) := by decide +kernel
theorem dX3_awkward_12 : decode cX3_awkward 12 = .ok (.bipush 99, 2) := by decide +kernel
theorem dX3_awkward_14 : decode cX3_awkward 14 = .ok (.invokestatic 33, 3) := by decide +kernel
theorem dX3_awkward_17 : decode cX3_awkward 17 = .ok (.ifCond .ne 6, 3) := by decide +kernel
theorem dX3_awkward_20 : decode cX3_awkward 20 = .ok (.bipush (-2), 2) := by decide +kernel
theorem dX3_awkward_22 : decode cX3_awkward 22 = .ok (.ireturn, 1) := by decide +kernel
theorem dX3_awkward_23 : decode cX3_awkward 23 = .ok (.iconst 0, 1) := by decide +kernel
theorem dX3_awkward_24 : decode cX3_awkward 24 = .ok (.istore_n 3, 1) := by decide +kernel
theorem dX3_awkward_25 : decode cX3_awkward 25 = .ok (.iconst 0, 1) := by decide +kernel
theorem dX3_awkward_26 : decode cX3_awkward 26 = .ok (.istore 4, 2) := by decide +kernel
theorem dX3_awkward_28 : decode cX3_awkward 28 = .ok (.iload 4, 2) := by decide +kernel
theorem dX3_awkward_30 : decode cX3_awkward 30 = .ok (.iload_n 1, 1) := by decide +kernel
theorem dX3_awkward_31 : decode cX3_awkward 31 = .ok (.iadd, 1) := by decide +kernel
theorem dX3_awkward_32 : decode cX3_awkward 32 = .ok (.bipush 37, 2) := by decide +kernel
theorem dX3_awkward_34 : decode cX3_awkward 34 = .ok (.if_icmp .ge 31, 3) := by decide +kernel
theorem dX3_awkward_37 : decode cX3_awkward 37 = .ok (.iload_n 3, 1) := by decide +kernel
theorem dX3_awkward_38 : decode cX3_awkward 38 = .ok (.aload_n 0, 1) := by decide +kernel
theorem dX3_awkward_39 : decode cX3_awkward 39 = .ok (.iload 4, 2) := by decide +kernel
theorem dX3_awkward_41 : decode cX3_awkward 41 = .ok (.iload 4, 2) := by decide +kernel
theorem dX3_awkward_43 : decode cX3_awkward 43 = .ok (.iload_n 1, 1) := by decide +kernel
theorem dX3_awkward_44 : decode cX3_awkward 44 = .ok (.iadd, 1) := by decide +kernel
theorem dX3_awkward_45 : decode cX3_awkward 45 = .ok (.invokevirtual 114, 3) := by decide +kernel
theorem dX3_awkward_48 : decode cX3_awkward 48 = .ok (.iload_n 2, 1) := by decide +kernel
theorem dX3_awkward_49 : decode cX3_awkward 49 = .ok (.if_icmp .le 7, 3) := by decide +kernel
theorem dX3_awkward_52 : decode cX3_awkward 52 = .ok (.iconst 1, 1) := by decide +kernel
theorem dX3_awkward_53 : decode cX3_awkward 53 = .ok (.goto 4, 3) := by decide +kernel
theorem dX3_awkward_56 : decode cX3_awkward 56 = .ok (.iconst 0, 1) := by decide +kernel
theorem dX3_awkward_57 : decode cX3_awkward 57 = .ok (.iadd, 1) := by decide +kernel
theorem dX3_awkward_58 : decode cX3_awkward 58 = .ok (.istore_n 3, 1) := by decide +kernel
theorem dX3_awkward_59 : decode cX3_awkward 59 = .ok (.iinc 4 1, 3) := by decide +kernel
theorem dX3_awkward_62 : decode cX3_awkward 62 = .ok (.goto (-34), 3) := by decide +kernel
theorem dX3_awkward_65 : decode cX3_awkward 65 = .ok (.iload_n 3, 1) := by decide +kernel
theorem dX3_awkward_66 : decode cX3_awkward 66 = .ok (.ireturn, 1) := by decide +kernel
set_option maxRecDepth 20000 in
theorem ggX3_offOfPart_X3_offOf : GoodIn wsX3_offOfPart wsX3_offOf := goodIn_r _ [6, 7, 8, 5, 9, 10, 11, 12, 13, 1, 14, 15, 16, 20, 21, 22, 23, 24, 25, 26] (by decide +kernel) (by decide +kernel)
set_option maxRecDepth 20000 in
theorem gX3_offOfPart_X3_offOf : GoodIn wsX3_offOfPart (wsV RX3 54 RX3 yX3_offOf wsX3_offOf) := goodIn_app (goodIn_of _ (by decide +kernel)) ggX3_offOfPart_X3_offOf
set_option maxRecDepth 20000 in
theorem ggX3_offOfPart_X3_size : GoodIn wsX3_offOfPart wsX3_size := goodIn_r _ [19] (by decide +kernel) (by decide +kernel)
set_option maxRecDepth 20000 in
theorem gX3_offOfPart_X3_size : GoodIn wsX3_offOfPart (va_wsS RX3 58 yX3_size wsX3_size) := goodIn_app (goodIn_of _ (by decide +kernel)) ggX3_offOfPart_X3_size
theorem dX3_offOfPart_0 : decode cX3_offOfPart 0 = .ok (.iconst 0, 1) := by decide +kernel
theorem dX3_offOfPart_1 : decode cX3_offOfPart 1 = .ok (.istore_n 1, 1) := by decide +kernel
theorem dX3_offOfPart_2 : decode cX3_offOfPart 2 = .ok (.iconst 0, 1) := by decide +kernel
theorem dX3_offOfPart_3 : decode cX3_offOfPart 3 = .ok (.istore_n 2, 1) := by decide +kernel
theorem dX3_offOfPart_4 : decode cX3_offOfPart 4 = .ok (.iload_n 2, 1) := by decide +kernel
theorem dX3_offOfPart_5 : decode cX3_offOfPart 5 = .ok (.aload_n 0, 1) := by decide +kernel
theorem dX3_offOfPart_6 : decode cX3_offOfPart 6 = .ok (.getfield 7, 3) := by decide +kernel
theorem dX3_offOfPart_9 : decode cX3_offOfPart 9 = .ok (.bipush 9, 2) := by decide +kernel
theorem dX3_offOfPart_11 : decode cX3_offOfPart 11 = .ok (.iaload, 1) := by decide +kernel
theorem dX3_offOfPart_12 : decode cX3_offOfPart 12 = .ok (.if_icmp .ge 69, 3) := by decide +kernel
theorem dX3_offOfPart_15 : decode cX3_offOfPart 15 = .ok (.bipush (-6), 2) := by decide +kernel
theorem dX3_offOfPart_17 : decode cX3_offOfPart 17 = .ok (.istore_n 3, 1) := by decide +kernel
theorem dX3_offOfPart_18 : decode cX3_offOfPart 18 = .ok (.iconst 0, 1) := by decide +kernel
theorem dX3_offOfPart_19 : decode cX3_offOfPart 19 = .ok (.istore 4, 2) := by decide +kernel
theorem dX3_offOfPart_21 : decode cX3_offOfPart 21 = .ok (.iload 4, 2) := by decide +kernel
theorem dX3_offOfPart_23 : decode cX3_offOfPart 23 = .ok (.bipush 64, 2) := by decide +kernel
theorem dX3_offOfPart_25 : decode cX3_offOfPart 25 = .ok (.if_icmp .ge 46, 3) := by decide +kernel
theorem dX3_offOfPart_28 : decode cX3_offOfPart 28 = .ok (.aload_n 0, 1) := by decide +kernel
theorem dX3_offOfPart_29 : decode cX3_offOfPart 29 = .ok (.iload 4, 2) := by decide +kernel
theorem dX3_offOfPart_31 : decode cX3_offOfPart 31 = .ok (.aload_n 0, 1) := by decide +kernel
theorem dX3_offOfPart_32 : decode cX3_offOfPart 32 = .ok (.getfield 7, 3) := by decide +kernel
theorem dX3_offOfPart_35 : decode cX3_offOfPart 35 = .ok (.bipush 10, 2) := by decide +kernel
theorem dX3_offOfPart_37 : decode cX3_offOfPart 37 = .ok (.iload_n 2, 1) := by decide +kernel
theorem dX3_offOfPart_38 : decode cX3_offOfPart 38 = .ok (.iadd, 1) := by decide +kernel
theorem dX3_offOfPart_39 : decode cX3_offOfPart 39 = .ok (.iaload, 1) := by decide +kernel
theorem dX3_offOfPart_40 : decode cX3_offOfPart 40 = .ok (.invokevirtual 54, 3) := by decide +kernel
theorem dX3_offOfPart_43 : decode cX3_offOfPart 43 = .ok (.invokestatic 58, 3) := by decide +kernel
theorem dX3_offOfPart_46 : decode cX3_offOfPart 46 = .ok (.istore 5, 2) := by decide +kernel
theorem dX3_offOfPart_48 : decode cX3_offOfPart 48 = .ok (.iload_n 3, 1) := by decide +kernel
theorem dX3_offOfPart_49 : decode cX3_offOfPart 49 = .ok (.ifCond .lt 9, 3) := by decide +kernel
theorem dX3_offOfPart_52 : decode cX3_offOfPart 52 = .ok (.iload 5, 2) := by decide +kernel
theorem dX3_offOfPart_54 : decode cX3_offOfPart 54 = .ok (.iload_n 3, 1) := by decide +kernel
theorem dX3_offOfPart_55 : decode cX3_offOfPart 55 = .ok (.if_icmp .ge 8, 3) := by decide +kernel
theorem dX3_offOfPart_58 : decode cX3_offOfPart 58 = .ok (.iload 5, 2) := by decide +kernel
theorem dX3_offOfPart_60 : decode cX3_offOfPart 60 = .ok (.goto 4, 3) := by decide +kernel
theorem dX3_offOfPart_63 : decode cX3_offOfPart 63 = .ok (.iload_n 3, 1) := by decide +kernel
theorem dX3_offOfPart_64 : decode cX3_offOfPart 64 = .ok (.istore_n 3, 1) := by decide +kernel
theorem dX3_offOfPart_65 : decode cX3_offOfPart 65 = .ok (.iinc 4 1, 3) := by decide +kernel
theorem dX3_offOfPart_68 : decode cX3_offOfPart 68 = .ok (.goto (-47), 3) := by decide +kernel
theorem dX3_offOfPart_71 : decode cX3_offOfPart 71 = .ok (.iload_n 1, 1) := by decide +kernel
theorem dX3_offOfPart_72 : decode cX3_offOfPart 72 = .ok (.iload_n 3, 1) := by decide +kernel
theorem dX3_offOfPart_73 : decode cX3_offOfPart 73 = .ok (.iadd, 1) := by decide +kernel
theorem dX3_offOfPart_74 : decode cX3_offOfPart 74 = .ok (.istore_n 1, 1) := by decide +kernel
theorem dX3_offOfPart_75 : decode cX3_offOfPart 75 = .ok (.iinc 2 1, 3) := by decide +kernel
theorem dX3_offOfPart_78 : decode cX3_offOfPart 78 = .ok (.goto (-74), 3) := by decide +kernel
theorem dX3_offOfPart_81 : decode cX3_offOfPart 81 = .ok (.iload_n 1, 1) := by decide +kernel
theorem dX3_offOfPart_82 : decode cX3_offOfPart 82 = .ok (.ireturn, 1) := by decide +kernel
set_option maxRecDepth 20000 in
theorem ggX3_tune_X3_in : GoodIn wsX3_tune wsX3_in := goodIn_r _ [5] (by decide +kernel) (by decide +kernel)
set_option maxRecDepth 20000 in
theorem gX3_tune_X3_in : GoodIn wsX3_tune (va_wsS RX3 33 yX3_in wsX3_in) := goodIn_app (goodIn_of _ (by decide +kernel)) ggX3_tune_X3_in
set_option maxRecDepth 20000 in
theorem ggX3_tune_X3_offOfPart : GoodIn wsX3_tune wsX3_offOfPart := goodIn_r _ [9, 1, 10, 11, 12, 4, 13, 14, 15, 16, 17, 18, 19, 20, 21, 22, 23, 24, 25, 26, 27, 28, 29, 30, 31, 32, 33] (by decide +kernel) (by decide +kernel)
set_option maxRecDepth 20000 in
theorem gX3_tune_X3_offOfPart : GoodIn wsX3_tune (wsV RX3 117 RX3 yX3_offOfPart wsX3_offOfPart) := goodIn_app (goodIn_of _ (by decide +kernel)) ggX3_tune_X3_offOfPart
theorem dX3_tune_0 : decode cX3_tune 0 = .ok (.iload_n 1, 1) := by decide +kernel
theorem dX3_tune_1 : decode cX3_tune 1 = .ok (.iconst 0, 1) := by decide +kernel
theorem dX3_tune_2 : decode cX3_tune 2 = .ok (.iconst 2, 1) := by decide +kernel
theorem dX3_tune_3 : decode cX3_tune 3 = .ok (.invokestatic 33, 3) := by decide +kernel
theorem dX3_tune_6 : decode cX3_tune 6 = .ok (.ifCond .ne 5, 3) := by decide +kernel
theorem dX3_tune_9 : decode cX3_tune 9 = .ok (.iconst (-1), 1) := by decide +kernel
theorem dX3_tune_10 : decode cX3_tune 10 = .ok (.ireturn, 1) := by decide +kernel
theorem dX3_tune_11 : decode cX3_tune 11 = .ok (.iload_n 2, 1) := by decide +kernel
theorem dX3_tune_12 : decode cX3_tune 12 = .ok (.iconst 0, 1) := by decide +kernel
theorem dX3_tune_13 : decode cX3_tune 13 = .ok (.iconst 1, 1) := by decide +kernel
theorem dX3_tune_14 : decode cX3_tune 14 = .ok (.invokestatic 33, 3) := by decide +kernel
theorem dX3_tune_17 : decode cX3_tune 17 = .ok (.ifCond .ne 6, 3) := by decide +kernel
theorem dX3_tune_20 : decode cX3_tune 20 = .ok (.bipush (-2), 2) := by decide +kernel
theorem dX3_tune_22 : decode cX3_tune 22 = .ok (.ireturn, 1) := by decide +kernel
theorem dX3_tune_23 : decode cX3_tune 23 = .ok (.aload_n 0, 1) := by decide +kernel
theorem dX3_tune_24 : decode cX3_tune 24 = .ok (.getfield 7, 3) := by decide +kernel
theorem dX3_tune_27 : decode cX3_tune 27 = .ok (.iconst 0, 1) := by decide +kernel
theorem dX3_tune_28 : decode cX3_tune 28 = .ok (.iaload, 1) := by decide +kernel
theorem dX3_tune_29 : decode cX3_tune 29 = .ok (.iconst 1, 1) := by decide +kernel
theorem dX3_tune_30 : decode cX3_tune 30 = .ok (.if_icmp .ne 6, 3) := by decide +kernel
theorem dX3_tune_33 : decode cX3_tune 33 = .ok (.bipush (-3), 2) := by decide +kernel
theorem dX3_tune_35 : decode cX3_tune 35 = .ok (.ireturn, 1) := by decide +kernel
theorem dX3_tune_36 : decode cX3_tune 36 = .ok (.aload_n 0, 1) := by decide +kernel
theorem dX3_tune_37 : decode cX3_tune 37 = .ok (.getfield 7, 3) := by decide +kernel
theorem dX3_tune_40 : decode cX3_tune 40 = .ok (.iconst 1, 1) := by decide +kernel
theorem dX3_tune_41 : decode cX3_tune 41 = .ok (.iload_n 1, 1) := by decide +kernel
theorem dX3_tune_42 : decode cX3_tune 42 = .ok (.iadd, 1) := by decide +kernel
theorem dX3_tune_43 : decode cX3_tune 43 = .ok (.iaload, 1) := by decide +kernel
theorem dX3_tune_44 : decode cX3_tune 44 = .ok (.istore_n 3, 1) := by decide +kernel
theorem dX3_tune_45 : decode cX3_tune 45 = .ok (.bipush (-6), 2) := by decide +kernel
theorem dX3_tune_47 : decode cX3_tune 47 = .ok (.istore 4, 2) := by decide +kernel
theorem dX3_tune_49 : decode cX3_tune 49 = .ok (.iconst 0, 1) := by decide +kernel
theorem dX3_tune_50 : decode cX3_tune 50 = .ok (.istore 5, 2) := by decide +kernel
theorem dX3_tune_52 : decode cX3_tune 52 = .ok (.iconst 0, 1) := by decide +kernel
theorem dX3_tune_53 : decode cX3_tune 53 = .ok (.istore 6, 2) := by decide +kernel
theorem dX3_tune_55 : decode cX3_tune 55 = .ok (.iload 6, 2) := by decide +kernel
theorem dX3_tune_57 : decode cX3_tune 57 = .ok (.sipush 400, 3) := by decide +kernel
theorem dX3_tune_60 : decode cX3_tune 60 = .ok (.if_icmp .gt 45, 3) := by decide +kernel
theorem dX3_tune_63 : decode cX3_tune 63 = .ok (.aload_n 0, 1) := by decide +kernel
theorem dX3_tune_64 : decode cX3_tune 64 = .ok (.getfield 7, 3) := by decide +kernel
theorem dX3_tune_67 : decode cX3_tune 67 = .ok (.iconst 1, 1) := by decide +kernel
theorem dX3_tune_68 : decode cX3_tune 68 = .ok (.iload_n 1, 1) := by decide +kernel
theorem dX3_tune_69 : decode cX3_tune 69 = .ok (.iadd, 1) := by decide +kernel
theorem dX3_tune_70 : decode cX3_tune 70 = .ok (.iload 6, 2) := by decide +kernel
theorem dX3_tune_72 : decode cX3_tune 72 = .ok (.iastore, 1) := by decide +kernel
theorem dX3_tune_73 : decode cX3_tune 73 = .ok (.aload_n 0, 1) := by decide +kernel
theorem dX3_tune_74 : decode cX3_tune 74 = .ok (.invokevirtual 117, 3) := by decide +kernel
theorem dX3_tune_77 : decode cX3_tune 77 = .ok (.istore 7, 2) := by decide +kernel
theorem dX3_tune_79 : decode cX3_tune 79 = .ok (.iload 4, 2) := by decide +kernel
theorem dX3_tune_81 : decode cX3_tune 81 = .ok (.ifCond .lt 10, 3) := by decide +kernel
theorem dX3_tune_84 : decode cX3_tune 84 = .ok (.iload 7, 2) := by decide +kernel
theorem dX3_tune_86 : decode cX3_tune 86 = .ok (.iload 5, 2) := by decide +kernel
theorem dX3_tune_88 : decode cX3_tune 88 = .ok (.if_icmp .ge 11, 3) := by decide +kernel
theorem dX3_tune_91 : decode cX3_tune 91 = .ok (.iload 6, 2) := by decide +kernel
theorem dX3_tune_93 : decode cX3_tune 93 = .ok (.istore 4, 2) := by decide +kernel
theorem dX3_tune_95 : decode cX3_tune 95 = .ok (.iload 7, 2) := by decide +kernel
theorem dX3_tune_97 : decode cX3_tune 97 = .ok (.istore 5, 2) := by decide +kernel
theorem dX3_tune_99 : decode cX3_tune 99 = .ok (.iinc 6 5, 3) := by decide +kernel
theorem dX3_tune_102 : decode cX3_tune 102 = .ok (.goto (-47), 3) := by decide +kernel
theorem dX3_tune_105 : decode cX3_tune 105 = .ok (.aload_n 0, 1) := by decide +kernel
theorem dX3_tune_106 : decode cX3_tune 106 = .ok (.getfield 7, 3) := by decide +kernel
theorem dX3_tune_109 : decode cX3_tune 109 = .ok (.iconst 1, 1) := by decide +kernel
theorem dX3_tune_110 : decode cX3_tune 110 = .ok (.iload_n 1, 1) := by decide +kernel
theorem dX3_tune_111 : decode cX3_tune 111 = .ok (.iadd, 1) := by decide +kernel
theorem dX3_tune_112 : decode cX3_tune 112 = .ok (.iload_n 3, 1) := by decide +kernel
theorem dX3_tune_113 : decode cX3_tune 113 = .ok (.iastore, 1) := by decide +kernel
theorem dX3_tune_114 : decode cX3_tune 114 = .ok (.iload_n 2, 1) := by decide +kernel
theorem dX3_tune_115 : decode cX3_tune 115 = .ok (.ifCond .ne 8, 3) := by decide +kernel
theorem dX3_tune_118 : decode cX3_tune 118 = .ok (.iload 4, 2) := by decide +kernel
theorem dX3_tune_120 : decode cX3_tune 120 = .ok (.goto 5, 3) := by decide +kernel
theorem dX3_tune_123 : decode cX3_tune 123 = .ok (.iload 5, 2) := by decide +kernel
theorem dX3_tune_125 : decode cX3_tune 125 = .ok (.ireturn, 1) := by decide +kernel
set_option maxRecDepth 20000 in
theorem ggX3_image_X3_in : GoodIn wsX3_image wsX3_in := goodIn_r _ [7] (by decide +kernel) (by decide +kernel)
set_option maxRecDepth 20000 in
theorem gX3_image_X3_in : GoodIn wsX3_image (va_wsS RX3 33 yX3_in wsX3_in) := goodIn_app (goodIn_of _ (by decide +kernel)) ggX3_image_X3_in
theorem dX3_image_0 : decode cX3_image 0 = .ok (.iload_n 1, 1) := by decide +kernel
theorem dX3_image_1 : decode cX3_image 1 = .ok (.iconst 0, 1) := by decide +kernel
theorem dX3_image_2 : decode cX3_image 2 = .ok (.iconst 1, 1) := by decide +kernel
theorem dX3_image_3 : decode cX3_image 3 = .ok (.invokestatic 33, 3) := by decide +kernel
theorem dX3_image_6 : decode cX3_image 6 = .ok (.ifCond .ne 6, 3) := by decide +kernel
theorem dX3_image_9 : decode cX3_image 9 = .ok (.bipush (-2), 2) := by decide +kernel
theorem dX3_image_11 : decode cX3_image 11 = .ok (.ireturn, 1) := by decide +kernel
theorem dX3_image_12 : decode cX3_image 12 = .ok (.iconst 0, 1) := by decide +kernel
theorem dX3_image_13 : decode cX3_image 13 = .ok (.istore_n 2, 1) := by decide +kernel
theorem dX3_image_14 : decode cX3_image 14 = .ok (.iload_n 2, 1) := by decide +kernel
theorem dX3_image_15 : decode cX3_image 15 = .ok (.bipush 22, 2) := by decide +kernel
theorem dX3_image_17 : decode cX3_image 17 = .ok (.if_icmp .ge 26, 3) := by decide +kernel
theorem dX3_image_20 : decode cX3_image 20 = .ok (.aload_n 0, 1) := by decide +kernel
theorem dX3_image_21 : decode cX3_image 21 = .ok (.getfield 13, 3) := by decide +kernel
theorem dX3_image_24 : decode cX3_image 24 = .ok (.bipush 22, 2) := by decide +kernel
theorem dX3_image_26 : decode cX3_image 26 = .ok (.iload_n 1, 1) := by decide +kernel
theorem dX3_image_27 : decode cX3_image 27 = .ok (.imul, 1) := by decide +kernel
theorem dX3_image_28 : decode cX3_image 28 = .ok (.iload_n 2, 1) := by decide +kernel
theorem dX3_image_29 : decode cX3_image 29 = .ok (.iadd, 1) := by decide +kernel
theorem dX3_image_30 : decode cX3_image 30 = .ok (.aload_n 0, 1) := by decide +kernel
theorem dX3_image_31 : decode cX3_image 31 = .ok (.getfield 7, 3) := by decide +kernel
theorem dX3_image_34 : decode cX3_image 34 = .ok (.iload_n 2, 1) := by decide +kernel
theorem dX3_image_35 : decode cX3_image 35 = .ok (.iaload, 1) := by decide +kernel
theorem dX3_image_36 : decode cX3_image 36 = .ok (.iastore, 1) := by decide +kernel
theorem dX3_image_37 : decode cX3_image 37 = .ok (.iinc 2 1, 3) := by decide +kernel
theorem dX3_image_40 : decode cX3_image 40 = .ok (.goto (-26), 3) := by decide +kernel
theorem dX3_image_43 : decode cX3_image 43 = .ok (.aload_n 0, 1) := by decide +kernel
theorem dX3_image_44 : decode cX3_image 44 = .ok (.getfield 16, 3) := by decide +kernel
theorem dX3_image_47 : decode cX3_image 47 = .ok (.iload_n 1, 1) := by decide +kernel
theorem dX3_image_48 : decode cX3_image 48 = .ok (.iconst 1, 1) := by decide +kernel
theorem dX3_image_49 : decode cX3_image 49 = .ok (.bastore, 1) := by decide +kernel
theorem dX3_image_50 : decode cX3_image 50 = .ok (.iconst 1, 1) := by decide +kernel
theorem dX3_image_51 : decode cX3_image 51 = .ok (.ireturn, 1) := by decide +kernel
set_option maxRecDepth 20000 in
theorem ggX3_restore_X3_in : GoodIn wsX3_restore wsX3_in := goodIn_r _ [7] (by decide +kernel) (by decide +kernel)
set_option maxRecDepth 20000 in
theorem gX3_restore_X3_in : GoodIn wsX3_restore (va_wsS RX3 33 yX3_in wsX3_in) := goodIn_app (goodIn_of _ (by decide +kernel)) ggX3_restore_X3_in
theorem dX3_restore_0 : decode cX3_restore 0 = .ok (.iload_n 1, 1) := by decide +kernel
theorem dX3_restore_1 : decode cX3_restore 1 = .ok (.iconst 0, 1) := by decide +kernel
theorem dX3_restore_2 : decode cX3_restore 2 = .ok (.iconst 1, 1) := by decide +kernel
theorem dX3_restore_3 : decode cX3_restore 3 = .ok (.invokestatic 33, 3) := by decide +kernel
theorem dX3_restore_6 : decode cX3_restore 6 = .ok (.ifCond .ne 6, 3) := by decide +kernel
theorem dX3_restore_9 : decode cX3_restore 9 = .ok (.bipush (-2), 2) := by decide +kernel
theorem dX3_restore_11 : decode cX3_restore 11 = .ok (.ireturn, 1) := by decide +kernel
theorem dX3_restore_12 : decode cX3_restore 12 = .ok (.aload_n 0, 1) := by decide +kernel
theorem dX3_restore_13 : decode cX3_restore 13 = .ok (.getfield 16, 3) := by decide +kernel
theorem dX3_restore_16 : decode cX3_restore 16 = .ok (.iload_n 1, 1) := by decide +kernel
theorem dX3_restore_17 : decode cX3_restore 17 = .ok (.baload, 1) := by decide +kernel
theorem dX3_restore_18 : decode cX3_restore 18 = .ok (.ifCond .ne 6, 3) := by decide +kernel
theorem dX3_restore_21 : decode cX3_restore 21 = .ok (.bipush (-3), 2) := by decide +kernel
theorem dX3_restore_23 : decode cX3_restore 23 = .ok (.ireturn, 1) := by decide +kernel
theorem dX3_restore_24 : decode cX3_restore 24 = .ok (.iconst 0, 1) := by decide +kernel
theorem dX3_restore_25 : decode cX3_restore 25 = .ok (.istore_n 2, 1) := by decide +kernel
theorem dX3_restore_26 : decode cX3_restore 26 = .ok (.iload_n 2, 1) := by decide +kernel
theorem dX3_restore_27 : decode cX3_restore 27 = .ok (.bipush 22, 2) := by decide +kernel
theorem dX3_restore_29 : decode cX3_restore 29 = .ok (.if_icmp .ge 26, 3) := by decide +kernel
theorem dX3_restore_32 : decode cX3_restore 32 = .ok (.aload_n 0, 1) := by decide +kernel
theorem dX3_restore_33 : decode cX3_restore 33 = .ok (.getfield 7, 3) := by decide +kernel
theorem dX3_restore_36 : decode cX3_restore 36 = .ok (.iload_n 2, 1) := by decide +kernel
theorem dX3_restore_37 : decode cX3_restore 37 = .ok (.aload_n 0, 1) := by decide +kernel
theorem dX3_restore_38 : decode cX3_restore 38 = .ok (.getfield 13, 3) := by decide +kernel
theorem dX3_restore_41 : decode cX3_restore 41 = .ok (.bipush 22, 2) := by decide +kernel
theorem dX3_restore_43 : decode cX3_restore 43 = .ok (.iload_n 1, 1) := by decide +kernel
theorem dX3_restore_44 : decode cX3_restore 44 = .ok (.imul, 1) := by decide +kernel
theorem dX3_restore_45 : decode cX3_restore 45 = .ok (.iload_n 2, 1) := by decide +kernel
theorem dX3_restore_46 : decode cX3_restore 46 = .ok (.iadd, 1) := by decide +kernel
theorem dX3_restore_47 : decode cX3_restore 47 = .ok (.iaload, 1) := by decide +kernel
theorem dX3_restore_48 : decode cX3_restore 48 = .ok (.iastore, 1) := by decide +kernel
theorem dX3_restore_49 : decode cX3_restore 49 = .ok (.iinc 2 1, 3) := by decide +kernel
theorem dX3_restore_52 : decode cX3_restore 52 = .ok (.goto (-26), 3) := by decide +kernel
theorem dX3_restore_55 : decode cX3_restore 55 = .ok (.iconst 1, 1) := by decide +kernel
theorem dX3_restore_56 : decode cX3_restore 56 = .ok (.ireturn, 1) := by decide +kernel
set_option maxRecDepth 20000 in
theorem ggX3_count_X3_in : GoodIn wsX3_count wsX3_in := goodIn_r _ [6] (by decide +kernel) (by decide +kernel)
set_option maxRecDepth 20000 in
theorem gX3_count_X3_in : GoodIn wsX3_count (va_wsS RX3 33 yX3_in wsX3_in) := goodIn_app (goodIn_of _ (by decide +kernel)) ggX3_count_X3_in
set_option maxRecDepth 20000 in
theorem ggX3_count_X3_isPlace : GoodIn wsX3_count wsX3_isPlace := goodIn_r _ [10, 1, 3, 4, 5, 6, 11, 12, 13, 14, 15, 16, 17] (by decide +kernel) (by decide +kernel)
set_option maxRecDepth 20000 in
theorem gX3_count_X3_isPlace : GoodIn wsX3_count (wsV RX3 71 RX3 yX3_isPlace wsX3_isPlace) := goodIn_app (goodIn_of _ (by decide +kernel)) ggX3_count_X3_isPlace
theorem dX3_count_0 : decode cX3_count 0 = .ok (.iload_n 1, 1) := by decide +kernel
theorem dX3_count_1 : decode cX3_count 1 = .ok (.bipush 10, 2) := by decide +kernel
theorem dX3_count_3 : decode cX3_count 3 = .ok (.bipush 14, 2) := by decide +kernel
theorem dX3_count_5 : decode cX3_count 5 = .ok (.invokestatic 33, 3) := by decide +kernel
theorem dX3_count_8 : decode cX3_count 8 = .ok (.ifCond .eq 15, 3) := by decide +kernel
theorem dX3_count_11 : decode cX3_count 11 = .ok (.aload_n 0, 1) := by decide +kernel
theorem dX3_count_12 : decode cX3_count 12 = .ok (.getfield 7, 3) := by decide +kernel
theorem dX3_count_15 : decode cX3_count 15 = .ok (.iconst 4, 1) := by decide +kernel
theorem dX3_count_16 : decode cX3_count 16 = .ok (.iload_n 1, 1) := by decide +kernel
theorem dX3_count_17 : decode cX3_count 17 = .ok (.iadd, 1) := by decide +kernel
theorem dX3_count_18 : decode cX3_count 18 = .ok (.bipush 10, 2) := by decide +kernel
theorem dX3_count_20 : decode cX3_count 20 = .ok (.isub, 1) := by decide +kernel
theorem dX3_count_21 : decode cX3_count 21 = .ok (.iaload, 1) := by decide +kernel
theorem dX3_count_22 : decode cX3_count 22 = .ok (.ireturn, 1) := by decide +kernel
theorem dX3_count_23 : decode cX3_count 23 = .ok (.iload_n 1, 1) := by decide +kernel
theorem dX3_count_24 : decode cX3_count 24 = .ok (.bipush 20, 2) := by decide +kernel
theorem dX3_count_26 : decode cX3_count 26 = .ok (.bipush 22, 2) := by decide +kernel
theorem dX3_count_28 : decode cX3_count 28 = .ok (.invokestatic 33, 3) := by decide +kernel
theorem dX3_count_31 : decode cX3_count 31 = .ok (.ifCond .eq 15, 3) := by decide +kernel
theorem dX3_count_34 : decode cX3_count 34 = .ok (.aload_n 0, 1) := by decide +kernel
theorem dX3_count_35 : decode cX3_count 35 = .ok (.getfield 7, 3) := by decide +kernel
theorem dX3_count_38 : decode cX3_count 38 = .ok (.iconst 1, 1) := by decide +kernel
theorem dX3_count_39 : decode cX3_count 39 = .ok (.iload_n 1, 1) := by decide +kernel
theorem dX3_count_40 : decode cX3_count 40 = .ok (.iadd, 1) := by decide +kernel
theorem dX3_count_41 : decode cX3_count 41 = .ok (.bipush 20, 2) := by decide +kernel
theorem dX3_count_43 : decode cX3_count 43 = .ok (.isub, 1) := by decide +kernel
theorem dX3_count_44 : decode cX3_count 44 = .ok (.iaload, 1) := by decide +kernel
theorem dX3_count_45 : decode cX3_count 45 = .ok (.ireturn, 1) := by decide +kernel
theorem dX3_count_46 : decode cX3_count 46 = .ok (.iload_n 1, 1) := by decide +kernel
theorem dX3_count_47 : decode cX3_count 47 = .ok (.bipush 30, 2) := by decide +kernel
theorem dX3_count_49 : decode cX3_count 49 = .ok (.bipush 41, 2) := by decide +kernel
theorem dX3_count_51 : decode cX3_count 51 = .ok (.invokestatic 33, 3) := by decide +kernel
theorem dX3_count_54 : decode cX3_count 54 = .ok (.ifCond .eq 32, 3) := by decide +kernel
theorem dX3_count_57 : decode cX3_count 57 = .ok (.aload_n 0, 1) := by decide +kernel
theorem dX3_count_58 : decode cX3_count 58 = .ok (.iload_n 1, 1) := by decide +kernel
theorem dX3_count_59 : decode cX3_count 59 = .ok (.bipush 30, 2) := by decide +kernel
theorem dX3_count_61 : decode cX3_count 61 = .ok (.isub, 1) := by decide +kernel
theorem dX3_count_62 : decode cX3_count 62 = .ok (.invokevirtual 71, 3) := by decide +kernel
theorem dX3_count_65 : decode cX3_count 65 = .ok (.ifCond .eq 18, 3) := by decide +kernel
theorem dX3_count_68 : decode cX3_count 68 = .ok (.aload_n 0, 1) := by decide +kernel
theorem dX3_count_69 : decode cX3_count 69 = .ok (.getfield 7, 3) := by decide +kernel
theorem dX3_count_72 : decode cX3_count 72 = .ok (.bipush 10, 2) := by decide +kernel
theorem dX3_count_74 : decode cX3_count 74 = .ok (.iload_n 1, 1) := by decide +kernel
theorem dX3_count_75 : decode cX3_count 75 = .ok (.iadd, 1) := by decide +kernel
theorem dX3_count_76 : decode cX3_count 76 = .ok (.bipush 30, 2) := by decide +kernel
theorem dX3_count_78 : decode cX3_count 78 = .ok (.isub, 1) := by decide +kernel
theorem dX3_count_79 : decode cX3_count 79 = .ok (.iaload, 1) := by decide +kernel
theorem dX3_count_80 : decode cX3_count 80 = .ok (.goto 5, 3) := by decide +kernel
theorem dX3_count_83 : decode cX3_count 83 = .ok (.bipush (-6), 2) := by decide +kernel
theorem dX3_count_85 : decode cX3_count 85 = .ok (.ireturn, 1) := by decide +kernel
theorem dX3_count_86 : decode cX3_count 86 = .ok (.iload_n 1, 1) := by decide +kernel
theorem dX3_count_87 : decode cX3_count 87 = .ok (.tableswitch 70 0 2 #[25, 32, 40], 25) := by decide +kernel
theorem dX3_count_112 : decode cX3_count 112 = .ok (.aload_n 0, 1) := by decide +kernel
theorem dX3_count_113 : decode cX3_count 113 = .ok (.getfield 7, 3) := by decide +kernel
theorem dX3_count_116 : decode cX3_count 116 = .ok (.iconst 0, 1) := by decide +kernel
theorem dX3_count_117 : decode cX3_count 117 = .ok (.iaload, 1) := by decide +kernel
theorem dX3_count_118 : decode cX3_count 118 = .ok (.ireturn, 1) := by decide +kernel
theorem dX3_count_119 : decode cX3_count 119 = .ok (.aload_n 0, 1) := by decide +kernel
theorem dX3_count_120 : decode cX3_count 120 = .ok (.getfield 7, 3) := by decide +kernel
theorem dX3_count_123 : decode cX3_count 123 = .ok (.bipush 9, 2) := by decide +kernel
theorem dX3_count_125 : decode cX3_count 125 = .ok (.iaload, 1) := by decide +kernel
theorem dX3_count_126 : decode cX3_count 126 = .ok (.ireturn, 1) := by decide +kernel
theorem dX3_count_127 : decode cX3_count 127 = .ok (.aload_n 0, 1) := by decide +kernel
theorem dX3_count_128 : decode cX3_count 128 = .ok (.getfield 16, 3) := by decide +kernel
theorem dX3_count_131 : decode cX3_count 131 = .ok (.iconst 0, 1) := by decide +kernel
theorem dX3_count_132 : decode cX3_count 132 = .ok (.baload, 1) := by decide +kernel
theorem dX3_count_133 : decode cX3_count 133 = .ok (.ifCond .eq 7, 3) := by decide +kernel
theorem dX3_count_136 : decode cX3_count 136 = .ok (.iconst 1, 1) := by decide +kernel
theorem dX3_count_137 : decode cX3_count 137 = .ok (.goto 4, 3) := by decide +kernel
theorem dX3_count_140 : decode cX3_count 140 = .ok (.iconst 0, 1) := by decide +kernel
theorem dX3_count_141 : decode cX3_count 141 = .ok (.aload_n 0, 1) := by decide +kernel
theorem dX3_count_142 : decode cX3_count 142 = .ok (.getfield 16, 3) := by decide +kernel
theorem dX3_count_145 : decode cX3_count 145 = .ok (.iconst 1, 1) := by decide +kernel
theorem dX3_count_146 : decode cX3_count 146 = .ok (.baload, 1) := by decide +kernel
theorem dX3_count_147 : decode cX3_count 147 = .ok (.ifCond .eq 7, 3) := by decide +kernel
theorem dX3_count_150 : decode cX3_count 150 = .ok (.iconst 2, 1) := by decide +kernel
theorem dX3_count_151 : decode cX3_count 151 = .ok (.goto 4, 3) := by decide +kernel
theorem dX3_count_154 : decode cX3_count 154 = .ok (.iconst 0, 1) := by decide +kernel
theorem dX3_count_155 : decode cX3_count 155 = .ok (.iadd, 1) := by decide +kernel
theorem dX3_count_156 : decode cX3_count 156 = .ok (.ireturn, 1) := by decide +kernel
theorem dX3_count_157 : decode cX3_count 157 = .ok (.bipush (-2), 2) := by decide +kernel
theorem dX3_count_159 : decode cX3_count 159 = .ok (.ireturn, 1) := by decide +kernel
theorem dJ6_bitCount_0f7a4_0 : decode cJ6_bitCount_0f7a4 0 = .ok (.iload_n 0, 1) := by decide +kernel
theorem dJ6_bitCount_0f7a4_1 : decode cJ6_bitCount_0f7a4 1 = .ok (.iload_n 0, 1) := by decide +kernel
theorem dJ6_bitCount_0f7a4_2 : decode cJ6_bitCount_0f7a4 2 = .ok (.iconst 1, 1) := by decide +kernel
theorem dJ6_bitCount_0f7a4_3 : decode cJ6_bitCount_0f7a4 3 = .ok (.iushr, 1) := by decide +kernel
theorem dJ6_bitCount_0f7a4_4 : decode cJ6_bitCount_0f7a4 4 = .ok (.ldc_w 265, 3) := by decide +kernel
theorem dJ6_bitCount_0f7a4_7 : decode cJ6_bitCount_0f7a4 7 = .ok (.iand, 1) := by decide +kernel
theorem dJ6_bitCount_0f7a4_8 : decode cJ6_bitCount_0f7a4 8 = .ok (.isub, 1) := by decide +kernel
theorem dJ6_bitCount_0f7a4_9 : decode cJ6_bitCount_0f7a4 9 = .ok (.istore_n 0, 1) := by decide +kernel
theorem dJ6_bitCount_0f7a4_10 : decode cJ6_bitCount_0f7a4 10 = .ok (.iload_n 0, 1) := by decide +kernel
theorem dJ6_bitCount_0f7a4_11 : decode cJ6_bitCount_0f7a4 11 = .ok (.ldc_w 266, 3) := by decide +kernel
theorem dJ6_bitCount_0f7a4_14 : decode cJ6_bitCount_0f7a4 14 = .ok (.iand, 1) := by decide +kernel
theorem dJ6_bitCount_0f7a4_15 : decode cJ6_bitCount_0f7a4 15 = .ok (.iload_n 0, 1) := by decide +kernel
theorem dJ6_bitCount_0f7a4_16 : decode cJ6_bitCount_0f7a4 16 = .ok (.iconst 2, 1) := by decide +kernel
theorem dJ6_bitCount_0f7a4_17 : decode cJ6_bitCount_0f7a4 17 = .ok (.iushr, 1) := by decide +kernel
theorem dJ6_bitCount_0f7a4_18 : decode cJ6_bitCount_0f7a4 18 = .ok (.ldc_w 266, 3) := by decide +kernel
theorem dJ6_bitCount_0f7a4_21 : decode cJ6_bitCount_0f7a4 21 = .ok (.iand, 1) := by decide +kernel
theorem dJ6_bitCount_0f7a4_22 : decode cJ6_bitCount_0f7a4 22 = .ok (.iadd, 1) := by decide +kernel
theorem dJ6_bitCount_0f7a4_23 : decode cJ6_bitCount_0f7a4 23 = .ok (.istore_n 0, 1) := by decide +kernel
theorem dJ6_bitCount_0f7a4_24 : decode cJ6_bitCount_0f7a4 24 = .ok (.iload_n 0, 1) := by decide +kernel
theorem dJ6_bitCount_0f7a4_25 : decode cJ6_bitCount_0f7a4 25 = .ok (.iload_n 0, 1) := by decide +kernel
theorem dJ6_bitCount_0f7a4_26 : decode cJ6_bitCount_0f7a4 26 = .ok (.iconst 4, 1) := by decide +kernel
theorem dJ6_bitCount_0f7a4_27 : decode cJ6_bitCount_0f7a4 27 = .ok (.iushr, 1) := by decide +kernel
theorem dJ6_bitCount_0f7a4_28 : decode cJ6_bitCount_0f7a4 28 = .ok (.iadd, 1) := by decide +kernel
theorem dJ6_bitCount_0f7a4_29 : decode cJ6_bitCount_0f7a4 29 = .ok (.ldc_w 267, 3) := by decide +kernel
theorem dJ6_bitCount_0f7a4_32 : decode cJ6_bitCount_0f7a4 32 = .ok (.iand, 1) := by decide +kernel
theorem dJ6_bitCount_0f7a4_33 : decode cJ6_bitCount_0f7a4 33 = .ok (.istore_n 0, 1) := by decide +kernel
theorem dJ6_bitCount_0f7a4_34 : decode cJ6_bitCount_0f7a4 34 = .ok (.iload_n 0, 1) := by decide +kernel
theorem dJ6_bitCount_0f7a4_35 : decode cJ6_bitCount_0f7a4 35 = .ok (.iload_n 0, 1) := by decide +kernel
theorem dJ6_bitCount_0f7a4_36 : decode cJ6_bitCount_0f7a4 36 = .ok (.bipush 8, 2) := by decide +kernel
theorem dJ6_bitCount_0f7a4_38 : decode cJ6_bitCount_0f7a4 38 = .ok (.iushr, 1) := by decide +kernel
theorem dJ6_bitCount_0f7a4_39 : decode cJ6_bitCount_0f7a4 39 = .ok (.iadd, 1) := by decide +kernel
theorem dJ6_bitCount_0f7a4_40 : decode cJ6_bitCount_0f7a4 40 = .ok (.istore_n 0, 1) := by decide +kernel
theorem dJ6_bitCount_0f7a4_41 : decode cJ6_bitCount_0f7a4 41 = .ok (.iload_n 0, 1) := by decide +kernel
theorem dJ6_bitCount_0f7a4_42 : decode cJ6_bitCount_0f7a4 42 = .ok (.iload_n 0, 1) := by decide +kernel
theorem dJ6_bitCount_0f7a4_43 : decode cJ6_bitCount_0f7a4 43 = .ok (.bipush 16, 2) := by decide +kernel
theorem dJ6_bitCount_0f7a4_45 : decode cJ6_bitCount_0f7a4 45 = .ok (.iushr, 1) := by decide +kernel
theorem dJ6_bitCount_0f7a4_46 : decode cJ6_bitCount_0f7a4 46 = .ok (.iadd, 1) := by decide +kernel
theorem dJ6_bitCount_0f7a4_47 : decode cJ6_bitCount_0f7a4 47 = .ok (.istore_n 0, 1) := by decide +kernel
theorem dJ6_bitCount_0f7a4_48 : decode cJ6_bitCount_0f7a4 48 = .ok (.iload_n 0, 1) := by decide +kernel
theorem dJ6_bitCount_0f7a4_49 : decode cJ6_bitCount_0f7a4 49 = .ok (.bipush 63, 2) := by decide +kernel
theorem dJ6_bitCount_0f7a4_51 : decode cJ6_bitCount_0f7a4 51 = .ok (.iand, 1) := by decide +kernel
theorem dJ6_bitCount_0f7a4_52 : decode cJ6_bitCount_0f7a4 52 = .ok (.ireturn, 1) := by decide +kernel
theorem dJ9_abs_0f7a4_0 : decode cJ9_abs_0f7a4 0 = .ok (.iload_n 0, 1) := by decide +kernel
theorem dJ9_abs_0f7a4_1 : decode cJ9_abs_0f7a4 1 = .ok (.ifCond .ge 8, 3) := by decide +kernel
theorem dJ9_abs_0f7a4_4 : decode cJ9_abs_0f7a4 4 = .ok (.iload_n 0, 1) := by decide +kernel
theorem dJ9_abs_0f7a4_5 : decode cJ9_abs_0f7a4 5 = .ok (.ineg, 1) := by decide +kernel
theorem dJ9_abs_0f7a4_6 : decode cJ9_abs_0f7a4 6 = .ok (.goto 4, 3) := by decide +kernel
theorem dJ9_abs_0f7a4_9 : decode cJ9_abs_0f7a4 9 = .ok (.iload_n 0, 1) := by decide +kernel
theorem dJ9_abs_0f7a4_10 : decode cJ9_abs_0f7a4 10 = .ok (.ireturn, 1) := by decide +kernel
theorem dJ9_min_7cf53_0 : decode cJ9_min_7cf53 0 = .ok (.iload_n 0, 1) := by decide +kernel
theorem dJ9_min_7cf53_1 : decode cJ9_min_7cf53 1 = .ok (.iload_n 1, 1) := by decide +kernel
theorem dJ9_min_7cf53_2 : decode cJ9_min_7cf53 2 = .ok (.if_icmp .gt 7, 3) := by decide +kernel
theorem dJ9_min_7cf53_5 : decode cJ9_min_7cf53 5 = .ok (.iload_n 0, 1) := by decide +kernel
theorem dJ9_min_7cf53_6 : decode cJ9_min_7cf53 6 = .ok (.goto 4, 3) := by decide +kernel
theorem dJ9_min_7cf53_9 : decode cJ9_min_7cf53 9 = .ok (.iload_n 1, 1) := by decide +kernel
theorem dJ9_min_7cf53_10 : decode cJ9_min_7cf53 10 = .ok (.ireturn, 1) := by decide +kernel
