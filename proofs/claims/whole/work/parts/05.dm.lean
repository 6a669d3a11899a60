theorem dX7_init_0 : decode cX7_init 0 = .ok (.aload_n 0, 1) := by decide +kernel
theorem dX7_init_1 : decode cX7_init 1 = .ok (.invokespecial 1, 3) := by decide +kernel
theorem dX7_init_4 : decode cX7_init 4 = .ok (.aload_n 0, 1) := by decide +kernel
theorem dX7_init_5 : decode cX7_init 5 = .ok (.bipush 8, 2) := by decide +kernel
theorem dX7_init_7 : decode cX7_init 7 = .ok (.newarray .int, 2) := by decide +kernel
theorem dX7_init_9 : decode cX7_init 9 = .ok (.putfield 7, 3) := by decide +kernel
theorem dX7_init_12 : decode cX7_init 12 = .ok (.aload_n 0, 1) := by decide +kernel
theorem dX7_init_13 : decode cX7_init 13 = .ok (.bipush 8, 2) := by decide +kernel
theorem dX7_init_15 : decode cX7_init 15 = .ok (.newarray .int, 2) := by decide +kernel
theorem dX7_init_17 : decode cX7_init 17 = .ok (.putfield 13, 3) := by decide +kernel
theorem dX7_init_20 : decode cX7_init 20 = .ok (.aload_n 0, 1) := by decide +kernel
theorem dX7_init_21 : decode cX7_init 21 = .ok (.bipush 8, 2) := by decide +kernel
theorem dX7_init_23 : decode cX7_init 23 = .ok (.newarray .int, 2) := by decide +kernel
theorem dX7_init_25 : decode cX7_init 25 = .ok (.putfield 16, 3) := by decide +kernel
theorem dX7_init_28 : decode cX7_init 28 = .ok (.aload_n 0, 1) := by decide +kernel
theorem dX7_init_29 : decode cX7_init 29 = .ok (.bipush 8, 2) := by decide +kernel
theorem dX7_init_31 : decode cX7_init 31 = .ok (.newarray .int, 2) := by decide +kernel
theorem dX7_init_33 : decode cX7_init 33 = .ok (.putfield 19, 3) := by decide +kernel
theorem dX7_init_36 : decode cX7_init 36 = .ok (.aload_n 0, 1) := by decide +kernel
theorem dX7_init_37 : decode cX7_init 37 = .ok (.bipush 8, 2) := by decide +kernel
theorem dX7_init_39 : decode cX7_init 39 = .ok (.newarray .int, 2) := by decide +kernel
theorem dX7_init_41 : decode cX7_init 41 = .ok (.putfield 22, 3) := by decide +kernel
theorem dX7_init_44 : decode cX7_init 44 = .ok (.aload_n 0, 1) := by decide +kernel
theorem dX7_init_45 : decode cX7_init 45 = .ok (.bipush 8, 2) := by decide +kernel
theorem dX7_init_47 : decode cX7_init 47 = .ok (.newarray .boolean, 2) := by decide +kernel
theorem dX7_init_49 : decode cX7_init 49 = .ok (.putfield 25, 3) := by decide +kernel
theorem dX7_init_52 : decode cX7_init 52 = .ok (.aload_n 0, 1) := by decide +kernel
theorem dX7_init_53 : decode cX7_init 53 = .ok (.bipush 8, 2) := by decide +kernel
theorem dX7_init_55 : decode cX7_init 55 = .ok (.newarray .int, 2) := by decide +kernel
theorem dX7_init_57 : decode cX7_init 57 = .ok (.putfield 29, 3) := by decide +kernel
theorem dX7_init_60 : decode cX7_init 60 = .ok (.aload_n 0, 1) := by decide +kernel
theorem dX7_init_61 : decode cX7_init 61 = .ok (.bipush 8, 2) := by decide +kernel
theorem dX7_init_63 : decode cX7_init 63 = .ok (.newarray .int, 2) := by decide +kernel
theorem dX7_init_65 : decode cX7_init 65 = .ok (.putfield 32, 3) := by decide +kernel
theorem dX7_init_68 : decode cX7_init 68 = .ok (.aload_n 0, 1) := by decide +kernel
theorem dX7_init_69 : decode cX7_init 69 = .ok (.bipush 8, 2) := by decide +kernel
theorem dX7_init_71 : decode cX7_init 71 = .ok (.newarray .int, 2) := by decide +kernel
theorem dX7_init_73 : decode cX7_init 73 = .ok (.putfield 35, 3) := by decide +kernel
theorem dX7_init_76 : decode cX7_init 76 = .ok (.aload_n 0, 1) := by decide +kernel
theorem dX7_init_77 : decode cX7_init 77 = .ok (.bipush 8, 2) := by decide +kernel
theorem dX7_init_79 : decode cX7_init 79 = .ok (.newarray .int, 2) := by decide +kernel
theorem dX7_init_81 : decode cX7_init 81 = .ok (.putfield 38, 3) := by decide +kernel
theorem dX7_init_84 : decode cX7_init 84 = .ok (.aload_n 0, 1) := by decide +kernel
theorem dX7_init_85 : decode cX7_init 85 = .ok (.iconst 3, 1) := by decide +kernel
theorem dX7_init_86 : decode cX7_init 86 = .ok (.newarray .int, 2) := by decide +kernel
theorem dX7_init_88 : decode cX7_init 88 = .ok (.putfield 41, 3) := by decide +kernel
theorem dX7_init_91 : decode cX7_init 91 = .ok (.aload_n 0, 1) := by decide +kernel
theorem dX7_init_92 : decode cX7_init 92 = .ok (.iconst 3, 1) := by decide +kernel
theorem dX7_init_93 : decode cX7_init 93 = .ok (.newarray .int, 2) := by decide +kernel
theorem dX7_init_95 : decode cX7_init 95 = .ok (.putfield 44, 3) := by decide +kernel
theorem dX7_init_98 : decode cX7_init 98 = .ok (.aload_n 0, 1) := by decide +kernel
theorem dX7_init_99 : decode cX7_init 99 = .ok (.iconst 3, 1) := by decide +kernel
theorem dX7_init_100 : decode cX7_init 100 = .ok (.newarray .int, 2) := by decide +kernel
theorem dX7_init_102 : decode cX7_init 102 = .ok (.putfield 47, 3) := by decide +kernel
theorem dX7_init_105 : decode cX7_init 105 = .ok (.aload_n 0, 1) := by decide +kernel
theorem dX7_init_106 : decode cX7_init 106 = .ok (.bipush 6, 2) := by decide +kernel
theorem dX7_init_108 : decode cX7_init 108 = .ok (.newarray .int, 2) := by decide +kernel
theorem dX7_init_110 : decode cX7_init 110 = .ok (.putfield 50, 3) := by decide +kernel
theorem dX7_init_113 : decode cX7_init 113 = .ok (.aload_n 0, 1) := by decide +kernel
theorem dX7_init_114 : decode cX7_init 114 = .ok (.bipush 6, 2) := by decide +kernel
theorem dX7_init_116 : decode cX7_init 116 = .ok (.newarray .int, 2) := by decide +kernel
theorem dX7_init_118 : decode cX7_init 118 = .ok (.putfield 53, 3) := by decide +kernel
theorem dX7_init_121 : decode cX7_init 121 = .ok (.aload_n 0, 1) := by decide +kernel
theorem dX7_init_122 : decode cX7_init 122 = .ok (.bipush 6, 2) := by decide +kernel
theorem dX7_init_124 : decode cX7_init 124 = .ok (.newarray .long, 2) := by decide +kernel
theorem dX7_init_126 : decode cX7_init 126 = .ok (.putfield 56, 3) := by decide +kernel
theorem dX7_init_129 : decode cX7_init 129 = .ok (.aload_n 0, 1) := by decide +kernel
theorem dX7_init_130 : decode cX7_init 130 = .ok (.sipush 700, 3) := by decide +kernel
theorem dX7_init_133 : decode cX7_init 133 = .ok (.newarray .int, 2) := by decide +kernel
theorem dX7_init_135 : decode cX7_init 135 = .ok (.putfield 60, 3) := by decide +kernel
theorem dX7_init_138 : decode cX7_init 138 = .ok (.aload_n 0, 1) := by decide +kernel
theorem dX7_init_139 : decode cX7_init 139 = .ok (.sipush 700, 3) := by decide +kernel
theorem dX7_init_142 : decode cX7_init 142 = .ok (.newarray .char, 2) := by decide +kernel
theorem dX7_init_144 : decode cX7_init 144 = .ok (.putfield 63, 3) := by decide +kernel
theorem dX7_init_147 : decode cX7_init 147 = .ok (.aload_n 0, 1) := by decide +kernel
theorem dX7_init_148 : decode cX7_init 148 = .ok (.sipush 700, 3) := by decide +kernel
theorem dX7_init_151 : decode cX7_init 151 = .ok (.newarray .int, 2) := by decide +kernel
theorem dX7_init_153 : decode cX7_init 153 = .ok (.putfield 67, 3) := by decide +kernel
theorem dX7_init_156 : decode cX7_init 156 = .ok (.aload_n 0, 1) := by decide +kernel
theorem dX7_init_157 : decode cX7_init 157 = .ok (.sipush 700, 3) := by decide +kernel
theorem dX7_init_160 : decode cX7_init 160 = .ok (.newarray .int, 2) := by decide +kernel
theorem dX7_init_162 : decode cX7_init 162 = .ok (.putfield 70, 3) := by decide +kernel
theorem dX7_init_165 : decode cX7_init 165 = .ok (.aload_n 0, 1) := by decide +kernel
theorem dX7_init_166 : decode cX7_init 166 = .ok (.sipush 700, 3) := by decide +kernel
theorem dX7_init_169 : decode cX7_init 169 = .ok (.newarray .boolean, 2) := by decide +kernel
theorem dX7_init_171 : decode cX7_init 171 = .ok (.putfield 73, 3) := by decide +kernel
theorem dX7_init_174 : decode cX7_init 174 = .ok (.aload_n 0, 1) := by decide +kernel
theorem dX7_init_175 : decode cX7_init 175 = .ok (.sipush 700, 3) := by decide +kernel
theorem dX7_init_178 : decode cX7_init 178 = .ok (.newarray .int, 2) := by decide +kernel
theorem dX7_init_180 : decode cX7_init 180 = .ok (.putfield 76, 3) := by decide +kernel
theorem dX7_init_183 : decode cX7_init 183 = .ok (.return_, 1) := by decide +kernel
theorem dX7_thrown_0 : decode cX7_thrown 0 = .ok (.aload_n 0, 1) := by decide +kernel
theorem dX7_thrown_1 : decode cX7_thrown 1 = .ok (.getfield 79, 3) := by decide +kernel
theorem dX7_thrown_4 : decode cX7_thrown 4 = .ok (.ireturn, 1) := by decide +kernel
theorem dX7_in_0 : decode cX7_in 0 = .ok (.iload_n 0, 1) := by decide +kernel
theorem dX7_in_1 : decode cX7_in 1 = .ok (.iload_n 1, 1) := by decide +kernel
theorem dX7_in_2 : decode cX7_in 2 = .ok (.if_icmp .lt 12, 3) := by decide +kernel
theorem dX7_in_5 : decode cX7_in 5 = .ok (.iload_n 0, 1) := by decide +kernel
theorem dX7_in_6 : decode cX7_in 6 = .ok (.iload_n 2, 1) := by decide +kernel
theorem dX7_in_7 : decode cX7_in 7 = .ok (.if_icmp .gt 7, 3) := by decide +kernel
theorem dX7_in_10 : decode cX7_in 10 = .ok (.iconst 1, 1) := by decide +kernel
theorem dX7_in_11 : decode cX7_in 11 = .ok (.goto 4, 3) := by decide +kernel
theorem dX7_in_14 : decode cX7_in 14 = .ok (.iconst 0, 1) := by decide +kernel
theorem dX7_in_15 : decode cX7_in 15 = .ok (.ireturn, 1) := by decide +kernel
theorem dX7_fails_0 : decode cX7_fails 0 = .ok (.aload_n 0, 1) := by decide +kernel
theorem dX7_fails_1 : decode cX7_fails 1 = .ok (.iload_n 1, 1) := by decide +kernel
theorem dX7_fails_2 : decode cX7_fails 2 = .ok (.putfield 79, 3) := by decide +kernel
theorem dX7_fails_5 : decode cX7_fails 5 = .ok (.iconst 0, 1) := by decide +kernel
theorem dX7_fails_6 : decode cX7_fails 6 = .ok (.ireturn, 1) := by decide +kernel
set_option maxRecDepth 20000 in
theorem ggX7_isRoute_X7_in : GoodIn wsX7_isRoute wsX7_in := goodIn_r _ [5] (by decide +kernel) (by decide +kernel)
set_option maxRecDepth 20000 in
theorem gX7_isRoute_X7_in : GoodIn wsX7_isRoute (va_wsS RX7 86 yX7_in wsX7_in) := goodIn_app (goodIn_of _ (by decide +kernel)) ggX7_isRoute_X7_in
theorem dX7_isRoute_0 : decode cX7_isRoute 0 = .ok (.iload_n 1, 1) := by decide +kernel
theorem dX7_isRoute_1 : decode cX7_isRoute 1 = .ok (.iconst 0, 1) := by decide +kernel
theorem dX7_isRoute_2 : decode cX7_isRoute 2 = .ok (.aload_n 0, 1) := by decide +kernel
theorem dX7_isRoute_3 : decode cX7_isRoute 3 = .ok (.getfield 83, 3) := by decide +kernel
theorem dX7_isRoute_6 : decode cX7_isRoute 6 = .ok (.iconst 1, 1) := by decide +kernel
theorem dX7_isRoute_7 : decode cX7_isRoute 7 = .ok (.isub, 1) := by decide +kernel
theorem dX7_isRoute_8 : decode cX7_isRoute 8 = .ok (.invokestatic 86, 3) := by decide +kernel
theorem dX7_isRoute_11 : decode cX7_isRoute 11 = .ok (.ireturn, 1) := by decide +kernel
set_option maxRecDepth 20000 in
theorem ggX7_isCaller_X7_in : GoodIn wsX7_isCaller wsX7_in := goodIn_r _ [5] (by decide +kernel) (by decide +kernel)
set_option maxRecDepth 20000 in
theorem gX7_isCaller_X7_in : GoodIn wsX7_isCaller (va_wsS RX7 86 yX7_in wsX7_in) := goodIn_app (goodIn_of _ (by decide +kernel)) ggX7_isCaller_X7_in
theorem dX7_isCaller_0 : decode cX7_isCaller 0 = .ok (.iload_n 1, 1) := by decide +kernel
theorem dX7_isCaller_1 : decode cX7_isCaller 1 = .ok (.iconst 0, 1) := by decide +kernel
theorem dX7_isCaller_2 : decode cX7_isCaller 2 = .ok (.aload_n 0, 1) := by decide +kernel
theorem dX7_isCaller_3 : decode cX7_isCaller 3 = .ok (.getfield 90, 3) := by decide +kernel
theorem dX7_isCaller_6 : decode cX7_isCaller 6 = .ok (.iconst 1, 1) := by decide +kernel
theorem dX7_isCaller_7 : decode cX7_isCaller 7 = .ok (.isub, 1) := by decide +kernel
theorem dX7_isCaller_8 : decode cX7_isCaller 8 = .ok (.invokestatic 86, 3) := by decide +kernel
theorem dX7_isCaller_11 : decode cX7_isCaller 11 = .ok (.ireturn, 1) := by decide +kernel
set_option maxRecDepth 20000 in
theorem ggX7_isPath_X7_in : GoodIn wsX7_isPath wsX7_in := goodIn_r _ [4] (by decide +kernel) (by decide +kernel)
set_option maxRecDepth 20000 in
theorem gX7_isPath_X7_in : GoodIn wsX7_isPath (va_wsS RX7 86 yX7_in wsX7_in) := goodIn_app (goodIn_of _ (by decide +kernel)) ggX7_isPath_X7_in
theorem dX7_isPath_0 : decode cX7_isPath 0 = .ok (.iload_n 0, 1) := by decide +kernel
theorem dX7_isPath_1 : decode cX7_isPath 1 = .ok (.iconst 0, 1) := by decide +kernel
theorem dX7_isPath_2 : decode cX7_isPath 2 = .ok (.sipush 9999, 3) := by decide +kernel
theorem dX7_isPath_5 : decode cX7_isPath 5 = .ok (.invokestatic 86, 3) := by decide +kernel
theorem dX7_isPath_8 : decode cX7_isPath 8 = .ok (.ifCond .ne 5, 3) := by decide +kernel
theorem dX7_isPath_11 : decode cX7_isPath 11 = .ok (.iconst 0, 1) := by decide +kernel
theorem dX7_isPath_12 : decode cX7_isPath 12 = .ok (.ireturn, 1) := by decide +kernel
theorem dX7_isPath_13 : decode cX7_isPath 13 = .ok (.iload_n 0, 1) := by decide +kernel
theorem dX7_isPath_14 : decode cX7_isPath 14 = .ok (.istore_n 1, 1) := by decide +kernel
theorem dX7_isPath_15 : decode cX7_isPath 15 = .ok (.iload_n 1, 1) := by decide +kernel
theorem dX7_isPath_16 : decode cX7_isPath 16 = .ok (.ifCond .le 20, 3) := by decide +kernel
theorem dX7_isPath_19 : decode cX7_isPath 19 = .ok (.iload_n 1, 1) := by decide +kernel
theorem dX7_isPath_20 : decode cX7_isPath 20 = .ok (.bipush 10, 2) := by decide +kernel
theorem dX7_isPath_22 : decode cX7_isPath 22 = .ok (.irem, 1) := by decide +kernel
theorem dX7_isPath_23 : decode cX7_isPath 23 = .ok (.ifCond .ne 5, 3) := by decide +kernel
theorem dX7_isPath_26 : decode cX7_isPath 26 = .ok (.iconst 0, 1) := by decide +kernel
theorem dX7_isPath_27 : decode cX7_isPath 27 = .ok (.ireturn, 1) := by decide +kernel
theorem dX7_isPath_28 : decode cX7_isPath 28 = .ok (.iload_n 1, 1) := by decide +kernel
theorem dX7_isPath_29 : decode cX7_isPath 29 = .ok (.bipush 10, 2) := by decide +kernel
theorem dX7_isPath_31 : decode cX7_isPath 31 = .ok (.idiv, 1) := by decide +kernel
theorem dX7_isPath_32 : decode cX7_isPath 32 = .ok (.istore_n 1, 1) := by decide +kernel
theorem dX7_isPath_33 : decode cX7_isPath 33 = .ok (.goto (-18), 3) := by decide +kernel
theorem dX7_isPath_36 : decode cX7_isPath 36 = .ok (.iconst 1, 1) := by decide +kernel
theorem dX7_isPath_37 : decode cX7_isPath 37 = .ok (.ireturn, 1) := by decide +kernel
set_option maxRecDepth 20000 in
theorem ggX7_isContract_X7_in : GoodIn wsX7_isContract wsX7_in := goodIn_r _ [4] (by decide +kernel) (by decide +kernel)
set_option maxRecDepth 20000 in
theorem gX7_isContract_X7_in : GoodIn wsX7_isContract (va_wsS RX7 86 yX7_in wsX7_in) := goodIn_app (goodIn_of _ (by decide +kernel)) ggX7_isContract_X7_in
theorem dX7_isContract_0 : decode cX7_isContract 0 = .ok (.iload_n 0, 1) := by decide +kernel
theorem dX7_isContract_1 : decode cX7_isContract 1 = .ok (.iconst 0, 1) := by decide +kernel
theorem dX7_isContract_2 : decode cX7_isContract 2 = .ok (.sipush 999, 3) := by decide +kernel
theorem dX7_isContract_5 : decode cX7_isContract 5 = .ok (.invokestatic 86, 3) := by decide +kernel
theorem dX7_isContract_8 : decode cX7_isContract 8 = .ok (.ifCond .eq 18, 3) := by decide +kernel
theorem dX7_isContract_11 : decode cX7_isContract 11 = .ok (.iload_n 1, 1) := by decide +kernel
theorem dX7_isContract_12 : decode cX7_isContract 12 = .ok (.iload_n 0, 1) := by decide +kernel
theorem dX7_isContract_13 : decode cX7_isContract 13 = .ok (.sipush 999, 3) := by decide +kernel
theorem dX7_isContract_16 : decode cX7_isContract 16 = .ok (.invokestatic 86, 3) := by decide +kernel
theorem dX7_isContract_19 : decode cX7_isContract 19 = .ok (.ifCond .eq 7, 3) := by decide +kernel
theorem dX7_isContract_22 : decode cX7_isContract 22 = .ok (.iconst 1, 1) := by decide +kernel
theorem dX7_isContract_23 : decode cX7_isContract 23 = .ok (.goto 4, 3) := by decide +kernel
theorem dX7_isContract_26 : decode cX7_isContract 26 = .ok (.iconst 0, 1) := by decide +kernel
theorem dX7_isContract_27 : decode cX7_isContract 27 = .ok (.ireturn, 1) := by decide +kernel
theorem dX7_breaks_0 : decode cX7_breaks 0 = .ok (.iload_n 2, 1) := by decide +kernel
theorem dX7_breaks_1 : decode cX7_breaks 1 = .ok (.aload_n 0, 1) := by decide +kernel
theorem dX7_breaks_2 : decode cX7_breaks 2 = .ok (.getfield 16, 3) := by decide +kernel
theorem dX7_breaks_5 : decode cX7_breaks 5 = .ok (.iload_n 1, 1) := by decide +kernel
theorem dX7_breaks_6 : decode cX7_breaks 6 = .ok (.iaload, 1) := by decide +kernel
theorem dX7_breaks_7 : decode cX7_breaks 7 = .ok (.if_icmp .lt 13, 3) := by decide +kernel
theorem dX7_breaks_10 : decode cX7_breaks 10 = .ok (.iload_n 2, 1) := by decide +kernel
theorem dX7_breaks_11 : decode cX7_breaks 11 = .ok (.aload_n 0, 1) := by decide +kernel
theorem dX7_breaks_12 : decode cX7_breaks 12 = .ok (.getfield 19, 3) := by decide +kernel
theorem dX7_breaks_15 : decode cX7_breaks 15 = .ok (.iload_n 1, 1) := by decide +kernel
theorem dX7_breaks_16 : decode cX7_breaks 16 = .ok (.iaload, 1) := by decide +kernel
theorem dX7_breaks_17 : decode cX7_breaks 17 = .ok (.if_icmp .le 7, 3) := by decide +kernel
theorem dX7_breaks_20 : decode cX7_breaks 20 = .ok (.iconst 1, 1) := by decide +kernel
theorem dX7_breaks_21 : decode cX7_breaks 21 = .ok (.goto 4, 3) := by decide +kernel
theorem dX7_breaks_24 : decode cX7_breaks 24 = .ok (.iconst 0, 1) := by decide +kernel
theorem dX7_breaks_25 : decode cX7_breaks 25 = .ok (.ireturn, 1) := by decide +kernel
theorem dX7_withPath_0 : decode cX7_withPath 0 = .ok (.iconst 0, 1) := by decide +kernel
theorem dX7_withPath_1 : decode cX7_withPath 1 = .ok (.istore_n 2, 1) := by decide +kernel
theorem dX7_withPath_2 : decode cX7_withPath 2 = .ok (.iload_n 2, 1) := by decide +kernel
theorem dX7_withPath_3 : decode cX7_withPath 3 = .ok (.aload_n 0, 1) := by decide +kernel
theorem dX7_withPath_4 : decode cX7_withPath 4 = .ok (.getfield 83, 3) := by decide +kernel
theorem dX7_withPath_7 : decode cX7_withPath 7 = .ok (.if_icmp .ge 21, 3) := by decide +kernel
theorem dX7_withPath_10 : decode cX7_withPath 10 = .ok (.aload_n 0, 1) := by decide +kernel
theorem dX7_withPath_11 : decode cX7_withPath 11 = .ok (.getfield 7, 3) := by decide +kernel
theorem dX7_withPath_14 : decode cX7_withPath 14 = .ok (.iload_n 2, 1) := by decide +kernel
theorem dX7_withPath_15 : decode cX7_withPath 15 = .ok (.iaload, 1) := by decide +kernel
theorem dX7_withPath_16 : decode cX7_withPath 16 = .ok (.iload_n 1, 1) := by decide +kernel
theorem dX7_withPath_17 : decode cX7_withPath 17 = .ok (.if_icmp .ne 5, 3) := by decide +kernel
theorem dX7_withPath_20 : decode cX7_withPath 20 = .ok (.iload_n 2, 1) := by decide +kernel
theorem dX7_withPath_21 : decode cX7_withPath 21 = .ok (.ireturn, 1) := by decide +kernel
theorem dX7_withPath_22 : decode cX7_withPath 22 = .ok (.iinc 2 1, 3) := by decide +kernel
theorem dX7_withPath_25 : decode cX7_withPath 25 = .ok (.goto (-23), 3) := by decide +kernel
theorem dX7_withPath_28 : decode cX7_withPath 28 = .ok (.iconst (-1), 1) := by decide +kernel
theorem dX7_withPath_29 : decode cX7_withPath 29 = .ok (.ireturn, 1) := by decide +kernel
set_option maxRecDepth 20000 in
theorem ggX7_addRoute_X7_isPath : GoodIn wsX7_addRoute wsX7_isPath := goodIn_r _ [10, 11, 12, 9, 13] (by decide +kernel) (by decide +kernel)
set_option maxRecDepth 20000 in
theorem gX7_addRoute_X7_isPath : GoodIn wsX7_addRoute (va_wsS RX7 93 yX7_isPath wsX7_isPath) := goodIn_app (goodIn_of _ (by decide +kernel)) ggX7_addRoute_X7_isPath
set_option maxRecDepth 20000 in
theorem ggX7_addRoute_X7_in : GoodIn wsX7_addRoute wsX7_in := goodIn_r _ [13] (by decide +kernel) (by decide +kernel)
set_option maxRecDepth 20000 in
theorem gX7_addRoute_X7_in : GoodIn wsX7_addRoute (va_wsS RX7 86 yX7_in wsX7_in) := goodIn_app (goodIn_of _ (by decide +kernel)) ggX7_addRoute_X7_in
set_option maxRecDepth 20000 in
theorem ggX7_addRoute_X7_isContract : GoodIn wsX7_addRoute wsX7_isContract := goodIn_r _ [16, 11, 12, 9, 13] (by decide +kernel) (by decide +kernel)
set_option maxRecDepth 20000 in
theorem gX7_addRoute_X7_isContract : GoodIn wsX7_addRoute (va_wsS RX7 97 yX7_isContract wsX7_isContract) := goodIn_app (goodIn_of _ (by decide +kernel)) ggX7_addRoute_X7_isContract
set_option maxRecDepth 20000 in
theorem ggX7_addRoute_X7_withPath : GoodIn wsX7_addRoute wsX7_withPath := goodIn_ca (goodIn_r _ [20, 2, 3, 25, 26, 27, 28, 29, 30, 31, 32, 33, 34, 35, 36, 37, 38, 39, 40, 41, 42, 43, 44, 45, 46, 47, 48, 49, 50, 51] (by decide +kernel) (by decide +kernel)) (goodIn_sub (fun _ h => List.mem_cons_of_mem _ (List.mem_append_right _ h)) (by decide +kernel))
set_option maxRecDepth 20000 in
theorem gX7_addRoute_X7_withPath : GoodIn wsX7_addRoute (wsV RX7 101 RX7 yX7_withPath wsX7_withPath) := goodIn_app (goodIn_of _ (by decide +kernel)) ggX7_addRoute_X7_withPath
set_option maxRecDepth 20000 in
theorem ggX7_addRoute_X7_fails : GoodIn wsX7_addRoute wsX7_fails := goodIn_r _ [24, 1, 25, 26, 27, 28, 29, 30, 31, 32, 33, 34, 35, 36, 37, 38, 39, 40, 41, 42, 43, 44, 45, 46, 47, 48, 49, 50, 51] (by decide +kernel) (by decide +kernel)
set_option maxRecDepth 20000 in
theorem gX7_addRoute_X7_fails : GoodIn wsX7_addRoute (wsV RX7 105 RX7 yX7_fails wsX7_fails) := goodIn_app (goodIn_of _ (by decide +kernel)) ggX7_addRoute_X7_fails
theorem dX7_addRoute_0 : decode cX7_addRoute 0 = .ok (.aload_n 0, 1) := by decide +kernel
theorem dX7_addRoute_1 : decode cX7_addRoute 1 = .ok (.iconst 0, 1) := by decide +kernel
theorem dX7_addRoute_2 : decode cX7_addRoute 2 = .ok (.putfield 79, 3) := by decide +kernel
theorem dX7_addRoute_5 : decode cX7_addRoute 5 = .ok (.iload_n 1, 1) := by decide +kernel
theorem dX7_addRoute_6 : decode cX7_addRoute 6 = .ok (.invokestatic 93, 3) := by decide +kernel
theorem dX7_addRoute_9 : decode cX7_addRoute 9 = .ok (.ifCond .eq 30, 3) := by decide +kernel
theorem dX7_addRoute_12 : decode cX7_addRoute 12 = .ok (.iload_n 2, 1) := by decide +kernel
theorem dX7_addRoute_13 : decode cX7_addRoute 13 = .ok (.iconst 1, 1) := by decide +kernel
theorem dX7_addRoute_14 : decode cX7_addRoute 14 = .ok (.iconst 5, 1) := by decide +kernel
theorem dX7_addRoute_15 : decode cX7_addRoute 15 = .ok (.invokestatic 86, 3) := by decide +kernel
theorem dX7_addRoute_18 : decode cX7_addRoute 18 = .ok (.ifCond .eq 21, 3) := by decide +kernel
theorem dX7_addRoute_21 : decode cX7_addRoute 21 = .ok (.iload_n 3, 1) := by decide +kernel
theorem dX7_addRoute_22 : decode cX7_addRoute 22 = .ok (.iload 4, 2) := by decide +kernel
theorem dX7_addRoute_24 : decode cX7_addRoute 24 = .ok (.invokestatic 97, 3) := by decide +kernel
theorem dX7_addRoute_27 : decode cX7_addRoute 27 = .ok (.ifCond .eq 12, 3) := by decide +kernel
theorem dX7_addRoute_30 : decode cX7_addRoute 30 = .ok (.aload_n 0, 1) := by decide +kernel
theorem dX7_addRoute_31 : decode cX7_addRoute 31 = .ok (.iload_n 1, 1) := by decide +kernel
theorem dX7_addRoute_32 : decode cX7_addRoute 32 = .ok (.invokevirtual 101, 3) := by decide +kernel
theorem dX7_addRoute_35 : decode cX7_addRoute 35 = .ok (.iconst (-1), 1) := by decide +kernel
theorem dX7_addRoute_36 : decode cX7_addRoute 36 = .ok (.if_icmp .eq 9, 3) := by decide +kernel
theorem dX7_addRoute_39 : decode cX7_addRoute 39 = .ok (.aload_n 0, 1) := by decide +kernel
theorem dX7_addRoute_40 : decode cX7_addRoute 40 = .ok (.iconst 1, 1) := by decide +kernel
theorem dX7_addRoute_41 : decode cX7_addRoute 41 = .ok (.invokevirtual 105, 3) := by decide +kernel
theorem dX7_addRoute_44 : decode cX7_addRoute 44 = .ok (.ireturn, 1) := by decide +kernel
theorem dX7_addRoute_45 : decode cX7_addRoute 45 = .ok (.aload_n 0, 1) := by decide +kernel
theorem dX7_addRoute_46 : decode cX7_addRoute 46 = .ok (.getfield 83, 3) := by decide +kernel
theorem dX7_addRoute_49 : decode cX7_addRoute 49 = .ok (.bipush 8, 2) := by decide +kernel
theorem dX7_addRoute_51 : decode cX7_addRoute 51 = .ok (.if_icmp .ne 9, 3) := by decide +kernel
theorem dX7_addRoute_54 : decode cX7_addRoute 54 = .ok (.aload_n 0, 1) := by decide +kernel
theorem dX7_addRoute_55 : decode cX7_addRoute 55 = .ok (.iconst 2, 1) := by decide +kernel
theorem dX7_addRoute_56 : decode cX7_addRoute 56 = .ok (.invokevirtual 105, 3) := by decide +kernel
theorem dX7_addRoute_59 : decode cX7_addRoute 59 = .ok (.ireturn, 1) := by decide +kernel
theorem dX7_addRoute_60 : decode cX7_addRoute 60 = .ok (.aload_n 0, 1) := by decide +kernel
theorem dX7_addRoute_61 : decode cX7_addRoute 61 = .ok (.getfield 7, 3) := by decide +kernel
theorem dX7_addRoute_64 : decode cX7_addRoute 64 = .ok (.aload_n 0, 1) := by decide +kernel
theorem dX7_addRoute_65 : decode cX7_addRoute 65 = .ok (.getfield 83, 3) := by decide +kernel
theorem dX7_addRoute_68 : decode cX7_addRoute 68 = .ok (.iload_n 1, 1) := by decide +kernel
theorem dX7_addRoute_69 : decode cX7_addRoute 69 = .ok (.iastore, 1) := by decide +kernel
theorem dX7_addRoute_70 : decode cX7_addRoute 70 = .ok (.aload_n 0, 1) := by decide +kernel
theorem dX7_addRoute_71 : decode cX7_addRoute 71 = .ok (.getfield 13, 3) := by decide +kernel
theorem dX7_addRoute_74 : decode cX7_addRoute 74 = .ok (.aload_n 0, 1) := by decide +kernel
theorem dX7_addRoute_75 : decode cX7_addRoute 75 = .ok (.getfield 83, 3) := by decide +kernel
theorem dX7_addRoute_78 : decode cX7_addRoute 78 = .ok (.iload_n 2, 1) := by decide +kernel
theorem dX7_addRoute_79 : decode cX7_addRoute 79 = .ok (.iastore, 1) := by decide +kernel
theorem dX7_addRoute_80 : decode cX7_addRoute 80 = .ok (.aload_n 0, 1) := by decide +kernel
theorem dX7_addRoute_81 : decode cX7_addRoute 81 = .ok (.getfield 16, 3) := by decide +kernel
theorem dX7_addRoute_84 : decode cX7_addRoute 84 = .ok (.aload_n 0, 1) := by decide +kernel
theorem dX7_addRoute_85 : decode cX7_addRoute 85 = .ok (.getfield 83, 3) := by decide +kernel
theorem dX7_addRoute_88 : decode cX7_addRoute 88 = .ok (.iload_n 3, 1) := by decide +kernel
theorem dX7_addRoute_89 : decode cX7_addRoute 89 = .ok (.iastore, 1) := by decide +kernel
theorem dX7_addRoute_90 : decode cX7_addRoute 90 = .ok (.aload_n 0, 1) := by decide +kernel
theorem dX7_addRoute_91 : decode cX7_addRoute 91 = .ok (.getfield 19, 3) := by decide +kernel
theorem dX7_addRoute_94 : decode cX7_addRoute 94 = .ok (.aload_n 0, 1) := by decide +kernel
theorem dX7_addRoute_95 : decode cX7_addRoute 95 = .ok (.getfield 83, 3) := by decide +kernel
theorem dX7_addRoute_98 : decode cX7_addRoute 98 = .ok (.iload 4, 2) := by decide +kernel
theorem dX7_addRoute_100 : decode cX7_addRoute 100 = .ok (.iastore, 1) := by decide +kernel
theorem dX7_addRoute_101 : decode cX7_addRoute 101 = .ok (.aload_n 0, 1) := by decide +kernel
theorem dX7_addRoute_102 : decode cX7_addRoute 102 = .ok (.dup, 1) := by decide +kernel
theorem dX7_addRoute_103 : decode cX7_addRoute 103 = .ok (.getfield 83, 3) := by decide +kernel
theorem dX7_addRoute_106 : decode cX7_addRoute 106 = .ok (.iconst 1, 1) := by decide +kernel
theorem dX7_addRoute_107 : decode cX7_addRoute 107 = .ok (.iadd, 1) := by decide +kernel
theorem dX7_addRoute_108 : decode cX7_addRoute 108 = .ok (.putfield 83, 3) := by decide +kernel
theorem dX7_addRoute_111 : decode cX7_addRoute 111 = .ok (.aload_n 0, 1) := by decide +kernel
theorem dX7_addRoute_112 : decode cX7_addRoute 112 = .ok (.getfield 83, 3) := by decide +kernel
theorem dX7_addRoute_115 : decode cX7_addRoute 115 = .ok (.iconst 1, 1) := by decide +kernel
theorem dX7_addRoute_116 : decode cX7_addRoute 116 = .ok (.isub, 1) := by decide +kernel
theorem dX7_addRoute_117 : decode cX7_addRoute 117 = .ok (.ireturn, 1) := by decide +kernel
set_option maxRecDepth 20000 in
theorem ggX7_goes_X7_withPath : GoodIn wsX7_goes wsX7_withPath := goodIn_ca (goodIn_r _ [5, 6, 7, 8, 9, 10, 11, 12, 13, 14, 15, 16, 17, 18, 19, 20, 21, 22, 23, 24, 25, 26, 27, 28, 29, 30, 31, 32, 33, 34] (by decide +kernel) (by decide +kernel)) (goodIn_sub (fun _ h => List.mem_cons_of_mem _ (List.mem_append_right _ h)) (by decide +kernel))
set_option maxRecDepth 20000 in
theorem gX7_goes_X7_withPath : GoodIn wsX7_goes (wsV RX7 101 RX7 yX7_withPath wsX7_withPath) := goodIn_app (goodIn_of _ (by decide +kernel)) ggX7_goes_X7_withPath
theorem dX7_goes_0 : decode cX7_goes 0 = .ok (.iload_n 1, 1) := by decide +kernel
theorem dX7_goes_1 : decode cX7_goes 1 = .ok (.istore_n 2, 1) := by decide +kernel
theorem dX7_goes_2 : decode cX7_goes 2 = .ok (.iload_n 2, 1) := by decide +kernel
theorem dX7_goes_3 : decode cX7_goes 3 = .ok (.ifCond .le 26, 3) := by decide +kernel
theorem dX7_goes_6 : decode cX7_goes 6 = .ok (.aload_n 0, 1) := by decide +kernel
theorem dX7_goes_7 : decode cX7_goes 7 = .ok (.iload_n 2, 1) := by decide +kernel
theorem dX7_goes_8 : decode cX7_goes 8 = .ok (.invokevirtual 101, 3) := by decide +kernel
theorem dX7_goes_11 : decode cX7_goes 11 = .ok (.iconst (-1), 1) := by decide +kernel
theorem dX7_goes_12 : decode cX7_goes 12 = .ok (.if_icmp .eq 9, 3) := by decide +kernel
theorem dX7_goes_15 : decode cX7_goes 15 = .ok (.aload_n 0, 1) := by decide +kernel
theorem dX7_goes_16 : decode cX7_goes 16 = .ok (.iload_n 2, 1) := by decide +kernel
theorem dX7_goes_17 : decode cX7_goes 17 = .ok (.invokevirtual 101, 3) := by decide +kernel
theorem dX7_goes_20 : decode cX7_goes 20 = .ok (.ireturn, 1) := by decide +kernel
theorem dX7_goes_21 : decode cX7_goes 21 = .ok (.iload_n 2, 1) := by decide +kernel
theorem dX7_goes_22 : decode cX7_goes 22 = .ok (.bipush 10, 2) := by decide +kernel
theorem dX7_goes_24 : decode cX7_goes 24 = .ok (.idiv, 1) := by decide +kernel
theorem dX7_goes_25 : decode cX7_goes 25 = .ok (.istore_n 2, 1) := by decide +kernel
theorem dX7_goes_26 : decode cX7_goes 26 = .ok (.goto (-24), 3) := by decide +kernel
theorem dX7_goes_29 : decode cX7_goes 29 = .ok (.aload_n 0, 1) := by decide +kernel
theorem dX7_goes_30 : decode cX7_goes 30 = .ok (.iconst 0, 1) := by decide +kernel
theorem dX7_goes_31 : decode cX7_goes 31 = .ok (.invokevirtual 101, 3) := by decide +kernel
theorem dX7_goes_34 : decode cX7_goes 34 = .ok (.ireturn, 1) := by decide +kernel
set_option maxRecDepth 20000 in
theorem ggX7_route_X7_isPath : GoodIn wsX7_route wsX7_isPath := goodIn_r _ [5, 6, 7, 4, 8] (by decide +kernel) (by decide +kernel)
set_option maxRecDepth 20000 in
theorem gX7_route_X7_isPath : GoodIn wsX7_route (va_wsS RX7 93 yX7_isPath wsX7_isPath) := goodIn_app (goodIn_of _ (by decide +kernel)) ggX7_route_X7_isPath
set_option maxRecDepth 20000 in
theorem ggX7_route_X7_fails : GoodIn wsX7_route wsX7_fails := goodIn_r _ [12, 1, 23, 24, 25, 26, 27, 28, 29, 30, 31, 32, 33, 34, 35, 36, 37, 38, 39, 40, 41, 42, 43, 44, 45, 46, 47, 48, 49] (by decide +kernel) (by decide +kernel)
set_option maxRecDepth 20000 in
theorem gX7_route_X7_fails : GoodIn wsX7_route (wsV RX7 105 RX7 yX7_fails wsX7_fails) := goodIn_app (goodIn_of _ (by decide +kernel)) ggX7_route_X7_fails
set_option maxRecDepth 20000 in
theorem ggX7_route_X7_goes : GoodIn wsX7_route wsX7_goes := goodIn_ca (goodIn_r _ [16, 17, 18, 19, 4, 20, 21, 22, 23, 24, 25, 26, 27, 28, 29, 30, 31, 32, 33, 34, 35, 36, 37, 38, 39, 40, 41, 42, 43, 44, 45, 46, 47, 48, 49] (by decide +kernel) (by decide +kernel)) (goodIn_sub (fun _ h => List.mem_cons_of_mem _ (List.mem_append_right _ h)) (by decide +kernel))
set_option maxRecDepth 20000 in
theorem gX7_route_X7_goes : GoodIn wsX7_route (wsV RX7 108 RX7 yX7_goes wsX7_goes) := goodIn_app (goodIn_of _ (by decide +kernel)) ggX7_route_X7_goes
theorem dX7_route_0 : decode cX7_route 0 = .ok (.aload_n 0, 1) := by decide +kernel
theorem dX7_route_1 : decode cX7_route 1 = .ok (.iconst 0, 1) := by decide +kernel
theorem dX7_route_2 : decode cX7_route 2 = .ok (.putfield 79, 3) := by decide +kernel
theorem dX7_route_5 : decode cX7_route 5 = .ok (.iload_n 1, 1) := by decide +kernel
theorem dX7_route_6 : decode cX7_route 6 = .ok (.invokestatic 93, 3) := by decide +kernel
theorem dX7_route_9 : decode cX7_route 9 = .ok (.ifCond .ne 9, 3) := by decide +kernel
theorem dX7_route_12 : decode cX7_route 12 = .ok (.aload_n 0, 1) := by decide +kernel
theorem dX7_route_13 : decode cX7_route 13 = .ok (.iconst 1, 1) := by decide +kernel
theorem dX7_route_14 : decode cX7_route 14 = .ok (.invokevirtual 105, 3) := by decide +kernel
theorem dX7_route_17 : decode cX7_route 17 = .ok (.ireturn, 1) := by decide +kernel
theorem dX7_route_18 : decode cX7_route 18 = .ok (.aload_n 0, 1) := by decide +kernel
theorem dX7_route_19 : decode cX7_route 19 = .ok (.iload_n 1, 1) := by decide +kernel
theorem dX7_route_20 : decode cX7_route 20 = .ok (.invokevirtual 108, 3) := by decide +kernel
theorem dX7_route_23 : decode cX7_route 23 = .ok (.istore_n 2, 1) := by decide +kernel
theorem dX7_route_24 : decode cX7_route 24 = .ok (.iload_n 2, 1) := by decide +kernel
theorem dX7_route_25 : decode cX7_route 25 = .ok (.iconst (-1), 1) := by decide +kernel
theorem dX7_route_26 : decode cX7_route 26 = .ok (.if_icmp .ne 11, 3) := by decide +kernel
theorem dX7_route_29 : decode cX7_route 29 = .ok (.aload_n 0, 1) := by decide +kernel
theorem dX7_route_30 : decode cX7_route 30 = .ok (.iconst 2, 1) := by decide +kernel
theorem dX7_route_31 : decode cX7_route 31 = .ok (.invokevirtual 105, 3) := by decide +kernel
theorem dX7_route_34 : decode cX7_route 34 = .ok (.goto 4, 3) := by decide +kernel
theorem dX7_route_37 : decode cX7_route 37 = .ok (.iload_n 2, 1) := by decide +kernel
theorem dX7_route_38 : decode cX7_route 38 = .ok (.ireturn, 1) := by decide +kernel
set_option maxRecDepth 20000 in
theorem ggX7_routeByComparing_X7_route : GoodIn wsX7_routeByComparing wsX7_route := goodIn_ca (goodIn_r _ [5, 6, 7, 8, 4, 9, 10, 11, 12, 13, 14, 15, 16, 17, 18, 19, 20, 21, 22, 23, 24, 25, 26, 27, 28, 29, 30, 31, 32, 33, 34, 35, 36, 37, 38, 39, 40, 41, 42, 43, 44, 45, 46, 47, 48, 49, 50, 51, 52, 53] (by decide +kernel) (by decide +kernel)) (goodIn_sub (fun _ h => List.mem_cons_of_mem _ (List.mem_append_right _ h)) (by decide +kernel))
set_option maxRecDepth 20000 in
theorem gX7_routeByComparing_X7_route : GoodIn wsX7_routeByComparing (wsV RX7 111 RX7 yX7_route wsX7_route) := goodIn_app (goodIn_of _ (by decide +kernel)) ggX7_routeByComparing_X7_route
theorem dX7_routeByComparing_0 : decode cX7_routeByComparing 0 = .ok (.aload_n 0, 1) := by decide +kernel
theorem dX7_routeByComparing_1 : decode cX7_routeByComparing 1 = .ok (.iload_n 1, 1) := by decide +kernel
theorem dX7_routeByComparing_2 : decode cX7_routeByComparing 2 = .ok (.invokevirtual 111, 3) := by decide +kernel
theorem dX7_routeByComparing_5 : decode cX7_routeByComparing 5 = .ok (.ireturn, 1) := by decide +kernel
set_option maxRecDepth 20000 in
theorem ggX7_setContract_X7_isRoute : GoodIn wsX7_setContract wsX7_isRoute := goodIn_r _ [8, 9, 10, 11, 7, 12, 20, 21, 22, 23, 24, 25, 26, 27, 28, 29, 30, 31, 32, 33, 34, 35, 36, 37, 38, 39, 40, 41, 42, 43, 44, 45, 46] (by decide +kernel) (by decide +kernel)
set_option maxRecDepth 20000 in
theorem gX7_setContract_X7_isRoute : GoodIn wsX7_setContract (wsV RX7 114 RX7 yX7_isRoute wsX7_isRoute) := goodIn_app (goodIn_of _ (by decide +kernel)) ggX7_setContract_X7_isRoute
set_option maxRecDepth 20000 in
theorem ggX7_setContract_X7_fails : GoodIn wsX7_setContract wsX7_fails := goodIn_r _ [16, 1, 20, 21, 22, 23, 24, 25, 26, 27, 28, 29, 30, 31, 32, 33, 34, 35, 36, 37, 38, 39, 40, 41, 42, 43, 44, 45, 46] (by decide +kernel) (by decide +kernel)
set_option maxRecDepth 20000 in
theorem gX7_setContract_X7_fails : GoodIn wsX7_setContract (wsV RX7 105 RX7 yX7_fails wsX7_fails) := goodIn_app (goodIn_of _ (by decide +kernel)) ggX7_setContract_X7_fails
set_option maxRecDepth 20000 in
theorem ggX7_setContract_X7_isContract : GoodIn wsX7_setContract wsX7_isContract := goodIn_r _ [19, 10, 11, 7, 12] (by decide +kernel) (by decide +kernel)
set_option maxRecDepth 20000 in
theorem gX7_setContract_X7_isContract : GoodIn wsX7_setContract (va_wsS RX7 97 yX7_isContract wsX7_isContract) := goodIn_app (goodIn_of _ (by decide +kernel)) ggX7_setContract_X7_isContract
theorem dX7_setContract_0 : decode cX7_setContract 0 = .ok (.aload_n 0, 1) := by decide +kernel
theorem dX7_setContract_1 : decode cX7_setContract 1 = .ok (.iconst 0, 1) := by decide +kernel
theorem dX7_setContract_2 : decode cX7_setContract 2 = .ok (.putfield 79, 3) := by decide +kernel
theorem dX7_setContract_5 : decode cX7_setContract 5 = .ok (.aload_n 0, 1) := by decide +kernel
theorem dX7_setContract_6 : decode cX7_setContract 6 = .ok (.iload_n 1, 1) := by decide +kernel
theorem dX7_setContract_7 : decode cX7_setContract 7 = .ok (.invokevirtual 114, 3) := by decide +kernel
theorem dX7_setContract_10 : decode cX7_setContract 10 = .ok (.ifCond .ne 9, 3) := by decide +kernel
theorem dX7_setContract_13 : decode cX7_setContract 13 = .ok (.aload_n 0, 1) := by decide +kernel
theorem dX7_setContract_14 : decode cX7_setContract 14 = .ok (.iconst 1, 1) := by decide +kernel
theorem dX7_setContract_15 : decode cX7_setContract 15 = .ok (.invokevirtual 105, 3) := by decide +kernel
theorem dX7_setContract_18 : decode cX7_setContract 18 = .ok (.ireturn, 1) := by decide +kernel
theorem dX7_setContract_19 : decode cX7_setContract 19 = .ok (.iload_n 2, 1) := by decide +kernel
theorem dX7_setContract_20 : decode cX7_setContract 20 = .ok (.iload_n 3, 1) := by decide +kernel
theorem dX7_setContract_21 : decode cX7_setContract 21 = .ok (.invokestatic 97, 3) := by decide +kernel
theorem dX7_setContract_24 : decode cX7_setContract 24 = .ok (.ifCond .ne 9, 3) := by decide +kernel
theorem dX7_setContract_27 : decode cX7_setContract 27 = .ok (.aload_n 0, 1) := by decide +kernel
theorem dX7_setContract_28 : decode cX7_setContract 28 = .ok (.iconst 2, 1) := by decide +kernel
theorem dX7_setContract_29 : decode cX7_setContract 29 = .ok (.invokevirtual 105, 3) := by decide +kernel
theorem dX7_setContract_32 : decode cX7_setContract 32 = .ok (.ireturn, 1) := by decide +kernel
theorem dX7_setContract_33 : decode cX7_setContract 33 = .ok (.aload_n 0, 1) := by decide +kernel
theorem dX7_setContract_34 : decode cX7_setContract 34 = .ok (.getfield 16, 3) := by decide +kernel
theorem dX7_setContract_37 : decode cX7_setContract 37 = .ok (.iload_n 1, 1) := by decide +kernel
theorem dX7_setContract_38 : decode cX7_setContract 38 = .ok (.iaload, 1) := by decide +kernel
theorem dX7_setContract_39 : decode cX7_setContract 39 = .ok (.istore 4, 2) := by decide +kernel
theorem dX7_setContract_41 : decode cX7_setContract 41 = .ok (.aload_n 0, 1) := by decide +kernel
theorem dX7_setContract_42 : decode cX7_setContract 42 = .ok (.getfield 16, 3) := by decide +kernel
theorem dX7_setContract_45 : decode cX7_setContract 45 = .ok (.iload_n 1, 1) := by decide +kernel
theorem dX7_setContract_46 : decode cX7_setContract 46 = .ok (.iload_n 2, 1) := by decide +kernel
theorem dX7_setContract_47 : decode cX7_setContract 47 = .ok (.iastore, 1) := by decide +kernel
theorem dX7_setContract_48 : decode cX7_setContract 48 = .ok (.aload_n 0, 1) := by decide +kernel
theorem dX7_setContract_49 : decode cX7_setContract 49 = .ok (.getfield 19, 3) := by decide +kernel
theorem dX7_setContract_52 : decode cX7_setContract 52 = .ok (.iload_n 1, 1) := by decide +kernel
theorem dX7_setContract_53 : decode cX7_setContract 53 = .ok (.iload_n 3, 1) := by decide +kernel
theorem dX7_setContract_54 : decode cX7_setContract 54 = .ok (.iastore, 1) := by decide +kernel
theorem dX7_setContract_55 : decode cX7_setContract 55 = .ok (.iload 4, 2) := by decide +kernel
theorem dX7_setContract_57 : decode cX7_setContract 57 = .ok (.ireturn, 1) := by decide +kernel
set_option maxRecDepth 20000 in
theorem ggX7_setAnswer_X7_isRoute : GoodIn wsX7_setAnswer wsX7_isRoute := goodIn_r _ [7, 8, 9, 10, 6, 11, 16, 17, 18, 19, 20, 21, 22, 23, 24, 25, 26, 27, 28, 29, 30, 31, 32, 33, 34, 35, 36, 37, 38, 39, 40, 41, 42] (by decide +kernel) (by decide +kernel)
set_option maxRecDepth 20000 in
theorem gX7_setAnswer_X7_isRoute : GoodIn wsX7_setAnswer (wsV RX7 114 RX7 yX7_isRoute wsX7_isRoute) := goodIn_app (goodIn_of _ (by decide +kernel)) ggX7_setAnswer_X7_isRoute
set_option maxRecDepth 20000 in
theorem ggX7_setAnswer_X7_fails : GoodIn wsX7_setAnswer wsX7_fails := goodIn_r _ [15, 1, 16, 17, 18, 19, 20, 21, 22, 23, 24, 25, 26, 27, 28, 29, 30, 31, 32, 33, 34, 35, 36, 37, 38, 39, 40, 41, 42] (by decide +kernel) (by decide +kernel)
set_option maxRecDepth 20000 in
theorem gX7_setAnswer_X7_fails : GoodIn wsX7_setAnswer (wsV RX7 105 RX7 yX7_fails wsX7_fails) := goodIn_app (goodIn_of _ (by decide +kernel)) ggX7_setAnswer_X7_fails
set_option maxRecDepth 20000 in
theorem ggX7_setAnswer_X7_in : GoodIn wsX7_setAnswer wsX7_in := goodIn_r _ [11] (by decide +kernel) (by decide +kernel)
set_option maxRecDepth 20000 in
theorem gX7_setAnswer_X7_in : GoodIn wsX7_setAnswer (va_wsS RX7 86 yX7_in wsX7_in) := goodIn_app (goodIn_of _ (by decide +kernel)) ggX7_setAnswer_X7_in
theorem dX7_setAnswer_0 : decode cX7_setAnswer 0 = .ok (.aload_n 0, 1) := by decide +kernel
theorem dX7_setAnswer_1 : decode cX7_setAnswer 1 = .ok (.iconst 0, 1) := by decide +kernel
theorem dX7_setAnswer_2 : decode cX7_setAnswer 2 = .ok (.putfield 79, 3) := by decide +kernel
theorem dX7_setAnswer_5 : decode cX7_setAnswer 5 = .ok (.aload_n 0, 1) := by decide +kernel
theorem dX7_setAnswer_6 : decode cX7_setAnswer 6 = .ok (.iload_n 1, 1) := by decide +kernel
theorem dX7_setAnswer_7 : decode cX7_setAnswer 7 = .ok (.invokevirtual 114, 3) := by decide +kernel
theorem dX7_setAnswer_10 : decode cX7_setAnswer 10 = .ok (.ifCond .ne 9, 3) := by decide +kernel
theorem dX7_setAnswer_13 : decode cX7_setAnswer 13 = .ok (.aload_n 0, 1) := by decide +kernel
theorem dX7_setAnswer_14 : decode cX7_setAnswer 14 = .ok (.iconst 1, 1) := by decide +kernel
theorem dX7_setAnswer_15 : decode cX7_setAnswer 15 = .ok (.invokevirtual 105, 3) := by decide +kernel
theorem dX7_setAnswer_18 : decode cX7_setAnswer 18 = .ok (.ireturn, 1) := by decide +kernel
theorem dX7_setAnswer_19 : decode cX7_setAnswer 19 = .ok (.iload_n 2, 1) := by decide +kernel
theorem dX7_setAnswer_20 : decode cX7_setAnswer 20 = .ok (.iconst 0, 1) := by decide +kernel
theorem dX7_setAnswer_21 : decode cX7_setAnswer 21 = .ok (.sipush 999, 3) := by decide +kernel
theorem dX7_setAnswer_24 : decode cX7_setAnswer 24 = .ok (.invokestatic 86, 3) := by decide +kernel
theorem dX7_setAnswer_27 : decode cX7_setAnswer 27 = .ok (.ifCond .ne 9, 3) := by decide +kernel
theorem dX7_setAnswer_30 : decode cX7_setAnswer 30 = .ok (.aload_n 0, 1) := by decide +kernel
theorem dX7_setAnswer_31 : decode cX7_setAnswer 31 = .ok (.iconst 2, 1) := by decide +kernel
theorem dX7_setAnswer_32 : decode cX7_setAnswer 32 = .ok (.invokevirtual 105, 3) := by decide +kernel
theorem dX7_setAnswer_35 : decode cX7_setAnswer 35 = .ok (.ireturn, 1) := by decide +kernel
theorem dX7_setAnswer_36 : decode cX7_setAnswer 36 = .ok (.aload_n 0, 1) := by decide +kernel
theorem dX7_setAnswer_37 : decode cX7_setAnswer 37 = .ok (.getfield 22, 3) := by decide +kernel
theorem dX7_setAnswer_40 : decode cX7_setAnswer 40 = .ok (.iload_n 1, 1) := by decide +kernel
theorem dX7_setAnswer_41 : decode cX7_setAnswer 41 = .ok (.iaload, 1) := by decide +kernel
theorem dX7_setAnswer_42 : decode cX7_setAnswer 42 = .ok (.istore_n 3, 1) := by decide +kernel
theorem dX7_setAnswer_43 : decode cX7_setAnswer 43 = .ok (.aload_n 0, 1) := by decide +kernel
theorem dX7_setAnswer_44 : decode cX7_setAnswer 44 = .ok (.getfield 22, 3) := by decide +kernel
theorem dX7_setAnswer_47 : decode cX7_setAnswer 47 = .ok (.iload_n 1, 1) := by decide +kernel
theorem dX7_setAnswer_48 : decode cX7_setAnswer 48 = .ok (.iload_n 2, 1) := by decide +kernel
theorem dX7_setAnswer_49 : decode cX7_setAnswer 49 = .ok (.iastore, 1) := by decide +kernel
theorem dX7_setAnswer_50 : decode cX7_setAnswer 50 = .ok (.iload_n 3, 1) := by decide +kernel
theorem dX7_setAnswer_51 : decode cX7_setAnswer 51 = .ok (.ireturn, 1) := by decide +kernel
set_option maxRecDepth 20000 in
theorem ggX7_broken_X7_isRoute : GoodIn wsX7_broken wsX7_isRoute := goodIn_r _ [9, 10, 11, 12, 8, 13, 20, 21, 22, 23, 24, 25, 26, 27, 28, 29, 30, 31, 32, 33, 34, 35, 36, 37, 38, 39, 40, 41, 42, 43, 44, 45, 46] (by decide +kernel) (by decide +kernel)
set_option maxRecDepth 20000 in
theorem gX7_broken_X7_isRoute : GoodIn wsX7_broken (wsV RX7 114 RX7 yX7_isRoute wsX7_isRoute) := goodIn_app (goodIn_of _ (by decide +kernel)) ggX7_broken_X7_isRoute
set_option maxRecDepth 20000 in
theorem ggX7_broken_X7_breaks : GoodIn wsX7_broken wsX7_breaks := goodIn_ca (goodIn_r _ [17, 18, 19, 20, 21, 22, 23, 24, 25, 26, 27, 28, 29, 30, 31, 32, 33, 34, 35, 36, 37, 38, 39, 40, 41, 42, 43, 44, 45, 46] (by decide +kernel) (by decide +kernel)) (goodIn_sub (fun _ h => List.mem_cons_of_mem _ (List.mem_append_right _ h)) (by decide +kernel))
set_option maxRecDepth 20000 in
theorem gX7_broken_X7_breaks : GoodIn wsX7_broken (wsV RX7 117 RX7 yX7_breaks wsX7_breaks) := goodIn_app (goodIn_of _ (by decide +kernel)) ggX7_broken_X7_breaks
theorem dX7_broken_0 : decode cX7_broken 0 = .ok (.aload_n 0, 1) := by decide +kernel
theorem dX7_broken_1 : decode cX7_broken 1 = .ok (.aload_n 0, 1) := by decide +kernel
theorem dX7_broken_2 : decode cX7_broken 2 = .ok (.iload_n 1, 1) := by decide +kernel
theorem dX7_broken_3 : decode cX7_broken 3 = .ok (.invokevirtual 114, 3) := by decide +kernel
theorem dX7_broken_6 : decode cX7_broken 6 = .ok (.ifCond .eq 7, 3) := by decide +kernel
theorem dX7_broken_9 : decode cX7_broken 9 = .ok (.iconst 0, 1) := by decide +kernel
theorem dX7_broken_10 : decode cX7_broken 10 = .ok (.goto 4, 3) := by decide +kernel
theorem dX7_broken_13 : decode cX7_broken 13 = .ok (.iconst 1, 1) := by decide +kernel
theorem dX7_broken_14 : decode cX7_broken 14 = .ok (.putfield 79, 3) := by decide +kernel
theorem dX7_broken_17 : decode cX7_broken 17 = .ok (.aload_n 0, 1) := by decide +kernel
theorem dX7_broken_18 : decode cX7_broken 18 = .ok (.getfield 79, 3) := by decide +kernel
theorem dX7_broken_21 : decode cX7_broken 21 = .ok (.ifCond .le 5, 3) := by decide +kernel
theorem dX7_broken_24 : decode cX7_broken 24 = .ok (.iconst 0, 1) := by decide +kernel
theorem dX7_broken_25 : decode cX7_broken 25 = .ok (.ireturn, 1) := by decide +kernel
theorem dX7_broken_26 : decode cX7_broken 26 = .ok (.aload_n 0, 1) := by decide +kernel
theorem dX7_broken_27 : decode cX7_broken 27 = .ok (.iload_n 1, 1) := by decide +kernel
theorem dX7_broken_28 : decode cX7_broken 28 = .ok (.aload_n 0, 1) := by decide +kernel
theorem dX7_broken_29 : decode cX7_broken 29 = .ok (.getfield 22, 3) := by decide +kernel
theorem dX7_broken_32 : decode cX7_broken 32 = .ok (.iload_n 1, 1) := by decide +kernel
theorem dX7_broken_33 : decode cX7_broken 33 = .ok (.iaload, 1) := by decide +kernel
theorem dX7_broken_34 : decode cX7_broken 34 = .ok (.invokevirtual 117, 3) := by decide +kernel
theorem dX7_broken_37 : decode cX7_broken 37 = .ok (.istore_n 2, 1) := by decide +kernel
theorem dX7_broken_38 : decode cX7_broken 38 = .ok (.aload_n 0, 1) := by decide +kernel
theorem dX7_broken_39 : decode cX7_broken 39 = .ok (.getfield 25, 3) := by decide +kernel
theorem dX7_broken_42 : decode cX7_broken 42 = .ok (.iload_n 1, 1) := by decide +kernel
theorem dX7_broken_43 : decode cX7_broken 43 = .ok (.baload, 1) := by decide +kernel
theorem dX7_broken_44 : decode cX7_broken 44 = .ok (.ifCond .eq 21, 3) := by decide +kernel
theorem dX7_broken_47 : decode cX7_broken 47 = .ok (.aload_n 0, 1) := by decide +kernel
theorem dX7_broken_48 : decode cX7_broken 48 = .ok (.iload_n 1, 1) := by decide +kernel
theorem dX7_broken_49 : decode cX7_broken 49 = .ok (.aload_n 0, 1) := by decide +kernel
theorem dX7_broken_50 : decode cX7_broken 50 = .ok (.getfield 29, 3) := by decide +kernel
theorem dX7_broken_53 : decode cX7_broken 53 = .ok (.iload_n 1, 1) := by decide +kernel
theorem dX7_broken_54 : decode cX7_broken 54 = .ok (.iaload, 1) := by decide +kernel
theorem dX7_broken_55 : decode cX7_broken 55 = .ok (.invokevirtual 117, 3) := by decide +kernel
theorem dX7_broken_58 : decode cX7_broken 58 = .ok (.ifCond .eq 7, 3) := by decide +kernel
theorem dX7_broken_61 : decode cX7_broken 61 = .ok (.iconst 1, 1) := by decide +kernel
theorem dX7_broken_62 : decode cX7_broken 62 = .ok (.goto 4, 3) := by decide +kernel
theorem dX7_broken_65 : decode cX7_broken 65 = .ok (.iconst 0, 1) := by decide +kernel
theorem dX7_broken_66 : decode cX7_broken 66 = .ok (.istore_n 3, 1) := by decide +kernel
theorem dX7_broken_67 : decode cX7_broken 67 = .ok (.iload_n 2, 1) := by decide +kernel
theorem dX7_broken_68 : decode cX7_broken 68 = .ok (.ifCond .eq 12, 3) := by decide +kernel
theorem dX7_broken_71 : decode cX7_broken 71 = .ok (.iload_n 3, 1) := by decide +kernel
theorem dX7_broken_72 : decode cX7_broken 72 = .ok (.ifCond .eq 8, 3) := by decide +kernel
theorem dX7_broken_75 : decode cX7_broken 75 = .ok (.bipush 98, 2) := by decide +kernel
theorem dX7_broken_77 : decode cX7_broken 77 = .ok (.goto 23, 3) := by decide +kernel
theorem dX7_broken_80 : decode cX7_broken 80 = .ok (.iload_n 2, 1) := by decide +kernel
theorem dX7_broken_81 : decode cX7_broken 81 = .ok (.ifCond .eq 8, 3) := by decide +kernel
theorem dX7_broken_84 : decode cX7_broken 84 = .ok (.bipush 115, 2) := by decide +kernel
theorem dX7_broken_86 : decode cX7_broken 86 = .ok (.goto 14, 3) := by decide +kernel
theorem dX7_broken_89 : decode cX7_broken 89 = .ok (.iload_n 3, 1) := by decide +kernel
theorem dX7_broken_90 : decode cX7_broken 90 = .ok (.ifCond .eq 8, 3) := by decide +kernel
theorem dX7_broken_93 : decode cX7_broken 93 = .ok (.bipush 99, 2) := by decide +kernel
theorem dX7_broken_95 : decode cX7_broken 95 = .ok (.goto 5, 3) := by decide +kernel
theorem dX7_broken_98 : decode cX7_broken 98 = .ok (.bipush 110, 2) := by decide +kernel
theorem dX7_broken_100 : decode cX7_broken 100 = .ok (.ireturn, 1) := by decide +kernel
set_option maxRecDepth 20000 in
theorem ggX7_begin_X7_isRoute : GoodIn wsX7_begin wsX7_isRoute := goodIn_r _ [12, 7, 13, 14, 11, 15, 20, 21, 22, 23, 24, 25, 26, 27, 28, 29, 30, 31, 32, 33, 34, 35, 36, 37, 38, 39, 40, 41, 42, 43, 44, 45, 46] (by decide +kernel) (by decide +kernel)
set_option maxRecDepth 20000 in
theorem gX7_begin_X7_isRoute : GoodIn wsX7_begin (wsV RX7 114 RX7 yX7_isRoute wsX7_isRoute) := goodIn_app (goodIn_of _ (by decide +kernel)) ggX7_begin_X7_isRoute
set_option maxRecDepth 20000 in
theorem ggX7_begin_X7_fails : GoodIn wsX7_begin wsX7_fails := goodIn_r _ [19, 1, 20, 21, 22, 23, 24, 25, 26, 27, 28, 29, 30, 31, 32, 33, 34, 35, 36, 37, 38, 39, 40, 41, 42, 43, 44, 45, 46] (by decide +kernel) (by decide +kernel)
set_option maxRecDepth 20000 in
theorem gX7_begin_X7_fails : GoodIn wsX7_begin (wsV RX7 105 RX7 yX7_fails wsX7_fails) := goodIn_app (goodIn_of _ (by decide +kernel)) ggX7_begin_X7_fails
set_option maxRecDepth 20000 in
theorem ggX7_begin_X7_in : GoodIn wsX7_begin wsX7_in := goodIn_r _ [15] (by decide +kernel) (by decide +kernel)
set_option maxRecDepth 20000 in
theorem gX7_begin_X7_in : GoodIn wsX7_begin (va_wsS RX7 86 yX7_in wsX7_in) := goodIn_app (goodIn_of _ (by decide +kernel)) ggX7_begin_X7_in
theorem dX7_begin_0 : decode cX7_begin 0 = .ok (.aload_n 0, 1) := by decide +kernel
theorem dX7_begin_1 : decode cX7_begin 1 = .ok (.iconst 0, 1) := by decide +kernel
theorem dX7_begin_2 : decode cX7_begin 2 = .ok (.putfield 79, 3) := by decide +kernel
theorem dX7_begin_5 : decode cX7_begin 5 = .ok (.aload_n 0, 1) := by decide +kernel
theorem dX7_begin_6 : decode cX7_begin 6 = .ok (.iload_n 1, 1) := by decide +kernel
theorem dX7_begin_7 : decode cX7_begin 7 = .ok (.invokevirtual 114, 3) := by decide +kernel
theorem dX7_begin_10 : decode cX7_begin 10 = .ok (.ifCond .ne 9, 3) := by decide +kernel
theorem dX7_begin_13 : decode cX7_begin 13 = .ok (.aload_n 0, 1) := by decide +kernel
theorem dX7_begin_14 : decode cX7_begin 14 = .ok (.iconst 1, 1) := by decide +kernel
theorem dX7_begin_15 : decode cX7_begin 15 = .ok (.invokevirtual 105, 3) := by decide +kernel
theorem dX7_begin_18 : decode cX7_begin 18 = .ok (.ireturn, 1) := by decide +kernel
theorem dX7_begin_19 : decode cX7_begin 19 = .ok (.iload_n 2, 1) := by decide +kernel
theorem dX7_begin_20 : decode cX7_begin 20 = .ok (.iconst 0, 1) := by decide +kernel
theorem dX7_begin_21 : decode cX7_begin 21 = .ok (.sipush 999, 3) := by decide +kernel
theorem dX7_begin_24 : decode cX7_begin 24 = .ok (.invokestatic 86, 3) := by decide +kernel
theorem dX7_begin_27 : decode cX7_begin 27 = .ok (.ifCond .eq 24, 3) := by decide +kernel
theorem dX7_begin_30 : decode cX7_begin 30 = .ok (.iload_n 3, 1) := by decide +kernel
theorem dX7_begin_31 : decode cX7_begin 31 = .ok (.iconst 1, 1) := by decide +kernel
theorem dX7_begin_32 : decode cX7_begin 32 = .ok (.bipush 100, 2) := by decide +kernel
theorem dX7_begin_34 : decode cX7_begin 34 = .ok (.invokestatic 86, 3) := by decide +kernel
theorem dX7_begin_37 : decode cX7_begin 37 = .ok (.ifCond .eq 14, 3) := by decide +kernel
theorem dX7_begin_40 : decode cX7_begin 40 = .ok (.iload 4, 2) := by decide +kernel
theorem dX7_begin_42 : decode cX7_begin 42 = .ok (.iconst 1, 1) := by decide +kernel
theorem dX7_begin_43 : decode cX7_begin 43 = .ok (.bipush 9, 2) := by decide +kernel
theorem dX7_begin_45 : decode cX7_begin 45 = .ok (.invokestatic 86, 3) := by decide +kernel
theorem dX7_begin_48 : decode cX7_begin 48 = .ok (.ifCond .ne 9, 3) := by decide +kernel
theorem dX7_begin_51 : decode cX7_begin 51 = .ok (.aload_n 0, 1) := by decide +kernel
theorem dX7_begin_52 : decode cX7_begin 52 = .ok (.iconst 2, 1) := by decide +kernel
theorem dX7_begin_53 : decode cX7_begin 53 = .ok (.invokevirtual 105, 3) := by decide +kernel
theorem dX7_begin_56 : decode cX7_begin 56 = .ok (.ireturn, 1) := by decide +kernel
theorem dX7_begin_57 : decode cX7_begin 57 = .ok (.aload_n 0, 1) := by decide +kernel
theorem dX7_begin_58 : decode cX7_begin 58 = .ok (.getfield 25, 3) := by decide +kernel
theorem dX7_begin_61 : decode cX7_begin 61 = .ok (.iload_n 1, 1) := by decide +kernel
theorem dX7_begin_62 : decode cX7_begin 62 = .ok (.baload, 1) := by decide +kernel
theorem dX7_begin_63 : decode cX7_begin 63 = .ok (.ifCond .eq 9, 3) := by decide +kernel
theorem dX7_begin_66 : decode cX7_begin 66 = .ok (.aload_n 0, 1) := by decide +kernel
theorem dX7_begin_67 : decode cX7_begin 67 = .ok (.iconst 3, 1) := by decide +kernel
theorem dX7_begin_68 : decode cX7_begin 68 = .ok (.invokevirtual 105, 3) := by decide +kernel
theorem dX7_begin_71 : decode cX7_begin 71 = .ok (.ireturn, 1) := by decide +kernel
theorem dX7_begin_72 : decode cX7_begin 72 = .ok (.aload_n 0, 1) := by decide +kernel
theorem dX7_begin_73 : decode cX7_begin 73 = .ok (.getfield 25, 3) := by decide +kernel
theorem dX7_begin_76 : decode cX7_begin 76 = .ok (.iload_n 1, 1) := by decide +kernel
theorem dX7_begin_77 : decode cX7_begin 77 = .ok (.iconst 1, 1) := by decide +kernel
theorem dX7_begin_78 : decode cX7_begin 78 = .ok (.bastore, 1) := by decide +kernel
theorem dX7_begin_79 : decode cX7_begin 79 = .ok (.aload_n 0, 1) := by decide +kernel
theorem dX7_begin_80 : decode cX7_begin 80 = .ok (.getfield 29, 3) := by decide +kernel
theorem dX7_begin_83 : decode cX7_begin 83 = .ok (.iload_n 1, 1) := by decide +kernel
theorem dX7_begin_84 : decode cX7_begin 84 = .ok (.iload_n 2, 1) := by decide +kernel
theorem dX7_begin_85 : decode cX7_begin 85 = .ok (.iastore, 1) := by decide +kernel
theorem dX7_begin_86 : decode cX7_begin 86 = .ok (.aload_n 0, 1) := by decide +kernel
theorem dX7_begin_87 : decode cX7_begin 87 = .ok (.getfield 32, 3) := by decide +kernel
theorem dX7_begin_90 : decode cX7_begin 90 = .ok (.iload_n 1, 1) := by decide +kernel
theorem dX7_begin_91 : decode cX7_begin 91 = .ok (.iload_n 3, 1) := by decide +kernel
theorem dX7_begin_92 : decode cX7_begin 92 = .ok (.iastore, 1) := by decide +kernel
theorem dX7_begin_93 : decode cX7_begin 93 = .ok (.aload_n 0, 1) := by decide +kernel
theorem dX7_begin_94 : decode cX7_begin 94 = .ok (.getfield 35, 3) := by decide +kernel
theorem dX7_begin_97 : decode cX7_begin 97 = .ok (.iload_n 1, 1) := by decide +kernel
theorem dX7_begin_98 : decode cX7_begin 98 = .ok (.iload 4, 2) := by decide +kernel
theorem dX7_begin_100 : decode cX7_begin 100 = .ok (.iastore, 1) := by decide +kernel
theorem dX7_begin_101 : decode cX7_begin 101 = .ok (.aload_n 0, 1) := by decide +kernel
theorem dX7_begin_102 : decode cX7_begin 102 = .ok (.getfield 38, 3) := by decide +kernel
theorem dX7_begin_105 : decode cX7_begin 105 = .ok (.iload_n 1, 1) := by decide +kernel
theorem dX7_begin_106 : decode cX7_begin 106 = .ok (.iconst 0, 1) := by decide +kernel
theorem dX7_begin_107 : decode cX7_begin 107 = .ok (.iastore, 1) := by decide +kernel
theorem dX7_begin_108 : decode cX7_begin 108 = .ok (.iconst 0, 1) := by decide +kernel
theorem dX7_begin_109 : decode cX7_begin 109 = .ok (.istore 5, 2) := by decide +kernel
theorem dX7_begin_111 : decode cX7_begin 111 = .ok (.iconst 0, 1) := by decide +kernel
theorem dX7_begin_112 : decode cX7_begin 112 = .ok (.istore 6, 2) := by decide +kernel
theorem dX7_begin_114 : decode cX7_begin 114 = .ok (.iload 6, 2) := by decide +kernel
theorem dX7_begin_116 : decode cX7_begin 116 = .ok (.aload_n 0, 1) := by decide +kernel
theorem dX7_begin_117 : decode cX7_begin 117 = .ok (.getfield 83, 3) := by decide +kernel
theorem dX7_begin_120 : decode cX7_begin 120 = .ok (.if_icmp .ge 29, 3) := by decide +kernel
theorem dX7_begin_123 : decode cX7_begin 123 = .ok (.iload 5, 2) := by decide +kernel
theorem dX7_begin_125 : decode cX7_begin 125 = .ok (.aload_n 0, 1) := by decide +kernel
theorem dX7_begin_126 : decode cX7_begin 126 = .ok (.getfield 25, 3) := by decide +kernel
theorem dX7_begin_129 : decode cX7_begin 129 = .ok (.iload 6, 2) := by decide +kernel
theorem dX7_begin_131 : decode cX7_begin 131 = .ok (.baload, 1) := by decide +kernel
theorem dX7_begin_132 : decode cX7_begin 132 = .ok (.ifCond .eq 7, 3) := by decide +kernel
theorem dX7_begin_135 : decode cX7_begin 135 = .ok (.iconst 1, 1) := by decide +kernel
theorem dX7_begin_136 : decode cX7_begin 136 = .ok (.goto 4, 3) := by decide +kernel
theorem dX7_begin_139 : decode cX7_begin 139 = .ok (.iconst 0, 1) := by decide +kernel
theorem dX7_begin_140 : decode cX7_begin 140 = .ok (.iadd, 1) := by decide +kernel
theorem dX7_begin_141 : decode cX7_begin 141 = .ok (.istore 5, 2) := by decide +kernel
theorem dX7_begin_143 : decode cX7_begin 143 = .ok (.iinc 6 1, 3) := by decide +kernel
theorem dX7_begin_146 : decode cX7_begin 146 = .ok (.goto (-32), 3) := by decide +kernel
theorem dX7_begin_149 : decode cX7_begin 149 = .ok (.iload 5, 2) := by decide +kernel
theorem dX7_begin_151 : decode cX7_begin 151 = .ok (.ireturn, 1) := by decide +kernel
set_option maxRecDepth 20000 in
theorem ggX7_setShare_X7_isRoute : GoodIn wsX7_setShare wsX7_isRoute := goodIn_r _ [8, 9, 10, 11, 7, 12, 17, 18, 19, 20, 21, 22, 23, 24, 25, 26, 27, 28, 29, 30, 31, 32, 33, 34, 35, 36, 37, 38, 39, 40, 41, 42, 43] (by decide +kernel) (by decide +kernel)
set_option maxRecDepth 20000 in
theorem gX7_setShare_X7_isRoute : GoodIn wsX7_setShare (wsV RX7 114 RX7 yX7_isRoute wsX7_isRoute) := goodIn_app (goodIn_of _ (by decide +kernel)) ggX7_setShare_X7_isRoute
set_option maxRecDepth 20000 in
theorem ggX7_setShare_X7_fails : GoodIn wsX7_setShare wsX7_fails := goodIn_r _ [16, 1, 17, 18, 19, 20, 21, 22, 23, 24, 25, 26, 27, 28, 29, 30, 31, 32, 33, 34, 35, 36, 37, 38, 39, 40, 41, 42, 43] (by decide +kernel) (by decide +kernel)
set_option maxRecDepth 20000 in
theorem gX7_setShare_X7_fails : GoodIn wsX7_setShare (wsV RX7 105 RX7 yX7_fails wsX7_fails) := goodIn_app (goodIn_of _ (by decide +kernel)) ggX7_setShare_X7_fails
set_option maxRecDepth 20000 in
theorem ggX7_setShare_X7_in : GoodIn wsX7_setShare wsX7_in := goodIn_r _ [12] (by decide +kernel) (by decide +kernel)
set_option maxRecDepth 20000 in
theorem gX7_setShare_X7_in : GoodIn wsX7_setShare (va_wsS RX7 86 yX7_in wsX7_in) := goodIn_app (goodIn_of _ (by decide +kernel)) ggX7_setShare_X7_in
theorem dX7_setShare_0 : decode cX7_setShare 0 = .ok (.aload_n 0, 1) := by decide +kernel
theorem dX7_setShare_1 : decode cX7_setShare 1 = .ok (.iconst 0, 1) := by decide +kernel
theorem dX7_setShare_2 : decode cX7_setShare 2 = .ok (.putfield 79, 3) := by decide +kernel
theorem dX7_setShare_5 : decode cX7_setShare 5 = .ok (.aload_n 0, 1) := by decide +kernel
theorem dX7_setShare_6 : decode cX7_setShare 6 = .ok (.iload_n 1, 1) := by decide +kernel
theorem dX7_setShare_7 : decode cX7_setShare 7 = .ok (.invokevirtual 114, 3) := by decide +kernel
theorem dX7_setShare_10 : decode cX7_setShare 10 = .ok (.ifCond .ne 9, 3) := by decide +kernel
theorem dX7_setShare_13 : decode cX7_setShare 13 = .ok (.aload_n 0, 1) := by decide +kernel
theorem dX7_setShare_14 : decode cX7_setShare 14 = .ok (.iconst 1, 1) := by decide +kernel
theorem dX7_setShare_15 : decode cX7_setShare 15 = .ok (.invokevirtual 105, 3) := by decide +kernel
theorem dX7_setShare_18 : decode cX7_setShare 18 = .ok (.ireturn, 1) := by decide +kernel
theorem dX7_setShare_19 : decode cX7_setShare 19 = .ok (.iload_n 2, 1) := by decide +kernel
theorem dX7_setShare_20 : decode cX7_setShare 20 = .ok (.iconst 1, 1) := by decide +kernel
theorem dX7_setShare_21 : decode cX7_setShare 21 = .ok (.bipush 100, 2) := by decide +kernel
theorem dX7_setShare_23 : decode cX7_setShare 23 = .ok (.invokestatic 86, 3) := by decide +kernel
theorem dX7_setShare_26 : decode cX7_setShare 26 = .ok (.ifCond .ne 9, 3) := by decide +kernel
theorem dX7_setShare_29 : decode cX7_setShare 29 = .ok (.aload_n 0, 1) := by decide +kernel
theorem dX7_setShare_30 : decode cX7_setShare 30 = .ok (.iconst 2, 1) := by decide +kernel
theorem dX7_setShare_31 : decode cX7_setShare 31 = .ok (.invokevirtual 105, 3) := by decide +kernel
theorem dX7_setShare_34 : decode cX7_setShare 34 = .ok (.ireturn, 1) := by decide +kernel
theorem dX7_setShare_35 : decode cX7_setShare 35 = .ok (.aload_n 0, 1) := by decide +kernel
theorem dX7_setShare_36 : decode cX7_setShare 36 = .ok (.getfield 25, 3) := by decide +kernel
theorem dX7_setShare_39 : decode cX7_setShare 39 = .ok (.iload_n 1, 1) := by decide +kernel
theorem dX7_setShare_40 : decode cX7_setShare 40 = .ok (.baload, 1) := by decide +kernel
theorem dX7_setShare_41 : decode cX7_setShare 41 = .ok (.ifCond .ne 9, 3) := by decide +kernel
theorem dX7_setShare_44 : decode cX7_setShare 44 = .ok (.aload_n 0, 1) := by decide +kernel
theorem dX7_setShare_45 : decode cX7_setShare 45 = .ok (.iconst 3, 1) := by decide +kernel
theorem dX7_setShare_46 : decode cX7_setShare 46 = .ok (.invokevirtual 105, 3) := by decide +kernel
theorem dX7_setShare_49 : decode cX7_setShare 49 = .ok (.ireturn, 1) := by decide +kernel
theorem dX7_setShare_50 : decode cX7_setShare 50 = .ok (.aload_n 0, 1) := by decide +kernel
theorem dX7_setShare_51 : decode cX7_setShare 51 = .ok (.getfield 32, 3) := by decide +kernel
theorem dX7_setShare_54 : decode cX7_setShare 54 = .ok (.iload_n 1, 1) := by decide +kernel
theorem dX7_setShare_55 : decode cX7_setShare 55 = .ok (.iaload, 1) := by decide +kernel
theorem dX7_setShare_56 : decode cX7_setShare 56 = .ok (.istore_n 3, 1) := by decide +kernel
theorem dX7_setShare_57 : decode cX7_setShare 57 = .ok (.aload_n 0, 1) := by decide +kernel
theorem dX7_setShare_58 : decode cX7_setShare 58 = .ok (.getfield 32, 3) := by decide +kernel
theorem dX7_setShare_61 : decode cX7_setShare 61 = .ok (.iload_n 1, 1) := by decide +kernel
theorem dX7_setShare_62 : decode cX7_setShare 62 = .ok (.iload_n 2, 1) := by decide +kernel
theorem dX7_setShare_63 : decode cX7_setShare 63 = .ok (.iastore, 1) := by decide +kernel
theorem dX7_setShare_64 : decode cX7_setShare 64 = .ok (.iload_n 3, 1) := by decide +kernel
theorem dX7_setShare_65 : decode cX7_setShare 65 = .ok (.ireturn, 1) := by decide +kernel
theorem dX7_ends_0 : decode cX7_ends 0 = .ok (.iconst 0, 1) := by decide +kernel
theorem dX7_ends_1 : decode cX7_ends 1 = .ok (.istore_n 3, 1) := by decide +kernel
theorem dX7_ends_2 : decode cX7_ends 2 = .ok (.aload_n 0, 1) := by decide +kernel
theorem dX7_ends_3 : decode cX7_ends 3 = .ok (.getfield 25, 3) := by decide +kernel
theorem dX7_ends_6 : decode cX7_ends 6 = .ok (.iload_n 1, 1) := by decide +kernel
theorem dX7_ends_7 : decode cX7_ends 7 = .ok (.iconst 0, 1) := by decide +kernel
theorem dX7_ends_8 : decode cX7_ends 8 = .ok (.bastore, 1) := by decide +kernel
theorem dX7_ends_9 : decode cX7_ends 9 = .ok (.iconst 0, 1) := by decide +kernel
theorem dX7_ends_10 : decode cX7_ends 10 = .ok (.istore 4, 2) := by decide +kernel
theorem dX7_ends_12 : decode cX7_ends 12 = .ok (.iload 4, 2) := by decide +kernel
theorem dX7_ends_14 : decode cX7_ends 14 = .ok (.aload_n 0, 1) := by decide +kernel
theorem dX7_ends_15 : decode cX7_ends 15 = .ok (.getfield 120, 3) := by decide +kernel
theorem dX7_ends_18 : decode cX7_ends 18 = .ok (.if_icmp .ge 131, 3) := by decide +kernel
theorem dX7_ends_21 : decode cX7_ends 21 = .ok (.aload_n 0, 1) := by decide +kernel
theorem dX7_ends_22 : decode cX7_ends 22 = .ok (.getfield 76, 3) := by decide +kernel
theorem dX7_ends_25 : decode cX7_ends 25 = .ok (.iload 4, 2) := by decide +kernel
theorem dX7_ends_27 : decode cX7_ends 27 = .ok (.iaload, 1) := by decide +kernel
theorem dX7_ends_28 : decode cX7_ends 28 = .ok (.iload_n 1, 1) := by decide +kernel
theorem dX7_ends_29 : decode cX7_ends 29 = .ok (.if_icmp .ne 114, 3) := by decide +kernel
theorem dX7_ends_32 : decode cX7_ends 32 = .ok (.aload_n 0, 1) := by decide +kernel
theorem dX7_ends_33 : decode cX7_ends 33 = .ok (.getfield 76, 3) := by decide +kernel
theorem dX7_ends_36 : decode cX7_ends 36 = .ok (.iload 4, 2) := by decide +kernel
theorem dX7_ends_38 : decode cX7_ends 38 = .ok (.iconst (-1), 1) := by decide +kernel
theorem dX7_ends_39 : decode cX7_ends 39 = .ok (.iastore, 1) := by decide +kernel
theorem dX7_ends_40 : decode cX7_ends 40 = .ok (.iload_n 2, 1) := by decide +kernel
theorem dX7_ends_41 : decode cX7_ends 41 = .ok (.ifCond .eq 102, 3) := by decide +kernel
theorem dX7_ends_44 : decode cX7_ends 44 = .ok (.aload_n 0, 1) := by decide +kernel
theorem dX7_ends_45 : decode cX7_ends 45 = .ok (.getfield 60, 3) := by decide +kernel
theorem dX7_ends_48 : decode cX7_ends 48 = .ok (.iload 4, 2) := by decide +kernel
theorem dX7_ends_50 : decode cX7_ends 50 = .ok (.iaload, 1) := by decide +kernel
theorem dX7_ends_51 : decode cX7_ends 51 = .ok (.istore 5, 2) := by decide +kernel
theorem dX7_ends_53 : decode cX7_ends 53 = .ok (.aload_n 0, 1) := by decide +kernel
theorem dX7_ends_54 : decode cX7_ends 54 = .ok (.getfield 44, 3) := by decide +kernel
theorem dX7_ends_57 : decode cX7_ends 57 = .ok (.aload_n 0, 1) := by decide +kernel
theorem dX7_ends_58 : decode cX7_ends 58 = .ok (.getfield 50, 3) := by decide +kernel
theorem dX7_ends_61 : decode cX7_ends 61 = .ok (.iload 5, 2) := by decide +kernel
theorem dX7_ends_63 : decode cX7_ends 63 = .ok (.iaload, 1) := by decide +kernel
theorem dX7_ends_64 : decode cX7_ends 64 = .ok (.iaload, 1) := by decide +kernel
theorem dX7_ends_65 : decode cX7_ends 65 = .ok (.istore 6, 2) := by decide +kernel
theorem dX7_ends_67 : decode cX7_ends 67 = .ok (.aload_n 0, 1) := by decide +kernel
theorem dX7_ends_68 : decode cX7_ends 68 = .ok (.getfield 73, 3) := by decide +kernel
theorem dX7_ends_71 : decode cX7_ends 71 = .ok (.iload 4, 2) := by decide +kernel
theorem dX7_ends_73 : decode cX7_ends 73 = .ok (.iconst 1, 1) := by decide +kernel
theorem dX7_ends_74 : decode cX7_ends 74 = .ok (.bastore, 1) := by decide +kernel
theorem dX7_ends_75 : decode cX7_ends 75 = .ok (.aload_n 0, 1) := by decide +kernel
theorem dX7_ends_76 : decode cX7_ends 76 = .ok (.getfield 53, 3) := by decide +kernel
theorem dX7_ends_79 : decode cX7_ends 79 = .ok (.iload 5, 2) := by decide +kernel
theorem dX7_ends_81 : decode cX7_ends 81 = .ok (.aload_n 0, 1) := by decide +kernel
theorem dX7_ends_82 : decode cX7_ends 82 = .ok (.getfield 53, 3) := by decide +kernel
theorem dX7_ends_85 : decode cX7_ends 85 = .ok (.iload 5, 2) := by decide +kernel
theorem dX7_ends_87 : decode cX7_ends 87 = .ok (.iaload, 1) := by decide +kernel
theorem dX7_ends_88 : decode cX7_ends 88 = .ok (.aload_n 0, 1) := by decide +kernel
theorem dX7_ends_89 : decode cX7_ends 89 = .ok (.getfield 67, 3) := by decide +kernel
theorem dX7_ends_92 : decode cX7_ends 92 = .ok (.iload 4, 2) := by decide +kernel
theorem dX7_ends_94 : decode cX7_ends 94 = .ok (.iaload, 1) := by decide +kernel
theorem dX7_ends_95 : decode cX7_ends 95 = .ok (.iadd, 1) := by decide +kernel
theorem dX7_ends_96 : decode cX7_ends 96 = .ok (.iload 6, 2) := by decide +kernel
theorem dX7_ends_98 : decode cX7_ends 98 = .ok (.if_icmp .ge 21, 3) := by decide +kernel
theorem dX7_ends_101 : decode cX7_ends 101 = .ok (.aload_n 0, 1) := by decide +kernel
theorem dX7_ends_102 : decode cX7_ends 102 = .ok (.getfield 53, 3) := by decide +kernel
theorem dX7_ends_105 : decode cX7_ends 105 = .ok (.iload 5, 2) := by decide +kernel
theorem dX7_ends_107 : decode cX7_ends 107 = .ok (.iaload, 1) := by decide +kernel
theorem dX7_ends_108 : decode cX7_ends 108 = .ok (.aload_n 0, 1) := by decide +kernel
theorem dX7_ends_109 : decode cX7_ends 109 = .ok (.getfield 67, 3) := by decide +kernel
theorem dX7_ends_112 : decode cX7_ends 112 = .ok (.iload 4, 2) := by decide +kernel
theorem dX7_ends_114 : decode cX7_ends 114 = .ok (.iaload, 1) := by decide +kernel
theorem dX7_ends_115 : decode cX7_ends 115 = .ok (.iadd, 1) := by decide +kernel
theorem dX7_ends_116 : decode cX7_ends 116 = .ok (.goto 5, 3) := by decide +kernel
theorem dX7_ends_119 : decode cX7_ends 119 = .ok (.iload 6, 2) := by decide +kernel
theorem dX7_ends_121 : decode cX7_ends 121 = .ok (.iastore, 1) := by decide +kernel
theorem dX7_ends_122 : decode cX7_ends 122 = .ok (.aload_n 0, 1) := by decide +kernel
theorem dX7_ends_123 : decode cX7_ends 123 = .ok (.getfield 56, 3) := by decide +kernel
theorem dX7_ends_126 : decode cX7_ends 126 = .ok (.iload 5, 2) := by decide +kernel
theorem dX7_ends_128 : decode cX7_ends 128 = .ok (.dup2, 1) := by decide +kernel
theorem dX7_ends_129 : decode cX7_ends 129 = .ok (.laload, 1) := by decide +kernel
theorem dX7_ends_130 : decode cX7_ends 130 = .ok (.aload_n 0, 1) := by decide +kernel
theorem dX7_ends_131 : decode cX7_ends 131 = .ok (.getfield 70, 3) := by decide +kernel
theorem dX7_ends_134 : decode cX7_ends 134 = .ok (.iload 4, 2) := by decide +kernel
theorem dX7_ends_136 : decode cX7_ends 136 = .ok (.iaload, 1) := by decide +kernel
theorem dX7_ends_137 : decode cX7_ends 137 = .ok (.i2l, 1) := by decide +kernel
theorem dX7_ends_138 : decode cX7_ends 138 = .ok (.lsub, 1) := by decide +kernel
theorem dX7_ends_139 : decode cX7_ends 139 = .ok (.lastore, 1) := by decide +kernel
theorem dX7_ends_140 : decode cX7_ends 140 = .ok (.iinc 3 1, 3) := by decide +kernel
theorem dX7_ends_143 : decode cX7_ends 143 = .ok (.iinc 4 1, 3) := by decide +kernel
theorem dX7_ends_146 : decode cX7_ends 146 = .ok (.goto (-134), 3) := by decide +kernel
theorem dX7_ends_149 : decode cX7_ends 149 = .ok (.iload_n 3, 1) := by decide +kernel
theorem dX7_ends_150 : decode cX7_ends 150 = .ok (.ireturn, 1) := by decide +kernel
set_option maxRecDepth 20000 in
theorem ggX7_promote_X7_isRoute : GoodIn wsX7_promote wsX7_isRoute := goodIn_r _ [9, 10, 11, 12, 8, 13, 32, 33, 34, 35, 36, 37, 38, 39, 40, 41, 42, 43, 44, 45, 46, 47, 48, 49, 50, 51, 52, 53, 54, 55, 56, 57, 58] (by decide +kernel) (by decide +kernel)
set_option maxRecDepth 20000 in
theorem gX7_promote_X7_isRoute : GoodIn wsX7_promote (wsV RX7 114 RX7 yX7_isRoute wsX7_isRoute) := goodIn_app (goodIn_of _ (by decide +kernel)) ggX7_promote_X7_isRoute
set_option maxRecDepth 20000 in
theorem ggX7_promote_X7_fails : GoodIn wsX7_promote wsX7_fails := goodIn_r _ [17, 1, 32, 33, 34, 35, 36, 37, 38, 39, 40, 41, 42, 43, 44, 45, 46, 47, 48, 49, 50, 51, 52, 53, 54, 55, 56, 57, 58] (by decide +kernel) (by decide +kernel)
set_option maxRecDepth 20000 in
theorem gX7_promote_X7_fails : GoodIn wsX7_promote (wsV RX7 105 RX7 yX7_fails wsX7_fails) := goodIn_app (goodIn_of _ (by decide +kernel)) ggX7_promote_X7_fails
set_option maxRecDepth 20000 in
theorem ggX7_promote_X7_ends : GoodIn wsX7_promote wsX7_ends := goodIn_ca (goodIn_r _ [21, 2, 22, 23, 24, 25, 26, 27, 28, 29, 30, 31, 32, 33, 34, 35, 36, 37, 38, 39, 40, 41, 42, 43, 44, 45, 46, 47, 48, 49, 50, 51, 52, 53, 54, 55, 56, 57, 58] (by decide +kernel) (by decide +kernel)) (goodIn_sub (fun _ h => List.mem_cons_of_mem _ (List.mem_append_right _ h)) (by decide +kernel))
set_option maxRecDepth 20000 in
theorem gX7_promote_X7_ends : GoodIn wsX7_promote (wsV RX7 123 RX7 yX7_ends wsX7_ends) := goodIn_app (goodIn_of _ (by decide +kernel)) ggX7_promote_X7_ends
theorem dX7_promote_0 : decode cX7_promote 0 = .ok (.aload_n 0, 1) := by decide +kernel
theorem dX7_promote_1 : decode cX7_promote 1 = .ok (.iconst 0, 1) := by decide +kernel
theorem dX7_promote_2 : decode cX7_promote 2 = .ok (.putfield 79, 3) := by decide +kernel
theorem dX7_promote_5 : decode cX7_promote 5 = .ok (.aload_n 0, 1) := by decide +kernel
theorem dX7_promote_6 : decode cX7_promote 6 = .ok (.iload_n 1, 1) := by decide +kernel
theorem dX7_promote_7 : decode cX7_promote 7 = .ok (.invokevirtual 114, 3) := by decide +kernel
theorem dX7_promote_10 : decode cX7_promote 10 = .ok (.ifCond .ne 9, 3) := by decide +kernel
theorem dX7_promote_13 : decode cX7_promote 13 = .ok (.aload_n 0, 1) := by decide +kernel
theorem dX7_promote_14 : decode cX7_promote 14 = .ok (.iconst 1, 1) := by decide +kernel
theorem dX7_promote_15 : decode cX7_promote 15 = .ok (.invokevirtual 105, 3) := by decide +kernel
theorem dX7_promote_18 : decode cX7_promote 18 = .ok (.ireturn, 1) := by decide +kernel
theorem dX7_promote_19 : decode cX7_promote 19 = .ok (.aload_n 0, 1) := by decide +kernel
theorem dX7_promote_20 : decode cX7_promote 20 = .ok (.getfield 25, 3) := by decide +kernel
theorem dX7_promote_23 : decode cX7_promote 23 = .ok (.iload_n 1, 1) := by decide +kernel
theorem dX7_promote_24 : decode cX7_promote 24 = .ok (.baload, 1) := by decide +kernel
theorem dX7_promote_25 : decode cX7_promote 25 = .ok (.ifCond .ne 9, 3) := by decide +kernel
theorem dX7_promote_28 : decode cX7_promote 28 = .ok (.aload_n 0, 1) := by decide +kernel
theorem dX7_promote_29 : decode cX7_promote 29 = .ok (.iconst 2, 1) := by decide +kernel
theorem dX7_promote_30 : decode cX7_promote 30 = .ok (.invokevirtual 105, 3) := by decide +kernel
theorem dX7_promote_33 : decode cX7_promote 33 = .ok (.ireturn, 1) := by decide +kernel
theorem dX7_promote_34 : decode cX7_promote 34 = .ok (.aload_n 0, 1) := by decide +kernel
theorem dX7_promote_35 : decode cX7_promote 35 = .ok (.getfield 22, 3) := by decide +kernel
theorem dX7_promote_38 : decode cX7_promote 38 = .ok (.iload_n 1, 1) := by decide +kernel
theorem dX7_promote_39 : decode cX7_promote 39 = .ok (.aload_n 0, 1) := by decide +kernel
theorem dX7_promote_40 : decode cX7_promote 40 = .ok (.getfield 29, 3) := by decide +kernel
theorem dX7_promote_43 : decode cX7_promote 43 = .ok (.iload_n 1, 1) := by decide +kernel
theorem dX7_promote_44 : decode cX7_promote 44 = .ok (.iaload, 1) := by decide +kernel
theorem dX7_promote_45 : decode cX7_promote 45 = .ok (.iastore, 1) := by decide +kernel
theorem dX7_promote_46 : decode cX7_promote 46 = .ok (.aload_n 0, 1) := by decide +kernel
theorem dX7_promote_47 : decode cX7_promote 47 = .ok (.iload_n 1, 1) := by decide +kernel
theorem dX7_promote_48 : decode cX7_promote 48 = .ok (.iconst 0, 1) := by decide +kernel
theorem dX7_promote_49 : decode cX7_promote 49 = .ok (.invokevirtual 123, 3) := by decide +kernel
theorem dX7_promote_52 : decode cX7_promote 52 = .ok (.istore_n 2, 1) := by decide +kernel
theorem dX7_promote_53 : decode cX7_promote 53 = .ok (.aload_n 0, 1) := by decide +kernel
theorem dX7_promote_54 : decode cX7_promote 54 = .ok (.getfield 22, 3) := by decide +kernel
theorem dX7_promote_57 : decode cX7_promote 57 = .ok (.iload_n 1, 1) := by decide +kernel
theorem dX7_promote_58 : decode cX7_promote 58 = .ok (.iaload, 1) := by decide +kernel
theorem dX7_promote_59 : decode cX7_promote 59 = .ok (.iload_n 2, 1) := by decide +kernel
theorem dX7_promote_60 : decode cX7_promote 60 = .ok (.iadd, 1) := by decide +kernel
theorem dX7_promote_61 : decode cX7_promote 61 = .ok (.ireturn, 1) := by decide +kernel
set_option maxRecDepth 20000 in
theorem ggX7_takeBack_X7_isRoute : GoodIn wsX7_takeBack wsX7_isRoute := goodIn_r _ [7, 8, 9, 10, 6, 11, 30, 31, 32, 33, 34, 35, 36, 37, 38, 39, 40, 41, 42, 43, 44, 45, 46, 47, 48, 49, 50, 51, 52, 53, 54, 55, 56] (by decide +kernel) (by decide +kernel)
set_option maxRecDepth 20000 in
theorem gX7_takeBack_X7_isRoute : GoodIn wsX7_takeBack (wsV RX7 114 RX7 yX7_isRoute wsX7_isRoute) := goodIn_app (goodIn_of _ (by decide +kernel)) ggX7_takeBack_X7_isRoute
set_option maxRecDepth 20000 in
theorem ggX7_takeBack_X7_fails : GoodIn wsX7_takeBack wsX7_fails := goodIn_r _ [15, 1, 30, 31, 32, 33, 34, 35, 36, 37, 38, 39, 40, 41, 42, 43, 44, 45, 46, 47, 48, 49, 50, 51, 52, 53, 54, 55, 56] (by decide +kernel) (by decide +kernel)
set_option maxRecDepth 20000 in
theorem gX7_takeBack_X7_fails : GoodIn wsX7_takeBack (wsV RX7 105 RX7 yX7_fails wsX7_fails) := goodIn_app (goodIn_of _ (by decide +kernel)) ggX7_takeBack_X7_fails
set_option maxRecDepth 20000 in
theorem ggX7_takeBack_X7_ends : GoodIn wsX7_takeBack wsX7_ends := goodIn_ca (goodIn_r _ [19, 2, 20, 21, 22, 23, 24, 25, 26, 27, 28, 29, 30, 31, 32, 33, 34, 35, 36, 37, 38, 39, 40, 41, 42, 43, 44, 45, 46, 47, 48, 49, 50, 51, 52, 53, 54, 55, 56] (by decide +kernel) (by decide +kernel)) (goodIn_sub (fun _ h => List.mem_cons_of_mem _ (List.mem_append_right _ h)) (by decide +kernel))
set_option maxRecDepth 20000 in
theorem gX7_takeBack_X7_ends : GoodIn wsX7_takeBack (wsV RX7 123 RX7 yX7_ends wsX7_ends) := goodIn_app (goodIn_of _ (by decide +kernel)) ggX7_takeBack_X7_ends
theorem dX7_takeBack_0 : decode cX7_takeBack 0 = .ok (.aload_n 0, 1) := by decide +kernel
theorem dX7_takeBack_1 : decode cX7_takeBack 1 = .ok (.iconst 0, 1) := by decide +kernel
theorem dX7_takeBack_2 : decode cX7_takeBack 2 = .ok (.putfield 79, 3) := by decide +kernel
theorem dX7_takeBack_5 : decode cX7_takeBack 5 = .ok (.aload_n 0, 1) := by decide +kernel
theorem dX7_takeBack_6 : decode cX7_takeBack 6 = .ok (.iload_n 1, 1) := by decide +kernel
theorem dX7_takeBack_7 : decode cX7_takeBack 7 = .ok (.invokevirtual 114, 3) := by decide +kernel
theorem dX7_takeBack_10 : decode cX7_takeBack 10 = .ok (.ifCond .ne 9, 3) := by decide +kernel
theorem dX7_takeBack_13 : decode cX7_takeBack 13 = .ok (.aload_n 0, 1) := by decide +kernel
theorem dX7_takeBack_14 : decode cX7_takeBack 14 = .ok (.iconst 1, 1) := by decide +kernel
theorem dX7_takeBack_15 : decode cX7_takeBack 15 = .ok (.invokevirtual 105, 3) := by decide +kernel
theorem dX7_takeBack_18 : decode cX7_takeBack 18 = .ok (.ireturn, 1) := by decide +kernel
theorem dX7_takeBack_19 : decode cX7_takeBack 19 = .ok (.aload_n 0, 1) := by decide +kernel
theorem dX7_takeBack_20 : decode cX7_takeBack 20 = .ok (.getfield 25, 3) := by decide +kernel
theorem dX7_takeBack_23 : decode cX7_takeBack 23 = .ok (.iload_n 1, 1) := by decide +kernel
theorem dX7_takeBack_24 : decode cX7_takeBack 24 = .ok (.baload, 1) := by decide +kernel
theorem dX7_takeBack_25 : decode cX7_takeBack 25 = .ok (.ifCond .eq 12, 3) := by decide +kernel
theorem dX7_takeBack_28 : decode cX7_takeBack 28 = .ok (.aload_n 0, 1) := by decide +kernel
theorem dX7_takeBack_29 : decode cX7_takeBack 29 = .ok (.iload_n 1, 1) := by decide +kernel
theorem dX7_takeBack_30 : decode cX7_takeBack 30 = .ok (.iconst 1, 1) := by decide +kernel
theorem dX7_takeBack_31 : decode cX7_takeBack 31 = .ok (.invokevirtual 123, 3) := by decide +kernel
theorem dX7_takeBack_34 : decode cX7_takeBack 34 = .ok (.goto 8, 3) := by decide +kernel
theorem dX7_takeBack_37 : decode cX7_takeBack 37 = .ok (.aload_n 0, 1) := by decide +kernel
theorem dX7_takeBack_38 : decode cX7_takeBack 38 = .ok (.iconst 2, 1) := by decide +kernel
theorem dX7_takeBack_39 : decode cX7_takeBack 39 = .ok (.invokevirtual 105, 3) := by decide +kernel
theorem dX7_takeBack_42 : decode cX7_takeBack 42 = .ok (.ireturn, 1) := by decide +kernel
set_option maxRecDepth 20000 in
theorem ggX7_hasCanary_X7_isRoute : GoodIn wsX7_hasCanary wsX7_isRoute := goodIn_r _ [7, 8, 9, 10, 6, 11, 12, 13, 14, 15, 16, 17, 18, 19, 20, 21, 22, 23, 24, 25, 26, 27, 28, 29, 30, 31, 32, 33, 34, 35, 36, 37, 38] (by decide +kernel) (by decide +kernel)
set_option maxRecDepth 20000 in
theorem gX7_hasCanary_X7_isRoute : GoodIn wsX7_hasCanary (wsV RX7 114 RX7 yX7_isRoute wsX7_isRoute) := goodIn_app (goodIn_of _ (by decide +kernel)) ggX7_hasCanary_X7_isRoute
theorem dX7_hasCanary_0 : decode cX7_hasCanary 0 = .ok (.aload_n 0, 1) := by decide +kernel
theorem dX7_hasCanary_1 : decode cX7_hasCanary 1 = .ok (.aload_n 0, 1) := by decide +kernel
theorem dX7_hasCanary_2 : decode cX7_hasCanary 2 = .ok (.iload_n 1, 1) := by decide +kernel
theorem dX7_hasCanary_3 : decode cX7_hasCanary 3 = .ok (.invokevirtual 114, 3) := by decide +kernel
theorem dX7_hasCanary_6 : decode cX7_hasCanary 6 = .ok (.ifCond .eq 7, 3) := by decide +kernel
theorem dX7_hasCanary_9 : decode cX7_hasCanary 9 = .ok (.iconst 0, 1) := by decide +kernel
theorem dX7_hasCanary_10 : decode cX7_hasCanary 10 = .ok (.goto 4, 3) := by decide +kernel
theorem dX7_hasCanary_13 : decode cX7_hasCanary 13 = .ok (.iconst 1, 1) := by decide +kernel
theorem dX7_hasCanary_14 : decode cX7_hasCanary 14 = .ok (.putfield 79, 3) := by decide +kernel
theorem dX7_hasCanary_17 : decode cX7_hasCanary 17 = .ok (.aload_n 0, 1) := by decide +kernel
theorem dX7_hasCanary_18 : decode cX7_hasCanary 18 = .ok (.getfield 79, 3) := by decide +kernel
theorem dX7_hasCanary_21 : decode cX7_hasCanary 21 = .ok (.ifCond .ne 16, 3) := by decide +kernel
theorem dX7_hasCanary_24 : decode cX7_hasCanary 24 = .ok (.aload_n 0, 1) := by decide +kernel
theorem dX7_hasCanary_25 : decode cX7_hasCanary 25 = .ok (.getfield 25, 3) := by decide +kernel
theorem dX7_hasCanary_28 : decode cX7_hasCanary 28 = .ok (.iload_n 1, 1) := by decide +kernel
theorem dX7_hasCanary_29 : decode cX7_hasCanary 29 = .ok (.baload, 1) := by decide +kernel
theorem dX7_hasCanary_30 : decode cX7_hasCanary 30 = .ok (.ifCond .eq 7, 3) := by decide +kernel
theorem dX7_hasCanary_33 : decode cX7_hasCanary 33 = .ok (.iconst 1, 1) := by decide +kernel
theorem dX7_hasCanary_34 : decode cX7_hasCanary 34 = .ok (.goto 4, 3) := by decide +kernel
theorem dX7_hasCanary_37 : decode cX7_hasCanary 37 = .ok (.iconst 0, 1) := by decide +kernel
theorem dX7_hasCanary_38 : decode cX7_hasCanary 38 = .ok (.ireturn, 1) := by decide +kernel
set_option maxRecDepth 20000 in
theorem ggX7_faults_X7_isRoute : GoodIn wsX7_faults wsX7_isRoute := goodIn_r _ [8, 9, 10, 11, 7, 12, 17, 18, 19, 20, 21, 22, 23, 24, 25, 26, 27, 28, 29, 30, 31, 32, 33, 34, 35, 36, 37, 38, 39, 40, 41, 42, 43] (by decide +kernel) (by decide +kernel)
set_option maxRecDepth 20000 in
theorem gX7_faults_X7_isRoute : GoodIn wsX7_faults (wsV RX7 114 RX7 yX7_isRoute wsX7_isRoute) := goodIn_app (goodIn_of _ (by decide +kernel)) ggX7_faults_X7_isRoute
set_option maxRecDepth 20000 in
theorem ggX7_faults_X7_fails : GoodIn wsX7_faults wsX7_fails := goodIn_r _ [16, 1, 17, 18, 19, 20, 21, 22, 23, 24, 25, 26, 27, 28, 29, 30, 31, 32, 33, 34, 35, 36, 37, 38, 39, 40, 41, 42, 43] (by decide +kernel) (by decide +kernel)
set_option maxRecDepth 20000 in
theorem gX7_faults_X7_fails : GoodIn wsX7_faults (wsV RX7 105 RX7 yX7_fails wsX7_fails) := goodIn_app (goodIn_of _ (by decide +kernel)) ggX7_faults_X7_fails
theorem dX7_faults_0 : decode cX7_faults 0 = .ok (.aload_n 0, 1) := by decide +kernel
theorem dX7_faults_1 : decode cX7_faults 1 = .ok (.iconst 0, 1) := by decide +kernel
theorem dX7_faults_2 : decode cX7_faults 2 = .ok (.putfield 79, 3) := by decide +kernel
theorem dX7_faults_5 : decode cX7_faults 5 = .ok (.aload_n 0, 1) := by decide +kernel
theorem dX7_faults_6 : decode cX7_faults 6 = .ok (.iload_n 1, 1) := by decide +kernel
theorem dX7_faults_7 : decode cX7_faults 7 = .ok (.invokevirtual 114, 3) := by decide +kernel
theorem dX7_faults_10 : decode cX7_faults 10 = .ok (.ifCond .ne 9, 3) := by decide +kernel
theorem dX7_faults_13 : decode cX7_faults 13 = .ok (.aload_n 0, 1) := by decide +kernel
theorem dX7_faults_14 : decode cX7_faults 14 = .ok (.iconst 1, 1) := by decide +kernel
theorem dX7_faults_15 : decode cX7_faults 15 = .ok (.invokevirtual 105, 3) := by decide +kernel
theorem dX7_faults_18 : decode cX7_faults 18 = .ok (.ireturn, 1) := by decide +kernel
theorem dX7_faults_19 : decode cX7_faults 19 = .ok (.aload_n 0, 1) := by decide +kernel
theorem dX7_faults_20 : decode cX7_faults 20 = .ok (.getfield 25, 3) := by decide +kernel
theorem dX7_faults_23 : decode cX7_faults 23 = .ok (.iload_n 1, 1) := by decide +kernel
theorem dX7_faults_24 : decode cX7_faults 24 = .ok (.baload, 1) := by decide +kernel
theorem dX7_faults_25 : decode cX7_faults 25 = .ok (.ifCond .eq 12, 3) := by decide +kernel
theorem dX7_faults_28 : decode cX7_faults 28 = .ok (.aload_n 0, 1) := by decide +kernel
theorem dX7_faults_29 : decode cX7_faults 29 = .ok (.getfield 38, 3) := by decide +kernel
theorem dX7_faults_32 : decode cX7_faults 32 = .ok (.iload_n 1, 1) := by decide +kernel
theorem dX7_faults_33 : decode cX7_faults 33 = .ok (.iaload, 1) := by decide +kernel
theorem dX7_faults_34 : decode cX7_faults 34 = .ok (.goto 8, 3) := by decide +kernel
theorem dX7_faults_37 : decode cX7_faults 37 = .ok (.aload_n 0, 1) := by decide +kernel
theorem dX7_faults_38 : decode cX7_faults 38 = .ok (.iconst 2, 1) := by decide +kernel
theorem dX7_faults_39 : decode cX7_faults 39 = .ok (.invokevirtual 105, 3) := by decide +kernel
theorem dX7_faults_42 : decode cX7_faults 42 = .ok (.ireturn, 1) := by decide +kernel
set_option maxRecDepth 20000 in
theorem ggX7_addPlan_X7_in : GoodIn wsX7_addPlan wsX7_in := goodIn_r _ [9] (by decide +kernel) (by decide +kernel)
set_option maxRecDepth 20000 in
theorem gX7_addPlan_X7_in : GoodIn wsX7_addPlan (va_wsS RX7 86 yX7_in wsX7_in) := goodIn_app (goodIn_of _ (by decide +kernel)) ggX7_addPlan_X7_in
set_option maxRecDepth 20000 in
theorem ggX7_addPlan_X7_fails : GoodIn wsX7_addPlan wsX7_fails := goodIn_r _ [13, 1, 14, 15, 16, 17, 18, 19, 20, 21, 22, 23, 24, 25, 26, 27, 28, 29, 30, 31, 32, 33, 34, 35, 36, 37, 38, 39, 40] (by decide +kernel) (by decide +kernel)
set_option maxRecDepth 20000 in
theorem gX7_addPlan_X7_fails : GoodIn wsX7_addPlan (wsV RX7 105 RX7 yX7_fails wsX7_fails) := goodIn_app (goodIn_of _ (by decide +kernel)) ggX7_addPlan_X7_fails
theorem dX7_addPlan_0 : decode cX7_addPlan 0 = .ok (.aload_n 0, 1) := by decide +kernel
theorem dX7_addPlan_1 : decode cX7_addPlan 1 = .ok (.iconst 0, 1) := by decide +kernel
theorem dX7_addPlan_2 : decode cX7_addPlan 2 = .ok (.putfield 79, 3) := by decide +kernel
theorem dX7_addPlan_5 : decode cX7_addPlan 5 = .ok (.iload_n 1, 1) := by decide +kernel
theorem dX7_addPlan_6 : decode cX7_addPlan 6 = .ok (.iconst 1, 1) := by decide +kernel
theorem dX7_addPlan_7 : decode cX7_addPlan 7 = .ok (.bipush 20, 2) := by decide +kernel
theorem dX7_addPlan_9 : decode cX7_addPlan 9 = .ok (.invokestatic 86, 3) := by decide +kernel
theorem dX7_addPlan_12 : decode cX7_addPlan 12 = .ok (.ifCond .eq 23, 3) := by decide +kernel
theorem dX7_addPlan_15 : decode cX7_addPlan 15 = .ok (.iload_n 2, 1) := by decide +kernel
theorem dX7_addPlan_16 : decode cX7_addPlan 16 = .ok (.iconst 1, 1) := by decide +kernel
theorem dX7_addPlan_17 : decode cX7_addPlan 17 = .ok (.bipush 100, 2) := by decide +kernel
theorem dX7_addPlan_19 : decode cX7_addPlan 19 = .ok (.invokestatic 86, 3) := by decide +kernel
theorem dX7_addPlan_22 : decode cX7_addPlan 22 = .ok (.ifCond .eq 13, 3) := by decide +kernel
theorem dX7_addPlan_25 : decode cX7_addPlan 25 = .ok (.iload_n 3, 1) := by decide +kernel
theorem dX7_addPlan_26 : decode cX7_addPlan 26 = .ok (.iconst 0, 1) := by decide +kernel
theorem dX7_addPlan_27 : decode cX7_addPlan 27 = .ok (.bipush 99, 2) := by decide +kernel
theorem dX7_addPlan_29 : decode cX7_addPlan 29 = .ok (.invokestatic 86, 3) := by decide +kernel
theorem dX7_addPlan_32 : decode cX7_addPlan 32 = .ok (.ifCond .ne 9, 3) := by decide +kernel
theorem dX7_addPlan_35 : decode cX7_addPlan 35 = .ok (.aload_n 0, 1) := by decide +kernel
theorem dX7_addPlan_36 : decode cX7_addPlan 36 = .ok (.iconst 1, 1) := by decide +kernel
theorem dX7_addPlan_37 : decode cX7_addPlan 37 = .ok (.invokevirtual 105, 3) := by decide +kernel
theorem dX7_addPlan_40 : decode cX7_addPlan 40 = .ok (.ireturn, 1) := by decide +kernel
theorem dX7_addPlan_41 : decode cX7_addPlan 41 = .ok (.aload_n 0, 1) := by decide +kernel
theorem dX7_addPlan_42 : decode cX7_addPlan 42 = .ok (.getfield 127, 3) := by decide +kernel
theorem dX7_addPlan_45 : decode cX7_addPlan 45 = .ok (.iconst 3, 1) := by decide +kernel
theorem dX7_addPlan_46 : decode cX7_addPlan 46 = .ok (.if_icmp .ne 9, 3) := by decide +kernel
theorem dX7_addPlan_49 : decode cX7_addPlan 49 = .ok (.aload_n 0, 1) := by decide +kernel
theorem dX7_addPlan_50 : decode cX7_addPlan 50 = .ok (.iconst 2, 1) := by decide +kernel
theorem dX7_addPlan_51 : decode cX7_addPlan 51 = .ok (.invokevirtual 105, 3) := by decide +kernel
theorem dX7_addPlan_54 : decode cX7_addPlan 54 = .ok (.ireturn, 1) := by decide +kernel
theorem dX7_addPlan_55 : decode cX7_addPlan 55 = .ok (.aload_n 0, 1) := by decide +kernel
theorem dX7_addPlan_56 : decode cX7_addPlan 56 = .ok (.getfield 41, 3) := by decide +kernel
theorem dX7_addPlan_59 : decode cX7_addPlan 59 = .ok (.aload_n 0, 1) := by decide +kernel
theorem dX7_addPlan_60 : decode cX7_addPlan 60 = .ok (.getfield 127, 3) := by decide +kernel
theorem dX7_addPlan_63 : decode cX7_addPlan 63 = .ok (.iload_n 1, 1) := by decide +kernel
theorem dX7_addPlan_64 : decode cX7_addPlan 64 = .ok (.iastore, 1) := by decide +kernel
theorem dX7_addPlan_65 : decode cX7_addPlan 65 = .ok (.aload_n 0, 1) := by decide +kernel
theorem dX7_addPlan_66 : decode cX7_addPlan 66 = .ok (.getfield 44, 3) := by decide +kernel
theorem dX7_addPlan_69 : decode cX7_addPlan 69 = .ok (.aload_n 0, 1) := by decide +kernel
theorem dX7_addPlan_70 : decode cX7_addPlan 70 = .ok (.getfield 127, 3) := by decide +kernel
theorem dX7_addPlan_73 : decode cX7_addPlan 73 = .ok (.iload_n 2, 1) := by decide +kernel
theorem dX7_addPlan_74 : decode cX7_addPlan 74 = .ok (.iastore, 1) := by decide +kernel
theorem dX7_addPlan_75 : decode cX7_addPlan 75 = .ok (.aload_n 0, 1) := by decide +kernel
theorem dX7_addPlan_76 : decode cX7_addPlan 76 = .ok (.getfield 47, 3) := by decide +kernel
theorem dX7_addPlan_79 : decode cX7_addPlan 79 = .ok (.aload_n 0, 1) := by decide +kernel
theorem dX7_addPlan_80 : decode cX7_addPlan 80 = .ok (.getfield 127, 3) := by decide +kernel
theorem dX7_addPlan_83 : decode cX7_addPlan 83 = .ok (.iload_n 3, 1) := by decide +kernel
theorem dX7_addPlan_84 : decode cX7_addPlan 84 = .ok (.iastore, 1) := by decide +kernel
theorem dX7_addPlan_85 : decode cX7_addPlan 85 = .ok (.aload_n 0, 1) := by decide +kernel
theorem dX7_addPlan_86 : decode cX7_addPlan 86 = .ok (.dup, 1) := by decide +kernel
theorem dX7_addPlan_87 : decode cX7_addPlan 87 = .ok (.getfield 127, 3) := by decide +kernel
theorem dX7_addPlan_90 : decode cX7_addPlan 90 = .ok (.iconst 1, 1) := by decide +kernel
theorem dX7_addPlan_91 : decode cX7_addPlan 91 = .ok (.iadd, 1) := by decide +kernel
theorem dX7_addPlan_92 : decode cX7_addPlan 92 = .ok (.putfield 127, 3) := by decide +kernel
theorem dX7_addPlan_95 : decode cX7_addPlan 95 = .ok (.aload_n 0, 1) := by decide +kernel
theorem dX7_addPlan_96 : decode cX7_addPlan 96 = .ok (.getfield 127, 3) := by decide +kernel
theorem dX7_addPlan_99 : decode cX7_addPlan 99 = .ok (.iconst 1, 1) := by decide +kernel
theorem dX7_addPlan_100 : decode cX7_addPlan 100 = .ok (.isub, 1) := by decide +kernel
theorem dX7_addPlan_101 : decode cX7_addPlan 101 = .ok (.ireturn, 1) := by decide +kernel
set_option maxRecDepth 20000 in
theorem ggX7_addCaller_X7_in : GoodIn wsX7_addCaller wsX7_in := goodIn_r _ [10] (by decide +kernel) (by decide +kernel)
set_option maxRecDepth 20000 in
theorem gX7_addCaller_X7_in : GoodIn wsX7_addCaller (va_wsS RX7 86 yX7_in wsX7_in) := goodIn_app (goodIn_of _ (by decide +kernel)) ggX7_addCaller_X7_in
set_option maxRecDepth 20000 in
theorem ggX7_addCaller_X7_fails : GoodIn wsX7_addCaller wsX7_fails := goodIn_r _ [14, 1, 15, 16, 17, 18, 19, 20, 21, 22, 23, 24, 25, 26, 27, 28, 29, 30, 31, 32, 33, 34, 35, 36, 37, 38, 39, 40, 41] (by decide +kernel) (by decide +kernel)
set_option maxRecDepth 20000 in
theorem gX7_addCaller_X7_fails : GoodIn wsX7_addCaller (wsV RX7 105 RX7 yX7_fails wsX7_fails) := goodIn_app (goodIn_of _ (by decide +kernel)) ggX7_addCaller_X7_fails
theorem dX7_addCaller_0 : decode cX7_addCaller 0 = .ok (.aload_n 0, 1) := by decide +kernel
theorem dX7_addCaller_1 : decode cX7_addCaller 1 = .ok (.iconst 0, 1) := by decide +kernel
theorem dX7_addCaller_2 : decode cX7_addCaller 2 = .ok (.putfield 79, 3) := by decide +kernel
theorem dX7_addCaller_5 : decode cX7_addCaller 5 = .ok (.iload_n 1, 1) := by decide +kernel
theorem dX7_addCaller_6 : decode cX7_addCaller 6 = .ok (.iconst 0, 1) := by decide +kernel
theorem dX7_addCaller_7 : decode cX7_addCaller 7 = .ok (.aload_n 0, 1) := by decide +kernel
theorem dX7_addCaller_8 : decode cX7_addCaller 8 = .ok (.getfield 127, 3) := by decide +kernel
theorem dX7_addCaller_11 : decode cX7_addCaller 11 = .ok (.iconst 1, 1) := by decide +kernel
theorem dX7_addCaller_12 : decode cX7_addCaller 12 = .ok (.isub, 1) := by decide +kernel
theorem dX7_addCaller_13 : decode cX7_addCaller 13 = .ok (.invokestatic 86, 3) := by decide +kernel
theorem dX7_addCaller_16 : decode cX7_addCaller 16 = .ok (.ifCond .ne 9, 3) := by decide +kernel
theorem dX7_addCaller_19 : decode cX7_addCaller 19 = .ok (.aload_n 0, 1) := by decide +kernel
theorem dX7_addCaller_20 : decode cX7_addCaller 20 = .ok (.iconst 1, 1) := by decide +kernel
theorem dX7_addCaller_21 : decode cX7_addCaller 21 = .ok (.invokevirtual 105, 3) := by decide +kernel
theorem dX7_addCaller_24 : decode cX7_addCaller 24 = .ok (.ireturn, 1) := by decide +kernel
theorem dX7_addCaller_25 : decode cX7_addCaller 25 = .ok (.aload_n 0, 1) := by decide +kernel
theorem dX7_addCaller_26 : decode cX7_addCaller 26 = .ok (.getfield 90, 3) := by decide +kernel
theorem dX7_addCaller_29 : decode cX7_addCaller 29 = .ok (.bipush 6, 2) := by decide +kernel
theorem dX7_addCaller_31 : decode cX7_addCaller 31 = .ok (.if_icmp .ne 9, 3) := by decide +kernel
theorem dX7_addCaller_34 : decode cX7_addCaller 34 = .ok (.aload_n 0, 1) := by decide +kernel
theorem dX7_addCaller_35 : decode cX7_addCaller 35 = .ok (.iconst 2, 1) := by decide +kernel
theorem dX7_addCaller_36 : decode cX7_addCaller 36 = .ok (.invokevirtual 105, 3) := by decide +kernel
theorem dX7_addCaller_39 : decode cX7_addCaller 39 = .ok (.ireturn, 1) := by decide +kernel
theorem dX7_addCaller_40 : decode cX7_addCaller 40 = .ok (.aload_n 0, 1) := by decide +kernel
theorem dX7_addCaller_41 : decode cX7_addCaller 41 = .ok (.getfield 50, 3) := by decide +kernel
theorem dX7_addCaller_44 : decode cX7_addCaller 44 = .ok (.aload_n 0, 1) := by decide +kernel
theorem dX7_addCaller_45 : decode cX7_addCaller 45 = .ok (.getfield 90, 3) := by decide +kernel
theorem dX7_addCaller_48 : decode cX7_addCaller 48 = .ok (.iload_n 1, 1) := by decide +kernel
theorem dX7_addCaller_49 : decode cX7_addCaller 49 = .ok (.iastore, 1) := by decide +kernel
theorem dX7_addCaller_50 : decode cX7_addCaller 50 = .ok (.aload_n 0, 1) := by decide +kernel
theorem dX7_addCaller_51 : decode cX7_addCaller 51 = .ok (.getfield 53, 3) := by decide +kernel
theorem dX7_addCaller_54 : decode cX7_addCaller 54 = .ok (.aload_n 0, 1) := by decide +kernel
theorem dX7_addCaller_55 : decode cX7_addCaller 55 = .ok (.getfield 90, 3) := by decide +kernel
theorem dX7_addCaller_58 : decode cX7_addCaller 58 = .ok (.aload_n 0, 1) := by decide +kernel
theorem dX7_addCaller_59 : decode cX7_addCaller 59 = .ok (.getfield 44, 3) := by decide +kernel
theorem dX7_addCaller_62 : decode cX7_addCaller 62 = .ok (.iload_n 1, 1) := by decide +kernel
theorem dX7_addCaller_63 : decode cX7_addCaller 63 = .ok (.iaload, 1) := by decide +kernel
theorem dX7_addCaller_64 : decode cX7_addCaller 64 = .ok (.iastore, 1) := by decide +kernel
theorem dX7_addCaller_65 : decode cX7_addCaller 65 = .ok (.aload_n 0, 1) := by decide +kernel
theorem dX7_addCaller_66 : decode cX7_addCaller 66 = .ok (.dup, 1) := by decide +kernel
theorem dX7_addCaller_67 : decode cX7_addCaller 67 = .ok (.getfield 90, 3) := by decide +kernel
theorem dX7_addCaller_70 : decode cX7_addCaller 70 = .ok (.iconst 1, 1) := by decide +kernel
theorem dX7_addCaller_71 : decode cX7_addCaller 71 = .ok (.iadd, 1) := by decide +kernel
theorem dX7_addCaller_72 : decode cX7_addCaller 72 = .ok (.putfield 90, 3) := by decide +kernel
theorem dX7_addCaller_75 : decode cX7_addCaller 75 = .ok (.aload_n 0, 1) := by decide +kernel
theorem dX7_addCaller_76 : decode cX7_addCaller 76 = .ok (.getfield 90, 3) := by decide +kernel
theorem dX7_addCaller_79 : decode cX7_addCaller 79 = .ok (.iconst 1, 1) := by decide +kernel
theorem dX7_addCaller_80 : decode cX7_addCaller 80 = .ok (.isub, 1) := by decide +kernel
theorem dX7_addCaller_81 : decode cX7_addCaller 81 = .ok (.ireturn, 1) := by decide +kernel
set_option maxRecDepth 20000 in
theorem ggX7_setPlan_X7_isCaller : GoodIn wsX7_setPlan wsX7_isCaller := goodIn_r _ [10, 11, 12, 13, 9, 14, 19, 20, 21, 22, 23, 24, 25, 26, 27, 28, 29, 30, 31, 32, 33, 34, 35, 36, 37, 38, 39, 40, 41, 42, 43, 44, 45] (by decide +kernel) (by decide +kernel)
set_option maxRecDepth 20000 in
theorem gX7_setPlan_X7_isCaller : GoodIn wsX7_setPlan (wsV RX7 130 RX7 yX7_isCaller wsX7_isCaller) := goodIn_app (goodIn_of _ (by decide +kernel)) ggX7_setPlan_X7_isCaller
set_option maxRecDepth 20000 in
theorem ggX7_setPlan_X7_in : GoodIn wsX7_setPlan wsX7_in := goodIn_r _ [14] (by decide +kernel) (by decide +kernel)
set_option maxRecDepth 20000 in
theorem gX7_setPlan_X7_in : GoodIn wsX7_setPlan (va_wsS RX7 86 yX7_in wsX7_in) := goodIn_app (goodIn_of _ (by decide +kernel)) ggX7_setPlan_X7_in
set_option maxRecDepth 20000 in
theorem ggX7_setPlan_X7_fails : GoodIn wsX7_setPlan wsX7_fails := goodIn_r _ [18, 1, 19, 20, 21, 22, 23, 24, 25, 26, 27, 28, 29, 30, 31, 32, 33, 34, 35, 36, 37, 38, 39, 40, 41, 42, 43, 44, 45] (by decide +kernel) (by decide +kernel)
set_option maxRecDepth 20000 in
theorem gX7_setPlan_X7_fails : GoodIn wsX7_setPlan (wsV RX7 105 RX7 yX7_fails wsX7_fails) := goodIn_app (goodIn_of _ (by decide +kernel)) ggX7_setPlan_X7_fails
theorem dX7_setPlan_0 : decode cX7_setPlan 0 = .ok (.aload_n 0, 1) := by decide +kernel
theorem dX7_setPlan_1 : decode cX7_setPlan 1 = .ok (.iconst 0, 1) := by decide +kernel
theorem dX7_setPlan_2 : decode cX7_setPlan 2 = .ok (.putfield 79, 3) := by decide +kernel
theorem dX7_setPlan_5 : decode cX7_setPlan 5 = .ok (.aload_n 0, 1) := by decide +kernel
theorem dX7_setPlan_6 : decode cX7_setPlan 6 = .ok (.iload_n 1, 1) := by decide +kernel
theorem dX7_setPlan_7 : decode cX7_setPlan 7 = .ok (.invokevirtual 130, 3) := by decide +kernel
theorem dX7_setPlan_10 : decode cX7_setPlan 10 = .ok (.ifCond .eq 17, 3) := by decide +kernel
theorem dX7_setPlan_13 : decode cX7_setPlan 13 = .ok (.iload_n 2, 1) := by decide +kernel
theorem dX7_setPlan_14 : decode cX7_setPlan 14 = .ok (.iconst 0, 1) := by decide +kernel
theorem dX7_setPlan_15 : decode cX7_setPlan 15 = .ok (.aload_n 0, 1) := by decide +kernel
theorem dX7_setPlan_16 : decode cX7_setPlan 16 = .ok (.getfield 127, 3) := by decide +kernel
theorem dX7_setPlan_19 : decode cX7_setPlan 19 = .ok (.iconst 1, 1) := by decide +kernel
theorem dX7_setPlan_20 : decode cX7_setPlan 20 = .ok (.isub, 1) := by decide +kernel
theorem dX7_setPlan_21 : decode cX7_setPlan 21 = .ok (.invokestatic 86, 3) := by decide +kernel
theorem dX7_setPlan_24 : decode cX7_setPlan 24 = .ok (.ifCond .ne 9, 3) := by decide +kernel
theorem dX7_setPlan_27 : decode cX7_setPlan 27 = .ok (.aload_n 0, 1) := by decide +kernel
theorem dX7_setPlan_28 : decode cX7_setPlan 28 = .ok (.iconst 1, 1) := by decide +kernel
theorem dX7_setPlan_29 : decode cX7_setPlan 29 = .ok (.invokevirtual 105, 3) := by decide +kernel
theorem dX7_setPlan_32 : decode cX7_setPlan 32 = .ok (.ireturn, 1) := by decide +kernel
theorem dX7_setPlan_33 : decode cX7_setPlan 33 = .ok (.aload_n 0, 1) := by decide +kernel
theorem dX7_setPlan_34 : decode cX7_setPlan 34 = .ok (.getfield 50, 3) := by decide +kernel
theorem dX7_setPlan_37 : decode cX7_setPlan 37 = .ok (.iload_n 1, 1) := by decide +kernel
theorem dX7_setPlan_38 : decode cX7_setPlan 38 = .ok (.iload_n 2, 1) := by decide +kernel
theorem dX7_setPlan_39 : decode cX7_setPlan 39 = .ok (.iastore, 1) := by decide +kernel
theorem dX7_setPlan_40 : decode cX7_setPlan 40 = .ok (.aload_n 0, 1) := by decide +kernel
theorem dX7_setPlan_41 : decode cX7_setPlan 41 = .ok (.getfield 53, 3) := by decide +kernel
theorem dX7_setPlan_44 : decode cX7_setPlan 44 = .ok (.iload_n 1, 1) := by decide +kernel
theorem dX7_setPlan_45 : decode cX7_setPlan 45 = .ok (.iaload, 1) := by decide +kernel
theorem dX7_setPlan_46 : decode cX7_setPlan 46 = .ok (.aload_n 0, 1) := by decide +kernel
theorem dX7_setPlan_47 : decode cX7_setPlan 47 = .ok (.getfield 44, 3) := by decide +kernel
theorem dX7_setPlan_50 : decode cX7_setPlan 50 = .ok (.iload_n 2, 1) := by decide +kernel
theorem dX7_setPlan_51 : decode cX7_setPlan 51 = .ok (.iaload, 1) := by decide +kernel
theorem dX7_setPlan_52 : decode cX7_setPlan 52 = .ok (.if_icmp .le 19, 3) := by decide +kernel
theorem dX7_setPlan_55 : decode cX7_setPlan 55 = .ok (.aload_n 0, 1) := by decide +kernel
theorem dX7_setPlan_56 : decode cX7_setPlan 56 = .ok (.getfield 53, 3) := by decide +kernel
theorem dX7_setPlan_59 : decode cX7_setPlan 59 = .ok (.iload_n 1, 1) := by decide +kernel
theorem dX7_setPlan_60 : decode cX7_setPlan 60 = .ok (.iaload, 1) := by decide +kernel
theorem dX7_setPlan_61 : decode cX7_setPlan 61 = .ok (.aload_n 0, 1) := by decide +kernel
theorem dX7_setPlan_62 : decode cX7_setPlan 62 = .ok (.getfield 44, 3) := by decide +kernel
theorem dX7_setPlan_65 : decode cX7_setPlan 65 = .ok (.iload_n 2, 1) := by decide +kernel
theorem dX7_setPlan_66 : decode cX7_setPlan 66 = .ok (.iaload, 1) := by decide +kernel
theorem dX7_setPlan_67 : decode cX7_setPlan 67 = .ok (.isub, 1) := by decide +kernel
theorem dX7_setPlan_68 : decode cX7_setPlan 68 = .ok (.goto 4, 3) := by decide +kernel
theorem dX7_setPlan_71 : decode cX7_setPlan 71 = .ok (.iconst 0, 1) := by decide +kernel
theorem dX7_setPlan_72 : decode cX7_setPlan 72 = .ok (.istore_n 3, 1) := by decide +kernel
theorem dX7_setPlan_73 : decode cX7_setPlan 73 = .ok (.aload_n 0, 1) := by decide +kernel
theorem dX7_setPlan_74 : decode cX7_setPlan 74 = .ok (.getfield 53, 3) := by decide +kernel
theorem dX7_setPlan_77 : decode cX7_setPlan 77 = .ok (.iload_n 1, 1) := by decide +kernel
theorem dX7_setPlan_78 : decode cX7_setPlan 78 = .ok (.dup2, 1) := by decide +kernel
theorem dX7_setPlan_79 : decode cX7_setPlan 79 = .ok (.iaload, 1) := by decide +kernel
theorem dX7_setPlan_80 : decode cX7_setPlan 80 = .ok (.iload_n 3, 1) := by decide +kernel
theorem dX7_setPlan_81 : decode cX7_setPlan 81 = .ok (.isub, 1) := by decide +kernel
theorem dX7_setPlan_82 : decode cX7_setPlan 82 = .ok (.iastore, 1) := by decide +kernel
theorem dX7_setPlan_83 : decode cX7_setPlan 83 = .ok (.iload_n 3, 1) := by decide +kernel
theorem dX7_setPlan_84 : decode cX7_setPlan 84 = .ok (.ireturn, 1) := by decide +kernel
set_option maxRecDepth 20000 in
theorem ggX7_tokens_X7_isCaller : GoodIn wsX7_tokens wsX7_isCaller := goodIn_r _ [7, 8, 9, 10, 6, 11, 16, 17, 18, 19, 20, 21, 22, 23, 24, 25, 26, 27, 28, 29, 30, 31, 32, 33, 34, 35, 36, 37, 38, 39, 40, 41, 42] (by decide +kernel) (by decide +kernel)
set_option maxRecDepth 20000 in
theorem gX7_tokens_X7_isCaller : GoodIn wsX7_tokens (wsV RX7 130 RX7 yX7_isCaller wsX7_isCaller) := goodIn_app (goodIn_of _ (by decide +kernel)) ggX7_tokens_X7_isCaller
set_option maxRecDepth 20000 in
theorem ggX7_tokens_X7_fails : GoodIn wsX7_tokens wsX7_fails := goodIn_r _ [15, 1, 16, 17, 18, 19, 20, 21, 22, 23, 24, 25, 26, 27, 28, 29, 30, 31, 32, 33, 34, 35, 36, 37, 38, 39, 40, 41, 42] (by decide +kernel) (by decide +kernel)
set_option maxRecDepth 20000 in
theorem gX7_tokens_X7_fails : GoodIn wsX7_tokens (wsV RX7 105 RX7 yX7_fails wsX7_fails) := goodIn_app (goodIn_of _ (by decide +kernel)) ggX7_tokens_X7_fails
theorem dX7_tokens_0 : decode cX7_tokens 0 = .ok (.aload_n 0, 1) := by decide +kernel
theorem dX7_tokens_1 : decode cX7_tokens 1 = .ok (.iconst 0, 1) := by decide +kernel
theorem dX7_tokens_2 : decode cX7_tokens 2 = .ok (.putfield 79, 3) := by decide +kernel
theorem dX7_tokens_5 : decode cX7_tokens 5 = .ok (.aload_n 0, 1) := by decide +kernel
theorem dX7_tokens_6 : decode cX7_tokens 6 = .ok (.iload_n 1, 1) := by decide +kernel
theorem dX7_tokens_7 : decode cX7_tokens 7 = .ok (.invokevirtual 130, 3) := by decide +kernel
theorem dX7_tokens_10 : decode cX7_tokens 10 = .ok (.ifCond .eq 12, 3) := by decide +kernel
theorem dX7_tokens_13 : decode cX7_tokens 13 = .ok (.aload_n 0, 1) := by decide +kernel
theorem dX7_tokens_14 : decode cX7_tokens 14 = .ok (.getfield 53, 3) := by decide +kernel
theorem dX7_tokens_17 : decode cX7_tokens 17 = .ok (.iload_n 1, 1) := by decide +kernel
theorem dX7_tokens_18 : decode cX7_tokens 18 = .ok (.iaload, 1) := by decide +kernel
theorem dX7_tokens_19 : decode cX7_tokens 19 = .ok (.goto 8, 3) := by decide +kernel
theorem dX7_tokens_22 : decode cX7_tokens 22 = .ok (.aload_n 0, 1) := by decide +kernel
theorem dX7_tokens_23 : decode cX7_tokens 23 = .ok (.iconst 1, 1) := by decide +kernel
theorem dX7_tokens_24 : decode cX7_tokens 24 = .ok (.invokevirtual 105, 3) := by decide +kernel
theorem dX7_tokens_27 : decode cX7_tokens 27 = .ok (.ireturn, 1) := by decide +kernel
set_option maxRecDepth 20000 in
theorem ggX7_ticksUntil_X7_isCaller : GoodIn wsX7_ticksUntil wsX7_isCaller := goodIn_r _ [11, 12, 13, 14, 10, 15, 25, 26, 27, 28, 29, 30, 31, 32, 33, 34, 35, 36, 37, 38, 39, 40, 41, 42, 43, 44, 45, 46, 47, 48, 49, 50, 51] (by decide +kernel) (by decide +kernel)
set_option maxRecDepth 20000 in
theorem gX7_ticksUntil_X7_isCaller : GoodIn wsX7_ticksUntil (wsV RX7 130 RX7 yX7_isCaller wsX7_isCaller) := goodIn_app (goodIn_of _ (by decide +kernel)) ggX7_ticksUntil_X7_isCaller
set_option maxRecDepth 20000 in
theorem ggX7_ticksUntil_X7_isRoute : GoodIn wsX7_ticksUntil wsX7_isRoute := goodIn_r _ [19, 20, 13, 14, 10, 15, 25, 26, 27, 28, 29, 30, 31, 32, 33, 34, 35, 36, 37, 38, 39, 40, 41, 42, 43, 44, 45, 46, 47, 48, 49, 50, 51] (by decide +kernel) (by decide +kernel)
set_option maxRecDepth 20000 in
theorem gX7_ticksUntil_X7_isRoute : GoodIn wsX7_ticksUntil (wsV RX7 114 RX7 yX7_isRoute wsX7_isRoute) := goodIn_app (goodIn_of _ (by decide +kernel)) ggX7_ticksUntil_X7_isRoute
set_option maxRecDepth 20000 in
theorem ggX7_ticksUntil_X7_fails : GoodIn wsX7_ticksUntil wsX7_fails := goodIn_r _ [24, 1, 25, 26, 27, 28, 29, 30, 31, 32, 33, 34, 35, 36, 37, 38, 39, 40, 41, 42, 43, 44, 45, 46, 47, 48, 49, 50, 51] (by decide +kernel) (by decide +kernel)
set_option maxRecDepth 20000 in
theorem gX7_ticksUntil_X7_fails : GoodIn wsX7_ticksUntil (wsV RX7 105 RX7 yX7_fails wsX7_fails) := goodIn_app (goodIn_of _ (by decide +kernel)) ggX7_ticksUntil_X7_fails
theorem dX7_ticksUntil_0 : decode cX7_ticksUntil 0 = .ok (.aload_n 0, 1) := by decide +kernel
theorem dX7_ticksUntil_1 : decode cX7_ticksUntil 1 = .ok (.iconst 0, 1) := by decide +kernel
theorem dX7_ticksUntil_2 : decode cX7_ticksUntil 2 = .ok (.putfield 79, 3) := by decide +kernel
theorem dX7_ticksUntil_5 : decode cX7_ticksUntil 5 = .ok (.aload_n 0, 1) := by decide +kernel
theorem dX7_ticksUntil_6 : decode cX7_ticksUntil 6 = .ok (.iload_n 1, 1) := by decide +kernel
theorem dX7_ticksUntil_7 : decode cX7_ticksUntil 7 = .ok (.invokevirtual 130, 3) := by decide +kernel
theorem dX7_ticksUntil_10 : decode cX7_ticksUntil 10 = .ok (.ifCond .eq 11, 3) := by decide +kernel
theorem dX7_ticksUntil_13 : decode cX7_ticksUntil 13 = .ok (.aload_n 0, 1) := by decide +kernel
theorem dX7_ticksUntil_14 : decode cX7_ticksUntil 14 = .ok (.iload_n 2, 1) := by decide +kernel
theorem dX7_ticksUntil_15 : decode cX7_ticksUntil 15 = .ok (.invokevirtual 114, 3) := by decide +kernel
theorem dX7_ticksUntil_18 : decode cX7_ticksUntil 18 = .ok (.ifCond .ne 9, 3) := by decide +kernel
theorem dX7_ticksUntil_21 : decode cX7_ticksUntil 21 = .ok (.aload_n 0, 1) := by decide +kernel
theorem dX7_ticksUntil_22 : decode cX7_ticksUntil 22 = .ok (.iconst 1, 1) := by decide +kernel
theorem dX7_ticksUntil_23 : decode cX7_ticksUntil 23 = .ok (.invokevirtual 105, 3) := by decide +kernel
theorem dX7_ticksUntil_26 : decode cX7_ticksUntil 26 = .ok (.ireturn, 1) := by decide +kernel
theorem dX7_ticksUntil_27 : decode cX7_ticksUntil 27 = .ok (.aload_n 0, 1) := by decide +kernel
theorem dX7_ticksUntil_28 : decode cX7_ticksUntil 28 = .ok (.getfield 13, 3) := by decide +kernel
theorem dX7_ticksUntil_31 : decode cX7_ticksUntil 31 = .ok (.iload_n 2, 1) := by decide +kernel
theorem dX7_ticksUntil_32 : decode cX7_ticksUntil 32 = .ok (.iaload, 1) := by decide +kernel
theorem dX7_ticksUntil_33 : decode cX7_ticksUntil 33 = .ok (.aload_n 0, 1) := by decide +kernel
theorem dX7_ticksUntil_34 : decode cX7_ticksUntil 34 = .ok (.getfield 44, 3) := by decide +kernel
theorem dX7_ticksUntil_37 : decode cX7_ticksUntil 37 = .ok (.aload_n 0, 1) := by decide +kernel
theorem dX7_ticksUntil_38 : decode cX7_ticksUntil 38 = .ok (.getfield 50, 3) := by decide +kernel
theorem dX7_ticksUntil_41 : decode cX7_ticksUntil 41 = .ok (.iload_n 1, 1) := by decide +kernel
theorem dX7_ticksUntil_42 : decode cX7_ticksUntil 42 = .ok (.iaload, 1) := by decide +kernel
theorem dX7_ticksUntil_43 : decode cX7_ticksUntil 43 = .ok (.iaload, 1) := by decide +kernel
theorem dX7_ticksUntil_44 : decode cX7_ticksUntil 44 = .ok (.if_icmp .le 9, 3) := by decide +kernel
theorem dX7_ticksUntil_47 : decode cX7_ticksUntil 47 = .ok (.aload_n 0, 1) := by decide +kernel
theorem dX7_ticksUntil_48 : decode cX7_ticksUntil 48 = .ok (.iconst 2, 1) := by decide +kernel
theorem dX7_ticksUntil_49 : decode cX7_ticksUntil 49 = .ok (.invokevirtual 105, 3) := by decide +kernel
theorem dX7_ticksUntil_52 : decode cX7_ticksUntil 52 = .ok (.ireturn, 1) := by decide +kernel
theorem dX7_ticksUntil_53 : decode cX7_ticksUntil 53 = .ok (.iconst 0, 1) := by decide +kernel
theorem dX7_ticksUntil_54 : decode cX7_ticksUntil 54 = .ok (.istore_n 3, 1) := by decide +kernel
theorem dX7_ticksUntil_55 : decode cX7_ticksUntil 55 = .ok (.aload_n 0, 1) := by decide +kernel
theorem dX7_ticksUntil_56 : decode cX7_ticksUntil 56 = .ok (.getfield 53, 3) := by decide +kernel
theorem dX7_ticksUntil_59 : decode cX7_ticksUntil 59 = .ok (.iload_n 1, 1) := by decide +kernel
theorem dX7_ticksUntil_60 : decode cX7_ticksUntil 60 = .ok (.iaload, 1) := by decide +kernel
theorem dX7_ticksUntil_61 : decode cX7_ticksUntil 61 = .ok (.istore 4, 2) := by decide +kernel
theorem dX7_ticksUntil_63 : decode cX7_ticksUntil 63 = .ok (.iload 4, 2) := by decide +kernel
theorem dX7_ticksUntil_65 : decode cX7_ticksUntil 65 = .ok (.aload_n 0, 1) := by decide +kernel
theorem dX7_ticksUntil_66 : decode cX7_ticksUntil 66 = .ok (.getfield 13, 3) := by decide +kernel
theorem dX7_ticksUntil_69 : decode cX7_ticksUntil 69 = .ok (.iload_n 2, 1) := by decide +kernel
theorem dX7_ticksUntil_70 : decode cX7_ticksUntil 70 = .ok (.iaload, 1) := by decide +kernel
theorem dX7_ticksUntil_71 : decode cX7_ticksUntil 71 = .ok (.if_icmp .ge 25, 3) := by decide +kernel
theorem dX7_ticksUntil_74 : decode cX7_ticksUntil 74 = .ok (.iinc 3 1, 3) := by decide +kernel
theorem dX7_ticksUntil_77 : decode cX7_ticksUntil 77 = .ok (.iload 4, 2) := by decide +kernel
theorem dX7_ticksUntil_79 : decode cX7_ticksUntil 79 = .ok (.aload_n 0, 1) := by decide +kernel
theorem dX7_ticksUntil_80 : decode cX7_ticksUntil 80 = .ok (.getfield 41, 3) := by decide +kernel
theorem dX7_ticksUntil_83 : decode cX7_ticksUntil 83 = .ok (.aload_n 0, 1) := by decide +kernel
theorem dX7_ticksUntil_84 : decode cX7_ticksUntil 84 = .ok (.getfield 50, 3) := by decide +kernel
theorem dX7_ticksUntil_87 : decode cX7_ticksUntil 87 = .ok (.iload_n 1, 1) := by decide +kernel
theorem dX7_ticksUntil_88 : decode cX7_ticksUntil 88 = .ok (.iaload, 1) := by decide +kernel
theorem dX7_ticksUntil_89 : decode cX7_ticksUntil 89 = .ok (.iaload, 1) := by decide +kernel
theorem dX7_ticksUntil_90 : decode cX7_ticksUntil 90 = .ok (.iadd, 1) := by decide +kernel
theorem dX7_ticksUntil_91 : decode cX7_ticksUntil 91 = .ok (.istore 4, 2) := by decide +kernel
theorem dX7_ticksUntil_93 : decode cX7_ticksUntil 93 = .ok (.goto (-30), 3) := by decide +kernel
theorem dX7_ticksUntil_96 : decode cX7_ticksUntil 96 = .ok (.iload_n 3, 1) := by decide +kernel
theorem dX7_ticksUntil_97 : decode cX7_ticksUntil 97 = .ok (.ireturn, 1) := by decide +kernel
set_option maxRecDepth 20000 in
theorem ggX7_bill_X7_isCaller : GoodIn wsX7_bill wsX7_isCaller := goodIn_r _ [7, 8, 9, 10, 6, 11, 12, 13, 14, 15, 16, 17, 18, 19, 20, 21, 22, 23, 24, 25, 26, 27, 28, 29, 30, 31, 32, 33, 34, 35, 36, 37, 38] (by decide +kernel) (by decide +kernel)
set_option maxRecDepth 20000 in
theorem gX7_bill_X7_isCaller : GoodIn wsX7_bill (wsV RX7 130 RX7 yX7_isCaller wsX7_isCaller) := goodIn_app (goodIn_of _ (by decide +kernel)) ggX7_bill_X7_isCaller
theorem dX7_bill_0 : decode cX7_bill 0 = .ok (.aload_n 0, 1) := by decide +kernel
theorem dX7_bill_1 : decode cX7_bill 1 = .ok (.aload_n 0, 1) := by decide +kernel
theorem dX7_bill_2 : decode cX7_bill 2 = .ok (.iload_n 1, 1) := by decide +kernel
theorem dX7_bill_3 : decode cX7_bill 3 = .ok (.invokevirtual 130, 3) := by decide +kernel
theorem dX7_bill_6 : decode cX7_bill 6 = .ok (.ifCond .eq 7, 3) := by decide +kernel
theorem dX7_bill_9 : decode cX7_bill 9 = .ok (.iconst 0, 1) := by decide +kernel
theorem dX7_bill_10 : decode cX7_bill 10 = .ok (.goto 4, 3) := by decide +kernel
theorem dX7_bill_13 : decode cX7_bill 13 = .ok (.iconst 1, 1) := by decide +kernel
theorem dX7_bill_14 : decode cX7_bill 14 = .ok (.putfield 79, 3) := by decide +kernel
theorem dX7_bill_17 : decode cX7_bill 17 = .ok (.aload_n 0, 1) := by decide +kernel
theorem dX7_bill_18 : decode cX7_bill 18 = .ok (.getfield 79, 3) := by decide +kernel
theorem dX7_bill_21 : decode cX7_bill 21 = .ok (.ifCond .le 7, 3) := by decide +kernel
theorem dX7_bill_24 : decode cX7_bill 24 = .ok (.lconst 0, 1) := by decide +kernel
theorem dX7_bill_25 : decode cX7_bill 25 = .ok (.goto 9, 3) := by decide +kernel
theorem dX7_bill_28 : decode cX7_bill 28 = .ok (.aload_n 0, 1) := by decide +kernel
theorem dX7_bill_29 : decode cX7_bill 29 = .ok (.getfield 56, 3) := by decide +kernel
theorem dX7_bill_32 : decode cX7_bill 32 = .ok (.iload_n 1, 1) := by decide +kernel
theorem dX7_bill_33 : decode cX7_bill 33 = .ok (.laload, 1) := by decide +kernel
theorem dX7_bill_34 : decode cX7_bill 34 = .ok (.lreturn, 1) := by decide +kernel
set_option maxRecDepth 20000 in
theorem ggX7_billByLog_X7_bill : GoodIn wsX7_billByLog wsX7_bill := goodIn_ca (goodIn_r _ [5, 6, 7, 8, 9, 10, 4, 11, 12, 13, 14, 15, 16, 17, 18, 19, 20, 21, 22, 23, 24, 25, 26, 27, 28, 29, 30, 31, 32, 33, 34, 35, 36, 37, 38, 39, 40, 41, 42] (by decide +kernel) (by decide +kernel)) (goodIn_sub (fun _ h => List.mem_cons_of_mem _ (List.mem_append_right _ h)) (by decide +kernel))
set_option maxRecDepth 20000 in
theorem gX7_billByLog_X7_bill : GoodIn wsX7_billByLog (wsV RX7 133 RX7 yX7_bill wsX7_bill) := goodIn_app (goodIn_of _ (by decide +kernel)) ggX7_billByLog_X7_bill
theorem dX7_billByLog_0 : decode cX7_billByLog 0 = .ok (.aload_n 0, 1) := by decide +kernel
theorem dX7_billByLog_1 : decode cX7_billByLog 1 = .ok (.iload_n 1, 1) := by decide +kernel
theorem dX7_billByLog_2 : decode cX7_billByLog 2 = .ok (.invokevirtual 133, 3) := by decide +kernel
theorem dX7_billByLog_5 : decode cX7_billByLog 5 = .ok (.lreturn, 1) := by decide +kernel
set_option maxRecDepth 20000 in
theorem ggX7_call_X7_isCaller : GoodIn wsX7_call wsX7_isCaller := goodIn_r _ [22, 23, 24, 25, 21, 26, 52, 53, 54, 55, 56, 57, 58, 59, 60, 61, 62, 63, 64, 65, 66, 67, 68, 69, 70, 71, 72, 73, 74, 75, 76, 77, 78] (by decide +kernel) (by decide +kernel)
set_option maxRecDepth 20000 in
theorem gX7_call_X7_isCaller : GoodIn wsX7_call (wsV RX7 130 RX7 yX7_isCaller wsX7_isCaller) := goodIn_app (goodIn_of _ (by decide +kernel)) ggX7_call_X7_isCaller
set_option maxRecDepth 20000 in
theorem ggX7_call_X7_isPath : GoodIn wsX7_call wsX7_isPath := goodIn_r _ [29, 24, 25, 21, 26] (by decide +kernel) (by decide +kernel)
set_option maxRecDepth 20000 in
theorem gX7_call_X7_isPath : GoodIn wsX7_call (va_wsS RX7 93 yX7_isPath wsX7_isPath) := goodIn_app (goodIn_of _ (by decide +kernel)) ggX7_call_X7_isPath
set_option maxRecDepth 20000 in
theorem ggX7_call_X7_in : GoodIn wsX7_call wsX7_in := goodIn_r _ [26] (by decide +kernel) (by decide +kernel)
set_option maxRecDepth 20000 in
theorem gX7_call_X7_in : GoodIn wsX7_call (va_wsS RX7 86 yX7_in wsX7_in) := goodIn_app (goodIn_of _ (by decide +kernel)) ggX7_call_X7_in
set_option maxRecDepth 20000 in
theorem ggX7_call_X7_goes : GoodIn wsX7_call wsX7_goes := goodIn_ca (goodIn_r _ [33, 34, 35, 36, 21, 37, 38, 39, 52, 53, 54, 55, 56, 57, 58, 59, 60, 61, 62, 63, 64, 65, 66, 67, 68, 69, 70, 71, 72, 73, 74, 75, 76, 77, 78] (by decide +kernel) (by decide +kernel)) (goodIn_sub (fun _ h => List.mem_cons_of_mem _ (List.mem_append_right _ h)) (by decide +kernel))
set_option maxRecDepth 20000 in
theorem gX7_call_X7_goes : GoodIn wsX7_call (wsV RX7 108 RX7 yX7_goes wsX7_goes) := goodIn_app (goodIn_of _ (by decide +kernel)) ggX7_call_X7_goes
set_option maxRecDepth 20000 in
theorem ggX7_call_X7_breaks : GoodIn wsX7_call wsX7_breaks := goodIn_ca (goodIn_r _ [43, 44, 45, 52, 53, 54, 55, 56, 57, 58, 59, 60, 61, 62, 63, 64, 65, 66, 67, 68, 69, 70, 71, 72, 73, 74, 75, 76, 77, 78] (by decide +kernel) (by decide +kernel)) (goodIn_sub (fun _ h => List.mem_cons_of_mem _ (List.mem_append_right _ h)) (by decide +kernel))
set_option maxRecDepth 20000 in
theorem gX7_call_X7_breaks : GoodIn wsX7_call (wsV RX7 117 RX7 yX7_breaks wsX7_breaks) := goodIn_app (goodIn_of _ (by decide +kernel)) ggX7_call_X7_breaks
set_option maxRecDepth 20000 in
theorem ggX7_call_X7_ends : GoodIn wsX7_call wsX7_ends := goodIn_ca (goodIn_r _ [49, 4, 8, 14, 7, 50, 13, 51, 2, 10, 15, 11, 52, 53, 54, 55, 56, 57, 58, 59, 60, 61, 62, 63, 64, 65, 66, 67, 68, 69, 70, 71, 72, 73, 74, 75, 76, 77, 78] (by decide +kernel) (by decide +kernel)) (goodIn_sub (fun _ h => List.mem_cons_of_mem _ (List.mem_append_right _ h)) (by decide +kernel))
set_option maxRecDepth 20000 in
theorem gX7_call_X7_ends : GoodIn wsX7_call (wsV RX7 123 RX7 yX7_ends wsX7_ends) := goodIn_app (goodIn_of _ (by decide +kernel)) ggX7_call_X7_ends
theorem dX7_call_0 : decode cX7_call 0 = .ok (.aload_n 0, 1) := by decide +kernel
theorem dX7_call_1 : decode cX7_call 1 = .ok (.aload_n 0, 1) := by decide +kernel
theorem dX7_call_2 : decode cX7_call 2 = .ok (.iload_n 1, 1) := by decide +kernel
theorem dX7_call_3 : decode cX7_call 3 = .ok (.invokevirtual 130, 3) := by decide +kernel
theorem dX7_call_6 : decode cX7_call 6 = .ok (.ifCond .ne 7, 3) := by decide +kernel
theorem dX7_call_9 : decode cX7_call 9 = .ok (.iconst 1, 1) := by decide +kernel
theorem dX7_call_10 : decode cX7_call 10 = .ok (.goto 25, 3) := by decide +kernel
theorem dX7_call_13 : decode cX7_call 13 = .ok (.iload_n 2, 1) := by decide +kernel
theorem dX7_call_14 : decode cX7_call 14 = .ok (.invokestatic 93, 3) := by decide +kernel
theorem dX7_call_17 : decode cX7_call 17 = .ok (.ifCond .eq 13, 3) := by decide +kernel
theorem dX7_call_20 : decode cX7_call 20 = .ok (.iload_n 3, 1) := by decide +kernel
theorem dX7_call_21 : decode cX7_call 21 = .ok (.iconst 0, 1) := by decide +kernel
theorem dX7_call_22 : decode cX7_call 22 = .ok (.bipush 99, 2) := by decide +kernel
theorem dX7_call_24 : decode cX7_call 24 = .ok (.invokestatic 86, 3) := by decide +kernel
theorem dX7_call_27 : decode cX7_call 27 = .ok (.ifCond .ne 7, 3) := by decide +kernel
theorem dX7_call_30 : decode cX7_call 30 = .ok (.iconst 2, 1) := by decide +kernel
theorem dX7_call_31 : decode cX7_call 31 = .ok (.goto 4, 3) := by decide +kernel
theorem dX7_call_34 : decode cX7_call 34 = .ok (.iconst 0, 1) := by decide +kernel
theorem dX7_call_35 : decode cX7_call 35 = .ok (.putfield 79, 3) := by decide +kernel
theorem dX7_call_38 : decode cX7_call 38 = .ok (.aload_n 0, 1) := by decide +kernel
theorem dX7_call_39 : decode cX7_call 39 = .ok (.getfield 79, 3) := by decide +kernel
theorem dX7_call_42 : decode cX7_call 42 = .ok (.ifCond .le 5, 3) := by decide +kernel
theorem dX7_call_45 : decode cX7_call 45 = .ok (.iconst 0, 1) := by decide +kernel
theorem dX7_call_46 : decode cX7_call 46 = .ok (.ireturn, 1) := by decide +kernel
theorem dX7_call_47 : decode cX7_call 47 = .ok (.aload_n 0, 1) := by decide +kernel
theorem dX7_call_48 : decode cX7_call 48 = .ok (.iload_n 2, 1) := by decide +kernel
theorem dX7_call_49 : decode cX7_call 49 = .ok (.invokevirtual 108, 3) := by decide +kernel
theorem dX7_call_52 : decode cX7_call 52 = .ok (.istore 4, 2) := by decide +kernel
theorem dX7_call_54 : decode cX7_call 54 = .ok (.bipush 110, 2) := by decide +kernel
theorem dX7_call_56 : decode cX7_call 56 = .ok (.istore 5, 2) := by decide +kernel
theorem dX7_call_58 : decode cX7_call 58 = .ok (.iload 4, 2) := by decide +kernel
theorem dX7_call_60 : decode cX7_call 60 = .ok (.iconst (-1), 1) := by decide +kernel
theorem dX7_call_61 : decode cX7_call 61 = .ok (.if_icmp .eq 75, 3) := by decide +kernel
theorem dX7_call_64 : decode cX7_call 64 = .ok (.aload_n 0, 1) := by decide +kernel
theorem dX7_call_65 : decode cX7_call 65 = .ok (.getfield 53, 3) := by decide +kernel
theorem dX7_call_68 : decode cX7_call 68 = .ok (.iload_n 1, 1) := by decide +kernel
theorem dX7_call_69 : decode cX7_call 69 = .ok (.iaload, 1) := by decide +kernel
theorem dX7_call_70 : decode cX7_call 70 = .ok (.aload_n 0, 1) := by decide +kernel
theorem dX7_call_71 : decode cX7_call 71 = .ok (.getfield 13, 3) := by decide +kernel
theorem dX7_call_74 : decode cX7_call 74 = .ok (.iload 4, 2) := by decide +kernel
theorem dX7_call_76 : decode cX7_call 76 = .ok (.iaload, 1) := by decide +kernel
theorem dX7_call_77 : decode cX7_call 77 = .ok (.if_icmp .ge 8, 3) := by decide +kernel
theorem dX7_call_80 : decode cX7_call 80 = .ok (.bipush 108, 2) := by decide +kernel
theorem dX7_call_82 : decode cX7_call 82 = .ok (.goto 52, 3) := by decide +kernel
theorem dX7_call_85 : decode cX7_call 85 = .ok (.aload_n 0, 1) := by decide +kernel
theorem dX7_call_86 : decode cX7_call 86 = .ok (.getfield 25, 3) := by decide +kernel
theorem dX7_call_89 : decode cX7_call 89 = .ok (.iload 4, 2) := by decide +kernel
theorem dX7_call_91 : decode cX7_call 91 = .ok (.baload, 1) := by decide +kernel
theorem dX7_call_92 : decode cX7_call 92 = .ok (.ifCond .eq 14, 3) := by decide +kernel
theorem dX7_call_95 : decode cX7_call 95 = .ok (.iload_n 3, 1) := by decide +kernel
theorem dX7_call_96 : decode cX7_call 96 = .ok (.aload_n 0, 1) := by decide +kernel
theorem dX7_call_97 : decode cX7_call 97 = .ok (.getfield 32, 3) := by decide +kernel
theorem dX7_call_100 : decode cX7_call 100 = .ok (.iload 4, 2) := by decide +kernel
theorem dX7_call_102 : decode cX7_call 102 = .ok (.iaload, 1) := by decide +kernel
theorem dX7_call_103 : decode cX7_call 103 = .ok (.if_icmp .lt 8, 3) := by decide +kernel
theorem dX7_call_106 : decode cX7_call 106 = .ok (.bipush 115, 2) := by decide +kernel
theorem dX7_call_108 : decode cX7_call 108 = .ok (.goto 26, 3) := by decide +kernel
theorem dX7_call_111 : decode cX7_call 111 = .ok (.aload_n 0, 1) := by decide +kernel
theorem dX7_call_112 : decode cX7_call 112 = .ok (.iload 4, 2) := by decide +kernel
theorem dX7_call_114 : decode cX7_call 114 = .ok (.aload_n 0, 1) := by decide +kernel
theorem dX7_call_115 : decode cX7_call 115 = .ok (.getfield 29, 3) := by decide +kernel
theorem dX7_call_118 : decode cX7_call 118 = .ok (.iload 4, 2) := by decide +kernel
theorem dX7_call_120 : decode cX7_call 120 = .ok (.iaload, 1) := by decide +kernel
theorem dX7_call_121 : decode cX7_call 121 = .ok (.invokevirtual 117, 3) := by decide +kernel
theorem dX7_call_124 : decode cX7_call 124 = .ok (.ifCond .eq 8, 3) := by decide +kernel
theorem dX7_call_127 : decode cX7_call 127 = .ok (.bipush 102, 2) := by decide +kernel
theorem dX7_call_129 : decode cX7_call 129 = .ok (.goto 5, 3) := by decide +kernel
theorem dX7_call_132 : decode cX7_call 132 = .ok (.bipush 99, 2) := by decide +kernel
theorem dX7_call_134 : decode cX7_call 134 = .ok (.istore 5, 2) := by decide +kernel
theorem dX7_call_136 : decode cX7_call 136 = .ok (.iload 5, 2) := by decide +kernel
theorem dX7_call_138 : decode cX7_call 138 = .ok (.bipush 115, 2) := by decide +kernel
theorem dX7_call_140 : decode cX7_call 140 = .ok (.if_icmp .eq 10, 3) := by decide +kernel
theorem dX7_call_143 : decode cX7_call 143 = .ok (.iload 5, 2) := by decide +kernel
theorem dX7_call_145 : decode cX7_call 145 = .ok (.bipush 99, 2) := by decide +kernel
theorem dX7_call_147 : decode cX7_call 147 = .ok (.if_icmp .ne 7, 3) := by decide +kernel
theorem dX7_call_150 : decode cX7_call 150 = .ok (.iconst 1, 1) := by decide +kernel
theorem dX7_call_151 : decode cX7_call 151 = .ok (.goto 4, 3) := by decide +kernel
theorem dX7_call_154 : decode cX7_call 154 = .ok (.iconst 0, 1) := by decide +kernel
theorem dX7_call_155 : decode cX7_call 155 = .ok (.istore 6, 2) := by decide +kernel
theorem dX7_call_157 : decode cX7_call 157 = .ok (.aload_n 0, 1) := by decide +kernel
theorem dX7_call_158 : decode cX7_call 158 = .ok (.getfield 60, 3) := by decide +kernel
theorem dX7_call_161 : decode cX7_call 161 = .ok (.aload_n 0, 1) := by decide +kernel
theorem dX7_call_162 : decode cX7_call 162 = .ok (.getfield 120, 3) := by decide +kernel
theorem dX7_call_165 : decode cX7_call 165 = .ok (.iload_n 1, 1) := by decide +kernel
theorem dX7_call_166 : decode cX7_call 166 = .ok (.iastore, 1) := by decide +kernel
theorem dX7_call_167 : decode cX7_call 167 = .ok (.aload_n 0, 1) := by decide +kernel
theorem dX7_call_168 : decode cX7_call 168 = .ok (.getfield 63, 3) := by decide +kernel
theorem dX7_call_171 : decode cX7_call 171 = .ok (.aload_n 0, 1) := by decide +kernel
theorem dX7_call_172 : decode cX7_call 172 = .ok (.getfield 120, 3) := by decide +kernel
theorem dX7_call_175 : decode cX7_call 175 = .ok (.iload 5, 2) := by decide +kernel
theorem dX7_call_177 : decode cX7_call 177 = .ok (.castore, 1) := by decide +kernel
theorem dX7_call_178 : decode cX7_call 178 = .ok (.aload_n 0, 1) := by decide +kernel
theorem dX7_call_179 : decode cX7_call 179 = .ok (.getfield 67, 3) := by decide +kernel
theorem dX7_call_182 : decode cX7_call 182 = .ok (.aload_n 0, 1) := by decide +kernel
theorem dX7_call_183 : decode cX7_call 183 = .ok (.getfield 120, 3) := by decide +kernel
theorem dX7_call_186 : decode cX7_call 186 = .ok (.iload 6, 2) := by decide +kernel
theorem dX7_call_188 : decode cX7_call 188 = .ok (.ifCond .eq 13, 3) := by decide +kernel
theorem dX7_call_191 : decode cX7_call 191 = .ok (.aload_n 0, 1) := by decide +kernel
theorem dX7_call_192 : decode cX7_call 192 = .ok (.getfield 13, 3) := by decide +kernel
theorem dX7_call_195 : decode cX7_call 195 = .ok (.iload 4, 2) := by decide +kernel
theorem dX7_call_197 : decode cX7_call 197 = .ok (.iaload, 1) := by decide +kernel
theorem dX7_call_198 : decode cX7_call 198 = .ok (.goto 4, 3) := by decide +kernel
theorem dX7_call_201 : decode cX7_call 201 = .ok (.iconst 0, 1) := by decide +kernel
theorem dX7_call_202 : decode cX7_call 202 = .ok (.iastore, 1) := by decide +kernel
theorem dX7_call_203 : decode cX7_call 203 = .ok (.aload_n 0, 1) := by decide +kernel
theorem dX7_call_204 : decode cX7_call 204 = .ok (.getfield 70, 3) := by decide +kernel
theorem dX7_call_207 : decode cX7_call 207 = .ok (.aload_n 0, 1) := by decide +kernel
theorem dX7_call_208 : decode cX7_call 208 = .ok (.getfield 120, 3) := by decide +kernel
theorem dX7_call_211 : decode cX7_call 211 = .ok (.iload 6, 2) := by decide +kernel
theorem dX7_call_213 : decode cX7_call 213 = .ok (.ifCond .eq 25, 3) := by decide +kernel
theorem dX7_call_216 : decode cX7_call 216 = .ok (.aload_n 0, 1) := by decide +kernel
theorem dX7_call_217 : decode cX7_call 217 = .ok (.getfield 13, 3) := by decide +kernel
theorem dX7_call_220 : decode cX7_call 220 = .ok (.iload 4, 2) := by decide +kernel
theorem dX7_call_222 : decode cX7_call 222 = .ok (.iaload, 1) := by decide +kernel
theorem dX7_call_223 : decode cX7_call 223 = .ok (.aload_n 0, 1) := by decide +kernel
theorem dX7_call_224 : decode cX7_call 224 = .ok (.getfield 47, 3) := by decide +kernel
theorem dX7_call_227 : decode cX7_call 227 = .ok (.aload_n 0, 1) := by decide +kernel
theorem dX7_call_228 : decode cX7_call 228 = .ok (.getfield 50, 3) := by decide +kernel
theorem dX7_call_231 : decode cX7_call 231 = .ok (.iload_n 1, 1) := by decide +kernel
theorem dX7_call_232 : decode cX7_call 232 = .ok (.iaload, 1) := by decide +kernel
theorem dX7_call_233 : decode cX7_call 233 = .ok (.iaload, 1) := by decide +kernel
theorem dX7_call_234 : decode cX7_call 234 = .ok (.imul, 1) := by decide +kernel
theorem dX7_call_235 : decode cX7_call 235 = .ok (.goto 4, 3) := by decide +kernel
theorem dX7_call_238 : decode cX7_call 238 = .ok (.iconst 0, 1) := by decide +kernel
theorem dX7_call_239 : decode cX7_call 239 = .ok (.iastore, 1) := by decide +kernel
theorem dX7_call_240 : decode cX7_call 240 = .ok (.aload_n 0, 1) := by decide +kernel
theorem dX7_call_241 : decode cX7_call 241 = .ok (.getfield 76, 3) := by decide +kernel
theorem dX7_call_244 : decode cX7_call 244 = .ok (.aload_n 0, 1) := by decide +kernel
theorem dX7_call_245 : decode cX7_call 245 = .ok (.getfield 120, 3) := by decide +kernel
theorem dX7_call_248 : decode cX7_call 248 = .ok (.iload 5, 2) := by decide +kernel
theorem dX7_call_250 : decode cX7_call 250 = .ok (.bipush 99, 2) := by decide +kernel
theorem dX7_call_252 : decode cX7_call 252 = .ok (.if_icmp .ne 8, 3) := by decide +kernel
theorem dX7_call_255 : decode cX7_call 255 = .ok (.iload 4, 2) := by decide +kernel
theorem dX7_call_257 : decode cX7_call 257 = .ok (.goto 4, 3) := by decide +kernel
theorem dX7_call_260 : decode cX7_call 260 = .ok (.iconst (-1), 1) := by decide +kernel
theorem dX7_call_261 : decode cX7_call 261 = .ok (.iastore, 1) := by decide +kernel
theorem dX7_call_262 : decode cX7_call 262 = .ok (.aload_n 0, 1) := by decide +kernel
theorem dX7_call_263 : decode cX7_call 263 = .ok (.getfield 53, 3) := by decide +kernel
theorem dX7_call_266 : decode cX7_call 266 = .ok (.iload_n 1, 1) := by decide +kernel
theorem dX7_call_267 : decode cX7_call 267 = .ok (.dup2, 1) := by decide +kernel
theorem dX7_call_268 : decode cX7_call 268 = .ok (.iaload, 1) := by decide +kernel
theorem dX7_call_269 : decode cX7_call 269 = .ok (.aload_n 0, 1) := by decide +kernel
theorem dX7_call_270 : decode cX7_call 270 = .ok (.getfield 67, 3) := by decide +kernel
theorem dX7_call_273 : decode cX7_call 273 = .ok (.aload_n 0, 1) := by decide +kernel
theorem dX7_call_274 : decode cX7_call 274 = .ok (.getfield 120, 3) := by decide +kernel
theorem dX7_call_277 : decode cX7_call 277 = .ok (.iaload, 1) := by decide +kernel
theorem dX7_call_278 : decode cX7_call 278 = .ok (.isub, 1) := by decide +kernel
theorem dX7_call_279 : decode cX7_call 279 = .ok (.iastore, 1) := by decide +kernel
theorem dX7_call_280 : decode cX7_call 280 = .ok (.aload_n 0, 1) := by decide +kernel
theorem dX7_call_281 : decode cX7_call 281 = .ok (.getfield 56, 3) := by decide +kernel
theorem dX7_call_284 : decode cX7_call 284 = .ok (.iload_n 1, 1) := by decide +kernel
theorem dX7_call_285 : decode cX7_call 285 = .ok (.dup2, 1) := by decide +kernel
theorem dX7_call_286 : decode cX7_call 286 = .ok (.laload, 1) := by decide +kernel
theorem dX7_call_287 : decode cX7_call 287 = .ok (.aload_n 0, 1) := by decide +kernel
theorem dX7_call_288 : decode cX7_call 288 = .ok (.getfield 70, 3) := by decide +kernel
theorem dX7_call_291 : decode cX7_call 291 = .ok (.aload_n 0, 1) := by decide +kernel
theorem dX7_call_292 : decode cX7_call 292 = .ok (.getfield 120, 3) := by decide +kernel
theorem dX7_call_295 : decode cX7_call 295 = .ok (.iaload, 1) := by decide +kernel
theorem dX7_call_296 : decode cX7_call 296 = .ok (.i2l, 1) := by decide +kernel
theorem dX7_call_297 : decode cX7_call 297 = .ok (.ladd, 1) := by decide +kernel
theorem dX7_call_298 : decode cX7_call 298 = .ok (.lastore, 1) := by decide +kernel
theorem dX7_call_299 : decode cX7_call 299 = .ok (.aload_n 0, 1) := by decide +kernel
theorem dX7_call_300 : decode cX7_call 300 = .ok (.dup, 1) := by decide +kernel
theorem dX7_call_301 : decode cX7_call 301 = .ok (.getfield 120, 3) := by decide +kernel
theorem dX7_call_304 : decode cX7_call 304 = .ok (.iconst 1, 1) := by decide +kernel
theorem dX7_call_305 : decode cX7_call 305 = .ok (.iadd, 1) := by decide +kernel
theorem dX7_call_306 : decode cX7_call 306 = .ok (.putfield 120, 3) := by decide +kernel
theorem dX7_call_309 : decode cX7_call 309 = .ok (.iload 5, 2) := by decide +kernel
theorem dX7_call_311 : decode cX7_call 311 = .ok (.bipush 102, 2) := by decide +kernel
theorem dX7_call_313 : decode cX7_call 313 = .ok (.if_icmp .ne 44, 3) := by decide +kernel
theorem dX7_call_316 : decode cX7_call 316 = .ok (.aload_n 0, 1) := by decide +kernel
theorem dX7_call_317 : decode cX7_call 317 = .ok (.getfield 38, 3) := by decide +kernel
theorem dX7_call_320 : decode cX7_call 320 = .ok (.iload 4, 2) := by decide +kernel
theorem dX7_call_322 : decode cX7_call 322 = .ok (.dup2, 1) := by decide +kernel
theorem dX7_call_323 : decode cX7_call 323 = .ok (.iaload, 1) := by decide +kernel
theorem dX7_call_324 : decode cX7_call 324 = .ok (.iconst 1, 1) := by decide +kernel
theorem dX7_call_325 : decode cX7_call 325 = .ok (.iadd, 1) := by decide +kernel
theorem dX7_call_326 : decode cX7_call 326 = .ok (.iastore, 1) := by decide +kernel
theorem dX7_call_327 : decode cX7_call 327 = .ok (.aload_n 0, 1) := by decide +kernel
theorem dX7_call_328 : decode cX7_call 328 = .ok (.getfield 38, 3) := by decide +kernel
theorem dX7_call_331 : decode cX7_call 331 = .ok (.iload 4, 2) := by decide +kernel
theorem dX7_call_333 : decode cX7_call 333 = .ok (.iaload, 1) := by decide +kernel
theorem dX7_call_334 : decode cX7_call 334 = .ok (.aload_n 0, 1) := by decide +kernel
theorem dX7_call_335 : decode cX7_call 335 = .ok (.getfield 35, 3) := by decide +kernel
theorem dX7_call_338 : decode cX7_call 338 = .ok (.iload 4, 2) := by decide +kernel
theorem dX7_call_340 : decode cX7_call 340 = .ok (.iaload, 1) := by decide +kernel
theorem dX7_call_341 : decode cX7_call 341 = .ok (.if_icmp .ne 13, 3) := by decide +kernel
theorem dX7_call_344 : decode cX7_call 344 = .ok (.aload_n 0, 1) := by decide +kernel
theorem dX7_call_345 : decode cX7_call 345 = .ok (.iload 4, 2) := by decide +kernel
theorem dX7_call_347 : decode cX7_call 347 = .ok (.iconst 1, 1) := by decide +kernel
theorem dX7_call_348 : decode cX7_call 348 = .ok (.invokevirtual 123, 3) := by decide +kernel
theorem dX7_call_351 : decode cX7_call 351 = .ok (.goto 4, 3) := by decide +kernel
theorem dX7_call_354 : decode cX7_call 354 = .ok (.iconst 0, 1) := by decide +kernel
theorem dX7_call_355 : decode cX7_call 355 = .ok (.istore 7, 2) := by decide +kernel
theorem dX7_call_357 : decode cX7_call 357 = .ok (.iload 5, 2) := by decide +kernel
theorem dX7_call_359 : decode cX7_call 359 = .ok (.ireturn, 1) := by decide +kernel
set_option maxRecDepth 20000 in
theorem ggX7_pass_X7_in : GoodIn wsX7_pass wsX7_in := goodIn_r _ [10] (by decide +kernel) (by decide +kernel)
set_option maxRecDepth 20000 in
theorem gX7_pass_X7_in : GoodIn wsX7_pass (va_wsS RX7 86 yX7_in wsX7_in) := goodIn_app (goodIn_of _ (by decide +kernel)) ggX7_pass_X7_in
set_option maxRecDepth 20000 in
theorem ggX7_pass_X7_fails : GoodIn wsX7_pass wsX7_fails := goodIn_r _ [14, 1, 15, 16, 17, 18, 19, 20, 21, 22, 23, 24, 25, 26, 27, 28, 29, 30, 31, 32, 33, 34, 35, 36, 37, 38, 39, 40, 41] (by decide +kernel) (by decide +kernel)
set_option maxRecDepth 20000 in
theorem gX7_pass_X7_fails : GoodIn wsX7_pass (wsV RX7 105 RX7 yX7_fails wsX7_fails) := goodIn_app (goodIn_of _ (by decide +kernel)) ggX7_pass_X7_fails
theorem dX7_pass_0 : decode cX7_pass 0 = .ok (.aload_n 0, 1) := by decide +kernel
theorem dX7_pass_1 : decode cX7_pass 1 = .ok (.iconst 0, 1) := by decide +kernel
theorem dX7_pass_2 : decode cX7_pass 2 = .ok (.putfield 79, 3) := by decide +kernel
theorem dX7_pass_5 : decode cX7_pass 5 = .ok (.iload_n 1, 1) := by decide +kernel
theorem dX7_pass_6 : decode cX7_pass 6 = .ok (.iconst 1, 1) := by decide +kernel
theorem dX7_pass_7 : decode cX7_pass 7 = .ok (.bipush 100, 2) := by decide +kernel
theorem dX7_pass_9 : decode cX7_pass 9 = .ok (.invokestatic 86, 3) := by decide +kernel
theorem dX7_pass_12 : decode cX7_pass 12 = .ok (.ifCond .ne 9, 3) := by decide +kernel
theorem dX7_pass_15 : decode cX7_pass 15 = .ok (.aload_n 0, 1) := by decide +kernel
theorem dX7_pass_16 : decode cX7_pass 16 = .ok (.iconst 1, 1) := by decide +kernel
theorem dX7_pass_17 : decode cX7_pass 17 = .ok (.invokevirtual 105, 3) := by decide +kernel
theorem dX7_pass_20 : decode cX7_pass 20 = .ok (.ireturn, 1) := by decide +kernel
theorem dX7_pass_21 : decode cX7_pass 21 = .ok (.iconst 0, 1) := by decide +kernel
theorem dX7_pass_22 : decode cX7_pass 22 = .ok (.istore_n 2, 1) := by decide +kernel
theorem dX7_pass_23 : decode cX7_pass 23 = .ok (.iconst 0, 1) := by decide +kernel
theorem dX7_pass_24 : decode cX7_pass 24 = .ok (.istore_n 3, 1) := by decide +kernel
theorem dX7_pass_25 : decode cX7_pass 25 = .ok (.iload_n 3, 1) := by decide +kernel
theorem dX7_pass_26 : decode cX7_pass 26 = .ok (.aload_n 0, 1) := by decide +kernel
theorem dX7_pass_27 : decode cX7_pass 27 = .ok (.getfield 90, 3) := by decide +kernel
theorem dX7_pass_30 : decode cX7_pass 30 = .ok (.if_icmp .ge 76, 3) := by decide +kernel
theorem dX7_pass_33 : decode cX7_pass 33 = .ok (.aload_n 0, 1) := by decide +kernel
theorem dX7_pass_34 : decode cX7_pass 34 = .ok (.getfield 44, 3) := by decide +kernel
theorem dX7_pass_37 : decode cX7_pass 37 = .ok (.aload_n 0, 1) := by decide +kernel
theorem dX7_pass_38 : decode cX7_pass 38 = .ok (.getfield 50, 3) := by decide +kernel
theorem dX7_pass_41 : decode cX7_pass 41 = .ok (.iload_n 3, 1) := by decide +kernel
theorem dX7_pass_42 : decode cX7_pass 42 = .ok (.iaload, 1) := by decide +kernel
theorem dX7_pass_43 : decode cX7_pass 43 = .ok (.iaload, 1) := by decide +kernel
theorem dX7_pass_44 : decode cX7_pass 44 = .ok (.aload_n 0, 1) := by decide +kernel
theorem dX7_pass_45 : decode cX7_pass 45 = .ok (.getfield 53, 3) := by decide +kernel
theorem dX7_pass_48 : decode cX7_pass 48 = .ok (.iload_n 3, 1) := by decide +kernel
theorem dX7_pass_49 : decode cX7_pass 49 = .ok (.iaload, 1) := by decide +kernel
theorem dX7_pass_50 : decode cX7_pass 50 = .ok (.isub, 1) := by decide +kernel
theorem dX7_pass_51 : decode cX7_pass 51 = .ok (.istore 4, 2) := by decide +kernel
theorem dX7_pass_53 : decode cX7_pass 53 = .ok (.aload_n 0, 1) := by decide +kernel
theorem dX7_pass_54 : decode cX7_pass 54 = .ok (.getfield 41, 3) := by decide +kernel
theorem dX7_pass_57 : decode cX7_pass 57 = .ok (.aload_n 0, 1) := by decide +kernel
theorem dX7_pass_58 : decode cX7_pass 58 = .ok (.getfield 50, 3) := by decide +kernel
theorem dX7_pass_61 : decode cX7_pass 61 = .ok (.iload_n 3, 1) := by decide +kernel
theorem dX7_pass_62 : decode cX7_pass 62 = .ok (.iaload, 1) := by decide +kernel
theorem dX7_pass_63 : decode cX7_pass 63 = .ok (.iaload, 1) := by decide +kernel
theorem dX7_pass_64 : decode cX7_pass 64 = .ok (.iload_n 1, 1) := by decide +kernel
theorem dX7_pass_65 : decode cX7_pass 65 = .ok (.imul, 1) := by decide +kernel
theorem dX7_pass_66 : decode cX7_pass 66 = .ok (.istore 5, 2) := by decide +kernel
theorem dX7_pass_68 : decode cX7_pass 68 = .ok (.iload 5, 2) := by decide +kernel
theorem dX7_pass_70 : decode cX7_pass 70 = .ok (.iload 4, 2) := by decide +kernel
theorem dX7_pass_72 : decode cX7_pass 72 = .ok (.if_icmp .ge 8, 3) := by decide +kernel
theorem dX7_pass_75 : decode cX7_pass 75 = .ok (.iload 5, 2) := by decide +kernel
theorem dX7_pass_77 : decode cX7_pass 77 = .ok (.goto 5, 3) := by decide +kernel
theorem dX7_pass_80 : decode cX7_pass 80 = .ok (.iload 4, 2) := by decide +kernel
theorem dX7_pass_82 : decode cX7_pass 82 = .ok (.istore 5, 2) := by decide +kernel
theorem dX7_pass_84 : decode cX7_pass 84 = .ok (.aload_n 0, 1) := by decide +kernel
theorem dX7_pass_85 : decode cX7_pass 85 = .ok (.getfield 53, 3) := by decide +kernel
theorem dX7_pass_88 : decode cX7_pass 88 = .ok (.iload_n 3, 1) := by decide +kernel
theorem dX7_pass_89 : decode cX7_pass 89 = .ok (.dup2, 1) := by decide +kernel
theorem dX7_pass_90 : decode cX7_pass 90 = .ok (.iaload, 1) := by decide +kernel
theorem dX7_pass_91 : decode cX7_pass 91 = .ok (.iload 5, 2) := by decide +kernel
theorem dX7_pass_93 : decode cX7_pass 93 = .ok (.iadd, 1) := by decide +kernel
theorem dX7_pass_94 : decode cX7_pass 94 = .ok (.iastore, 1) := by decide +kernel
theorem dX7_pass_95 : decode cX7_pass 95 = .ok (.iload_n 2, 1) := by decide +kernel
theorem dX7_pass_96 : decode cX7_pass 96 = .ok (.iload 5, 2) := by decide +kernel
theorem dX7_pass_98 : decode cX7_pass 98 = .ok (.iadd, 1) := by decide +kernel
theorem dX7_pass_99 : decode cX7_pass 99 = .ok (.istore_n 2, 1) := by decide +kernel
theorem dX7_pass_100 : decode cX7_pass 100 = .ok (.iinc 3 1, 3) := by decide +kernel
theorem dX7_pass_103 : decode cX7_pass 103 = .ok (.goto (-78), 3) := by decide +kernel
theorem dX7_pass_106 : decode cX7_pass 106 = .ok (.iload_n 2, 1) := by decide +kernel
theorem dX7_pass_107 : decode cX7_pass 107 = .ok (.ireturn, 1) := by decide +kernel
theorem dX7_calls_0 : decode cX7_calls 0 = .ok (.aload_n 0, 1) := by decide +kernel
theorem dX7_calls_1 : decode cX7_calls 1 = .ok (.iconst 0, 1) := by decide +kernel
theorem dX7_calls_2 : decode cX7_calls 2 = .ok (.putfield 79, 3) := by decide +kernel
theorem dX7_calls_5 : decode cX7_calls 5 = .ok (.aload_n 0, 1) := by decide +kernel
theorem dX7_calls_6 : decode cX7_calls 6 = .ok (.getfield 120, 3) := by decide +kernel
theorem dX7_calls_9 : decode cX7_calls 9 = .ok (.ireturn, 1) := by decide +kernel
set_option maxRecDepth 20000 in
theorem ggX7_count_X7_isCaller : GoodIn wsX7_count wsX7_isCaller := goodIn_r _ [9, 10, 11, 12, 8, 13, 18, 19, 20, 21, 22, 23, 24, 25, 26, 27, 28, 29, 30, 31, 32, 33, 34, 35, 36, 37, 38, 39, 40, 41, 42, 43, 44] (by decide +kernel) (by decide +kernel)
set_option maxRecDepth 20000 in
theorem gX7_count_X7_isCaller : GoodIn wsX7_count (wsV RX7 130 RX7 yX7_isCaller wsX7_isCaller) := goodIn_app (goodIn_of _ (by decide +kernel)) ggX7_count_X7_isCaller
set_option maxRecDepth 20000 in
theorem ggX7_count_X7_fails : GoodIn wsX7_count wsX7_fails := goodIn_r _ [17, 1, 18, 19, 20, 21, 22, 23, 24, 25, 26, 27, 28, 29, 30, 31, 32, 33, 34, 35, 36, 37, 38, 39, 40, 41, 42, 43, 44] (by decide +kernel) (by decide +kernel)
set_option maxRecDepth 20000 in
theorem gX7_count_X7_fails : GoodIn wsX7_count (wsV RX7 105 RX7 yX7_fails wsX7_fails) := goodIn_app (goodIn_of _ (by decide +kernel)) ggX7_count_X7_fails
theorem dX7_count_0 : decode cX7_count 0 = .ok (.aload_n 0, 1) := by decide +kernel
theorem dX7_count_1 : decode cX7_count 1 = .ok (.iconst 0, 1) := by decide +kernel
theorem dX7_count_2 : decode cX7_count 2 = .ok (.putfield 79, 3) := by decide +kernel
theorem dX7_count_5 : decode cX7_count 5 = .ok (.aload_n 0, 1) := by decide +kernel
theorem dX7_count_6 : decode cX7_count 6 = .ok (.iload_n 1, 1) := by decide +kernel
theorem dX7_count_7 : decode cX7_count 7 = .ok (.invokevirtual 130, 3) := by decide +kernel
theorem dX7_count_10 : decode cX7_count 10 = .ok (.ifCond .ne 9, 3) := by decide +kernel
theorem dX7_count_13 : decode cX7_count 13 = .ok (.aload_n 0, 1) := by decide +kernel
theorem dX7_count_14 : decode cX7_count 14 = .ok (.iconst 1, 1) := by decide +kernel
theorem dX7_count_15 : decode cX7_count 15 = .ok (.invokevirtual 105, 3) := by decide +kernel
theorem dX7_count_18 : decode cX7_count 18 = .ok (.ireturn, 1) := by decide +kernel
theorem dX7_count_19 : decode cX7_count 19 = .ok (.iload_n 2, 1) := by decide +kernel
theorem dX7_count_20 : decode cX7_count 20 = .ok (.bipush 110, 2) := by decide +kernel
theorem dX7_count_22 : decode cX7_count 22 = .ok (.if_icmp .eq 33, 3) := by decide +kernel
theorem dX7_count_25 : decode cX7_count 25 = .ok (.iload_n 2, 1) := by decide +kernel
theorem dX7_count_26 : decode cX7_count 26 = .ok (.bipush 108, 2) := by decide +kernel
theorem dX7_count_28 : decode cX7_count 28 = .ok (.if_icmp .eq 27, 3) := by decide +kernel
theorem dX7_count_31 : decode cX7_count 31 = .ok (.iload_n 2, 1) := by decide +kernel
theorem dX7_count_32 : decode cX7_count 32 = .ok (.bipush 115, 2) := by decide +kernel
theorem dX7_count_34 : decode cX7_count 34 = .ok (.if_icmp .eq 21, 3) := by decide +kernel
theorem dX7_count_37 : decode cX7_count 37 = .ok (.iload_n 2, 1) := by decide +kernel
theorem dX7_count_38 : decode cX7_count 38 = .ok (.bipush 99, 2) := by decide +kernel
theorem dX7_count_40 : decode cX7_count 40 = .ok (.if_icmp .eq 15, 3) := by decide +kernel
theorem dX7_count_43 : decode cX7_count 43 = .ok (.iload_n 2, 1) := by decide +kernel
theorem dX7_count_44 : decode cX7_count 44 = .ok (.bipush 102, 2) := by decide +kernel
theorem dX7_count_46 : decode cX7_count 46 = .ok (.if_icmp .eq 9, 3) := by decide +kernel
theorem dX7_count_49 : decode cX7_count 49 = .ok (.aload_n 0, 1) := by decide +kernel
theorem dX7_count_50 : decode cX7_count 50 = .ok (.iconst 2, 1) := by decide +kernel
theorem dX7_count_51 : decode cX7_count 51 = .ok (.invokevirtual 105, 3) := by decide +kernel
theorem dX7_count_54 : decode cX7_count 54 = .ok (.ireturn, 1) := by decide +kernel
theorem dX7_count_55 : decode cX7_count 55 = .ok (.iconst 0, 1) := by decide +kernel
theorem dX7_count_56 : decode cX7_count 56 = .ok (.istore_n 3, 1) := by decide +kernel
theorem dX7_count_57 : decode cX7_count 57 = .ok (.iconst 0, 1) := by decide +kernel
theorem dX7_count_58 : decode cX7_count 58 = .ok (.istore 4, 2) := by decide +kernel
theorem dX7_count_60 : decode cX7_count 60 = .ok (.iload 4, 2) := by decide +kernel
theorem dX7_count_62 : decode cX7_count 62 = .ok (.aload_n 0, 1) := by decide +kernel
theorem dX7_count_63 : decode cX7_count 63 = .ok (.getfield 120, 3) := by decide +kernel
theorem dX7_count_66 : decode cX7_count 66 = .ok (.if_icmp .ge 39, 3) := by decide +kernel
theorem dX7_count_69 : decode cX7_count 69 = .ok (.iload_n 3, 1) := by decide +kernel
theorem dX7_count_70 : decode cX7_count 70 = .ok (.aload_n 0, 1) := by decide +kernel
theorem dX7_count_71 : decode cX7_count 71 = .ok (.getfield 60, 3) := by decide +kernel
theorem dX7_count_74 : decode cX7_count 74 = .ok (.iload 4, 2) := by decide +kernel
theorem dX7_count_76 : decode cX7_count 76 = .ok (.iaload, 1) := by decide +kernel
theorem dX7_count_77 : decode cX7_count 77 = .ok (.iload_n 1, 1) := by decide +kernel
theorem dX7_count_78 : decode cX7_count 78 = .ok (.if_icmp .ne 18, 3) := by decide +kernel
theorem dX7_count_81 : decode cX7_count 81 = .ok (.aload_n 0, 1) := by decide +kernel
theorem dX7_count_82 : decode cX7_count 82 = .ok (.getfield 63, 3) := by decide +kernel
theorem dX7_count_85 : decode cX7_count 85 = .ok (.iload 4, 2) := by decide +kernel
theorem dX7_count_87 : decode cX7_count 87 = .ok (.caload, 1) := by decide +kernel
theorem dX7_count_88 : decode cX7_count 88 = .ok (.iload_n 2, 1) := by decide +kernel
theorem dX7_count_89 : decode cX7_count 89 = .ok (.if_icmp .ne 7, 3) := by decide +kernel
theorem dX7_count_92 : decode cX7_count 92 = .ok (.iconst 1, 1) := by decide +kernel
theorem dX7_count_93 : decode cX7_count 93 = .ok (.goto 4, 3) := by decide +kernel
theorem dX7_count_96 : decode cX7_count 96 = .ok (.iconst 0, 1) := by decide +kernel
theorem dX7_count_97 : decode cX7_count 97 = .ok (.iadd, 1) := by decide +kernel
theorem dX7_count_98 : decode cX7_count 98 = .ok (.istore_n 3, 1) := by decide +kernel
theorem dX7_count_99 : decode cX7_count 99 = .ok (.iinc 4 1, 3) := by decide +kernel
theorem dX7_count_102 : decode cX7_count 102 = .ok (.goto (-42), 3) := by decide +kernel
theorem dX7_count_105 : decode cX7_count 105 = .ok (.iload_n 3, 1) := by decide +kernel
theorem dX7_count_106 : decode cX7_count 106 = .ok (.ireturn, 1) := by decide +kernel
set_option maxRecDepth 20000 in
theorem ggX7_isUndone_X7_in : GoodIn wsX7_isUndone wsX7_in := goodIn_r _ [7] (by decide +kernel) (by decide +kernel)
set_option maxRecDepth 20000 in
theorem gX7_isUndone_X7_in : GoodIn wsX7_isUndone (va_wsS RX7 86 yX7_in wsX7_in) := goodIn_app (goodIn_of _ (by decide +kernel)) ggX7_isUndone_X7_in
theorem dX7_isUndone_0 : decode cX7_isUndone 0 = .ok (.aload_n 0, 1) := by decide +kernel
theorem dX7_isUndone_1 : decode cX7_isUndone 1 = .ok (.iload_n 1, 1) := by decide +kernel
theorem dX7_isUndone_2 : decode cX7_isUndone 2 = .ok (.iconst 0, 1) := by decide +kernel
theorem dX7_isUndone_3 : decode cX7_isUndone 3 = .ok (.aload_n 0, 1) := by decide +kernel
theorem dX7_isUndone_4 : decode cX7_isUndone 4 = .ok (.getfield 120, 3) := by decide +kernel
theorem dX7_isUndone_7 : decode cX7_isUndone 7 = .ok (.iconst 1, 1) := by decide +kernel
theorem dX7_isUndone_8 : decode cX7_isUndone 8 = .ok (.isub, 1) := by decide +kernel
theorem dX7_isUndone_9 : decode cX7_isUndone 9 = .ok (.invokestatic 86, 3) := by decide +kernel
theorem dX7_isUndone_12 : decode cX7_isUndone 12 = .ok (.ifCond .eq 7, 3) := by decide +kernel
theorem dX7_isUndone_15 : decode cX7_isUndone 15 = .ok (.iconst 0, 1) := by decide +kernel
theorem dX7_isUndone_16 : decode cX7_isUndone 16 = .ok (.goto 4, 3) := by decide +kernel
theorem dX7_isUndone_19 : decode cX7_isUndone 19 = .ok (.iconst 1, 1) := by decide +kernel
theorem dX7_isUndone_20 : decode cX7_isUndone 20 = .ok (.putfield 79, 3) := by decide +kernel
theorem dX7_isUndone_23 : decode cX7_isUndone 23 = .ok (.aload_n 0, 1) := by decide +kernel
theorem dX7_isUndone_24 : decode cX7_isUndone 24 = .ok (.getfield 79, 3) := by decide +kernel
theorem dX7_isUndone_27 : decode cX7_isUndone 27 = .ok (.ifCond .ne 16, 3) := by decide +kernel
theorem dX7_isUndone_30 : decode cX7_isUndone 30 = .ok (.aload_n 0, 1) := by decide +kernel
theorem dX7_isUndone_31 : decode cX7_isUndone 31 = .ok (.getfield 73, 3) := by decide +kernel
theorem dX7_isUndone_34 : decode cX7_isUndone 34 = .ok (.iload_n 1, 1) := by decide +kernel
theorem dX7_isUndone_35 : decode cX7_isUndone 35 = .ok (.baload, 1) := by decide +kernel
theorem dX7_isUndone_36 : decode cX7_isUndone 36 = .ok (.ifCond .eq 7, 3) := by decide +kernel
theorem dX7_isUndone_39 : decode cX7_isUndone 39 = .ok (.iconst 1, 1) := by decide +kernel
theorem dX7_isUndone_40 : decode cX7_isUndone 40 = .ok (.goto 4, 3) := by decide +kernel
theorem dX7_isUndone_43 : decode cX7_isUndone 43 = .ok (.iconst 0, 1) := by decide +kernel
theorem dX7_isUndone_44 : decode cX7_isUndone 44 = .ok (.ireturn, 1) := by decide +kernel
set_option maxRecDepth 20000 in
theorem ggX7_greatest_X7_fails : GoodIn wsX7_greatest wsX7_fails := goodIn_r _ [8, 1, 9, 10, 11, 12, 13, 14, 15, 16, 17, 18, 19, 20, 21, 22, 23, 24, 25, 26, 27, 28, 29, 30, 31, 32, 33, 34, 35] (by decide +kernel) (by decide +kernel)
set_option maxRecDepth 20000 in
theorem gX7_greatest_X7_fails : GoodIn wsX7_greatest (wsV RX7 105 RX7 yX7_fails wsX7_fails) := goodIn_app (goodIn_of _ (by decide +kernel)) ggX7_greatest_X7_fails
theorem dX7_greatest_0 : decode cX7_greatest 0 = .ok (.aload_n 0, 1) := by decide +kernel
theorem dX7_greatest_1 : decode cX7_greatest 1 = .ok (.iconst 0, 1) := by decide +kernel
theorem dX7_greatest_2 : decode cX7_greatest 2 = .ok (.putfield 79, 3) := by decide +kernel
theorem dX7_greatest_5 : decode cX7_greatest 5 = .ok (.aload_n 0, 1) := by decide +kernel
theorem dX7_greatest_6 : decode cX7_greatest 6 = .ok (.getfield 90, 3) := by decide +kernel
theorem dX7_greatest_9 : decode cX7_greatest 9 = .ok (.ifCond .ne 9, 3) := by decide +kernel
theorem dX7_greatest_12 : decode cX7_greatest 12 = .ok (.aload_n 0, 1) := by decide +kernel
theorem dX7_greatest_13 : decode cX7_greatest 13 = .ok (.iconst 1, 1) := by decide +kernel
theorem dX7_greatest_14 : decode cX7_greatest 14 = .ok (.invokevirtual 105, 3) := by decide +kernel
theorem dX7_greatest_17 : decode cX7_greatest 17 = .ok (.ireturn, 1) := by decide +kernel
theorem dX7_greatest_18 : decode cX7_greatest 18 = .ok (.iconst 0, 1) := by decide +kernel
theorem dX7_greatest_19 : decode cX7_greatest 19 = .ok (.istore_n 1, 1) := by decide +kernel
theorem dX7_greatest_20 : decode cX7_greatest 20 = .ok (.iconst 1, 1) := by decide +kernel
theorem dX7_greatest_21 : decode cX7_greatest 21 = .ok (.istore_n 2, 1) := by decide +kernel
theorem dX7_greatest_22 : decode cX7_greatest 22 = .ok (.iload_n 2, 1) := by decide +kernel
theorem dX7_greatest_23 : decode cX7_greatest 23 = .ok (.aload_n 0, 1) := by decide +kernel
theorem dX7_greatest_24 : decode cX7_greatest 24 = .ok (.getfield 90, 3) := by decide +kernel
theorem dX7_greatest_27 : decode cX7_greatest 27 = .ok (.if_icmp .ge 31, 3) := by decide +kernel
theorem dX7_greatest_30 : decode cX7_greatest 30 = .ok (.aload_n 0, 1) := by decide +kernel
theorem dX7_greatest_31 : decode cX7_greatest 31 = .ok (.getfield 56, 3) := by decide +kernel
theorem dX7_greatest_34 : decode cX7_greatest 34 = .ok (.iload_n 2, 1) := by decide +kernel
theorem dX7_greatest_35 : decode cX7_greatest 35 = .ok (.laload, 1) := by decide +kernel
theorem dX7_greatest_36 : decode cX7_greatest 36 = .ok (.aload_n 0, 1) := by decide +kernel
theorem dX7_greatest_37 : decode cX7_greatest 37 = .ok (.getfield 56, 3) := by decide +kernel
theorem dX7_greatest_40 : decode cX7_greatest 40 = .ok (.iload_n 1, 1) := by decide +kernel
theorem dX7_greatest_41 : decode cX7_greatest 41 = .ok (.laload, 1) := by decide +kernel
theorem dX7_greatest_42 : decode cX7_greatest 42 = .ok (.lcmp, 1) := by decide +kernel
theorem dX7_greatest_43 : decode cX7_greatest 43 = .ok (.ifCond .le 7, 3) := by decide +kernel
theorem dX7_greatest_46 : decode cX7_greatest 46 = .ok (.iload_n 2, 1) := by decide +kernel
theorem dX7_greatest_47 : decode cX7_greatest 47 = .ok (.goto 4, 3) := by decide +kernel
theorem dX7_greatest_50 : decode cX7_greatest 50 = .ok (.iload_n 1, 1) := by decide +kernel
theorem dX7_greatest_51 : decode cX7_greatest 51 = .ok (.istore_n 1, 1) := by decide +kernel
theorem dX7_greatest_52 : decode cX7_greatest 52 = .ok (.iinc 2 1, 3) := by decide +kernel
theorem dX7_greatest_55 : decode cX7_greatest 55 = .ok (.goto (-33), 3) := by decide +kernel
theorem dX7_greatest_58 : decode cX7_greatest 58 = .ok (.iload_n 1, 1) := by decide +kernel
theorem dX7_greatest_59 : decode cX7_greatest 59 = .ok (.ireturn, 1) := by decide +kernel
theorem dX7_canaryShare_0 : decode cX7_canaryShare 0 = .ok (.aload_n 0, 1) := by decide +kernel
theorem dX7_canaryShare_1 : decode cX7_canaryShare 1 = .ok (.aload_n 0, 1) := by decide +kernel
theorem dX7_canaryShare_2 : decode cX7_canaryShare 2 = .ok (.getfield 120, 3) := by decide +kernel
theorem dX7_canaryShare_5 : decode cX7_canaryShare 5 = .ok (.ifCond .ne 7, 3) := by decide +kernel
theorem dX7_canaryShare_8 : decode cX7_canaryShare 8 = .ok (.iconst 1, 1) := by decide +kernel
theorem dX7_canaryShare_9 : decode cX7_canaryShare 9 = .ok (.goto 4, 3) := by decide +kernel
theorem dX7_canaryShare_12 : decode cX7_canaryShare 12 = .ok (.iconst 0, 1) := by decide +kernel
theorem dX7_canaryShare_13 : decode cX7_canaryShare 13 = .ok (.putfield 79, 3) := by decide +kernel
theorem dX7_canaryShare_16 : decode cX7_canaryShare 16 = .ok (.iconst 0, 1) := by decide +kernel
theorem dX7_canaryShare_17 : decode cX7_canaryShare 17 = .ok (.istore_n 1, 1) := by decide +kernel
theorem dX7_canaryShare_18 : decode cX7_canaryShare 18 = .ok (.iconst 0, 1) := by decide +kernel
theorem dX7_canaryShare_19 : decode cX7_canaryShare 19 = .ok (.istore_n 2, 1) := by decide +kernel
theorem dX7_canaryShare_20 : decode cX7_canaryShare 20 = .ok (.iload_n 2, 1) := by decide +kernel
theorem dX7_canaryShare_21 : decode cX7_canaryShare 21 = .ok (.aload_n 0, 1) := by decide +kernel
theorem dX7_canaryShare_22 : decode cX7_canaryShare 22 = .ok (.getfield 120, 3) := by decide +kernel
theorem dX7_canaryShare_25 : decode cX7_canaryShare 25 = .ok (.if_icmp .ge 37, 3) := by decide +kernel
theorem dX7_canaryShare_28 : decode cX7_canaryShare 28 = .ok (.iload_n 1, 1) := by decide +kernel
theorem dX7_canaryShare_29 : decode cX7_canaryShare 29 = .ok (.aload_n 0, 1) := by decide +kernel
theorem dX7_canaryShare_30 : decode cX7_canaryShare 30 = .ok (.getfield 63, 3) := by decide +kernel
theorem dX7_canaryShare_33 : decode cX7_canaryShare 33 = .ok (.iload_n 2, 1) := by decide +kernel
theorem dX7_canaryShare_34 : decode cX7_canaryShare 34 = .ok (.caload, 1) := by decide +kernel
theorem dX7_canaryShare_35 : decode cX7_canaryShare 35 = .ok (.bipush 99, 2) := by decide +kernel
theorem dX7_canaryShare_37 : decode cX7_canaryShare 37 = .ok (.if_icmp .ne 16, 3) := by decide +kernel
theorem dX7_canaryShare_40 : decode cX7_canaryShare 40 = .ok (.aload_n 0, 1) := by decide +kernel
theorem dX7_canaryShare_41 : decode cX7_canaryShare 41 = .ok (.getfield 73, 3) := by decide +kernel
theorem dX7_canaryShare_44 : decode cX7_canaryShare 44 = .ok (.iload_n 2, 1) := by decide +kernel
theorem dX7_canaryShare_45 : decode cX7_canaryShare 45 = .ok (.baload, 1) := by decide +kernel
theorem dX7_canaryShare_46 : decode cX7_canaryShare 46 = .ok (.ifCond .ne 7, 3) := by decide +kernel
theorem dX7_canaryShare_49 : decode cX7_canaryShare 49 = .ok (.iconst 1, 1) := by decide +kernel
theorem dX7_canaryShare_50 : decode cX7_canaryShare 50 = .ok (.goto 4, 3) := by decide +kernel
theorem dX7_canaryShare_53 : decode cX7_canaryShare 53 = .ok (.iconst 0, 1) := by decide +kernel
theorem dX7_canaryShare_54 : decode cX7_canaryShare 54 = .ok (.iadd, 1) := by decide +kernel
theorem dX7_canaryShare_55 : decode cX7_canaryShare 55 = .ok (.istore_n 1, 1) := by decide +kernel
theorem dX7_canaryShare_56 : decode cX7_canaryShare 56 = .ok (.iinc 2 1, 3) := by decide +kernel
theorem dX7_canaryShare_59 : decode cX7_canaryShare 59 = .ok (.goto (-39), 3) := by decide +kernel
theorem dX7_canaryShare_62 : decode cX7_canaryShare 62 = .ok (.aload_n 0, 1) := by decide +kernel
theorem dX7_canaryShare_63 : decode cX7_canaryShare 63 = .ok (.getfield 79, 3) := by decide +kernel
theorem dX7_canaryShare_66 : decode cX7_canaryShare 66 = .ok (.ifCond .le 7, 3) := by decide +kernel
theorem dX7_canaryShare_69 : decode cX7_canaryShare 69 = .ok (.fconst 0, 1) := by decide +kernel
theorem dX7_canaryShare_70 : decode cX7_canaryShare 70 = .ok (.goto 11, 3) := by decide +kernel
theorem dX7_canaryShare_73 : decode cX7_canaryShare 73 = .ok (.iload_n 1, 1) := by decide +kernel
theorem dX7_canaryShare_74 : decode cX7_canaryShare 74 = .ok (.i2f, 1) := by decide +kernel
theorem dX7_canaryShare_75 : decode cX7_canaryShare 75 = .ok (.aload_n 0, 1) := by decide +kernel
theorem dX7_canaryShare_76 : decode cX7_canaryShare 76 = .ok (.getfield 120, 3) := by decide +kernel
theorem dX7_canaryShare_79 : decode cX7_canaryShare 79 = .ok (.i2f, 1) := by decide +kernel
theorem dX7_canaryShare_80 : decode cX7_canaryShare 80 = .ok (.fdiv, 1) := by decide +kernel
theorem dX7_canaryShare_81 : decode cX7_canaryShare 81 = .ok (.freturn, 1) := by decide +kernel
theorem dX7_meanCost_0 : decode cX7_meanCost 0 = .ok (.iconst 0, 1) := by decide +kernel
theorem dX7_meanCost_1 : decode cX7_meanCost 1 = .ok (.istore_n 1, 1) := by decide +kernel
theorem dX7_meanCost_2 : decode cX7_meanCost 2 = .ok (.iconst 0, 1) := by decide +kernel
theorem dX7_meanCost_3 : decode cX7_meanCost 3 = .ok (.istore_n 2, 1) := by decide +kernel
theorem dX7_meanCost_4 : decode cX7_meanCost 4 = .ok (.iconst 0, 1) := by decide +kernel
theorem dX7_meanCost_5 : decode cX7_meanCost 5 = .ok (.istore_n 3, 1) := by decide +kernel
theorem dX7_meanCost_6 : decode cX7_meanCost 6 = .ok (.iload_n 3, 1) := by decide +kernel
theorem dX7_meanCost_7 : decode cX7_meanCost 7 = .ok (.aload_n 0, 1) := by decide +kernel
theorem dX7_meanCost_8 : decode cX7_meanCost 8 = .ok (.getfield 120, 3) := by decide +kernel
theorem dX7_meanCost_11 : decode cX7_meanCost 11 = .ok (.if_icmp .ge 65, 3) := by decide +kernel
theorem dX7_meanCost_14 : decode cX7_meanCost 14 = .ok (.aload_n 0, 1) := by decide +kernel
theorem dX7_meanCost_15 : decode cX7_meanCost 15 = .ok (.getfield 67, 3) := by decide +kernel
theorem dX7_meanCost_18 : decode cX7_meanCost 18 = .ok (.iload_n 3, 1) := by decide +kernel
theorem dX7_meanCost_19 : decode cX7_meanCost 19 = .ok (.iaload, 1) := by decide +kernel
theorem dX7_meanCost_20 : decode cX7_meanCost 20 = .ok (.ifCond .le 16, 3) := by decide +kernel
theorem dX7_meanCost_23 : decode cX7_meanCost 23 = .ok (.aload_n 0, 1) := by decide +kernel
theorem dX7_meanCost_24 : decode cX7_meanCost 24 = .ok (.getfield 73, 3) := by decide +kernel
theorem dX7_meanCost_27 : decode cX7_meanCost 27 = .ok (.iload_n 3, 1) := by decide +kernel
theorem dX7_meanCost_28 : decode cX7_meanCost 28 = .ok (.baload, 1) := by decide +kernel
theorem dX7_meanCost_29 : decode cX7_meanCost 29 = .ok (.ifCond .ne 7, 3) := by decide +kernel
theorem dX7_meanCost_32 : decode cX7_meanCost 32 = .ok (.iconst 1, 1) := by decide +kernel
theorem dX7_meanCost_33 : decode cX7_meanCost 33 = .ok (.goto 4, 3) := by decide +kernel
theorem dX7_meanCost_36 : decode cX7_meanCost 36 = .ok (.iconst 0, 1) := by decide +kernel
theorem dX7_meanCost_37 : decode cX7_meanCost 37 = .ok (.istore 4, 2) := by decide +kernel
theorem dX7_meanCost_39 : decode cX7_meanCost 39 = .ok (.iload_n 1, 1) := by decide +kernel
theorem dX7_meanCost_40 : decode cX7_meanCost 40 = .ok (.iload 4, 2) := by decide +kernel
theorem dX7_meanCost_42 : decode cX7_meanCost 42 = .ok (.ifCond .eq 7, 3) := by decide +kernel
theorem dX7_meanCost_45 : decode cX7_meanCost 45 = .ok (.iconst 1, 1) := by decide +kernel
theorem dX7_meanCost_46 : decode cX7_meanCost 46 = .ok (.goto 4, 3) := by decide +kernel
theorem dX7_meanCost_49 : decode cX7_meanCost 49 = .ok (.iconst 0, 1) := by decide +kernel
theorem dX7_meanCost_50 : decode cX7_meanCost 50 = .ok (.iadd, 1) := by decide +kernel
theorem dX7_meanCost_51 : decode cX7_meanCost 51 = .ok (.istore_n 1, 1) := by decide +kernel
theorem dX7_meanCost_52 : decode cX7_meanCost 52 = .ok (.iload_n 2, 1) := by decide +kernel
theorem dX7_meanCost_53 : decode cX7_meanCost 53 = .ok (.iload 4, 2) := by decide +kernel
theorem dX7_meanCost_55 : decode cX7_meanCost 55 = .ok (.ifCond .eq 12, 3) := by decide +kernel
theorem dX7_meanCost_58 : decode cX7_meanCost 58 = .ok (.aload_n 0, 1) := by decide +kernel
theorem dX7_meanCost_59 : decode cX7_meanCost 59 = .ok (.getfield 67, 3) := by decide +kernel
theorem dX7_meanCost_62 : decode cX7_meanCost 62 = .ok (.iload_n 3, 1) := by decide +kernel
theorem dX7_meanCost_63 : decode cX7_meanCost 63 = .ok (.iaload, 1) := by decide +kernel
theorem dX7_meanCost_64 : decode cX7_meanCost 64 = .ok (.goto 4, 3) := by decide +kernel
theorem dX7_meanCost_67 : decode cX7_meanCost 67 = .ok (.iconst 0, 1) := by decide +kernel
theorem dX7_meanCost_68 : decode cX7_meanCost 68 = .ok (.iadd, 1) := by decide +kernel
theorem dX7_meanCost_69 : decode cX7_meanCost 69 = .ok (.istore_n 2, 1) := by decide +kernel
theorem dX7_meanCost_70 : decode cX7_meanCost 70 = .ok (.iinc 3 1, 3) := by decide +kernel
theorem dX7_meanCost_73 : decode cX7_meanCost 73 = .ok (.goto (-67), 3) := by decide +kernel
theorem dX7_meanCost_76 : decode cX7_meanCost 76 = .ok (.aload_n 0, 1) := by decide +kernel
theorem dX7_meanCost_77 : decode cX7_meanCost 77 = .ok (.iload_n 1, 1) := by decide +kernel
theorem dX7_meanCost_78 : decode cX7_meanCost 78 = .ok (.ifCond .ne 7, 3) := by decide +kernel
theorem dX7_meanCost_81 : decode cX7_meanCost 81 = .ok (.iconst 1, 1) := by decide +kernel
theorem dX7_meanCost_82 : decode cX7_meanCost 82 = .ok (.goto 4, 3) := by decide +kernel
theorem dX7_meanCost_85 : decode cX7_meanCost 85 = .ok (.iconst 0, 1) := by decide +kernel
theorem dX7_meanCost_86 : decode cX7_meanCost 86 = .ok (.putfield 79, 3) := by decide +kernel
theorem dX7_meanCost_89 : decode cX7_meanCost 89 = .ok (.aload_n 0, 1) := by decide +kernel
theorem dX7_meanCost_90 : decode cX7_meanCost 90 = .ok (.getfield 79, 3) := by decide +kernel
theorem dX7_meanCost_93 : decode cX7_meanCost 93 = .ok (.ifCond .le 7, 3) := by decide +kernel
theorem dX7_meanCost_96 : decode cX7_meanCost 96 = .ok (.dconst 0, 1) := by decide +kernel
theorem dX7_meanCost_97 : decode cX7_meanCost 97 = .ok (.goto 8, 3) := by decide +kernel
theorem dX7_meanCost_100 : decode cX7_meanCost 100 = .ok (.iload_n 2, 1) := by decide +kernel
theorem dX7_meanCost_101 : decode cX7_meanCost 101 = .ok (.i2d, 1) := by decide +kernel
theorem dX7_meanCost_102 : decode cX7_meanCost 102 = .ok (.iload_n 1, 1) := by decide +kernel
theorem dX7_meanCost_103 : decode cX7_meanCost 103 = .ok (.i2d, 1) := by decide +kernel
theorem dX7_meanCost_104 : decode cX7_meanCost 104 = .ok (.ddiv, 1) := by decide +kernel
theorem dX7_meanCost_105 : decode cX7_meanCost 105 = .ok (.dreturn, 1) := by decide +kernel
theorem dJx00060_init_a7421_0 : decode cJx00060_init_a7421 0 = .ok (.aload_n 0, 1) := by decide +kernel
theorem dJx00060_init_a7421_1 : decode cJx00060_init_a7421 1 = .ok (.aload_n 1, 1) := by decide +kernel
theorem dJx00060_init_a7421_2 : decode cJx00060_init_a7421 2 = .ok (.invokespecial 7, 3) := by decide +kernel
theorem dJx00060_init_a7421_5 : decode cJx00060_init_a7421 5 = .ok (.return_, 1) := by decide +kernel
theorem dJ9_max_7cf53_0 : decode cJ9_max_7cf53 0 = .ok (.iload_n 0, 1) := by decide +kernel
theorem dJ9_max_7cf53_1 : decode cJ9_max_7cf53 1 = .ok (.iload_n 1, 1) := by decide +kernel
theorem dJ9_max_7cf53_2 : decode cJ9_max_7cf53 2 = .ok (.if_icmp .lt 7, 3) := by decide +kernel
theorem dJ9_max_7cf53_5 : decode cJ9_max_7cf53 5 = .ok (.iload_n 0, 1) := by decide +kernel
theorem dJ9_max_7cf53_6 : decode cJ9_max_7cf53 6 = .ok (.goto 4, 3) := by decide +kernel
theorem dJ9_max_7cf53_9 : decode cJ9_max_7cf53 9 = .ok (.iload_n 1, 1) := by decide +kernel
theorem dJ9_max_7cf53_10 : decode cJ9_max_7cf53 10 = .ok (.ireturn, 1) := by decide +kernel
theorem dJ9_min_7cf53_0 : decode cJ9_min_7cf53 0 = .ok (.iload_n 0, 1) := by decide +kernel
theorem dJ9_min_7cf53_1 : decode cJ9_min_7cf53 1 = .ok (.iload_n 1, 1) := by decide +kernel
theorem dJ9_min_7cf53_2 : decode cJ9_min_7cf53 2 = .ok (.if_icmp .gt 7, 3) := by decide +kernel
theorem dJ9_min_7cf53_5 : decode cJ9_min_7cf53 5 = .ok (.iload_n 0, 1) := by decide +kernel
theorem dJ9_min_7cf53_6 : decode cJ9_min_7cf53 6 = .ok (.goto 4, 3) := by decide +kernel
theorem dJ9_min_7cf53_9 : decode cJ9_min_7cf53 9 = .ok (.iload_n 1, 1) := by decide +kernel
theorem dJ9_min_7cf53_10 : decode cJ9_min_7cf53 10 = .ok (.ireturn, 1) := by decide +kernel
set_option maxRecDepth 20000 in
theorem ggL_addRoute_X6_addRoute : GoodIn wsL_addRoute wsX6_addRoute := goodIn_ca (goodIn_ca (goodIn_r _ [7, 8, 9, 10, 11, 12, 13, 14, 15, 16, 17, 18, 6, 19, 20, 21, 22, 23, 24, 25, 26, 27, 28, 29, 30, 31, 32, 33, 34, 35, 36, 37, 38, 39, 40, 41, 42, 43, 44, 45, 46, 47, 48, 49, 50, 51, 52, 53, 54, 55, 56, 57] (by decide +kernel) (by decide +kernel)) (goodIn_sub (fun _ h => List.mem_cons_of_mem _ (List.mem_append_left _ (List.mem_append_right _ h))) (by decide +kernel))) (goodIn_sub (fun _ h => List.mem_cons_of_mem _ (List.mem_append_right _ h)) (by decide +kernel))
set_option maxRecDepth 20000 in
theorem gL_addRoute_X6_addRoute : GoodIn wsL_addRoute (wsV RL 7 RX6 yX6_addRoute wsX6_addRoute) := goodIn_app (goodIn_of _ (by decide +kernel)) ggL_addRoute_X6_addRoute
