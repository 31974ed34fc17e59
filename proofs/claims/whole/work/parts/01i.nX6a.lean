theorem dX6_init_0 : decode cX6_init 0 = .ok (.aload_n 0, 1) := by decide +kernel
theorem dX6_init_1 : decode cX6_init 1 = .ok (.invokespecial 1, 3) := by decide +kernel
theorem dX6_init_4 : decode cX6_init 4 = .ok (.aload_n 0, 1) := by decide +kernel
theorem dX6_init_5 : decode cX6_init 5 = .ok (.bipush 6, 2) := by decide +kernel
theorem dX6_init_7 : decode cX6_init 7 = .ok (.newarray .int, 2) := by decide +kernel
theorem dX6_init_9 : decode cX6_init 9 = .ok (.putfield 7, 3) := by decide +kernel
theorem dX6_init_12 : decode cX6_init 12 = .ok (.aload_n 0, 1) := by decide +kernel
theorem dX6_init_13 : decode cX6_init 13 = .ok (.bipush 6, 2) := by decide +kernel
theorem dX6_init_15 : decode cX6_init 15 = .ok (.newarray .int, 2) := by decide +kernel
theorem dX6_init_17 : decode cX6_init 17 = .ok (.putfield 13, 3) := by decide +kernel
theorem dX6_init_20 : decode cX6_init 20 = .ok (.aload_n 0, 1) := by decide +kernel
theorem dX6_init_21 : decode cX6_init 21 = .ok (.bipush 6, 2) := by decide +kernel
theorem dX6_init_23 : decode cX6_init 23 = .ok (.newarray .int, 2) := by decide +kernel
theorem dX6_init_25 : decode cX6_init 25 = .ok (.putfield 16, 3) := by decide +kernel
theorem dX6_init_28 : decode cX6_init 28 = .ok (.aload_n 0, 1) := by decide +kernel
theorem dX6_init_29 : decode cX6_init 29 = .ok (.sipush 144, 3) := by decide +kernel
theorem dX6_init_32 : decode cX6_init 32 = .ok (.newarray .int, 2) := by decide +kernel
theorem dX6_init_34 : decode cX6_init 34 = .ok (.putfield 19, 3) := by decide +kernel
theorem dX6_init_37 : decode cX6_init 37 = .ok (.aload_n 0, 1) := by decide +kernel
theorem dX6_init_38 : decode cX6_init 38 = .ok (.bipush 8, 2) := by decide +kernel
theorem dX6_init_40 : decode cX6_init 40 = .ok (.newarray .int, 2) := by decide +kernel
theorem dX6_init_42 : decode cX6_init 42 = .ok (.putfield 22, 3) := by decide +kernel
theorem dX6_init_45 : decode cX6_init 45 = .ok (.aload_n 0, 1) := by decide +kernel
theorem dX6_init_46 : decode cX6_init 46 = .ok (.bipush 8, 2) := by decide +kernel
theorem dX6_init_48 : decode cX6_init 48 = .ok (.newarray .int, 2) := by decide +kernel
theorem dX6_init_50 : decode cX6_init 50 = .ok (.putfield 25, 3) := by decide +kernel
theorem dX6_init_53 : decode cX6_init 53 = .ok (.aload_n 0, 1) := by decide +kernel
theorem dX6_init_54 : decode cX6_init 54 = .ok (.bipush 60, 2) := by decide +kernel
theorem dX6_init_56 : decode cX6_init 56 = .ok (.newarray .int, 2) := by decide +kernel
theorem dX6_init_58 : decode cX6_init 58 = .ok (.putfield 28, 3) := by decide +kernel
theorem dX6_init_61 : decode cX6_init 61 = .ok (.aload_n 0, 1) := by decide +kernel
theorem dX6_init_62 : decode cX6_init 62 = .ok (.bipush 60, 2) := by decide +kernel
theorem dX6_init_64 : decode cX6_init 64 = .ok (.newarray .int, 2) := by decide +kernel
theorem dX6_init_66 : decode cX6_init 66 = .ok (.putfield 31, 3) := by decide +kernel
theorem dX6_init_69 : decode cX6_init 69 = .ok (.aload_n 0, 1) := by decide +kernel
theorem dX6_init_70 : decode cX6_init 70 = .ok (.bipush 60, 2) := by decide +kernel
theorem dX6_init_72 : decode cX6_init 72 = .ok (.newarray .int, 2) := by decide +kernel
theorem dX6_init_74 : decode cX6_init 74 = .ok (.putfield 34, 3) := by decide +kernel
theorem dX6_init_77 : decode cX6_init 77 = .ok (.aload_n 0, 1) := by decide +kernel
theorem dX6_init_78 : decode cX6_init 78 = .ok (.bipush 60, 2) := by decide +kernel
theorem dX6_init_80 : decode cX6_init 80 = .ok (.newarray .int, 2) := by decide +kernel
theorem dX6_init_82 : decode cX6_init 82 = .ok (.putfield 37, 3) := by decide +kernel
theorem dX6_init_85 : decode cX6_init 85 = .ok (.aload_n 0, 1) := by decide +kernel
theorem dX6_init_86 : decode cX6_init 86 = .ok (.bipush 60, 2) := by decide +kernel
theorem dX6_init_88 : decode cX6_init 88 = .ok (.newarray .int, 2) := by decide +kernel
theorem dX6_init_90 : decode cX6_init 90 = .ok (.putfield 40, 3) := by decide +kernel
theorem dX6_init_93 : decode cX6_init 93 = .ok (.aload_n 0, 1) := by decide +kernel
theorem dX6_init_94 : decode cX6_init 94 = .ok (.bipush 60, 2) := by decide +kernel
theorem dX6_init_96 : decode cX6_init 96 = .ok (.newarray .int, 2) := by decide +kernel
theorem dX6_init_98 : decode cX6_init 98 = .ok (.putfield 43, 3) := by decide +kernel
theorem dX6_init_101 : decode cX6_init 101 = .ok (.aload_n 0, 1) := by decide +kernel
theorem dX6_init_102 : decode cX6_init 102 = .ok (.bipush 60, 2) := by decide +kernel
theorem dX6_init_104 : decode cX6_init 104 = .ok (.newarray .int, 2) := by decide +kernel
theorem dX6_init_106 : decode cX6_init 106 = .ok (.putfield 46, 3) := by decide +kernel
theorem dX6_init_109 : decode cX6_init 109 = .ok (.aload_n 0, 1) := by decide +kernel
theorem dX6_init_110 : decode cX6_init 110 = .ok (.bipush 60, 2) := by decide +kernel
theorem dX6_init_112 : decode cX6_init 112 = .ok (.newarray .int, 2) := by decide +kernel
theorem dX6_init_114 : decode cX6_init 114 = .ok (.putfield 49, 3) := by decide +kernel
theorem dX6_init_117 : decode cX6_init 117 = .ok (.aload_n 0, 1) := by decide +kernel
theorem dX6_init_118 : decode cX6_init 118 = .ok (.sipush 163, 3) := by decide +kernel
theorem dX6_init_121 : decode cX6_init 121 = .ok (.newarray .int, 2) := by decide +kernel
theorem dX6_init_123 : decode cX6_init 123 = .ok (.putfield 52, 3) := by decide +kernel
theorem dX6_init_126 : decode cX6_init 126 = .ok (.aload_n 0, 1) := by decide +kernel
theorem dX6_init_127 : decode cX6_init 127 = .ok (.sipush 163, 3) := by decide +kernel
theorem dX6_init_130 : decode cX6_init 130 = .ok (.newarray .int, 2) := by decide +kernel
theorem dX6_init_132 : decode cX6_init 132 = .ok (.putfield 55, 3) := by decide +kernel
theorem dX6_init_135 : decode cX6_init 135 = .ok (.aload_n 0, 1) := by decide +kernel
theorem dX6_init_136 : decode cX6_init 136 = .ok (.bipush 6, 2) := by decide +kernel
theorem dX6_init_138 : decode cX6_init 138 = .ok (.newarray .int, 2) := by decide +kernel
theorem dX6_init_140 : decode cX6_init 140 = .ok (.putfield 58, 3) := by decide +kernel
theorem dX6_init_143 : decode cX6_init 143 = .ok (.aload_n 0, 1) := by decide +kernel
theorem dX6_init_144 : decode cX6_init 144 = .ok (.bipush 60, 2) := by decide +kernel
theorem dX6_init_146 : decode cX6_init 146 = .ok (.newarray .int, 2) := by decide +kernel
theorem dX6_init_148 : decode cX6_init 148 = .ok (.putfield 61, 3) := by decide +kernel
theorem dX6_init_151 : decode cX6_init 151 = .ok (.aload_n 0, 1) := by decide +kernel
theorem dX6_init_152 : decode cX6_init 152 = .ok (.bipush 10, 2) := by decide +kernel
theorem dX6_init_154 : decode cX6_init 154 = .ok (.newarray .long, 2) := by decide +kernel
theorem dX6_init_156 : decode cX6_init 156 = .ok (.putfield 64, 3) := by decide +kernel
theorem dX6_init_159 : decode cX6_init 159 = .ok (.aload_n 0, 1) := by decide +kernel
theorem dX6_init_160 : decode cX6_init 160 = .ok (.sipush 380, 3) := by decide +kernel
theorem dX6_init_163 : decode cX6_init 163 = .ok (.newarray .int, 2) := by decide +kernel
theorem dX6_init_165 : decode cX6_init 165 = .ok (.putfield 68, 3) := by decide +kernel
theorem dX6_init_168 : decode cX6_init 168 = .ok (.aload_n 0, 1) := by decide +kernel
theorem dX6_init_169 : decode cX6_init 169 = .ok (.iconst 2, 1) := by decide +kernel
theorem dX6_init_170 : decode cX6_init 170 = .ok (.newarray .boolean, 2) := by decide +kernel
theorem dX6_init_172 : decode cX6_init 172 = .ok (.putfield 71, 3) := by decide +kernel
theorem dX6_init_175 : decode cX6_init 175 = .ok (.aload_n 0, 1) := by decide +kernel
theorem dX6_init_176 : decode cX6_init 176 = .ok (.bipush 9, 2) := by decide +kernel
theorem dX6_init_178 : decode cX6_init 178 = .ok (.putfield 75, 3) := by decide +kernel
theorem dX6_init_181 : decode cX6_init 181 = .ok (.return_, 1) := by decide +kernel
theorem dX6_in_0 : decode cX6_in 0 = .ok (.lload_n 0, 1) := by decide +kernel
theorem dX6_in_1 : decode cX6_in 1 = .ok (.lload_n 2, 1) := by decide +kernel
theorem dX6_in_2 : decode cX6_in 2 = .ok (.lcmp, 1) := by decide +kernel
theorem dX6_in_3 : decode cX6_in 3 = .ok (.ifCond .lt 14, 3) := by decide +kernel
theorem dX6_in_6 : decode cX6_in 6 = .ok (.lload_n 0, 1) := by decide +kernel
theorem dX6_in_7 : decode cX6_in 7 = .ok (.lload 4, 2) := by decide +kernel
theorem dX6_in_9 : decode cX6_in 9 = .ok (.lcmp, 1) := by decide +kernel
theorem dX6_in_10 : decode cX6_in 10 = .ok (.ifCond .gt 7, 3) := by decide +kernel
theorem dX6_in_13 : decode cX6_in 13 = .ok (.iconst 1, 1) := by decide +kernel
theorem dX6_in_14 : decode cX6_in 14 = .ok (.goto 4, 3) := by decide +kernel
theorem dX6_in_17 : decode cX6_in 17 = .ok (.iconst 0, 1) := by decide +kernel
theorem dX6_in_18 : decode cX6_in 18 = .ok (.ireturn, 1) := by decide +kernel
set_option maxRecDepth 20000 in
theorem ggX6_isHour_X6_in : GoodIn wsX6_isHour wsX6_in := goodIn_r _ [5] (by decide +kernel) (by decide +kernel)
set_option maxRecDepth 20000 in
theorem gX6_isHour_X6_in : GoodIn wsX6_isHour (va_wsS RX6 81 yX6_in wsX6_in) := goodIn_app (goodIn_of _ (by decide +kernel)) ggX6_isHour_X6_in
theorem dX6_isHour_0 : decode cX6_isHour 0 = .ok (.iload_n 0, 1) := by decide +kernel
theorem dX6_isHour_1 : decode cX6_isHour 1 = .ok (.i2l, 1) := by decide +kernel
theorem dX6_isHour_2 : decode cX6_isHour 2 = .ok (.lconst 0, 1) := by decide +kernel
theorem dX6_isHour_3 : decode cX6_isHour 3 = .ok (.ldc2_w 79, 3) := by decide +kernel
theorem dX6_isHour_6 : decode cX6_isHour 6 = .ok (.invokestatic 81, 3) := by decide +kernel
theorem dX6_isHour_9 : decode cX6_isHour 9 = .ok (.ireturn, 1) := by decide +kernel
theorem dX6_ones_0 : decode cX6_ones 0 = .ok (.iconst 0, 1) := by decide +kernel
theorem dX6_ones_1 : decode cX6_ones 1 = .ok (.istore_n 1, 1) := by decide +kernel
theorem dX6_ones_2 : decode cX6_ones 2 = .ok (.iload_n 0, 1) := by decide +kernel
theorem dX6_ones_3 : decode cX6_ones 3 = .ok (.istore_n 2, 1) := by decide +kernel
theorem dX6_ones_4 : decode cX6_ones 4 = .ok (.iload_n 2, 1) := by decide +kernel
theorem dX6_ones_5 : decode cX6_ones 5 = .ok (.ifCond .eq 15, 3) := by decide +kernel
theorem dX6_ones_8 : decode cX6_ones 8 = .ok (.iinc 1 1, 3) := by decide +kernel
theorem dX6_ones_11 : decode cX6_ones 11 = .ok (.iload_n 2, 1) := by decide +kernel
theorem dX6_ones_12 : decode cX6_ones 12 = .ok (.iload_n 2, 1) := by decide +kernel
theorem dX6_ones_13 : decode cX6_ones 13 = .ok (.iconst 1, 1) := by decide +kernel
theorem dX6_ones_14 : decode cX6_ones 14 = .ok (.isub, 1) := by decide +kernel
theorem dX6_ones_15 : decode cX6_ones 15 = .ok (.iand, 1) := by decide +kernel
theorem dX6_ones_16 : decode cX6_ones 16 = .ok (.istore_n 2, 1) := by decide +kernel
theorem dX6_ones_17 : decode cX6_ones 17 = .ok (.goto (-13), 3) := by decide +kernel
theorem dX6_ones_20 : decode cX6_ones 20 = .ok (.iload_n 1, 1) := by decide +kernel
theorem dX6_ones_21 : decode cX6_ones 21 = .ok (.ireturn, 1) := by decide +kernel
set_option maxRecDepth 20000 in
theorem ggX6_isCourtier_X6_in : GoodIn wsX6_isCourtier wsX6_in := goodIn_r _ [6] (by decide +kernel) (by decide +kernel)
set_option maxRecDepth 20000 in
theorem gX6_isCourtier_X6_in : GoodIn wsX6_isCourtier (va_wsS RX6 81 yX6_in wsX6_in) := goodIn_app (goodIn_of _ (by decide +kernel)) ggX6_isCourtier_X6_in
theorem dX6_isCourtier_0 : decode cX6_isCourtier 0 = .ok (.iload_n 1, 1) := by decide +kernel
theorem dX6_isCourtier_1 : decode cX6_isCourtier 1 = .ok (.i2l, 1) := by decide +kernel
theorem dX6_isCourtier_2 : decode cX6_isCourtier 2 = .ok (.lconst 0, 1) := by decide +kernel
theorem dX6_isCourtier_3 : decode cX6_isCourtier 3 = .ok (.ldc2_w 85, 3) := by decide +kernel
theorem dX6_isCourtier_6 : decode cX6_isCourtier 6 = .ok (.invokestatic 81, 3) := by decide +kernel
theorem dX6_isCourtier_9 : decode cX6_isCourtier 9 = .ok (.ifCond .eq 19, 3) := by decide +kernel
theorem dX6_isCourtier_12 : decode cX6_isCourtier 12 = .ok (.aload_n 0, 1) := by decide +kernel
theorem dX6_isCourtier_13 : decode cX6_isCourtier 13 = .ok (.getfield 87, 3) := by decide +kernel
theorem dX6_isCourtier_16 : decode cX6_isCourtier 16 = .ok (.iload_n 1, 1) := by decide +kernel
theorem dX6_isCourtier_17 : decode cX6_isCourtier 17 = .ok (.ishr, 1) := by decide +kernel
theorem dX6_isCourtier_18 : decode cX6_isCourtier 18 = .ok (.iconst 1, 1) := by decide +kernel
theorem dX6_isCourtier_19 : decode cX6_isCourtier 19 = .ok (.iand, 1) := by decide +kernel
theorem dX6_isCourtier_20 : decode cX6_isCourtier 20 = .ok (.iconst 1, 1) := by decide +kernel
theorem dX6_isCourtier_21 : decode cX6_isCourtier 21 = .ok (.if_icmp .ne 7, 3) := by decide +kernel
theorem dX6_isCourtier_24 : decode cX6_isCourtier 24 = .ok (.iconst 1, 1) := by decide +kernel
theorem dX6_isCourtier_25 : decode cX6_isCourtier 25 = .ok (.goto 4, 3) := by decide +kernel
theorem dX6_isCourtier_28 : decode cX6_isCourtier 28 = .ok (.iconst 0, 1) := by decide +kernel
theorem dX6_isCourtier_29 : decode cX6_isCourtier 29 = .ok (.ireturn, 1) := by decide +kernel
theorem dX6_at_0 : decode cX6_at 0 = .ok (.bipush 24, 2) := by decide +kernel
theorem dX6_at_2 : decode cX6_at 2 = .ok (.iload_n 0, 1) := by decide +kernel
theorem dX6_at_3 : decode cX6_at 3 = .ok (.imul, 1) := by decide +kernel
theorem dX6_at_4 : decode cX6_at 4 = .ok (.iload_n 1, 1) := by decide +kernel
theorem dX6_at_5 : decode cX6_at 5 = .ok (.iadd, 1) := by decide +kernel
theorem dX6_at_6 : decode cX6_at 6 = .ok (.ireturn, 1) := by decide +kernel
set_option maxRecDepth 20000 in
theorem ggX6_owns_X6_isCourtier : GoodIn wsX6_owns wsX6_isCourtier := goodIn_r _ [6, 7, 8, 9, 10, 5, 11, 15, 16, 17, 18, 19, 20, 21, 22, 23, 24, 25, 26, 27, 28, 29, 30, 31, 32, 33, 34, 35, 36, 37, 38, 39, 40, 41, 42, 43, 44, 45, 46, 47, 48] (by decide +kernel) (by decide +kernel)
set_option maxRecDepth 20000 in
theorem gX6_owns_X6_isCourtier : GoodIn wsX6_owns (wsV RX6 90 RX6 yX6_isCourtier wsX6_isCourtier) := goodIn_app (goodIn_of _ (by decide +kernel)) ggX6_owns_X6_isCourtier
set_option maxRecDepth 20000 in
theorem ggX6_owns_X6_at : GoodIn wsX6_owns wsX6_at := goodIn_r _ [14] (by decide +kernel) (by decide +kernel)
set_option maxRecDepth 20000 in
theorem gX6_owns_X6_at : GoodIn wsX6_owns (va_wsS RX6 94 yX6_at wsX6_at) := goodIn_app (goodIn_of _ (by decide +kernel)) ggX6_owns_X6_at
theorem dX6_owns_0 : decode cX6_owns 0 = .ok (.aload_n 0, 1) := by decide +kernel
theorem dX6_owns_1 : decode cX6_owns 1 = .ok (.iload_n 1, 1) := by decide +kernel
theorem dX6_owns_2 : decode cX6_owns 2 = .ok (.invokevirtual 90, 3) := by decide +kernel
theorem dX6_owns_5 : decode cX6_owns 5 = .ok (.ifCond .eq 20, 3) := by decide +kernel
theorem dX6_owns_8 : decode cX6_owns 8 = .ok (.aload_n 0, 1) := by decide +kernel
theorem dX6_owns_9 : decode cX6_owns 9 = .ok (.getfield 19, 3) := by decide +kernel
theorem dX6_owns_12 : decode cX6_owns 12 = .ok (.iload_n 1, 1) := by decide +kernel
theorem dX6_owns_13 : decode cX6_owns 13 = .ok (.iload_n 2, 1) := by decide +kernel
theorem dX6_owns_14 : decode cX6_owns 14 = .ok (.invokestatic 94, 3) := by decide +kernel
theorem dX6_owns_17 : decode cX6_owns 17 = .ok (.iaload, 1) := by decide +kernel
theorem dX6_owns_18 : decode cX6_owns 18 = .ok (.ifCond .lt 7, 3) := by decide +kernel
theorem dX6_owns_21 : decode cX6_owns 21 = .ok (.iconst 1, 1) := by decide +kernel
theorem dX6_owns_22 : decode cX6_owns 22 = .ok (.goto 4, 3) := by decide +kernel
theorem dX6_owns_25 : decode cX6_owns 25 = .ok (.iconst 0, 1) := by decide +kernel
theorem dX6_owns_26 : decode cX6_owns 26 = .ok (.ireturn, 1) := by decide +kernel
set_option maxRecDepth 20000 in
theorem ggX6_pairsOf_X6_owns : GoodIn wsX6_pairsOf wsX6_owns := goodIn_r _ [5, 6, 7, 8, 9, 4, 10, 11, 12, 13, 14, 15, 16, 17, 18, 19, 20, 21, 22, 23, 24, 25, 26, 27, 28, 29, 30, 31, 32, 33, 34, 35, 36, 37, 38, 39, 40, 41, 42, 43, 44, 45, 46, 47, 48, 49, 50, 51, 52] (by decide +kernel) (by decide +kernel)
set_option maxRecDepth 20000 in
theorem gX6_pairsOf_X6_owns : GoodIn wsX6_pairsOf (wsV RX6 98 RX6 yX6_owns wsX6_owns) := goodIn_app (goodIn_of _ (by decide +kernel)) ggX6_pairsOf_X6_owns
theorem dX6_pairsOf_0 : decode cX6_pairsOf 0 = .ok (.iconst 0, 1) := by decide +kernel
theorem dX6_pairsOf_1 : decode cX6_pairsOf 1 = .ok (.istore_n 2, 1) := by decide +kernel
theorem dX6_pairsOf_2 : decode cX6_pairsOf 2 = .ok (.iconst 0, 1) := by decide +kernel
theorem dX6_pairsOf_3 : decode cX6_pairsOf 3 = .ok (.istore_n 3, 1) := by decide +kernel
theorem dX6_pairsOf_4 : decode cX6_pairsOf 4 = .ok (.iload_n 3, 1) := by decide +kernel
theorem dX6_pairsOf_5 : decode cX6_pairsOf 5 = .ok (.bipush 24, 2) := by decide +kernel
theorem dX6_pairsOf_7 : decode cX6_pairsOf 7 = .ok (.if_icmp .ge 28, 3) := by decide +kernel
theorem dX6_pairsOf_10 : decode cX6_pairsOf 10 = .ok (.iload_n 2, 1) := by decide +kernel
theorem dX6_pairsOf_11 : decode cX6_pairsOf 11 = .ok (.aload_n 0, 1) := by decide +kernel
theorem dX6_pairsOf_12 : decode cX6_pairsOf 12 = .ok (.iload_n 1, 1) := by decide +kernel
theorem dX6_pairsOf_13 : decode cX6_pairsOf 13 = .ok (.iload_n 3, 1) := by decide +kernel
theorem dX6_pairsOf_14 : decode cX6_pairsOf 14 = .ok (.invokevirtual 98, 3) := by decide +kernel
theorem dX6_pairsOf_17 : decode cX6_pairsOf 17 = .ok (.ifCond .eq 9, 3) := by decide +kernel
theorem dX6_pairsOf_20 : decode cX6_pairsOf 20 = .ok (.iconst 1, 1) := by decide +kernel
theorem dX6_pairsOf_21 : decode cX6_pairsOf 21 = .ok (.iload_n 3, 1) := by decide +kernel
theorem dX6_pairsOf_22 : decode cX6_pairsOf 22 = .ok (.ishl, 1) := by decide +kernel
theorem dX6_pairsOf_23 : decode cX6_pairsOf 23 = .ok (.goto 4, 3) := by decide +kernel
theorem dX6_pairsOf_26 : decode cX6_pairsOf 26 = .ok (.iconst 0, 1) := by decide +kernel
theorem dX6_pairsOf_27 : decode cX6_pairsOf 27 = .ok (.ior, 1) := by decide +kernel
theorem dX6_pairsOf_28 : decode cX6_pairsOf 28 = .ok (.istore_n 2, 1) := by decide +kernel
theorem dX6_pairsOf_29 : decode cX6_pairsOf 29 = .ok (.iinc 3 1, 3) := by decide +kernel
theorem dX6_pairsOf_32 : decode cX6_pairsOf 32 = .ok (.goto (-28), 3) := by decide +kernel
theorem dX6_pairsOf_35 : decode cX6_pairsOf 35 = .ok (.iload_n 2, 1) := by decide +kernel
theorem dX6_pairsOf_36 : decode cX6_pairsOf 36 = .ok (.ireturn, 1) := by decide +kernel
set_option maxRecDepth 20000 in
theorem ggX6_courtier_X6_in : GoodIn wsX6_courtier wsX6_in := goodIn_r _ [11] (by decide +kernel) (by decide +kernel)
set_option maxRecDepth 20000 in
theorem gX6_courtier_X6_in : GoodIn wsX6_courtier (va_wsS RX6 81 yX6_in wsX6_in) := goodIn_app (goodIn_of _ (by decide +kernel)) ggX6_courtier_X6_in
set_option maxRecDepth 20000 in
theorem ggX6_courtier_X6_at : GoodIn wsX6_courtier wsX6_at := goodIn_r _ [14] (by decide +kernel) (by decide +kernel)
set_option maxRecDepth 20000 in
theorem gX6_courtier_X6_at : GoodIn wsX6_courtier (va_wsS RX6 94 yX6_at wsX6_at) := goodIn_app (goodIn_of _ (by decide +kernel)) ggX6_courtier_X6_at
set_option maxRecDepth 20000 in
theorem ggX6_courtier_X6_ones : GoodIn wsX6_courtier wsX6_ones := goodIn_r _ [17] (by decide +kernel) (by decide +kernel)
set_option maxRecDepth 20000 in
theorem gX6_courtier_X6_ones : GoodIn wsX6_courtier (va_wsS RX6 104 yX6_ones wsX6_ones) := goodIn_app (goodIn_of _ (by decide +kernel)) ggX6_courtier_X6_ones
theorem dX6_courtier_0 : decode cX6_courtier 0 = .ok (.iload_n 1, 1) := by decide +kernel
theorem dX6_courtier_1 : decode cX6_courtier 1 = .ok (.i2l, 1) := by decide +kernel
theorem dX6_courtier_2 : decode cX6_courtier 2 = .ok (.lconst 0, 1) := by decide +kernel
theorem dX6_courtier_3 : decode cX6_courtier 3 = .ok (.ldc2_w 85, 3) := by decide +kernel
theorem dX6_courtier_6 : decode cX6_courtier 6 = .ok (.invokestatic 81, 3) := by decide +kernel
theorem dX6_courtier_9 : decode cX6_courtier 9 = .ok (.ifCond .ne 5, 3) := by decide +kernel
theorem dX6_courtier_12 : decode cX6_courtier 12 = .ok (.iconst (-1), 1) := by decide +kernel
theorem dX6_courtier_13 : decode cX6_courtier 13 = .ok (.ireturn, 1) := by decide +kernel
theorem dX6_courtier_14 : decode cX6_courtier 14 = .ok (.iload_n 2, 1) := by decide +kernel
theorem dX6_courtier_15 : decode cX6_courtier 15 = .ok (.i2l, 1) := by decide +kernel
theorem dX6_courtier_16 : decode cX6_courtier 16 = .ok (.lconst 0, 1) := by decide +kernel
theorem dX6_courtier_17 : decode cX6_courtier 17 = .ok (.ldc2_w 102, 3) := by decide +kernel
theorem dX6_courtier_20 : decode cX6_courtier 20 = .ok (.invokestatic 81, 3) := by decide +kernel
theorem dX6_courtier_23 : decode cX6_courtier 23 = .ok (.ifCond .ne 6, 3) := by decide +kernel
theorem dX6_courtier_26 : decode cX6_courtier 26 = .ok (.bipush (-2), 2) := by decide +kernel
theorem dX6_courtier_28 : decode cX6_courtier 28 = .ok (.ireturn, 1) := by decide +kernel
theorem dX6_courtier_29 : decode cX6_courtier 29 = .ok (.aload_n 0, 1) := by decide +kernel
theorem dX6_courtier_30 : decode cX6_courtier 30 = .ok (.dup, 1) := by decide +kernel
theorem dX6_courtier_31 : decode cX6_courtier 31 = .ok (.getfield 87, 3) := by decide +kernel
theorem dX6_courtier_34 : decode cX6_courtier 34 = .ok (.iconst 1, 1) := by decide +kernel
theorem dX6_courtier_35 : decode cX6_courtier 35 = .ok (.iload_n 1, 1) := by decide +kernel
theorem dX6_courtier_36 : decode cX6_courtier 36 = .ok (.ishl, 1) := by decide +kernel
theorem dX6_courtier_37 : decode cX6_courtier 37 = .ok (.ior, 1) := by decide +kernel
theorem dX6_courtier_38 : decode cX6_courtier 38 = .ok (.putfield 87, 3) := by decide +kernel
theorem dX6_courtier_41 : decode cX6_courtier 41 = .ok (.aload_n 0, 1) := by decide +kernel
theorem dX6_courtier_42 : decode cX6_courtier 42 = .ok (.getfield 7, 3) := by decide +kernel
theorem dX6_courtier_45 : decode cX6_courtier 45 = .ok (.iload_n 1, 1) := by decide +kernel
theorem dX6_courtier_46 : decode cX6_courtier 46 = .ok (.bipush 24, 2) := by decide +kernel
theorem dX6_courtier_48 : decode cX6_courtier 48 = .ok (.iastore, 1) := by decide +kernel
theorem dX6_courtier_49 : decode cX6_courtier 49 = .ok (.aload_n 0, 1) := by decide +kernel
theorem dX6_courtier_50 : decode cX6_courtier 50 = .ok (.getfield 13, 3) := by decide +kernel
theorem dX6_courtier_53 : decode cX6_courtier 53 = .ok (.iload_n 1, 1) := by decide +kernel
theorem dX6_courtier_54 : decode cX6_courtier 54 = .ok (.bipush 24, 2) := by decide +kernel
theorem dX6_courtier_56 : decode cX6_courtier 56 = .ok (.iastore, 1) := by decide +kernel
theorem dX6_courtier_57 : decode cX6_courtier 57 = .ok (.aload_n 0, 1) := by decide +kernel
theorem dX6_courtier_58 : decode cX6_courtier 58 = .ok (.getfield 16, 3) := by decide +kernel
theorem dX6_courtier_61 : decode cX6_courtier 61 = .ok (.iload_n 1, 1) := by decide +kernel
theorem dX6_courtier_62 : decode cX6_courtier 62 = .ok (.iconst 0, 1) := by decide +kernel
theorem dX6_courtier_63 : decode cX6_courtier 63 = .ok (.iastore, 1) := by decide +kernel
theorem dX6_courtier_64 : decode cX6_courtier 64 = .ok (.iconst 0, 1) := by decide +kernel
theorem dX6_courtier_65 : decode cX6_courtier 65 = .ok (.istore_n 3, 1) := by decide +kernel
theorem dX6_courtier_66 : decode cX6_courtier 66 = .ok (.iload_n 3, 1) := by decide +kernel
theorem dX6_courtier_67 : decode cX6_courtier 67 = .ok (.bipush 24, 2) := by decide +kernel
theorem dX6_courtier_69 : decode cX6_courtier 69 = .ok (.if_icmp .ge 34, 3) := by decide +kernel
theorem dX6_courtier_72 : decode cX6_courtier 72 = .ok (.aload_n 0, 1) := by decide +kernel
theorem dX6_courtier_73 : decode cX6_courtier 73 = .ok (.getfield 19, 3) := by decide +kernel
theorem dX6_courtier_76 : decode cX6_courtier 76 = .ok (.iload_n 1, 1) := by decide +kernel
theorem dX6_courtier_77 : decode cX6_courtier 77 = .ok (.iload_n 3, 1) := by decide +kernel
theorem dX6_courtier_78 : decode cX6_courtier 78 = .ok (.invokestatic 94, 3) := by decide +kernel
theorem dX6_courtier_81 : decode cX6_courtier 81 = .ok (.iload_n 2, 1) := by decide +kernel
theorem dX6_courtier_82 : decode cX6_courtier 82 = .ok (.iload_n 3, 1) := by decide +kernel
theorem dX6_courtier_83 : decode cX6_courtier 83 = .ok (.ishr, 1) := by decide +kernel
theorem dX6_courtier_84 : decode cX6_courtier 84 = .ok (.iconst 1, 1) := by decide +kernel
theorem dX6_courtier_85 : decode cX6_courtier 85 = .ok (.iand, 1) := by decide +kernel
theorem dX6_courtier_86 : decode cX6_courtier 86 = .ok (.iconst 1, 1) := by decide +kernel
theorem dX6_courtier_87 : decode cX6_courtier 87 = .ok (.if_icmp .ne 7, 3) := by decide +kernel
theorem dX6_courtier_90 : decode cX6_courtier 90 = .ok (.iconst 0, 1) := by decide +kernel
theorem dX6_courtier_91 : decode cX6_courtier 91 = .ok (.goto 5, 3) := by decide +kernel
theorem dX6_courtier_94 : decode cX6_courtier 94 = .ok (.bipush (-6), 2) := by decide +kernel
theorem dX6_courtier_96 : decode cX6_courtier 96 = .ok (.iastore, 1) := by decide +kernel
theorem dX6_courtier_97 : decode cX6_courtier 97 = .ok (.iinc 3 1, 3) := by decide +kernel
theorem dX6_courtier_100 : decode cX6_courtier 100 = .ok (.goto (-34), 3) := by decide +kernel
theorem dX6_courtier_103 : decode cX6_courtier 103 = .ok (.aload_n 0, 1) := by decide +kernel
theorem dX6_courtier_104 : decode cX6_courtier 104 = .ok (.getfield 87, 3) := by decide +kernel
theorem dX6_courtier_107 : decode cX6_courtier 107 = .ok (.invokestatic 104, 3) := by decide +kernel
theorem dX6_courtier_110 : decode cX6_courtier 110 = .ok (.ireturn, 1) := by decide +kernel
set_option maxRecDepth 20000 in
theorem ggX6_leave_X6_isCourtier : GoodIn wsX6_leave wsX6_isCourtier := goodIn_r _ [6, 7, 1, 8, 9, 5, 10, 14, 15, 16, 17, 18, 19, 20, 21, 22, 23, 24, 25, 26, 27, 28, 29, 30, 31, 32, 33, 34, 35, 36, 37, 38, 39, 40, 41, 42, 43, 44, 45, 46, 47] (by decide +kernel) (by decide +kernel)
set_option maxRecDepth 20000 in
theorem gX6_leave_X6_isCourtier : GoodIn wsX6_leave (wsV RX6 90 RX6 yX6_isCourtier wsX6_isCourtier) := goodIn_app (goodIn_of _ (by decide +kernel)) ggX6_leave_X6_isCourtier
set_option maxRecDepth 20000 in
theorem ggX6_leave_X6_ones : GoodIn wsX6_leave wsX6_ones := goodIn_r _ [13] (by decide +kernel) (by decide +kernel)
set_option maxRecDepth 20000 in
theorem gX6_leave_X6_ones : GoodIn wsX6_leave (va_wsS RX6 104 yX6_ones wsX6_ones) := goodIn_app (goodIn_of _ (by decide +kernel)) ggX6_leave_X6_ones
theorem dX6_leave_0 : decode cX6_leave 0 = .ok (.aload_n 0, 1) := by decide +kernel
theorem dX6_leave_1 : decode cX6_leave 1 = .ok (.iload_n 1, 1) := by decide +kernel
theorem dX6_leave_2 : decode cX6_leave 2 = .ok (.invokevirtual 90, 3) := by decide +kernel
theorem dX6_leave_5 : decode cX6_leave 5 = .ok (.ifCond .ne 5, 3) := by decide +kernel
theorem dX6_leave_8 : decode cX6_leave 8 = .ok (.iconst (-1), 1) := by decide +kernel
theorem dX6_leave_9 : decode cX6_leave 9 = .ok (.ireturn, 1) := by decide +kernel
theorem dX6_leave_10 : decode cX6_leave 10 = .ok (.aload_n 0, 1) := by decide +kernel
theorem dX6_leave_11 : decode cX6_leave 11 = .ok (.dup, 1) := by decide +kernel
theorem dX6_leave_12 : decode cX6_leave 12 = .ok (.getfield 87, 3) := by decide +kernel
theorem dX6_leave_15 : decode cX6_leave 15 = .ok (.iconst 1, 1) := by decide +kernel
theorem dX6_leave_16 : decode cX6_leave 16 = .ok (.iload_n 1, 1) := by decide +kernel
theorem dX6_leave_17 : decode cX6_leave 17 = .ok (.ishl, 1) := by decide +kernel
theorem dX6_leave_18 : decode cX6_leave 18 = .ok (.iconst (-1), 1) := by decide +kernel
theorem dX6_leave_19 : decode cX6_leave 19 = .ok (.ixor, 1) := by decide +kernel
theorem dX6_leave_20 : decode cX6_leave 20 = .ok (.iand, 1) := by decide +kernel
theorem dX6_leave_21 : decode cX6_leave 21 = .ok (.putfield 87, 3) := by decide +kernel
theorem dX6_leave_24 : decode cX6_leave 24 = .ok (.aload_n 0, 1) := by decide +kernel
theorem dX6_leave_25 : decode cX6_leave 25 = .ok (.getfield 87, 3) := by decide +kernel
theorem dX6_leave_28 : decode cX6_leave 28 = .ok (.invokestatic 104, 3) := by decide +kernel
theorem dX6_leave_31 : decode cX6_leave 31 = .ok (.ireturn, 1) := by decide +kernel
set_option maxRecDepth 20000 in
theorem ggX6_set_X6_in : GoodIn wsX6_set wsX6_in := goodIn_r _ [8] (by decide +kernel) (by decide +kernel)
set_option maxRecDepth 20000 in
theorem gX6_set_X6_in : GoodIn wsX6_set (va_wsS RX6 81 yX6_in wsX6_in) := goodIn_app (goodIn_of _ (by decide +kernel)) ggX6_set_X6_in
theorem dX6_set_0 : decode cX6_set 0 = .ok (.iload_n 1, 1) := by decide +kernel
theorem dX6_set_1 : decode cX6_set 1 = .ok (.i2l, 1) := by decide +kernel
theorem dX6_set_2 : decode cX6_set 2 = .ok (.lconst 0, 1) := by decide +kernel
theorem dX6_set_3 : decode cX6_set 3 = .ok (.lconst 1, 1) := by decide +kernel
theorem dX6_set_4 : decode cX6_set 4 = .ok (.invokestatic 81, 3) := by decide +kernel
theorem dX6_set_7 : decode cX6_set 7 = .ok (.ifCond .eq 26, 3) := by decide +kernel
theorem dX6_set_10 : decode cX6_set 10 = .ok (.iload_n 2, 1) := by decide +kernel
theorem dX6_set_11 : decode cX6_set 11 = .ok (.i2l, 1) := by decide +kernel
theorem dX6_set_12 : decode cX6_set 12 = .ok (.iload_n 1, 1) := by decide +kernel
theorem dX6_set_13 : decode cX6_set 13 = .ok (.i2l, 1) := by decide +kernel
theorem dX6_set_14 : decode cX6_set 14 = .ok (.iload_n 1, 1) := by decide +kernel
theorem dX6_set_15 : decode cX6_set 15 = .ok (.ifCond .ne 9, 3) := by decide +kernel
theorem dX6_set_18 : decode cX6_set 18 = .ok (.ldc2_w 79, 3) := by decide +kernel
theorem dX6_set_21 : decode cX6_set 21 = .ok (.goto 6, 3) := by decide +kernel
theorem dX6_set_24 : decode cX6_set 24 = .ok (.ldc2_w 108, 3) := by decide +kernel
theorem dX6_set_27 : decode cX6_set 27 = .ok (.invokestatic 81, 3) := by decide +kernel
theorem dX6_set_30 : decode cX6_set 30 = .ok (.ifCond .ne 6, 3) := by decide +kernel
theorem dX6_set_33 : decode cX6_set 33 = .ok (.bipush (-2), 2) := by decide +kernel
theorem dX6_set_35 : decode cX6_set 35 = .ok (.ireturn, 1) := by decide +kernel
theorem dX6_set_36 : decode cX6_set 36 = .ok (.iload_n 1, 1) := by decide +kernel
theorem dX6_set_37 : decode cX6_set 37 = .ok (.ifCond .ne 10, 3) := by decide +kernel
theorem dX6_set_40 : decode cX6_set 40 = .ok (.aload_n 0, 1) := by decide +kernel
theorem dX6_set_41 : decode cX6_set 41 = .ok (.getfield 110, 3) := by decide +kernel
theorem dX6_set_44 : decode cX6_set 44 = .ok (.goto 7, 3) := by decide +kernel
theorem dX6_set_47 : decode cX6_set 47 = .ok (.aload_n 0, 1) := by decide +kernel
theorem dX6_set_48 : decode cX6_set 48 = .ok (.getfield 75, 3) := by decide +kernel
theorem dX6_set_51 : decode cX6_set 51 = .ok (.istore_n 3, 1) := by decide +kernel
theorem dX6_set_52 : decode cX6_set 52 = .ok (.aload_n 0, 1) := by decide +kernel
theorem dX6_set_53 : decode cX6_set 53 = .ok (.iload_n 1, 1) := by decide +kernel
theorem dX6_set_54 : decode cX6_set 54 = .ok (.ifCond .ne 7, 3) := by decide +kernel
theorem dX6_set_57 : decode cX6_set 57 = .ok (.iload_n 2, 1) := by decide +kernel
theorem dX6_set_58 : decode cX6_set 58 = .ok (.goto 7, 3) := by decide +kernel
theorem dX6_set_61 : decode cX6_set 61 = .ok (.aload_n 0, 1) := by decide +kernel
theorem dX6_set_62 : decode cX6_set 62 = .ok (.getfield 110, 3) := by decide +kernel
theorem dX6_set_65 : decode cX6_set 65 = .ok (.putfield 110, 3) := by decide +kernel
theorem dX6_set_68 : decode cX6_set 68 = .ok (.aload_n 0, 1) := by decide +kernel
theorem dX6_set_69 : decode cX6_set 69 = .ok (.iload_n 1, 1) := by decide +kernel
theorem dX6_set_70 : decode cX6_set 70 = .ok (.iconst 1, 1) := by decide +kernel
theorem dX6_set_71 : decode cX6_set 71 = .ok (.if_icmp .ne 7, 3) := by decide +kernel
theorem dX6_set_74 : decode cX6_set 74 = .ok (.iload_n 2, 1) := by decide +kernel
theorem dX6_set_75 : decode cX6_set 75 = .ok (.goto 7, 3) := by decide +kernel
theorem dX6_set_78 : decode cX6_set 78 = .ok (.aload_n 0, 1) := by decide +kernel
theorem dX6_set_79 : decode cX6_set 79 = .ok (.getfield 75, 3) := by decide +kernel
theorem dX6_set_82 : decode cX6_set 82 = .ok (.putfield 75, 3) := by decide +kernel
theorem dX6_set_85 : decode cX6_set 85 = .ok (.iload_n 3, 1) := by decide +kernel
theorem dX6_set_86 : decode cX6_set 86 = .ok (.ireturn, 1) := by decide +kernel
set_option maxRecDepth 20000 in
theorem ggX6_say_X6_in : GoodIn wsX6_say wsX6_in := goodIn_r _ [8] (by decide +kernel) (by decide +kernel)
set_option maxRecDepth 20000 in
theorem gX6_say_X6_in : GoodIn wsX6_say (va_wsS RX6 81 yX6_in wsX6_in) := goodIn_app (goodIn_of _ (by decide +kernel)) ggX6_say_X6_in
theorem dX6_say_0 : decode cX6_say 0 = .ok (.iload_n 1, 1) := by decide +kernel
theorem dX6_say_1 : decode cX6_say 1 = .ok (.i2l, 1) := by decide +kernel
theorem dX6_say_2 : decode cX6_say 2 = .ok (.ldc2_w 113, 3) := by decide +kernel
theorem dX6_say_5 : decode cX6_say 5 = .ok (.ldc2_w 115, 3) := by decide +kernel
theorem dX6_say_8 : decode cX6_say 8 = .ok (.invokestatic 81, 3) := by decide +kernel
theorem dX6_say_11 : decode cX6_say 11 = .ok (.ifCond .ne 6, 3) := by decide +kernel
theorem dX6_say_14 : decode cX6_say 14 = .ok (.bipush (-2), 2) := by decide +kernel
theorem dX6_say_16 : decode cX6_say 16 = .ok (.ireturn, 1) := by decide +kernel
theorem dX6_say_17 : decode cX6_say 17 = .ok (.aload_n 0, 1) := by decide +kernel
theorem dX6_say_18 : decode cX6_say 18 = .ok (.getfield 117, 3) := by decide +kernel
theorem dX6_say_21 : decode cX6_say 21 = .ok (.bipush 60, 2) := by decide +kernel
theorem dX6_say_23 : decode cX6_say 23 = .ok (.if_icmp .ne 6, 3) := by decide +kernel
theorem dX6_say_26 : decode cX6_say 26 = .ok (.bipush (-4), 2) := by decide +kernel
theorem dX6_say_28 : decode cX6_say 28 = .ok (.ireturn, 1) := by decide +kernel
theorem dX6_say_29 : decode cX6_say 29 = .ok (.aload_n 0, 1) := by decide +kernel
theorem dX6_say_30 : decode cX6_say 30 = .ok (.getfield 28, 3) := by decide +kernel
theorem dX6_say_33 : decode cX6_say 33 = .ok (.aload_n 0, 1) := by decide +kernel
theorem dX6_say_34 : decode cX6_say 34 = .ok (.getfield 117, 3) := by decide +kernel
theorem dX6_say_37 : decode cX6_say 37 = .ok (.iload_n 1, 1) := by decide +kernel
theorem dX6_say_38 : decode cX6_say 38 = .ok (.iastore, 1) := by decide +kernel
theorem dX6_say_39 : decode cX6_say 39 = .ok (.aload_n 0, 1) := by decide +kernel
theorem dX6_say_40 : decode cX6_say 40 = .ok (.dup, 1) := by decide +kernel
theorem dX6_say_41 : decode cX6_say 41 = .ok (.getfield 117, 3) := by decide +kernel
theorem dX6_say_44 : decode cX6_say 44 = .ok (.iconst 1, 1) := by decide +kernel
theorem dX6_say_45 : decode cX6_say 45 = .ok (.iadd, 1) := by decide +kernel
theorem dX6_say_46 : decode cX6_say 46 = .ok (.putfield 117, 3) := by decide +kernel
theorem dX6_say_49 : decode cX6_say 49 = .ok (.aload_n 0, 1) := by decide +kernel
theorem dX6_say_50 : decode cX6_say 50 = .ok (.getfield 117, 3) := by decide +kernel
theorem dX6_say_53 : decode cX6_say 53 = .ok (.ireturn, 1) := by decide +kernel
theorem dX6_wipe_0 : decode cX6_wipe 0 = .ok (.aload_n 0, 1) := by decide +kernel
theorem dX6_wipe_1 : decode cX6_wipe 1 = .ok (.getfield 117, 3) := by decide +kernel
theorem dX6_wipe_4 : decode cX6_wipe 4 = .ok (.istore_n 1, 1) := by decide +kernel
theorem dX6_wipe_5 : decode cX6_wipe 5 = .ok (.aload_n 0, 1) := by decide +kernel
theorem dX6_wipe_6 : decode cX6_wipe 6 = .ok (.iconst 0, 1) := by decide +kernel
theorem dX6_wipe_7 : decode cX6_wipe 7 = .ok (.putfield 117, 3) := by decide +kernel
theorem dX6_wipe_10 : decode cX6_wipe 10 = .ok (.iload_n 1, 1) := by decide +kernel
theorem dX6_wipe_11 : decode cX6_wipe 11 = .ok (.ireturn, 1) := by decide +kernel
set_option maxRecDepth 20000 in
theorem ggX6_isLetter_X6_in : GoodIn wsX6_isLetter wsX6_in := goodIn_r _ [6] (by decide +kernel) (by decide +kernel)
set_option maxRecDepth 20000 in
theorem gX6_isLetter_X6_in : GoodIn wsX6_isLetter (va_wsS RX6 81 yX6_in wsX6_in) := goodIn_app (goodIn_of _ (by decide +kernel)) ggX6_isLetter_X6_in
theorem dX6_isLetter_0 : decode cX6_isLetter 0 = .ok (.iload_n 0, 1) := by decide +kernel
theorem dX6_isLetter_1 : decode cX6_isLetter 1 = .ok (.i2l, 1) := by decide +kernel
theorem dX6_isLetter_2 : decode cX6_isLetter 2 = .ok (.ldc2_w 120, 3) := by decide +kernel
theorem dX6_isLetter_5 : decode cX6_isLetter 5 = .ok (.ldc2_w 122, 3) := by decide +kernel
theorem dX6_isLetter_8 : decode cX6_isLetter 8 = .ok (.invokestatic 81, 3) := by decide +kernel
theorem dX6_isLetter_11 : decode cX6_isLetter 11 = .ok (.ireturn, 1) := by decide +kernel
theorem dX6_close_0 : decode cX6_close 0 = .ok (.aload_n 0, 1) := by decide +kernel
theorem dX6_close_1 : decode cX6_close 1 = .ok (.getfield 31, 3) := by decide +kernel
theorem dX6_close_4 : decode cX6_close 4 = .ok (.aload_n 0, 1) := by decide +kernel
theorem dX6_close_5 : decode cX6_close 5 = .ok (.getfield 124, 3) := by decide +kernel
theorem dX6_close_8 : decode cX6_close 8 = .ok (.iload_n 1, 1) := by decide +kernel
theorem dX6_close_9 : decode cX6_close 9 = .ok (.iastore, 1) := by decide +kernel
theorem dX6_close_10 : decode cX6_close 10 = .ok (.aload_n 0, 1) := by decide +kernel
theorem dX6_close_11 : decode cX6_close 11 = .ok (.dup, 1) := by decide +kernel
theorem dX6_close_12 : decode cX6_close 12 = .ok (.getfield 124, 3) := by decide +kernel
theorem dX6_close_15 : decode cX6_close 15 = .ok (.iconst 1, 1) := by decide +kernel
theorem dX6_close_16 : decode cX6_close 16 = .ok (.iadd, 1) := by decide +kernel
theorem dX6_close_17 : decode cX6_close 17 = .ok (.putfield 124, 3) := by decide +kernel
theorem dX6_close_20 : decode cX6_close 20 = .ok (.iconst 0, 1) := by decide +kernel
theorem dX6_close_21 : decode cX6_close 21 = .ok (.ireturn, 1) := by decide +kernel
set_option maxRecDepth 20000 in
theorem ggX6_begin_X6_isLetter : GoodIn wsX6_begin wsX6_isLetter := goodIn_r _ [8, 9, 10, 11, 12, 7, 13] (by decide +kernel) (by decide +kernel)
set_option maxRecDepth 20000 in
theorem gX6_begin_X6_isLetter : GoodIn wsX6_begin (va_wsS RX6 127 yX6_isLetter wsX6_isLetter) := goodIn_app (goodIn_of _ (by decide +kernel)) ggX6_begin_X6_isLetter
set_option maxRecDepth 20000 in
theorem ggX6_begin_X6_close : GoodIn wsX6_begin wsX6_close := goodIn_r _ [17, 18, 2, 19, 20, 21, 22, 23, 24, 25, 26, 27, 28, 29, 30, 31, 32, 33, 34, 35, 36, 37, 38, 39, 40, 41, 42, 43, 44, 45, 46, 47, 48, 49, 50, 51, 52] (by decide +kernel) (by decide +kernel)
set_option maxRecDepth 20000 in
theorem gX6_begin_X6_close : GoodIn wsX6_begin (wsV RX6 130 RX6 yX6_close wsX6_close) := goodIn_app (goodIn_of _ (by decide +kernel)) ggX6_begin_X6_close
theorem dX6_begin_0 : decode cX6_begin 0 = .ok (.aload_n 0, 1) := by decide +kernel
theorem dX6_begin_1 : decode cX6_begin 1 = .ok (.getfield 34, 3) := by decide +kernel
theorem dX6_begin_4 : decode cX6_begin 4 = .ok (.aload_n 0, 1) := by decide +kernel
theorem dX6_begin_5 : decode cX6_begin 5 = .ok (.getfield 124, 3) := by decide +kernel
theorem dX6_begin_8 : decode cX6_begin 8 = .ok (.iload_n 1, 1) := by decide +kernel
theorem dX6_begin_9 : decode cX6_begin 9 = .ok (.invokestatic 127, 3) := by decide +kernel
theorem dX6_begin_12 : decode cX6_begin 12 = .ok (.ifCond .eq 10, 3) := by decide +kernel
theorem dX6_begin_15 : decode cX6_begin 15 = .ok (.iload_n 1, 1) := by decide +kernel
theorem dX6_begin_16 : decode cX6_begin 16 = .ok (.bipush 65, 2) := by decide +kernel
theorem dX6_begin_18 : decode cX6_begin 18 = .ok (.isub, 1) := by decide +kernel
theorem dX6_begin_19 : decode cX6_begin 19 = .ok (.goto 4, 3) := by decide +kernel
theorem dX6_begin_22 : decode cX6_begin 22 = .ok (.iconst 0, 1) := by decide +kernel
theorem dX6_begin_23 : decode cX6_begin 23 = .ok (.iastore, 1) := by decide +kernel
theorem dX6_begin_24 : decode cX6_begin 24 = .ok (.aload_n 0, 1) := by decide +kernel
theorem dX6_begin_25 : decode cX6_begin 25 = .ok (.getfield 37, 3) := by decide +kernel
theorem dX6_begin_28 : decode cX6_begin 28 = .ok (.aload_n 0, 1) := by decide +kernel
theorem dX6_begin_29 : decode cX6_begin 29 = .ok (.getfield 124, 3) := by decide +kernel
theorem dX6_begin_32 : decode cX6_begin 32 = .ok (.iconst 0, 1) := by decide +kernel
theorem dX6_begin_33 : decode cX6_begin 33 = .ok (.iastore, 1) := by decide +kernel
theorem dX6_begin_34 : decode cX6_begin 34 = .ok (.aload_n 0, 1) := by decide +kernel
theorem dX6_begin_35 : decode cX6_begin 35 = .ok (.getfield 40, 3) := by decide +kernel
theorem dX6_begin_38 : decode cX6_begin 38 = .ok (.aload_n 0, 1) := by decide +kernel
theorem dX6_begin_39 : decode cX6_begin 39 = .ok (.getfield 124, 3) := by decide +kernel
theorem dX6_begin_42 : decode cX6_begin 42 = .ok (.iconst 0, 1) := by decide +kernel
theorem dX6_begin_43 : decode cX6_begin 43 = .ok (.iastore, 1) := by decide +kernel
theorem dX6_begin_44 : decode cX6_begin 44 = .ok (.iload_n 1, 1) := by decide +kernel
theorem dX6_begin_45 : decode cX6_begin 45 = .ok (.invokestatic 127, 3) := by decide +kernel
theorem dX6_begin_48 : decode cX6_begin 48 = .ok (.ifCond .eq 7, 3) := by decide +kernel
theorem dX6_begin_51 : decode cX6_begin 51 = .ok (.iconst 1, 1) := by decide +kernel
theorem dX6_begin_52 : decode cX6_begin 52 = .ok (.goto 20, 3) := by decide +kernel
theorem dX6_begin_55 : decode cX6_begin 55 = .ok (.iload_n 1, 1) := by decide +kernel
theorem dX6_begin_56 : decode cX6_begin 56 = .ok (.bipush 46, 2) := by decide +kernel
theorem dX6_begin_58 : decode cX6_begin 58 = .ok (.if_icmp .ne 12, 3) := by decide +kernel
theorem dX6_begin_61 : decode cX6_begin 61 = .ok (.aload_n 0, 1) := by decide +kernel
theorem dX6_begin_62 : decode cX6_begin 62 = .ok (.bipush 6, 2) := by decide +kernel
theorem dX6_begin_64 : decode cX6_begin 64 = .ok (.invokevirtual 130, 3) := by decide +kernel
theorem dX6_begin_67 : decode cX6_begin 67 = .ok (.goto 5, 3) := by decide +kernel
theorem dX6_begin_70 : decode cX6_begin 70 = .ok (.bipush (-6), 2) := by decide +kernel
theorem dX6_begin_72 : decode cX6_begin 72 = .ok (.ireturn, 1) := by decide +kernel
set_option maxRecDepth 20000 in
theorem ggX6_behindLetter_X6_isLetter : GoodIn wsX6_behindLetter wsX6_isLetter := goodIn_r _ [7, 8, 9, 10, 11, 6, 12] (by decide +kernel) (by decide +kernel)
set_option maxRecDepth 20000 in
theorem gX6_behindLetter_X6_isLetter : GoodIn wsX6_behindLetter (va_wsS RX6 127 yX6_isLetter wsX6_isLetter) := goodIn_app (goodIn_of _ (by decide +kernel)) ggX6_behindLetter_X6_isLetter
set_option maxRecDepth 20000 in
theorem ggX6_behindLetter_X6_close : GoodIn wsX6_behindLetter wsX6_close := goodIn_r _ [16, 3, 2, 17, 18, 19, 20, 21, 22, 23, 24, 25, 26, 27, 28, 29, 30, 31, 32, 33, 34, 35, 36, 37, 38, 39, 40, 41, 42, 43, 44, 45, 46, 47, 48, 49, 50] (by decide +kernel) (by decide +kernel)
set_option maxRecDepth 20000 in
theorem gX6_behindLetter_X6_close : GoodIn wsX6_behindLetter (wsV RX6 130 RX6 yX6_close wsX6_close) := goodIn_app (goodIn_of _ (by decide +kernel)) ggX6_behindLetter_X6_close
theorem dX6_behindLetter_0 : decode cX6_behindLetter 0 = .ok (.iload_n 1, 1) := by decide +kernel
theorem dX6_behindLetter_1 : decode cX6_behindLetter 1 = .ok (.invokestatic 127, 3) := by decide +kernel
theorem dX6_behindLetter_4 : decode cX6_behindLetter 4 = .ok (.ifCond .eq 22, 3) := by decide +kernel
theorem dX6_behindLetter_7 : decode cX6_behindLetter 7 = .ok (.aload_n 0, 1) := by decide +kernel
theorem dX6_behindLetter_8 : decode cX6_behindLetter 8 = .ok (.getfield 40, 3) := by decide +kernel
theorem dX6_behindLetter_11 : decode cX6_behindLetter 11 = .ok (.aload_n 0, 1) := by decide +kernel
theorem dX6_behindLetter_12 : decode cX6_behindLetter 12 = .ok (.getfield 124, 3) := by decide +kernel
theorem dX6_behindLetter_15 : decode cX6_behindLetter 15 = .ok (.iload_n 1, 1) := by decide +kernel
theorem dX6_behindLetter_16 : decode cX6_behindLetter 16 = .ok (.bipush 65, 2) := by decide +kernel
theorem dX6_behindLetter_18 : decode cX6_behindLetter 18 = .ok (.isub, 1) := by decide +kernel
theorem dX6_behindLetter_19 : decode cX6_behindLetter 19 = .ok (.iastore, 1) := by decide +kernel
theorem dX6_behindLetter_20 : decode cX6_behindLetter 20 = .ok (.aload_n 0, 1) := by decide +kernel
theorem dX6_behindLetter_21 : decode cX6_behindLetter 21 = .ok (.iconst 4, 1) := by decide +kernel
theorem dX6_behindLetter_22 : decode cX6_behindLetter 22 = .ok (.invokevirtual 130, 3) := by decide +kernel
theorem dX6_behindLetter_25 : decode cX6_behindLetter 25 = .ok (.ireturn, 1) := by decide +kernel
theorem dX6_behindLetter_26 : decode cX6_behindLetter 26 = .ok (.iload_n 1, 1) := by decide +kernel
theorem dX6_behindLetter_27 : decode cX6_behindLetter 27 = .ok (.bipush 48, 2) := by decide +kernel
theorem dX6_behindLetter_29 : decode cX6_behindLetter 29 = .ok (.if_icmp .eq 9, 3) := by decide +kernel
theorem dX6_behindLetter_32 : decode cX6_behindLetter 32 = .ok (.iload_n 1, 1) := by decide +kernel
theorem dX6_behindLetter_33 : decode cX6_behindLetter 33 = .ok (.bipush 33, 2) := by decide +kernel
theorem dX6_behindLetter_35 : decode cX6_behindLetter 35 = .ok (.if_icmp .ne 19, 3) := by decide +kernel
theorem dX6_behindLetter_38 : decode cX6_behindLetter 38 = .ok (.aload_n 0, 1) := by decide +kernel
theorem dX6_behindLetter_39 : decode cX6_behindLetter 39 = .ok (.iload_n 1, 1) := by decide +kernel
theorem dX6_behindLetter_40 : decode cX6_behindLetter 40 = .ok (.bipush 48, 2) := by decide +kernel
theorem dX6_behindLetter_42 : decode cX6_behindLetter 42 = .ok (.if_icmp .ne 7, 3) := by decide +kernel
theorem dX6_behindLetter_45 : decode cX6_behindLetter 45 = .ok (.iconst 2, 1) := by decide +kernel
theorem dX6_behindLetter_46 : decode cX6_behindLetter 46 = .ok (.goto 4, 3) := by decide +kernel
theorem dX6_behindLetter_49 : decode cX6_behindLetter 49 = .ok (.iconst 3, 1) := by decide +kernel
theorem dX6_behindLetter_50 : decode cX6_behindLetter 50 = .ok (.invokevirtual 130, 3) := by decide +kernel
theorem dX6_behindLetter_53 : decode cX6_behindLetter 53 = .ok (.ireturn, 1) := by decide +kernel
theorem dX6_behindLetter_54 : decode cX6_behindLetter 54 = .ok (.aload_n 0, 1) := by decide +kernel
theorem dX6_behindLetter_55 : decode cX6_behindLetter 55 = .ok (.getfield 31, 3) := by decide +kernel
theorem dX6_behindLetter_58 : decode cX6_behindLetter 58 = .ok (.aload_n 0, 1) := by decide +kernel
theorem dX6_behindLetter_59 : decode cX6_behindLetter 59 = .ok (.getfield 124, 3) := by decide +kernel
theorem dX6_behindLetter_62 : decode cX6_behindLetter 62 = .ok (.iload_n 1, 1) := by decide +kernel
theorem dX6_behindLetter_63 : decode cX6_behindLetter 63 = .ok (.bipush 108, 2) := by decide +kernel
theorem dX6_behindLetter_65 : decode cX6_behindLetter 65 = .ok (.if_icmp .ne 7, 3) := by decide +kernel
theorem dX6_behindLetter_68 : decode cX6_behindLetter 68 = .ok (.iconst 0, 1) := by decide +kernel
theorem dX6_behindLetter_69 : decode cX6_behindLetter 69 = .ok (.goto 14, 3) := by decide +kernel
theorem dX6_behindLetter_72 : decode cX6_behindLetter 72 = .ok (.iload_n 1, 1) := by decide +kernel
theorem dX6_behindLetter_73 : decode cX6_behindLetter 73 = .ok (.bipush 114, 2) := by decide +kernel
theorem dX6_behindLetter_75 : decode cX6_behindLetter 75 = .ok (.if_icmp .ne 7, 3) := by decide +kernel
theorem dX6_behindLetter_78 : decode cX6_behindLetter 78 = .ok (.iconst 1, 1) := by decide +kernel
theorem dX6_behindLetter_79 : decode cX6_behindLetter 79 = .ok (.goto 4, 3) := by decide +kernel
theorem dX6_behindLetter_82 : decode cX6_behindLetter 82 = .ok (.iconst 5, 1) := by decide +kernel
theorem dX6_behindLetter_83 : decode cX6_behindLetter 83 = .ok (.iastore, 1) := by decide +kernel
theorem dX6_behindLetter_84 : decode cX6_behindLetter 84 = .ok (.iload_n 1, 1) := by decide +kernel
theorem dX6_behindLetter_85 : decode cX6_behindLetter 85 = .ok (.bipush 108, 2) := by decide +kernel
theorem dX6_behindLetter_87 : decode cX6_behindLetter 87 = .ok (.if_icmp .eq 9, 3) := by decide +kernel
theorem dX6_behindLetter_90 : decode cX6_behindLetter 90 = .ok (.iload_n 1, 1) := by decide +kernel
theorem dX6_behindLetter_91 : decode cX6_behindLetter 91 = .ok (.bipush 114, 2) := by decide +kernel
theorem dX6_behindLetter_93 : decode cX6_behindLetter 93 = .ok (.if_icmp .ne 7, 3) := by decide +kernel
theorem dX6_behindLetter_96 : decode cX6_behindLetter 96 = .ok (.iconst 3, 1) := by decide +kernel
theorem dX6_behindLetter_97 : decode cX6_behindLetter 97 = .ok (.goto 15, 3) := by decide +kernel
theorem dX6_behindLetter_100 : decode cX6_behindLetter 100 = .ok (.iload_n 1, 1) := by decide +kernel
theorem dX6_behindLetter_101 : decode cX6_behindLetter 101 = .ok (.bipush 62, 2) := by decide +kernel
theorem dX6_behindLetter_103 : decode cX6_behindLetter 103 = .ok (.if_icmp .ne 7, 3) := by decide +kernel
theorem dX6_behindLetter_106 : decode cX6_behindLetter 106 = .ok (.iconst 2, 1) := by decide +kernel
theorem dX6_behindLetter_107 : decode cX6_behindLetter 107 = .ok (.goto 5, 3) := by decide +kernel
theorem dX6_behindLetter_110 : decode cX6_behindLetter 110 = .ok (.bipush (-6), 2) := by decide +kernel
theorem dX6_behindLetter_112 : decode cX6_behindLetter 112 = .ok (.ireturn, 1) := by decide +kernel
set_option maxRecDepth 20000 in
theorem ggX6_readOn_X6_begin : GoodIn wsX6_readOn wsX6_begin := goodIn_r _ [13, 14, 2, 3, 1, 15, 16, 12, 17, 18, 19, 20, 21, 22, 23, 24, 25, 26, 8, 31, 32, 33, 34, 35, 36, 37, 38, 39, 40, 41, 42, 43, 44, 45, 46, 47, 48, 49, 50, 51, 52, 53, 54, 55, 56, 57, 58, 59, 60, 61, 62, 63, 64] (by decide +kernel) (by decide +kernel)
set_option maxRecDepth 20000 in
theorem gX6_readOn_X6_begin : GoodIn wsX6_readOn (wsV RX6 133 RX6 yX6_begin wsX6_begin) := goodIn_app (goodIn_of _ (by decide +kernel)) ggX6_readOn_X6_begin
set_option maxRecDepth 20000 in
theorem ggX6_readOn_X6_behindLetter : GoodIn wsX6_readOn wsX6_behindLetter := goodIn_r _ [30, 1, 2, 8, 15, 16, 12, 17, 18, 19, 20, 21, 22, 23, 24, 25, 26, 31, 32, 33, 34, 35, 36, 37, 38, 39, 40, 41, 42, 43, 44, 45, 46, 47, 48, 49, 50, 51, 52, 53, 54, 55, 56, 57, 58, 59, 60, 61, 62, 63, 64] (by decide +kernel) (by decide +kernel)
set_option maxRecDepth 20000 in
theorem gX6_readOn_X6_behindLetter : GoodIn wsX6_readOn (wsV RX6 136 RX6 yX6_behindLetter wsX6_behindLetter) := goodIn_app (goodIn_of _ (by decide +kernel)) ggX6_readOn_X6_behindLetter
set_option maxRecDepth 20000 in
theorem ggX6_readOn_X6_isLetter : GoodIn wsX6_readOn wsX6_isLetter := goodIn_r _ [17, 18, 19, 20, 21, 12, 22] (by decide +kernel) (by decide +kernel)
set_option maxRecDepth 20000 in
theorem gX6_readOn_X6_isLetter : GoodIn wsX6_readOn (va_wsS RX6 127 yX6_isLetter wsX6_isLetter) := goodIn_app (goodIn_of _ (by decide +kernel)) ggX6_readOn_X6_isLetter
set_option maxRecDepth 20000 in
theorem ggX6_readOn_X6_in : GoodIn wsX6_readOn wsX6_in := goodIn_r _ [22] (by decide +kernel) (by decide +kernel)
set_option maxRecDepth 20000 in
theorem gX6_readOn_X6_in : GoodIn wsX6_readOn (va_wsS RX6 81 yX6_in wsX6_in) := goodIn_app (goodIn_of _ (by decide +kernel)) ggX6_readOn_X6_in
set_option maxRecDepth 20000 in
theorem ggX6_readOn_X6_close : GoodIn wsX6_readOn wsX6_close := goodIn_r _ [26, 8, 2, 31, 32, 33, 34, 35, 36, 37, 38, 39, 40, 41, 42, 43, 44, 45, 46, 47, 48, 49, 50, 51, 52, 53, 54, 55, 56, 57, 58, 59, 60, 61, 62, 63, 64] (by decide +kernel) (by decide +kernel)
set_option maxRecDepth 20000 in
theorem gX6_readOn_X6_close : GoodIn wsX6_readOn (wsV RX6 130 RX6 yX6_close wsX6_close) := goodIn_app (goodIn_of _ (by decide +kernel)) ggX6_readOn_X6_close
theorem dX6_readOn_0 : decode cX6_readOn 0 = .ok (.iload_n 1, 1) := by decide +kernel
theorem dX6_readOn_1 : decode cX6_readOn 1 = .ok (.tableswitch 107 0 3 #[31, 37, 43, 70], 31) := by decide +kernel
theorem dX6_readOn_32 : decode cX6_readOn 32 = .ok (.aload_n 0, 1) := by decide +kernel
theorem dX6_readOn_33 : decode cX6_readOn 33 = .ok (.iload_n 2, 1) := by decide +kernel
theorem dX6_readOn_34 : decode cX6_readOn 34 = .ok (.invokevirtual 133, 3) := by decide +kernel
theorem dX6_readOn_37 : decode cX6_readOn 37 = .ok (.ireturn, 1) := by decide +kernel
theorem dX6_readOn_38 : decode cX6_readOn 38 = .ok (.aload_n 0, 1) := by decide +kernel
theorem dX6_readOn_39 : decode cX6_readOn 39 = .ok (.iload_n 2, 1) := by decide +kernel
theorem dX6_readOn_40 : decode cX6_readOn 40 = .ok (.invokevirtual 136, 3) := by decide +kernel
theorem dX6_readOn_43 : decode cX6_readOn 43 = .ok (.ireturn, 1) := by decide +kernel
theorem dX6_readOn_44 : decode cX6_readOn 44 = .ok (.aload_n 0, 1) := by decide +kernel
theorem dX6_readOn_45 : decode cX6_readOn 45 = .ok (.getfield 40, 3) := by decide +kernel
theorem dX6_readOn_48 : decode cX6_readOn 48 = .ok (.aload_n 0, 1) := by decide +kernel
theorem dX6_readOn_49 : decode cX6_readOn 49 = .ok (.getfield 124, 3) := by decide +kernel
theorem dX6_readOn_52 : decode cX6_readOn 52 = .ok (.iload_n 2, 1) := by decide +kernel
theorem dX6_readOn_53 : decode cX6_readOn 53 = .ok (.bipush 65, 2) := by decide +kernel
theorem dX6_readOn_55 : decode cX6_readOn 55 = .ok (.isub, 1) := by decide +kernel
theorem dX6_readOn_56 : decode cX6_readOn 56 = .ok (.iastore, 1) := by decide +kernel
theorem dX6_readOn_57 : decode cX6_readOn 57 = .ok (.iload_n 2, 1) := by decide +kernel
theorem dX6_readOn_58 : decode cX6_readOn 58 = .ok (.invokestatic 127, 3) := by decide +kernel
theorem dX6_readOn_61 : decode cX6_readOn 61 = .ok (.ifCond .eq 7, 3) := by decide +kernel
theorem dX6_readOn_64 : decode cX6_readOn 64 = .ok (.iconst 3, 1) := by decide +kernel
theorem dX6_readOn_65 : decode cX6_readOn 65 = .ok (.goto 5, 3) := by decide +kernel
theorem dX6_readOn_68 : decode cX6_readOn 68 = .ok (.bipush (-6), 2) := by decide +kernel
theorem dX6_readOn_70 : decode cX6_readOn 70 = .ok (.ireturn, 1) := by decide +kernel
theorem dX6_readOn_71 : decode cX6_readOn 71 = .ok (.aload_n 0, 1) := by decide +kernel
theorem dX6_readOn_72 : decode cX6_readOn 72 = .ok (.getfield 37, 3) := by decide +kernel
theorem dX6_readOn_75 : decode cX6_readOn 75 = .ok (.aload_n 0, 1) := by decide +kernel
theorem dX6_readOn_76 : decode cX6_readOn 76 = .ok (.getfield 124, 3) := by decide +kernel
theorem dX6_readOn_79 : decode cX6_readOn 79 = .ok (.bipush 10, 2) := by decide +kernel
theorem dX6_readOn_81 : decode cX6_readOn 81 = .ok (.iload_n 2, 1) := by decide +kernel
theorem dX6_readOn_82 : decode cX6_readOn 82 = .ok (.bipush 48, 2) := by decide +kernel
theorem dX6_readOn_84 : decode cX6_readOn 84 = .ok (.isub, 1) := by decide +kernel
theorem dX6_readOn_85 : decode cX6_readOn 85 = .ok (.imul, 1) := by decide +kernel
theorem dX6_readOn_86 : decode cX6_readOn 86 = .ok (.iastore, 1) := by decide +kernel
theorem dX6_readOn_87 : decode cX6_readOn 87 = .ok (.iload_n 2, 1) := by decide +kernel
theorem dX6_readOn_88 : decode cX6_readOn 88 = .ok (.i2l, 1) := by decide +kernel
theorem dX6_readOn_89 : decode cX6_readOn 89 = .ok (.ldc2_w 139, 3) := by decide +kernel
theorem dX6_readOn_92 : decode cX6_readOn 92 = .ok (.ldc2_w 141, 3) := by decide +kernel
theorem dX6_readOn_95 : decode cX6_readOn 95 = .ok (.invokestatic 81, 3) := by decide +kernel
theorem dX6_readOn_98 : decode cX6_readOn 98 = .ok (.ifCond .eq 7, 3) := by decide +kernel
theorem dX6_readOn_101 : decode cX6_readOn 101 = .ok (.iconst 4, 1) := by decide +kernel
theorem dX6_readOn_102 : decode cX6_readOn 102 = .ok (.goto 5, 3) := by decide +kernel
theorem dX6_readOn_105 : decode cX6_readOn 105 = .ok (.bipush (-6), 2) := by decide +kernel
theorem dX6_readOn_107 : decode cX6_readOn 107 = .ok (.ireturn, 1) := by decide +kernel
theorem dX6_readOn_108 : decode cX6_readOn 108 = .ok (.iload_n 2, 1) := by decide +kernel
theorem dX6_readOn_109 : decode cX6_readOn 109 = .ok (.i2l, 1) := by decide +kernel
theorem dX6_readOn_110 : decode cX6_readOn 110 = .ok (.ldc2_w 139, 3) := by decide +kernel
theorem dX6_readOn_113 : decode cX6_readOn 113 = .ok (.aload_n 0, 1) := by decide +kernel
theorem dX6_readOn_114 : decode cX6_readOn 114 = .ok (.getfield 37, 3) := by decide +kernel
theorem dX6_readOn_117 : decode cX6_readOn 117 = .ok (.aload_n 0, 1) := by decide +kernel
theorem dX6_readOn_118 : decode cX6_readOn 118 = .ok (.getfield 124, 3) := by decide +kernel
theorem dX6_readOn_121 : decode cX6_readOn 121 = .ok (.iaload, 1) := by decide +kernel
theorem dX6_readOn_122 : decode cX6_readOn 122 = .ok (.bipush 20, 2) := by decide +kernel
theorem dX6_readOn_124 : decode cX6_readOn 124 = .ok (.if_icmp .ne 9, 3) := by decide +kernel
theorem dX6_readOn_127 : decode cX6_readOn 127 = .ok (.ldc2_w 143, 3) := by decide +kernel
theorem dX6_readOn_130 : decode cX6_readOn 130 = .ok (.goto 6, 3) := by decide +kernel
theorem dX6_readOn_133 : decode cX6_readOn 133 = .ok (.ldc2_w 145, 3) := by decide +kernel
theorem dX6_readOn_136 : decode cX6_readOn 136 = .ok (.invokestatic 81, 3) := by decide +kernel
theorem dX6_readOn_139 : decode cX6_readOn 139 = .ok (.istore_n 3, 1) := by decide +kernel
theorem dX6_readOn_140 : decode cX6_readOn 140 = .ok (.aload_n 0, 1) := by decide +kernel
theorem dX6_readOn_141 : decode cX6_readOn 141 = .ok (.getfield 37, 3) := by decide +kernel
theorem dX6_readOn_144 : decode cX6_readOn 144 = .ok (.aload_n 0, 1) := by decide +kernel
theorem dX6_readOn_145 : decode cX6_readOn 145 = .ok (.getfield 124, 3) := by decide +kernel
theorem dX6_readOn_148 : decode cX6_readOn 148 = .ok (.dup2, 1) := by decide +kernel
theorem dX6_readOn_149 : decode cX6_readOn 149 = .ok (.iaload, 1) := by decide +kernel
theorem dX6_readOn_150 : decode cX6_readOn 150 = .ok (.iload_n 2, 1) := by decide +kernel
theorem dX6_readOn_151 : decode cX6_readOn 151 = .ok (.bipush 48, 2) := by decide +kernel
theorem dX6_readOn_153 : decode cX6_readOn 153 = .ok (.isub, 1) := by decide +kernel
theorem dX6_readOn_154 : decode cX6_readOn 154 = .ok (.iadd, 1) := by decide +kernel
theorem dX6_readOn_155 : decode cX6_readOn 155 = .ok (.iastore, 1) := by decide +kernel
theorem dX6_readOn_156 : decode cX6_readOn 156 = .ok (.iload_n 3, 1) := by decide +kernel
theorem dX6_readOn_157 : decode cX6_readOn 157 = .ok (.ifCond .eq 19, 3) := by decide +kernel
theorem dX6_readOn_160 : decode cX6_readOn 160 = .ok (.aload_n 0, 1) := by decide +kernel
theorem dX6_readOn_161 : decode cX6_readOn 161 = .ok (.aload_n 0, 1) := by decide +kernel
theorem dX6_readOn_162 : decode cX6_readOn 162 = .ok (.getfield 31, 3) := by decide +kernel
theorem dX6_readOn_165 : decode cX6_readOn 165 = .ok (.aload_n 0, 1) := by decide +kernel
theorem dX6_readOn_166 : decode cX6_readOn 166 = .ok (.getfield 124, 3) := by decide +kernel
theorem dX6_readOn_169 : decode cX6_readOn 169 = .ok (.iaload, 1) := by decide +kernel
theorem dX6_readOn_170 : decode cX6_readOn 170 = .ok (.invokevirtual 130, 3) := by decide +kernel
theorem dX6_readOn_173 : decode cX6_readOn 173 = .ok (.goto 5, 3) := by decide +kernel
theorem dX6_readOn_176 : decode cX6_readOn 176 = .ok (.bipush (-6), 2) := by decide +kernel
theorem dX6_readOn_178 : decode cX6_readOn 178 = .ok (.ireturn, 1) := by decide +kernel
set_option maxRecDepth 20000 in
theorem ggX6_fault_X6_readOn : GoodIn wsX6_fault wsX6_readOn := goodIn_r _ [8, 9, 1, 10, 11, 12, 13, 14, 15, 16, 17, 18, 7, 19, 20, 21, 22, 23, 24, 25, 26, 27, 28, 29, 30, 31, 32, 33, 34, 35, 36, 37, 38, 39, 40, 41, 42, 43, 44, 45, 46, 47, 48, 49, 50, 51, 52, 53, 54, 55, 56, 57, 58, 59, 60, 61, 62, 63, 64, 65, 66, 67, 68, 69, 70] (by decide +kernel) (by decide +kernel)
set_option maxRecDepth 20000 in
theorem gX6_fault_X6_readOn : GoodIn wsX6_fault (wsV RX6 147 RX6 yX6_readOn wsX6_readOn) := goodIn_app (goodIn_of _ (by decide +kernel)) ggX6_fault_X6_readOn
theorem dX6_fault_0 : decode cX6_fault 0 = .ok (.aload_n 0, 1) := by decide +kernel
theorem dX6_fault_1 : decode cX6_fault 1 = .ok (.iconst 0, 1) := by decide +kernel
theorem dX6_fault_2 : decode cX6_fault 2 = .ok (.putfield 124, 3) := by decide +kernel
theorem dX6_fault_5 : decode cX6_fault 5 = .ok (.iconst 0, 1) := by decide +kernel
theorem dX6_fault_6 : decode cX6_fault 6 = .ok (.istore_n 1, 1) := by decide +kernel
theorem dX6_fault_7 : decode cX6_fault 7 = .ok (.iconst 0, 1) := by decide +kernel
theorem dX6_fault_8 : decode cX6_fault 8 = .ok (.istore_n 2, 1) := by decide +kernel
theorem dX6_fault_9 : decode cX6_fault 9 = .ok (.iload_n 2, 1) := by decide +kernel
theorem dX6_fault_10 : decode cX6_fault 10 = .ok (.aload_n 0, 1) := by decide +kernel
theorem dX6_fault_11 : decode cX6_fault 11 = .ok (.getfield 117, 3) := by decide +kernel
theorem dX6_fault_14 : decode cX6_fault 14 = .ok (.if_icmp .ge 27, 3) := by decide +kernel
theorem dX6_fault_17 : decode cX6_fault 17 = .ok (.aload_n 0, 1) := by decide +kernel
theorem dX6_fault_18 : decode cX6_fault 18 = .ok (.iload_n 1, 1) := by decide +kernel
theorem dX6_fault_19 : decode cX6_fault 19 = .ok (.aload_n 0, 1) := by decide +kernel
theorem dX6_fault_20 : decode cX6_fault 20 = .ok (.getfield 28, 3) := by decide +kernel
theorem dX6_fault_23 : decode cX6_fault 23 = .ok (.iload_n 2, 1) := by decide +kernel
theorem dX6_fault_24 : decode cX6_fault 24 = .ok (.iaload, 1) := by decide +kernel
theorem dX6_fault_25 : decode cX6_fault 25 = .ok (.invokevirtual 147, 3) := by decide +kernel
theorem dX6_fault_28 : decode cX6_fault 28 = .ok (.istore_n 1, 1) := by decide +kernel
theorem dX6_fault_29 : decode cX6_fault 29 = .ok (.iload_n 1, 1) := by decide +kernel
theorem dX6_fault_30 : decode cX6_fault 30 = .ok (.ifCond .ge 5, 3) := by decide +kernel
theorem dX6_fault_33 : decode cX6_fault 33 = .ok (.iload_n 2, 1) := by decide +kernel
theorem dX6_fault_34 : decode cX6_fault 34 = .ok (.ireturn, 1) := by decide +kernel
theorem dX6_fault_35 : decode cX6_fault 35 = .ok (.iinc 2 1, 3) := by decide +kernel
theorem dX6_fault_38 : decode cX6_fault 38 = .ok (.goto (-29), 3) := by decide +kernel
theorem dX6_fault_41 : decode cX6_fault 41 = .ok (.iload_n 1, 1) := by decide +kernel
theorem dX6_fault_42 : decode cX6_fault 42 = .ok (.ifCond .ne 8, 3) := by decide +kernel
theorem dX6_fault_45 : decode cX6_fault 45 = .ok (.bipush (-6), 2) := by decide +kernel
theorem dX6_fault_47 : decode cX6_fault 47 = .ok (.goto 7, 3) := by decide +kernel
theorem dX6_fault_50 : decode cX6_fault 50 = .ok (.aload_n 0, 1) := by decide +kernel
theorem dX6_fault_51 : decode cX6_fault 51 = .ok (.getfield 117, 3) := by decide +kernel
theorem dX6_fault_54 : decode cX6_fault 54 = .ok (.ireturn, 1) := by decide +kernel
set_option maxRecDepth 20000 in
theorem ggX6_isProper_X6_isCourtier : GoodIn wsX6_isProper wsX6_isCourtier := goodIn_r _ [8, 9, 10, 11, 12, 7, 13, 14, 15, 16, 17, 18, 19, 20, 21, 22, 23, 24, 25, 26, 27, 28, 29, 30, 31, 32, 33, 34, 35, 36, 37, 38, 39, 40, 41, 42, 43, 44, 45, 46, 47] (by decide +kernel) (by decide +kernel)
set_option maxRecDepth 20000 in
theorem gX6_isProper_X6_isCourtier : GoodIn wsX6_isProper (wsV RX6 90 RX6 yX6_isCourtier wsX6_isCourtier) := goodIn_app (goodIn_of _ (by decide +kernel)) ggX6_isProper_X6_isCourtier
theorem dX6_isProper_0 : decode cX6_isProper 0 = .ok (.aload_n 0, 1) := by decide +kernel
theorem dX6_isProper_1 : decode cX6_isProper 1 = .ok (.getfield 110, 3) := by decide +kernel
theorem dX6_isProper_4 : decode cX6_isProper 4 = .ok (.bipush 24, 2) := by decide +kernel
theorem dX6_isProper_6 : decode cX6_isProper 6 = .ok (.iadd, 1) := by decide +kernel
theorem dX6_isProper_7 : decode cX6_isProper 7 = .ok (.iconst 1, 1) := by decide +kernel
theorem dX6_isProper_8 : decode cX6_isProper 8 = .ok (.isub, 1) := by decide +kernel
theorem dX6_isProper_9 : decode cX6_isProper 9 = .ok (.bipush 24, 2) := by decide +kernel
theorem dX6_isProper_11 : decode cX6_isProper 11 = .ok (.irem, 1) := by decide +kernel
theorem dX6_isProper_12 : decode cX6_isProper 12 = .ok (.istore_n 2, 1) := by decide +kernel
theorem dX6_isProper_13 : decode cX6_isProper 13 = .ok (.aload_n 0, 1) := by decide +kernel
theorem dX6_isProper_14 : decode cX6_isProper 14 = .ok (.iload_n 1, 1) := by decide +kernel
theorem dX6_isProper_15 : decode cX6_isProper 15 = .ok (.invokevirtual 90, 3) := by decide +kernel
theorem dX6_isProper_18 : decode cX6_isProper 18 = .ok (.ifCond .eq 43, 3) := by decide +kernel
theorem dX6_isProper_21 : decode cX6_isProper 21 = .ok (.aload_n 0, 1) := by decide +kernel
theorem dX6_isProper_22 : decode cX6_isProper 22 = .ok (.getfield 13, 3) := by decide +kernel
theorem dX6_isProper_25 : decode cX6_isProper 25 = .ok (.iload_n 1, 1) := by decide +kernel
theorem dX6_isProper_26 : decode cX6_isProper 26 = .ok (.iaload, 1) := by decide +kernel
theorem dX6_isProper_27 : decode cX6_isProper 27 = .ok (.aload_n 0, 1) := by decide +kernel
theorem dX6_isProper_28 : decode cX6_isProper 28 = .ok (.getfield 110, 3) := by decide +kernel
theorem dX6_isProper_31 : decode cX6_isProper 31 = .ok (.if_icmp .ne 30, 3) := by decide +kernel
theorem dX6_isProper_34 : decode cX6_isProper 34 = .ok (.aload_n 0, 1) := by decide +kernel
theorem dX6_isProper_35 : decode cX6_isProper 35 = .ok (.getfield 7, 3) := by decide +kernel
theorem dX6_isProper_38 : decode cX6_isProper 38 = .ok (.iload_n 1, 1) := by decide +kernel
theorem dX6_isProper_39 : decode cX6_isProper 39 = .ok (.iaload, 1) := by decide +kernel
theorem dX6_isProper_40 : decode cX6_isProper 40 = .ok (.aload_n 0, 1) := by decide +kernel
theorem dX6_isProper_41 : decode cX6_isProper 41 = .ok (.getfield 110, 3) := by decide +kernel
theorem dX6_isProper_44 : decode cX6_isProper 44 = .ok (.if_icmp .eq 13, 3) := by decide +kernel
theorem dX6_isProper_47 : decode cX6_isProper 47 = .ok (.aload_n 0, 1) := by decide +kernel
theorem dX6_isProper_48 : decode cX6_isProper 48 = .ok (.getfield 7, 3) := by decide +kernel
theorem dX6_isProper_51 : decode cX6_isProper 51 = .ok (.iload_n 1, 1) := by decide +kernel
theorem dX6_isProper_52 : decode cX6_isProper 52 = .ok (.iaload, 1) := by decide +kernel
theorem dX6_isProper_53 : decode cX6_isProper 53 = .ok (.iload_n 2, 1) := by decide +kernel
theorem dX6_isProper_54 : decode cX6_isProper 54 = .ok (.if_icmp .ne 7, 3) := by decide +kernel
theorem dX6_isProper_57 : decode cX6_isProper 57 = .ok (.iconst 1, 1) := by decide +kernel
theorem dX6_isProper_58 : decode cX6_isProper 58 = .ok (.goto 4, 3) := by decide +kernel
theorem dX6_isProper_61 : decode cX6_isProper 61 = .ok (.iconst 0, 1) := by decide +kernel
theorem dX6_isProper_62 : decode cX6_isProper 62 = .ok (.ireturn, 1) := by decide +kernel
set_option maxRecDepth 20000 in
theorem ggX6_whyNotTwo_X6_isCourtier : GoodIn wsX6_whyNotTwo wsX6_isCourtier := goodIn_r _ [6, 7, 8, 9, 10, 5, 11, 20, 21, 22, 23, 24, 25, 26, 27, 28, 29, 30, 31, 32, 33, 34, 35, 36, 37, 38, 39, 40, 41, 42, 43, 44, 45, 46, 47, 48, 49, 50, 51, 52, 53] (by decide +kernel) (by decide +kernel)
set_option maxRecDepth 20000 in
theorem gX6_whyNotTwo_X6_isCourtier : GoodIn wsX6_whyNotTwo (wsV RX6 90 RX6 yX6_isCourtier wsX6_isCourtier) := goodIn_app (goodIn_of _ (by decide +kernel)) ggX6_whyNotTwo_X6_isCourtier
set_option maxRecDepth 20000 in
theorem ggX6_whyNotTwo_X6_owns : GoodIn wsX6_whyNotTwo wsX6_owns := goodIn_r _ [15, 16, 2, 3, 4, 5, 6, 7, 8, 9, 10, 11, 17, 18, 19, 20, 21, 22, 23, 24, 25, 26, 27, 28, 29, 30, 31, 32, 33, 34, 35, 36, 37, 38, 39, 40, 41, 42, 43, 44, 45, 46, 47, 48, 49, 50, 51, 52, 53] (by decide +kernel) (by decide +kernel)
set_option maxRecDepth 20000 in
theorem gX6_whyNotTwo_X6_owns : GoodIn wsX6_whyNotTwo (wsV RX6 98 RX6 yX6_owns wsX6_owns) := goodIn_app (goodIn_of _ (by decide +kernel)) ggX6_whyNotTwo_X6_owns
theorem dX6_whyNotTwo_0 : decode cX6_whyNotTwo 0 = .ok (.aload_n 0, 1) := by decide +kernel
theorem dX6_whyNotTwo_1 : decode cX6_whyNotTwo 1 = .ok (.iload_n 2, 1) := by decide +kernel
theorem dX6_whyNotTwo_2 : decode cX6_whyNotTwo 2 = .ok (.invokevirtual 90, 3) := by decide +kernel
theorem dX6_whyNotTwo_5 : decode cX6_whyNotTwo 5 = .ok (.ifCond .eq 11, 3) := by decide +kernel
theorem dX6_whyNotTwo_8 : decode cX6_whyNotTwo 8 = .ok (.aload_n 0, 1) := by decide +kernel
theorem dX6_whyNotTwo_9 : decode cX6_whyNotTwo 9 = .ok (.iload_n 3, 1) := by decide +kernel
theorem dX6_whyNotTwo_10 : decode cX6_whyNotTwo 10 = .ok (.invokevirtual 90, 3) := by decide +kernel
theorem dX6_whyNotTwo_13 : decode cX6_whyNotTwo 13 = .ok (.ifCond .ne 5, 3) := by decide +kernel
theorem dX6_whyNotTwo_16 : decode cX6_whyNotTwo 16 = .ok (.iconst 1, 1) := by decide +kernel
theorem dX6_whyNotTwo_17 : decode cX6_whyNotTwo 17 = .ok (.ireturn, 1) := by decide +kernel
theorem dX6_whyNotTwo_18 : decode cX6_whyNotTwo 18 = .ok (.iload_n 2, 1) := by decide +kernel
theorem dX6_whyNotTwo_19 : decode cX6_whyNotTwo 19 = .ok (.iload_n 3, 1) := by decide +kernel
theorem dX6_whyNotTwo_20 : decode cX6_whyNotTwo 20 = .ok (.if_icmp .ne 5, 3) := by decide +kernel
theorem dX6_whyNotTwo_23 : decode cX6_whyNotTwo 23 = .ok (.iconst 2, 1) := by decide +kernel
theorem dX6_whyNotTwo_24 : decode cX6_whyNotTwo 24 = .ok (.ireturn, 1) := by decide +kernel
theorem dX6_whyNotTwo_25 : decode cX6_whyNotTwo 25 = .ok (.iload_n 1, 1) := by decide +kernel
theorem dX6_whyNotTwo_26 : decode cX6_whyNotTwo 26 = .ok (.iconst 5, 1) := by decide +kernel
theorem dX6_whyNotTwo_27 : decode cX6_whyNotTwo 27 = .ok (.if_icmp .ne 33, 3) := by decide +kernel
theorem dX6_whyNotTwo_30 : decode cX6_whyNotTwo 30 = .ok (.aload_n 0, 1) := by decide +kernel
theorem dX6_whyNotTwo_31 : decode cX6_whyNotTwo 31 = .ok (.iload_n 2, 1) := by decide +kernel
theorem dX6_whyNotTwo_32 : decode cX6_whyNotTwo 32 = .ok (.iload 4, 2) := by decide +kernel
theorem dX6_whyNotTwo_34 : decode cX6_whyNotTwo 34 = .ok (.invokevirtual 98, 3) := by decide +kernel
theorem dX6_whyNotTwo_37 : decode cX6_whyNotTwo 37 = .ok (.ifCond .ne 7, 3) := by decide +kernel
theorem dX6_whyNotTwo_40 : decode cX6_whyNotTwo 40 = .ok (.iconst 3, 1) := by decide +kernel
theorem dX6_whyNotTwo_41 : decode cX6_whyNotTwo 41 = .ok (.goto 18, 3) := by decide +kernel
theorem dX6_whyNotTwo_44 : decode cX6_whyNotTwo 44 = .ok (.aload_n 0, 1) := by decide +kernel
theorem dX6_whyNotTwo_45 : decode cX6_whyNotTwo 45 = .ok (.iload_n 3, 1) := by decide +kernel
theorem dX6_whyNotTwo_46 : decode cX6_whyNotTwo 46 = .ok (.iload 4, 2) := by decide +kernel
theorem dX6_whyNotTwo_48 : decode cX6_whyNotTwo 48 = .ok (.invokevirtual 98, 3) := by decide +kernel
theorem dX6_whyNotTwo_51 : decode cX6_whyNotTwo 51 = .ok (.ifCond .eq 7, 3) := by decide +kernel
theorem dX6_whyNotTwo_54 : decode cX6_whyNotTwo 54 = .ok (.iconst 4, 1) := by decide +kernel
theorem dX6_whyNotTwo_55 : decode cX6_whyNotTwo 55 = .ok (.goto 4, 3) := by decide +kernel
theorem dX6_whyNotTwo_58 : decode cX6_whyNotTwo 58 = .ok (.iconst 0, 1) := by decide +kernel
theorem dX6_whyNotTwo_59 : decode cX6_whyNotTwo 59 = .ok (.ireturn, 1) := by decide +kernel
theorem dX6_whyNotTwo_60 : decode cX6_whyNotTwo 60 = .ok (.aload_n 0, 1) := by decide +kernel
theorem dX6_whyNotTwo_61 : decode cX6_whyNotTwo 61 = .ok (.getfield 13, 3) := by decide +kernel
theorem dX6_whyNotTwo_64 : decode cX6_whyNotTwo 64 = .ok (.iload_n 2, 1) := by decide +kernel
theorem dX6_whyNotTwo_65 : decode cX6_whyNotTwo 65 = .ok (.iaload, 1) := by decide +kernel
theorem dX6_whyNotTwo_66 : decode cX6_whyNotTwo 66 = .ok (.bipush 24, 2) := by decide +kernel
theorem dX6_whyNotTwo_68 : decode cX6_whyNotTwo 68 = .ok (.if_icmp .eq 14, 3) := by decide +kernel
theorem dX6_whyNotTwo_71 : decode cX6_whyNotTwo 71 = .ok (.aload_n 0, 1) := by decide +kernel
theorem dX6_whyNotTwo_72 : decode cX6_whyNotTwo 72 = .ok (.getfield 13, 3) := by decide +kernel
theorem dX6_whyNotTwo_75 : decode cX6_whyNotTwo 75 = .ok (.iload_n 3, 1) := by decide +kernel
theorem dX6_whyNotTwo_76 : decode cX6_whyNotTwo 76 = .ok (.iaload, 1) := by decide +kernel
theorem dX6_whyNotTwo_77 : decode cX6_whyNotTwo 77 = .ok (.bipush 24, 2) := by decide +kernel
theorem dX6_whyNotTwo_79 : decode cX6_whyNotTwo 79 = .ok (.if_icmp .ne 7, 3) := by decide +kernel
theorem dX6_whyNotTwo_82 : decode cX6_whyNotTwo 82 = .ok (.iconst 5, 1) := by decide +kernel
theorem dX6_whyNotTwo_83 : decode cX6_whyNotTwo 83 = .ok (.goto 24, 3) := by decide +kernel
theorem dX6_whyNotTwo_86 : decode cX6_whyNotTwo 86 = .ok (.aload_n 0, 1) := by decide +kernel
theorem dX6_whyNotTwo_87 : decode cX6_whyNotTwo 87 = .ok (.getfield 13, 3) := by decide +kernel
theorem dX6_whyNotTwo_90 : decode cX6_whyNotTwo 90 = .ok (.iload_n 2, 1) := by decide +kernel
theorem dX6_whyNotTwo_91 : decode cX6_whyNotTwo 91 = .ok (.iaload, 1) := by decide +kernel
theorem dX6_whyNotTwo_92 : decode cX6_whyNotTwo 92 = .ok (.aload_n 0, 1) := by decide +kernel
theorem dX6_whyNotTwo_93 : decode cX6_whyNotTwo 93 = .ok (.getfield 13, 3) := by decide +kernel
theorem dX6_whyNotTwo_96 : decode cX6_whyNotTwo 96 = .ok (.iload_n 3, 1) := by decide +kernel
theorem dX6_whyNotTwo_97 : decode cX6_whyNotTwo 97 = .ok (.iaload, 1) := by decide +kernel
theorem dX6_whyNotTwo_98 : decode cX6_whyNotTwo 98 = .ok (.if_icmp .eq 8, 3) := by decide +kernel
theorem dX6_whyNotTwo_101 : decode cX6_whyNotTwo 101 = .ok (.bipush 6, 2) := by decide +kernel
theorem dX6_whyNotTwo_103 : decode cX6_whyNotTwo 103 = .ok (.goto 4, 3) := by decide +kernel
theorem dX6_whyNotTwo_106 : decode cX6_whyNotTwo 106 = .ok (.iconst 0, 1) := by decide +kernel
theorem dX6_whyNotTwo_107 : decode cX6_whyNotTwo 107 = .ok (.ireturn, 1) := by decide +kernel
set_option maxRecDepth 20000 in
theorem ggX6_whyNot_X6_whyNotTwo : GoodIn wsX6_whyNot wsX6_whyNotTwo := goodIn_r _ [6, 1, 7, 8, 9, 5, 10, 11, 12, 13, 14, 15, 16, 17, 18, 19, 20, 21, 22, 23, 24, 25, 26, 27, 28, 29, 30, 31, 32, 33, 34, 35, 36, 37, 38, 39, 40, 41, 42, 43, 44, 45, 46, 47, 48, 49, 50, 51, 52, 53, 54, 55, 56, 57] (by decide +kernel) (by decide +kernel)
set_option maxRecDepth 20000 in
theorem gX6_whyNot_X6_whyNotTwo : GoodIn wsX6_whyNot (wsV RX6 150 RX6 yX6_whyNotTwo wsX6_whyNotTwo) := goodIn_app (goodIn_of _ (by decide +kernel)) ggX6_whyNot_X6_whyNotTwo
set_option maxRecDepth 20000 in
theorem ggX6_whyNot_X6_isCourtier : GoodIn wsX6_whyNot wsX6_isCourtier := goodIn_r _ [10, 11, 12, 13, 14, 5, 15, 24, 25, 26, 27, 28, 29, 30, 31, 32, 33, 34, 35, 36, 37, 38, 39, 40, 41, 42, 43, 44, 45, 46, 47, 48, 49, 50, 51, 52, 53, 54, 55, 56, 57] (by decide +kernel) (by decide +kernel)
set_option maxRecDepth 20000 in
theorem gX6_whyNot_X6_isCourtier : GoodIn wsX6_whyNot (wsV RX6 90 RX6 yX6_isCourtier wsX6_isCourtier) := goodIn_app (goodIn_of _ (by decide +kernel)) ggX6_whyNot_X6_isCourtier
set_option maxRecDepth 20000 in
theorem ggX6_whyNot_X6_owns : GoodIn wsX6_whyNot wsX6_owns := goodIn_r _ [19, 20, 7, 8, 9, 5, 10, 11, 12, 13, 14, 15, 21, 22, 23, 24, 25, 26, 27, 28, 29, 30, 31, 32, 33, 34, 35, 36, 37, 38, 39, 40, 41, 42, 43, 44, 45, 46, 47, 48, 49, 50, 51, 52, 53, 54, 55, 56, 57] (by decide +kernel) (by decide +kernel)
set_option maxRecDepth 20000 in
theorem gX6_whyNot_X6_owns : GoodIn wsX6_whyNot (wsV RX6 98 RX6 yX6_owns wsX6_owns) := goodIn_app (goodIn_of _ (by decide +kernel)) ggX6_whyNot_X6_owns
theorem dX6_whyNot_0 : decode cX6_whyNot 0 = .ok (.iload_n 1, 1) := by decide +kernel
theorem dX6_whyNot_1 : decode cX6_whyNot 1 = .ok (.tableswitch 90 2 6 #[47, 61, 37, 37, 35], 35) := by decide +kernel
theorem dX6_whyNot_36 : decode cX6_whyNot 36 = .ok (.iconst 0, 1) := by decide +kernel
theorem dX6_whyNot_37 : decode cX6_whyNot 37 = .ok (.ireturn, 1) := by decide +kernel
theorem dX6_whyNot_38 : decode cX6_whyNot 38 = .ok (.aload_n 0, 1) := by decide +kernel
theorem dX6_whyNot_39 : decode cX6_whyNot 39 = .ok (.iload_n 1, 1) := by decide +kernel
theorem dX6_whyNot_40 : decode cX6_whyNot 40 = .ok (.iload_n 2, 1) := by decide +kernel
theorem dX6_whyNot_41 : decode cX6_whyNot 41 = .ok (.iload_n 3, 1) := by decide +kernel
theorem dX6_whyNot_42 : decode cX6_whyNot 42 = .ok (.iload 4, 2) := by decide +kernel
theorem dX6_whyNot_44 : decode cX6_whyNot 44 = .ok (.invokevirtual 150, 3) := by decide +kernel
theorem dX6_whyNot_47 : decode cX6_whyNot 47 = .ok (.ireturn, 1) := by decide +kernel
theorem dX6_whyNot_48 : decode cX6_whyNot 48 = .ok (.aload_n 0, 1) := by decide +kernel
theorem dX6_whyNot_49 : decode cX6_whyNot 49 = .ok (.iload_n 2, 1) := by decide +kernel
theorem dX6_whyNot_50 : decode cX6_whyNot 50 = .ok (.invokevirtual 90, 3) := by decide +kernel
theorem dX6_whyNot_53 : decode cX6_whyNot 53 = .ok (.ifCond .eq 7, 3) := by decide +kernel
theorem dX6_whyNot_56 : decode cX6_whyNot 56 = .ok (.iconst 0, 1) := by decide +kernel
theorem dX6_whyNot_57 : decode cX6_whyNot 57 = .ok (.goto 4, 3) := by decide +kernel
theorem dX6_whyNot_60 : decode cX6_whyNot 60 = .ok (.iconst 1, 1) := by decide +kernel
theorem dX6_whyNot_61 : decode cX6_whyNot 61 = .ok (.ireturn, 1) := by decide +kernel
theorem dX6_whyNot_62 : decode cX6_whyNot 62 = .ok (.aload_n 0, 1) := by decide +kernel
theorem dX6_whyNot_63 : decode cX6_whyNot 63 = .ok (.iload_n 2, 1) := by decide +kernel
theorem dX6_whyNot_64 : decode cX6_whyNot 64 = .ok (.invokevirtual 90, 3) := by decide +kernel
theorem dX6_whyNot_67 : decode cX6_whyNot 67 = .ok (.ifCond .ne 7, 3) := by decide +kernel
theorem dX6_whyNot_70 : decode cX6_whyNot 70 = .ok (.iconst 1, 1) := by decide +kernel
theorem dX6_whyNot_71 : decode cX6_whyNot 71 = .ok (.goto 19, 3) := by decide +kernel
theorem dX6_whyNot_74 : decode cX6_whyNot 74 = .ok (.aload_n 0, 1) := by decide +kernel
theorem dX6_whyNot_75 : decode cX6_whyNot 75 = .ok (.getfield 13, 3) := by decide +kernel
theorem dX6_whyNot_78 : decode cX6_whyNot 78 = .ok (.iload_n 2, 1) := by decide +kernel
theorem dX6_whyNot_79 : decode cX6_whyNot 79 = .ok (.iaload, 1) := by decide +kernel
theorem dX6_whyNot_80 : decode cX6_whyNot 80 = .ok (.bipush 24, 2) := by decide +kernel
theorem dX6_whyNot_82 : decode cX6_whyNot 82 = .ok (.if_icmp .ne 7, 3) := by decide +kernel
theorem dX6_whyNot_85 : decode cX6_whyNot 85 = .ok (.iconst 5, 1) := by decide +kernel
theorem dX6_whyNot_86 : decode cX6_whyNot 86 = .ok (.goto 4, 3) := by decide +kernel
theorem dX6_whyNot_89 : decode cX6_whyNot 89 = .ok (.iconst 0, 1) := by decide +kernel
theorem dX6_whyNot_90 : decode cX6_whyNot 90 = .ok (.ireturn, 1) := by decide +kernel
theorem dX6_whyNot_91 : decode cX6_whyNot 91 = .ok (.aload_n 0, 1) := by decide +kernel
theorem dX6_whyNot_92 : decode cX6_whyNot 92 = .ok (.iload_n 2, 1) := by decide +kernel
theorem dX6_whyNot_93 : decode cX6_whyNot 93 = .ok (.invokevirtual 90, 3) := by decide +kernel
theorem dX6_whyNot_96 : decode cX6_whyNot 96 = .ok (.ifCond .ne 7, 3) := by decide +kernel
theorem dX6_whyNot_99 : decode cX6_whyNot 99 = .ok (.iconst 1, 1) := by decide +kernel
theorem dX6_whyNot_100 : decode cX6_whyNot 100 = .ok (.goto 18, 3) := by decide +kernel
theorem dX6_whyNot_103 : decode cX6_whyNot 103 = .ok (.aload_n 0, 1) := by decide +kernel
theorem dX6_whyNot_104 : decode cX6_whyNot 104 = .ok (.iload_n 2, 1) := by decide +kernel
theorem dX6_whyNot_105 : decode cX6_whyNot 105 = .ok (.iload 4, 2) := by decide +kernel
theorem dX6_whyNot_107 : decode cX6_whyNot 107 = .ok (.invokevirtual 98, 3) := by decide +kernel
theorem dX6_whyNot_110 : decode cX6_whyNot 110 = .ok (.ifCond .eq 7, 3) := by decide +kernel
theorem dX6_whyNot_113 : decode cX6_whyNot 113 = .ok (.iconst 0, 1) := by decide +kernel
theorem dX6_whyNot_114 : decode cX6_whyNot 114 = .ok (.goto 4, 3) := by decide +kernel
theorem dX6_whyNot_117 : decode cX6_whyNot 117 = .ok (.iconst 3, 1) := by decide +kernel
theorem dX6_whyNot_118 : decode cX6_whyNot 118 = .ok (.ireturn, 1) := by decide +kernel
set_option maxRecDepth 20000 in
theorem ggX6_lose_X6_at : GoodIn wsX6_lose wsX6_at := goodIn_r _ [7] (by decide +kernel) (by decide +kernel)
set_option maxRecDepth 20000 in
theorem gX6_lose_X6_at : GoodIn wsX6_lose (va_wsS RX6 94 yX6_at wsX6_at) := goodIn_app (goodIn_of _ (by decide +kernel)) ggX6_lose_X6_at
theorem dX6_lose_0 : decode cX6_lose 0 = .ok (.aload_n 0, 1) := by decide +kernel
theorem dX6_lose_1 : decode cX6_lose 1 = .ok (.getfield 19, 3) := by decide +kernel
theorem dX6_lose_4 : decode cX6_lose 4 = .ok (.iload_n 1, 1) := by decide +kernel
theorem dX6_lose_5 : decode cX6_lose 5 = .ok (.iload_n 2, 1) := by decide +kernel
theorem dX6_lose_6 : decode cX6_lose 6 = .ok (.invokestatic 94, 3) := by decide +kernel
theorem dX6_lose_9 : decode cX6_lose 9 = .ok (.bipush (-6), 2) := by decide +kernel
theorem dX6_lose_11 : decode cX6_lose 11 = .ok (.iastore, 1) := by decide +kernel
theorem dX6_lose_12 : decode cX6_lose 12 = .ok (.aload_n 0, 1) := by decide +kernel
theorem dX6_lose_13 : decode cX6_lose 13 = .ok (.getfield 7, 3) := by decide +kernel
theorem dX6_lose_16 : decode cX6_lose 16 = .ok (.iload_n 1, 1) := by decide +kernel
theorem dX6_lose_17 : decode cX6_lose 17 = .ok (.aload_n 0, 1) := by decide +kernel
theorem dX6_lose_18 : decode cX6_lose 18 = .ok (.getfield 7, 3) := by decide +kernel
theorem dX6_lose_21 : decode cX6_lose 21 = .ok (.iload_n 1, 1) := by decide +kernel
theorem dX6_lose_22 : decode cX6_lose 22 = .ok (.iaload, 1) := by decide +kernel
theorem dX6_lose_23 : decode cX6_lose 23 = .ok (.iload_n 2, 1) := by decide +kernel
theorem dX6_lose_24 : decode cX6_lose 24 = .ok (.if_icmp .ne 8, 3) := by decide +kernel
theorem dX6_lose_27 : decode cX6_lose 27 = .ok (.bipush 24, 2) := by decide +kernel
theorem dX6_lose_29 : decode cX6_lose 29 = .ok (.goto 9, 3) := by decide +kernel
theorem dX6_lose_32 : decode cX6_lose 32 = .ok (.aload_n 0, 1) := by decide +kernel
theorem dX6_lose_33 : decode cX6_lose 33 = .ok (.getfield 7, 3) := by decide +kernel
theorem dX6_lose_36 : decode cX6_lose 36 = .ok (.iload_n 1, 1) := by decide +kernel
theorem dX6_lose_37 : decode cX6_lose 37 = .ok (.iaload, 1) := by decide +kernel
theorem dX6_lose_38 : decode cX6_lose 38 = .ok (.iastore, 1) := by decide +kernel
theorem dX6_lose_39 : decode cX6_lose 39 = .ok (.aload_n 0, 1) := by decide +kernel
theorem dX6_lose_40 : decode cX6_lose 40 = .ok (.getfield 13, 3) := by decide +kernel
theorem dX6_lose_43 : decode cX6_lose 43 = .ok (.iload_n 1, 1) := by decide +kernel
theorem dX6_lose_44 : decode cX6_lose 44 = .ok (.aload_n 0, 1) := by decide +kernel
theorem dX6_lose_45 : decode cX6_lose 45 = .ok (.getfield 13, 3) := by decide +kernel
theorem dX6_lose_48 : decode cX6_lose 48 = .ok (.iload_n 1, 1) := by decide +kernel
theorem dX6_lose_49 : decode cX6_lose 49 = .ok (.iaload, 1) := by decide +kernel
theorem dX6_lose_50 : decode cX6_lose 50 = .ok (.iload_n 2, 1) := by decide +kernel
theorem dX6_lose_51 : decode cX6_lose 51 = .ok (.if_icmp .ne 8, 3) := by decide +kernel
theorem dX6_lose_54 : decode cX6_lose 54 = .ok (.bipush 24, 2) := by decide +kernel
theorem dX6_lose_56 : decode cX6_lose 56 = .ok (.goto 9, 3) := by decide +kernel
theorem dX6_lose_59 : decode cX6_lose 59 = .ok (.aload_n 0, 1) := by decide +kernel
theorem dX6_lose_60 : decode cX6_lose 60 = .ok (.getfield 13, 3) := by decide +kernel
theorem dX6_lose_63 : decode cX6_lose 63 = .ok (.iload_n 1, 1) := by decide +kernel
theorem dX6_lose_64 : decode cX6_lose 64 = .ok (.iaload, 1) := by decide +kernel
theorem dX6_lose_65 : decode cX6_lose 65 = .ok (.iastore, 1) := by decide +kernel
theorem dX6_lose_66 : decode cX6_lose 66 = .ok (.return_, 1) := by decide +kernel
set_option maxRecDepth 20000 in
theorem ggX6_doDeed_X6_at : GoodIn wsX6_doDeed wsX6_at := goodIn_r _ [14] (by decide +kernel) (by decide +kernel)
