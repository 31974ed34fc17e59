theorem dX6_tear_235 : decode cX6_tear 235 = .ok (.lload 6, 2) := by decide +kernel
theorem dX6_tear_237 : decode cX6_tear 237 = .ok (.aload_n 0, 1) := by decide +kernel
theorem dX6_tear_238 : decode cX6_tear 238 = .ok (.getfield 64, 3) := by decide +kernel
theorem dX6_tear_241 : decode cX6_tear 241 = .ok (.iconst 0, 1) := by decide +kernel
theorem dX6_tear_242 : decode cX6_tear 242 = .ok (.laload, 1) := by decide +kernel
theorem dX6_tear_243 : decode cX6_tear 243 = .ok (.lsub, 1) := by decide +kernel
theorem dX6_tear_244 : decode cX6_tear 244 = .ok (.goto 5, 3) := by decide +kernel
theorem dX6_tear_247 : decode cX6_tear 247 = .ok (.lload 8, 2) := by decide +kernel
theorem dX6_tear_249 : decode cX6_tear 249 = .ok (.lload 6, 2) := by decide +kernel
theorem dX6_tear_251 : decode cX6_tear 251 = .ok (.iload 5, 2) := by decide +kernel
theorem dX6_tear_253 : decode cX6_tear 253 = .ok (.invokestatic 266, 3) := by decide +kernel
theorem dX6_tear_256 : decode cX6_tear 256 = .ok (.lreturn, 1) := by decide +kernel
set_option maxRecDepth 20000 in
theorem ggX6_vespers_X6_isCourtier : GoodIn wsX6_vespers wsX6_isCourtier := goodIn_r _ [6, 7, 8, 9, 10, 5, 11, 27, 28, 29, 30, 31, 32, 33, 34, 35, 36, 37, 38, 39, 40, 41, 42, 43, 44, 45, 46, 47, 48, 49, 50, 51, 52, 53, 54, 55, 56, 57, 58, 59, 60] (by decide +kernel) (by decide +kernel)
set_option maxRecDepth 20000 in
theorem gX6_vespers_X6_isCourtier : GoodIn wsX6_vespers (wsV RX6 90 RX6 yX6_isCourtier wsX6_isCourtier) := goodIn_app (goodIn_of _ (by decide +kernel)) ggX6_vespers_X6_isCourtier
set_option maxRecDepth 20000 in
theorem ggX6_vespers_X6_in : GoodIn wsX6_vespers wsX6_in := goodIn_r _ [11] (by decide +kernel) (by decide +kernel)
set_option maxRecDepth 20000 in
theorem gX6_vespers_X6_in : GoodIn wsX6_vespers (va_wsS RX6 81 yX6_in wsX6_in) := goodIn_app (goodIn_of _ (by decide +kernel)) ggX6_vespers_X6_in
set_option maxRecDepth 20000 in
theorem ggX6_vespers_X6_pairsOf : GoodIn wsX6_vespers wsX6_pairsOf := goodIn_r _ [15, 16, 17, 18, 5, 19, 20, 2, 3, 4, 6, 7, 8, 9, 10, 11, 21, 22, 23, 27, 28, 29, 30, 31, 32, 33, 34, 35, 36, 37, 38, 39, 40, 41, 42, 43, 44, 45, 46, 47, 48, 49, 50, 51, 52, 53, 54, 55, 56, 57, 58, 59, 60] (by decide +kernel) (by decide +kernel)
set_option maxRecDepth 20000 in
theorem gX6_vespers_X6_pairsOf : GoodIn wsX6_vespers (wsV RX6 237 RX6 yX6_pairsOf wsX6_pairsOf) := goodIn_app (goodIn_of _ (by decide +kernel)) ggX6_vespers_X6_pairsOf
set_option maxRecDepth 20000 in
theorem ggX6_vespers_X6_ones : GoodIn wsX6_vespers wsX6_ones := goodIn_r _ [26] (by decide +kernel) (by decide +kernel)
set_option maxRecDepth 20000 in
theorem gX6_vespers_X6_ones : GoodIn wsX6_vespers (va_wsS RX6 104 yX6_ones wsX6_ones) := goodIn_app (goodIn_of _ (by decide +kernel)) ggX6_vespers_X6_ones
theorem dX6_vespers_0 : decode cX6_vespers 0 = .ok (.aload_n 0, 1) := by decide +kernel
theorem dX6_vespers_1 : decode cX6_vespers 1 = .ok (.iload_n 1, 1) := by decide +kernel
theorem dX6_vespers_2 : decode cX6_vespers 2 = .ok (.invokevirtual 90, 3) := by decide +kernel
theorem dX6_vespers_5 : decode cX6_vespers 5 = .ok (.ifCond .ne 5, 3) := by decide +kernel
theorem dX6_vespers_8 : decode cX6_vespers 8 = .ok (.iconst (-1), 1) := by decide +kernel
theorem dX6_vespers_9 : decode cX6_vespers 9 = .ok (.ireturn, 1) := by decide +kernel
theorem dX6_vespers_10 : decode cX6_vespers 10 = .ok (.iload_n 2, 1) := by decide +kernel
theorem dX6_vespers_11 : decode cX6_vespers 11 = .ok (.i2l, 1) := by decide +kernel
theorem dX6_vespers_12 : decode cX6_vespers 12 = .ok (.lconst 0, 1) := by decide +kernel
theorem dX6_vespers_13 : decode cX6_vespers 13 = .ok (.ldc2_w 243, 3) := by decide +kernel
theorem dX6_vespers_16 : decode cX6_vespers 16 = .ok (.invokestatic 81, 3) := by decide +kernel
theorem dX6_vespers_19 : decode cX6_vespers 19 = .ok (.ifCond .ne 6, 3) := by decide +kernel
theorem dX6_vespers_22 : decode cX6_vespers 22 = .ok (.bipush (-2), 2) := by decide +kernel
theorem dX6_vespers_24 : decode cX6_vespers 24 = .ok (.ireturn, 1) := by decide +kernel
theorem dX6_vespers_25 : decode cX6_vespers 25 = .ok (.iconst 0, 1) := by decide +kernel
theorem dX6_vespers_26 : decode cX6_vespers 26 = .ok (.istore_n 3, 1) := by decide +kernel
theorem dX6_vespers_27 : decode cX6_vespers 27 = .ok (.iconst 0, 1) := by decide +kernel
theorem dX6_vespers_28 : decode cX6_vespers 28 = .ok (.istore 4, 2) := by decide +kernel
theorem dX6_vespers_30 : decode cX6_vespers 30 = .ok (.iload 4, 2) := by decide +kernel
theorem dX6_vespers_32 : decode cX6_vespers 32 = .ok (.bipush 6, 2) := by decide +kernel
theorem dX6_vespers_34 : decode cX6_vespers 34 = .ok (.if_icmp .ge 21, 3) := by decide +kernel
theorem dX6_vespers_37 : decode cX6_vespers 37 = .ok (.iload_n 3, 1) := by decide +kernel
theorem dX6_vespers_38 : decode cX6_vespers 38 = .ok (.aload_n 0, 1) := by decide +kernel
theorem dX6_vespers_39 : decode cX6_vespers 39 = .ok (.iload 4, 2) := by decide +kernel
theorem dX6_vespers_41 : decode cX6_vespers 41 = .ok (.invokevirtual 237, 3) := by decide +kernel
theorem dX6_vespers_44 : decode cX6_vespers 44 = .ok (.invokestatic 104, 3) := by decide +kernel
theorem dX6_vespers_47 : decode cX6_vespers 47 = .ok (.iadd, 1) := by decide +kernel
theorem dX6_vespers_48 : decode cX6_vespers 48 = .ok (.istore_n 3, 1) := by decide +kernel
theorem dX6_vespers_49 : decode cX6_vespers 49 = .ok (.iinc 4 1, 3) := by decide +kernel
theorem dX6_vespers_52 : decode cX6_vespers 52 = .ok (.goto (-22), 3) := by decide +kernel
theorem dX6_vespers_55 : decode cX6_vespers 55 = .ok (.iload_n 3, 1) := by decide +kernel
theorem dX6_vespers_56 : decode cX6_vespers 56 = .ok (.ifCond .ne 5, 3) := by decide +kernel
theorem dX6_vespers_59 : decode cX6_vespers 59 = .ok (.iconst 0, 1) := by decide +kernel
theorem dX6_vespers_60 : decode cX6_vespers 60 = .ok (.ireturn, 1) := by decide +kernel
theorem dX6_vespers_61 : decode cX6_vespers 61 = .ok (.aload_n 0, 1) := by decide +kernel
theorem dX6_vespers_62 : decode cX6_vespers 62 = .ok (.iload_n 1, 1) := by decide +kernel
theorem dX6_vespers_63 : decode cX6_vespers 63 = .ok (.invokevirtual 237, 3) := by decide +kernel
theorem dX6_vespers_66 : decode cX6_vespers 66 = .ok (.invokestatic 104, 3) := by decide +kernel
theorem dX6_vespers_69 : decode cX6_vespers 69 = .ok (.istore 4, 2) := by decide +kernel
theorem dX6_vespers_71 : decode cX6_vespers 71 = .ok (.iload_n 2, 1) := by decide +kernel
theorem dX6_vespers_72 : decode cX6_vespers 72 = .ok (.istore 5, 2) := by decide +kernel
theorem dX6_vespers_74 : decode cX6_vespers 74 = .ok (.iconst 0, 1) := by decide +kernel
theorem dX6_vespers_75 : decode cX6_vespers 75 = .ok (.istore 6, 2) := by decide +kernel
theorem dX6_vespers_77 : decode cX6_vespers 77 = .ok (.iconst 0, 1) := by decide +kernel
theorem dX6_vespers_78 : decode cX6_vespers 78 = .ok (.istore 7, 2) := by decide +kernel
theorem dX6_vespers_80 : decode cX6_vespers 80 = .ok (.iload 7, 2) := by decide +kernel
theorem dX6_vespers_82 : decode cX6_vespers 82 = .ok (.bipush 6, 2) := by decide +kernel
theorem dX6_vespers_84 : decode cX6_vespers 84 = .ok (.if_icmp .ge 70, 3) := by decide +kernel
theorem dX6_vespers_87 : decode cX6_vespers 87 = .ok (.aload_n 0, 1) := by decide +kernel
theorem dX6_vespers_88 : decode cX6_vespers 88 = .ok (.iload 7, 2) := by decide +kernel
theorem dX6_vespers_90 : decode cX6_vespers 90 = .ok (.invokevirtual 237, 3) := by decide +kernel
theorem dX6_vespers_93 : decode cX6_vespers 93 = .ok (.invokestatic 104, 3) := by decide +kernel
theorem dX6_vespers_96 : decode cX6_vespers 96 = .ok (.istore 8, 2) := by decide +kernel
theorem dX6_vespers_98 : decode cX6_vespers 98 = .ok (.iload 5, 2) := by decide +kernel
theorem dX6_vespers_100 : decode cX6_vespers 100 = .ok (.iload_n 2, 1) := by decide +kernel
theorem dX6_vespers_101 : decode cX6_vespers 101 = .ok (.iload 8, 2) := by decide +kernel
theorem dX6_vespers_103 : decode cX6_vespers 103 = .ok (.imul, 1) := by decide +kernel
theorem dX6_vespers_104 : decode cX6_vespers 104 = .ok (.iload_n 3, 1) := by decide +kernel
theorem dX6_vespers_105 : decode cX6_vespers 105 = .ok (.idiv, 1) := by decide +kernel
theorem dX6_vespers_106 : decode cX6_vespers 106 = .ok (.isub, 1) := by decide +kernel
theorem dX6_vespers_107 : decode cX6_vespers 107 = .ok (.istore 5, 2) := by decide +kernel
theorem dX6_vespers_109 : decode cX6_vespers 109 = .ok (.iload 6, 2) := by decide +kernel
theorem dX6_vespers_111 : decode cX6_vespers 111 = .ok (.aload_n 0, 1) := by decide +kernel
theorem dX6_vespers_112 : decode cX6_vespers 112 = .ok (.iload 7, 2) := by decide +kernel
theorem dX6_vespers_114 : decode cX6_vespers 114 = .ok (.invokevirtual 90, 3) := by decide +kernel
theorem dX6_vespers_117 : decode cX6_vespers 117 = .ok (.ifCond .eq 27, 3) := by decide +kernel
theorem dX6_vespers_120 : decode cX6_vespers 120 = .ok (.iload 8, 2) := by decide +kernel
theorem dX6_vespers_122 : decode cX6_vespers 122 = .ok (.iload 4, 2) := by decide +kernel
theorem dX6_vespers_124 : decode cX6_vespers 124 = .ok (.if_icmp .lt 16, 3) := by decide +kernel
theorem dX6_vespers_127 : decode cX6_vespers 127 = .ok (.iload 8, 2) := by decide +kernel
theorem dX6_vespers_129 : decode cX6_vespers 129 = .ok (.iload 4, 2) := by decide +kernel
theorem dX6_vespers_131 : decode cX6_vespers 131 = .ok (.if_icmp .ne 13, 3) := by decide +kernel
theorem dX6_vespers_134 : decode cX6_vespers 134 = .ok (.iload 7, 2) := by decide +kernel
theorem dX6_vespers_136 : decode cX6_vespers 136 = .ok (.iload_n 1, 1) := by decide +kernel
theorem dX6_vespers_137 : decode cX6_vespers 137 = .ok (.if_icmp .ge 7, 3) := by decide +kernel
theorem dX6_vespers_140 : decode cX6_vespers 140 = .ok (.iconst 1, 1) := by decide +kernel
theorem dX6_vespers_141 : decode cX6_vespers 141 = .ok (.goto 4, 3) := by decide +kernel
theorem dX6_vespers_144 : decode cX6_vespers 144 = .ok (.iconst 0, 1) := by decide +kernel
theorem dX6_vespers_145 : decode cX6_vespers 145 = .ok (.iadd, 1) := by decide +kernel
theorem dX6_vespers_146 : decode cX6_vespers 146 = .ok (.istore 6, 2) := by decide +kernel
theorem dX6_vespers_148 : decode cX6_vespers 148 = .ok (.iinc 7 1, 3) := by decide +kernel
theorem dX6_vespers_151 : decode cX6_vespers 151 = .ok (.goto (-71), 3) := by decide +kernel
theorem dX6_vespers_154 : decode cX6_vespers 154 = .ok (.iload_n 2, 1) := by decide +kernel
theorem dX6_vespers_155 : decode cX6_vespers 155 = .ok (.iload 4, 2) := by decide +kernel
theorem dX6_vespers_157 : decode cX6_vespers 157 = .ok (.imul, 1) := by decide +kernel
theorem dX6_vespers_158 : decode cX6_vespers 158 = .ok (.iload_n 3, 1) := by decide +kernel
theorem dX6_vespers_159 : decode cX6_vespers 159 = .ok (.idiv, 1) := by decide +kernel
theorem dX6_vespers_160 : decode cX6_vespers 160 = .ok (.iload 6, 2) := by decide +kernel
theorem dX6_vespers_162 : decode cX6_vespers 162 = .ok (.iload 5, 2) := by decide +kernel
theorem dX6_vespers_164 : decode cX6_vespers 164 = .ok (.if_icmp .ge 7, 3) := by decide +kernel
theorem dX6_vespers_167 : decode cX6_vespers 167 = .ok (.iconst 1, 1) := by decide +kernel
theorem dX6_vespers_168 : decode cX6_vespers 168 = .ok (.goto 4, 3) := by decide +kernel
theorem dX6_vespers_171 : decode cX6_vespers 171 = .ok (.iconst 0, 1) := by decide +kernel
theorem dX6_vespers_172 : decode cX6_vespers 172 = .ok (.iadd, 1) := by decide +kernel
theorem dX6_vespers_173 : decode cX6_vespers 173 = .ok (.ireturn, 1) := by decide +kernel
set_option maxRecDepth 20000 in
theorem ggX6_reign_X6_in : GoodIn wsX6_reign wsX6_in := goodIn_r _ [14] (by decide +kernel) (by decide +kernel)
set_option maxRecDepth 20000 in
theorem gX6_reign_X6_in : GoodIn wsX6_reign (va_wsS RX6 81 yX6_in wsX6_in) := goodIn_app (goodIn_of _ (by decide +kernel)) ggX6_reign_X6_in
set_option maxRecDepth 20000 in
theorem ggX6_reign_X6_store : GoodIn wsX6_reign wsX6_store := goodIn_r _ [18, 19, 20, 8, 21, 22, 81, 82, 83, 84, 85, 86, 87, 88, 89, 90, 91, 92, 93, 94, 95, 96, 97, 98, 99, 100, 101, 102, 103, 104, 105, 106, 107, 108, 109, 110, 111, 112, 113, 114] (by decide +kernel) (by decide +kernel)
set_option maxRecDepth 20000 in
theorem gX6_reign_X6_store : GoodIn wsX6_reign (wsV RX6 201 RX6 yX6_store wsX6_store) := goodIn_app (goodIn_of _ (by decide +kernel)) ggX6_reign_X6_store
set_option maxRecDepth 20000 in
theorem ggX6_reign_X6_beginCount : GoodIn wsX6_reign wsX6_beginCount := goodIn_r _ [26, 9, 27, 10, 81, 82, 83, 84, 85, 86, 87, 88, 89, 90, 91, 92, 93, 94, 95, 96, 97, 98, 99, 100, 101, 102, 103, 104, 105, 106, 107, 108, 109, 110, 111, 112, 113, 114] (by decide +kernel) (by decide +kernel)
set_option maxRecDepth 20000 in
theorem gX6_reign_X6_beginCount : GoodIn wsX6_reign (wsV RX6 181 RX6 yX6_beginCount wsX6_beginCount) := goodIn_app (goodIn_of _ (by decide +kernel)) ggX6_reign_X6_beginCount
set_option maxRecDepth 20000 in
theorem ggX6_reign_X6_whyNot : GoodIn wsX6_reign wsX6_whyNot := goodIn_r _ [31, 20, 32, 33, 34, 13, 35, 36, 37, 38, 39, 40, 41, 11, 12, 14, 42, 43, 44, 45, 21, 46, 47, 48, 81, 82, 83, 84, 85, 86, 87, 88, 89, 90, 91, 92, 93, 94, 95, 96, 97, 98, 99, 100, 101, 102, 103, 104, 105, 106, 107, 108, 109, 110, 111, 112, 113, 114] (by decide +kernel) (by decide +kernel)
set_option maxRecDepth 20000 in
theorem gX6_reign_X6_whyNot : GoodIn wsX6_reign (wsV RX6 190 RX6 yX6_whyNot wsX6_whyNot) := goodIn_app (goodIn_of _ (by decide +kernel)) ggX6_reign_X6_whyNot
set_option maxRecDepth 20000 in
theorem ggX6_reign_X6_happen : GoodIn wsX6_reign wsX6_happen := goodIn_r _ [52, 19, 20, 53, 54, 55, 13, 56, 9, 57, 58, 22, 59, 27, 10, 21, 60, 46, 47, 48, 61, 62, 63, 64, 65, 66, 67, 68, 69, 70, 71, 72, 8, 36, 37, 38, 39, 40, 41, 11, 12, 14, 73, 74, 75, 76, 81, 82, 83, 84, 85, 86, 87, 88, 89, 90, 91, 92, 93, 94, 95, 96, 97, 98, 99, 100, 101, 102, 103, 104, 105, 106, 107, 108, 109, 110, 111, 112, 113, 114] (by decide +kernel) (by decide +kernel)
set_option maxRecDepth 20000 in
theorem gX6_reign_X6_happen : GoodIn wsX6_reign (wsV RX6 193 RX6 yX6_happen wsX6_happen) := goodIn_app (goodIn_of _ (by decide +kernel)) ggX6_reign_X6_happen
set_option maxRecDepth 20000 in
theorem ggX6_reign_X6_isCourtier : GoodIn wsX6_reign wsX6_isCourtier := goodIn_r _ [39, 40, 41, 11, 12, 13, 14, 81, 82, 83, 84, 85, 86, 87, 88, 89, 90, 91, 92, 93, 94, 95, 96, 97, 98, 99, 100, 101, 102, 103, 104, 105, 106, 107, 108, 109, 110, 111, 112, 113, 114] (by decide +kernel) (by decide +kernel)
set_option maxRecDepth 20000 in
theorem gX6_reign_X6_isCourtier : GoodIn wsX6_reign (wsV RX6 90 RX6 yX6_isCourtier wsX6_isCourtier) := goodIn_app (goodIn_of _ (by decide +kernel)) ggX6_reign_X6_isCourtier
set_option maxRecDepth 20000 in
theorem ggX6_reign_X6_lay : GoodIn wsX6_reign wsX6_lay := goodIn_r _ [80, 19, 20, 8, 21, 22, 81, 82, 83, 84, 85, 86, 87, 88, 89, 90, 91, 92, 93, 94, 95, 96, 97, 98, 99, 100, 101, 102, 103, 104, 105, 106, 107, 108, 109, 110, 111, 112, 113, 114] (by decide +kernel) (by decide +kernel)
set_option maxRecDepth 20000 in
theorem gX6_reign_X6_lay : GoodIn wsX6_reign (wsV RX6 208 RX6 yX6_lay wsX6_lay) := goodIn_app (goodIn_of _ (by decide +kernel)) ggX6_reign_X6_lay
theorem dX6_reign_0 : decode cX6_reign 0 = .ok (.iload_n 1, 1) := by decide +kernel
theorem dX6_reign_1 : decode cX6_reign 1 = .ok (.i2l, 1) := by decide +kernel
theorem dX6_reign_2 : decode cX6_reign 2 = .ok (.lconst 0, 1) := by decide +kernel
theorem dX6_reign_3 : decode cX6_reign 3 = .ok (.ldc2_w 270, 3) := by decide +kernel
theorem dX6_reign_6 : decode cX6_reign 6 = .ok (.invokestatic 81, 3) := by decide +kernel
theorem dX6_reign_9 : decode cX6_reign 9 = .ok (.ifCond .eq 27, 3) := by decide +kernel
theorem dX6_reign_12 : decode cX6_reign 12 = .ok (.iload_n 2, 1) := by decide +kernel
theorem dX6_reign_13 : decode cX6_reign 13 = .ok (.i2l, 1) := by decide +kernel
theorem dX6_reign_14 : decode cX6_reign 14 = .ok (.lconst 1, 1) := by decide +kernel
theorem dX6_reign_15 : decode cX6_reign 15 = .ok (.ldc2_w 272, 3) := by decide +kernel
theorem dX6_reign_18 : decode cX6_reign 18 = .ok (.invokestatic 81, 3) := by decide +kernel
theorem dX6_reign_21 : decode cX6_reign 21 = .ok (.ifCond .eq 15, 3) := by decide +kernel
theorem dX6_reign_24 : decode cX6_reign 24 = .ok (.iload_n 3, 1) := by decide +kernel
theorem dX6_reign_25 : decode cX6_reign 25 = .ok (.i2l, 1) := by decide +kernel
theorem dX6_reign_26 : decode cX6_reign 26 = .ok (.lconst 0, 1) := by decide +kernel
theorem dX6_reign_27 : decode cX6_reign 27 = .ok (.ldc2_w 211, 3) := by decide +kernel
theorem dX6_reign_30 : decode cX6_reign 30 = .ok (.invokestatic 81, 3) := by decide +kernel
theorem dX6_reign_33 : decode cX6_reign 33 = .ok (.ifCond .ne 6, 3) := by decide +kernel
theorem dX6_reign_36 : decode cX6_reign 36 = .ok (.bipush (-2), 2) := by decide +kernel
theorem dX6_reign_38 : decode cX6_reign 38 = .ok (.ireturn, 1) := by decide +kernel
theorem dX6_reign_39 : decode cX6_reign 39 = .ok (.aload_n 0, 1) := by decide +kernel
theorem dX6_reign_40 : decode cX6_reign 40 = .ok (.aload_n 0, 1) := by decide +kernel
theorem dX6_reign_41 : decode cX6_reign 41 = .ok (.getfield 52, 3) := by decide +kernel
theorem dX6_reign_44 : decode cX6_reign 44 = .ok (.invokevirtual 201, 3) := by decide +kernel
theorem dX6_reign_47 : decode cX6_reign 47 = .ok (.aload_n 0, 1) := by decide +kernel
theorem dX6_reign_48 : decode cX6_reign 48 = .ok (.invokevirtual 181, 3) := by decide +kernel
theorem dX6_reign_51 : decode cX6_reign 51 = .ok (.iload_n 1, 1) := by decide +kernel
theorem dX6_reign_52 : decode cX6_reign 52 = .ok (.istore 4, 2) := by decide +kernel
theorem dX6_reign_54 : decode cX6_reign 54 = .ok (.iconst 0, 1) := by decide +kernel
theorem dX6_reign_55 : decode cX6_reign 55 = .ok (.istore 5, 2) := by decide +kernel
theorem dX6_reign_57 : decode cX6_reign 57 = .ok (.iload 5, 2) := by decide +kernel
theorem dX6_reign_59 : decode cX6_reign 59 = .ok (.iload_n 2, 1) := by decide +kernel
theorem dX6_reign_60 : decode cX6_reign 60 = .ok (.if_icmp .ge 110, 3) := by decide +kernel
theorem dX6_reign_63 : decode cX6_reign 63 = .ok (.ldc2_w 274, 3) := by decide +kernel
theorem dX6_reign_66 : decode cX6_reign 66 = .ok (.iload 4, 2) := by decide +kernel
theorem dX6_reign_68 : decode cX6_reign 68 = .ok (.i2l, 1) := by decide +kernel
theorem dX6_reign_69 : decode cX6_reign 69 = .ok (.lmul, 1) := by decide +kernel
theorem dX6_reign_70 : decode cX6_reign 70 = .ok (.ldc2_w 276, 3) := by decide +kernel
theorem dX6_reign_73 : decode cX6_reign 73 = .ok (.ladd, 1) := by decide +kernel
theorem dX6_reign_74 : decode cX6_reign 74 = .ok (.ldc2_w 278, 3) := by decide +kernel
theorem dX6_reign_77 : decode cX6_reign 77 = .ok (.lrem, 1) := by decide +kernel
theorem dX6_reign_78 : decode cX6_reign 78 = .ok (.l2i, 1) := by decide +kernel
theorem dX6_reign_79 : decode cX6_reign 79 = .ok (.istore 4, 2) := by decide +kernel
theorem dX6_reign_81 : decode cX6_reign 81 = .ok (.iload 4, 2) := by decide +kernel
theorem dX6_reign_83 : decode cX6_reign 83 = .ok (.bipush 6, 2) := by decide +kernel
theorem dX6_reign_85 : decode cX6_reign 85 = .ok (.idiv, 1) := by decide +kernel
theorem dX6_reign_86 : decode cX6_reign 86 = .ok (.iconst 4, 1) := by decide +kernel
theorem dX6_reign_87 : decode cX6_reign 87 = .ok (.irem, 1) := by decide +kernel
theorem dX6_reign_88 : decode cX6_reign 88 = .ok (.istore 6, 2) := by decide +kernel
theorem dX6_reign_90 : decode cX6_reign 90 = .ok (.iload 6, 2) := by decide +kernel
theorem dX6_reign_92 : decode cX6_reign 92 = .ok (.ifCond .ne 8, 3) := by decide +kernel
theorem dX6_reign_95 : decode cX6_reign 95 = .ok (.bipush 6, 2) := by decide +kernel
theorem dX6_reign_97 : decode cX6_reign 97 = .ok (.goto 24, 3) := by decide +kernel
theorem dX6_reign_100 : decode cX6_reign 100 = .ok (.iload 6, 2) := by decide +kernel
theorem dX6_reign_102 : decode cX6_reign 102 = .ok (.iconst 1, 1) := by decide +kernel
theorem dX6_reign_103 : decode cX6_reign 103 = .ok (.if_icmp .ne 7, 3) := by decide +kernel
theorem dX6_reign_106 : decode cX6_reign 106 = .ok (.iconst 1, 1) := by decide +kernel
theorem dX6_reign_107 : decode cX6_reign 107 = .ok (.goto 14, 3) := by decide +kernel
theorem dX6_reign_110 : decode cX6_reign 110 = .ok (.iload 6, 2) := by decide +kernel
theorem dX6_reign_112 : decode cX6_reign 112 = .ok (.iconst 2, 1) := by decide +kernel
theorem dX6_reign_113 : decode cX6_reign 113 = .ok (.if_icmp .ne 7, 3) := by decide +kernel
theorem dX6_reign_116 : decode cX6_reign 116 = .ok (.iconst 0, 1) := by decide +kernel
theorem dX6_reign_117 : decode cX6_reign 117 = .ok (.goto 4, 3) := by decide +kernel
theorem dX6_reign_120 : decode cX6_reign 120 = .ok (.iconst 3, 1) := by decide +kernel
theorem dX6_reign_121 : decode cX6_reign 121 = .ok (.istore 7, 2) := by decide +kernel
theorem dX6_reign_123 : decode cX6_reign 123 = .ok (.iload 4, 2) := by decide +kernel
theorem dX6_reign_125 : decode cX6_reign 125 = .ok (.bipush 24, 2) := by decide +kernel
theorem dX6_reign_127 : decode cX6_reign 127 = .ok (.idiv, 1) := by decide +kernel
theorem dX6_reign_128 : decode cX6_reign 128 = .ok (.bipush 24, 2) := by decide +kernel
theorem dX6_reign_130 : decode cX6_reign 130 = .ok (.irem, 1) := by decide +kernel
theorem dX6_reign_131 : decode cX6_reign 131 = .ok (.istore 8, 2) := by decide +kernel
theorem dX6_reign_133 : decode cX6_reign 133 = .ok (.aload_n 0, 1) := by decide +kernel
theorem dX6_reign_134 : decode cX6_reign 134 = .ok (.iload 7, 2) := by decide +kernel
theorem dX6_reign_136 : decode cX6_reign 136 = .ok (.iload 4, 2) := by decide +kernel
theorem dX6_reign_138 : decode cX6_reign 138 = .ok (.bipush 6, 2) := by decide +kernel
theorem dX6_reign_140 : decode cX6_reign 140 = .ok (.irem, 1) := by decide +kernel
theorem dX6_reign_141 : decode cX6_reign 141 = .ok (.iconst 0, 1) := by decide +kernel
theorem dX6_reign_142 : decode cX6_reign 142 = .ok (.iload 8, 2) := by decide +kernel
theorem dX6_reign_144 : decode cX6_reign 144 = .ok (.invokevirtual 190, 3) := by decide +kernel
theorem dX6_reign_147 : decode cX6_reign 147 = .ok (.ifCond .ne 17, 3) := by decide +kernel
theorem dX6_reign_150 : decode cX6_reign 150 = .ok (.aload_n 0, 1) := by decide +kernel
theorem dX6_reign_151 : decode cX6_reign 151 = .ok (.iload 7, 2) := by decide +kernel
theorem dX6_reign_153 : decode cX6_reign 153 = .ok (.iload 4, 2) := by decide +kernel
theorem dX6_reign_155 : decode cX6_reign 155 = .ok (.bipush 6, 2) := by decide +kernel
theorem dX6_reign_157 : decode cX6_reign 157 = .ok (.irem, 1) := by decide +kernel
theorem dX6_reign_158 : decode cX6_reign 158 = .ok (.iconst 0, 1) := by decide +kernel
theorem dX6_reign_159 : decode cX6_reign 159 = .ok (.iload 8, 2) := by decide +kernel
theorem dX6_reign_161 : decode cX6_reign 161 = .ok (.invokevirtual 193, 3) := by decide +kernel
theorem dX6_reign_164 : decode cX6_reign 164 = .ok (.iinc 5 1, 3) := by decide +kernel
theorem dX6_reign_167 : decode cX6_reign 167 = .ok (.goto (-110), 3) := by decide +kernel
theorem dX6_reign_170 : decode cX6_reign 170 = .ok (.iconst 0, 1) := by decide +kernel
theorem dX6_reign_171 : decode cX6_reign 171 = .ok (.istore 5, 2) := by decide +kernel
theorem dX6_reign_173 : decode cX6_reign 173 = .ok (.iconst 0, 1) := by decide +kernel
theorem dX6_reign_174 : decode cX6_reign 174 = .ok (.istore 6, 2) := by decide +kernel
theorem dX6_reign_176 : decode cX6_reign 176 = .ok (.iload 6, 2) := by decide +kernel
theorem dX6_reign_178 : decode cX6_reign 178 = .ok (.bipush 6, 2) := by decide +kernel
theorem dX6_reign_180 : decode cX6_reign 180 = .ok (.if_icmp .ge 34, 3) := by decide +kernel
theorem dX6_reign_183 : decode cX6_reign 183 = .ok (.iload 5, 2) := by decide +kernel
theorem dX6_reign_185 : decode cX6_reign 185 = .ok (.aload_n 0, 1) := by decide +kernel
theorem dX6_reign_186 : decode cX6_reign 186 = .ok (.iload 6, 2) := by decide +kernel
theorem dX6_reign_188 : decode cX6_reign 188 = .ok (.invokevirtual 90, 3) := by decide +kernel
theorem dX6_reign_191 : decode cX6_reign 191 = .ok (.ifCond .eq 13, 3) := by decide +kernel
theorem dX6_reign_194 : decode cX6_reign 194 = .ok (.aload_n 0, 1) := by decide +kernel
theorem dX6_reign_195 : decode cX6_reign 195 = .ok (.getfield 16, 3) := by decide +kernel
theorem dX6_reign_198 : decode cX6_reign 198 = .ok (.iload 6, 2) := by decide +kernel
theorem dX6_reign_200 : decode cX6_reign 200 = .ok (.iaload, 1) := by decide +kernel
theorem dX6_reign_201 : decode cX6_reign 201 = .ok (.goto 4, 3) := by decide +kernel
theorem dX6_reign_204 : decode cX6_reign 204 = .ok (.iconst 0, 1) := by decide +kernel
theorem dX6_reign_205 : decode cX6_reign 205 = .ok (.iadd, 1) := by decide +kernel
theorem dX6_reign_206 : decode cX6_reign 206 = .ok (.istore 5, 2) := by decide +kernel
theorem dX6_reign_208 : decode cX6_reign 208 = .ok (.iinc 6 1, 3) := by decide +kernel
theorem dX6_reign_211 : decode cX6_reign 211 = .ok (.goto (-35), 3) := by decide +kernel
theorem dX6_reign_214 : decode cX6_reign 214 = .ok (.aload_n 0, 1) := by decide +kernel
theorem dX6_reign_215 : decode cX6_reign 215 = .ok (.aload_n 0, 1) := by decide +kernel
theorem dX6_reign_216 : decode cX6_reign 216 = .ok (.getfield 52, 3) := by decide +kernel
theorem dX6_reign_219 : decode cX6_reign 219 = .ok (.invokevirtual 208, 3) := by decide +kernel
theorem dX6_reign_222 : decode cX6_reign 222 = .ok (.iload_n 3, 1) := by decide +kernel
theorem dX6_reign_223 : decode cX6_reign 223 = .ok (.ifCond .ne 10, 3) := by decide +kernel
theorem dX6_reign_226 : decode cX6_reign 226 = .ok (.aload_n 0, 1) := by decide +kernel
theorem dX6_reign_227 : decode cX6_reign 227 = .ok (.getfield 154, 3) := by decide +kernel
theorem dX6_reign_230 : decode cX6_reign 230 = .ok (.goto 17, 3) := by decide +kernel
theorem dX6_reign_233 : decode cX6_reign 233 = .ok (.iload_n 3, 1) := by decide +kernel
theorem dX6_reign_234 : decode cX6_reign 234 = .ok (.iconst 1, 1) := by decide +kernel
theorem dX6_reign_235 : decode cX6_reign 235 = .ok (.if_icmp .ne 10, 3) := by decide +kernel
theorem dX6_reign_238 : decode cX6_reign 238 = .ok (.aload_n 0, 1) := by decide +kernel
theorem dX6_reign_239 : decode cX6_reign 239 = .ok (.getfield 160, 3) := by decide +kernel
theorem dX6_reign_242 : decode cX6_reign 242 = .ok (.goto 5, 3) := by decide +kernel
theorem dX6_reign_245 : decode cX6_reign 245 = .ok (.iload 5, 2) := by decide +kernel
theorem dX6_reign_247 : decode cX6_reign 247 = .ok (.ireturn, 1) := by decide +kernel
theorem dX6_pass_0 : decode cX6_pass 0 = .ok (.aload_n 0, 1) := by decide +kernel
theorem dX6_pass_1 : decode cX6_pass 1 = .ok (.getfield 280, 3) := by decide +kernel
theorem dX6_pass_4 : decode cX6_pass 4 = .ok (.ifCond .eq 7, 3) := by decide +kernel
theorem dX6_pass_7 : decode cX6_pass 7 = .ok (.iload_n 1, 1) := by decide +kernel
theorem dX6_pass_8 : decode cX6_pass 8 = .ok (.goto 12, 3) := by decide +kernel
theorem dX6_pass_11 : decode cX6_pass 11 = .ok (.aload_n 0, 1) := by decide +kernel
theorem dX6_pass_12 : decode cX6_pass 12 = .ok (.getfield 68, 3) := by decide +kernel
theorem dX6_pass_15 : decode cX6_pass 15 = .ok (.aload_n 0, 1) := by decide +kernel
theorem dX6_pass_16 : decode cX6_pass 16 = .ok (.getfield 284, 3) := by decide +kernel
theorem dX6_pass_19 : decode cX6_pass 19 = .ok (.iaload, 1) := by decide +kernel
theorem dX6_pass_20 : decode cX6_pass 20 = .ok (.istore_n 2, 1) := by decide +kernel
theorem dX6_pass_21 : decode cX6_pass 21 = .ok (.aload_n 0, 1) := by decide +kernel
theorem dX6_pass_22 : decode cX6_pass 22 = .ok (.getfield 68, 3) := by decide +kernel
theorem dX6_pass_25 : decode cX6_pass 25 = .ok (.aload_n 0, 1) := by decide +kernel
theorem dX6_pass_26 : decode cX6_pass 26 = .ok (.getfield 284, 3) := by decide +kernel
theorem dX6_pass_29 : decode cX6_pass 29 = .ok (.iload_n 2, 1) := by decide +kernel
theorem dX6_pass_30 : decode cX6_pass 30 = .ok (.iastore, 1) := by decide +kernel
theorem dX6_pass_31 : decode cX6_pass 31 = .ok (.aload_n 0, 1) := by decide +kernel
theorem dX6_pass_32 : decode cX6_pass 32 = .ok (.dup, 1) := by decide +kernel
theorem dX6_pass_33 : decode cX6_pass 33 = .ok (.getfield 284, 3) := by decide +kernel
theorem dX6_pass_36 : decode cX6_pass 36 = .ok (.iconst 1, 1) := by decide +kernel
theorem dX6_pass_37 : decode cX6_pass 37 = .ok (.iadd, 1) := by decide +kernel
theorem dX6_pass_38 : decode cX6_pass 38 = .ok (.putfield 284, 3) := by decide +kernel
theorem dX6_pass_41 : decode cX6_pass 41 = .ok (.iload_n 2, 1) := by decide +kernel
theorem dX6_pass_42 : decode cX6_pass 42 = .ok (.ireturn, 1) := by decide +kernel
set_option maxRecDepth 20000 in
theorem ggX6_passAll_X6_pass : GoodIn wsX6_passAll wsX6_pass := goodIn_r _ [15, 16, 17, 18, 19, 20, 21, 22, 23, 24, 25, 26, 27, 28, 29, 30, 31, 32, 33, 34, 35, 36, 37, 38, 39, 40, 41, 42, 43, 44, 45, 46, 47, 48, 49, 50, 51, 52] (by decide +kernel) (by decide +kernel)
set_option maxRecDepth 20000 in
theorem gX6_passAll_X6_pass : GoodIn wsX6_passAll (wsV RX6 287 RX6 yX6_pass wsX6_pass) := goodIn_app (goodIn_of _ (by decide +kernel)) ggX6_passAll_X6_pass
theorem dX6_passAll_0 : decode cX6_passAll 0 = .ok (.aload_n 0, 1) := by decide +kernel
theorem dX6_passAll_1 : decode cX6_passAll 1 = .ok (.aload_n 0, 1) := by decide +kernel
theorem dX6_passAll_2 : decode cX6_passAll 2 = .ok (.aload_n 0, 1) := by decide +kernel
theorem dX6_passAll_3 : decode cX6_passAll 3 = .ok (.getfield 87, 3) := by decide +kernel
theorem dX6_passAll_6 : decode cX6_passAll 6 = .ok (.invokevirtual 287, 3) := by decide +kernel
theorem dX6_passAll_9 : decode cX6_passAll 9 = .ok (.putfield 87, 3) := by decide +kernel
theorem dX6_passAll_12 : decode cX6_passAll 12 = .ok (.aload_n 0, 1) := by decide +kernel
theorem dX6_passAll_13 : decode cX6_passAll 13 = .ok (.aload_n 0, 1) := by decide +kernel
theorem dX6_passAll_14 : decode cX6_passAll 14 = .ok (.aload_n 0, 1) := by decide +kernel
theorem dX6_passAll_15 : decode cX6_passAll 15 = .ok (.getfield 110, 3) := by decide +kernel
theorem dX6_passAll_18 : decode cX6_passAll 18 = .ok (.invokevirtual 287, 3) := by decide +kernel
theorem dX6_passAll_21 : decode cX6_passAll 21 = .ok (.putfield 110, 3) := by decide +kernel
theorem dX6_passAll_24 : decode cX6_passAll 24 = .ok (.aload_n 0, 1) := by decide +kernel
theorem dX6_passAll_25 : decode cX6_passAll 25 = .ok (.aload_n 0, 1) := by decide +kernel
theorem dX6_passAll_26 : decode cX6_passAll 26 = .ok (.aload_n 0, 1) := by decide +kernel
theorem dX6_passAll_27 : decode cX6_passAll 27 = .ok (.getfield 75, 3) := by decide +kernel
theorem dX6_passAll_30 : decode cX6_passAll 30 = .ok (.invokevirtual 287, 3) := by decide +kernel
theorem dX6_passAll_33 : decode cX6_passAll 33 = .ok (.putfield 75, 3) := by decide +kernel
theorem dX6_passAll_36 : decode cX6_passAll 36 = .ok (.aload_n 0, 1) := by decide +kernel
theorem dX6_passAll_37 : decode cX6_passAll 37 = .ok (.aload_n 0, 1) := by decide +kernel
theorem dX6_passAll_38 : decode cX6_passAll 38 = .ok (.aload_n 0, 1) := by decide +kernel
theorem dX6_passAll_39 : decode cX6_passAll 39 = .ok (.getfield 252, 3) := by decide +kernel
theorem dX6_passAll_42 : decode cX6_passAll 42 = .ok (.invokevirtual 287, 3) := by decide +kernel
theorem dX6_passAll_45 : decode cX6_passAll 45 = .ok (.putfield 252, 3) := by decide +kernel
theorem dX6_passAll_48 : decode cX6_passAll 48 = .ok (.iconst 0, 1) := by decide +kernel
theorem dX6_passAll_49 : decode cX6_passAll 49 = .ok (.istore_n 1, 1) := by decide +kernel
theorem dX6_passAll_50 : decode cX6_passAll 50 = .ok (.iload_n 1, 1) := by decide +kernel
theorem dX6_passAll_51 : decode cX6_passAll 51 = .ok (.bipush 6, 2) := by decide +kernel
theorem dX6_passAll_53 : decode cX6_passAll 53 = .ok (.if_icmp .ge 57, 3) := by decide +kernel
theorem dX6_passAll_56 : decode cX6_passAll 56 = .ok (.aload_n 0, 1) := by decide +kernel
theorem dX6_passAll_57 : decode cX6_passAll 57 = .ok (.getfield 7, 3) := by decide +kernel
theorem dX6_passAll_60 : decode cX6_passAll 60 = .ok (.iload_n 1, 1) := by decide +kernel
theorem dX6_passAll_61 : decode cX6_passAll 61 = .ok (.aload_n 0, 1) := by decide +kernel
theorem dX6_passAll_62 : decode cX6_passAll 62 = .ok (.aload_n 0, 1) := by decide +kernel
theorem dX6_passAll_63 : decode cX6_passAll 63 = .ok (.getfield 7, 3) := by decide +kernel
theorem dX6_passAll_66 : decode cX6_passAll 66 = .ok (.iload_n 1, 1) := by decide +kernel
theorem dX6_passAll_67 : decode cX6_passAll 67 = .ok (.iaload, 1) := by decide +kernel
theorem dX6_passAll_68 : decode cX6_passAll 68 = .ok (.invokevirtual 287, 3) := by decide +kernel
theorem dX6_passAll_71 : decode cX6_passAll 71 = .ok (.iastore, 1) := by decide +kernel
theorem dX6_passAll_72 : decode cX6_passAll 72 = .ok (.aload_n 0, 1) := by decide +kernel
theorem dX6_passAll_73 : decode cX6_passAll 73 = .ok (.getfield 13, 3) := by decide +kernel
theorem dX6_passAll_76 : decode cX6_passAll 76 = .ok (.iload_n 1, 1) := by decide +kernel
theorem dX6_passAll_77 : decode cX6_passAll 77 = .ok (.aload_n 0, 1) := by decide +kernel
theorem dX6_passAll_78 : decode cX6_passAll 78 = .ok (.aload_n 0, 1) := by decide +kernel
theorem dX6_passAll_79 : decode cX6_passAll 79 = .ok (.getfield 13, 3) := by decide +kernel
theorem dX6_passAll_82 : decode cX6_passAll 82 = .ok (.iload_n 1, 1) := by decide +kernel
theorem dX6_passAll_83 : decode cX6_passAll 83 = .ok (.iaload, 1) := by decide +kernel
theorem dX6_passAll_84 : decode cX6_passAll 84 = .ok (.invokevirtual 287, 3) := by decide +kernel
theorem dX6_passAll_87 : decode cX6_passAll 87 = .ok (.iastore, 1) := by decide +kernel
theorem dX6_passAll_88 : decode cX6_passAll 88 = .ok (.aload_n 0, 1) := by decide +kernel
theorem dX6_passAll_89 : decode cX6_passAll 89 = .ok (.getfield 16, 3) := by decide +kernel
theorem dX6_passAll_92 : decode cX6_passAll 92 = .ok (.iload_n 1, 1) := by decide +kernel
theorem dX6_passAll_93 : decode cX6_passAll 93 = .ok (.aload_n 0, 1) := by decide +kernel
theorem dX6_passAll_94 : decode cX6_passAll 94 = .ok (.aload_n 0, 1) := by decide +kernel
theorem dX6_passAll_95 : decode cX6_passAll 95 = .ok (.getfield 16, 3) := by decide +kernel
theorem dX6_passAll_98 : decode cX6_passAll 98 = .ok (.iload_n 1, 1) := by decide +kernel
theorem dX6_passAll_99 : decode cX6_passAll 99 = .ok (.iaload, 1) := by decide +kernel
theorem dX6_passAll_100 : decode cX6_passAll 100 = .ok (.invokevirtual 287, 3) := by decide +kernel
theorem dX6_passAll_103 : decode cX6_passAll 103 = .ok (.iastore, 1) := by decide +kernel
theorem dX6_passAll_104 : decode cX6_passAll 104 = .ok (.iinc 1 1, 3) := by decide +kernel
theorem dX6_passAll_107 : decode cX6_passAll 107 = .ok (.goto (-57), 3) := by decide +kernel
theorem dX6_passAll_110 : decode cX6_passAll 110 = .ok (.iconst 0, 1) := by decide +kernel
theorem dX6_passAll_111 : decode cX6_passAll 111 = .ok (.istore_n 1, 1) := by decide +kernel
theorem dX6_passAll_112 : decode cX6_passAll 112 = .ok (.iload_n 1, 1) := by decide +kernel
theorem dX6_passAll_113 : decode cX6_passAll 113 = .ok (.sipush 144, 3) := by decide +kernel
theorem dX6_passAll_116 : decode cX6_passAll 116 = .ok (.if_icmp .ge 25, 3) := by decide +kernel
theorem dX6_passAll_119 : decode cX6_passAll 119 = .ok (.aload_n 0, 1) := by decide +kernel
theorem dX6_passAll_120 : decode cX6_passAll 120 = .ok (.getfield 19, 3) := by decide +kernel
theorem dX6_passAll_123 : decode cX6_passAll 123 = .ok (.iload_n 1, 1) := by decide +kernel
theorem dX6_passAll_124 : decode cX6_passAll 124 = .ok (.aload_n 0, 1) := by decide +kernel
theorem dX6_passAll_125 : decode cX6_passAll 125 = .ok (.aload_n 0, 1) := by decide +kernel
theorem dX6_passAll_126 : decode cX6_passAll 126 = .ok (.getfield 19, 3) := by decide +kernel
theorem dX6_passAll_129 : decode cX6_passAll 129 = .ok (.iload_n 1, 1) := by decide +kernel
theorem dX6_passAll_130 : decode cX6_passAll 130 = .ok (.iaload, 1) := by decide +kernel
theorem dX6_passAll_131 : decode cX6_passAll 131 = .ok (.invokevirtual 287, 3) := by decide +kernel
theorem dX6_passAll_134 : decode cX6_passAll 134 = .ok (.iastore, 1) := by decide +kernel
theorem dX6_passAll_135 : decode cX6_passAll 135 = .ok (.iinc 1 1, 3) := by decide +kernel
theorem dX6_passAll_138 : decode cX6_passAll 138 = .ok (.goto (-26), 3) := by decide +kernel
theorem dX6_passAll_141 : decode cX6_passAll 141 = .ok (.iconst 0, 1) := by decide +kernel
theorem dX6_passAll_142 : decode cX6_passAll 142 = .ok (.istore_n 1, 1) := by decide +kernel
theorem dX6_passAll_143 : decode cX6_passAll 143 = .ok (.iload_n 1, 1) := by decide +kernel
theorem dX6_passAll_144 : decode cX6_passAll 144 = .ok (.bipush 8, 2) := by decide +kernel
theorem dX6_passAll_146 : decode cX6_passAll 146 = .ok (.if_icmp .ge 41, 3) := by decide +kernel
theorem dX6_passAll_149 : decode cX6_passAll 149 = .ok (.aload_n 0, 1) := by decide +kernel
theorem dX6_passAll_150 : decode cX6_passAll 150 = .ok (.getfield 22, 3) := by decide +kernel
theorem dX6_passAll_153 : decode cX6_passAll 153 = .ok (.iload_n 1, 1) := by decide +kernel
theorem dX6_passAll_154 : decode cX6_passAll 154 = .ok (.aload_n 0, 1) := by decide +kernel
theorem dX6_passAll_155 : decode cX6_passAll 155 = .ok (.aload_n 0, 1) := by decide +kernel
theorem dX6_passAll_156 : decode cX6_passAll 156 = .ok (.getfield 22, 3) := by decide +kernel
theorem dX6_passAll_159 : decode cX6_passAll 159 = .ok (.iload_n 1, 1) := by decide +kernel
theorem dX6_passAll_160 : decode cX6_passAll 160 = .ok (.iaload, 1) := by decide +kernel
theorem dX6_passAll_161 : decode cX6_passAll 161 = .ok (.invokevirtual 287, 3) := by decide +kernel
theorem dX6_passAll_164 : decode cX6_passAll 164 = .ok (.iastore, 1) := by decide +kernel
theorem dX6_passAll_165 : decode cX6_passAll 165 = .ok (.aload_n 0, 1) := by decide +kernel
theorem dX6_passAll_166 : decode cX6_passAll 166 = .ok (.getfield 25, 3) := by decide +kernel
theorem dX6_passAll_169 : decode cX6_passAll 169 = .ok (.iload_n 1, 1) := by decide +kernel
theorem dX6_passAll_170 : decode cX6_passAll 170 = .ok (.aload_n 0, 1) := by decide +kernel
theorem dX6_passAll_171 : decode cX6_passAll 171 = .ok (.aload_n 0, 1) := by decide +kernel
theorem dX6_passAll_172 : decode cX6_passAll 172 = .ok (.getfield 25, 3) := by decide +kernel
theorem dX6_passAll_175 : decode cX6_passAll 175 = .ok (.iload_n 1, 1) := by decide +kernel
theorem dX6_passAll_176 : decode cX6_passAll 176 = .ok (.iaload, 1) := by decide +kernel
theorem dX6_passAll_177 : decode cX6_passAll 177 = .ok (.invokevirtual 287, 3) := by decide +kernel
theorem dX6_passAll_180 : decode cX6_passAll 180 = .ok (.iastore, 1) := by decide +kernel
theorem dX6_passAll_181 : decode cX6_passAll 181 = .ok (.iinc 1 1, 3) := by decide +kernel
theorem dX6_passAll_184 : decode cX6_passAll 184 = .ok (.goto (-41), 3) := by decide +kernel
theorem dX6_passAll_187 : decode cX6_passAll 187 = .ok (.return_, 1) := by decide +kernel
set_option maxRecDepth 20000 in
theorem ggX6_image_X6_in : GoodIn wsX6_image wsX6_in := goodIn_r _ [7] (by decide +kernel) (by decide +kernel)
set_option maxRecDepth 20000 in
theorem gX6_image_X6_in : GoodIn wsX6_image (va_wsS RX6 81 yX6_in wsX6_in) := goodIn_app (goodIn_of _ (by decide +kernel)) ggX6_image_X6_in
set_option maxRecDepth 20000 in
theorem ggX6_image_X6_passAll : GoodIn wsX6_image wsX6_passAll := goodIn_r _ [11, 12, 13, 14, 15, 16, 17, 18, 19, 20, 21, 22, 23, 24, 6, 25, 2, 26, 1, 27, 28, 29, 30, 31, 32, 33, 34, 35, 36, 37, 38, 39, 40, 41, 42, 43, 44, 45, 46, 47, 48, 49, 50, 51, 52, 53, 54, 55, 56, 57, 58, 59, 60] (by decide +kernel) (by decide +kernel)
set_option maxRecDepth 20000 in
theorem gX6_image_X6_passAll : GoodIn wsX6_image (wsV RX6 290 RX6 yX6_passAll wsX6_passAll) := goodIn_app (goodIn_of _ (by decide +kernel)) ggX6_image_X6_passAll
theorem dX6_image_0 : decode cX6_image 0 = .ok (.iload_n 1, 1) := by decide +kernel
theorem dX6_image_1 : decode cX6_image 1 = .ok (.i2l, 1) := by decide +kernel
theorem dX6_image_2 : decode cX6_image 2 = .ok (.lconst 0, 1) := by decide +kernel
theorem dX6_image_3 : decode cX6_image 3 = .ok (.lconst 1, 1) := by decide +kernel
theorem dX6_image_4 : decode cX6_image 4 = .ok (.invokestatic 81, 3) := by decide +kernel
theorem dX6_image_7 : decode cX6_image 7 = .ok (.ifCond .ne 6, 3) := by decide +kernel
theorem dX6_image_10 : decode cX6_image 10 = .ok (.bipush (-2), 2) := by decide +kernel
theorem dX6_image_12 : decode cX6_image 12 = .ok (.ireturn, 1) := by decide +kernel
theorem dX6_image_13 : decode cX6_image 13 = .ok (.aload_n 0, 1) := by decide +kernel
theorem dX6_image_14 : decode cX6_image 14 = .ok (.sipush 190, 3) := by decide +kernel
theorem dX6_image_17 : decode cX6_image 17 = .ok (.iload_n 1, 1) := by decide +kernel
theorem dX6_image_18 : decode cX6_image 18 = .ok (.imul, 1) := by decide +kernel
theorem dX6_image_19 : decode cX6_image 19 = .ok (.putfield 284, 3) := by decide +kernel
theorem dX6_image_22 : decode cX6_image 22 = .ok (.aload_n 0, 1) := by decide +kernel
theorem dX6_image_23 : decode cX6_image 23 = .ok (.iconst 1, 1) := by decide +kernel
theorem dX6_image_24 : decode cX6_image 24 = .ok (.putfield 280, 3) := by decide +kernel
theorem dX6_image_27 : decode cX6_image 27 = .ok (.aload_n 0, 1) := by decide +kernel
theorem dX6_image_28 : decode cX6_image 28 = .ok (.invokevirtual 290, 3) := by decide +kernel
theorem dX6_image_31 : decode cX6_image 31 = .ok (.aload_n 0, 1) := by decide +kernel
theorem dX6_image_32 : decode cX6_image 32 = .ok (.getfield 71, 3) := by decide +kernel
theorem dX6_image_35 : decode cX6_image 35 = .ok (.iload_n 1, 1) := by decide +kernel
theorem dX6_image_36 : decode cX6_image 36 = .ok (.iconst 1, 1) := by decide +kernel
theorem dX6_image_37 : decode cX6_image 37 = .ok (.bastore, 1) := by decide +kernel
theorem dX6_image_38 : decode cX6_image 38 = .ok (.iconst 1, 1) := by decide +kernel
theorem dX6_image_39 : decode cX6_image 39 = .ok (.ireturn, 1) := by decide +kernel
set_option maxRecDepth 20000 in
theorem ggX6_restore_X6_in : GoodIn wsX6_restore wsX6_in := goodIn_r _ [7] (by decide +kernel) (by decide +kernel)
set_option maxRecDepth 20000 in
theorem gX6_restore_X6_in : GoodIn wsX6_restore (va_wsS RX6 81 yX6_in wsX6_in) := goodIn_app (goodIn_of _ (by decide +kernel)) ggX6_restore_X6_in
set_option maxRecDepth 20000 in
theorem ggX6_restore_X6_passAll : GoodIn wsX6_restore wsX6_passAll := goodIn_r _ [11, 12, 13, 14, 15, 16, 17, 18, 19, 20, 21, 22, 23, 24, 6, 25, 3, 26, 2, 27, 28, 29, 30, 31, 32, 33, 34, 35, 36, 37, 38, 39, 40, 41, 42, 43, 44, 45, 46, 47, 48, 49, 50, 51, 52, 53, 54, 55, 56, 57, 58, 59, 60] (by decide +kernel) (by decide +kernel)
set_option maxRecDepth 20000 in
theorem gX6_restore_X6_passAll : GoodIn wsX6_restore (wsV RX6 290 RX6 yX6_passAll wsX6_passAll) := goodIn_app (goodIn_of _ (by decide +kernel)) ggX6_restore_X6_passAll
theorem dX6_restore_0 : decode cX6_restore 0 = .ok (.iload_n 1, 1) := by decide +kernel
theorem dX6_restore_1 : decode cX6_restore 1 = .ok (.i2l, 1) := by decide +kernel
theorem dX6_restore_2 : decode cX6_restore 2 = .ok (.lconst 0, 1) := by decide +kernel
theorem dX6_restore_3 : decode cX6_restore 3 = .ok (.lconst 1, 1) := by decide +kernel
theorem dX6_restore_4 : decode cX6_restore 4 = .ok (.invokestatic 81, 3) := by decide +kernel
theorem dX6_restore_7 : decode cX6_restore 7 = .ok (.ifCond .ne 6, 3) := by decide +kernel
theorem dX6_restore_10 : decode cX6_restore 10 = .ok (.bipush (-2), 2) := by decide +kernel
theorem dX6_restore_12 : decode cX6_restore 12 = .ok (.ireturn, 1) := by decide +kernel
theorem dX6_restore_13 : decode cX6_restore 13 = .ok (.aload_n 0, 1) := by decide +kernel
theorem dX6_restore_14 : decode cX6_restore 14 = .ok (.getfield 71, 3) := by decide +kernel
theorem dX6_restore_17 : decode cX6_restore 17 = .ok (.iload_n 1, 1) := by decide +kernel
theorem dX6_restore_18 : decode cX6_restore 18 = .ok (.baload, 1) := by decide +kernel
theorem dX6_restore_19 : decode cX6_restore 19 = .ok (.ifCond .ne 6, 3) := by decide +kernel
theorem dX6_restore_22 : decode cX6_restore 22 = .ok (.bipush (-3), 2) := by decide +kernel
theorem dX6_restore_24 : decode cX6_restore 24 = .ok (.ireturn, 1) := by decide +kernel
theorem dX6_restore_25 : decode cX6_restore 25 = .ok (.aload_n 0, 1) := by decide +kernel
theorem dX6_restore_26 : decode cX6_restore 26 = .ok (.sipush 190, 3) := by decide +kernel
theorem dX6_restore_29 : decode cX6_restore 29 = .ok (.iload_n 1, 1) := by decide +kernel
theorem dX6_restore_30 : decode cX6_restore 30 = .ok (.imul, 1) := by decide +kernel
theorem dX6_restore_31 : decode cX6_restore 31 = .ok (.putfield 284, 3) := by decide +kernel
theorem dX6_restore_34 : decode cX6_restore 34 = .ok (.aload_n 0, 1) := by decide +kernel
theorem dX6_restore_35 : decode cX6_restore 35 = .ok (.iconst 0, 1) := by decide +kernel
theorem dX6_restore_36 : decode cX6_restore 36 = .ok (.putfield 280, 3) := by decide +kernel
theorem dX6_restore_39 : decode cX6_restore 39 = .ok (.aload_n 0, 1) := by decide +kernel
theorem dX6_restore_40 : decode cX6_restore 40 = .ok (.invokevirtual 290, 3) := by decide +kernel
theorem dX6_restore_43 : decode cX6_restore 43 = .ok (.iconst 1, 1) := by decide +kernel
theorem dX6_restore_44 : decode cX6_restore 44 = .ok (.ireturn, 1) := by decide +kernel
set_option maxRecDepth 20000 in
theorem ggX6_toldOf_X6_isCourtier : GoodIn wsX6_toldOf wsX6_isCourtier := goodIn_r _ [8, 9, 10, 11, 12, 7, 13, 14, 15, 16, 17, 18, 19, 20, 21, 22, 23, 24, 25, 26, 27, 28, 29, 30, 31, 32, 33, 34, 35, 36, 37, 38, 39, 40, 41, 42, 43, 44, 45, 46, 47] (by decide +kernel) (by decide +kernel)
set_option maxRecDepth 20000 in
theorem gX6_toldOf_X6_isCourtier : GoodIn wsX6_toldOf (wsV RX6 90 RX6 yX6_isCourtier wsX6_isCourtier) := goodIn_app (goodIn_of _ (by decide +kernel)) ggX6_toldOf_X6_isCourtier
theorem dX6_toldOf_0 : decode cX6_toldOf 0 = .ok (.aload_n 0, 1) := by decide +kernel
theorem dX6_toldOf_1 : decode cX6_toldOf 1 = .ok (.iload_n 1, 1) := by decide +kernel
theorem dX6_toldOf_2 : decode cX6_toldOf 2 = .ok (.invokevirtual 90, 3) := by decide +kernel
theorem dX6_toldOf_5 : decode cX6_toldOf 5 = .ok (.ifCond .ne 6, 3) := by decide +kernel
theorem dX6_toldOf_8 : decode cX6_toldOf 8 = .ok (.bipush (-2), 2) := by decide +kernel
theorem dX6_toldOf_10 : decode cX6_toldOf 10 = .ok (.ireturn, 1) := by decide +kernel
theorem dX6_toldOf_11 : decode cX6_toldOf 11 = .ok (.iload_n 2, 1) := by decide +kernel
theorem dX6_toldOf_12 : decode cX6_toldOf 12 = .ok (.ifCond .ne 12, 3) := by decide +kernel
theorem dX6_toldOf_15 : decode cX6_toldOf 15 = .ok (.aload_n 0, 1) := by decide +kernel
theorem dX6_toldOf_16 : decode cX6_toldOf 16 = .ok (.getfield 7, 3) := by decide +kernel
theorem dX6_toldOf_19 : decode cX6_toldOf 19 = .ok (.iload_n 1, 1) := by decide +kernel
theorem dX6_toldOf_20 : decode cX6_toldOf 20 = .ok (.iaload, 1) := by decide +kernel
theorem dX6_toldOf_21 : decode cX6_toldOf 21 = .ok (.goto 33, 3) := by decide +kernel
theorem dX6_toldOf_24 : decode cX6_toldOf 24 = .ok (.iload_n 2, 1) := by decide +kernel
theorem dX6_toldOf_25 : decode cX6_toldOf 25 = .ok (.iconst 1, 1) := by decide +kernel
theorem dX6_toldOf_26 : decode cX6_toldOf 26 = .ok (.if_icmp .ne 12, 3) := by decide +kernel
theorem dX6_toldOf_29 : decode cX6_toldOf 29 = .ok (.aload_n 0, 1) := by decide +kernel
theorem dX6_toldOf_30 : decode cX6_toldOf 30 = .ok (.getfield 13, 3) := by decide +kernel
theorem dX6_toldOf_33 : decode cX6_toldOf 33 = .ok (.iload_n 1, 1) := by decide +kernel
theorem dX6_toldOf_34 : decode cX6_toldOf 34 = .ok (.iaload, 1) := by decide +kernel
theorem dX6_toldOf_35 : decode cX6_toldOf 35 = .ok (.goto 19, 3) := by decide +kernel
theorem dX6_toldOf_38 : decode cX6_toldOf 38 = .ok (.iload_n 2, 1) := by decide +kernel
theorem dX6_toldOf_39 : decode cX6_toldOf 39 = .ok (.iconst 2, 1) := by decide +kernel
theorem dX6_toldOf_40 : decode cX6_toldOf 40 = .ok (.if_icmp .ne 12, 3) := by decide +kernel
theorem dX6_toldOf_43 : decode cX6_toldOf 43 = .ok (.aload_n 0, 1) := by decide +kernel
theorem dX6_toldOf_44 : decode cX6_toldOf 44 = .ok (.getfield 16, 3) := by decide +kernel
theorem dX6_toldOf_47 : decode cX6_toldOf 47 = .ok (.iload_n 1, 1) := by decide +kernel
theorem dX6_toldOf_48 : decode cX6_toldOf 48 = .ok (.iaload, 1) := by decide +kernel
theorem dX6_toldOf_49 : decode cX6_toldOf 49 = .ok (.goto 5, 3) := by decide +kernel
theorem dX6_toldOf_52 : decode cX6_toldOf 52 = .ok (.bipush (-2), 2) := by decide +kernel
theorem dX6_toldOf_54 : decode cX6_toldOf 54 = .ok (.ireturn, 1) := by decide +kernel
set_option maxRecDepth 20000 in
theorem ggX6_told_X6_in : GoodIn wsX6_told wsX6_in := goodIn_r _ [14] (by decide +kernel) (by decide +kernel)
set_option maxRecDepth 20000 in
theorem gX6_told_X6_in : GoodIn wsX6_told (va_wsS RX6 81 yX6_in wsX6_in) := goodIn_app (goodIn_of _ (by decide +kernel)) ggX6_told_X6_in
set_option maxRecDepth 20000 in
theorem ggX6_told_X6_isCourtier : GoodIn wsX6_told wsX6_isCourtier := goodIn_r _ [18, 19, 7, 11, 12, 13, 14, 34, 35, 36, 37, 38, 39, 40, 41, 42, 43, 44, 45, 46, 47, 48, 49, 50, 51, 52, 53, 54, 55, 56, 57, 58, 59, 60, 61, 62, 63, 64, 65, 66, 67] (by decide +kernel) (by decide +kernel)
set_option maxRecDepth 20000 in
theorem gX6_told_X6_isCourtier : GoodIn wsX6_told (wsV RX6 90 RX6 yX6_isCourtier wsX6_isCourtier) := goodIn_app (goodIn_of _ (by decide +kernel)) ggX6_told_X6_isCourtier
set_option maxRecDepth 20000 in
theorem ggX6_told_X6_isHour : GoodIn wsX6_told wsX6_isHour := goodIn_r _ [22, 23, 11, 12, 13, 14] (by decide +kernel) (by decide +kernel)
set_option maxRecDepth 20000 in
theorem gX6_told_X6_isHour : GoodIn wsX6_told (va_wsS RX6 221 yX6_isHour wsX6_isHour) := goodIn_app (goodIn_of _ (by decide +kernel)) ggX6_told_X6_isHour
set_option maxRecDepth 20000 in
theorem ggX6_told_X6_at : GoodIn wsX6_told wsX6_at := goodIn_r _ [26] (by decide +kernel) (by decide +kernel)
set_option maxRecDepth 20000 in
theorem gX6_told_X6_at : GoodIn wsX6_told (va_wsS RX6 94 yX6_at wsX6_at) := goodIn_app (goodIn_of _ (by decide +kernel)) ggX6_told_X6_at
set_option maxRecDepth 20000 in
theorem ggX6_told_X6_toldOf : GoodIn wsX6_told wsX6_toldOf := goodIn_r _ [30, 31, 32, 33, 15, 16, 17, 13, 18, 19, 7, 11, 12, 14, 34, 35, 36, 37, 38, 39, 40, 41, 42, 43, 44, 45, 46, 47, 48, 49, 50, 51, 52, 53, 54, 55, 56, 57, 58, 59, 60, 61, 62, 63, 64, 65, 66, 67] (by decide +kernel) (by decide +kernel)
set_option maxRecDepth 20000 in
theorem gX6_told_X6_toldOf : GoodIn wsX6_told (wsV RX6 299 RX6 yX6_toldOf wsX6_toldOf) := goodIn_app (goodIn_of _ (by decide +kernel)) ggX6_told_X6_toldOf
theorem dX6_told_0 : decode cX6_told 0 = .ok (.iload_n 1, 1) := by decide +kernel
theorem dX6_told_1 : decode cX6_told 1 = .ok (.i2l, 1) := by decide +kernel
theorem dX6_told_2 : decode cX6_told 2 = .ok (.ldc2_w 293, 3) := by decide +kernel
theorem dX6_told_5 : decode cX6_told 5 = .ok (.ldc2_w 295, 3) := by decide +kernel
theorem dX6_told_8 : decode cX6_told 8 = .ok (.invokestatic 81, 3) := by decide +kernel
theorem dX6_told_11 : decode cX6_told 11 = .ok (.ifCond .eq 47, 3) := by decide +kernel
theorem dX6_told_14 : decode cX6_told 14 = .ok (.iload_n 1, 1) := by decide +kernel
theorem dX6_told_15 : decode cX6_told 15 = .ok (.bipush 100, 2) := by decide +kernel
theorem dX6_told_17 : decode cX6_told 17 = .ok (.idiv, 1) := by decide +kernel
theorem dX6_told_18 : decode cX6_told 18 = .ok (.iconst 1, 1) := by decide +kernel
theorem dX6_told_19 : decode cX6_told 19 = .ok (.isub, 1) := by decide +kernel
theorem dX6_told_20 : decode cX6_told 20 = .ok (.istore_n 2, 1) := by decide +kernel
theorem dX6_told_21 : decode cX6_told 21 = .ok (.aload_n 0, 1) := by decide +kernel
theorem dX6_told_22 : decode cX6_told 22 = .ok (.iload_n 2, 1) := by decide +kernel
theorem dX6_told_23 : decode cX6_told 23 = .ok (.invokevirtual 90, 3) := by decide +kernel
theorem dX6_told_26 : decode cX6_told 26 = .ok (.ifCond .eq 29, 3) := by decide +kernel
theorem dX6_told_29 : decode cX6_told 29 = .ok (.iload_n 1, 1) := by decide +kernel
theorem dX6_told_30 : decode cX6_told 30 = .ok (.bipush 100, 2) := by decide +kernel
theorem dX6_told_32 : decode cX6_told 32 = .ok (.irem, 1) := by decide +kernel
theorem dX6_told_33 : decode cX6_told 33 = .ok (.invokestatic 221, 3) := by decide +kernel
theorem dX6_told_36 : decode cX6_told 36 = .ok (.ifCond .eq 19, 3) := by decide +kernel
theorem dX6_told_39 : decode cX6_told 39 = .ok (.aload_n 0, 1) := by decide +kernel
theorem dX6_told_40 : decode cX6_told 40 = .ok (.getfield 19, 3) := by decide +kernel
theorem dX6_told_43 : decode cX6_told 43 = .ok (.iload_n 2, 1) := by decide +kernel
theorem dX6_told_44 : decode cX6_told 44 = .ok (.iload_n 1, 1) := by decide +kernel
theorem dX6_told_45 : decode cX6_told 45 = .ok (.bipush 100, 2) := by decide +kernel
theorem dX6_told_47 : decode cX6_told 47 = .ok (.irem, 1) := by decide +kernel
theorem dX6_told_48 : decode cX6_told 48 = .ok (.invokestatic 94, 3) := by decide +kernel
theorem dX6_told_51 : decode cX6_told 51 = .ok (.iaload, 1) := by decide +kernel
theorem dX6_told_52 : decode cX6_told 52 = .ok (.goto 5, 3) := by decide +kernel
theorem dX6_told_55 : decode cX6_told 55 = .ok (.bipush (-2), 2) := by decide +kernel
theorem dX6_told_57 : decode cX6_told 57 = .ok (.ireturn, 1) := by decide +kernel
theorem dX6_told_58 : decode cX6_told 58 = .ok (.iload_n 1, 1) := by decide +kernel
theorem dX6_told_59 : decode cX6_told 59 = .ok (.i2l, 1) := by decide +kernel
theorem dX6_told_60 : decode cX6_told 60 = .ok (.ldc2_w 262, 3) := by decide +kernel
theorem dX6_told_63 : decode cX6_told 63 = .ok (.ldc2_w 297, 3) := by decide +kernel
theorem dX6_told_66 : decode cX6_told 66 = .ok (.invokestatic 81, 3) := by decide +kernel
theorem dX6_told_69 : decode cX6_told 69 = .ok (.ifCond .eq 18, 3) := by decide +kernel
theorem dX6_told_72 : decode cX6_told 72 = .ok (.aload_n 0, 1) := by decide +kernel
theorem dX6_told_73 : decode cX6_told 73 = .ok (.iload_n 1, 1) := by decide +kernel
theorem dX6_told_74 : decode cX6_told 74 = .ok (.bipush 10, 2) := by decide +kernel
theorem dX6_told_76 : decode cX6_told 76 = .ok (.idiv, 1) := by decide +kernel
theorem dX6_told_77 : decode cX6_told 77 = .ok (.iconst 1, 1) := by decide +kernel
theorem dX6_told_78 : decode cX6_told 78 = .ok (.isub, 1) := by decide +kernel
theorem dX6_told_79 : decode cX6_told 79 = .ok (.iload_n 1, 1) := by decide +kernel
theorem dX6_told_80 : decode cX6_told 80 = .ok (.bipush 10, 2) := by decide +kernel
theorem dX6_told_82 : decode cX6_told 82 = .ok (.irem, 1) := by decide +kernel
theorem dX6_told_83 : decode cX6_told 83 = .ok (.invokevirtual 299, 3) := by decide +kernel
theorem dX6_told_86 : decode cX6_told 86 = .ok (.ireturn, 1) := by decide +kernel
theorem dX6_told_87 : decode cX6_told 87 = .ok (.iload_n 1, 1) := by decide +kernel
theorem dX6_told_88 : decode cX6_told 88 = .ok (.tableswitch 61 0 4 #[36, 41, 46, 51, 56], 36) := by decide +kernel
theorem dX6_told_124 : decode cX6_told 124 = .ok (.aload_n 0, 1) := by decide +kernel
theorem dX6_told_125 : decode cX6_told 125 = .ok (.getfield 117, 3) := by decide +kernel
theorem dX6_told_128 : decode cX6_told 128 = .ok (.ireturn, 1) := by decide +kernel
theorem dX6_told_129 : decode cX6_told 129 = .ok (.aload_n 0, 1) := by decide +kernel
theorem dX6_told_130 : decode cX6_told 130 = .ok (.getfield 87, 3) := by decide +kernel
theorem dX6_told_133 : decode cX6_told 133 = .ok (.ireturn, 1) := by decide +kernel
theorem dX6_told_134 : decode cX6_told 134 = .ok (.aload_n 0, 1) := by decide +kernel
theorem dX6_told_135 : decode cX6_told 135 = .ok (.getfield 110, 3) := by decide +kernel
theorem dX6_told_138 : decode cX6_told 138 = .ok (.ireturn, 1) := by decide +kernel
theorem dX6_told_139 : decode cX6_told 139 = .ok (.aload_n 0, 1) := by decide +kernel
theorem dX6_told_140 : decode cX6_told 140 = .ok (.getfield 75, 3) := by decide +kernel
theorem dX6_told_143 : decode cX6_told 143 = .ok (.ireturn, 1) := by decide +kernel
theorem dX6_told_144 : decode cX6_told 144 = .ok (.aload_n 0, 1) := by decide +kernel
theorem dX6_told_145 : decode cX6_told 145 = .ok (.getfield 252, 3) := by decide +kernel
theorem dX6_told_148 : decode cX6_told 148 = .ok (.ireturn, 1) := by decide +kernel
theorem dX6_told_149 : decode cX6_told 149 = .ok (.bipush (-2), 2) := by decide +kernel
theorem dX6_told_151 : decode cX6_told 151 = .ok (.ireturn, 1) := by decide +kernel
