theorem dX5_ask_31 : decode cX5_ask 31 = .ok (.istore 4, 2) := by decide +kernel
theorem dX5_ask_33 : decode cX5_ask 33 = .ok (.iconst 0, 1) := by decide +kernel
theorem dX5_ask_34 : decode cX5_ask 34 = .ok (.istore 5, 2) := by decide +kernel
theorem dX5_ask_36 : decode cX5_ask 36 = .ok (.iload 5, 2) := by decide +kernel
theorem dX5_ask_38 : decode cX5_ask 38 = .ok (.bipush 24, 2) := by decide +kernel
theorem dX5_ask_40 : decode cX5_ask 40 = .ok (.if_icmp .ge 53, 3) := by decide +kernel
theorem dX5_ask_43 : decode cX5_ask 43 = .ok (.iload_n 2, 1) := by decide +kernel
theorem dX5_ask_44 : decode cX5_ask 44 = .ok (.aload_n 0, 1) := by decide +kernel
theorem dX5_ask_45 : decode cX5_ask 45 = .ok (.getfield 10, 3) := by decide +kernel
theorem dX5_ask_48 : decode cX5_ask 48 = .ok (.iload 5, 2) := by decide +kernel
theorem dX5_ask_50 : decode cX5_ask 50 = .ok (.invokevirtual 136, 3) := by decide +kernel
theorem dX5_ask_53 : decode cX5_ask 53 = .ok (.iand, 1) := by decide +kernel
theorem dX5_ask_54 : decode cX5_ask 54 = .ok (.invokestatic 63, 3) := by decide +kernel
theorem dX5_ask_57 : decode cX5_ask 57 = .ok (.istore 6, 2) := by decide +kernel
theorem dX5_ask_59 : decode cX5_ask 59 = .ok (.iload 6, 2) := by decide +kernel
theorem dX5_ask_61 : decode cX5_ask 61 = .ok (.iload_n 2, 1) := by decide +kernel
theorem dX5_ask_62 : decode cX5_ask 62 = .ok (.invokestatic 63, 3) := by decide +kernel
theorem dX5_ask_65 : decode cX5_ask 65 = .ok (.iload 6, 2) := by decide +kernel
theorem dX5_ask_67 : decode cX5_ask 67 = .ok (.isub, 1) := by decide +kernel
theorem dX5_ask_68 : decode cX5_ask 68 = .ok (.invokestatic 194, 3) := by decide +kernel
theorem dX5_ask_71 : decode cX5_ask 71 = .ok (.istore 7, 2) := by decide +kernel
theorem dX5_ask_73 : decode cX5_ask 73 = .ok (.iload 7, 2) := by decide +kernel
theorem dX5_ask_75 : decode cX5_ask 75 = .ok (.iload 4, 2) := by decide +kernel
theorem dX5_ask_77 : decode cX5_ask 77 = .ok (.if_icmp .ge 10, 3) := by decide +kernel
theorem dX5_ask_80 : decode cX5_ask 80 = .ok (.iload 5, 2) := by decide +kernel
theorem dX5_ask_82 : decode cX5_ask 82 = .ok (.istore_n 3, 1) := by decide +kernel
theorem dX5_ask_83 : decode cX5_ask 83 = .ok (.iload 7, 2) := by decide +kernel
theorem dX5_ask_85 : decode cX5_ask 85 = .ok (.istore 4, 2) := by decide +kernel
theorem dX5_ask_87 : decode cX5_ask 87 = .ok (.iinc 5 1, 3) := by decide +kernel
theorem dX5_ask_90 : decode cX5_ask 90 = .ok (.goto (-54), 3) := by decide +kernel
theorem dX5_ask_93 : decode cX5_ask 93 = .ok (.iload_n 1, 1) := by decide +kernel
theorem dX5_ask_94 : decode cX5_ask 94 = .ok (.ifCond .ne 7, 3) := by decide +kernel
theorem dX5_ask_97 : decode cX5_ask 97 = .ok (.iload_n 3, 1) := by decide +kernel
theorem dX5_ask_98 : decode cX5_ask 98 = .ok (.goto 5, 3) := by decide +kernel
theorem dX5_ask_101 : decode cX5_ask 101 = .ok (.iload 4, 2) := by decide +kernel
theorem dX5_ask_103 : decode cX5_ask 103 = .ok (.ireturn, 1) := by decide +kernel
set_option maxRecDepth 20000 in
theorem ggX5_tear_X5_isWithin : GoodIn wsX5_tear wsX5_isWithin := goodIn_r _ [8] (by decide +kernel) (by decide +kernel)
set_option maxRecDepth 20000 in
theorem gX5_tear_X5_isWithin : GoodIn wsX5_tear (va_wsS RX5 50 yX5_isWithin wsX5_isWithin) := goodIn_app (goodIn_of _ (by decide +kernel)) ggX5_tear_X5_isWithin
set_option maxRecDepth 20000 in
theorem ggX5_tear_X0_run : GoodIn wsX5_tear wsX0_run := goodIn_r _ [13, 14, 15, 16, 17, 18, 19, 20, 12, 21, 22, 23, 24, 25, 39, 40, 41] (by decide +kernel) (by decide +kernel)
set_option maxRecDepth 20000 in
theorem gX5_tear_X0_run : GoodIn wsX5_tear (wsV RX5 199 RX0 yX0_run wsX0_run) := goodIn_app (goodIn_of _ (by decide +kernel)) ggX5_tear_X0_run
set_option maxRecDepth 20000 in
theorem ggX5_tear_X0_someLeft : GoodIn wsX5_tear wsX0_someLeft := goodIn_r _ [21, 14, 39, 40, 41] (by decide +kernel) (by decide +kernel)
set_option maxRecDepth 20000 in
theorem gX5_tear_X0_someLeft : GoodIn wsX5_tear (wsV RX5 203 RX0 yX0_someLeft wsX0_someLeft) := goodIn_app (goodIn_of _ (by decide +kernel)) ggX5_tear_X0_someLeft
set_option maxRecDepth 20000 in
theorem ggX5_tear_X5_commonDivisor : GoodIn wsX5_tear wsX5_commonDivisor := goodIn_r _ [29] (by decide +kernel) (by decide +kernel)
set_option maxRecDepth 20000 in
theorem gX5_tear_X5_commonDivisor : GoodIn wsX5_tear (va_wsS RX5 177 yX5_commonDivisor wsX5_commonDivisor) := goodIn_app (goodIn_of _ (by decide +kernel)) ggX5_tear_X5_commonDivisor
theorem dX5_tear_0 : decode cX5_tear 0 = .ok (.iload_n 1, 1) := by decide +kernel
theorem dX5_tear_1 : decode cX5_tear 1 = .ok (.iconst 0, 1) := by decide +kernel
theorem dX5_tear_2 : decode cX5_tear 2 = .ok (.bipush 9, 2) := by decide +kernel
theorem dX5_tear_4 : decode cX5_tear 4 = .ok (.invokestatic 50, 3) := by decide +kernel
theorem dX5_tear_7 : decode cX5_tear 7 = .ok (.ifCond .eq 47, 3) := by decide +kernel
theorem dX5_tear_10 : decode cX5_tear 10 = .ok (.iload_n 2, 1) := by decide +kernel
theorem dX5_tear_11 : decode cX5_tear 11 = .ok (.iconst 0, 1) := by decide +kernel
theorem dX5_tear_12 : decode cX5_tear 12 = .ok (.bipush 12, 2) := by decide +kernel
theorem dX5_tear_14 : decode cX5_tear 14 = .ok (.invokestatic 50, 3) := by decide +kernel
theorem dX5_tear_17 : decode cX5_tear 17 = .ok (.ifCond .eq 37, 3) := by decide +kernel
theorem dX5_tear_20 : decode cX5_tear 20 = .ok (.iload_n 3, 1) := by decide +kernel
theorem dX5_tear_21 : decode cX5_tear 21 = .ok (.iconst 0, 1) := by decide +kernel
theorem dX5_tear_22 : decode cX5_tear 22 = .ok (.bipush 10, 2) := by decide +kernel
theorem dX5_tear_24 : decode cX5_tear 24 = .ok (.invokestatic 50, 3) := by decide +kernel
theorem dX5_tear_27 : decode cX5_tear 27 = .ok (.ifCond .eq 27, 3) := by decide +kernel
theorem dX5_tear_30 : decode cX5_tear 30 = .ok (.iload 4, 2) := by decide +kernel
theorem dX5_tear_32 : decode cX5_tear 32 = .ok (.iconst 0, 1) := by decide +kernel
theorem dX5_tear_33 : decode cX5_tear 33 = .ok (.iconst 1, 1) := by decide +kernel
theorem dX5_tear_34 : decode cX5_tear 34 = .ok (.invokestatic 50, 3) := by decide +kernel
theorem dX5_tear_37 : decode cX5_tear 37 = .ok (.ifCond .eq 17, 3) := by decide +kernel
theorem dX5_tear_40 : decode cX5_tear 40 = .ok (.iload 5, 2) := by decide +kernel
theorem dX5_tear_42 : decode cX5_tear 42 = .ok (.iconst 0, 1) := by decide +kernel
theorem dX5_tear_43 : decode cX5_tear 43 = .ok (.iconst 1, 1) := by decide +kernel
theorem dX5_tear_44 : decode cX5_tear 44 = .ok (.invokestatic 50, 3) := by decide +kernel
theorem dX5_tear_47 : decode cX5_tear 47 = .ok (.ifCond .eq 7, 3) := by decide +kernel
theorem dX5_tear_50 : decode cX5_tear 50 = .ok (.iconst 1, 1) := by decide +kernel
theorem dX5_tear_51 : decode cX5_tear 51 = .ok (.goto 4, 3) := by decide +kernel
theorem dX5_tear_54 : decode cX5_tear 54 = .ok (.iconst 0, 1) := by decide +kernel
theorem dX5_tear_55 : decode cX5_tear 55 = .ok (.istore 6, 2) := by decide +kernel
theorem dX5_tear_57 : decode cX5_tear 57 = .ok (.iload 6, 2) := by decide +kernel
theorem dX5_tear_59 : decode cX5_tear 59 = .ok (.ifCond .ne 7, 3) := by decide +kernel
theorem dX5_tear_62 : decode cX5_tear 62 = .ok (.ldc2_w 197, 3) := by decide +kernel
theorem dX5_tear_65 : decode cX5_tear 65 = .ok (.lreturn, 1) := by decide +kernel
theorem dX5_tear_66 : decode cX5_tear 66 = .ok (.aload_n 0, 1) := by decide +kernel
theorem dX5_tear_67 : decode cX5_tear 67 = .ok (.getfield 46, 3) := by decide +kernel
theorem dX5_tear_70 : decode cX5_tear 70 = .ok (.iload_n 1, 1) := by decide +kernel
theorem dX5_tear_71 : decode cX5_tear 71 = .ok (.iload_n 2, 1) := by decide +kernel
theorem dX5_tear_72 : decode cX5_tear 72 = .ok (.iload_n 3, 1) := by decide +kernel
theorem dX5_tear_73 : decode cX5_tear 73 = .ok (.invokevirtual 199, 3) := by decide +kernel
theorem dX5_tear_76 : decode cX5_tear 76 = .ok (.iload 4, 2) := by decide +kernel
theorem dX5_tear_78 : decode cX5_tear 78 = .ok (.ifCond .ne 13, 3) := by decide +kernel
theorem dX5_tear_81 : decode cX5_tear 81 = .ok (.aload_n 0, 1) := by decide +kernel
theorem dX5_tear_82 : decode cX5_tear 82 = .ok (.getfield 46, 3) := by decide +kernel
theorem dX5_tear_85 : decode cX5_tear 85 = .ok (.invokevirtual 203, 3) := by decide +kernel
theorem dX5_tear_88 : decode cX5_tear 88 = .ok (.goto 10, 3) := by decide +kernel
theorem dX5_tear_91 : decode cX5_tear 91 = .ok (.aload_n 0, 1) := by decide +kernel
theorem dX5_tear_92 : decode cX5_tear 92 = .ok (.getfield 46, 3) := by decide +kernel
theorem dX5_tear_95 : decode cX5_tear 95 = .ok (.getfield 207, 3) := by decide +kernel
theorem dX5_tear_98 : decode cX5_tear 98 = .ok (.lstore 7, 2) := by decide +kernel
theorem dX5_tear_100 : decode cX5_tear 100 = .ok (.lload 7, 2) := by decide +kernel
theorem dX5_tear_102 : decode cX5_tear 102 = .ok (.aload_n 0, 1) := by decide +kernel
theorem dX5_tear_103 : decode cX5_tear 103 = .ok (.getfield 46, 3) := by decide +kernel
theorem dX5_tear_106 : decode cX5_tear 106 = .ok (.getfield 211, 3) := by decide +kernel
theorem dX5_tear_109 : decode cX5_tear 109 = .ok (.invokestatic 177, 3) := by decide +kernel
theorem dX5_tear_112 : decode cX5_tear 112 = .ok (.lstore 9, 2) := by decide +kernel
theorem dX5_tear_114 : decode cX5_tear 114 = .ok (.lload 9, 2) := by decide +kernel
theorem dX5_tear_116 : decode cX5_tear 116 = .ok (.lconst 1, 1) := by decide +kernel
theorem dX5_tear_117 : decode cX5_tear 117 = .ok (.lcmp, 1) := by decide +kernel
theorem dX5_tear_118 : decode cX5_tear 118 = .ok (.ifCond .ge 5, 3) := by decide +kernel
theorem dX5_tear_121 : decode cX5_tear 121 = .ok (.lconst 0, 1) := by decide +kernel
theorem dX5_tear_122 : decode cX5_tear 122 = .ok (.lreturn, 1) := by decide +kernel
theorem dX5_tear_123 : decode cX5_tear 123 = .ok (.iload 5, 2) := by decide +kernel
theorem dX5_tear_125 : decode cX5_tear 125 = .ok (.ifCond .ne 11, 3) := by decide +kernel
theorem dX5_tear_128 : decode cX5_tear 128 = .ok (.lload 7, 2) := by decide +kernel
theorem dX5_tear_130 : decode cX5_tear 130 = .ok (.lload 9, 2) := by decide +kernel
theorem dX5_tear_132 : decode cX5_tear 132 = .ok (.ldiv, 1) := by decide +kernel
theorem dX5_tear_133 : decode cX5_tear 133 = .ok (.goto 13, 3) := by decide +kernel
theorem dX5_tear_136 : decode cX5_tear 136 = .ok (.aload_n 0, 1) := by decide +kernel
theorem dX5_tear_137 : decode cX5_tear 137 = .ok (.getfield 46, 3) := by decide +kernel
theorem dX5_tear_140 : decode cX5_tear 140 = .ok (.getfield 211, 3) := by decide +kernel
theorem dX5_tear_143 : decode cX5_tear 143 = .ok (.lload 9, 2) := by decide +kernel
theorem dX5_tear_145 : decode cX5_tear 145 = .ok (.ldiv, 1) := by decide +kernel
theorem dX5_tear_146 : decode cX5_tear 146 = .ok (.lreturn, 1) := by decide +kernel
set_option maxRecDepth 20000 in
theorem ggX5_vespers_X1_isThere : GoodIn wsX5_vespers wsX1_isThere := goodIn_r _ [6, 7, 42, 43, 44, 45, 46, 47, 48, 49, 50, 51, 52] (by decide +kernel) (by decide +kernel)
set_option maxRecDepth 20000 in
theorem gX5_vespers_X1_isThere : GoodIn wsX5_vespers (wsV RX5 69 RX1 yX1_isThere wsX1_isThere) := goodIn_app (goodIn_of _ (by decide +kernel)) ggX5_vespers_X1_isThere
set_option maxRecDepth 20000 in
theorem ggX5_vespers_X5_isWithin : GoodIn wsX5_vespers wsX5_isWithin := goodIn_r _ [11] (by decide +kernel) (by decide +kernel)
set_option maxRecDepth 20000 in
theorem gX5_vespers_X5_isWithin : GoodIn wsX5_vespers (va_wsS RX5 50 yX5_isWithin wsX5_isWithin) := goodIn_app (goodIn_of _ (by decide +kernel)) ggX5_vespers_X5_isWithin
set_option maxRecDepth 20000 in
theorem ggX5_vespers_X5_candlesOf : GoodIn wsX5_vespers wsX5_candlesOf := goodIn_r _ [15, 1, 16, 17, 18, 5, 19, 20, 21, 22, 23, 24, 25, 3, 4, 6, 7, 26, 27, 28, 29, 30, 31, 32, 2, 33, 34, 35, 36, 37, 38, 39, 40, 41, 42, 43, 44, 45, 46, 47, 48, 49, 50, 51, 52] (by decide +kernel) (by decide +kernel)
set_option maxRecDepth 20000 in
theorem gX5_vespers_X5_candlesOf : GoodIn wsX5_vespers (wsV RX5 214 RX5 yX5_candlesOf wsX5_candlesOf) := goodIn_app (goodIn_of _ (by decide +kernel)) ggX5_vespers_X5_candlesOf
theorem dX5_vespers_0 : decode cX5_vespers 0 = .ok (.aload_n 0, 1) := by decide +kernel
theorem dX5_vespers_1 : decode cX5_vespers 1 = .ok (.getfield 10, 3) := by decide +kernel
theorem dX5_vespers_4 : decode cX5_vespers 4 = .ok (.iload_n 1, 1) := by decide +kernel
theorem dX5_vespers_5 : decode cX5_vespers 5 = .ok (.invokevirtual 69, 3) := by decide +kernel
theorem dX5_vespers_8 : decode cX5_vespers 8 = .ok (.ifCond .ne 5, 3) := by decide +kernel
theorem dX5_vespers_11 : decode cX5_vespers 11 = .ok (.iconst (-1), 1) := by decide +kernel
theorem dX5_vespers_12 : decode cX5_vespers 12 = .ok (.ireturn, 1) := by decide +kernel
theorem dX5_vespers_13 : decode cX5_vespers 13 = .ok (.iload_n 2, 1) := by decide +kernel
theorem dX5_vespers_14 : decode cX5_vespers 14 = .ok (.iconst 0, 1) := by decide +kernel
theorem dX5_vespers_15 : decode cX5_vespers 15 = .ok (.sipush 999, 3) := by decide +kernel
theorem dX5_vespers_18 : decode cX5_vespers 18 = .ok (.invokestatic 50, 3) := by decide +kernel
theorem dX5_vespers_21 : decode cX5_vespers 21 = .ok (.ifCond .ne 6, 3) := by decide +kernel
theorem dX5_vespers_24 : decode cX5_vespers 24 = .ok (.bipush (-2), 2) := by decide +kernel
theorem dX5_vespers_26 : decode cX5_vespers 26 = .ok (.ireturn, 1) := by decide +kernel
theorem dX5_vespers_27 : decode cX5_vespers 27 = .ok (.aload_n 0, 1) := by decide +kernel
theorem dX5_vespers_28 : decode cX5_vespers 28 = .ok (.iload_n 1, 1) := by decide +kernel
theorem dX5_vespers_29 : decode cX5_vespers 29 = .ok (.iload_n 2, 1) := by decide +kernel
theorem dX5_vespers_30 : decode cX5_vespers 30 = .ok (.invokevirtual 214, 3) := by decide +kernel
theorem dX5_vespers_33 : decode cX5_vespers 33 = .ok (.ireturn, 1) := by decide +kernel
set_option maxRecDepth 20000 in
theorem ggX5_reign_X5_isWithin : GoodIn wsX5_reign wsX5_isWithin := goodIn_r _ [8] (by decide +kernel) (by decide +kernel)
set_option maxRecDepth 20000 in
theorem gX5_reign_X5_isWithin : GoodIn wsX5_reign (va_wsS RX5 50 yX5_isWithin wsX5_isWithin) := goodIn_app (goodIn_of _ (by decide +kernel)) ggX5_reign_X5_isWithin
set_option maxRecDepth 20000 in
theorem ggX5_reign_X2_playDraws : GoodIn wsX5_reign wsX2_playDraws := goodIn_r _ [13, 14, 15, 16, 17, 12, 18, 19, 20, 21, 22, 23, 24, 25, 26, 27, 28, 29, 30, 31, 32, 33, 34, 35, 36, 37, 38, 39, 40, 41, 42, 43, 44, 45, 46, 47, 48, 49, 50, 51, 52, 53, 54, 55, 56, 57, 58, 59, 60, 61, 62, 63, 64, 65, 66, 67, 68, 69, 70, 71, 72, 73, 74, 75, 76, 77, 78, 79, 80, 81, 82, 83, 84, 85, 86, 87, 88, 89, 90, 91, 6, 7, 8, 92, 93, 94, 95, 96, 97, 98, 99, 100, 101, 102, 103, 129, 130, 131, 132, 133, 134, 135, 136, 137, 138, 139, 140, 141, 142, 143, 144, 145, 146, 147, 148] (by decide +kernel) (by decide +kernel)
set_option maxRecDepth 20000 in
theorem gX5_reign_X2_playDraws : GoodIn wsX5_reign (wsV RX5 217 RX2 yX2_playDraws wsX2_playDraws) := goodIn_app (goodIn_of _ (by decide +kernel)) ggX5_reign_X2_playDraws
set_option maxRecDepth 20000 in
theorem ggX5_reign_X1_scandalsTogether : GoodIn wsX5_reign wsX1_scandalsTogether := goodIn_r _ [107, 42, 52, 53, 54, 27, 55, 29, 138, 139, 140, 141, 142, 143, 144, 145, 146, 147, 148] (by decide +kernel) (by decide +kernel)
set_option maxRecDepth 20000 in
theorem gX5_reign_X1_scandalsTogether : GoodIn wsX5_reign (wsV RX5 220 RX1 yX1_scandalsTogether wsX1_scandalsTogether) := goodIn_app (goodIn_of _ (by decide +kernel)) ggX5_reign_X1_scandalsTogether
set_option maxRecDepth 20000 in
theorem ggX5_reign_X2_countLate : GoodIn wsX5_reign wsX2_countLate := goodIn_r _ [111, 21, 112, 113, 114, 12, 115, 88, 89, 116, 117, 118, 119, 6, 7, 8, 129, 130, 131, 132, 133, 134, 135, 136, 137] (by decide +kernel) (by decide +kernel)
set_option maxRecDepth 20000 in
theorem gX5_reign_X2_countLate : GoodIn wsX5_reign (wsV RX5 123 RX2 yX2_countLate wsX2_countLate) := goodIn_app (goodIn_of _ (by decide +kernel)) ggX5_reign_X2_countLate
theorem dX5_reign_0 : decode cX5_reign 0 = .ok (.iload_n 1, 1) := by decide +kernel
theorem dX5_reign_1 : decode cX5_reign 1 = .ok (.iconst 0, 1) := by decide +kernel
theorem dX5_reign_2 : decode cX5_reign 2 = .ok (.sipush 9999, 3) := by decide +kernel
theorem dX5_reign_5 : decode cX5_reign 5 = .ok (.invokestatic 50, 3) := by decide +kernel
theorem dX5_reign_8 : decode cX5_reign 8 = .ok (.ifCond .eq 22, 3) := by decide +kernel
theorem dX5_reign_11 : decode cX5_reign 11 = .ok (.iload_n 2, 1) := by decide +kernel
theorem dX5_reign_12 : decode cX5_reign 12 = .ok (.iconst 1, 1) := by decide +kernel
theorem dX5_reign_13 : decode cX5_reign 13 = .ok (.bipush 99, 2) := by decide +kernel
theorem dX5_reign_15 : decode cX5_reign 15 = .ok (.invokestatic 50, 3) := by decide +kernel
theorem dX5_reign_18 : decode cX5_reign 18 = .ok (.ifCond .eq 12, 3) := by decide +kernel
theorem dX5_reign_21 : decode cX5_reign 21 = .ok (.iload_n 3, 1) := by decide +kernel
theorem dX5_reign_22 : decode cX5_reign 22 = .ok (.iconst 0, 1) := by decide +kernel
theorem dX5_reign_23 : decode cX5_reign 23 = .ok (.iconst 2, 1) := by decide +kernel
theorem dX5_reign_24 : decode cX5_reign 24 = .ok (.invokestatic 50, 3) := by decide +kernel
theorem dX5_reign_27 : decode cX5_reign 27 = .ok (.ifCond .ne 6, 3) := by decide +kernel
theorem dX5_reign_30 : decode cX5_reign 30 = .ok (.bipush (-2), 2) := by decide +kernel
theorem dX5_reign_32 : decode cX5_reign 32 = .ok (.ireturn, 1) := by decide +kernel
theorem dX5_reign_33 : decode cX5_reign 33 = .ok (.aload_n 0, 1) := by decide +kernel
theorem dX5_reign_34 : decode cX5_reign 34 = .ok (.getfield 32, 3) := by decide +kernel
theorem dX5_reign_37 : decode cX5_reign 37 = .ok (.aload_n 0, 1) := by decide +kernel
theorem dX5_reign_38 : decode cX5_reign 38 = .ok (.getfield 10, 3) := by decide +kernel
theorem dX5_reign_41 : decode cX5_reign 41 = .ok (.iload_n 1, 1) := by decide +kernel
theorem dX5_reign_42 : decode cX5_reign 42 = .ok (.iload_n 2, 1) := by decide +kernel
theorem dX5_reign_43 : decode cX5_reign 43 = .ok (.invokevirtual 217, 3) := by decide +kernel
theorem dX5_reign_46 : decode cX5_reign 46 = .ok (.iload_n 3, 1) := by decide +kernel
theorem dX5_reign_47 : decode cX5_reign 47 = .ok (.iconst 2, 1) := by decide +kernel
theorem dX5_reign_48 : decode cX5_reign 48 = .ok (.if_icmp .ne 14, 3) := by decide +kernel
theorem dX5_reign_51 : decode cX5_reign 51 = .ok (.aload_n 0, 1) := by decide +kernel
theorem dX5_reign_52 : decode cX5_reign 52 = .ok (.getfield 32, 3) := by decide +kernel
theorem dX5_reign_55 : decode cX5_reign 55 = .ok (.getfield 106, 3) := by decide +kernel
theorem dX5_reign_58 : decode cX5_reign 58 = .ok (.invokevirtual 220, 3) := by decide +kernel
theorem dX5_reign_61 : decode cX5_reign 61 = .ok (.ireturn, 1) := by decide +kernel
theorem dX5_reign_62 : decode cX5_reign 62 = .ok (.iload_n 3, 1) := by decide +kernel
theorem dX5_reign_63 : decode cX5_reign 63 = .ok (.ifCond .ne 13, 3) := by decide +kernel
theorem dX5_reign_66 : decode cX5_reign 66 = .ok (.aload_n 0, 1) := by decide +kernel
theorem dX5_reign_67 : decode cX5_reign 67 = .ok (.getfield 32, 3) := by decide +kernel
theorem dX5_reign_70 : decode cX5_reign 70 = .ok (.getfield 97, 3) := by decide +kernel
theorem dX5_reign_73 : decode cX5_reign 73 = .ok (.goto 10, 3) := by decide +kernel
theorem dX5_reign_76 : decode cX5_reign 76 = .ok (.aload_n 0, 1) := by decide +kernel
theorem dX5_reign_77 : decode cX5_reign 77 = .ok (.getfield 32, 3) := by decide +kernel
theorem dX5_reign_80 : decode cX5_reign 80 = .ok (.invokevirtual 123, 3) := by decide +kernel
theorem dX5_reign_83 : decode cX5_reign 83 = .ok (.ireturn, 1) := by decide +kernel
set_option maxRecDepth 20000 in
theorem ggX5_image_X5_isWithin : GoodIn wsX5_image wsX5_isWithin := goodIn_r _ [9] (by decide +kernel) (by decide +kernel)
set_option maxRecDepth 20000 in
theorem gX5_image_X5_isWithin : GoodIn wsX5_image (va_wsS RX5 50 yX5_isWithin wsX5_isWithin) := goodIn_app (goodIn_of _ (by decide +kernel)) ggX5_image_X5_isWithin
set_option maxRecDepth 20000 in
theorem ggX5_image_X1_copyFrom : GoodIn wsX5_image wsX1_copyFrom := goodIn_r _ [14, 15, 16, 17, 18, 19, 20, 21, 22, 23, 24, 25, 26, 27, 28, 29, 39, 40, 41, 42, 43, 44, 45, 46, 47, 48, 49] (by decide +kernel) (by decide +kernel)
set_option maxRecDepth 20000 in
theorem gX5_image_X1_copyFrom : GoodIn wsX5_image (wsV RX5 126 RX1 yX1_copyFrom wsX1_copyFrom) := goodIn_app (goodIn_of _ (by decide +kernel)) ggX5_image_X1_copyFrom
theorem dX5_image_0 : decode cX5_image 0 = .ok (.iload_n 1, 1) := by decide +kernel
theorem dX5_image_1 : decode cX5_image 1 = .ok (.iconst 0, 1) := by decide +kernel
theorem dX5_image_2 : decode cX5_image 2 = .ok (.iconst 1, 1) := by decide +kernel
theorem dX5_image_3 : decode cX5_image 3 = .ok (.invokestatic 50, 3) := by decide +kernel
theorem dX5_image_6 : decode cX5_image 6 = .ok (.ifCond .ne 6, 3) := by decide +kernel
theorem dX5_image_9 : decode cX5_image 9 = .ok (.bipush (-2), 2) := by decide +kernel
theorem dX5_image_11 : decode cX5_image 11 = .ok (.ireturn, 1) := by decide +kernel
theorem dX5_image_12 : decode cX5_image 12 = .ok (.iload_n 1, 1) := by decide +kernel
theorem dX5_image_13 : decode cX5_image 13 = .ok (.ifCond .ne 22, 3) := by decide +kernel
theorem dX5_image_16 : decode cX5_image 16 = .ok (.aload_n 0, 1) := by decide +kernel
theorem dX5_image_17 : decode cX5_image 17 = .ok (.getfield 16, 3) := by decide +kernel
theorem dX5_image_20 : decode cX5_image 20 = .ok (.aload_n 0, 1) := by decide +kernel
theorem dX5_image_21 : decode cX5_image 21 = .ok (.getfield 10, 3) := by decide +kernel
theorem dX5_image_24 : decode cX5_image 24 = .ok (.invokevirtual 126, 3) := by decide +kernel
theorem dX5_image_27 : decode cX5_image 27 = .ok (.aload_n 0, 1) := by decide +kernel
theorem dX5_image_28 : decode cX5_image 28 = .ok (.iconst 1, 1) := by decide +kernel
theorem dX5_image_29 : decode cX5_image 29 = .ok (.putfield 223, 3) := by decide +kernel
theorem dX5_image_32 : decode cX5_image 32 = .ok (.goto 19, 3) := by decide +kernel
theorem dX5_image_35 : decode cX5_image 35 = .ok (.aload_n 0, 1) := by decide +kernel
theorem dX5_image_36 : decode cX5_image 36 = .ok (.getfield 19, 3) := by decide +kernel
theorem dX5_image_39 : decode cX5_image 39 = .ok (.aload_n 0, 1) := by decide +kernel
theorem dX5_image_40 : decode cX5_image 40 = .ok (.getfield 10, 3) := by decide +kernel
theorem dX5_image_43 : decode cX5_image 43 = .ok (.invokevirtual 126, 3) := by decide +kernel
theorem dX5_image_46 : decode cX5_image 46 = .ok (.aload_n 0, 1) := by decide +kernel
theorem dX5_image_47 : decode cX5_image 47 = .ok (.iconst 1, 1) := by decide +kernel
theorem dX5_image_48 : decode cX5_image 48 = .ok (.putfield 227, 3) := by decide +kernel
theorem dX5_image_51 : decode cX5_image 51 = .ok (.iconst 1, 1) := by decide +kernel
theorem dX5_image_52 : decode cX5_image 52 = .ok (.ireturn, 1) := by decide +kernel
set_option maxRecDepth 20000 in
theorem ggX5_restore_X5_isWithin : GoodIn wsX5_restore wsX5_isWithin := goodIn_r _ [9] (by decide +kernel) (by decide +kernel)
set_option maxRecDepth 20000 in
theorem gX5_restore_X5_isWithin : GoodIn wsX5_restore (va_wsS RX5 50 yX5_isWithin wsX5_isWithin) := goodIn_app (goodIn_of _ (by decide +kernel)) ggX5_restore_X5_isWithin
set_option maxRecDepth 20000 in
theorem ggX5_restore_X1_copyFrom : GoodIn wsX5_restore wsX1_copyFrom := goodIn_r _ [14, 15, 16, 17, 18, 19, 20, 21, 22, 23, 24, 25, 26, 27, 28, 29, 39, 40, 41, 42, 43, 44, 45, 46, 47, 48, 49] (by decide +kernel) (by decide +kernel)
set_option maxRecDepth 20000 in
theorem gX5_restore_X1_copyFrom : GoodIn wsX5_restore (wsV RX5 126 RX1 yX1_copyFrom wsX1_copyFrom) := goodIn_app (goodIn_of _ (by decide +kernel)) ggX5_restore_X1_copyFrom
theorem dX5_restore_0 : decode cX5_restore 0 = .ok (.iload_n 1, 1) := by decide +kernel
theorem dX5_restore_1 : decode cX5_restore 1 = .ok (.iconst 0, 1) := by decide +kernel
theorem dX5_restore_2 : decode cX5_restore 2 = .ok (.iconst 1, 1) := by decide +kernel
theorem dX5_restore_3 : decode cX5_restore 3 = .ok (.invokestatic 50, 3) := by decide +kernel
theorem dX5_restore_6 : decode cX5_restore 6 = .ok (.ifCond .ne 6, 3) := by decide +kernel
theorem dX5_restore_9 : decode cX5_restore 9 = .ok (.bipush (-2), 2) := by decide +kernel
theorem dX5_restore_11 : decode cX5_restore 11 = .ok (.ireturn, 1) := by decide +kernel
theorem dX5_restore_12 : decode cX5_restore 12 = .ok (.iload_n 1, 1) := by decide +kernel
theorem dX5_restore_13 : decode cX5_restore 13 = .ok (.ifCond .ne 10, 3) := by decide +kernel
theorem dX5_restore_16 : decode cX5_restore 16 = .ok (.aload_n 0, 1) := by decide +kernel
theorem dX5_restore_17 : decode cX5_restore 17 = .ok (.getfield 223, 3) := by decide +kernel
theorem dX5_restore_20 : decode cX5_restore 20 = .ok (.goto 7, 3) := by decide +kernel
theorem dX5_restore_23 : decode cX5_restore 23 = .ok (.aload_n 0, 1) := by decide +kernel
theorem dX5_restore_24 : decode cX5_restore 24 = .ok (.getfield 227, 3) := by decide +kernel
theorem dX5_restore_27 : decode cX5_restore 27 = .ok (.istore_n 2, 1) := by decide +kernel
theorem dX5_restore_28 : decode cX5_restore 28 = .ok (.iload_n 2, 1) := by decide +kernel
theorem dX5_restore_29 : decode cX5_restore 29 = .ok (.ifCond .ne 6, 3) := by decide +kernel
theorem dX5_restore_32 : decode cX5_restore 32 = .ok (.bipush (-3), 2) := by decide +kernel
theorem dX5_restore_34 : decode cX5_restore 34 = .ok (.ireturn, 1) := by decide +kernel
theorem dX5_restore_35 : decode cX5_restore 35 = .ok (.aload_n 0, 1) := by decide +kernel
theorem dX5_restore_36 : decode cX5_restore 36 = .ok (.getfield 10, 3) := by decide +kernel
theorem dX5_restore_39 : decode cX5_restore 39 = .ok (.iload_n 1, 1) := by decide +kernel
theorem dX5_restore_40 : decode cX5_restore 40 = .ok (.ifCond .ne 10, 3) := by decide +kernel
theorem dX5_restore_43 : decode cX5_restore 43 = .ok (.aload_n 0, 1) := by decide +kernel
theorem dX5_restore_44 : decode cX5_restore 44 = .ok (.getfield 16, 3) := by decide +kernel
theorem dX5_restore_47 : decode cX5_restore 47 = .ok (.goto 7, 3) := by decide +kernel
theorem dX5_restore_50 : decode cX5_restore 50 = .ok (.aload_n 0, 1) := by decide +kernel
theorem dX5_restore_51 : decode cX5_restore 51 = .ok (.getfield 19, 3) := by decide +kernel
theorem dX5_restore_54 : decode cX5_restore 54 = .ok (.invokevirtual 126, 3) := by decide +kernel
theorem dX5_restore_57 : decode cX5_restore 57 = .ok (.iconst 1, 1) := by decide +kernel
theorem dX5_restore_58 : decode cX5_restore 58 = .ok (.ireturn, 1) := by decide +kernel
set_option maxRecDepth 20000 in
theorem ggX5_told_X5_toldOfCourtier : GoodIn wsX5_told wsX5_toldOfCourtier := goodIn_r _ [12, 3, 13, 14, 15, 16, 17, 18, 19, 20, 11, 21, 22, 23, 24, 25, 26, 27, 28, 29, 30, 31, 32, 33, 34, 35, 36, 37, 38, 39, 40, 41, 42, 43, 44, 45, 46, 47, 48, 51, 52, 53, 54, 55, 56, 57, 58, 59, 60, 61] (by decide +kernel) (by decide +kernel)
set_option maxRecDepth 20000 in
theorem gX5_told_X5_toldOfCourtier : GoodIn wsX5_told (wsV RX5 230 RX5 yX5_toldOfCourtier wsX5_toldOfCourtier) := goodIn_app (goodIn_of _ (by decide +kernel)) ggX5_told_X5_toldOfCourtier
theorem dX5_told_0 : decode cX5_told 0 = .ok (.iload_n 1, 1) := by decide +kernel
theorem dX5_told_1 : decode cX5_told 1 = .ok (.tableswitch 75 0 4 #[35, 43, 51, 59, 67], 35) := by decide +kernel
theorem dX5_told_36 : decode cX5_told 36 = .ok (.aload_n 0, 1) := by decide +kernel
theorem dX5_told_37 : decode cX5_told 37 = .ok (.getfield 25, 3) := by decide +kernel
theorem dX5_told_40 : decode cX5_told 40 = .ok (.getfield 86, 3) := by decide +kernel
theorem dX5_told_43 : decode cX5_told 43 = .ok (.ireturn, 1) := by decide +kernel
theorem dX5_told_44 : decode cX5_told 44 = .ok (.aload_n 0, 1) := by decide +kernel
theorem dX5_told_45 : decode cX5_told 45 = .ok (.getfield 10, 3) := by decide +kernel
theorem dX5_told_48 : decode cX5_told 48 = .ok (.getfield 59, 3) := by decide +kernel
theorem dX5_told_51 : decode cX5_told 51 = .ok (.ireturn, 1) := by decide +kernel
theorem dX5_told_52 : decode cX5_told 52 = .ok (.aload_n 0, 1) := by decide +kernel
theorem dX5_told_53 : decode cX5_told 53 = .ok (.getfield 10, 3) := by decide +kernel
theorem dX5_told_56 : decode cX5_told 56 = .ok (.getfield 77, 3) := by decide +kernel
theorem dX5_told_59 : decode cX5_told 59 = .ok (.ireturn, 1) := by decide +kernel
theorem dX5_told_60 : decode cX5_told 60 = .ok (.aload_n 0, 1) := by decide +kernel
theorem dX5_told_61 : decode cX5_told 61 = .ok (.getfield 10, 3) := by decide +kernel
theorem dX5_told_64 : decode cX5_told 64 = .ok (.getfield 80, 3) := by decide +kernel
theorem dX5_told_67 : decode cX5_told 67 = .ok (.ireturn, 1) := by decide +kernel
theorem dX5_told_68 : decode cX5_told 68 = .ok (.aload_n 0, 1) := by decide +kernel
theorem dX5_told_69 : decode cX5_told 69 = .ok (.getfield 10, 3) := by decide +kernel
theorem dX5_told_72 : decode cX5_told 72 = .ok (.getfield 181, 3) := by decide +kernel
theorem dX5_told_75 : decode cX5_told 75 = .ok (.ireturn, 1) := by decide +kernel
theorem dX5_told_76 : decode cX5_told 76 = .ok (.aload_n 0, 1) := by decide +kernel
theorem dX5_told_77 : decode cX5_told 77 = .ok (.iload_n 1, 1) := by decide +kernel
theorem dX5_told_78 : decode cX5_told 78 = .ok (.invokevirtual 230, 3) := by decide +kernel
theorem dX5_told_81 : decode cX5_told 81 = .ok (.ireturn, 1) := by decide +kernel
theorem dX5_isWithin_0 : decode cX5_isWithin 0 = .ok (.iload_n 0, 1) := by decide +kernel
theorem dX5_isWithin_1 : decode cX5_isWithin 1 = .ok (.iload_n 1, 1) := by decide +kernel
theorem dX5_isWithin_2 : decode cX5_isWithin 2 = .ok (.if_icmp .lt 12, 3) := by decide +kernel
theorem dX5_isWithin_5 : decode cX5_isWithin 5 = .ok (.iload_n 0, 1) := by decide +kernel
theorem dX5_isWithin_6 : decode cX5_isWithin 6 = .ok (.iload_n 2, 1) := by decide +kernel
theorem dX5_isWithin_7 : decode cX5_isWithin 7 = .ok (.if_icmp .gt 7, 3) := by decide +kernel
theorem dX5_isWithin_10 : decode cX5_isWithin 10 = .ok (.iconst 1, 1) := by decide +kernel
theorem dX5_isWithin_11 : decode cX5_isWithin 11 = .ok (.goto 4, 3) := by decide +kernel
theorem dX5_isWithin_14 : decode cX5_isWithin 14 = .ok (.iconst 0, 1) := by decide +kernel
theorem dX5_isWithin_15 : decode cX5_isWithin 15 = .ok (.ireturn, 1) := by decide +kernel
set_option maxRecDepth 20000 in
theorem ggX5_hasHour_X5_isWithin : GoodIn wsX5_hasHour wsX5_isWithin := goodIn_r _ [4] (by decide +kernel) (by decide +kernel)
set_option maxRecDepth 20000 in
theorem gX5_hasHour_X5_isWithin : GoodIn wsX5_hasHour (va_wsS RX5 50 yX5_isWithin wsX5_isWithin) := goodIn_app (goodIn_of _ (by decide +kernel)) ggX5_hasHour_X5_isWithin
theorem dX5_hasHour_0 : decode cX5_hasHour 0 = .ok (.iload_n 1, 1) := by decide +kernel
theorem dX5_hasHour_1 : decode cX5_hasHour 1 = .ok (.iconst 0, 1) := by decide +kernel
theorem dX5_hasHour_2 : decode cX5_hasHour 2 = .ok (.bipush 23, 2) := by decide +kernel
theorem dX5_hasHour_4 : decode cX5_hasHour 4 = .ok (.invokestatic 50, 3) := by decide +kernel
theorem dX5_hasHour_7 : decode cX5_hasHour 7 = .ok (.ifCond .eq 15, 3) := by decide +kernel
theorem dX5_hasHour_10 : decode cX5_hasHour 10 = .ok (.iload_n 0, 1) := by decide +kernel
theorem dX5_hasHour_11 : decode cX5_hasHour 11 = .ok (.iconst 1, 1) := by decide +kernel
theorem dX5_hasHour_12 : decode cX5_hasHour 12 = .ok (.iload_n 1, 1) := by decide +kernel
theorem dX5_hasHour_13 : decode cX5_hasHour 13 = .ok (.ishl, 1) := by decide +kernel
theorem dX5_hasHour_14 : decode cX5_hasHour 14 = .ok (.iand, 1) := by decide +kernel
theorem dX5_hasHour_15 : decode cX5_hasHour 15 = .ok (.ifCond .eq 7, 3) := by decide +kernel
theorem dX5_hasHour_18 : decode cX5_hasHour 18 = .ok (.iconst 1, 1) := by decide +kernel
theorem dX5_hasHour_19 : decode cX5_hasHour 19 = .ok (.goto 4, 3) := by decide +kernel
theorem dX5_hasHour_22 : decode cX5_hasHour 22 = .ok (.iconst 0, 1) := by decide +kernel
theorem dX5_hasHour_23 : decode cX5_hasHour 23 = .ok (.ireturn, 1) := by decide +kernel
set_option maxRecDepth 20000 in
theorem ggX5_areCountries_X5_isWithin : GoodIn wsX5_areCountries wsX5_isWithin := goodIn_r _ [4] (by decide +kernel) (by decide +kernel)
set_option maxRecDepth 20000 in
theorem gX5_areCountries_X5_isWithin : GoodIn wsX5_areCountries (va_wsS RX5 50 yX5_isWithin wsX5_isWithin) := goodIn_app (goodIn_of _ (by decide +kernel)) ggX5_areCountries_X5_isWithin
theorem dX5_areCountries_0 : decode cX5_areCountries 0 = .ok (.iload_n 0, 1) := by decide +kernel
theorem dX5_areCountries_1 : decode cX5_areCountries 1 = .ok (.iconst 1, 1) := by decide +kernel
theorem dX5_areCountries_2 : decode cX5_areCountries 2 = .ok (.sipush 999, 3) := by decide +kernel
theorem dX5_areCountries_5 : decode cX5_areCountries 5 = .ok (.invokestatic 50, 3) := by decide +kernel
theorem dX5_areCountries_8 : decode cX5_areCountries 8 = .ok (.ifCond .eq 40, 3) := by decide +kernel
theorem dX5_areCountries_11 : decode cX5_areCountries 11 = .ok (.iload_n 2, 1) := by decide +kernel
theorem dX5_areCountries_12 : decode cX5_areCountries 12 = .ok (.iconst 1, 1) := by decide +kernel
theorem dX5_areCountries_13 : decode cX5_areCountries 13 = .ok (.sipush 999, 3) := by decide +kernel
theorem dX5_areCountries_16 : decode cX5_areCountries 16 = .ok (.invokestatic 50, 3) := by decide +kernel
theorem dX5_areCountries_19 : decode cX5_areCountries 19 = .ok (.ifCond .eq 29, 3) := by decide +kernel
theorem dX5_areCountries_22 : decode cX5_areCountries 22 = .ok (.iload_n 1, 1) := by decide +kernel
theorem dX5_areCountries_23 : decode cX5_areCountries 23 = .ok (.iconst 0, 1) := by decide +kernel
theorem dX5_areCountries_24 : decode cX5_areCountries 24 = .ok (.iload_n 0, 1) := by decide +kernel
theorem dX5_areCountries_25 : decode cX5_areCountries 25 = .ok (.iconst 1, 1) := by decide +kernel
theorem dX5_areCountries_26 : decode cX5_areCountries 26 = .ok (.isub, 1) := by decide +kernel
theorem dX5_areCountries_27 : decode cX5_areCountries 27 = .ok (.invokestatic 50, 3) := by decide +kernel
theorem dX5_areCountries_30 : decode cX5_areCountries 30 = .ok (.ifCond .eq 18, 3) := by decide +kernel
theorem dX5_areCountries_33 : decode cX5_areCountries 33 = .ok (.iload_n 3, 1) := by decide +kernel
theorem dX5_areCountries_34 : decode cX5_areCountries 34 = .ok (.iconst 0, 1) := by decide +kernel
theorem dX5_areCountries_35 : decode cX5_areCountries 35 = .ok (.iload_n 2, 1) := by decide +kernel
theorem dX5_areCountries_36 : decode cX5_areCountries 36 = .ok (.iconst 1, 1) := by decide +kernel
theorem dX5_areCountries_37 : decode cX5_areCountries 37 = .ok (.isub, 1) := by decide +kernel
theorem dX5_areCountries_38 : decode cX5_areCountries 38 = .ok (.invokestatic 50, 3) := by decide +kernel
theorem dX5_areCountries_41 : decode cX5_areCountries 41 = .ok (.ifCond .eq 7, 3) := by decide +kernel
theorem dX5_areCountries_44 : decode cX5_areCountries 44 = .ok (.iconst 1, 1) := by decide +kernel
theorem dX5_areCountries_45 : decode cX5_areCountries 45 = .ok (.goto 4, 3) := by decide +kernel
theorem dX5_areCountries_48 : decode cX5_areCountries 48 = .ok (.iconst 0, 1) := by decide +kernel
theorem dX5_areCountries_49 : decode cX5_areCountries 49 = .ok (.ireturn, 1) := by decide +kernel
theorem dX5_firstStrike_0 : decode cX5_firstStrike 0 = .ok (.iload_n 2, 1) := by decide +kernel
theorem dX5_firstStrike_1 : decode cX5_firstStrike 1 = .ok (.iconst 1, 1) := by decide +kernel
theorem dX5_firstStrike_2 : decode cX5_firstStrike 2 = .ok (.if_icmp .ge 6, 3) := by decide +kernel
theorem dX5_firstStrike_5 : decode cX5_firstStrike 5 = .ok (.bipush (-6), 2) := by decide +kernel
theorem dX5_firstStrike_7 : decode cX5_firstStrike 7 = .ok (.ireturn, 1) := by decide +kernel
theorem dX5_firstStrike_8 : decode cX5_firstStrike 8 = .ok (.iload_n 1, 1) := by decide +kernel
theorem dX5_firstStrike_9 : decode cX5_firstStrike 9 = .ok (.istore 4, 2) := by decide +kernel
theorem dX5_firstStrike_11 : decode cX5_firstStrike 11 = .ok (.iconst 0, 1) := by decide +kernel
theorem dX5_firstStrike_12 : decode cX5_firstStrike 12 = .ok (.istore 5, 2) := by decide +kernel
theorem dX5_firstStrike_14 : decode cX5_firstStrike 14 = .ok (.iload 5, 2) := by decide +kernel
theorem dX5_firstStrike_16 : decode cX5_firstStrike 16 = .ok (.iload_n 2, 1) := by decide +kernel
theorem dX5_firstStrike_17 : decode cX5_firstStrike 17 = .ok (.if_icmp .ge 26, 3) := by decide +kernel
theorem dX5_firstStrike_20 : decode cX5_firstStrike 20 = .ok (.iload 4, 2) := by decide +kernel
theorem dX5_firstStrike_22 : decode cX5_firstStrike 22 = .ok (.iload_n 2, 1) := by decide +kernel
theorem dX5_firstStrike_23 : decode cX5_firstStrike 23 = .ok (.irem, 1) := by decide +kernel
theorem dX5_firstStrike_24 : decode cX5_firstStrike 24 = .ok (.iload_n 3, 1) := by decide +kernel
theorem dX5_firstStrike_25 : decode cX5_firstStrike 25 = .ok (.if_icmp .ne 6, 3) := by decide +kernel
theorem dX5_firstStrike_28 : decode cX5_firstStrike 28 = .ok (.iload 4, 2) := by decide +kernel
theorem dX5_firstStrike_30 : decode cX5_firstStrike 30 = .ok (.ireturn, 1) := by decide +kernel
theorem dX5_firstStrike_31 : decode cX5_firstStrike 31 = .ok (.iload 4, 2) := by decide +kernel
theorem dX5_firstStrike_33 : decode cX5_firstStrike 33 = .ok (.iload_n 0, 1) := by decide +kernel
theorem dX5_firstStrike_34 : decode cX5_firstStrike 34 = .ok (.iadd, 1) := by decide +kernel
theorem dX5_firstStrike_35 : decode cX5_firstStrike 35 = .ok (.istore 4, 2) := by decide +kernel
theorem dX5_firstStrike_37 : decode cX5_firstStrike 37 = .ok (.iinc 5 1, 3) := by decide +kernel
theorem dX5_firstStrike_40 : decode cX5_firstStrike 40 = .ok (.goto (-26), 3) := by decide +kernel
theorem dX5_firstStrike_43 : decode cX5_firstStrike 43 = .ok (.bipush (-6), 2) := by decide +kernel
theorem dX5_firstStrike_45 : decode cX5_firstStrike 45 = .ok (.ireturn, 1) := by decide +kernel
theorem dX5_commonDivisor_0 : decode cX5_commonDivisor 0 = .ok (.lload_n 0, 1) := by decide +kernel
theorem dX5_commonDivisor_1 : decode cX5_commonDivisor 1 = .ok (.lstore 4, 2) := by decide +kernel
theorem dX5_commonDivisor_3 : decode cX5_commonDivisor 3 = .ok (.lload_n 2, 1) := by decide +kernel
theorem dX5_commonDivisor_4 : decode cX5_commonDivisor 4 = .ok (.lstore 6, 2) := by decide +kernel
theorem dX5_commonDivisor_6 : decode cX5_commonDivisor 6 = .ok (.iconst 0, 1) := by decide +kernel
theorem dX5_commonDivisor_7 : decode cX5_commonDivisor 7 = .ok (.istore 8, 2) := by decide +kernel
theorem dX5_commonDivisor_9 : decode cX5_commonDivisor 9 = .ok (.iload 8, 2) := by decide +kernel
theorem dX5_commonDivisor_11 : decode cX5_commonDivisor 11 = .ok (.bipush 100, 2) := by decide +kernel
theorem dX5_commonDivisor_13 : decode cX5_commonDivisor 13 = .ok (.if_icmp .ge 31, 3) := by decide +kernel
theorem dX5_commonDivisor_16 : decode cX5_commonDivisor 16 = .ok (.lload 6, 2) := by decide +kernel
theorem dX5_commonDivisor_18 : decode cX5_commonDivisor 18 = .ok (.lconst 0, 1) := by decide +kernel
theorem dX5_commonDivisor_19 : decode cX5_commonDivisor 19 = .ok (.lcmp, 1) := by decide +kernel
theorem dX5_commonDivisor_20 : decode cX5_commonDivisor 20 = .ok (.ifCond .eq 24, 3) := by decide +kernel
theorem dX5_commonDivisor_23 : decode cX5_commonDivisor 23 = .ok (.lload 4, 2) := by decide +kernel
theorem dX5_commonDivisor_25 : decode cX5_commonDivisor 25 = .ok (.lload 6, 2) := by decide +kernel
theorem dX5_commonDivisor_27 : decode cX5_commonDivisor 27 = .ok (.lrem, 1) := by decide +kernel
theorem dX5_commonDivisor_28 : decode cX5_commonDivisor 28 = .ok (.lstore 9, 2) := by decide +kernel
theorem dX5_commonDivisor_30 : decode cX5_commonDivisor 30 = .ok (.lload 6, 2) := by decide +kernel
theorem dX5_commonDivisor_32 : decode cX5_commonDivisor 32 = .ok (.lstore 4, 2) := by decide +kernel
theorem dX5_commonDivisor_34 : decode cX5_commonDivisor 34 = .ok (.lload 9, 2) := by decide +kernel
theorem dX5_commonDivisor_36 : decode cX5_commonDivisor 36 = .ok (.lstore 6, 2) := by decide +kernel
theorem dX5_commonDivisor_38 : decode cX5_commonDivisor 38 = .ok (.iinc 8 1, 3) := by decide +kernel
theorem dX5_commonDivisor_41 : decode cX5_commonDivisor 41 = .ok (.goto (-32), 3) := by decide +kernel
theorem dX5_commonDivisor_44 : decode cX5_commonDivisor 44 = .ok (.lload 4, 2) := by decide +kernel
theorem dX5_commonDivisor_46 : decode cX5_commonDivisor 46 = .ok (.lreturn, 1) := by decide +kernel
set_option maxRecDepth 20000 in
theorem ggX5_candlesOf_X1_countPairs : GoodIn wsX5_candlesOf wsX1_countPairs := goodIn_r _ [6, 7, 8, 9, 5, 10, 11, 12, 13, 14, 15, 16, 17, 18, 19, 20, 21, 22, 23, 34, 35, 36, 37, 38, 39, 40, 41, 42, 43, 44] (by decide +kernel) (by decide +kernel)
set_option maxRecDepth 20000 in
theorem gX5_candlesOf_X1_countPairs : GoodIn wsX5_candlesOf (wsV RX5 233 RX1 yX1_countPairs wsX1_countPairs) := goodIn_app (goodIn_of _ (by decide +kernel)) ggX5_candlesOf_X1_countPairs
set_option maxRecDepth 20000 in
theorem ggX5_candlesOf_X1_isThere : GoodIn wsX5_candlesOf wsX1_isThere := goodIn_r _ [15, 16, 34, 35, 36, 37, 38, 39, 40, 41, 42, 43, 44] (by decide +kernel) (by decide +kernel)
set_option maxRecDepth 20000 in
theorem gX5_candlesOf_X1_isThere : GoodIn wsX5_candlesOf (wsV RX5 69 RX1 yX1_isThere wsX1_isThere) := goodIn_app (goodIn_of _ (by decide +kernel)) ggX5_candlesOf_X1_isThere
theorem dX5_candlesOf_0 : decode cX5_candlesOf 0 = .ok (.iconst 0, 1) := by decide +kernel
theorem dX5_candlesOf_1 : decode cX5_candlesOf 1 = .ok (.istore_n 3, 1) := by decide +kernel
theorem dX5_candlesOf_2 : decode cX5_candlesOf 2 = .ok (.iconst 0, 1) := by decide +kernel
theorem dX5_candlesOf_3 : decode cX5_candlesOf 3 = .ok (.istore 4, 2) := by decide +kernel
theorem dX5_candlesOf_5 : decode cX5_candlesOf 5 = .ok (.iload 4, 2) := by decide +kernel
theorem dX5_candlesOf_7 : decode cX5_candlesOf 7 = .ok (.bipush 6, 2) := by decide +kernel
theorem dX5_candlesOf_9 : decode cX5_candlesOf 9 = .ok (.if_icmp .ge 21, 3) := by decide +kernel
theorem dX5_candlesOf_12 : decode cX5_candlesOf 12 = .ok (.iload_n 3, 1) := by decide +kernel
theorem dX5_candlesOf_13 : decode cX5_candlesOf 13 = .ok (.aload_n 0, 1) := by decide +kernel
theorem dX5_candlesOf_14 : decode cX5_candlesOf 14 = .ok (.getfield 10, 3) := by decide +kernel
theorem dX5_candlesOf_17 : decode cX5_candlesOf 17 = .ok (.iload 4, 2) := by decide +kernel
theorem dX5_candlesOf_19 : decode cX5_candlesOf 19 = .ok (.invokevirtual 233, 3) := by decide +kernel
theorem dX5_candlesOf_22 : decode cX5_candlesOf 22 = .ok (.iadd, 1) := by decide +kernel
theorem dX5_candlesOf_23 : decode cX5_candlesOf 23 = .ok (.istore_n 3, 1) := by decide +kernel
theorem dX5_candlesOf_24 : decode cX5_candlesOf 24 = .ok (.iinc 4 1, 3) := by decide +kernel
theorem dX5_candlesOf_27 : decode cX5_candlesOf 27 = .ok (.goto (-22), 3) := by decide +kernel
theorem dX5_candlesOf_30 : decode cX5_candlesOf 30 = .ok (.iload_n 3, 1) := by decide +kernel
theorem dX5_candlesOf_31 : decode cX5_candlesOf 31 = .ok (.iconst 1, 1) := by decide +kernel
theorem dX5_candlesOf_32 : decode cX5_candlesOf 32 = .ok (.if_icmp .ge 5, 3) := by decide +kernel
theorem dX5_candlesOf_35 : decode cX5_candlesOf 35 = .ok (.iconst 0, 1) := by decide +kernel
theorem dX5_candlesOf_36 : decode cX5_candlesOf 36 = .ok (.ireturn, 1) := by decide +kernel
theorem dX5_candlesOf_37 : decode cX5_candlesOf 37 = .ok (.aload_n 0, 1) := by decide +kernel
theorem dX5_candlesOf_38 : decode cX5_candlesOf 38 = .ok (.getfield 10, 3) := by decide +kernel
theorem dX5_candlesOf_41 : decode cX5_candlesOf 41 = .ok (.iload_n 1, 1) := by decide +kernel
theorem dX5_candlesOf_42 : decode cX5_candlesOf 42 = .ok (.invokevirtual 233, 3) := by decide +kernel
theorem dX5_candlesOf_45 : decode cX5_candlesOf 45 = .ok (.istore 4, 2) := by decide +kernel
theorem dX5_candlesOf_47 : decode cX5_candlesOf 47 = .ok (.iload_n 2, 1) := by decide +kernel
theorem dX5_candlesOf_48 : decode cX5_candlesOf 48 = .ok (.istore 5, 2) := by decide +kernel
theorem dX5_candlesOf_50 : decode cX5_candlesOf 50 = .ok (.iconst 0, 1) := by decide +kernel
theorem dX5_candlesOf_51 : decode cX5_candlesOf 51 = .ok (.istore 6, 2) := by decide +kernel
theorem dX5_candlesOf_53 : decode cX5_candlesOf 53 = .ok (.iconst 0, 1) := by decide +kernel
theorem dX5_candlesOf_54 : decode cX5_candlesOf 54 = .ok (.istore 7, 2) := by decide +kernel
theorem dX5_candlesOf_56 : decode cX5_candlesOf 56 = .ok (.iload 7, 2) := by decide +kernel
theorem dX5_candlesOf_58 : decode cX5_candlesOf 58 = .ok (.bipush 6, 2) := by decide +kernel
theorem dX5_candlesOf_60 : decode cX5_candlesOf 60 = .ok (.if_icmp .ge 66, 3) := by decide +kernel
theorem dX5_candlesOf_63 : decode cX5_candlesOf 63 = .ok (.aload_n 0, 1) := by decide +kernel
theorem dX5_candlesOf_64 : decode cX5_candlesOf 64 = .ok (.getfield 10, 3) := by decide +kernel
theorem dX5_candlesOf_67 : decode cX5_candlesOf 67 = .ok (.iload 7, 2) := by decide +kernel
theorem dX5_candlesOf_69 : decode cX5_candlesOf 69 = .ok (.invokevirtual 233, 3) := by decide +kernel
theorem dX5_candlesOf_72 : decode cX5_candlesOf 72 = .ok (.istore 8, 2) := by decide +kernel
theorem dX5_candlesOf_74 : decode cX5_candlesOf 74 = .ok (.iload 5, 2) := by decide +kernel
theorem dX5_candlesOf_76 : decode cX5_candlesOf 76 = .ok (.iload_n 2, 1) := by decide +kernel
theorem dX5_candlesOf_77 : decode cX5_candlesOf 77 = .ok (.iload 8, 2) := by decide +kernel
theorem dX5_candlesOf_79 : decode cX5_candlesOf 79 = .ok (.imul, 1) := by decide +kernel
theorem dX5_candlesOf_80 : decode cX5_candlesOf 80 = .ok (.iload_n 3, 1) := by decide +kernel
theorem dX5_candlesOf_81 : decode cX5_candlesOf 81 = .ok (.idiv, 1) := by decide +kernel
theorem dX5_candlesOf_82 : decode cX5_candlesOf 82 = .ok (.isub, 1) := by decide +kernel
theorem dX5_candlesOf_83 : decode cX5_candlesOf 83 = .ok (.istore 5, 2) := by decide +kernel
theorem dX5_candlesOf_85 : decode cX5_candlesOf 85 = .ok (.aload_n 0, 1) := by decide +kernel
theorem dX5_candlesOf_86 : decode cX5_candlesOf 86 = .ok (.getfield 10, 3) := by decide +kernel
theorem dX5_candlesOf_89 : decode cX5_candlesOf 89 = .ok (.iload 7, 2) := by decide +kernel
theorem dX5_candlesOf_91 : decode cX5_candlesOf 91 = .ok (.invokevirtual 69, 3) := by decide +kernel
theorem dX5_candlesOf_94 : decode cX5_candlesOf 94 = .ok (.ifCond .eq 26, 3) := by decide +kernel
theorem dX5_candlesOf_97 : decode cX5_candlesOf 97 = .ok (.iload 8, 2) := by decide +kernel
theorem dX5_candlesOf_99 : decode cX5_candlesOf 99 = .ok (.iload 4, 2) := by decide +kernel
theorem dX5_candlesOf_101 : decode cX5_candlesOf 101 = .ok (.if_icmp .lt 16, 3) := by decide +kernel
theorem dX5_candlesOf_104 : decode cX5_candlesOf 104 = .ok (.iload 8, 2) := by decide +kernel
theorem dX5_candlesOf_106 : decode cX5_candlesOf 106 = .ok (.iload 4, 2) := by decide +kernel
theorem dX5_candlesOf_108 : decode cX5_candlesOf 108 = .ok (.if_icmp .ne 12, 3) := by decide +kernel
theorem dX5_candlesOf_111 : decode cX5_candlesOf 111 = .ok (.iload 7, 2) := by decide +kernel
theorem dX5_candlesOf_113 : decode cX5_candlesOf 113 = .ok (.iload_n 1, 1) := by decide +kernel
theorem dX5_candlesOf_114 : decode cX5_candlesOf 114 = .ok (.if_icmp .ge 6, 3) := by decide +kernel
theorem dX5_candlesOf_117 : decode cX5_candlesOf 117 = .ok (.iinc 6 1, 3) := by decide +kernel
theorem dX5_candlesOf_120 : decode cX5_candlesOf 120 = .ok (.iinc 7 1, 3) := by decide +kernel
theorem dX5_candlesOf_123 : decode cX5_candlesOf 123 = .ok (.goto (-67), 3) := by decide +kernel
theorem dX5_candlesOf_126 : decode cX5_candlesOf 126 = .ok (.iload_n 2, 1) := by decide +kernel
theorem dX5_candlesOf_127 : decode cX5_candlesOf 127 = .ok (.iload 4, 2) := by decide +kernel
theorem dX5_candlesOf_129 : decode cX5_candlesOf 129 = .ok (.imul, 1) := by decide +kernel
theorem dX5_candlesOf_130 : decode cX5_candlesOf 130 = .ok (.iload_n 3, 1) := by decide +kernel
theorem dX5_candlesOf_131 : decode cX5_candlesOf 131 = .ok (.idiv, 1) := by decide +kernel
theorem dX5_candlesOf_132 : decode cX5_candlesOf 132 = .ok (.istore 7, 2) := by decide +kernel
theorem dX5_candlesOf_134 : decode cX5_candlesOf 134 = .ok (.iload 6, 2) := by decide +kernel
theorem dX5_candlesOf_136 : decode cX5_candlesOf 136 = .ok (.iload 5, 2) := by decide +kernel
theorem dX5_candlesOf_138 : decode cX5_candlesOf 138 = .ok (.if_icmp .ge 10, 3) := by decide +kernel
theorem dX5_candlesOf_141 : decode cX5_candlesOf 141 = .ok (.iload 7, 2) := by decide +kernel
theorem dX5_candlesOf_143 : decode cX5_candlesOf 143 = .ok (.iconst 1, 1) := by decide +kernel
theorem dX5_candlesOf_144 : decode cX5_candlesOf 144 = .ok (.iadd, 1) := by decide +kernel
theorem dX5_candlesOf_145 : decode cX5_candlesOf 145 = .ok (.goto 5, 3) := by decide +kernel
theorem dX5_candlesOf_148 : decode cX5_candlesOf 148 = .ok (.iload 7, 2) := by decide +kernel
theorem dX5_candlesOf_150 : decode cX5_candlesOf 150 = .ok (.ireturn, 1) := by decide +kernel
set_option maxRecDepth 20000 in
theorem ggX5_toldOfCourtier_X1_isThere : GoodIn wsX5_toldOfCourtier wsX1_isThere := goodIn_r _ [6, 7, 39, 40, 41, 42, 43, 44, 45, 46, 47, 48, 49] (by decide +kernel) (by decide +kernel)
set_option maxRecDepth 20000 in
theorem gX5_toldOfCourtier_X1_isThere : GoodIn wsX5_toldOfCourtier (wsV RX5 69 RX1 yX1_isThere wsX1_isThere) := goodIn_app (goodIn_of _ (by decide +kernel)) ggX5_toldOfCourtier_X1_isThere
set_option maxRecDepth 20000 in
theorem ggX5_toldOfCourtier_X5_isWithin : GoodIn wsX5_toldOfCourtier wsX5_isWithin := goodIn_r _ [11] (by decide +kernel) (by decide +kernel)
set_option maxRecDepth 20000 in
theorem gX5_toldOfCourtier_X5_isWithin : GoodIn wsX5_toldOfCourtier (va_wsS RX5 50 yX5_isWithin wsX5_isWithin) := goodIn_app (goodIn_of _ (by decide +kernel)) ggX5_toldOfCourtier_X5_isWithin
set_option maxRecDepth 20000 in
theorem ggX5_toldOfCourtier_X1_tellOf : GoodIn wsX5_toldOfCourtier wsX1_tellOf := goodIn_r _ [15, 16, 17, 18, 19, 3, 4, 5, 6, 7, 39, 40, 41, 42, 43, 44, 45, 46, 47, 48, 49] (by decide +kernel) (by decide +kernel)
set_option maxRecDepth 20000 in
theorem gX5_toldOfCourtier_X1_tellOf : GoodIn wsX5_toldOfCourtier (wsV RX5 110 RX1 yX1_tellOf wsX1_tellOf) := goodIn_app (goodIn_of _ (by decide +kernel)) ggX5_toldOfCourtier_X1_tellOf
set_option maxRecDepth 20000 in
theorem ggX5_toldOfCourtier_X1_wearOf : GoodIn wsX5_toldOfCourtier wsX1_wearOf := goodIn_r _ [23, 24, 25, 26, 27, 5, 28, 29, 39, 40, 41, 42, 43, 44, 45, 46, 47, 48, 49] (by decide +kernel) (by decide +kernel)
set_option maxRecDepth 20000 in
theorem gX5_toldOfCourtier_X1_wearOf : GoodIn wsX5_toldOfCourtier (wsV RX5 114 RX1 yX1_wearOf wsX1_wearOf) := goodIn_app (goodIn_of _ (by decide +kernel)) ggX5_toldOfCourtier_X1_wearOf
theorem dX5_toldOfCourtier_0 : decode cX5_toldOfCourtier 0 = .ok (.iload_n 1, 1) := by decide +kernel
theorem dX5_toldOfCourtier_1 : decode cX5_toldOfCourtier 1 = .ok (.bipush 10, 2) := by decide +kernel
theorem dX5_toldOfCourtier_3 : decode cX5_toldOfCourtier 3 = .ok (.idiv, 1) := by decide +kernel
theorem dX5_toldOfCourtier_4 : decode cX5_toldOfCourtier 4 = .ok (.iconst 1, 1) := by decide +kernel
theorem dX5_toldOfCourtier_5 : decode cX5_toldOfCourtier 5 = .ok (.isub, 1) := by decide +kernel
theorem dX5_toldOfCourtier_6 : decode cX5_toldOfCourtier 6 = .ok (.istore_n 2, 1) := by decide +kernel
theorem dX5_toldOfCourtier_7 : decode cX5_toldOfCourtier 7 = .ok (.aload_n 0, 1) := by decide +kernel
theorem dX5_toldOfCourtier_8 : decode cX5_toldOfCourtier 8 = .ok (.getfield 10, 3) := by decide +kernel
theorem dX5_toldOfCourtier_11 : decode cX5_toldOfCourtier 11 = .ok (.iload_n 2, 1) := by decide +kernel
theorem dX5_toldOfCourtier_12 : decode cX5_toldOfCourtier 12 = .ok (.invokevirtual 69, 3) := by decide +kernel
theorem dX5_toldOfCourtier_15 : decode cX5_toldOfCourtier 15 = .ok (.ifCond .eq 28, 3) := by decide +kernel
theorem dX5_toldOfCourtier_18 : decode cX5_toldOfCourtier 18 = .ok (.iload_n 1, 1) := by decide +kernel
theorem dX5_toldOfCourtier_19 : decode cX5_toldOfCourtier 19 = .ok (.bipush 10, 2) := by decide +kernel
theorem dX5_toldOfCourtier_21 : decode cX5_toldOfCourtier 21 = .ok (.irem, 1) := by decide +kernel
theorem dX5_toldOfCourtier_22 : decode cX5_toldOfCourtier 22 = .ok (.iconst 0, 1) := by decide +kernel
theorem dX5_toldOfCourtier_23 : decode cX5_toldOfCourtier 23 = .ok (.iconst 2, 1) := by decide +kernel
theorem dX5_toldOfCourtier_24 : decode cX5_toldOfCourtier 24 = .ok (.invokestatic 50, 3) := by decide +kernel
theorem dX5_toldOfCourtier_27 : decode cX5_toldOfCourtier 27 = .ok (.ifCond .eq 16, 3) := by decide +kernel
theorem dX5_toldOfCourtier_30 : decode cX5_toldOfCourtier 30 = .ok (.aload_n 0, 1) := by decide +kernel
theorem dX5_toldOfCourtier_31 : decode cX5_toldOfCourtier 31 = .ok (.getfield 10, 3) := by decide +kernel
theorem dX5_toldOfCourtier_34 : decode cX5_toldOfCourtier 34 = .ok (.iload_n 2, 1) := by decide +kernel
theorem dX5_toldOfCourtier_35 : decode cX5_toldOfCourtier 35 = .ok (.iload_n 1, 1) := by decide +kernel
theorem dX5_toldOfCourtier_36 : decode cX5_toldOfCourtier 36 = .ok (.bipush 10, 2) := by decide +kernel
theorem dX5_toldOfCourtier_38 : decode cX5_toldOfCourtier 38 = .ok (.irem, 1) := by decide +kernel
theorem dX5_toldOfCourtier_39 : decode cX5_toldOfCourtier 39 = .ok (.invokevirtual 110, 3) := by decide +kernel
theorem dX5_toldOfCourtier_42 : decode cX5_toldOfCourtier 42 = .ok (.ireturn, 1) := by decide +kernel
theorem dX5_toldOfCourtier_43 : decode cX5_toldOfCourtier 43 = .ok (.iload_n 1, 1) := by decide +kernel
theorem dX5_toldOfCourtier_44 : decode cX5_toldOfCourtier 44 = .ok (.bipush 100, 2) := by decide +kernel
theorem dX5_toldOfCourtier_46 : decode cX5_toldOfCourtier 46 = .ok (.idiv, 1) := by decide +kernel
theorem dX5_toldOfCourtier_47 : decode cX5_toldOfCourtier 47 = .ok (.iconst 1, 1) := by decide +kernel
theorem dX5_toldOfCourtier_48 : decode cX5_toldOfCourtier 48 = .ok (.isub, 1) := by decide +kernel
theorem dX5_toldOfCourtier_49 : decode cX5_toldOfCourtier 49 = .ok (.istore_n 3, 1) := by decide +kernel
theorem dX5_toldOfCourtier_50 : decode cX5_toldOfCourtier 50 = .ok (.aload_n 0, 1) := by decide +kernel
theorem dX5_toldOfCourtier_51 : decode cX5_toldOfCourtier 51 = .ok (.getfield 10, 3) := by decide +kernel
theorem dX5_toldOfCourtier_54 : decode cX5_toldOfCourtier 54 = .ok (.iload_n 3, 1) := by decide +kernel
theorem dX5_toldOfCourtier_55 : decode cX5_toldOfCourtier 55 = .ok (.invokevirtual 69, 3) := by decide +kernel
theorem dX5_toldOfCourtier_58 : decode cX5_toldOfCourtier 58 = .ok (.ifCond .eq 29, 3) := by decide +kernel
theorem dX5_toldOfCourtier_61 : decode cX5_toldOfCourtier 61 = .ok (.iload_n 1, 1) := by decide +kernel
theorem dX5_toldOfCourtier_62 : decode cX5_toldOfCourtier 62 = .ok (.bipush 100, 2) := by decide +kernel
theorem dX5_toldOfCourtier_64 : decode cX5_toldOfCourtier 64 = .ok (.irem, 1) := by decide +kernel
theorem dX5_toldOfCourtier_65 : decode cX5_toldOfCourtier 65 = .ok (.iconst 0, 1) := by decide +kernel
theorem dX5_toldOfCourtier_66 : decode cX5_toldOfCourtier 66 = .ok (.bipush 23, 2) := by decide +kernel
theorem dX5_toldOfCourtier_68 : decode cX5_toldOfCourtier 68 = .ok (.invokestatic 50, 3) := by decide +kernel
theorem dX5_toldOfCourtier_71 : decode cX5_toldOfCourtier 71 = .ok (.ifCond .eq 16, 3) := by decide +kernel
theorem dX5_toldOfCourtier_74 : decode cX5_toldOfCourtier 74 = .ok (.aload_n 0, 1) := by decide +kernel
theorem dX5_toldOfCourtier_75 : decode cX5_toldOfCourtier 75 = .ok (.getfield 10, 3) := by decide +kernel
theorem dX5_toldOfCourtier_78 : decode cX5_toldOfCourtier 78 = .ok (.iload_n 3, 1) := by decide +kernel
theorem dX5_toldOfCourtier_79 : decode cX5_toldOfCourtier 79 = .ok (.iload_n 1, 1) := by decide +kernel
theorem dX5_toldOfCourtier_80 : decode cX5_toldOfCourtier 80 = .ok (.bipush 100, 2) := by decide +kernel
theorem dX5_toldOfCourtier_82 : decode cX5_toldOfCourtier 82 = .ok (.irem, 1) := by decide +kernel
theorem dX5_toldOfCourtier_83 : decode cX5_toldOfCourtier 83 = .ok (.invokevirtual 114, 3) := by decide +kernel
theorem dX5_toldOfCourtier_86 : decode cX5_toldOfCourtier 86 = .ok (.ireturn, 1) := by decide +kernel
theorem dX5_toldOfCourtier_87 : decode cX5_toldOfCourtier 87 = .ok (.bipush (-2), 2) := by decide +kernel
theorem dX5_toldOfCourtier_89 : decode cX5_toldOfCourtier 89 = .ok (.ireturn, 1) := by decide +kernel
