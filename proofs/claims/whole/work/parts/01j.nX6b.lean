set_option maxRecDepth 20000 in
theorem gX6_doDeed_X6_at : GoodIn wsX6_doDeed (va_wsS RX6 94 yX6_at wsX6_at) := goodIn_app (goodIn_of _ (by decide +kernel)) ggX6_doDeed_X6_at
set_option maxRecDepth 20000 in
theorem ggX6_doDeed_X6_lose : GoodIn wsX6_doDeed wsX6_lose := goodIn_r _ [18, 9, 19, 1, 11, 12, 13, 14, 20, 21, 22, 23, 24, 25, 26, 27, 28, 29, 30, 31, 32, 33, 34, 35, 36, 37, 38, 39, 40, 41, 42, 43, 44, 45, 46, 47, 48, 49, 50, 51, 52, 53] (by decide +kernel) (by decide +kernel)
set_option maxRecDepth 20000 in
theorem gX6_doDeed_X6_lose : GoodIn wsX6_doDeed (wsV RX6 163 RX6 yX6_lose wsX6_lose) := goodIn_app (goodIn_of _ (by decide +kernel)) ggX6_doDeed_X6_lose
theorem dX6_doDeed_0 : decode cX6_doDeed 0 = .ok (.aload_n 0, 1) := by decide +kernel
theorem dX6_doDeed_1 : decode cX6_doDeed 1 = .ok (.getfield 13, 3) := by decide +kernel
theorem dX6_doDeed_4 : decode cX6_doDeed 4 = .ok (.iload_n 1, 1) := by decide +kernel
theorem dX6_doDeed_5 : decode cX6_doDeed 5 = .ok (.iaload, 1) := by decide +kernel
theorem dX6_doDeed_6 : decode cX6_doDeed 6 = .ok (.istore_n 2, 1) := by decide +kernel
theorem dX6_doDeed_7 : decode cX6_doDeed 7 = .ok (.aload_n 0, 1) := by decide +kernel
theorem dX6_doDeed_8 : decode cX6_doDeed 8 = .ok (.getfield 154, 3) := by decide +kernel
theorem dX6_doDeed_11 : decode cX6_doDeed 11 = .ok (.bipush 60, 2) := by decide +kernel
theorem dX6_doDeed_13 : decode cX6_doDeed 13 = .ok (.irem, 1) := by decide +kernel
theorem dX6_doDeed_14 : decode cX6_doDeed 14 = .ok (.istore_n 3, 1) := by decide +kernel
theorem dX6_doDeed_15 : decode cX6_doDeed 15 = .ok (.aload_n 0, 1) := by decide +kernel
theorem dX6_doDeed_16 : decode cX6_doDeed 16 = .ok (.getfield 43, 3) := by decide +kernel
theorem dX6_doDeed_19 : decode cX6_doDeed 19 = .ok (.iload_n 3, 1) := by decide +kernel
theorem dX6_doDeed_20 : decode cX6_doDeed 20 = .ok (.iload_n 2, 1) := by decide +kernel
theorem dX6_doDeed_21 : decode cX6_doDeed 21 = .ok (.iastore, 1) := by decide +kernel
theorem dX6_doDeed_22 : decode cX6_doDeed 22 = .ok (.aload_n 0, 1) := by decide +kernel
theorem dX6_doDeed_23 : decode cX6_doDeed 23 = .ok (.getfield 46, 3) := by decide +kernel
theorem dX6_doDeed_26 : decode cX6_doDeed 26 = .ok (.iload_n 3, 1) := by decide +kernel
theorem dX6_doDeed_27 : decode cX6_doDeed 27 = .ok (.aload_n 0, 1) := by decide +kernel
theorem dX6_doDeed_28 : decode cX6_doDeed 28 = .ok (.getfield 110, 3) := by decide +kernel
theorem dX6_doDeed_31 : decode cX6_doDeed 31 = .ok (.iastore, 1) := by decide +kernel
theorem dX6_doDeed_32 : decode cX6_doDeed 32 = .ok (.aload_n 0, 1) := by decide +kernel
theorem dX6_doDeed_33 : decode cX6_doDeed 33 = .ok (.getfield 49, 3) := by decide +kernel
theorem dX6_doDeed_36 : decode cX6_doDeed 36 = .ok (.iload_n 3, 1) := by decide +kernel
theorem dX6_doDeed_37 : decode cX6_doDeed 37 = .ok (.iload_n 1, 1) := by decide +kernel
theorem dX6_doDeed_38 : decode cX6_doDeed 38 = .ok (.iastore, 1) := by decide +kernel
theorem dX6_doDeed_39 : decode cX6_doDeed 39 = .ok (.aload_n 0, 1) := by decide +kernel
theorem dX6_doDeed_40 : decode cX6_doDeed 40 = .ok (.aload_n 0, 1) := by decide +kernel
theorem dX6_doDeed_41 : decode cX6_doDeed 41 = .ok (.getfield 157, 3) := by decide +kernel
theorem dX6_doDeed_44 : decode cX6_doDeed 44 = .ok (.ifCond .ge 18, 3) := by decide +kernel
theorem dX6_doDeed_47 : decode cX6_doDeed 47 = .ok (.iload_n 2, 1) := by decide +kernel
theorem dX6_doDeed_48 : decode cX6_doDeed 48 = .ok (.aload_n 0, 1) := by decide +kernel
theorem dX6_doDeed_49 : decode cX6_doDeed 49 = .ok (.getfield 110, 3) := by decide +kernel
theorem dX6_doDeed_52 : decode cX6_doDeed 52 = .ok (.if_icmp .eq 10, 3) := by decide +kernel
theorem dX6_doDeed_55 : decode cX6_doDeed 55 = .ok (.aload_n 0, 1) := by decide +kernel
theorem dX6_doDeed_56 : decode cX6_doDeed 56 = .ok (.getfield 154, 3) := by decide +kernel
theorem dX6_doDeed_59 : decode cX6_doDeed 59 = .ok (.goto 7, 3) := by decide +kernel
theorem dX6_doDeed_62 : decode cX6_doDeed 62 = .ok (.aload_n 0, 1) := by decide +kernel
theorem dX6_doDeed_63 : decode cX6_doDeed 63 = .ok (.getfield 157, 3) := by decide +kernel
theorem dX6_doDeed_66 : decode cX6_doDeed 66 = .ok (.putfield 157, 3) := by decide +kernel
theorem dX6_doDeed_69 : decode cX6_doDeed 69 = .ok (.aload_n 0, 1) := by decide +kernel
theorem dX6_doDeed_70 : decode cX6_doDeed 70 = .ok (.dup, 1) := by decide +kernel
theorem dX6_doDeed_71 : decode cX6_doDeed 71 = .ok (.getfield 160, 3) := by decide +kernel
theorem dX6_doDeed_74 : decode cX6_doDeed 74 = .ok (.iload_n 2, 1) := by decide +kernel
theorem dX6_doDeed_75 : decode cX6_doDeed 75 = .ok (.aload_n 0, 1) := by decide +kernel
theorem dX6_doDeed_76 : decode cX6_doDeed 76 = .ok (.getfield 110, 3) := by decide +kernel
theorem dX6_doDeed_79 : decode cX6_doDeed 79 = .ok (.if_icmp .eq 7, 3) := by decide +kernel
theorem dX6_doDeed_82 : decode cX6_doDeed 82 = .ok (.iconst 1, 1) := by decide +kernel
theorem dX6_doDeed_83 : decode cX6_doDeed 83 = .ok (.goto 4, 3) := by decide +kernel
theorem dX6_doDeed_86 : decode cX6_doDeed 86 = .ok (.iconst 0, 1) := by decide +kernel
theorem dX6_doDeed_87 : decode cX6_doDeed 87 = .ok (.iadd, 1) := by decide +kernel
theorem dX6_doDeed_88 : decode cX6_doDeed 88 = .ok (.putfield 160, 3) := by decide +kernel
theorem dX6_doDeed_91 : decode cX6_doDeed 91 = .ok (.aload_n 0, 1) := by decide +kernel
theorem dX6_doDeed_92 : decode cX6_doDeed 92 = .ok (.dup, 1) := by decide +kernel
theorem dX6_doDeed_93 : decode cX6_doDeed 93 = .ok (.getfield 154, 3) := by decide +kernel
theorem dX6_doDeed_96 : decode cX6_doDeed 96 = .ok (.iconst 1, 1) := by decide +kernel
theorem dX6_doDeed_97 : decode cX6_doDeed 97 = .ok (.iadd, 1) := by decide +kernel
theorem dX6_doDeed_98 : decode cX6_doDeed 98 = .ok (.putfield 154, 3) := by decide +kernel
theorem dX6_doDeed_101 : decode cX6_doDeed 101 = .ok (.aload_n 0, 1) := by decide +kernel
theorem dX6_doDeed_102 : decode cX6_doDeed 102 = .ok (.getfield 19, 3) := by decide +kernel
theorem dX6_doDeed_105 : decode cX6_doDeed 105 = .ok (.iload_n 1, 1) := by decide +kernel
theorem dX6_doDeed_106 : decode cX6_doDeed 106 = .ok (.iload_n 2, 1) := by decide +kernel
theorem dX6_doDeed_107 : decode cX6_doDeed 107 = .ok (.invokestatic 94, 3) := by decide +kernel
theorem dX6_doDeed_110 : decode cX6_doDeed 110 = .ok (.dup2, 1) := by decide +kernel
theorem dX6_doDeed_111 : decode cX6_doDeed 111 = .ok (.iaload, 1) := by decide +kernel
theorem dX6_doDeed_112 : decode cX6_doDeed 112 = .ok (.iconst 1, 1) := by decide +kernel
theorem dX6_doDeed_113 : decode cX6_doDeed 113 = .ok (.iadd, 1) := by decide +kernel
theorem dX6_doDeed_114 : decode cX6_doDeed 114 = .ok (.iastore, 1) := by decide +kernel
theorem dX6_doDeed_115 : decode cX6_doDeed 115 = .ok (.aload_n 0, 1) := by decide +kernel
theorem dX6_doDeed_116 : decode cX6_doDeed 116 = .ok (.getfield 19, 3) := by decide +kernel
theorem dX6_doDeed_119 : decode cX6_doDeed 119 = .ok (.iload_n 1, 1) := by decide +kernel
theorem dX6_doDeed_120 : decode cX6_doDeed 120 = .ok (.iload_n 2, 1) := by decide +kernel
theorem dX6_doDeed_121 : decode cX6_doDeed 121 = .ok (.invokestatic 94, 3) := by decide +kernel
theorem dX6_doDeed_124 : decode cX6_doDeed 124 = .ok (.iaload, 1) := by decide +kernel
theorem dX6_doDeed_125 : decode cX6_doDeed 125 = .ok (.aload_n 0, 1) := by decide +kernel
theorem dX6_doDeed_126 : decode cX6_doDeed 126 = .ok (.getfield 75, 3) := by decide +kernel
theorem dX6_doDeed_129 : decode cX6_doDeed 129 = .ok (.if_icmp .lt 9, 3) := by decide +kernel
theorem dX6_doDeed_132 : decode cX6_doDeed 132 = .ok (.aload_n 0, 1) := by decide +kernel
theorem dX6_doDeed_133 : decode cX6_doDeed 133 = .ok (.iload_n 1, 1) := by decide +kernel
theorem dX6_doDeed_134 : decode cX6_doDeed 134 = .ok (.iload_n 2, 1) := by decide +kernel
theorem dX6_doDeed_135 : decode cX6_doDeed 135 = .ok (.invokevirtual 163, 3) := by decide +kernel
theorem dX6_doDeed_138 : decode cX6_doDeed 138 = .ok (.return_, 1) := by decide +kernel
set_option maxRecDepth 20000 in
theorem ggX6_passHour_X6_isCourtier : GoodIn wsX6_passHour wsX6_isCourtier := goodIn_r _ [7, 8, 9, 10, 11, 6, 12, 19, 20, 21, 22, 23, 24, 25, 26, 27, 28, 29, 30, 31, 32, 33, 34, 35, 36, 37, 38, 39, 40, 41, 42, 43, 44, 45, 46, 47, 48, 49, 50, 51, 52] (by decide +kernel) (by decide +kernel)
set_option maxRecDepth 20000 in
theorem gX6_passHour_X6_isCourtier : GoodIn wsX6_passHour (wsV RX6 90 RX6 yX6_isCourtier wsX6_isCourtier) := goodIn_app (goodIn_of _ (by decide +kernel)) ggX6_passHour_X6_isCourtier
set_option maxRecDepth 20000 in
theorem ggX6_passHour_X6_isProper : GoodIn wsX6_passHour wsX6_isProper := goodIn_r _ [16, 2, 17, 18, 3, 4, 5, 6, 7, 8, 9, 10, 11, 12, 19, 20, 21, 22, 23, 24, 25, 26, 27, 28, 29, 30, 31, 32, 33, 34, 35, 36, 37, 38, 39, 40, 41, 42, 43, 44, 45, 46, 47, 48, 49, 50, 51, 52] (by decide +kernel) (by decide +kernel)
set_option maxRecDepth 20000 in
theorem gX6_passHour_X6_isProper : GoodIn wsX6_passHour (wsV RX6 167 RX6 yX6_isProper wsX6_isProper) := goodIn_app (goodIn_of _ (by decide +kernel)) ggX6_passHour_X6_isProper
theorem dX6_passHour_0 : decode cX6_passHour 0 = .ok (.iconst 0, 1) := by decide +kernel
theorem dX6_passHour_1 : decode cX6_passHour 1 = .ok (.istore_n 1, 1) := by decide +kernel
theorem dX6_passHour_2 : decode cX6_passHour 2 = .ok (.iload_n 1, 1) := by decide +kernel
theorem dX6_passHour_3 : decode cX6_passHour 3 = .ok (.bipush 6, 2) := by decide +kernel
theorem dX6_passHour_5 : decode cX6_passHour 5 = .ok (.if_icmp .ge 60, 3) := by decide +kernel
theorem dX6_passHour_8 : decode cX6_passHour 8 = .ok (.aload_n 0, 1) := by decide +kernel
theorem dX6_passHour_9 : decode cX6_passHour 9 = .ok (.iload_n 1, 1) := by decide +kernel
theorem dX6_passHour_10 : decode cX6_passHour 10 = .ok (.invokevirtual 90, 3) := by decide +kernel
theorem dX6_passHour_13 : decode cX6_passHour 13 = .ok (.ifCond .eq 26, 3) := by decide +kernel
theorem dX6_passHour_16 : decode cX6_passHour 16 = .ok (.aload_n 0, 1) := by decide +kernel
theorem dX6_passHour_17 : decode cX6_passHour 17 = .ok (.iload_n 1, 1) := by decide +kernel
theorem dX6_passHour_18 : decode cX6_passHour 18 = .ok (.invokevirtual 167, 3) := by decide +kernel
theorem dX6_passHour_21 : decode cX6_passHour 21 = .ok (.ifCond .ne 18, 3) := by decide +kernel
theorem dX6_passHour_24 : decode cX6_passHour 24 = .ok (.aload_n 0, 1) := by decide +kernel
theorem dX6_passHour_25 : decode cX6_passHour 25 = .ok (.getfield 16, 3) := by decide +kernel
theorem dX6_passHour_28 : decode cX6_passHour 28 = .ok (.iload_n 1, 1) := by decide +kernel
theorem dX6_passHour_29 : decode cX6_passHour 29 = .ok (.iaload, 1) := by decide +kernel
theorem dX6_passHour_30 : decode cX6_passHour 30 = .ok (.bipush 99, 2) := by decide +kernel
theorem dX6_passHour_32 : decode cX6_passHour 32 = .ok (.if_icmp .ge 7, 3) := by decide +kernel
theorem dX6_passHour_35 : decode cX6_passHour 35 = .ok (.iconst 1, 1) := by decide +kernel
theorem dX6_passHour_36 : decode cX6_passHour 36 = .ok (.goto 4, 3) := by decide +kernel
theorem dX6_passHour_39 : decode cX6_passHour 39 = .ok (.iconst 0, 1) := by decide +kernel
theorem dX6_passHour_40 : decode cX6_passHour 40 = .ok (.istore_n 2, 1) := by decide +kernel
theorem dX6_passHour_41 : decode cX6_passHour 41 = .ok (.aload_n 0, 1) := by decide +kernel
theorem dX6_passHour_42 : decode cX6_passHour 42 = .ok (.getfield 16, 3) := by decide +kernel
theorem dX6_passHour_45 : decode cX6_passHour 45 = .ok (.iload_n 1, 1) := by decide +kernel
theorem dX6_passHour_46 : decode cX6_passHour 46 = .ok (.dup2, 1) := by decide +kernel
theorem dX6_passHour_47 : decode cX6_passHour 47 = .ok (.iaload, 1) := by decide +kernel
theorem dX6_passHour_48 : decode cX6_passHour 48 = .ok (.iload_n 2, 1) := by decide +kernel
theorem dX6_passHour_49 : decode cX6_passHour 49 = .ok (.ifCond .eq 7, 3) := by decide +kernel
theorem dX6_passHour_52 : decode cX6_passHour 52 = .ok (.iconst 1, 1) := by decide +kernel
theorem dX6_passHour_53 : decode cX6_passHour 53 = .ok (.goto 4, 3) := by decide +kernel
theorem dX6_passHour_56 : decode cX6_passHour 56 = .ok (.iconst 0, 1) := by decide +kernel
theorem dX6_passHour_57 : decode cX6_passHour 57 = .ok (.iadd, 1) := by decide +kernel
theorem dX6_passHour_58 : decode cX6_passHour 58 = .ok (.iastore, 1) := by decide +kernel
theorem dX6_passHour_59 : decode cX6_passHour 59 = .ok (.iinc 1 1, 3) := by decide +kernel
theorem dX6_passHour_62 : decode cX6_passHour 62 = .ok (.goto (-60), 3) := by decide +kernel
theorem dX6_passHour_65 : decode cX6_passHour 65 = .ok (.aload_n 0, 1) := by decide +kernel
theorem dX6_passHour_66 : decode cX6_passHour 66 = .ok (.aload_n 0, 1) := by decide +kernel
theorem dX6_passHour_67 : decode cX6_passHour 67 = .ok (.getfield 110, 3) := by decide +kernel
theorem dX6_passHour_70 : decode cX6_passHour 70 = .ok (.iconst 1, 1) := by decide +kernel
theorem dX6_passHour_71 : decode cX6_passHour 71 = .ok (.iadd, 1) := by decide +kernel
theorem dX6_passHour_72 : decode cX6_passHour 72 = .ok (.bipush 24, 2) := by decide +kernel
theorem dX6_passHour_74 : decode cX6_passHour 74 = .ok (.irem, 1) := by decide +kernel
theorem dX6_passHour_75 : decode cX6_passHour 75 = .ok (.putfield 110, 3) := by decide +kernel
theorem dX6_passHour_78 : decode cX6_passHour 78 = .ok (.return_, 1) := by decide +kernel
set_option maxRecDepth 20000 in
theorem ggX6_lend_X6_at : GoodIn wsX6_lend wsX6_at := goodIn_r _ [5] (by decide +kernel) (by decide +kernel)
set_option maxRecDepth 20000 in
theorem gX6_lend_X6_at : GoodIn wsX6_lend (va_wsS RX6 94 yX6_at wsX6_at) := goodIn_app (goodIn_of _ (by decide +kernel)) ggX6_lend_X6_at
set_option maxRecDepth 20000 in
theorem ggX6_lend_X6_lose : GoodIn wsX6_lend wsX6_lose := goodIn_r _ [9, 1, 10, 11, 2, 3, 4, 5, 12, 13, 14, 15, 16, 17, 18, 19, 20, 21, 22, 23, 24, 25, 26, 27, 28, 29, 30, 31, 32, 33, 34, 35, 36, 37, 38, 39, 40, 41, 42, 43, 44, 45] (by decide +kernel) (by decide +kernel)
set_option maxRecDepth 20000 in
theorem gX6_lend_X6_lose : GoodIn wsX6_lend (wsV RX6 163 RX6 yX6_lose wsX6_lose) := goodIn_app (goodIn_of _ (by decide +kernel)) ggX6_lend_X6_lose
theorem dX6_lend_0 : decode cX6_lend 0 = .ok (.aload_n 0, 1) := by decide +kernel
theorem dX6_lend_1 : decode cX6_lend 1 = .ok (.getfield 19, 3) := by decide +kernel
theorem dX6_lend_4 : decode cX6_lend 4 = .ok (.iload_n 1, 1) := by decide +kernel
theorem dX6_lend_5 : decode cX6_lend 5 = .ok (.iload_n 3, 1) := by decide +kernel
theorem dX6_lend_6 : decode cX6_lend 6 = .ok (.invokestatic 94, 3) := by decide +kernel
theorem dX6_lend_9 : decode cX6_lend 9 = .ok (.iaload, 1) := by decide +kernel
theorem dX6_lend_10 : decode cX6_lend 10 = .ok (.istore 4, 2) := by decide +kernel
theorem dX6_lend_12 : decode cX6_lend 12 = .ok (.aload_n 0, 1) := by decide +kernel
theorem dX6_lend_13 : decode cX6_lend 13 = .ok (.iload_n 1, 1) := by decide +kernel
theorem dX6_lend_14 : decode cX6_lend 14 = .ok (.iload_n 3, 1) := by decide +kernel
theorem dX6_lend_15 : decode cX6_lend 15 = .ok (.invokevirtual 163, 3) := by decide +kernel
theorem dX6_lend_18 : decode cX6_lend 18 = .ok (.aload_n 0, 1) := by decide +kernel
theorem dX6_lend_19 : decode cX6_lend 19 = .ok (.getfield 19, 3) := by decide +kernel
theorem dX6_lend_22 : decode cX6_lend 22 = .ok (.iload_n 2, 1) := by decide +kernel
theorem dX6_lend_23 : decode cX6_lend 23 = .ok (.iload_n 3, 1) := by decide +kernel
theorem dX6_lend_24 : decode cX6_lend 24 = .ok (.invokestatic 94, 3) := by decide +kernel
theorem dX6_lend_27 : decode cX6_lend 27 = .ok (.iload 4, 2) := by decide +kernel
theorem dX6_lend_29 : decode cX6_lend 29 = .ok (.iastore, 1) := by decide +kernel
theorem dX6_lend_30 : decode cX6_lend 30 = .ok (.return_, 1) := by decide +kernel
set_option maxRecDepth 20000 in
theorem ggX6_happen_X6_doDeed : GoodIn wsX6_happen wsX6_doDeed := goodIn_r _ [7, 2, 8, 9, 10, 11, 12, 13, 14, 15, 16, 17, 18, 6, 19, 20, 21, 22, 23, 1, 46, 47, 48, 49, 50, 51, 52, 53, 54, 55, 56, 57, 58, 59, 60, 61, 62, 63, 64, 65, 66, 67, 68, 69, 70, 71, 72, 73, 74, 75, 76, 77, 78, 79] (by decide +kernel) (by decide +kernel)
set_option maxRecDepth 20000 in
theorem gX6_happen_X6_doDeed : GoodIn wsX6_happen (wsV RX6 170 RX6 yX6_doDeed wsX6_doDeed) := goodIn_app (goodIn_of _ (by decide +kernel)) ggX6_happen_X6_doDeed
set_option maxRecDepth 20000 in
theorem ggX6_happen_X6_lend : GoodIn wsX6_happen wsX6_lend := goodIn_r _ [27, 15, 17, 18, 6, 19, 20, 21, 22, 23, 1, 2, 46, 47, 48, 49, 50, 51, 52, 53, 54, 55, 56, 57, 58, 59, 60, 61, 62, 63, 64, 65, 66, 67, 68, 69, 70, 71, 72, 73, 74, 75, 76, 77, 78, 79] (by decide +kernel) (by decide +kernel)
set_option maxRecDepth 20000 in
theorem gX6_happen_X6_lend : GoodIn wsX6_happen (wsV RX6 174 RX6 yX6_lend wsX6_lend) := goodIn_app (goodIn_of _ (by decide +kernel)) ggX6_happen_X6_lend
set_option maxRecDepth 20000 in
theorem ggX6_happen_X6_passHour : GoodIn wsX6_happen wsX6_passHour := goodIn_r _ [31, 32, 11, 33, 34, 35, 6, 36, 37, 38, 39, 40, 41, 42, 43, 44, 45, 2, 1, 46, 47, 48, 49, 50, 51, 52, 53, 54, 55, 56, 57, 58, 59, 60, 61, 62, 63, 64, 65, 66, 67, 68, 69, 70, 71, 72, 73, 74, 75, 76, 77, 78, 79] (by decide +kernel) (by decide +kernel)
set_option maxRecDepth 20000 in
theorem gX6_happen_X6_passHour : GoodIn wsX6_happen (wsV RX6 178 RX6 yX6_passHour wsX6_passHour) := goodIn_app (goodIn_of _ (by decide +kernel)) ggX6_happen_X6_passHour
theorem dX6_happen_0 : decode cX6_happen 0 = .ok (.iload_n 1, 1) := by decide +kernel
theorem dX6_happen_1 : decode cX6_happen 1 = .ok (.tableswitch 112 0 5 #[39, 50, 61, 80, 88, 101], 39) := by decide +kernel
theorem dX6_happen_40 : decode cX6_happen 40 = .ok (.aload_n 0, 1) := by decide +kernel
theorem dX6_happen_41 : decode cX6_happen 41 = .ok (.getfield 7, 3) := by decide +kernel
theorem dX6_happen_44 : decode cX6_happen 44 = .ok (.iload_n 2, 1) := by decide +kernel
theorem dX6_happen_45 : decode cX6_happen 45 = .ok (.iload 4, 2) := by decide +kernel
theorem dX6_happen_47 : decode cX6_happen 47 = .ok (.iastore, 1) := by decide +kernel
theorem dX6_happen_48 : decode cX6_happen 48 = .ok (.goto 69, 3) := by decide +kernel
theorem dX6_happen_51 : decode cX6_happen 51 = .ok (.aload_n 0, 1) := by decide +kernel
theorem dX6_happen_52 : decode cX6_happen 52 = .ok (.getfield 13, 3) := by decide +kernel
theorem dX6_happen_55 : decode cX6_happen 55 = .ok (.iload_n 2, 1) := by decide +kernel
theorem dX6_happen_56 : decode cX6_happen 56 = .ok (.iload 4, 2) := by decide +kernel
theorem dX6_happen_58 : decode cX6_happen 58 = .ok (.iastore, 1) := by decide +kernel
theorem dX6_happen_59 : decode cX6_happen 59 = .ok (.goto 58, 3) := by decide +kernel
theorem dX6_happen_62 : decode cX6_happen 62 = .ok (.aload_n 0, 1) := by decide +kernel
theorem dX6_happen_63 : decode cX6_happen 63 = .ok (.getfield 7, 3) := by decide +kernel
theorem dX6_happen_66 : decode cX6_happen 66 = .ok (.iload_n 2, 1) := by decide +kernel
theorem dX6_happen_67 : decode cX6_happen 67 = .ok (.bipush 24, 2) := by decide +kernel
theorem dX6_happen_69 : decode cX6_happen 69 = .ok (.iastore, 1) := by decide +kernel
theorem dX6_happen_70 : decode cX6_happen 70 = .ok (.aload_n 0, 1) := by decide +kernel
theorem dX6_happen_71 : decode cX6_happen 71 = .ok (.getfield 13, 3) := by decide +kernel
theorem dX6_happen_74 : decode cX6_happen 74 = .ok (.iload_n 2, 1) := by decide +kernel
theorem dX6_happen_75 : decode cX6_happen 75 = .ok (.bipush 24, 2) := by decide +kernel
theorem dX6_happen_77 : decode cX6_happen 77 = .ok (.iastore, 1) := by decide +kernel
theorem dX6_happen_78 : decode cX6_happen 78 = .ok (.goto 39, 3) := by decide +kernel
theorem dX6_happen_81 : decode cX6_happen 81 = .ok (.aload_n 0, 1) := by decide +kernel
theorem dX6_happen_82 : decode cX6_happen 82 = .ok (.iload_n 2, 1) := by decide +kernel
theorem dX6_happen_83 : decode cX6_happen 83 = .ok (.invokevirtual 170, 3) := by decide +kernel
theorem dX6_happen_86 : decode cX6_happen 86 = .ok (.goto 31, 3) := by decide +kernel
theorem dX6_happen_89 : decode cX6_happen 89 = .ok (.aload_n 0, 1) := by decide +kernel
theorem dX6_happen_90 : decode cX6_happen 90 = .ok (.iload_n 2, 1) := by decide +kernel
theorem dX6_happen_91 : decode cX6_happen 91 = .ok (.invokevirtual 170, 3) := by decide +kernel
theorem dX6_happen_94 : decode cX6_happen 94 = .ok (.aload_n 0, 1) := by decide +kernel
theorem dX6_happen_95 : decode cX6_happen 95 = .ok (.iload_n 3, 1) := by decide +kernel
theorem dX6_happen_96 : decode cX6_happen 96 = .ok (.invokevirtual 170, 3) := by decide +kernel
theorem dX6_happen_99 : decode cX6_happen 99 = .ok (.goto 18, 3) := by decide +kernel
theorem dX6_happen_102 : decode cX6_happen 102 = .ok (.aload_n 0, 1) := by decide +kernel
theorem dX6_happen_103 : decode cX6_happen 103 = .ok (.iload_n 2, 1) := by decide +kernel
theorem dX6_happen_104 : decode cX6_happen 104 = .ok (.iload_n 3, 1) := by decide +kernel
theorem dX6_happen_105 : decode cX6_happen 105 = .ok (.iload 4, 2) := by decide +kernel
theorem dX6_happen_107 : decode cX6_happen 107 = .ok (.invokevirtual 174, 3) := by decide +kernel
theorem dX6_happen_110 : decode cX6_happen 110 = .ok (.goto 7, 3) := by decide +kernel
theorem dX6_happen_113 : decode cX6_happen 113 = .ok (.aload_n 0, 1) := by decide +kernel
theorem dX6_happen_114 : decode cX6_happen 114 = .ok (.invokevirtual 178, 3) := by decide +kernel
theorem dX6_happen_117 : decode cX6_happen 117 = .ok (.return_, 1) := by decide +kernel
theorem dX6_store_0 : decode cX6_store 0 = .ok (.iconst 0, 1) := by decide +kernel
theorem dX6_store_1 : decode cX6_store 1 = .ok (.istore_n 2, 1) := by decide +kernel
theorem dX6_store_2 : decode cX6_store 2 = .ok (.iload_n 2, 1) := by decide +kernel
theorem dX6_store_3 : decode cX6_store 3 = .ok (.bipush 6, 2) := by decide +kernel
theorem dX6_store_5 : decode cX6_store 5 = .ok (.if_icmp .ge 42, 3) := by decide +kernel
theorem dX6_store_8 : decode cX6_store 8 = .ok (.aload_n 1, 1) := by decide +kernel
theorem dX6_store_9 : decode cX6_store 9 = .ok (.iload_n 2, 1) := by decide +kernel
theorem dX6_store_10 : decode cX6_store 10 = .ok (.aload_n 0, 1) := by decide +kernel
theorem dX6_store_11 : decode cX6_store 11 = .ok (.getfield 7, 3) := by decide +kernel
theorem dX6_store_14 : decode cX6_store 14 = .ok (.iload_n 2, 1) := by decide +kernel
theorem dX6_store_15 : decode cX6_store 15 = .ok (.iaload, 1) := by decide +kernel
theorem dX6_store_16 : decode cX6_store 16 = .ok (.iastore, 1) := by decide +kernel
theorem dX6_store_17 : decode cX6_store 17 = .ok (.aload_n 1, 1) := by decide +kernel
theorem dX6_store_18 : decode cX6_store 18 = .ok (.bipush 6, 2) := by decide +kernel
theorem dX6_store_20 : decode cX6_store 20 = .ok (.iload_n 2, 1) := by decide +kernel
theorem dX6_store_21 : decode cX6_store 21 = .ok (.iadd, 1) := by decide +kernel
theorem dX6_store_22 : decode cX6_store 22 = .ok (.aload_n 0, 1) := by decide +kernel
theorem dX6_store_23 : decode cX6_store 23 = .ok (.getfield 13, 3) := by decide +kernel
theorem dX6_store_26 : decode cX6_store 26 = .ok (.iload_n 2, 1) := by decide +kernel
theorem dX6_store_27 : decode cX6_store 27 = .ok (.iaload, 1) := by decide +kernel
theorem dX6_store_28 : decode cX6_store 28 = .ok (.iastore, 1) := by decide +kernel
theorem dX6_store_29 : decode cX6_store 29 = .ok (.aload_n 1, 1) := by decide +kernel
theorem dX6_store_30 : decode cX6_store 30 = .ok (.bipush 12, 2) := by decide +kernel
theorem dX6_store_32 : decode cX6_store 32 = .ok (.iload_n 2, 1) := by decide +kernel
theorem dX6_store_33 : decode cX6_store 33 = .ok (.iadd, 1) := by decide +kernel
theorem dX6_store_34 : decode cX6_store 34 = .ok (.aload_n 0, 1) := by decide +kernel
theorem dX6_store_35 : decode cX6_store 35 = .ok (.getfield 16, 3) := by decide +kernel
theorem dX6_store_38 : decode cX6_store 38 = .ok (.iload_n 2, 1) := by decide +kernel
theorem dX6_store_39 : decode cX6_store 39 = .ok (.iaload, 1) := by decide +kernel
theorem dX6_store_40 : decode cX6_store 40 = .ok (.iastore, 1) := by decide +kernel
theorem dX6_store_41 : decode cX6_store 41 = .ok (.iinc 2 1, 3) := by decide +kernel
theorem dX6_store_44 : decode cX6_store 44 = .ok (.goto (-42), 3) := by decide +kernel
theorem dX6_store_47 : decode cX6_store 47 = .ok (.iconst 0, 1) := by decide +kernel
theorem dX6_store_48 : decode cX6_store 48 = .ok (.istore_n 2, 1) := by decide +kernel
theorem dX6_store_49 : decode cX6_store 49 = .ok (.iload_n 2, 1) := by decide +kernel
theorem dX6_store_50 : decode cX6_store 50 = .ok (.sipush 144, 3) := by decide +kernel
theorem dX6_store_53 : decode cX6_store 53 = .ok (.if_icmp .ge 21, 3) := by decide +kernel
theorem dX6_store_56 : decode cX6_store 56 = .ok (.aload_n 1, 1) := by decide +kernel
theorem dX6_store_57 : decode cX6_store 57 = .ok (.bipush 18, 2) := by decide +kernel
theorem dX6_store_59 : decode cX6_store 59 = .ok (.iload_n 2, 1) := by decide +kernel
theorem dX6_store_60 : decode cX6_store 60 = .ok (.iadd, 1) := by decide +kernel
theorem dX6_store_61 : decode cX6_store 61 = .ok (.aload_n 0, 1) := by decide +kernel
theorem dX6_store_62 : decode cX6_store 62 = .ok (.getfield 19, 3) := by decide +kernel
theorem dX6_store_65 : decode cX6_store 65 = .ok (.iload_n 2, 1) := by decide +kernel
theorem dX6_store_66 : decode cX6_store 66 = .ok (.iaload, 1) := by decide +kernel
theorem dX6_store_67 : decode cX6_store 67 = .ok (.iastore, 1) := by decide +kernel
theorem dX6_store_68 : decode cX6_store 68 = .ok (.iinc 2 1, 3) := by decide +kernel
theorem dX6_store_71 : decode cX6_store 71 = .ok (.goto (-22), 3) := by decide +kernel
theorem dX6_store_74 : decode cX6_store 74 = .ok (.aload_n 1, 1) := by decide +kernel
theorem dX6_store_75 : decode cX6_store 75 = .ok (.sipush 162, 3) := by decide +kernel
theorem dX6_store_78 : decode cX6_store 78 = .ok (.aload_n 0, 1) := by decide +kernel
theorem dX6_store_79 : decode cX6_store 79 = .ok (.getfield 110, 3) := by decide +kernel
theorem dX6_store_82 : decode cX6_store 82 = .ok (.iastore, 1) := by decide +kernel
theorem dX6_store_83 : decode cX6_store 83 = .ok (.return_, 1) := by decide +kernel
theorem dX6_lay_0 : decode cX6_lay 0 = .ok (.iconst 0, 1) := by decide +kernel
theorem dX6_lay_1 : decode cX6_lay 1 = .ok (.istore_n 2, 1) := by decide +kernel
theorem dX6_lay_2 : decode cX6_lay 2 = .ok (.iload_n 2, 1) := by decide +kernel
theorem dX6_lay_3 : decode cX6_lay 3 = .ok (.bipush 6, 2) := by decide +kernel
theorem dX6_lay_5 : decode cX6_lay 5 = .ok (.if_icmp .ge 42, 3) := by decide +kernel
theorem dX6_lay_8 : decode cX6_lay 8 = .ok (.aload_n 0, 1) := by decide +kernel
theorem dX6_lay_9 : decode cX6_lay 9 = .ok (.getfield 7, 3) := by decide +kernel
theorem dX6_lay_12 : decode cX6_lay 12 = .ok (.iload_n 2, 1) := by decide +kernel
theorem dX6_lay_13 : decode cX6_lay 13 = .ok (.aload_n 1, 1) := by decide +kernel
theorem dX6_lay_14 : decode cX6_lay 14 = .ok (.iload_n 2, 1) := by decide +kernel
theorem dX6_lay_15 : decode cX6_lay 15 = .ok (.iaload, 1) := by decide +kernel
theorem dX6_lay_16 : decode cX6_lay 16 = .ok (.iastore, 1) := by decide +kernel
theorem dX6_lay_17 : decode cX6_lay 17 = .ok (.aload_n 0, 1) := by decide +kernel
theorem dX6_lay_18 : decode cX6_lay 18 = .ok (.getfield 13, 3) := by decide +kernel
theorem dX6_lay_21 : decode cX6_lay 21 = .ok (.iload_n 2, 1) := by decide +kernel
theorem dX6_lay_22 : decode cX6_lay 22 = .ok (.aload_n 1, 1) := by decide +kernel
theorem dX6_lay_23 : decode cX6_lay 23 = .ok (.bipush 6, 2) := by decide +kernel
theorem dX6_lay_25 : decode cX6_lay 25 = .ok (.iload_n 2, 1) := by decide +kernel
theorem dX6_lay_26 : decode cX6_lay 26 = .ok (.iadd, 1) := by decide +kernel
theorem dX6_lay_27 : decode cX6_lay 27 = .ok (.iaload, 1) := by decide +kernel
theorem dX6_lay_28 : decode cX6_lay 28 = .ok (.iastore, 1) := by decide +kernel
theorem dX6_lay_29 : decode cX6_lay 29 = .ok (.aload_n 0, 1) := by decide +kernel
theorem dX6_lay_30 : decode cX6_lay 30 = .ok (.getfield 16, 3) := by decide +kernel
theorem dX6_lay_33 : decode cX6_lay 33 = .ok (.iload_n 2, 1) := by decide +kernel
theorem dX6_lay_34 : decode cX6_lay 34 = .ok (.aload_n 1, 1) := by decide +kernel
theorem dX6_lay_35 : decode cX6_lay 35 = .ok (.bipush 12, 2) := by decide +kernel
theorem dX6_lay_37 : decode cX6_lay 37 = .ok (.iload_n 2, 1) := by decide +kernel
theorem dX6_lay_38 : decode cX6_lay 38 = .ok (.iadd, 1) := by decide +kernel
theorem dX6_lay_39 : decode cX6_lay 39 = .ok (.iaload, 1) := by decide +kernel
theorem dX6_lay_40 : decode cX6_lay 40 = .ok (.iastore, 1) := by decide +kernel
theorem dX6_lay_41 : decode cX6_lay 41 = .ok (.iinc 2 1, 3) := by decide +kernel
theorem dX6_lay_44 : decode cX6_lay 44 = .ok (.goto (-42), 3) := by decide +kernel
theorem dX6_lay_47 : decode cX6_lay 47 = .ok (.iconst 0, 1) := by decide +kernel
theorem dX6_lay_48 : decode cX6_lay 48 = .ok (.istore_n 2, 1) := by decide +kernel
theorem dX6_lay_49 : decode cX6_lay 49 = .ok (.iload_n 2, 1) := by decide +kernel
theorem dX6_lay_50 : decode cX6_lay 50 = .ok (.sipush 144, 3) := by decide +kernel
theorem dX6_lay_53 : decode cX6_lay 53 = .ok (.if_icmp .ge 21, 3) := by decide +kernel
theorem dX6_lay_56 : decode cX6_lay 56 = .ok (.aload_n 0, 1) := by decide +kernel
theorem dX6_lay_57 : decode cX6_lay 57 = .ok (.getfield 19, 3) := by decide +kernel
theorem dX6_lay_60 : decode cX6_lay 60 = .ok (.iload_n 2, 1) := by decide +kernel
theorem dX6_lay_61 : decode cX6_lay 61 = .ok (.aload_n 1, 1) := by decide +kernel
theorem dX6_lay_62 : decode cX6_lay 62 = .ok (.bipush 18, 2) := by decide +kernel
theorem dX6_lay_64 : decode cX6_lay 64 = .ok (.iload_n 2, 1) := by decide +kernel
theorem dX6_lay_65 : decode cX6_lay 65 = .ok (.iadd, 1) := by decide +kernel
theorem dX6_lay_66 : decode cX6_lay 66 = .ok (.iaload, 1) := by decide +kernel
theorem dX6_lay_67 : decode cX6_lay 67 = .ok (.iastore, 1) := by decide +kernel
theorem dX6_lay_68 : decode cX6_lay 68 = .ok (.iinc 2 1, 3) := by decide +kernel
theorem dX6_lay_71 : decode cX6_lay 71 = .ok (.goto (-22), 3) := by decide +kernel
theorem dX6_lay_74 : decode cX6_lay 74 = .ok (.aload_n 0, 1) := by decide +kernel
theorem dX6_lay_75 : decode cX6_lay 75 = .ok (.aload_n 1, 1) := by decide +kernel
theorem dX6_lay_76 : decode cX6_lay 76 = .ok (.sipush 162, 3) := by decide +kernel
theorem dX6_lay_79 : decode cX6_lay 79 = .ok (.iaload, 1) := by decide +kernel
theorem dX6_lay_80 : decode cX6_lay 80 = .ok (.putfield 110, 3) := by decide +kernel
theorem dX6_lay_83 : decode cX6_lay 83 = .ok (.return_, 1) := by decide +kernel
theorem dX6_beginCount_0 : decode cX6_beginCount 0 = .ok (.aload_n 0, 1) := by decide +kernel
theorem dX6_beginCount_1 : decode cX6_beginCount 1 = .ok (.iconst 0, 1) := by decide +kernel
theorem dX6_beginCount_2 : decode cX6_beginCount 2 = .ok (.putfield 154, 3) := by decide +kernel
theorem dX6_beginCount_5 : decode cX6_beginCount 5 = .ok (.aload_n 0, 1) := by decide +kernel
theorem dX6_beginCount_6 : decode cX6_beginCount 6 = .ok (.bipush (-6), 2) := by decide +kernel
theorem dX6_beginCount_8 : decode cX6_beginCount 8 = .ok (.putfield 157, 3) := by decide +kernel
theorem dX6_beginCount_11 : decode cX6_beginCount 11 = .ok (.aload_n 0, 1) := by decide +kernel
theorem dX6_beginCount_12 : decode cX6_beginCount 12 = .ok (.iconst 0, 1) := by decide +kernel
theorem dX6_beginCount_13 : decode cX6_beginCount 13 = .ok (.putfield 160, 3) := by decide +kernel
theorem dX6_beginCount_16 : decode cX6_beginCount 16 = .ok (.return_, 1) := by decide +kernel
set_option maxRecDepth 20000 in
theorem ggX6_goDay_X6_beginCount : GoodIn wsX6_goDay wsX6_beginCount := goodIn_r _ [12, 13, 14, 15, 73, 74, 75, 76, 77, 78, 79, 80, 81, 82, 83, 84, 85, 86, 87, 88, 89, 90, 91, 92, 93, 94, 95, 96, 97, 98, 99, 100, 101, 102, 103, 104, 105, 106] (by decide +kernel) (by decide +kernel)
set_option maxRecDepth 20000 in
theorem gX6_goDay_X6_beginCount : GoodIn wsX6_goDay (wsV RX6 181 RX6 yX6_beginCount wsX6_beginCount) := goodIn_app (goodIn_of _ (by decide +kernel)) ggX6_goDay_X6_beginCount
set_option maxRecDepth 20000 in
theorem ggX6_goDay_X6_whyNot : GoodIn wsX6_goDay wsX6_whyNot := goodIn_r _ [19, 20, 21, 22, 23, 11, 24, 25, 26, 27, 28, 29, 30, 31, 32, 33, 34, 35, 36, 37, 38, 39, 40, 41, 73, 74, 75, 76, 77, 78, 79, 80, 81, 82, 83, 84, 85, 86, 87, 88, 89, 90, 91, 92, 93, 94, 95, 96, 97, 98, 99, 100, 101, 102, 103, 104, 105, 106] (by decide +kernel) (by decide +kernel)
set_option maxRecDepth 20000 in
theorem gX6_goDay_X6_whyNot : GoodIn wsX6_goDay (wsV RX6 190 RX6 yX6_whyNot wsX6_whyNot) := goodIn_app (goodIn_of _ (by decide +kernel)) ggX6_goDay_X6_whyNot
set_option maxRecDepth 20000 in
theorem ggX6_goDay_X6_happen : GoodIn wsX6_goDay wsX6_happen := goodIn_r _ [45, 46, 20, 47, 48, 49, 11, 50, 13, 51, 52, 53, 54, 14, 15, 38, 55, 39, 40, 41, 56, 57, 58, 59, 60, 61, 62, 63, 64, 65, 66, 67, 68, 25, 26, 27, 28, 29, 30, 31, 32, 33, 69, 70, 71, 72, 73, 74, 75, 76, 77, 78, 79, 80, 81, 82, 83, 84, 85, 86, 87, 88, 89, 90, 91, 92, 93, 94, 95, 96, 97, 98, 99, 100, 101, 102, 103, 104, 105, 106] (by decide +kernel) (by decide +kernel)
set_option maxRecDepth 20000 in
theorem gX6_goDay_X6_happen : GoodIn wsX6_goDay (wsV RX6 193 RX6 yX6_happen wsX6_happen) := goodIn_app (goodIn_of _ (by decide +kernel)) ggX6_goDay_X6_happen
theorem dX6_goDay_0 : decode cX6_goDay 0 = .ok (.aload_n 0, 1) := by decide +kernel
theorem dX6_goDay_1 : decode cX6_goDay 1 = .ok (.invokevirtual 181, 3) := by decide +kernel
theorem dX6_goDay_4 : decode cX6_goDay 4 = .ok (.aload_n 0, 1) := by decide +kernel
theorem dX6_goDay_5 : decode cX6_goDay 5 = .ok (.bipush (-6), 2) := by decide +kernel
theorem dX6_goDay_7 : decode cX6_goDay 7 = .ok (.putfield 184, 3) := by decide +kernel
theorem dX6_goDay_10 : decode cX6_goDay 10 = .ok (.aload_n 0, 1) := by decide +kernel
theorem dX6_goDay_11 : decode cX6_goDay 11 = .ok (.bipush (-6), 2) := by decide +kernel
theorem dX6_goDay_13 : decode cX6_goDay 13 = .ok (.putfield 187, 3) := by decide +kernel
theorem dX6_goDay_16 : decode cX6_goDay 16 = .ok (.iconst 0, 1) := by decide +kernel
theorem dX6_goDay_17 : decode cX6_goDay 17 = .ok (.istore_n 1, 1) := by decide +kernel
theorem dX6_goDay_18 : decode cX6_goDay 18 = .ok (.iload_n 1, 1) := by decide +kernel
theorem dX6_goDay_19 : decode cX6_goDay 19 = .ok (.aload_n 0, 1) := by decide +kernel
theorem dX6_goDay_20 : decode cX6_goDay 20 = .ok (.getfield 124, 3) := by decide +kernel
theorem dX6_goDay_23 : decode cX6_goDay 23 = .ok (.if_icmp .ge 105, 3) := by decide +kernel
theorem dX6_goDay_26 : decode cX6_goDay 26 = .ok (.aload_n 0, 1) := by decide +kernel
theorem dX6_goDay_27 : decode cX6_goDay 27 = .ok (.getfield 184, 3) := by decide +kernel
theorem dX6_goDay_30 : decode cX6_goDay 30 = .ok (.ifCond .ge 98, 3) := by decide +kernel
theorem dX6_goDay_33 : decode cX6_goDay 33 = .ok (.aload_n 0, 1) := by decide +kernel
theorem dX6_goDay_34 : decode cX6_goDay 34 = .ok (.aload_n 0, 1) := by decide +kernel
theorem dX6_goDay_35 : decode cX6_goDay 35 = .ok (.getfield 31, 3) := by decide +kernel
theorem dX6_goDay_38 : decode cX6_goDay 38 = .ok (.iload_n 1, 1) := by decide +kernel
theorem dX6_goDay_39 : decode cX6_goDay 39 = .ok (.iaload, 1) := by decide +kernel
theorem dX6_goDay_40 : decode cX6_goDay 40 = .ok (.aload_n 0, 1) := by decide +kernel
theorem dX6_goDay_41 : decode cX6_goDay 41 = .ok (.getfield 34, 3) := by decide +kernel
theorem dX6_goDay_44 : decode cX6_goDay 44 = .ok (.iload_n 1, 1) := by decide +kernel
theorem dX6_goDay_45 : decode cX6_goDay 45 = .ok (.iaload, 1) := by decide +kernel
theorem dX6_goDay_46 : decode cX6_goDay 46 = .ok (.aload_n 0, 1) := by decide +kernel
theorem dX6_goDay_47 : decode cX6_goDay 47 = .ok (.getfield 40, 3) := by decide +kernel
theorem dX6_goDay_50 : decode cX6_goDay 50 = .ok (.iload_n 1, 1) := by decide +kernel
theorem dX6_goDay_51 : decode cX6_goDay 51 = .ok (.iaload, 1) := by decide +kernel
theorem dX6_goDay_52 : decode cX6_goDay 52 = .ok (.aload_n 0, 1) := by decide +kernel
theorem dX6_goDay_53 : decode cX6_goDay 53 = .ok (.getfield 37, 3) := by decide +kernel
theorem dX6_goDay_56 : decode cX6_goDay 56 = .ok (.iload_n 1, 1) := by decide +kernel
theorem dX6_goDay_57 : decode cX6_goDay 57 = .ok (.iaload, 1) := by decide +kernel
theorem dX6_goDay_58 : decode cX6_goDay 58 = .ok (.invokevirtual 190, 3) := by decide +kernel
theorem dX6_goDay_61 : decode cX6_goDay 61 = .ok (.istore_n 2, 1) := by decide +kernel
theorem dX6_goDay_62 : decode cX6_goDay 62 = .ok (.aload_n 0, 1) := by decide +kernel
theorem dX6_goDay_63 : decode cX6_goDay 63 = .ok (.iload_n 2, 1) := by decide +kernel
theorem dX6_goDay_64 : decode cX6_goDay 64 = .ok (.ifCond .le 7, 3) := by decide +kernel
theorem dX6_goDay_67 : decode cX6_goDay 67 = .ok (.iload_n 1, 1) := by decide +kernel
theorem dX6_goDay_68 : decode cX6_goDay 68 = .ok (.goto 5, 3) := by decide +kernel
theorem dX6_goDay_71 : decode cX6_goDay 71 = .ok (.bipush (-6), 2) := by decide +kernel
theorem dX6_goDay_73 : decode cX6_goDay 73 = .ok (.putfield 184, 3) := by decide +kernel
theorem dX6_goDay_76 : decode cX6_goDay 76 = .ok (.aload_n 0, 1) := by decide +kernel
theorem dX6_goDay_77 : decode cX6_goDay 77 = .ok (.iload_n 2, 1) := by decide +kernel
theorem dX6_goDay_78 : decode cX6_goDay 78 = .ok (.ifCond .le 7, 3) := by decide +kernel
theorem dX6_goDay_81 : decode cX6_goDay 81 = .ok (.iload_n 2, 1) := by decide +kernel
theorem dX6_goDay_82 : decode cX6_goDay 82 = .ok (.goto 5, 3) := by decide +kernel
theorem dX6_goDay_85 : decode cX6_goDay 85 = .ok (.bipush (-6), 2) := by decide +kernel
theorem dX6_goDay_87 : decode cX6_goDay 87 = .ok (.putfield 187, 3) := by decide +kernel
theorem dX6_goDay_90 : decode cX6_goDay 90 = .ok (.iload_n 2, 1) := by decide +kernel
theorem dX6_goDay_91 : decode cX6_goDay 91 = .ok (.ifCond .ne 31, 3) := by decide +kernel
theorem dX6_goDay_94 : decode cX6_goDay 94 = .ok (.aload_n 0, 1) := by decide +kernel
theorem dX6_goDay_95 : decode cX6_goDay 95 = .ok (.aload_n 0, 1) := by decide +kernel
theorem dX6_goDay_96 : decode cX6_goDay 96 = .ok (.getfield 31, 3) := by decide +kernel
theorem dX6_goDay_99 : decode cX6_goDay 99 = .ok (.iload_n 1, 1) := by decide +kernel
theorem dX6_goDay_100 : decode cX6_goDay 100 = .ok (.iaload, 1) := by decide +kernel
theorem dX6_goDay_101 : decode cX6_goDay 101 = .ok (.aload_n 0, 1) := by decide +kernel
theorem dX6_goDay_102 : decode cX6_goDay 102 = .ok (.getfield 34, 3) := by decide +kernel
theorem dX6_goDay_105 : decode cX6_goDay 105 = .ok (.iload_n 1, 1) := by decide +kernel
theorem dX6_goDay_106 : decode cX6_goDay 106 = .ok (.iaload, 1) := by decide +kernel
theorem dX6_goDay_107 : decode cX6_goDay 107 = .ok (.aload_n 0, 1) := by decide +kernel
theorem dX6_goDay_108 : decode cX6_goDay 108 = .ok (.getfield 40, 3) := by decide +kernel
theorem dX6_goDay_111 : decode cX6_goDay 111 = .ok (.iload_n 1, 1) := by decide +kernel
theorem dX6_goDay_112 : decode cX6_goDay 112 = .ok (.iaload, 1) := by decide +kernel
theorem dX6_goDay_113 : decode cX6_goDay 113 = .ok (.aload_n 0, 1) := by decide +kernel
theorem dX6_goDay_114 : decode cX6_goDay 114 = .ok (.getfield 37, 3) := by decide +kernel
theorem dX6_goDay_117 : decode cX6_goDay 117 = .ok (.iload_n 1, 1) := by decide +kernel
theorem dX6_goDay_118 : decode cX6_goDay 118 = .ok (.iaload, 1) := by decide +kernel
theorem dX6_goDay_119 : decode cX6_goDay 119 = .ok (.invokevirtual 193, 3) := by decide +kernel
theorem dX6_goDay_122 : decode cX6_goDay 122 = .ok (.iinc 1 1, 3) := by decide +kernel
theorem dX6_goDay_125 : decode cX6_goDay 125 = .ok (.goto (-107), 3) := by decide +kernel
theorem dX6_goDay_128 : decode cX6_goDay 128 = .ok (.return_, 1) := by decide +kernel
set_option maxRecDepth 20000 in
theorem ggX6_refusal_X6_fault : GoodIn wsX6_refusal wsX6_fault := goodIn_r _ [8, 9, 10, 11, 12, 13, 14, 7, 15, 16, 17, 18, 19, 20, 21, 22, 23, 24, 25, 26, 27, 28, 29, 30, 31, 32, 33, 34, 35, 36, 37, 38, 39, 40, 41, 42, 43, 118, 119, 120, 121, 122, 123, 124, 125, 126, 127, 128, 129, 130, 131, 132, 133, 134, 135, 136, 137, 138, 139, 140, 141, 142, 143, 144, 145, 146, 147, 148, 149, 150, 151] (by decide +kernel) (by decide +kernel)
set_option maxRecDepth 20000 in
theorem gX6_refusal_X6_fault : GoodIn wsX6_refusal (wsV RX6 197 RX6 yX6_fault wsX6_fault) := goodIn_app (goodIn_of _ (by decide +kernel)) ggX6_refusal_X6_fault
set_option maxRecDepth 20000 in
theorem ggX6_refusal_X6_store : GoodIn wsX6_refusal wsX6_store := goodIn_r _ [47, 48, 49, 50, 51, 52, 118, 119, 120, 121, 122, 123, 124, 125, 126, 127, 128, 129, 130, 131, 132, 133, 134, 135, 136, 137, 138, 139, 140, 141, 142, 143, 144, 145, 146, 147, 148, 149, 150, 151] (by decide +kernel) (by decide +kernel)
set_option maxRecDepth 20000 in
theorem gX6_refusal_X6_store : GoodIn wsX6_refusal (wsV RX6 201 RX6 yX6_store wsX6_store) := goodIn_app (goodIn_of _ (by decide +kernel)) ggX6_refusal_X6_store
set_option maxRecDepth 20000 in
theorem ggX6_refusal_X6_goDay : GoodIn wsX6_refusal wsX6_goDay := goodIn_r _ [56, 3, 57, 9, 22, 27, 16, 17, 58, 59, 60, 7, 61, 62, 63, 64, 65, 66, 67, 68, 49, 69, 70, 71, 72, 73, 74, 75, 76, 77, 78, 33, 34, 35, 79, 80, 81, 82, 51, 83, 84, 85, 86, 87, 88, 89, 48, 90, 91, 92, 93, 94, 95, 52, 96, 97, 98, 99, 100, 101, 102, 103, 104, 105, 106, 107, 108, 109, 50, 110, 111, 112, 113, 118, 119, 120, 121, 122, 123, 124, 125, 126, 127, 128, 129, 130, 131, 132, 133, 134, 135, 136, 137, 138, 139, 140, 141, 142, 143, 144, 145, 146, 147, 148, 149, 150, 151] (by decide +kernel) (by decide +kernel)
set_option maxRecDepth 20000 in
theorem gX6_refusal_X6_goDay : GoodIn wsX6_refusal (wsV RX6 205 RX6 yX6_goDay wsX6_goDay) := goodIn_app (goodIn_of _ (by decide +kernel)) ggX6_refusal_X6_goDay
set_option maxRecDepth 20000 in
theorem ggX6_refusal_X6_lay : GoodIn wsX6_refusal wsX6_lay := goodIn_r _ [117, 48, 49, 50, 51, 52, 118, 119, 120, 121, 122, 123, 124, 125, 126, 127, 128, 129, 130, 131, 132, 133, 134, 135, 136, 137, 138, 139, 140, 141, 142, 143, 144, 145, 146, 147, 148, 149, 150, 151] (by decide +kernel) (by decide +kernel)
set_option maxRecDepth 20000 in
theorem gX6_refusal_X6_lay : GoodIn wsX6_refusal (wsV RX6 208 RX6 yX6_lay wsX6_lay) := goodIn_app (goodIn_of _ (by decide +kernel)) ggX6_refusal_X6_lay
theorem dX6_refusal_0 : decode cX6_refusal 0 = .ok (.aload_n 0, 1) := by decide +kernel
theorem dX6_refusal_1 : decode cX6_refusal 1 = .ok (.invokevirtual 197, 3) := by decide +kernel
theorem dX6_refusal_4 : decode cX6_refusal 4 = .ok (.ifCond .lt 6, 3) := by decide +kernel
theorem dX6_refusal_7 : decode cX6_refusal 7 = .ok (.bipush (-5), 2) := by decide +kernel
theorem dX6_refusal_9 : decode cX6_refusal 9 = .ok (.ireturn, 1) := by decide +kernel
theorem dX6_refusal_10 : decode cX6_refusal 10 = .ok (.aload_n 0, 1) := by decide +kernel
theorem dX6_refusal_11 : decode cX6_refusal 11 = .ok (.aload_n 0, 1) := by decide +kernel
theorem dX6_refusal_12 : decode cX6_refusal 12 = .ok (.getfield 52, 3) := by decide +kernel
theorem dX6_refusal_15 : decode cX6_refusal 15 = .ok (.invokevirtual 201, 3) := by decide +kernel
theorem dX6_refusal_18 : decode cX6_refusal 18 = .ok (.aload_n 0, 1) := by decide +kernel
theorem dX6_refusal_19 : decode cX6_refusal 19 = .ok (.invokevirtual 205, 3) := by decide +kernel
theorem dX6_refusal_22 : decode cX6_refusal 22 = .ok (.aload_n 0, 1) := by decide +kernel
theorem dX6_refusal_23 : decode cX6_refusal 23 = .ok (.aload_n 0, 1) := by decide +kernel
theorem dX6_refusal_24 : decode cX6_refusal 24 = .ok (.getfield 55, 3) := by decide +kernel
theorem dX6_refusal_27 : decode cX6_refusal 27 = .ok (.invokevirtual 201, 3) := by decide +kernel
theorem dX6_refusal_30 : decode cX6_refusal 30 = .ok (.aload_n 0, 1) := by decide +kernel
theorem dX6_refusal_31 : decode cX6_refusal 31 = .ok (.aload_n 0, 1) := by decide +kernel
theorem dX6_refusal_32 : decode cX6_refusal 32 = .ok (.getfield 52, 3) := by decide +kernel
theorem dX6_refusal_35 : decode cX6_refusal 35 = .ok (.invokevirtual 208, 3) := by decide +kernel
theorem dX6_refusal_38 : decode cX6_refusal 38 = .ok (.aload_n 0, 1) := by decide +kernel
theorem dX6_refusal_39 : decode cX6_refusal 39 = .ok (.getfield 184, 3) := by decide +kernel
theorem dX6_refusal_42 : decode cX6_refusal 42 = .ok (.ifCond .lt 8, 3) := by decide +kernel
theorem dX6_refusal_45 : decode cX6_refusal 45 = .ok (.bipush (-3), 2) := by decide +kernel
theorem dX6_refusal_47 : decode cX6_refusal 47 = .ok (.goto 5, 3) := by decide +kernel
theorem dX6_refusal_50 : decode cX6_refusal 50 = .ok (.bipush (-6), 2) := by decide +kernel
theorem dX6_refusal_52 : decode cX6_refusal 52 = .ok (.ireturn, 1) := by decide +kernel
set_option maxRecDepth 20000 in
theorem ggX6_judge_X6_in : GoodIn wsX6_judge wsX6_in := goodIn_r _ [8] (by decide +kernel) (by decide +kernel)
set_option maxRecDepth 20000 in
theorem gX6_judge_X6_in : GoodIn wsX6_judge (va_wsS RX6 81 yX6_in wsX6_in) := goodIn_app (goodIn_of _ (by decide +kernel)) ggX6_judge_X6_in
set_option maxRecDepth 20000 in
theorem ggX6_judge_X6_refusal : GoodIn wsX6_judge wsX6_refusal := goodIn_r _ [12, 13, 14, 2, 15, 16, 17, 7, 18, 19, 20, 21, 22, 23, 24, 25, 26, 27, 28, 29, 30, 31, 32, 33, 34, 35, 36, 37, 38, 39, 40, 41, 42, 5, 6, 8, 43, 44, 45, 46, 47, 48, 49, 50, 51, 52, 53, 54, 55, 56, 57, 58, 59, 60, 61, 62, 63, 3, 64, 65, 66, 67, 4, 68, 69, 70, 71, 72, 73, 74, 75, 76, 77, 78, 79, 80, 81, 82, 83, 84, 85, 86, 87, 88, 89, 90, 91, 92, 93, 94, 95, 96, 97, 98, 99, 100, 101, 102, 103, 104, 105, 106, 107, 108, 109, 110, 111, 112, 113, 114, 115, 116, 117, 118, 119, 120, 121, 122, 123, 124, 125, 126, 127, 128, 129, 130, 131, 132, 133, 134, 135, 136, 137, 138, 139, 140, 141, 142, 143, 144, 145, 146, 147, 148, 149, 150, 151, 152, 153, 154, 155, 156] (by decide +kernel) (by decide +kernel)
set_option maxRecDepth 20000 in
theorem gX6_judge_X6_refusal : GoodIn wsX6_judge (wsV RX6 213 RX6 yX6_refusal wsX6_refusal) := goodIn_app (goodIn_of _ (by decide +kernel)) ggX6_judge_X6_refusal
theorem dX6_judge_0 : decode cX6_judge 0 = .ok (.iload_n 1, 1) := by decide +kernel
theorem dX6_judge_1 : decode cX6_judge 1 = .ok (.i2l, 1) := by decide +kernel
theorem dX6_judge_2 : decode cX6_judge 2 = .ok (.lconst 0, 1) := by decide +kernel
theorem dX6_judge_3 : decode cX6_judge 3 = .ok (.ldc2_w 211, 3) := by decide +kernel
theorem dX6_judge_6 : decode cX6_judge 6 = .ok (.invokestatic 81, 3) := by decide +kernel
theorem dX6_judge_9 : decode cX6_judge 9 = .ok (.ifCond .ne 6, 3) := by decide +kernel
theorem dX6_judge_12 : decode cX6_judge 12 = .ok (.bipush (-2), 2) := by decide +kernel
theorem dX6_judge_14 : decode cX6_judge 14 = .ok (.ireturn, 1) := by decide +kernel
theorem dX6_judge_15 : decode cX6_judge 15 = .ok (.aload_n 0, 1) := by decide +kernel
theorem dX6_judge_16 : decode cX6_judge 16 = .ok (.invokevirtual 213, 3) := by decide +kernel
theorem dX6_judge_19 : decode cX6_judge 19 = .ok (.istore_n 2, 1) := by decide +kernel
theorem dX6_judge_20 : decode cX6_judge 20 = .ok (.iload_n 2, 1) := by decide +kernel
theorem dX6_judge_21 : decode cX6_judge 21 = .ok (.bipush (-5), 2) := by decide +kernel
theorem dX6_judge_23 : decode cX6_judge 23 = .ok (.if_icmp .eq 14, 3) := by decide +kernel
theorem dX6_judge_26 : decode cX6_judge 26 = .ok (.iload_n 1, 1) := by decide +kernel
theorem dX6_judge_27 : decode cX6_judge 27 = .ok (.iconst 1, 1) := by decide +kernel
theorem dX6_judge_28 : decode cX6_judge 28 = .ok (.if_icmp .le 11, 3) := by decide +kernel
theorem dX6_judge_31 : decode cX6_judge 31 = .ok (.iload_n 2, 1) := by decide +kernel
theorem dX6_judge_32 : decode cX6_judge 32 = .ok (.bipush (-3), 2) := by decide +kernel
theorem dX6_judge_34 : decode cX6_judge 34 = .ok (.if_icmp .ne 5, 3) := by decide +kernel
theorem dX6_judge_37 : decode cX6_judge 37 = .ok (.iload_n 2, 1) := by decide +kernel
theorem dX6_judge_38 : decode cX6_judge 38 = .ok (.ireturn, 1) := by decide +kernel
theorem dX6_judge_39 : decode cX6_judge 39 = .ok (.iload_n 1, 1) := by decide +kernel
theorem dX6_judge_40 : decode cX6_judge 40 = .ok (.ifCond .ne 10, 3) := by decide +kernel
theorem dX6_judge_43 : decode cX6_judge 43 = .ok (.aload_n 0, 1) := by decide +kernel
theorem dX6_judge_44 : decode cX6_judge 44 = .ok (.getfield 184, 3) := by decide +kernel
theorem dX6_judge_47 : decode cX6_judge 47 = .ok (.goto 19, 3) := by decide +kernel
theorem dX6_judge_50 : decode cX6_judge 50 = .ok (.iload_n 1, 1) := by decide +kernel
theorem dX6_judge_51 : decode cX6_judge 51 = .ok (.iconst 1, 1) := by decide +kernel
theorem dX6_judge_52 : decode cX6_judge 52 = .ok (.if_icmp .ne 10, 3) := by decide +kernel
theorem dX6_judge_55 : decode cX6_judge 55 = .ok (.aload_n 0, 1) := by decide +kernel
theorem dX6_judge_56 : decode cX6_judge 56 = .ok (.getfield 187, 3) := by decide +kernel
theorem dX6_judge_59 : decode cX6_judge 59 = .ok (.goto 7, 3) := by decide +kernel
theorem dX6_judge_62 : decode cX6_judge 62 = .ok (.aload_n 0, 1) := by decide +kernel
theorem dX6_judge_63 : decode cX6_judge 63 = .ok (.getfield 154, 3) := by decide +kernel
theorem dX6_judge_66 : decode cX6_judge 66 = .ok (.ireturn, 1) := by decide +kernel
set_option maxRecDepth 20000 in
theorem ggX6_pairsLeft_X6_at : GoodIn wsX6_pairsLeft wsX6_at := goodIn_r _ [5] (by decide +kernel) (by decide +kernel)
set_option maxRecDepth 20000 in
theorem gX6_pairsLeft_X6_at : GoodIn wsX6_pairsLeft (va_wsS RX6 94 yX6_at wsX6_at) := goodIn_app (goodIn_of _ (by decide +kernel)) ggX6_pairsLeft_X6_at
theorem dX6_pairsLeft_0 : decode cX6_pairsLeft 0 = .ok (.iconst 0, 1) := by decide +kernel
theorem dX6_pairsLeft_1 : decode cX6_pairsLeft 1 = .ok (.istore_n 2, 1) := by decide +kernel
theorem dX6_pairsLeft_2 : decode cX6_pairsLeft 2 = .ok (.iconst 0, 1) := by decide +kernel
theorem dX6_pairsLeft_3 : decode cX6_pairsLeft 3 = .ok (.istore_n 3, 1) := by decide +kernel
theorem dX6_pairsLeft_4 : decode cX6_pairsLeft 4 = .ok (.iload_n 3, 1) := by decide +kernel
theorem dX6_pairsLeft_5 : decode cX6_pairsLeft 5 = .ok (.bipush 24, 2) := by decide +kernel
theorem dX6_pairsLeft_7 : decode cX6_pairsLeft 7 = .ok (.if_icmp .ge 35, 3) := by decide +kernel
theorem dX6_pairsLeft_10 : decode cX6_pairsLeft 10 = .ok (.iload_n 2, 1) := by decide +kernel
theorem dX6_pairsLeft_11 : decode cX6_pairsLeft 11 = .ok (.aload_n 0, 1) := by decide +kernel
theorem dX6_pairsLeft_12 : decode cX6_pairsLeft 12 = .ok (.getfield 55, 3) := by decide +kernel
theorem dX6_pairsLeft_15 : decode cX6_pairsLeft 15 = .ok (.bipush 18, 2) := by decide +kernel
theorem dX6_pairsLeft_17 : decode cX6_pairsLeft 17 = .ok (.iload_n 1, 1) := by decide +kernel
theorem dX6_pairsLeft_18 : decode cX6_pairsLeft 18 = .ok (.iload_n 3, 1) := by decide +kernel
theorem dX6_pairsLeft_19 : decode cX6_pairsLeft 19 = .ok (.invokestatic 94, 3) := by decide +kernel
theorem dX6_pairsLeft_22 : decode cX6_pairsLeft 22 = .ok (.iadd, 1) := by decide +kernel
theorem dX6_pairsLeft_23 : decode cX6_pairsLeft 23 = .ok (.iaload, 1) := by decide +kernel
theorem dX6_pairsLeft_24 : decode cX6_pairsLeft 24 = .ok (.ifCond .lt 9, 3) := by decide +kernel
theorem dX6_pairsLeft_27 : decode cX6_pairsLeft 27 = .ok (.iconst 1, 1) := by decide +kernel
theorem dX6_pairsLeft_28 : decode cX6_pairsLeft 28 = .ok (.iload_n 3, 1) := by decide +kernel
theorem dX6_pairsLeft_29 : decode cX6_pairsLeft 29 = .ok (.ishl, 1) := by decide +kernel
theorem dX6_pairsLeft_30 : decode cX6_pairsLeft 30 = .ok (.goto 4, 3) := by decide +kernel
theorem dX6_pairsLeft_33 : decode cX6_pairsLeft 33 = .ok (.iconst 0, 1) := by decide +kernel
theorem dX6_pairsLeft_34 : decode cX6_pairsLeft 34 = .ok (.ior, 1) := by decide +kernel
theorem dX6_pairsLeft_35 : decode cX6_pairsLeft 35 = .ok (.istore_n 2, 1) := by decide +kernel
theorem dX6_pairsLeft_36 : decode cX6_pairsLeft 36 = .ok (.iinc 3 1, 3) := by decide +kernel
theorem dX6_pairsLeft_39 : decode cX6_pairsLeft 39 = .ok (.goto (-35), 3) := by decide +kernel
theorem dX6_pairsLeft_42 : decode cX6_pairsLeft 42 = .ok (.iload_n 2, 1) := by decide +kernel
theorem dX6_pairsLeft_43 : decode cX6_pairsLeft 43 = .ok (.ireturn, 1) := by decide +kernel
set_option maxRecDepth 20000 in
theorem ggX6_behind_X6_isCourtier : GoodIn wsX6_behind wsX6_isCourtier := goodIn_r _ [7, 8, 9, 10, 11, 6, 12, 127, 128, 129, 130, 131, 132, 133, 134, 135, 136, 137, 138, 139, 140, 141, 142, 143, 144, 145, 146, 147, 148, 149, 150, 151, 152, 153, 154, 155, 156, 157, 158, 159, 160] (by decide +kernel) (by decide +kernel)
set_option maxRecDepth 20000 in
theorem gX6_behind_X6_isCourtier : GoodIn wsX6_behind (wsV RX6 90 RX6 yX6_isCourtier wsX6_isCourtier) := goodIn_app (goodIn_of _ (by decide +kernel)) ggX6_behind_X6_isCourtier
set_option maxRecDepth 20000 in
theorem ggX6_behind_X6_in : GoodIn wsX6_behind wsX6_in := goodIn_r _ [12] (by decide +kernel) (by decide +kernel)
set_option maxRecDepth 20000 in
theorem gX6_behind_X6_in : GoodIn wsX6_behind (va_wsS RX6 81 yX6_in wsX6_in) := goodIn_app (goodIn_of _ (by decide +kernel)) ggX6_behind_X6_in
set_option maxRecDepth 20000 in
theorem ggX6_behind_X6_refusal : GoodIn wsX6_behind wsX6_refusal := goodIn_r _ [16, 17, 2, 18, 19, 20, 21, 6, 22, 23, 24, 25, 26, 27, 28, 29, 30, 31, 32, 33, 34, 35, 36, 37, 38, 39, 40, 41, 42, 43, 44, 45, 46, 10, 11, 12, 47, 48, 49, 50, 51, 52, 53, 54, 55, 56, 57, 58, 59, 60, 61, 62, 63, 64, 65, 66, 67, 68, 69, 70, 71, 72, 73, 74, 75, 76, 77, 78, 79, 80, 81, 82, 83, 3, 4, 5, 7, 8, 9, 84, 85, 86, 87, 88, 89, 90, 91, 92, 93, 94, 95, 96, 97, 98, 99, 100, 101, 102, 103, 104, 105, 106, 107, 108, 109, 110, 111, 112, 113, 114, 115, 116, 117, 118, 119, 120, 121, 122, 127, 128, 129, 130, 131, 132, 133, 134, 135, 136, 137, 138, 139, 140, 141, 142, 143, 144, 145, 146, 147, 148, 149, 150, 151, 152, 153, 154, 155, 156, 157, 158, 159, 160] (by decide +kernel) (by decide +kernel)
set_option maxRecDepth 20000 in
theorem gX6_behind_X6_refusal : GoodIn wsX6_behind (wsV RX6 213 RX6 yX6_refusal wsX6_refusal) := goodIn_app (goodIn_of _ (by decide +kernel)) ggX6_behind_X6_refusal
set_option maxRecDepth 20000 in
theorem ggX6_behind_X6_pairsLeft : GoodIn wsX6_behind wsX6_pairsLeft := goodIn_r _ [126, 2, 88, 89, 6, 90, 127, 128, 129, 130, 131, 132, 133, 134, 135, 136, 137, 138, 139, 140, 141, 142, 143, 144, 145, 146, 147, 148, 149, 150, 151, 152, 153, 154, 155, 156, 157, 158, 159, 160] (by decide +kernel) (by decide +kernel)
set_option maxRecDepth 20000 in
theorem gX6_behind_X6_pairsLeft : GoodIn wsX6_behind (wsV RX6 218 RX6 yX6_pairsLeft wsX6_pairsLeft) := goodIn_app (goodIn_of _ (by decide +kernel)) ggX6_behind_X6_pairsLeft
theorem dX6_behind_0 : decode cX6_behind 0 = .ok (.aload_n 0, 1) := by decide +kernel
theorem dX6_behind_1 : decode cX6_behind 1 = .ok (.iload_n 1, 1) := by decide +kernel
theorem dX6_behind_2 : decode cX6_behind 2 = .ok (.invokevirtual 90, 3) := by decide +kernel
theorem dX6_behind_5 : decode cX6_behind 5 = .ok (.ifCond .ne 5, 3) := by decide +kernel
theorem dX6_behind_8 : decode cX6_behind 8 = .ok (.iconst (-1), 1) := by decide +kernel
theorem dX6_behind_9 : decode cX6_behind 9 = .ok (.ireturn, 1) := by decide +kernel
theorem dX6_behind_10 : decode cX6_behind 10 = .ok (.iload_n 2, 1) := by decide +kernel
theorem dX6_behind_11 : decode cX6_behind 11 = .ok (.i2l, 1) := by decide +kernel
theorem dX6_behind_12 : decode cX6_behind 12 = .ok (.lconst 0, 1) := by decide +kernel
theorem dX6_behind_13 : decode cX6_behind 13 = .ok (.ldc2_w 216, 3) := by decide +kernel
theorem dX6_behind_16 : decode cX6_behind 16 = .ok (.invokestatic 81, 3) := by decide +kernel
theorem dX6_behind_19 : decode cX6_behind 19 = .ok (.ifCond .ne 6, 3) := by decide +kernel
theorem dX6_behind_22 : decode cX6_behind 22 = .ok (.bipush (-2), 2) := by decide +kernel
theorem dX6_behind_24 : decode cX6_behind 24 = .ok (.ireturn, 1) := by decide +kernel
theorem dX6_behind_25 : decode cX6_behind 25 = .ok (.aload_n 0, 1) := by decide +kernel
theorem dX6_behind_26 : decode cX6_behind 26 = .ok (.invokevirtual 213, 3) := by decide +kernel
theorem dX6_behind_29 : decode cX6_behind 29 = .ok (.istore_n 3, 1) := by decide +kernel
theorem dX6_behind_30 : decode cX6_behind 30 = .ok (.iload_n 3, 1) := by decide +kernel
theorem dX6_behind_31 : decode cX6_behind 31 = .ok (.bipush (-6), 2) := by decide +kernel
theorem dX6_behind_33 : decode cX6_behind 33 = .ok (.if_icmp .eq 7, 3) := by decide +kernel
theorem dX6_behind_36 : decode cX6_behind 36 = .ok (.iload_n 3, 1) := by decide +kernel
theorem dX6_behind_37 : decode cX6_behind 37 = .ok (.goto 27, 3) := by decide +kernel
theorem dX6_behind_40 : decode cX6_behind 40 = .ok (.iload_n 2, 1) := by decide +kernel
theorem dX6_behind_41 : decode cX6_behind 41 = .ok (.iconst 3, 1) := by decide +kernel
theorem dX6_behind_42 : decode cX6_behind 42 = .ok (.if_icmp .ne 11, 3) := by decide +kernel
theorem dX6_behind_45 : decode cX6_behind 45 = .ok (.aload_n 0, 1) := by decide +kernel
theorem dX6_behind_46 : decode cX6_behind 46 = .ok (.iload_n 1, 1) := by decide +kernel
theorem dX6_behind_47 : decode cX6_behind 47 = .ok (.invokevirtual 218, 3) := by decide +kernel
theorem dX6_behind_50 : decode cX6_behind 50 = .ok (.goto 14, 3) := by decide +kernel
theorem dX6_behind_53 : decode cX6_behind 53 = .ok (.aload_n 0, 1) := by decide +kernel
theorem dX6_behind_54 : decode cX6_behind 54 = .ok (.getfield 55, 3) := by decide +kernel
theorem dX6_behind_57 : decode cX6_behind 57 = .ok (.bipush 6, 2) := by decide +kernel
theorem dX6_behind_59 : decode cX6_behind 59 = .ok (.iload_n 2, 1) := by decide +kernel
theorem dX6_behind_60 : decode cX6_behind 60 = .ok (.imul, 1) := by decide +kernel
theorem dX6_behind_61 : decode cX6_behind 61 = .ok (.iload_n 1, 1) := by decide +kernel
theorem dX6_behind_62 : decode cX6_behind 62 = .ok (.iadd, 1) := by decide +kernel
theorem dX6_behind_63 : decode cX6_behind 63 = .ok (.iaload, 1) := by decide +kernel
theorem dX6_behind_64 : decode cX6_behind 64 = .ok (.ireturn, 1) := by decide +kernel
set_option maxRecDepth 20000 in
theorem ggX6_wear_X6_isCourtier : GoodIn wsX6_wear wsX6_isCourtier := goodIn_r _ [6, 7, 8, 9, 10, 5, 11, 126, 127, 128, 129, 130, 131, 132, 133, 134, 135, 136, 137, 138, 139, 140, 141, 142, 143, 144, 145, 146, 147, 148, 149, 150, 151, 152, 153, 154, 155, 156, 157, 158, 159] (by decide +kernel) (by decide +kernel)
set_option maxRecDepth 20000 in
theorem gX6_wear_X6_isCourtier : GoodIn wsX6_wear (wsV RX6 90 RX6 yX6_isCourtier wsX6_isCourtier) := goodIn_app (goodIn_of _ (by decide +kernel)) ggX6_wear_X6_isCourtier
set_option maxRecDepth 20000 in
theorem ggX6_wear_X6_isHour : GoodIn wsX6_wear wsX6_isHour := goodIn_r _ [14, 15, 9, 10, 5, 11] (by decide +kernel) (by decide +kernel)
set_option maxRecDepth 20000 in
theorem gX6_wear_X6_isHour : GoodIn wsX6_wear (va_wsS RX6 221 yX6_isHour wsX6_isHour) := goodIn_app (goodIn_of _ (by decide +kernel)) ggX6_wear_X6_isHour
set_option maxRecDepth 20000 in
theorem ggX6_wear_X6_refusal : GoodIn wsX6_wear wsX6_refusal := goodIn_r _ [19, 20, 1, 21, 22, 23, 24, 5, 25, 26, 27, 28, 29, 30, 31, 32, 33, 34, 35, 36, 37, 38, 39, 40, 41, 42, 43, 44, 45, 46, 47, 48, 49, 9, 10, 11, 50, 51, 52, 53, 54, 55, 56, 57, 58, 59, 60, 61, 62, 63, 64, 65, 66, 67, 68, 69, 70, 71, 72, 73, 74, 75, 76, 77, 78, 79, 80, 81, 82, 83, 84, 85, 86, 2, 3, 4, 6, 7, 8, 87, 88, 89, 90, 91, 92, 93, 94, 95, 96, 97, 98, 99, 100, 101, 102, 103, 104, 105, 106, 107, 108, 109, 110, 111, 112, 113, 114, 115, 116, 117, 118, 119, 120, 121, 122, 123, 124, 125, 126, 127, 128, 129, 130, 131, 132, 133, 134, 135, 136, 137, 138, 139, 140, 141, 142, 143, 144, 145, 146, 147, 148, 149, 150, 151, 152, 153, 154, 155, 156, 157, 158, 159] (by decide +kernel) (by decide +kernel)
set_option maxRecDepth 20000 in
theorem gX6_wear_X6_refusal : GoodIn wsX6_wear (wsV RX6 213 RX6 yX6_refusal wsX6_refusal) := goodIn_app (goodIn_of _ (by decide +kernel)) ggX6_wear_X6_refusal
set_option maxRecDepth 20000 in
theorem ggX6_wear_X6_at : GoodIn wsX6_wear wsX6_at := goodIn_r _ [93] (by decide +kernel) (by decide +kernel)
set_option maxRecDepth 20000 in
theorem gX6_wear_X6_at : GoodIn wsX6_wear (va_wsS RX6 94 yX6_at wsX6_at) := goodIn_app (goodIn_of _ (by decide +kernel)) ggX6_wear_X6_at
theorem dX6_wear_0 : decode cX6_wear 0 = .ok (.aload_n 0, 1) := by decide +kernel
theorem dX6_wear_1 : decode cX6_wear 1 = .ok (.iload_n 1, 1) := by decide +kernel
theorem dX6_wear_2 : decode cX6_wear 2 = .ok (.invokevirtual 90, 3) := by decide +kernel
theorem dX6_wear_5 : decode cX6_wear 5 = .ok (.ifCond .ne 5, 3) := by decide +kernel
theorem dX6_wear_8 : decode cX6_wear 8 = .ok (.iconst (-1), 1) := by decide +kernel
theorem dX6_wear_9 : decode cX6_wear 9 = .ok (.ireturn, 1) := by decide +kernel
theorem dX6_wear_10 : decode cX6_wear 10 = .ok (.iload_n 2, 1) := by decide +kernel
theorem dX6_wear_11 : decode cX6_wear 11 = .ok (.invokestatic 221, 3) := by decide +kernel
theorem dX6_wear_14 : decode cX6_wear 14 = .ok (.ifCond .ne 6, 3) := by decide +kernel
theorem dX6_wear_17 : decode cX6_wear 17 = .ok (.bipush (-2), 2) := by decide +kernel
theorem dX6_wear_19 : decode cX6_wear 19 = .ok (.ireturn, 1) := by decide +kernel
theorem dX6_wear_20 : decode cX6_wear 20 = .ok (.aload_n 0, 1) := by decide +kernel
theorem dX6_wear_21 : decode cX6_wear 21 = .ok (.invokevirtual 213, 3) := by decide +kernel
theorem dX6_wear_24 : decode cX6_wear 24 = .ok (.istore_n 3, 1) := by decide +kernel
theorem dX6_wear_25 : decode cX6_wear 25 = .ok (.iload_n 3, 1) := by decide +kernel
theorem dX6_wear_26 : decode cX6_wear 26 = .ok (.bipush (-6), 2) := by decide +kernel
theorem dX6_wear_28 : decode cX6_wear 28 = .ok (.if_icmp .eq 7, 3) := by decide +kernel
theorem dX6_wear_31 : decode cX6_wear 31 = .ok (.iload_n 3, 1) := by decide +kernel
theorem dX6_wear_32 : decode cX6_wear 32 = .ok (.goto 16, 3) := by decide +kernel
theorem dX6_wear_35 : decode cX6_wear 35 = .ok (.aload_n 0, 1) := by decide +kernel
theorem dX6_wear_36 : decode cX6_wear 36 = .ok (.getfield 55, 3) := by decide +kernel
theorem dX6_wear_39 : decode cX6_wear 39 = .ok (.bipush 18, 2) := by decide +kernel
theorem dX6_wear_41 : decode cX6_wear 41 = .ok (.iload_n 1, 1) := by decide +kernel
theorem dX6_wear_42 : decode cX6_wear 42 = .ok (.iload_n 2, 1) := by decide +kernel
theorem dX6_wear_43 : decode cX6_wear 43 = .ok (.invokestatic 94, 3) := by decide +kernel
theorem dX6_wear_46 : decode cX6_wear 46 = .ok (.iadd, 1) := by decide +kernel
theorem dX6_wear_47 : decode cX6_wear 47 = .ok (.iaload, 1) := by decide +kernel
theorem dX6_wear_48 : decode cX6_wear 48 = .ok (.ireturn, 1) := by decide +kernel
set_option maxRecDepth 20000 in
theorem ggX6_deed_X6_in : GoodIn wsX6_deed wsX6_in := goodIn_r _ [9] (by decide +kernel) (by decide +kernel)
set_option maxRecDepth 20000 in
theorem gX6_deed_X6_in : GoodIn wsX6_deed (va_wsS RX6 81 yX6_in wsX6_in) := goodIn_app (goodIn_of _ (by decide +kernel)) ggX6_deed_X6_in
set_option maxRecDepth 20000 in
theorem ggX6_deed_X6_refusal : GoodIn wsX6_deed wsX6_refusal := goodIn_r _ [13, 14, 15, 16, 17, 18, 19, 8, 20, 21, 22, 23, 24, 25, 26, 27, 28, 29, 30, 31, 32, 33, 34, 35, 36, 37, 38, 39, 40, 41, 42, 43, 44, 6, 7, 9, 45, 46, 47, 48, 49, 50, 51, 52, 53, 54, 55, 56, 57, 58, 59, 60, 61, 62, 63, 64, 65, 66, 67, 68, 69, 70, 2, 71, 72, 73, 74, 75, 76, 77, 78, 79, 80, 81, 82, 83, 84, 85, 86, 87, 88, 89, 90, 91, 92, 93, 94, 95, 96, 97, 98, 99, 100, 101, 3, 4, 5, 102, 103, 104, 105, 106, 107, 108, 109, 110, 111, 112, 113, 114, 115, 116, 117, 118, 119, 120, 121, 122, 123, 124, 125, 126, 127, 128, 129, 130, 131, 132, 133, 134, 135, 136, 137, 138, 139, 140, 141, 142, 143, 144, 145, 146, 147, 148, 149, 150, 151, 152, 153, 154, 155, 156] (by decide +kernel) (by decide +kernel)
set_option maxRecDepth 20000 in
theorem gX6_deed_X6_refusal : GoodIn wsX6_deed (wsV RX6 213 RX6 yX6_refusal wsX6_refusal) := goodIn_app (goodIn_of _ (by decide +kernel)) ggX6_deed_X6_refusal
theorem dX6_deed_0 : decode cX6_deed 0 = .ok (.iload_n 2, 1) := by decide +kernel
theorem dX6_deed_1 : decode cX6_deed 1 = .ok (.i2l, 1) := by decide +kernel
theorem dX6_deed_2 : decode cX6_deed 2 = .ok (.lconst 0, 1) := by decide +kernel
theorem dX6_deed_3 : decode cX6_deed 3 = .ok (.ldc2_w 211, 3) := by decide +kernel
theorem dX6_deed_6 : decode cX6_deed 6 = .ok (.invokestatic 81, 3) := by decide +kernel
theorem dX6_deed_9 : decode cX6_deed 9 = .ok (.ifCond .ne 6, 3) := by decide +kernel
theorem dX6_deed_12 : decode cX6_deed 12 = .ok (.bipush (-2), 2) := by decide +kernel
theorem dX6_deed_14 : decode cX6_deed 14 = .ok (.ireturn, 1) := by decide +kernel
theorem dX6_deed_15 : decode cX6_deed 15 = .ok (.aload_n 0, 1) := by decide +kernel
theorem dX6_deed_16 : decode cX6_deed 16 = .ok (.invokevirtual 213, 3) := by decide +kernel
theorem dX6_deed_19 : decode cX6_deed 19 = .ok (.istore_n 3, 1) := by decide +kernel
theorem dX6_deed_20 : decode cX6_deed 20 = .ok (.iload_n 3, 1) := by decide +kernel
theorem dX6_deed_21 : decode cX6_deed 21 = .ok (.bipush (-6), 2) := by decide +kernel
theorem dX6_deed_23 : decode cX6_deed 23 = .ok (.if_icmp .eq 5, 3) := by decide +kernel
theorem dX6_deed_26 : decode cX6_deed 26 = .ok (.iload_n 3, 1) := by decide +kernel
theorem dX6_deed_27 : decode cX6_deed 27 = .ok (.ireturn, 1) := by decide +kernel
theorem dX6_deed_28 : decode cX6_deed 28 = .ok (.iload_n 1, 1) := by decide +kernel
theorem dX6_deed_29 : decode cX6_deed 29 = .ok (.i2l, 1) := by decide +kernel
theorem dX6_deed_30 : decode cX6_deed 30 = .ok (.lconst 0, 1) := by decide +kernel
theorem dX6_deed_31 : decode cX6_deed 31 = .ok (.aload_n 0, 1) := by decide +kernel
theorem dX6_deed_32 : decode cX6_deed 32 = .ok (.getfield 154, 3) := by decide +kernel
theorem dX6_deed_35 : decode cX6_deed 35 = .ok (.i2l, 1) := by decide +kernel
theorem dX6_deed_36 : decode cX6_deed 36 = .ok (.lconst 1, 1) := by decide +kernel
theorem dX6_deed_37 : decode cX6_deed 37 = .ok (.lsub, 1) := by decide +kernel
theorem dX6_deed_38 : decode cX6_deed 38 = .ok (.invokestatic 81, 3) := by decide +kernel
theorem dX6_deed_41 : decode cX6_deed 41 = .ok (.ifCond .ne 5, 3) := by decide +kernel
theorem dX6_deed_44 : decode cX6_deed 44 = .ok (.iconst (-1), 1) := by decide +kernel
theorem dX6_deed_45 : decode cX6_deed 45 = .ok (.ireturn, 1) := by decide +kernel
theorem dX6_deed_46 : decode cX6_deed 46 = .ok (.iload_n 2, 1) := by decide +kernel
theorem dX6_deed_47 : decode cX6_deed 47 = .ok (.ifCond .ne 12, 3) := by decide +kernel
theorem dX6_deed_50 : decode cX6_deed 50 = .ok (.aload_n 0, 1) := by decide +kernel
theorem dX6_deed_51 : decode cX6_deed 51 = .ok (.getfield 43, 3) := by decide +kernel
theorem dX6_deed_54 : decode cX6_deed 54 = .ok (.iload_n 1, 1) := by decide +kernel
theorem dX6_deed_55 : decode cX6_deed 55 = .ok (.iaload, 1) := by decide +kernel
theorem dX6_deed_56 : decode cX6_deed 56 = .ok (.goto 23, 3) := by decide +kernel
theorem dX6_deed_59 : decode cX6_deed 59 = .ok (.iload_n 2, 1) := by decide +kernel
theorem dX6_deed_60 : decode cX6_deed 60 = .ok (.iconst 1, 1) := by decide +kernel
theorem dX6_deed_61 : decode cX6_deed 61 = .ok (.if_icmp .ne 12, 3) := by decide +kernel
theorem dX6_deed_64 : decode cX6_deed 64 = .ok (.aload_n 0, 1) := by decide +kernel
theorem dX6_deed_65 : decode cX6_deed 65 = .ok (.getfield 46, 3) := by decide +kernel
theorem dX6_deed_68 : decode cX6_deed 68 = .ok (.iload_n 1, 1) := by decide +kernel
theorem dX6_deed_69 : decode cX6_deed 69 = .ok (.iaload, 1) := by decide +kernel
theorem dX6_deed_70 : decode cX6_deed 70 = .ok (.goto 9, 3) := by decide +kernel
theorem dX6_deed_73 : decode cX6_deed 73 = .ok (.aload_n 0, 1) := by decide +kernel
theorem dX6_deed_74 : decode cX6_deed 74 = .ok (.getfield 49, 3) := by decide +kernel
theorem dX6_deed_77 : decode cX6_deed 77 = .ok (.iload_n 1, 1) := by decide +kernel
theorem dX6_deed_78 : decode cX6_deed 78 = .ok (.iaload, 1) := by decide +kernel
theorem dX6_deed_79 : decode cX6_deed 79 = .ok (.ireturn, 1) := by decide +kernel
set_option maxRecDepth 20000 in
theorem ggX6_late_X6_in : GoodIn wsX6_late wsX6_in := goodIn_r _ [6] (by decide +kernel) (by decide +kernel)
set_option maxRecDepth 20000 in
theorem gX6_late_X6_in : GoodIn wsX6_late (va_wsS RX6 81 yX6_in wsX6_in) := goodIn_app (goodIn_of _ (by decide +kernel)) ggX6_late_X6_in
set_option maxRecDepth 20000 in
theorem ggX6_late_X6_refusal : GoodIn wsX6_late wsX6_refusal := goodIn_r _ [10, 11, 12, 13, 14, 15, 16, 5, 17, 18, 19, 20, 21, 22, 23, 24, 25, 26, 27, 28, 29, 30, 31, 32, 33, 34, 35, 36, 37, 38, 39, 40, 41, 3, 4, 6, 42, 43, 44, 45, 46, 47, 48, 49, 50, 51, 52, 53, 54, 55, 56, 57, 58, 59, 60, 61, 62, 63, 64, 65, 66, 67, 68, 1, 2, 69, 70, 71, 72, 73, 74, 75, 76, 77, 78, 79, 80, 81, 82, 83, 84, 85, 86, 87, 88, 89, 90, 91, 92, 93, 94, 95, 96, 97, 98, 99, 100, 101, 102, 103, 104, 105, 106, 107, 108, 109, 110, 111, 112, 113, 114, 115, 116, 117, 118, 119, 120, 121, 122, 123, 124, 125, 126, 127, 128, 129, 130, 131, 132, 133, 134, 135, 136, 137, 138, 139, 140, 141, 142, 143, 144, 145, 146, 147, 148, 149, 150, 151, 152, 153, 154, 155] (by decide +kernel) (by decide +kernel)
set_option maxRecDepth 20000 in
theorem gX6_late_X6_refusal : GoodIn wsX6_late (wsV RX6 213 RX6 yX6_refusal wsX6_refusal) := goodIn_app (goodIn_of _ (by decide +kernel)) ggX6_late_X6_refusal
theorem dX6_late_0 : decode cX6_late 0 = .ok (.iload_n 1, 1) := by decide +kernel
theorem dX6_late_1 : decode cX6_late 1 = .ok (.i2l, 1) := by decide +kernel
theorem dX6_late_2 : decode cX6_late 2 = .ok (.lconst 0, 1) := by decide +kernel
theorem dX6_late_3 : decode cX6_late 3 = .ok (.lconst 1, 1) := by decide +kernel
theorem dX6_late_4 : decode cX6_late 4 = .ok (.invokestatic 81, 3) := by decide +kernel
theorem dX6_late_7 : decode cX6_late 7 = .ok (.ifCond .ne 6, 3) := by decide +kernel
theorem dX6_late_10 : decode cX6_late 10 = .ok (.bipush (-2), 2) := by decide +kernel
theorem dX6_late_12 : decode cX6_late 12 = .ok (.ireturn, 1) := by decide +kernel
theorem dX6_late_13 : decode cX6_late 13 = .ok (.aload_n 0, 1) := by decide +kernel
theorem dX6_late_14 : decode cX6_late 14 = .ok (.invokevirtual 213, 3) := by decide +kernel
theorem dX6_late_17 : decode cX6_late 17 = .ok (.istore_n 2, 1) := by decide +kernel
theorem dX6_late_18 : decode cX6_late 18 = .ok (.iload_n 2, 1) := by decide +kernel
theorem dX6_late_19 : decode cX6_late 19 = .ok (.bipush (-6), 2) := by decide +kernel
theorem dX6_late_21 : decode cX6_late 21 = .ok (.if_icmp .eq 7, 3) := by decide +kernel
theorem dX6_late_24 : decode cX6_late 24 = .ok (.iload_n 2, 1) := by decide +kernel
theorem dX6_late_25 : decode cX6_late 25 = .ok (.goto 18, 3) := by decide +kernel
theorem dX6_late_28 : decode cX6_late 28 = .ok (.iload_n 1, 1) := by decide +kernel
theorem dX6_late_29 : decode cX6_late 29 = .ok (.ifCond .ne 10, 3) := by decide +kernel
theorem dX6_late_32 : decode cX6_late 32 = .ok (.aload_n 0, 1) := by decide +kernel
theorem dX6_late_33 : decode cX6_late 33 = .ok (.getfield 157, 3) := by decide +kernel
theorem dX6_late_36 : decode cX6_late 36 = .ok (.goto 7, 3) := by decide +kernel
theorem dX6_late_39 : decode cX6_late 39 = .ok (.aload_n 0, 1) := by decide +kernel
theorem dX6_late_40 : decode cX6_late 40 = .ok (.getfield 160, 3) := by decide +kernel
theorem dX6_late_43 : decode cX6_late 43 = .ok (.ireturn, 1) := by decide +kernel
set_option maxRecDepth 20000 in
theorem ggX6_done_X6_refusal : GoodIn wsX6_done wsX6_refusal := goodIn_r _ [7, 8, 9, 10, 11, 12, 13, 6, 14, 2, 1, 15, 16, 17, 18, 19, 20, 21, 22, 23, 24, 25, 26, 27, 28, 29, 30, 31, 32, 33, 34, 35, 36, 37, 38, 39, 40, 41, 42, 43, 44, 45, 46, 47, 48, 49, 50, 51, 52, 53, 54, 55, 56, 57, 58, 59, 60, 61, 62, 63, 64, 65, 66, 67, 68, 69, 70, 71, 72, 73, 74, 75, 76, 77, 78, 79, 80, 81, 82, 83, 84, 85, 86, 87, 88, 89, 90, 91, 92, 93, 94, 95, 96, 97, 98, 99, 100, 101, 102, 103, 104, 105, 106, 107, 108, 109, 110, 111, 112, 113, 114, 115, 116, 117, 118, 119, 120, 121, 122, 123, 124, 125, 126, 127, 128, 129, 130, 131, 132, 133, 134, 135, 136, 137, 138, 139, 140, 141, 142, 143, 144, 145, 146, 147, 148, 149, 150, 151, 152, 153, 154, 155] (by decide +kernel) (by decide +kernel)
set_option maxRecDepth 20000 in
theorem gX6_done_X6_refusal : GoodIn wsX6_done (wsV RX6 213 RX6 yX6_refusal wsX6_refusal) := goodIn_app (goodIn_of _ (by decide +kernel)) ggX6_done_X6_refusal
set_option maxRecDepth 20000 in
theorem ggX6_done_X6_goDay : GoodIn wsX6_done wsX6_goDay := goodIn_r _ [60, 10, 61, 2, 26, 31, 20, 21, 62, 63, 64, 6, 65, 66, 67, 68, 69, 70, 71, 72, 53, 73, 74, 75, 76, 77, 78, 79, 80, 81, 82, 37, 38, 39, 83, 84, 85, 86, 55, 87, 88, 89, 90, 91, 92, 93, 52, 94, 95, 96, 97, 98, 99, 56, 100, 101, 102, 103, 104, 105, 106, 107, 108, 109, 110, 111, 112, 113, 54, 114, 115, 116, 117, 122, 123, 124, 125, 126, 127, 128, 129, 130, 131, 132, 133, 134, 135, 136, 137, 138, 139, 140, 141, 142, 143, 144, 145, 146, 147, 148, 149, 150, 151, 152, 153, 154, 155] (by decide +kernel) (by decide +kernel)
set_option maxRecDepth 20000 in
theorem gX6_done_X6_goDay : GoodIn wsX6_done (wsV RX6 205 RX6 yX6_goDay wsX6_goDay) := goodIn_app (goodIn_of _ (by decide +kernel)) ggX6_done_X6_goDay
theorem dX6_done_0 : decode cX6_done 0 = .ok (.aload_n 0, 1) := by decide +kernel
theorem dX6_done_1 : decode cX6_done 1 = .ok (.invokevirtual 213, 3) := by decide +kernel
theorem dX6_done_4 : decode cX6_done 4 = .ok (.istore_n 1, 1) := by decide +kernel
theorem dX6_done_5 : decode cX6_done 5 = .ok (.iload_n 1, 1) := by decide +kernel
theorem dX6_done_6 : decode cX6_done 6 = .ok (.bipush (-6), 2) := by decide +kernel
theorem dX6_done_8 : decode cX6_done 8 = .ok (.if_icmp .eq 5, 3) := by decide +kernel
theorem dX6_done_11 : decode cX6_done 11 = .ok (.iload_n 1, 1) := by decide +kernel
theorem dX6_done_12 : decode cX6_done 12 = .ok (.ireturn, 1) := by decide +kernel
theorem dX6_done_13 : decode cX6_done 13 = .ok (.aload_n 0, 1) := by decide +kernel
theorem dX6_done_14 : decode cX6_done 14 = .ok (.invokevirtual 205, 3) := by decide +kernel
theorem dX6_done_17 : decode cX6_done 17 = .ok (.aload_n 0, 1) := by decide +kernel
theorem dX6_done_18 : decode cX6_done 18 = .ok (.iconst 0, 1) := by decide +kernel
theorem dX6_done_19 : decode cX6_done 19 = .ok (.putfield 117, 3) := by decide +kernel
theorem dX6_done_22 : decode cX6_done 22 = .ok (.aload_n 0, 1) := by decide +kernel
theorem dX6_done_23 : decode cX6_done 23 = .ok (.getfield 124, 3) := by decide +kernel
theorem dX6_done_26 : decode cX6_done 26 = .ok (.ireturn, 1) := by decide +kernel
set_option maxRecDepth 20000 in
theorem ggX6_proper_X6_isProper : GoodIn wsX6_proper wsX6_isProper := goodIn_r _ [5, 6, 7, 8, 9, 10, 11, 4, 12, 13, 14, 15, 16, 17, 18, 19, 20, 21, 22, 23, 24, 25, 26, 27, 28, 29, 30, 31, 32, 33, 34, 35, 36, 37, 38, 39, 40, 41, 42, 43, 44, 45, 46, 47, 48, 49, 50, 51] (by decide +kernel) (by decide +kernel)
set_option maxRecDepth 20000 in
theorem gX6_proper_X6_isProper : GoodIn wsX6_proper (wsV RX6 167 RX6 yX6_isProper wsX6_isProper) := goodIn_app (goodIn_of _ (by decide +kernel)) ggX6_proper_X6_isProper
theorem dX6_proper_0 : decode cX6_proper 0 = .ok (.iconst 0, 1) := by decide +kernel
theorem dX6_proper_1 : decode cX6_proper 1 = .ok (.istore_n 1, 1) := by decide +kernel
theorem dX6_proper_2 : decode cX6_proper 2 = .ok (.iconst 0, 1) := by decide +kernel
theorem dX6_proper_3 : decode cX6_proper 3 = .ok (.istore_n 2, 1) := by decide +kernel
theorem dX6_proper_4 : decode cX6_proper 4 = .ok (.iload_n 2, 1) := by decide +kernel
theorem dX6_proper_5 : decode cX6_proper 5 = .ok (.bipush 6, 2) := by decide +kernel
theorem dX6_proper_7 : decode cX6_proper 7 = .ok (.if_icmp .ge 27, 3) := by decide +kernel
theorem dX6_proper_10 : decode cX6_proper 10 = .ok (.iload_n 1, 1) := by decide +kernel
theorem dX6_proper_11 : decode cX6_proper 11 = .ok (.aload_n 0, 1) := by decide +kernel
theorem dX6_proper_12 : decode cX6_proper 12 = .ok (.iload_n 2, 1) := by decide +kernel
theorem dX6_proper_13 : decode cX6_proper 13 = .ok (.invokevirtual 167, 3) := by decide +kernel
theorem dX6_proper_16 : decode cX6_proper 16 = .ok (.ifCond .eq 9, 3) := by decide +kernel
theorem dX6_proper_19 : decode cX6_proper 19 = .ok (.iconst 1, 1) := by decide +kernel
theorem dX6_proper_20 : decode cX6_proper 20 = .ok (.iload_n 2, 1) := by decide +kernel
theorem dX6_proper_21 : decode cX6_proper 21 = .ok (.ishl, 1) := by decide +kernel
theorem dX6_proper_22 : decode cX6_proper 22 = .ok (.goto 4, 3) := by decide +kernel
theorem dX6_proper_25 : decode cX6_proper 25 = .ok (.iconst 0, 1) := by decide +kernel
theorem dX6_proper_26 : decode cX6_proper 26 = .ok (.ior, 1) := by decide +kernel
theorem dX6_proper_27 : decode cX6_proper 27 = .ok (.istore_n 1, 1) := by decide +kernel
theorem dX6_proper_28 : decode cX6_proper 28 = .ok (.iinc 2 1, 3) := by decide +kernel
theorem dX6_proper_31 : decode cX6_proper 31 = .ok (.goto (-27), 3) := by decide +kernel
theorem dX6_proper_34 : decode cX6_proper 34 = .ok (.iload_n 1, 1) := by decide +kernel
theorem dX6_proper_35 : decode cX6_proper 35 = .ok (.ireturn, 1) := by decide +kernel
set_option maxRecDepth 20000 in
theorem ggX6_ownersOf_X6_owns : GoodIn wsX6_ownersOf wsX6_owns := goodIn_r _ [5, 6, 7, 8, 9, 4, 10, 11, 12, 13, 14, 15, 16, 17, 18, 19, 20, 21, 22, 23, 24, 25, 26, 27, 28, 29, 30, 31, 32, 33, 34, 35, 36, 37, 38, 39, 40, 41, 42, 43, 44, 45, 46, 47, 48, 49, 50, 51, 52] (by decide +kernel) (by decide +kernel)
set_option maxRecDepth 20000 in
theorem gX6_ownersOf_X6_owns : GoodIn wsX6_ownersOf (wsV RX6 98 RX6 yX6_owns wsX6_owns) := goodIn_app (goodIn_of _ (by decide +kernel)) ggX6_ownersOf_X6_owns
theorem dX6_ownersOf_0 : decode cX6_ownersOf 0 = .ok (.iconst 0, 1) := by decide +kernel
theorem dX6_ownersOf_1 : decode cX6_ownersOf 1 = .ok (.istore_n 2, 1) := by decide +kernel
theorem dX6_ownersOf_2 : decode cX6_ownersOf 2 = .ok (.iconst 0, 1) := by decide +kernel
theorem dX6_ownersOf_3 : decode cX6_ownersOf 3 = .ok (.istore_n 3, 1) := by decide +kernel
theorem dX6_ownersOf_4 : decode cX6_ownersOf 4 = .ok (.iload_n 3, 1) := by decide +kernel
theorem dX6_ownersOf_5 : decode cX6_ownersOf 5 = .ok (.bipush 6, 2) := by decide +kernel
theorem dX6_ownersOf_7 : decode cX6_ownersOf 7 = .ok (.if_icmp .ge 28, 3) := by decide +kernel
theorem dX6_ownersOf_10 : decode cX6_ownersOf 10 = .ok (.iload_n 2, 1) := by decide +kernel
theorem dX6_ownersOf_11 : decode cX6_ownersOf 11 = .ok (.aload_n 0, 1) := by decide +kernel
theorem dX6_ownersOf_12 : decode cX6_ownersOf 12 = .ok (.iload_n 3, 1) := by decide +kernel
theorem dX6_ownersOf_13 : decode cX6_ownersOf 13 = .ok (.iload_n 1, 1) := by decide +kernel
theorem dX6_ownersOf_14 : decode cX6_ownersOf 14 = .ok (.invokevirtual 98, 3) := by decide +kernel
theorem dX6_ownersOf_17 : decode cX6_ownersOf 17 = .ok (.ifCond .eq 9, 3) := by decide +kernel
theorem dX6_ownersOf_20 : decode cX6_ownersOf 20 = .ok (.iconst 1, 1) := by decide +kernel
theorem dX6_ownersOf_21 : decode cX6_ownersOf 21 = .ok (.iload_n 3, 1) := by decide +kernel
theorem dX6_ownersOf_22 : decode cX6_ownersOf 22 = .ok (.ishl, 1) := by decide +kernel
theorem dX6_ownersOf_23 : decode cX6_ownersOf 23 = .ok (.goto 4, 3) := by decide +kernel
theorem dX6_ownersOf_26 : decode cX6_ownersOf 26 = .ok (.iconst 0, 1) := by decide +kernel
theorem dX6_ownersOf_27 : decode cX6_ownersOf 27 = .ok (.ior, 1) := by decide +kernel
theorem dX6_ownersOf_28 : decode cX6_ownersOf 28 = .ok (.istore_n 2, 1) := by decide +kernel
theorem dX6_ownersOf_29 : decode cX6_ownersOf 29 = .ok (.iinc 3 1, 3) := by decide +kernel
theorem dX6_ownersOf_32 : decode cX6_ownersOf 32 = .ok (.goto (-28), 3) := by decide +kernel
theorem dX6_ownersOf_35 : decode cX6_ownersOf 35 = .ok (.iload_n 2, 1) := by decide +kernel
theorem dX6_ownersOf_36 : decode cX6_ownersOf 36 = .ok (.ireturn, 1) := by decide +kernel
set_option maxRecDepth 20000 in
theorem ggX6_can_X6_in : GoodIn wsX6_can wsX6_in := goodIn_r _ [6] (by decide +kernel) (by decide +kernel)
set_option maxRecDepth 20000 in
theorem gX6_can_X6_in : GoodIn wsX6_can (va_wsS RX6 81 yX6_in wsX6_in) := goodIn_app (goodIn_of _ (by decide +kernel)) ggX6_can_X6_in
set_option maxRecDepth 20000 in
theorem ggX6_can_X6_isHour : GoodIn wsX6_can wsX6_isHour := goodIn_r _ [9, 10, 3, 4, 5, 6] (by decide +kernel) (by decide +kernel)
set_option maxRecDepth 20000 in
theorem gX6_can_X6_isHour : GoodIn wsX6_can (va_wsS RX6 221 yX6_isHour wsX6_isHour) := goodIn_app (goodIn_of _ (by decide +kernel)) ggX6_can_X6_isHour
set_option maxRecDepth 20000 in
theorem ggX6_can_X6_ownersOf : GoodIn wsX6_can wsX6_ownersOf := goodIn_r _ [14, 15, 16, 17, 5, 18, 19, 20, 21, 22, 23, 24, 2, 3, 4, 6, 25, 26, 27, 31, 32, 33, 34, 35, 36, 37, 38, 39, 40, 41, 42, 43, 44, 45, 46, 47, 48, 49, 50, 51, 52, 53, 54, 55, 56, 57, 58, 59, 60, 61, 62, 63, 64] (by decide +kernel) (by decide +kernel)
set_option maxRecDepth 20000 in
theorem gX6_can_X6_ownersOf : GoodIn wsX6_can (wsV RX6 226 RX6 yX6_ownersOf wsX6_ownersOf) := goodIn_app (goodIn_of _ (by decide +kernel)) ggX6_can_X6_ownersOf
set_option maxRecDepth 20000 in
theorem ggX6_can_X6_ones : GoodIn wsX6_can wsX6_ones := goodIn_r _ [30] (by decide +kernel) (by decide +kernel)
set_option maxRecDepth 20000 in
theorem gX6_can_X6_ones : GoodIn wsX6_can (va_wsS RX6 104 yX6_ones wsX6_ones) := goodIn_app (goodIn_of _ (by decide +kernel)) ggX6_can_X6_ones
theorem dX6_can_0 : decode cX6_can 0 = .ok (.iload_n 2, 1) := by decide +kernel
theorem dX6_can_1 : decode cX6_can 1 = .ok (.i2l, 1) := by decide +kernel
theorem dX6_can_2 : decode cX6_can 2 = .ok (.lconst 0, 1) := by decide +kernel
theorem dX6_can_3 : decode cX6_can 3 = .ok (.ldc2_w 224, 3) := by decide +kernel
theorem dX6_can_6 : decode cX6_can 6 = .ok (.invokestatic 81, 3) := by decide +kernel
theorem dX6_can_9 : decode cX6_can 9 = .ok (.ifCond .eq 14, 3) := by decide +kernel
theorem dX6_can_12 : decode cX6_can 12 = .ok (.iload_n 2, 1) := by decide +kernel
theorem dX6_can_13 : decode cX6_can 13 = .ok (.aload_n 0, 1) := by decide +kernel
theorem dX6_can_14 : decode cX6_can 14 = .ok (.getfield 87, 3) := by decide +kernel
theorem dX6_can_17 : decode cX6_can 17 = .ok (.iconst (-1), 1) := by decide +kernel
theorem dX6_can_18 : decode cX6_can 18 = .ok (.ixor, 1) := by decide +kernel
theorem dX6_can_19 : decode cX6_can 19 = .ok (.iand, 1) := by decide +kernel
theorem dX6_can_20 : decode cX6_can 20 = .ok (.ifCond .eq 5, 3) := by decide +kernel
theorem dX6_can_23 : decode cX6_can 23 = .ok (.iconst (-1), 1) := by decide +kernel
theorem dX6_can_24 : decode cX6_can 24 = .ok (.ireturn, 1) := by decide +kernel
theorem dX6_can_25 : decode cX6_can 25 = .ok (.iload_n 1, 1) := by decide +kernel
theorem dX6_can_26 : decode cX6_can 26 = .ok (.invokestatic 221, 3) := by decide +kernel
theorem dX6_can_29 : decode cX6_can 29 = .ok (.ifCond .eq 13, 3) := by decide +kernel
theorem dX6_can_32 : decode cX6_can 32 = .ok (.iload_n 3, 1) := by decide +kernel
theorem dX6_can_33 : decode cX6_can 33 = .ok (.i2l, 1) := by decide +kernel
theorem dX6_can_34 : decode cX6_can 34 = .ok (.lconst 0, 1) := by decide +kernel
theorem dX6_can_35 : decode cX6_can 35 = .ok (.lconst 1, 1) := by decide +kernel
theorem dX6_can_36 : decode cX6_can 36 = .ok (.invokestatic 81, 3) := by decide +kernel
theorem dX6_can_39 : decode cX6_can 39 = .ok (.ifCond .ne 6, 3) := by decide +kernel
theorem dX6_can_42 : decode cX6_can 42 = .ok (.bipush (-2), 2) := by decide +kernel
theorem dX6_can_44 : decode cX6_can 44 = .ok (.ireturn, 1) := by decide +kernel
theorem dX6_can_45 : decode cX6_can 45 = .ok (.aload_n 0, 1) := by decide +kernel
theorem dX6_can_46 : decode cX6_can 46 = .ok (.iload_n 1, 1) := by decide +kernel
theorem dX6_can_47 : decode cX6_can 47 = .ok (.invokevirtual 226, 3) := by decide +kernel
theorem dX6_can_50 : decode cX6_can 50 = .ok (.istore 4, 2) := by decide +kernel
theorem dX6_can_52 : decode cX6_can 52 = .ok (.iload 4, 2) := by decide +kernel
theorem dX6_can_54 : decode cX6_can 54 = .ok (.invokestatic 104, 3) := by decide +kernel
theorem dX6_can_57 : decode cX6_can 57 = .ok (.iload_n 2, 1) := by decide +kernel
theorem dX6_can_58 : decode cX6_can 58 = .ok (.invokestatic 104, 3) := by decide +kernel
theorem dX6_can_61 : decode cX6_can 61 = .ok (.if_icmp .ge 11, 3) := by decide +kernel
theorem dX6_can_64 : decode cX6_can 64 = .ok (.iload 4, 2) := by decide +kernel
theorem dX6_can_66 : decode cX6_can 66 = .ok (.invokestatic 104, 3) := by decide +kernel
theorem dX6_can_69 : decode cX6_can 69 = .ok (.goto 7, 3) := by decide +kernel
theorem dX6_can_72 : decode cX6_can 72 = .ok (.iload_n 2, 1) := by decide +kernel
theorem dX6_can_73 : decode cX6_can 73 = .ok (.invokestatic 104, 3) := by decide +kernel
theorem dX6_can_76 : decode cX6_can 76 = .ok (.istore 5, 2) := by decide +kernel
theorem dX6_can_78 : decode cX6_can 78 = .ok (.iload_n 3, 1) := by decide +kernel
theorem dX6_can_79 : decode cX6_can 79 = .ok (.ifCond .ne 8, 3) := by decide +kernel
theorem dX6_can_82 : decode cX6_can 82 = .ok (.iload 5, 2) := by decide +kernel
theorem dX6_can_84 : decode cX6_can 84 = .ok (.goto 13, 3) := by decide +kernel
theorem dX6_can_87 : decode cX6_can 87 = .ok (.iload 5, 2) := by decide +kernel
theorem dX6_can_89 : decode cX6_can 89 = .ok (.iload 4, 2) := by decide +kernel
theorem dX6_can_91 : decode cX6_can 91 = .ok (.iload_n 2, 1) := by decide +kernel
theorem dX6_can_92 : decode cX6_can 92 = .ok (.iand, 1) := by decide +kernel
theorem dX6_can_93 : decode cX6_can 93 = .ok (.invokestatic 104, 3) := by decide +kernel
theorem dX6_can_96 : decode cX6_can 96 = .ok (.isub, 1) := by decide +kernel
theorem dX6_can_97 : decode cX6_can 97 = .ok (.ireturn, 1) := by decide +kernel
set_option maxRecDepth 20000 in
theorem ggX6_mostDeeds_X6_ownersOf : GoodIn wsX6_mostDeeds wsX6_ownersOf := goodIn_r _ [6, 7, 8, 9, 5, 10, 11, 12, 13, 14, 15, 16, 17, 18, 19, 20, 21, 22, 23, 24, 25, 26, 27, 28, 29, 30, 31, 32, 33, 34, 35, 36, 37, 38, 39, 40, 41, 42, 43, 44, 45, 46, 47, 48, 49, 50, 51, 52, 53, 54, 55, 56, 57] (by decide +kernel) (by decide +kernel)
set_option maxRecDepth 20000 in
theorem gX6_mostDeeds_X6_ownersOf : GoodIn wsX6_mostDeeds (wsV RX6 226 RX6 yX6_ownersOf wsX6_ownersOf) := goodIn_app (goodIn_of _ (by decide +kernel)) ggX6_mostDeeds_X6_ownersOf
theorem dX6_mostDeeds_0 : decode cX6_mostDeeds 0 = .ok (.bipush 24, 2) := by decide +kernel
theorem dX6_mostDeeds_2 : decode cX6_mostDeeds 2 = .ok (.istore_n 2, 1) := by decide +kernel
theorem dX6_mostDeeds_3 : decode cX6_mostDeeds 3 = .ok (.iconst 0, 1) := by decide +kernel
theorem dX6_mostDeeds_4 : decode cX6_mostDeeds 4 = .ok (.istore_n 3, 1) := by decide +kernel
theorem dX6_mostDeeds_5 : decode cX6_mostDeeds 5 = .ok (.iload_n 3, 1) := by decide +kernel
theorem dX6_mostDeeds_6 : decode cX6_mostDeeds 6 = .ok (.bipush 64, 2) := by decide +kernel
theorem dX6_mostDeeds_8 : decode cX6_mostDeeds 8 = .ok (.if_icmp .ge 128, 3) := by decide +kernel
theorem dX6_mostDeeds_11 : decode cX6_mostDeeds 11 = .ok (.iconst 0, 1) := by decide +kernel
theorem dX6_mostDeeds_12 : decode cX6_mostDeeds 12 = .ok (.istore 4, 2) := by decide +kernel
theorem dX6_mostDeeds_14 : decode cX6_mostDeeds 14 = .ok (.iconst 0, 1) := by decide +kernel
theorem dX6_mostDeeds_15 : decode cX6_mostDeeds 15 = .ok (.istore 5, 2) := by decide +kernel
theorem dX6_mostDeeds_17 : decode cX6_mostDeeds 17 = .ok (.iload 5, 2) := by decide +kernel
theorem dX6_mostDeeds_19 : decode cX6_mostDeeds 19 = .ok (.bipush 6, 2) := by decide +kernel
theorem dX6_mostDeeds_21 : decode cX6_mostDeeds 21 = .ok (.if_icmp .ge 35, 3) := by decide +kernel
theorem dX6_mostDeeds_24 : decode cX6_mostDeeds 24 = .ok (.iload 4, 2) := by decide +kernel
theorem dX6_mostDeeds_26 : decode cX6_mostDeeds 26 = .ok (.iload_n 3, 1) := by decide +kernel
