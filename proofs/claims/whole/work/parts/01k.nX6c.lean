theorem dX6_mostDeeds_27 : decode cX6_mostDeeds 27 = .ok (.iload 5, 2) := by decide +kernel
theorem dX6_mostDeeds_29 : decode cX6_mostDeeds 29 = .ok (.ishr, 1) := by decide +kernel
theorem dX6_mostDeeds_30 : decode cX6_mostDeeds 30 = .ok (.iconst 1, 1) := by decide +kernel
theorem dX6_mostDeeds_31 : decode cX6_mostDeeds 31 = .ok (.iand, 1) := by decide +kernel
theorem dX6_mostDeeds_32 : decode cX6_mostDeeds 32 = .ok (.iconst 1, 1) := by decide +kernel
theorem dX6_mostDeeds_33 : decode cX6_mostDeeds 33 = .ok (.if_icmp .ne 13, 3) := by decide +kernel
theorem dX6_mostDeeds_36 : decode cX6_mostDeeds 36 = .ok (.aload_n 0, 1) := by decide +kernel
theorem dX6_mostDeeds_37 : decode cX6_mostDeeds 37 = .ok (.getfield 58, 3) := by decide +kernel
theorem dX6_mostDeeds_40 : decode cX6_mostDeeds 40 = .ok (.iload 5, 2) := by decide +kernel
theorem dX6_mostDeeds_42 : decode cX6_mostDeeds 42 = .ok (.iaload, 1) := by decide +kernel
theorem dX6_mostDeeds_43 : decode cX6_mostDeeds 43 = .ok (.goto 4, 3) := by decide +kernel
theorem dX6_mostDeeds_46 : decode cX6_mostDeeds 46 = .ok (.iconst 0, 1) := by decide +kernel
theorem dX6_mostDeeds_47 : decode cX6_mostDeeds 47 = .ok (.iadd, 1) := by decide +kernel
theorem dX6_mostDeeds_48 : decode cX6_mostDeeds 48 = .ok (.istore 4, 2) := by decide +kernel
theorem dX6_mostDeeds_50 : decode cX6_mostDeeds 50 = .ok (.iinc 5 1, 3) := by decide +kernel
theorem dX6_mostDeeds_53 : decode cX6_mostDeeds 53 = .ok (.goto (-36), 3) := by decide +kernel
theorem dX6_mostDeeds_56 : decode cX6_mostDeeds 56 = .ok (.iconst 0, 1) := by decide +kernel
theorem dX6_mostDeeds_57 : decode cX6_mostDeeds 57 = .ok (.istore 5, 2) := by decide +kernel
theorem dX6_mostDeeds_59 : decode cX6_mostDeeds 59 = .ok (.iload 5, 2) := by decide +kernel
theorem dX6_mostDeeds_61 : decode cX6_mostDeeds 61 = .ok (.bipush 24, 2) := by decide +kernel
theorem dX6_mostDeeds_63 : decode cX6_mostDeeds 63 = .ok (.if_icmp .ge 54, 3) := by decide +kernel
theorem dX6_mostDeeds_66 : decode cX6_mostDeeds 66 = .ok (.iload_n 1, 1) := by decide +kernel
theorem dX6_mostDeeds_67 : decode cX6_mostDeeds 67 = .ok (.iload 5, 2) := by decide +kernel
theorem dX6_mostDeeds_69 : decode cX6_mostDeeds 69 = .ok (.ishr, 1) := by decide +kernel
theorem dX6_mostDeeds_70 : decode cX6_mostDeeds 70 = .ok (.iconst 1, 1) := by decide +kernel
theorem dX6_mostDeeds_71 : decode cX6_mostDeeds 71 = .ok (.iand, 1) := by decide +kernel
theorem dX6_mostDeeds_72 : decode cX6_mostDeeds 72 = .ok (.iconst 1, 1) := by decide +kernel
theorem dX6_mostDeeds_73 : decode cX6_mostDeeds 73 = .ok (.if_icmp .ne 20, 3) := by decide +kernel
theorem dX6_mostDeeds_76 : decode cX6_mostDeeds 76 = .ok (.aload_n 0, 1) := by decide +kernel
theorem dX6_mostDeeds_77 : decode cX6_mostDeeds 77 = .ok (.iload 5, 2) := by decide +kernel
theorem dX6_mostDeeds_79 : decode cX6_mostDeeds 79 = .ok (.invokevirtual 226, 3) := by decide +kernel
theorem dX6_mostDeeds_82 : decode cX6_mostDeeds 82 = .ok (.iload_n 3, 1) := by decide +kernel
theorem dX6_mostDeeds_83 : decode cX6_mostDeeds 83 = .ok (.iconst (-1), 1) := by decide +kernel
theorem dX6_mostDeeds_84 : decode cX6_mostDeeds 84 = .ok (.ixor, 1) := by decide +kernel
theorem dX6_mostDeeds_85 : decode cX6_mostDeeds 85 = .ok (.iand, 1) := by decide +kernel
theorem dX6_mostDeeds_86 : decode cX6_mostDeeds 86 = .ok (.ifCond .eq 7, 3) := by decide +kernel
theorem dX6_mostDeeds_89 : decode cX6_mostDeeds 89 = .ok (.iconst 1, 1) := by decide +kernel
theorem dX6_mostDeeds_90 : decode cX6_mostDeeds 90 = .ok (.goto 4, 3) := by decide +kernel
theorem dX6_mostDeeds_93 : decode cX6_mostDeeds 93 = .ok (.iconst 0, 1) := by decide +kernel
theorem dX6_mostDeeds_94 : decode cX6_mostDeeds 94 = .ok (.istore 6, 2) := by decide +kernel
theorem dX6_mostDeeds_96 : decode cX6_mostDeeds 96 = .ok (.iload 4, 2) := by decide +kernel
theorem dX6_mostDeeds_98 : decode cX6_mostDeeds 98 = .ok (.iload 6, 2) := by decide +kernel
theorem dX6_mostDeeds_100 : decode cX6_mostDeeds 100 = .ok (.ifCond .eq 7, 3) := by decide +kernel
theorem dX6_mostDeeds_103 : decode cX6_mostDeeds 103 = .ok (.iconst 1, 1) := by decide +kernel
theorem dX6_mostDeeds_104 : decode cX6_mostDeeds 104 = .ok (.goto 4, 3) := by decide +kernel
theorem dX6_mostDeeds_107 : decode cX6_mostDeeds 107 = .ok (.iconst 0, 1) := by decide +kernel
theorem dX6_mostDeeds_108 : decode cX6_mostDeeds 108 = .ok (.iadd, 1) := by decide +kernel
theorem dX6_mostDeeds_109 : decode cX6_mostDeeds 109 = .ok (.istore 4, 2) := by decide +kernel
theorem dX6_mostDeeds_111 : decode cX6_mostDeeds 111 = .ok (.iinc 5 1, 3) := by decide +kernel
theorem dX6_mostDeeds_114 : decode cX6_mostDeeds 114 = .ok (.goto (-55), 3) := by decide +kernel
theorem dX6_mostDeeds_117 : decode cX6_mostDeeds 117 = .ok (.iload 4, 2) := by decide +kernel
theorem dX6_mostDeeds_119 : decode cX6_mostDeeds 119 = .ok (.iload_n 2, 1) := by decide +kernel
theorem dX6_mostDeeds_120 : decode cX6_mostDeeds 120 = .ok (.if_icmp .ge 8, 3) := by decide +kernel
theorem dX6_mostDeeds_123 : decode cX6_mostDeeds 123 = .ok (.iload 4, 2) := by decide +kernel
theorem dX6_mostDeeds_125 : decode cX6_mostDeeds 125 = .ok (.goto 4, 3) := by decide +kernel
theorem dX6_mostDeeds_128 : decode cX6_mostDeeds 128 = .ok (.iload_n 2, 1) := by decide +kernel
theorem dX6_mostDeeds_129 : decode cX6_mostDeeds 129 = .ok (.istore_n 2, 1) := by decide +kernel
theorem dX6_mostDeeds_130 : decode cX6_mostDeeds 130 = .ok (.iinc 3 1, 3) := by decide +kernel
theorem dX6_mostDeeds_133 : decode cX6_mostDeeds 133 = .ok (.goto (-128), 3) := by decide +kernel
theorem dX6_mostDeeds_136 : decode cX6_mostDeeds 136 = .ok (.iload_n 2, 1) := by decide +kernel
theorem dX6_mostDeeds_137 : decode cX6_mostDeeds 137 = .ok (.ireturn, 1) := by decide +kernel
set_option maxRecDepth 20000 in
theorem ggX6_doer_X6_mostDeeds : GoodIn wsX6_doer wsX6_mostDeeds := goodIn_r _ [6, 1, 7, 8, 9, 5, 10, 11, 12, 13, 14, 15, 16, 17, 18, 19, 20, 21, 22, 23, 24, 25, 26, 27, 28, 29, 30, 31, 32, 33, 34, 35, 36, 37, 38, 39, 40, 41, 42, 43, 44, 45, 46, 47, 48, 49, 50, 51, 52, 53, 54, 55, 56, 57, 58, 59, 60, 61] (by decide +kernel) (by decide +kernel)
set_option maxRecDepth 20000 in
theorem gX6_doer_X6_mostDeeds : GoodIn wsX6_doer (wsV RX6 229 RX6 yX6_mostDeeds wsX6_mostDeeds) := goodIn_app (goodIn_of _ (by decide +kernel)) ggX6_doer_X6_mostDeeds
set_option maxRecDepth 20000 in
theorem ggX6_doer_X6_owns : GoodIn wsX6_doer wsX6_owns := goodIn_r _ [14, 15, 16, 17, 18, 5, 19, 20, 21, 22, 23, 24, 25, 26, 27, 28, 29, 30, 31, 32, 33, 34, 35, 36, 37, 38, 39, 40, 41, 42, 43, 44, 45, 46, 47, 48, 49, 50, 51, 52, 53, 54, 55, 56, 57, 58, 59, 60, 61] (by decide +kernel) (by decide +kernel)
set_option maxRecDepth 20000 in
theorem gX6_doer_X6_owns : GoodIn wsX6_doer (wsV RX6 98 RX6 yX6_owns wsX6_owns) := goodIn_app (goodIn_of _ (by decide +kernel)) ggX6_doer_X6_owns
theorem dX6_doer_0 : decode cX6_doer 0 = .ok (.aload_n 0, 1) := by decide +kernel
theorem dX6_doer_1 : decode cX6_doer 1 = .ok (.iload_n 2, 1) := by decide +kernel
theorem dX6_doer_2 : decode cX6_doer 2 = .ok (.iconst 1, 1) := by decide +kernel
theorem dX6_doer_3 : decode cX6_doer 3 = .ok (.iload_n 1, 1) := by decide +kernel
theorem dX6_doer_4 : decode cX6_doer 4 = .ok (.ishl, 1) := by decide +kernel
theorem dX6_doer_5 : decode cX6_doer 5 = .ok (.ior, 1) := by decide +kernel
theorem dX6_doer_6 : decode cX6_doer 6 = .ok (.invokevirtual 229, 3) := by decide +kernel
theorem dX6_doer_9 : decode cX6_doer 9 = .ok (.istore_n 3, 1) := by decide +kernel
theorem dX6_doer_10 : decode cX6_doer 10 = .ok (.iconst 0, 1) := by decide +kernel
theorem dX6_doer_11 : decode cX6_doer 11 = .ok (.istore 4, 2) := by decide +kernel
theorem dX6_doer_13 : decode cX6_doer 13 = .ok (.iload 4, 2) := by decide +kernel
theorem dX6_doer_15 : decode cX6_doer 15 = .ok (.bipush 6, 2) := by decide +kernel
theorem dX6_doer_17 : decode cX6_doer 17 = .ok (.if_icmp .ge 65, 3) := by decide +kernel
theorem dX6_doer_20 : decode cX6_doer 20 = .ok (.aload_n 0, 1) := by decide +kernel
theorem dX6_doer_21 : decode cX6_doer 21 = .ok (.iload 4, 2) := by decide +kernel
theorem dX6_doer_23 : decode cX6_doer 23 = .ok (.iload_n 1, 1) := by decide +kernel
theorem dX6_doer_24 : decode cX6_doer 24 = .ok (.invokevirtual 98, 3) := by decide +kernel
theorem dX6_doer_27 : decode cX6_doer 27 = .ok (.ifCond .eq 49, 3) := by decide +kernel
theorem dX6_doer_30 : decode cX6_doer 30 = .ok (.aload_n 0, 1) := by decide +kernel
theorem dX6_doer_31 : decode cX6_doer 31 = .ok (.getfield 58, 3) := by decide +kernel
theorem dX6_doer_34 : decode cX6_doer 34 = .ok (.iload 4, 2) := by decide +kernel
theorem dX6_doer_36 : decode cX6_doer 36 = .ok (.iaload, 1) := by decide +kernel
theorem dX6_doer_37 : decode cX6_doer 37 = .ok (.ifCond .le 39, 3) := by decide +kernel
theorem dX6_doer_40 : decode cX6_doer 40 = .ok (.aload_n 0, 1) := by decide +kernel
theorem dX6_doer_41 : decode cX6_doer 41 = .ok (.getfield 58, 3) := by decide +kernel
theorem dX6_doer_44 : decode cX6_doer 44 = .ok (.iload 4, 2) := by decide +kernel
theorem dX6_doer_46 : decode cX6_doer 46 = .ok (.dup2, 1) := by decide +kernel
theorem dX6_doer_47 : decode cX6_doer 47 = .ok (.iaload, 1) := by decide +kernel
theorem dX6_doer_48 : decode cX6_doer 48 = .ok (.iconst 1, 1) := by decide +kernel
theorem dX6_doer_49 : decode cX6_doer 49 = .ok (.isub, 1) := by decide +kernel
theorem dX6_doer_50 : decode cX6_doer 50 = .ok (.iastore, 1) := by decide +kernel
theorem dX6_doer_51 : decode cX6_doer 51 = .ok (.iconst 1, 1) := by decide +kernel
theorem dX6_doer_52 : decode cX6_doer 52 = .ok (.aload_n 0, 1) := by decide +kernel
theorem dX6_doer_53 : decode cX6_doer 53 = .ok (.iload_n 2, 1) := by decide +kernel
theorem dX6_doer_54 : decode cX6_doer 54 = .ok (.invokevirtual 229, 3) := by decide +kernel
theorem dX6_doer_57 : decode cX6_doer 57 = .ok (.iadd, 1) := by decide +kernel
theorem dX6_doer_58 : decode cX6_doer 58 = .ok (.iload_n 3, 1) := by decide +kernel
theorem dX6_doer_59 : decode cX6_doer 59 = .ok (.if_icmp .ne 6, 3) := by decide +kernel
theorem dX6_doer_62 : decode cX6_doer 62 = .ok (.iload 4, 2) := by decide +kernel
theorem dX6_doer_64 : decode cX6_doer 64 = .ok (.ireturn, 1) := by decide +kernel
theorem dX6_doer_65 : decode cX6_doer 65 = .ok (.aload_n 0, 1) := by decide +kernel
theorem dX6_doer_66 : decode cX6_doer 66 = .ok (.getfield 58, 3) := by decide +kernel
theorem dX6_doer_69 : decode cX6_doer 69 = .ok (.iload 4, 2) := by decide +kernel
theorem dX6_doer_71 : decode cX6_doer 71 = .ok (.dup2, 1) := by decide +kernel
theorem dX6_doer_72 : decode cX6_doer 72 = .ok (.iaload, 1) := by decide +kernel
theorem dX6_doer_73 : decode cX6_doer 73 = .ok (.iconst 1, 1) := by decide +kernel
theorem dX6_doer_74 : decode cX6_doer 74 = .ok (.iadd, 1) := by decide +kernel
theorem dX6_doer_75 : decode cX6_doer 75 = .ok (.iastore, 1) := by decide +kernel
theorem dX6_doer_76 : decode cX6_doer 76 = .ok (.iinc 4 1, 3) := by decide +kernel
theorem dX6_doer_79 : decode cX6_doer 79 = .ok (.goto (-66), 3) := by decide +kernel
theorem dX6_doer_82 : decode cX6_doer 82 = .ok (.bipush (-6), 2) := by decide +kernel
theorem dX6_doer_84 : decode cX6_doer 84 = .ok (.ireturn, 1) := by decide +kernel
set_option maxRecDepth 20000 in
theorem ggX6_match_X6_in : GoodIn wsX6_match wsX6_in := goodIn_r _ [7] (by decide +kernel) (by decide +kernel)
set_option maxRecDepth 20000 in
theorem gX6_match_X6_in : GoodIn wsX6_match (va_wsS RX6 81 yX6_in wsX6_in) := goodIn_app (goodIn_of _ (by decide +kernel)) ggX6_match_X6_in
set_option maxRecDepth 20000 in
theorem ggX6_match_X6_isHour : GoodIn wsX6_match wsX6_isHour := goodIn_r _ [10, 11, 4, 5, 6, 7] (by decide +kernel) (by decide +kernel)
set_option maxRecDepth 20000 in
theorem gX6_match_X6_isHour : GoodIn wsX6_match (va_wsS RX6 221 yX6_isHour wsX6_isHour) := goodIn_app (goodIn_of _ (by decide +kernel)) ggX6_match_X6_isHour
set_option maxRecDepth 20000 in
theorem ggX6_match_X6_mostDeeds : GoodIn wsX6_match wsX6_mostDeeds := goodIn_r _ [15, 3, 16, 17, 18, 6, 19, 20, 21, 22, 23, 24, 25, 26, 27, 28, 29, 30, 4, 5, 7, 31, 32, 33, 38, 39, 40, 41, 42, 43, 44, 45, 46, 47, 48, 49, 50, 51, 52, 53, 54, 55, 56, 57, 58, 59, 60, 61, 62, 63, 64, 65, 66, 67, 68, 69, 70, 71] (by decide +kernel) (by decide +kernel)
set_option maxRecDepth 20000 in
theorem gX6_match_X6_mostDeeds : GoodIn wsX6_match (wsV RX6 229 RX6 yX6_mostDeeds wsX6_mostDeeds) := goodIn_app (goodIn_of _ (by decide +kernel)) ggX6_match_X6_mostDeeds
set_option maxRecDepth 20000 in
theorem ggX6_match_X6_doer : GoodIn wsX6_match wsX6_doer := goodIn_r _ [37, 3, 12, 13, 14, 6, 15, 16, 17, 18, 19, 20, 21, 22, 23, 24, 25, 26, 27, 28, 29, 30, 4, 5, 7, 31, 32, 33, 38, 39, 40, 41, 42, 43, 44, 45, 46, 47, 48, 49, 50, 51, 52, 53, 54, 55, 56, 57, 58, 59, 60, 61, 62, 63, 64, 65, 66, 67, 68, 69, 70, 71] (by decide +kernel) (by decide +kernel)
set_option maxRecDepth 20000 in
theorem gX6_match_X6_doer : GoodIn wsX6_match (wsV RX6 234 RX6 yX6_doer wsX6_doer) := goodIn_app (goodIn_of _ (by decide +kernel)) ggX6_match_X6_doer
theorem dX6_match_0 : decode cX6_match 0 = .ok (.iload_n 1, 1) := by decide +kernel
theorem dX6_match_1 : decode cX6_match 1 = .ok (.i2l, 1) := by decide +kernel
theorem dX6_match_2 : decode cX6_match 2 = .ok (.lconst 0, 1) := by decide +kernel
theorem dX6_match_3 : decode cX6_match 3 = .ok (.ldc2_w 102, 3) := by decide +kernel
theorem dX6_match_6 : decode cX6_match 6 = .ok (.invokestatic 81, 3) := by decide +kernel
theorem dX6_match_9 : decode cX6_match 9 = .ok (.ifCond .eq 15, 3) := by decide +kernel
theorem dX6_match_12 : decode cX6_match 12 = .ok (.iload_n 2, 1) := by decide +kernel
theorem dX6_match_13 : decode cX6_match 13 = .ok (.i2l, 1) := by decide +kernel
theorem dX6_match_14 : decode cX6_match 14 = .ok (.lconst 1, 1) := by decide +kernel
theorem dX6_match_15 : decode cX6_match 15 = .ok (.ldc2_w 232, 3) := by decide +kernel
theorem dX6_match_18 : decode cX6_match 18 = .ok (.invokestatic 81, 3) := by decide +kernel
theorem dX6_match_21 : decode cX6_match 21 = .ok (.ifCond .ne 6, 3) := by decide +kernel
theorem dX6_match_24 : decode cX6_match 24 = .ok (.bipush (-2), 2) := by decide +kernel
theorem dX6_match_26 : decode cX6_match 26 = .ok (.ireturn, 1) := by decide +kernel
theorem dX6_match_27 : decode cX6_match 27 = .ok (.iload_n 3, 1) := by decide +kernel
theorem dX6_match_28 : decode cX6_match 28 = .ok (.iconst (-1), 1) := by decide +kernel
theorem dX6_match_29 : decode cX6_match 29 = .ok (.if_icmp .eq 20, 3) := by decide +kernel
theorem dX6_match_32 : decode cX6_match 32 = .ok (.iload_n 3, 1) := by decide +kernel
theorem dX6_match_33 : decode cX6_match 33 = .ok (.invokestatic 221, 3) := by decide +kernel
theorem dX6_match_36 : decode cX6_match 36 = .ok (.ifCond .eq 11, 3) := by decide +kernel
theorem dX6_match_39 : decode cX6_match 39 = .ok (.iload_n 1, 1) := by decide +kernel
theorem dX6_match_40 : decode cX6_match 40 = .ok (.iload_n 3, 1) := by decide +kernel
theorem dX6_match_41 : decode cX6_match 41 = .ok (.ishr, 1) := by decide +kernel
theorem dX6_match_42 : decode cX6_match 42 = .ok (.iconst 1, 1) := by decide +kernel
theorem dX6_match_43 : decode cX6_match 43 = .ok (.iand, 1) := by decide +kernel
theorem dX6_match_44 : decode cX6_match 44 = .ok (.ifCond .ne 5, 3) := by decide +kernel
theorem dX6_match_47 : decode cX6_match 47 = .ok (.iconst (-1), 1) := by decide +kernel
theorem dX6_match_48 : decode cX6_match 48 = .ok (.ireturn, 1) := by decide +kernel
theorem dX6_match_49 : decode cX6_match 49 = .ok (.iconst 0, 1) := by decide +kernel
theorem dX6_match_50 : decode cX6_match 50 = .ok (.istore 4, 2) := by decide +kernel
theorem dX6_match_52 : decode cX6_match 52 = .ok (.iload 4, 2) := by decide +kernel
theorem dX6_match_54 : decode cX6_match 54 = .ok (.bipush 6, 2) := by decide +kernel
theorem dX6_match_56 : decode cX6_match 56 = .ok (.if_icmp .ge 17, 3) := by decide +kernel
theorem dX6_match_59 : decode cX6_match 59 = .ok (.aload_n 0, 1) := by decide +kernel
theorem dX6_match_60 : decode cX6_match 60 = .ok (.getfield 58, 3) := by decide +kernel
theorem dX6_match_63 : decode cX6_match 63 = .ok (.iload 4, 2) := by decide +kernel
theorem dX6_match_65 : decode cX6_match 65 = .ok (.iload_n 2, 1) := by decide +kernel
theorem dX6_match_66 : decode cX6_match 66 = .ok (.iastore, 1) := by decide +kernel
theorem dX6_match_67 : decode cX6_match 67 = .ok (.iinc 4 1, 3) := by decide +kernel
theorem dX6_match_70 : decode cX6_match 70 = .ok (.goto (-18), 3) := by decide +kernel
theorem dX6_match_73 : decode cX6_match 73 = .ok (.iload_n 3, 1) := by decide +kernel
theorem dX6_match_74 : decode cX6_match 74 = .ok (.iconst (-1), 1) := by decide +kernel
theorem dX6_match_75 : decode cX6_match 75 = .ok (.if_icmp .ne 9, 3) := by decide +kernel
theorem dX6_match_78 : decode cX6_match 78 = .ok (.aload_n 0, 1) := by decide +kernel
theorem dX6_match_79 : decode cX6_match 79 = .ok (.iload_n 1, 1) := by decide +kernel
theorem dX6_match_80 : decode cX6_match 80 = .ok (.invokevirtual 229, 3) := by decide +kernel
theorem dX6_match_83 : decode cX6_match 83 = .ok (.ireturn, 1) := by decide +kernel
theorem dX6_match_84 : decode cX6_match 84 = .ok (.iload_n 1, 1) := by decide +kernel
theorem dX6_match_85 : decode cX6_match 85 = .ok (.istore 4, 2) := by decide +kernel
theorem dX6_match_87 : decode cX6_match 87 = .ok (.bipush (-6), 2) := by decide +kernel
theorem dX6_match_89 : decode cX6_match 89 = .ok (.istore 5, 2) := by decide +kernel
theorem dX6_match_91 : decode cX6_match 91 = .ok (.iconst 0, 1) := by decide +kernel
theorem dX6_match_92 : decode cX6_match 92 = .ok (.istore 6, 2) := by decide +kernel
theorem dX6_match_94 : decode cX6_match 94 = .ok (.iload 6, 2) := by decide +kernel
theorem dX6_match_96 : decode cX6_match 96 = .ok (.iload_n 3, 1) := by decide +kernel
theorem dX6_match_97 : decode cX6_match 97 = .ok (.if_icmp .gt 41, 3) := by decide +kernel
theorem dX6_match_100 : decode cX6_match 100 = .ok (.iload 4, 2) := by decide +kernel
theorem dX6_match_102 : decode cX6_match 102 = .ok (.iload 6, 2) := by decide +kernel
theorem dX6_match_104 : decode cX6_match 104 = .ok (.ishr, 1) := by decide +kernel
theorem dX6_match_105 : decode cX6_match 105 = .ok (.iconst 1, 1) := by decide +kernel
theorem dX6_match_106 : decode cX6_match 106 = .ok (.iand, 1) := by decide +kernel
theorem dX6_match_107 : decode cX6_match 107 = .ok (.iconst 1, 1) := by decide +kernel
theorem dX6_match_108 : decode cX6_match 108 = .ok (.if_icmp .ne 24, 3) := by decide +kernel
theorem dX6_match_111 : decode cX6_match 111 = .ok (.iload 4, 2) := by decide +kernel
theorem dX6_match_113 : decode cX6_match 113 = .ok (.iconst 1, 1) := by decide +kernel
theorem dX6_match_114 : decode cX6_match 114 = .ok (.iload 6, 2) := by decide +kernel
theorem dX6_match_116 : decode cX6_match 116 = .ok (.ishl, 1) := by decide +kernel
theorem dX6_match_117 : decode cX6_match 117 = .ok (.iconst (-1), 1) := by decide +kernel
theorem dX6_match_118 : decode cX6_match 118 = .ok (.ixor, 1) := by decide +kernel
theorem dX6_match_119 : decode cX6_match 119 = .ok (.iand, 1) := by decide +kernel
theorem dX6_match_120 : decode cX6_match 120 = .ok (.istore 4, 2) := by decide +kernel
theorem dX6_match_122 : decode cX6_match 122 = .ok (.aload_n 0, 1) := by decide +kernel
theorem dX6_match_123 : decode cX6_match 123 = .ok (.iload 6, 2) := by decide +kernel
theorem dX6_match_125 : decode cX6_match 125 = .ok (.iload 4, 2) := by decide +kernel
theorem dX6_match_127 : decode cX6_match 127 = .ok (.invokevirtual 234, 3) := by decide +kernel
theorem dX6_match_130 : decode cX6_match 130 = .ok (.istore 5, 2) := by decide +kernel
theorem dX6_match_132 : decode cX6_match 132 = .ok (.iinc 6 1, 3) := by decide +kernel
theorem dX6_match_135 : decode cX6_match 135 = .ok (.goto (-41), 3) := by decide +kernel
theorem dX6_match_138 : decode cX6_match 138 = .ok (.iload 5, 2) := by decide +kernel
theorem dX6_match_140 : decode cX6_match 140 = .ok (.ireturn, 1) := by decide +kernel
set_option maxRecDepth 20000 in
theorem ggX6_all_X6_in : GoodIn wsX6_all wsX6_in := goodIn_r _ [6] (by decide +kernel) (by decide +kernel)
set_option maxRecDepth 20000 in
theorem gX6_all_X6_in : GoodIn wsX6_all (va_wsS RX6 81 yX6_in wsX6_in) := goodIn_app (goodIn_of _ (by decide +kernel)) ggX6_all_X6_in
set_option maxRecDepth 20000 in
theorem ggX6_all_X6_pairsOf : GoodIn wsX6_all wsX6_pairsOf := goodIn_r _ [10, 11, 12, 13, 5, 14, 15, 16, 17, 18, 19, 20, 2, 3, 4, 6, 21, 22, 23, 27, 28, 29, 30, 31, 32, 33, 34, 35, 36, 37, 38, 39, 40, 41, 42, 43, 44, 45, 46, 47, 48, 49, 50, 51, 52, 53, 54, 55, 56, 57, 58, 59, 60] (by decide +kernel) (by decide +kernel)
set_option maxRecDepth 20000 in
theorem gX6_all_X6_pairsOf : GoodIn wsX6_all (wsV RX6 237 RX6 yX6_pairsOf wsX6_pairsOf) := goodIn_app (goodIn_of _ (by decide +kernel)) ggX6_all_X6_pairsOf
set_option maxRecDepth 20000 in
theorem ggX6_all_X6_ones : GoodIn wsX6_all wsX6_ones := goodIn_r _ [26] (by decide +kernel) (by decide +kernel)
set_option maxRecDepth 20000 in
theorem gX6_all_X6_ones : GoodIn wsX6_all (va_wsS RX6 104 yX6_ones wsX6_ones) := goodIn_app (goodIn_of _ (by decide +kernel)) ggX6_all_X6_ones
theorem dX6_all_0 : decode cX6_all 0 = .ok (.iload_n 1, 1) := by decide +kernel
theorem dX6_all_1 : decode cX6_all 1 = .ok (.i2l, 1) := by decide +kernel
theorem dX6_all_2 : decode cX6_all 2 = .ok (.lconst 0, 1) := by decide +kernel
theorem dX6_all_3 : decode cX6_all 3 = .ok (.ldc2_w 102, 3) := by decide +kernel
theorem dX6_all_6 : decode cX6_all 6 = .ok (.invokestatic 81, 3) := by decide +kernel
theorem dX6_all_9 : decode cX6_all 9 = .ok (.ifCond .eq 13, 3) := by decide +kernel
theorem dX6_all_12 : decode cX6_all 12 = .ok (.iload_n 2, 1) := by decide +kernel
theorem dX6_all_13 : decode cX6_all 13 = .ok (.i2l, 1) := by decide +kernel
theorem dX6_all_14 : decode cX6_all 14 = .ok (.lconst 0, 1) := by decide +kernel
theorem dX6_all_15 : decode cX6_all 15 = .ok (.lconst 1, 1) := by decide +kernel
theorem dX6_all_16 : decode cX6_all 16 = .ok (.invokestatic 81, 3) := by decide +kernel
theorem dX6_all_19 : decode cX6_all 19 = .ok (.ifCond .ne 6, 3) := by decide +kernel
theorem dX6_all_22 : decode cX6_all 22 = .ok (.bipush (-2), 2) := by decide +kernel
theorem dX6_all_24 : decode cX6_all 24 = .ok (.ireturn, 1) := by decide +kernel
theorem dX6_all_25 : decode cX6_all 25 = .ok (.bipush (-6), 2) := by decide +kernel
theorem dX6_all_27 : decode cX6_all 27 = .ok (.istore_n 3, 1) := by decide +kernel
theorem dX6_all_28 : decode cX6_all 28 = .ok (.iconst 0, 1) := by decide +kernel
theorem dX6_all_29 : decode cX6_all 29 = .ok (.istore 4, 2) := by decide +kernel
theorem dX6_all_31 : decode cX6_all 31 = .ok (.iload 4, 2) := by decide +kernel
theorem dX6_all_33 : decode cX6_all 33 = .ok (.bipush 64, 2) := by decide +kernel
theorem dX6_all_35 : decode cX6_all 35 = .ok (.if_icmp .ge 110, 3) := by decide +kernel
theorem dX6_all_38 : decode cX6_all 38 = .ok (.iconst 0, 1) := by decide +kernel
theorem dX6_all_39 : decode cX6_all 39 = .ok (.istore 5, 2) := by decide +kernel
theorem dX6_all_41 : decode cX6_all 41 = .ok (.iconst 0, 1) := by decide +kernel
theorem dX6_all_42 : decode cX6_all 42 = .ok (.istore 6, 2) := by decide +kernel
theorem dX6_all_44 : decode cX6_all 44 = .ok (.iload 6, 2) := by decide +kernel
theorem dX6_all_46 : decode cX6_all 46 = .ok (.bipush 6, 2) := by decide +kernel
theorem dX6_all_48 : decode cX6_all 48 = .ok (.if_icmp .ge 35, 3) := by decide +kernel
theorem dX6_all_51 : decode cX6_all 51 = .ok (.iload 5, 2) := by decide +kernel
theorem dX6_all_53 : decode cX6_all 53 = .ok (.iload 4, 2) := by decide +kernel
theorem dX6_all_55 : decode cX6_all 55 = .ok (.iload 6, 2) := by decide +kernel
theorem dX6_all_57 : decode cX6_all 57 = .ok (.ishr, 1) := by decide +kernel
theorem dX6_all_58 : decode cX6_all 58 = .ok (.iconst 1, 1) := by decide +kernel
theorem dX6_all_59 : decode cX6_all 59 = .ok (.iand, 1) := by decide +kernel
theorem dX6_all_60 : decode cX6_all 60 = .ok (.iconst 1, 1) := by decide +kernel
theorem dX6_all_61 : decode cX6_all 61 = .ok (.if_icmp .ne 12, 3) := by decide +kernel
theorem dX6_all_64 : decode cX6_all 64 = .ok (.aload_n 0, 1) := by decide +kernel
theorem dX6_all_65 : decode cX6_all 65 = .ok (.iload 6, 2) := by decide +kernel
theorem dX6_all_67 : decode cX6_all 67 = .ok (.invokevirtual 237, 3) := by decide +kernel
theorem dX6_all_70 : decode cX6_all 70 = .ok (.goto 4, 3) := by decide +kernel
theorem dX6_all_73 : decode cX6_all 73 = .ok (.iconst 0, 1) := by decide +kernel
theorem dX6_all_74 : decode cX6_all 74 = .ok (.ior, 1) := by decide +kernel
theorem dX6_all_75 : decode cX6_all 75 = .ok (.istore 5, 2) := by decide +kernel
theorem dX6_all_77 : decode cX6_all 77 = .ok (.iinc 6 1, 3) := by decide +kernel
theorem dX6_all_80 : decode cX6_all 80 = .ok (.goto (-36), 3) := by decide +kernel
theorem dX6_all_83 : decode cX6_all 83 = .ok (.iload 4, 2) := by decide +kernel
theorem dX6_all_85 : decode cX6_all 85 = .ok (.aload_n 0, 1) := by decide +kernel
theorem dX6_all_86 : decode cX6_all 86 = .ok (.getfield 87, 3) := by decide +kernel
theorem dX6_all_89 : decode cX6_all 89 = .ok (.iconst (-1), 1) := by decide +kernel
theorem dX6_all_90 : decode cX6_all 90 = .ok (.ixor, 1) := by decide +kernel
theorem dX6_all_91 : decode cX6_all 91 = .ok (.iand, 1) := by decide +kernel
theorem dX6_all_92 : decode cX6_all 92 = .ok (.ifCond .ne 16, 3) := by decide +kernel
theorem dX6_all_95 : decode cX6_all 95 = .ok (.iload_n 1, 1) := by decide +kernel
theorem dX6_all_96 : decode cX6_all 96 = .ok (.iload 5, 2) := by decide +kernel
theorem dX6_all_98 : decode cX6_all 98 = .ok (.iconst (-1), 1) := by decide +kernel
theorem dX6_all_99 : decode cX6_all 99 = .ok (.ixor, 1) := by decide +kernel
theorem dX6_all_100 : decode cX6_all 100 = .ok (.iand, 1) := by decide +kernel
theorem dX6_all_101 : decode cX6_all 101 = .ok (.ifCond .ne 7, 3) := by decide +kernel
theorem dX6_all_104 : decode cX6_all 104 = .ok (.iconst 1, 1) := by decide +kernel
theorem dX6_all_105 : decode cX6_all 105 = .ok (.goto 4, 3) := by decide +kernel
theorem dX6_all_108 : decode cX6_all 108 = .ok (.iconst 0, 1) := by decide +kernel
theorem dX6_all_109 : decode cX6_all 109 = .ok (.istore 6, 2) := by decide +kernel
theorem dX6_all_111 : decode cX6_all 111 = .ok (.iload 6, 2) := by decide +kernel
theorem dX6_all_113 : decode cX6_all 113 = .ok (.ifCond .eq 24, 3) := by decide +kernel
theorem dX6_all_116 : decode cX6_all 116 = .ok (.iload_n 3, 1) := by decide +kernel
theorem dX6_all_117 : decode cX6_all 117 = .ok (.ifCond .lt 15, 3) := by decide +kernel
theorem dX6_all_120 : decode cX6_all 120 = .ok (.iload 4, 2) := by decide +kernel
theorem dX6_all_122 : decode cX6_all 122 = .ok (.invokestatic 104, 3) := by decide +kernel
theorem dX6_all_125 : decode cX6_all 125 = .ok (.iload_n 3, 1) := by decide +kernel
theorem dX6_all_126 : decode cX6_all 126 = .ok (.invokestatic 104, 3) := by decide +kernel
theorem dX6_all_129 : decode cX6_all 129 = .ok (.if_icmp .ge 8, 3) := by decide +kernel
theorem dX6_all_132 : decode cX6_all 132 = .ok (.iload 4, 2) := by decide +kernel
theorem dX6_all_134 : decode cX6_all 134 = .ok (.goto 4, 3) := by decide +kernel
theorem dX6_all_137 : decode cX6_all 137 = .ok (.iload_n 3, 1) := by decide +kernel
theorem dX6_all_138 : decode cX6_all 138 = .ok (.istore_n 3, 1) := by decide +kernel
theorem dX6_all_139 : decode cX6_all 139 = .ok (.iinc 4 1, 3) := by decide +kernel
theorem dX6_all_142 : decode cX6_all 142 = .ok (.goto (-111), 3) := by decide +kernel
theorem dX6_all_145 : decode cX6_all 145 = .ok (.iload_n 3, 1) := by decide +kernel
theorem dX6_all_146 : decode cX6_all 146 = .ok (.ifCond .lt 8, 3) := by decide +kernel
theorem dX6_all_149 : decode cX6_all 149 = .ok (.iload_n 2, 1) := by decide +kernel
theorem dX6_all_150 : decode cX6_all 150 = .ok (.iconst 1, 1) := by decide +kernel
theorem dX6_all_151 : decode cX6_all 151 = .ok (.if_icmp .ne 7, 3) := by decide +kernel
theorem dX6_all_154 : decode cX6_all 154 = .ok (.iload_n 3, 1) := by decide +kernel
theorem dX6_all_155 : decode cX6_all 155 = .ok (.goto 7, 3) := by decide +kernel
theorem dX6_all_158 : decode cX6_all 158 = .ok (.iload_n 3, 1) := by decide +kernel
theorem dX6_all_159 : decode cX6_all 159 = .ok (.invokestatic 104, 3) := by decide +kernel
theorem dX6_all_162 : decode cX6_all 162 = .ok (.ireturn, 1) := by decide +kernel
theorem dX6_findLongest_0 : decode cX6_findLongest 0 = .ok (.iconst 0, 1) := by decide +kernel
theorem dX6_findLongest_1 : decode cX6_findLongest 1 = .ok (.istore_n 1, 1) := by decide +kernel
theorem dX6_findLongest_2 : decode cX6_findLongest 2 = .ok (.aload_n 0, 1) := by decide +kernel
theorem dX6_findLongest_3 : decode cX6_findLongest 3 = .ok (.getfield 154, 3) := by decide +kernel
theorem dX6_findLongest_6 : decode cX6_findLongest 6 = .ok (.iconst 1, 1) := by decide +kernel
theorem dX6_findLongest_7 : decode cX6_findLongest 7 = .ok (.isub, 1) := by decide +kernel
theorem dX6_findLongest_8 : decode cX6_findLongest 8 = .ok (.istore_n 2, 1) := by decide +kernel
theorem dX6_findLongest_9 : decode cX6_findLongest 9 = .ok (.iload_n 2, 1) := by decide +kernel
theorem dX6_findLongest_10 : decode cX6_findLongest 10 = .ok (.ifCond .lt 94, 3) := by decide +kernel
theorem dX6_findLongest_13 : decode cX6_findLongest 13 = .ok (.iconst 0, 1) := by decide +kernel
theorem dX6_findLongest_14 : decode cX6_findLongest 14 = .ok (.istore_n 3, 1) := by decide +kernel
theorem dX6_findLongest_15 : decode cX6_findLongest 15 = .ok (.iload_n 2, 1) := by decide +kernel
theorem dX6_findLongest_16 : decode cX6_findLongest 16 = .ok (.iconst 1, 1) := by decide +kernel
theorem dX6_findLongest_17 : decode cX6_findLongest 17 = .ok (.iadd, 1) := by decide +kernel
theorem dX6_findLongest_18 : decode cX6_findLongest 18 = .ok (.istore 4, 2) := by decide +kernel
theorem dX6_findLongest_20 : decode cX6_findLongest 20 = .ok (.iload 4, 2) := by decide +kernel
theorem dX6_findLongest_22 : decode cX6_findLongest 22 = .ok (.aload_n 0, 1) := by decide +kernel
theorem dX6_findLongest_23 : decode cX6_findLongest 23 = .ok (.getfield 154, 3) := by decide +kernel
theorem dX6_findLongest_26 : decode cX6_findLongest 26 = .ok (.if_icmp .ge 48, 3) := by decide +kernel
theorem dX6_findLongest_29 : decode cX6_findLongest 29 = .ok (.aload_n 0, 1) := by decide +kernel
theorem dX6_findLongest_30 : decode cX6_findLongest 30 = .ok (.getfield 43, 3) := by decide +kernel
theorem dX6_findLongest_33 : decode cX6_findLongest 33 = .ok (.iload 4, 2) := by decide +kernel
theorem dX6_findLongest_35 : decode cX6_findLongest 35 = .ok (.iaload, 1) := by decide +kernel
theorem dX6_findLongest_36 : decode cX6_findLongest 36 = .ok (.aload_n 0, 1) := by decide +kernel
theorem dX6_findLongest_37 : decode cX6_findLongest 37 = .ok (.getfield 43, 3) := by decide +kernel
theorem dX6_findLongest_40 : decode cX6_findLongest 40 = .ok (.iload_n 2, 1) := by decide +kernel
theorem dX6_findLongest_41 : decode cX6_findLongest 41 = .ok (.iaload, 1) := by decide +kernel
theorem dX6_findLongest_42 : decode cX6_findLongest 42 = .ok (.if_icmp .lt 24, 3) := by decide +kernel
theorem dX6_findLongest_45 : decode cX6_findLongest 45 = .ok (.aload_n 0, 1) := by decide +kernel
theorem dX6_findLongest_46 : decode cX6_findLongest 46 = .ok (.getfield 61, 3) := by decide +kernel
theorem dX6_findLongest_49 : decode cX6_findLongest 49 = .ok (.iload 4, 2) := by decide +kernel
theorem dX6_findLongest_51 : decode cX6_findLongest 51 = .ok (.iaload, 1) := by decide +kernel
theorem dX6_findLongest_52 : decode cX6_findLongest 52 = .ok (.iload_n 3, 1) := by decide +kernel
theorem dX6_findLongest_53 : decode cX6_findLongest 53 = .ok (.if_icmp .le 13, 3) := by decide +kernel
theorem dX6_findLongest_56 : decode cX6_findLongest 56 = .ok (.aload_n 0, 1) := by decide +kernel
theorem dX6_findLongest_57 : decode cX6_findLongest 57 = .ok (.getfield 61, 3) := by decide +kernel
theorem dX6_findLongest_60 : decode cX6_findLongest 60 = .ok (.iload 4, 2) := by decide +kernel
theorem dX6_findLongest_62 : decode cX6_findLongest 62 = .ok (.iaload, 1) := by decide +kernel
theorem dX6_findLongest_63 : decode cX6_findLongest 63 = .ok (.goto 4, 3) := by decide +kernel
theorem dX6_findLongest_66 : decode cX6_findLongest 66 = .ok (.iload_n 3, 1) := by decide +kernel
theorem dX6_findLongest_67 : decode cX6_findLongest 67 = .ok (.istore_n 3, 1) := by decide +kernel
theorem dX6_findLongest_68 : decode cX6_findLongest 68 = .ok (.iinc 4 1, 3) := by decide +kernel
theorem dX6_findLongest_71 : decode cX6_findLongest 71 = .ok (.goto (-51), 3) := by decide +kernel
theorem dX6_findLongest_74 : decode cX6_findLongest 74 = .ok (.aload_n 0, 1) := by decide +kernel
theorem dX6_findLongest_75 : decode cX6_findLongest 75 = .ok (.getfield 61, 3) := by decide +kernel
theorem dX6_findLongest_78 : decode cX6_findLongest 78 = .ok (.iload_n 2, 1) := by decide +kernel
theorem dX6_findLongest_79 : decode cX6_findLongest 79 = .ok (.iload_n 3, 1) := by decide +kernel
theorem dX6_findLongest_80 : decode cX6_findLongest 80 = .ok (.iconst 1, 1) := by decide +kernel
theorem dX6_findLongest_81 : decode cX6_findLongest 81 = .ok (.iadd, 1) := by decide +kernel
theorem dX6_findLongest_82 : decode cX6_findLongest 82 = .ok (.iastore, 1) := by decide +kernel
theorem dX6_findLongest_83 : decode cX6_findLongest 83 = .ok (.iload_n 3, 1) := by decide +kernel
theorem dX6_findLongest_84 : decode cX6_findLongest 84 = .ok (.iconst 1, 1) := by decide +kernel
theorem dX6_findLongest_85 : decode cX6_findLongest 85 = .ok (.iadd, 1) := by decide +kernel
theorem dX6_findLongest_86 : decode cX6_findLongest 86 = .ok (.iload_n 1, 1) := by decide +kernel
theorem dX6_findLongest_87 : decode cX6_findLongest 87 = .ok (.if_icmp .le 9, 3) := by decide +kernel
theorem dX6_findLongest_90 : decode cX6_findLongest 90 = .ok (.iload_n 3, 1) := by decide +kernel
theorem dX6_findLongest_91 : decode cX6_findLongest 91 = .ok (.iconst 1, 1) := by decide +kernel
theorem dX6_findLongest_92 : decode cX6_findLongest 92 = .ok (.iadd, 1) := by decide +kernel
theorem dX6_findLongest_93 : decode cX6_findLongest 93 = .ok (.goto 4, 3) := by decide +kernel
theorem dX6_findLongest_96 : decode cX6_findLongest 96 = .ok (.iload_n 1, 1) := by decide +kernel
theorem dX6_findLongest_97 : decode cX6_findLongest 97 = .ok (.istore_n 1, 1) := by decide +kernel
theorem dX6_findLongest_98 : decode cX6_findLongest 98 = .ok (.iinc 2 (-1), 3) := by decide +kernel
theorem dX6_findLongest_101 : decode cX6_findLongest 101 = .ok (.goto (-92), 3) := by decide +kernel
theorem dX6_findLongest_104 : decode cX6_findLongest 104 = .ok (.iload_n 1, 1) := by decide +kernel
theorem dX6_findLongest_105 : decode cX6_findLongest 105 = .ok (.ireturn, 1) := by decide +kernel
set_option maxRecDepth 20000 in
theorem ggX6_mended_X6_in : GoodIn wsX6_mended wsX6_in := goodIn_r _ [7] (by decide +kernel) (by decide +kernel)
set_option maxRecDepth 20000 in
theorem gX6_mended_X6_in : GoodIn wsX6_mended (va_wsS RX6 81 yX6_in wsX6_in) := goodIn_app (goodIn_of _ (by decide +kernel)) ggX6_mended_X6_in
set_option maxRecDepth 20000 in
theorem ggX6_mended_X6_refusal : GoodIn wsX6_mended wsX6_refusal := goodIn_r _ [11, 12, 13, 14, 15, 16, 17, 6, 18, 19, 20, 21, 22, 23, 24, 25, 26, 27, 28, 29, 30, 31, 32, 33, 34, 35, 36, 37, 38, 39, 40, 41, 42, 4, 5, 7, 43, 44, 45, 46, 47, 48, 49, 50, 51, 52, 53, 54, 55, 56, 57, 58, 59, 60, 61, 62, 63, 64, 65, 66, 67, 68, 1, 69, 70, 71, 72, 73, 74, 75, 76, 77, 78, 79, 80, 81, 82, 83, 84, 85, 86, 87, 88, 89, 90, 91, 92, 93, 94, 95, 96, 97, 98, 99, 3, 100, 101, 102, 103, 104, 105, 106, 107, 108, 109, 110, 111, 112, 113, 114, 115, 116, 117, 118, 119, 120, 121, 122, 127, 128, 129, 130, 131, 132, 133, 134, 135, 136, 137, 138, 139, 140, 141, 142, 143, 144, 145, 146, 147, 148, 149, 150, 151, 152, 153, 154, 155, 156, 157, 158, 159, 160] (by decide +kernel) (by decide +kernel)
set_option maxRecDepth 20000 in
theorem gX6_mended_X6_refusal : GoodIn wsX6_mended (wsV RX6 213 RX6 yX6_refusal wsX6_refusal) := goodIn_app (goodIn_of _ (by decide +kernel)) ggX6_mended_X6_refusal
set_option maxRecDepth 20000 in
theorem ggX6_mended_X6_findLongest : GoodIn wsX6_mended wsX6_findLongest := goodIn_r _ [126, 1, 3, 2, 127, 128, 129, 130, 131, 132, 133, 134, 135, 136, 137, 138, 139, 140, 141, 142, 143, 144, 145, 146, 147, 148, 149, 150, 151, 152, 153, 154, 155, 156, 157, 158, 159, 160] (by decide +kernel) (by decide +kernel)
set_option maxRecDepth 20000 in
theorem gX6_mended_X6_findLongest : GoodIn wsX6_mended (wsV RX6 240 RX6 yX6_findLongest wsX6_findLongest) := goodIn_app (goodIn_of _ (by decide +kernel)) ggX6_mended_X6_findLongest
theorem dX6_mended_0 : decode cX6_mended 0 = .ok (.iload_n 1, 1) := by decide +kernel
theorem dX6_mended_1 : decode cX6_mended 1 = .ok (.i2l, 1) := by decide +kernel
theorem dX6_mended_2 : decode cX6_mended 2 = .ok (.lconst 0, 1) := by decide +kernel
theorem dX6_mended_3 : decode cX6_mended 3 = .ok (.lconst 1, 1) := by decide +kernel
theorem dX6_mended_4 : decode cX6_mended 4 = .ok (.invokestatic 81, 3) := by decide +kernel
theorem dX6_mended_7 : decode cX6_mended 7 = .ok (.ifCond .ne 6, 3) := by decide +kernel
theorem dX6_mended_10 : decode cX6_mended 10 = .ok (.bipush (-2), 2) := by decide +kernel
theorem dX6_mended_12 : decode cX6_mended 12 = .ok (.ireturn, 1) := by decide +kernel
theorem dX6_mended_13 : decode cX6_mended 13 = .ok (.aload_n 0, 1) := by decide +kernel
theorem dX6_mended_14 : decode cX6_mended 14 = .ok (.invokevirtual 213, 3) := by decide +kernel
theorem dX6_mended_17 : decode cX6_mended 17 = .ok (.istore_n 2, 1) := by decide +kernel
theorem dX6_mended_18 : decode cX6_mended 18 = .ok (.iload_n 2, 1) := by decide +kernel
theorem dX6_mended_19 : decode cX6_mended 19 = .ok (.bipush (-6), 2) := by decide +kernel
theorem dX6_mended_21 : decode cX6_mended 21 = .ok (.if_icmp .eq 5, 3) := by decide +kernel
theorem dX6_mended_24 : decode cX6_mended 24 = .ok (.iload_n 2, 1) := by decide +kernel
theorem dX6_mended_25 : decode cX6_mended 25 = .ok (.ireturn, 1) := by decide +kernel
theorem dX6_mended_26 : decode cX6_mended 26 = .ok (.aload_n 0, 1) := by decide +kernel
theorem dX6_mended_27 : decode cX6_mended 27 = .ok (.invokevirtual 240, 3) := by decide +kernel
theorem dX6_mended_30 : decode cX6_mended 30 = .ok (.istore_n 3, 1) := by decide +kernel
theorem dX6_mended_31 : decode cX6_mended 31 = .ok (.iload_n 1, 1) := by decide +kernel
theorem dX6_mended_32 : decode cX6_mended 32 = .ok (.ifCond .ne 10, 3) := by decide +kernel
theorem dX6_mended_35 : decode cX6_mended 35 = .ok (.aload_n 0, 1) := by decide +kernel
theorem dX6_mended_36 : decode cX6_mended 36 = .ok (.getfield 154, 3) := by decide +kernel
theorem dX6_mended_39 : decode cX6_mended 39 = .ok (.iload_n 3, 1) := by decide +kernel
theorem dX6_mended_40 : decode cX6_mended 40 = .ok (.isub, 1) := by decide +kernel
theorem dX6_mended_41 : decode cX6_mended 41 = .ok (.ireturn, 1) := by decide +kernel
theorem dX6_mended_42 : decode cX6_mended 42 = .ok (.iconst 0, 1) := by decide +kernel
theorem dX6_mended_43 : decode cX6_mended 43 = .ok (.istore 4, 2) := by decide +kernel
theorem dX6_mended_45 : decode cX6_mended 45 = .ok (.iconst 0, 1) := by decide +kernel
theorem dX6_mended_46 : decode cX6_mended 46 = .ok (.istore 5, 2) := by decide +kernel
theorem dX6_mended_48 : decode cX6_mended 48 = .ok (.iload 5, 2) := by decide +kernel
theorem dX6_mended_50 : decode cX6_mended 50 = .ok (.aload_n 0, 1) := by decide +kernel
theorem dX6_mended_51 : decode cX6_mended 51 = .ok (.getfield 154, 3) := by decide +kernel
theorem dX6_mended_54 : decode cX6_mended 54 = .ok (.if_icmp .ge 59, 3) := by decide +kernel
theorem dX6_mended_57 : decode cX6_mended 57 = .ok (.aload_n 0, 1) := by decide +kernel
theorem dX6_mended_58 : decode cX6_mended 58 = .ok (.getfield 61, 3) := by decide +kernel
theorem dX6_mended_61 : decode cX6_mended 61 = .ok (.iload 5, 2) := by decide +kernel
theorem dX6_mended_63 : decode cX6_mended 63 = .ok (.iaload, 1) := by decide +kernel
theorem dX6_mended_64 : decode cX6_mended 64 = .ok (.iload_n 3, 1) := by decide +kernel
theorem dX6_mended_65 : decode cX6_mended 65 = .ok (.if_icmp .ne 19, 3) := by decide +kernel
theorem dX6_mended_68 : decode cX6_mended 68 = .ok (.aload_n 0, 1) := by decide +kernel
theorem dX6_mended_69 : decode cX6_mended 69 = .ok (.getfield 43, 3) := by decide +kernel
theorem dX6_mended_72 : decode cX6_mended 72 = .ok (.iload 5, 2) := by decide +kernel
theorem dX6_mended_74 : decode cX6_mended 74 = .ok (.iaload, 1) := by decide +kernel
theorem dX6_mended_75 : decode cX6_mended 75 = .ok (.iload 4, 2) := by decide +kernel
theorem dX6_mended_77 : decode cX6_mended 77 = .ok (.if_icmp .lt 7, 3) := by decide +kernel
theorem dX6_mended_80 : decode cX6_mended 80 = .ok (.iconst 1, 1) := by decide +kernel
theorem dX6_mended_81 : decode cX6_mended 81 = .ok (.goto 4, 3) := by decide +kernel
theorem dX6_mended_84 : decode cX6_mended 84 = .ok (.iconst 0, 1) := by decide +kernel
theorem dX6_mended_85 : decode cX6_mended 85 = .ok (.istore 6, 2) := by decide +kernel
theorem dX6_mended_87 : decode cX6_mended 87 = .ok (.iload 6, 2) := by decide +kernel
theorem dX6_mended_89 : decode cX6_mended 89 = .ok (.ifCond .ne 6, 3) := by decide +kernel
theorem dX6_mended_92 : decode cX6_mended 92 = .ok (.iload 5, 2) := by decide +kernel
theorem dX6_mended_94 : decode cX6_mended 94 = .ok (.ireturn, 1) := by decide +kernel
theorem dX6_mended_95 : decode cX6_mended 95 = .ok (.aload_n 0, 1) := by decide +kernel
theorem dX6_mended_96 : decode cX6_mended 96 = .ok (.getfield 43, 3) := by decide +kernel
theorem dX6_mended_99 : decode cX6_mended 99 = .ok (.iload 5, 2) := by decide +kernel
theorem dX6_mended_101 : decode cX6_mended 101 = .ok (.iaload, 1) := by decide +kernel
theorem dX6_mended_102 : decode cX6_mended 102 = .ok (.istore 4, 2) := by decide +kernel
theorem dX6_mended_104 : decode cX6_mended 104 = .ok (.iinc 3 (-1), 3) := by decide +kernel
theorem dX6_mended_107 : decode cX6_mended 107 = .ok (.iinc 5 1, 3) := by decide +kernel
theorem dX6_mended_110 : decode cX6_mended 110 = .ok (.goto (-62), 3) := by decide +kernel
theorem dX6_mended_113 : decode cX6_mended 113 = .ok (.bipush (-6), 2) := by decide +kernel
theorem dX6_mended_115 : decode cX6_mended 115 = .ok (.ireturn, 1) := by decide +kernel
set_option maxRecDepth 20000 in
theorem ggX6_isStrike_X6_in : GoodIn wsX6_isStrike wsX6_in := goodIn_r _ [5] (by decide +kernel) (by decide +kernel)
set_option maxRecDepth 20000 in
theorem gX6_isStrike_X6_in : GoodIn wsX6_isStrike (va_wsS RX6 81 yX6_in wsX6_in) := goodIn_app (goodIn_of _ (by decide +kernel)) ggX6_isStrike_X6_in
theorem dX6_isStrike_0 : decode cX6_isStrike 0 = .ok (.iload_n 0, 1) := by decide +kernel
theorem dX6_isStrike_1 : decode cX6_isStrike 1 = .ok (.i2l, 1) := by decide +kernel
theorem dX6_isStrike_2 : decode cX6_isStrike 2 = .ok (.lconst 1, 1) := by decide +kernel
theorem dX6_isStrike_3 : decode cX6_isStrike 3 = .ok (.ldc2_w 243, 3) := by decide +kernel
theorem dX6_isStrike_6 : decode cX6_isStrike 6 = .ok (.invokestatic 81, 3) := by decide +kernel
theorem dX6_isStrike_9 : decode cX6_isStrike 9 = .ok (.ifCond .eq 45, 3) := by decide +kernel
theorem dX6_isStrike_12 : decode cX6_isStrike 12 = .ok (.iload_n 2, 1) := by decide +kernel
theorem dX6_isStrike_13 : decode cX6_isStrike 13 = .ok (.i2l, 1) := by decide +kernel
theorem dX6_isStrike_14 : decode cX6_isStrike 14 = .ok (.lconst 1, 1) := by decide +kernel
theorem dX6_isStrike_15 : decode cX6_isStrike 15 = .ok (.ldc2_w 243, 3) := by decide +kernel
theorem dX6_isStrike_18 : decode cX6_isStrike 18 = .ok (.invokestatic 81, 3) := by decide +kernel
theorem dX6_isStrike_21 : decode cX6_isStrike 21 = .ok (.ifCond .eq 33, 3) := by decide +kernel
theorem dX6_isStrike_24 : decode cX6_isStrike 24 = .ok (.iload_n 1, 1) := by decide +kernel
theorem dX6_isStrike_25 : decode cX6_isStrike 25 = .ok (.i2l, 1) := by decide +kernel
theorem dX6_isStrike_26 : decode cX6_isStrike 26 = .ok (.lconst 0, 1) := by decide +kernel
theorem dX6_isStrike_27 : decode cX6_isStrike 27 = .ok (.iload_n 0, 1) := by decide +kernel
theorem dX6_isStrike_28 : decode cX6_isStrike 28 = .ok (.iconst 1, 1) := by decide +kernel
theorem dX6_isStrike_29 : decode cX6_isStrike 29 = .ok (.isub, 1) := by decide +kernel
theorem dX6_isStrike_30 : decode cX6_isStrike 30 = .ok (.i2l, 1) := by decide +kernel
theorem dX6_isStrike_31 : decode cX6_isStrike 31 = .ok (.invokestatic 81, 3) := by decide +kernel
theorem dX6_isStrike_34 : decode cX6_isStrike 34 = .ok (.ifCond .eq 20, 3) := by decide +kernel
theorem dX6_isStrike_37 : decode cX6_isStrike 37 = .ok (.iload_n 3, 1) := by decide +kernel
theorem dX6_isStrike_38 : decode cX6_isStrike 38 = .ok (.i2l, 1) := by decide +kernel
theorem dX6_isStrike_39 : decode cX6_isStrike 39 = .ok (.lconst 0, 1) := by decide +kernel
theorem dX6_isStrike_40 : decode cX6_isStrike 40 = .ok (.iload_n 2, 1) := by decide +kernel
theorem dX6_isStrike_41 : decode cX6_isStrike 41 = .ok (.iconst 1, 1) := by decide +kernel
theorem dX6_isStrike_42 : decode cX6_isStrike 42 = .ok (.isub, 1) := by decide +kernel
theorem dX6_isStrike_43 : decode cX6_isStrike 43 = .ok (.i2l, 1) := by decide +kernel
theorem dX6_isStrike_44 : decode cX6_isStrike 44 = .ok (.invokestatic 81, 3) := by decide +kernel
theorem dX6_isStrike_47 : decode cX6_isStrike 47 = .ok (.ifCond .eq 7, 3) := by decide +kernel
theorem dX6_isStrike_50 : decode cX6_isStrike 50 = .ok (.iconst 1, 1) := by decide +kernel
theorem dX6_isStrike_51 : decode cX6_isStrike 51 = .ok (.goto 4, 3) := by decide +kernel
theorem dX6_isStrike_54 : decode cX6_isStrike 54 = .ok (.iconst 0, 1) := by decide +kernel
theorem dX6_isStrike_55 : decode cX6_isStrike 55 = .ok (.ireturn, 1) := by decide +kernel
set_option maxRecDepth 20000 in
theorem ggX6_strikes_X6_isStrike : GoodIn wsX6_strikes wsX6_isStrike := goodIn_r _ [5, 6, 7, 8, 4, 9] (by decide +kernel) (by decide +kernel)
set_option maxRecDepth 20000 in
theorem gX6_strikes_X6_isStrike : GoodIn wsX6_strikes (va_wsS RX6 245 yX6_isStrike wsX6_isStrike) := goodIn_app (goodIn_of _ (by decide +kernel)) ggX6_strikes_X6_isStrike
theorem dX6_strikes_0 : decode cX6_strikes 0 = .ok (.iload_n 1, 1) := by decide +kernel
theorem dX6_strikes_1 : decode cX6_strikes 1 = .ok (.iload_n 2, 1) := by decide +kernel
theorem dX6_strikes_2 : decode cX6_strikes 2 = .ok (.iload_n 3, 1) := by decide +kernel
theorem dX6_strikes_3 : decode cX6_strikes 3 = .ok (.iload 4, 2) := by decide +kernel
theorem dX6_strikes_5 : decode cX6_strikes 5 = .ok (.invokestatic 245, 3) := by decide +kernel
theorem dX6_strikes_8 : decode cX6_strikes 8 = .ok (.ifCond .ne 6, 3) := by decide +kernel
theorem dX6_strikes_11 : decode cX6_strikes 11 = .ok (.bipush (-2), 2) := by decide +kernel
theorem dX6_strikes_13 : decode cX6_strikes 13 = .ok (.ireturn, 1) := by decide +kernel
theorem dX6_strikes_14 : decode cX6_strikes 14 = .ok (.iload_n 2, 1) := by decide +kernel
theorem dX6_strikes_15 : decode cX6_strikes 15 = .ok (.istore 5, 2) := by decide +kernel
theorem dX6_strikes_17 : decode cX6_strikes 17 = .ok (.iload 5, 2) := by decide +kernel
theorem dX6_strikes_19 : decode cX6_strikes 19 = .ok (.ldc 249, 2) := by decide +kernel
theorem dX6_strikes_21 : decode cX6_strikes 21 = .ok (.if_icmp .ge 24, 3) := by decide +kernel
theorem dX6_strikes_24 : decode cX6_strikes 24 = .ok (.iload 5, 2) := by decide +kernel
theorem dX6_strikes_26 : decode cX6_strikes 26 = .ok (.iload_n 3, 1) := by decide +kernel
theorem dX6_strikes_27 : decode cX6_strikes 27 = .ok (.irem, 1) := by decide +kernel
theorem dX6_strikes_28 : decode cX6_strikes 28 = .ok (.iload 4, 2) := by decide +kernel
theorem dX6_strikes_30 : decode cX6_strikes 30 = .ok (.if_icmp .ne 6, 3) := by decide +kernel
theorem dX6_strikes_33 : decode cX6_strikes 33 = .ok (.iload 5, 2) := by decide +kernel
theorem dX6_strikes_35 : decode cX6_strikes 35 = .ok (.ireturn, 1) := by decide +kernel
theorem dX6_strikes_36 : decode cX6_strikes 36 = .ok (.iload 5, 2) := by decide +kernel
theorem dX6_strikes_38 : decode cX6_strikes 38 = .ok (.iload_n 1, 1) := by decide +kernel
theorem dX6_strikes_39 : decode cX6_strikes 39 = .ok (.iadd, 1) := by decide +kernel
theorem dX6_strikes_40 : decode cX6_strikes 40 = .ok (.istore 5, 2) := by decide +kernel
theorem dX6_strikes_42 : decode cX6_strikes 42 = .ok (.goto (-25), 3) := by decide +kernel
theorem dX6_strikes_45 : decode cX6_strikes 45 = .ok (.bipush (-6), 2) := by decide +kernel
theorem dX6_strikes_47 : decode cX6_strikes 47 = .ok (.ireturn, 1) := by decide +kernel
set_option maxRecDepth 20000 in
theorem ggX6_often_X6_isStrike : GoodIn wsX6_often wsX6_isStrike := goodIn_r _ [5, 6, 7, 8, 4, 9] (by decide +kernel) (by decide +kernel)
set_option maxRecDepth 20000 in
theorem gX6_often_X6_isStrike : GoodIn wsX6_often (va_wsS RX6 245 yX6_isStrike wsX6_isStrike) := goodIn_app (goodIn_of _ (by decide +kernel)) ggX6_often_X6_isStrike
set_option maxRecDepth 20000 in
theorem ggX6_often_X6_in : GoodIn wsX6_often wsX6_in := goodIn_r _ [9] (by decide +kernel) (by decide +kernel)
set_option maxRecDepth 20000 in
theorem gX6_often_X6_in : GoodIn wsX6_often (va_wsS RX6 81 yX6_in wsX6_in) := goodIn_app (goodIn_of _ (by decide +kernel)) ggX6_often_X6_in
theorem dX6_often_0 : decode cX6_often 0 = .ok (.iload_n 1, 1) := by decide +kernel
theorem dX6_often_1 : decode cX6_often 1 = .ok (.iload_n 2, 1) := by decide +kernel
theorem dX6_often_2 : decode cX6_often 2 = .ok (.iload_n 3, 1) := by decide +kernel
theorem dX6_often_3 : decode cX6_often 3 = .ok (.iload 4, 2) := by decide +kernel
theorem dX6_often_5 : decode cX6_often 5 = .ok (.invokestatic 245, 3) := by decide +kernel
theorem dX6_often_8 : decode cX6_often 8 = .ok (.ifCond .eq 16, 3) := by decide +kernel
theorem dX6_often_11 : decode cX6_often 11 = .ok (.iload 5, 2) := by decide +kernel
theorem dX6_often_13 : decode cX6_often 13 = .ok (.i2l, 1) := by decide +kernel
theorem dX6_often_14 : decode cX6_often 14 = .ok (.lconst 0, 1) := by decide +kernel
theorem dX6_often_15 : decode cX6_often 15 = .ok (.ldc2_w 250, 3) := by decide +kernel
theorem dX6_often_18 : decode cX6_often 18 = .ok (.invokestatic 81, 3) := by decide +kernel
theorem dX6_often_21 : decode cX6_often 21 = .ok (.ifCond .ne 6, 3) := by decide +kernel
theorem dX6_often_24 : decode cX6_often 24 = .ok (.bipush (-2), 2) := by decide +kernel
theorem dX6_often_26 : decode cX6_often 26 = .ok (.ireturn, 1) := by decide +kernel
theorem dX6_often_27 : decode cX6_often 27 = .ok (.iconst 0, 1) := by decide +kernel
theorem dX6_often_28 : decode cX6_often 28 = .ok (.istore 6, 2) := by decide +kernel
theorem dX6_often_30 : decode cX6_often 30 = .ok (.iload_n 2, 1) := by decide +kernel
theorem dX6_often_31 : decode cX6_often 31 = .ok (.istore 7, 2) := by decide +kernel
theorem dX6_often_33 : decode cX6_often 33 = .ok (.iload 7, 2) := by decide +kernel
theorem dX6_often_35 : decode cX6_often 35 = .ok (.iload 5, 2) := by decide +kernel
theorem dX6_often_37 : decode cX6_often 37 = .ok (.if_icmp .gt 31, 3) := by decide +kernel
theorem dX6_often_40 : decode cX6_often 40 = .ok (.iload 6, 2) := by decide +kernel
theorem dX6_often_42 : decode cX6_often 42 = .ok (.iload 7, 2) := by decide +kernel
theorem dX6_often_44 : decode cX6_often 44 = .ok (.iload_n 3, 1) := by decide +kernel
theorem dX6_often_45 : decode cX6_often 45 = .ok (.irem, 1) := by decide +kernel
theorem dX6_often_46 : decode cX6_often 46 = .ok (.iload 4, 2) := by decide +kernel
theorem dX6_often_48 : decode cX6_often 48 = .ok (.if_icmp .ne 7, 3) := by decide +kernel
theorem dX6_often_51 : decode cX6_often 51 = .ok (.iconst 1, 1) := by decide +kernel
theorem dX6_often_52 : decode cX6_often 52 = .ok (.goto 4, 3) := by decide +kernel
theorem dX6_often_55 : decode cX6_often 55 = .ok (.iconst 0, 1) := by decide +kernel
theorem dX6_often_56 : decode cX6_often 56 = .ok (.iadd, 1) := by decide +kernel
theorem dX6_often_57 : decode cX6_often 57 = .ok (.istore 6, 2) := by decide +kernel
theorem dX6_often_59 : decode cX6_often 59 = .ok (.iload 7, 2) := by decide +kernel
theorem dX6_often_61 : decode cX6_often 61 = .ok (.iload_n 1, 1) := by decide +kernel
theorem dX6_often_62 : decode cX6_often 62 = .ok (.iadd, 1) := by decide +kernel
theorem dX6_often_63 : decode cX6_often 63 = .ok (.istore 7, 2) := by decide +kernel
theorem dX6_often_65 : decode cX6_often 65 = .ok (.goto (-32), 3) := by decide +kernel
theorem dX6_often_68 : decode cX6_often 68 = .ok (.iload 6, 2) := by decide +kernel
theorem dX6_often_70 : decode cX6_often 70 = .ok (.ireturn, 1) := by decide +kernel
set_option maxRecDepth 20000 in
theorem ggX6_seen_X6_isHour : GoodIn wsX6_seen wsX6_isHour := goodIn_r _ [7, 8, 9, 10, 6, 11] (by decide +kernel) (by decide +kernel)
set_option maxRecDepth 20000 in
theorem gX6_seen_X6_isHour : GoodIn wsX6_seen (va_wsS RX6 221 yX6_isHour wsX6_isHour) := goodIn_app (goodIn_of _ (by decide +kernel)) ggX6_seen_X6_isHour
theorem dX6_seen_0 : decode cX6_seen 0 = .ok (.iload_n 1, 1) := by decide +kernel
theorem dX6_seen_1 : decode cX6_seen 1 = .ok (.invokestatic 221, 3) := by decide +kernel
theorem dX6_seen_4 : decode cX6_seen 4 = .ok (.ifCond .ne 6, 3) := by decide +kernel
theorem dX6_seen_7 : decode cX6_seen 7 = .ok (.bipush (-2), 2) := by decide +kernel
theorem dX6_seen_9 : decode cX6_seen 9 = .ok (.ireturn, 1) := by decide +kernel
theorem dX6_seen_10 : decode cX6_seen 10 = .ok (.aload_n 0, 1) := by decide +kernel
theorem dX6_seen_11 : decode cX6_seen 11 = .ok (.getfield 252, 3) := by decide +kernel
theorem dX6_seen_14 : decode cX6_seen 14 = .ok (.bipush 8, 2) := by decide +kernel
theorem dX6_seen_16 : decode cX6_seen 16 = .ok (.if_icmp .ne 6, 3) := by decide +kernel
theorem dX6_seen_19 : decode cX6_seen 19 = .ok (.bipush (-4), 2) := by decide +kernel
theorem dX6_seen_21 : decode cX6_seen 21 = .ok (.ireturn, 1) := by decide +kernel
theorem dX6_seen_22 : decode cX6_seen 22 = .ok (.aload_n 0, 1) := by decide +kernel
theorem dX6_seen_23 : decode cX6_seen 23 = .ok (.getfield 22, 3) := by decide +kernel
theorem dX6_seen_26 : decode cX6_seen 26 = .ok (.aload_n 0, 1) := by decide +kernel
theorem dX6_seen_27 : decode cX6_seen 27 = .ok (.getfield 252, 3) := by decide +kernel
theorem dX6_seen_30 : decode cX6_seen 30 = .ok (.iload_n 1, 1) := by decide +kernel
theorem dX6_seen_31 : decode cX6_seen 31 = .ok (.iastore, 1) := by decide +kernel
theorem dX6_seen_32 : decode cX6_seen 32 = .ok (.aload_n 0, 1) := by decide +kernel
theorem dX6_seen_33 : decode cX6_seen 33 = .ok (.getfield 25, 3) := by decide +kernel
theorem dX6_seen_36 : decode cX6_seen 36 = .ok (.aload_n 0, 1) := by decide +kernel
theorem dX6_seen_37 : decode cX6_seen 37 = .ok (.getfield 252, 3) := by decide +kernel
theorem dX6_seen_40 : decode cX6_seen 40 = .ok (.iload_n 2, 1) := by decide +kernel
theorem dX6_seen_41 : decode cX6_seen 41 = .ok (.ifCond .eq 7, 3) := by decide +kernel
theorem dX6_seen_44 : decode cX6_seen 44 = .ok (.iconst 1, 1) := by decide +kernel
theorem dX6_seen_45 : decode cX6_seen 45 = .ok (.goto 4, 3) := by decide +kernel
theorem dX6_seen_48 : decode cX6_seen 48 = .ok (.iconst 0, 1) := by decide +kernel
theorem dX6_seen_49 : decode cX6_seen 49 = .ok (.iastore, 1) := by decide +kernel
theorem dX6_seen_50 : decode cX6_seen 50 = .ok (.aload_n 0, 1) := by decide +kernel
theorem dX6_seen_51 : decode cX6_seen 51 = .ok (.dup, 1) := by decide +kernel
theorem dX6_seen_52 : decode cX6_seen 52 = .ok (.getfield 252, 3) := by decide +kernel
theorem dX6_seen_55 : decode cX6_seen 55 = .ok (.iconst 1, 1) := by decide +kernel
theorem dX6_seen_56 : decode cX6_seen 56 = .ok (.iadd, 1) := by decide +kernel
theorem dX6_seen_57 : decode cX6_seen 57 = .ok (.putfield 252, 3) := by decide +kernel
theorem dX6_seen_60 : decode cX6_seen 60 = .ok (.aload_n 0, 1) := by decide +kernel
theorem dX6_seen_61 : decode cX6_seen 61 = .ok (.getfield 252, 3) := by decide +kernel
theorem dX6_seen_64 : decode cX6_seen 64 = .ok (.ireturn, 1) := by decide +kernel
theorem dX6_forget_0 : decode cX6_forget 0 = .ok (.aload_n 0, 1) := by decide +kernel
theorem dX6_forget_1 : decode cX6_forget 1 = .ok (.getfield 252, 3) := by decide +kernel
theorem dX6_forget_4 : decode cX6_forget 4 = .ok (.istore_n 1, 1) := by decide +kernel
theorem dX6_forget_5 : decode cX6_forget 5 = .ok (.aload_n 0, 1) := by decide +kernel
theorem dX6_forget_6 : decode cX6_forget 6 = .ok (.iconst 0, 1) := by decide +kernel
theorem dX6_forget_7 : decode cX6_forget 7 = .ok (.putfield 252, 3) := by decide +kernel
theorem dX6_forget_10 : decode cX6_forget 10 = .ok (.iload_n 1, 1) := by decide +kernel
theorem dX6_forget_11 : decode cX6_forget 11 = .ok (.ireturn, 1) := by decide +kernel
set_option maxRecDepth 20000 in
theorem ggX6_wore_X6_ownersOf : GoodIn wsX6_wore wsX6_ownersOf := goodIn_r _ [9, 10, 11, 12, 8, 13, 14, 15, 16, 17, 18, 19, 1, 20, 21, 22, 23, 24, 25, 26, 27, 28, 29, 30, 31, 32, 33, 34, 35, 36, 37, 38, 39, 40, 41, 42, 43, 44, 45, 46, 47, 48, 49, 50, 51, 52, 53, 54, 55, 56, 57, 58, 59] (by decide +kernel) (by decide +kernel)
set_option maxRecDepth 20000 in
theorem gX6_wore_X6_ownersOf : GoodIn wsX6_wore (wsV RX6 226 RX6 yX6_ownersOf wsX6_ownersOf) := goodIn_app (goodIn_of _ (by decide +kernel)) ggX6_wore_X6_ownersOf
theorem dX6_wore_0 : decode cX6_wore 0 = .ok (.aload_n 0, 1) := by decide +kernel
theorem dX6_wore_1 : decode cX6_wore 1 = .ok (.getfield 87, 3) := by decide +kernel
theorem dX6_wore_4 : decode cX6_wore 4 = .ok (.istore_n 1, 1) := by decide +kernel
theorem dX6_wore_5 : decode cX6_wore 5 = .ok (.iconst 0, 1) := by decide +kernel
theorem dX6_wore_6 : decode cX6_wore 6 = .ok (.istore_n 2, 1) := by decide +kernel
theorem dX6_wore_7 : decode cX6_wore 7 = .ok (.iload_n 2, 1) := by decide +kernel
theorem dX6_wore_8 : decode cX6_wore 8 = .ok (.aload_n 0, 1) := by decide +kernel
theorem dX6_wore_9 : decode cX6_wore 9 = .ok (.getfield 252, 3) := by decide +kernel
theorem dX6_wore_12 : decode cX6_wore 12 = .ok (.if_icmp .ge 40, 3) := by decide +kernel
theorem dX6_wore_15 : decode cX6_wore 15 = .ok (.aload_n 0, 1) := by decide +kernel
theorem dX6_wore_16 : decode cX6_wore 16 = .ok (.aload_n 0, 1) := by decide +kernel
theorem dX6_wore_17 : decode cX6_wore 17 = .ok (.getfield 22, 3) := by decide +kernel
theorem dX6_wore_20 : decode cX6_wore 20 = .ok (.iload_n 2, 1) := by decide +kernel
theorem dX6_wore_21 : decode cX6_wore 21 = .ok (.iaload, 1) := by decide +kernel
theorem dX6_wore_22 : decode cX6_wore 22 = .ok (.invokevirtual 226, 3) := by decide +kernel
theorem dX6_wore_25 : decode cX6_wore 25 = .ok (.istore_n 3, 1) := by decide +kernel
theorem dX6_wore_26 : decode cX6_wore 26 = .ok (.iload_n 1, 1) := by decide +kernel
theorem dX6_wore_27 : decode cX6_wore 27 = .ok (.aload_n 0, 1) := by decide +kernel
theorem dX6_wore_28 : decode cX6_wore 28 = .ok (.getfield 25, 3) := by decide +kernel
theorem dX6_wore_31 : decode cX6_wore 31 = .ok (.iload_n 2, 1) := by decide +kernel
theorem dX6_wore_32 : decode cX6_wore 32 = .ok (.iaload, 1) := by decide +kernel
theorem dX6_wore_33 : decode cX6_wore 33 = .ok (.iconst 1, 1) := by decide +kernel
theorem dX6_wore_34 : decode cX6_wore 34 = .ok (.if_icmp .ne 7, 3) := by decide +kernel
theorem dX6_wore_37 : decode cX6_wore 37 = .ok (.iload_n 3, 1) := by decide +kernel
theorem dX6_wore_38 : decode cX6_wore 38 = .ok (.goto 6, 3) := by decide +kernel
theorem dX6_wore_41 : decode cX6_wore 41 = .ok (.iload_n 3, 1) := by decide +kernel
theorem dX6_wore_42 : decode cX6_wore 42 = .ok (.iconst (-1), 1) := by decide +kernel
theorem dX6_wore_43 : decode cX6_wore 43 = .ok (.ixor, 1) := by decide +kernel
theorem dX6_wore_44 : decode cX6_wore 44 = .ok (.iand, 1) := by decide +kernel
theorem dX6_wore_45 : decode cX6_wore 45 = .ok (.istore_n 1, 1) := by decide +kernel
theorem dX6_wore_46 : decode cX6_wore 46 = .ok (.iinc 2 1, 3) := by decide +kernel
theorem dX6_wore_49 : decode cX6_wore 49 = .ok (.goto (-42), 3) := by decide +kernel
theorem dX6_wore_52 : decode cX6_wore 52 = .ok (.iload_n 1, 1) := by decide +kernel
theorem dX6_wore_53 : decode cX6_wore 53 = .ok (.ireturn, 1) := by decide +kernel
set_option maxRecDepth 20000 in
theorem ggX6_ask_X6_in : GoodIn wsX6_ask wsX6_in := goodIn_r _ [4] (by decide +kernel) (by decide +kernel)
set_option maxRecDepth 20000 in
theorem gX6_ask_X6_in : GoodIn wsX6_ask (va_wsS RX6 81 yX6_in wsX6_in) := goodIn_app (goodIn_of _ (by decide +kernel)) ggX6_ask_X6_in
set_option maxRecDepth 20000 in
theorem ggX6_ask_X6_wore : GoodIn wsX6_ask wsX6_wore := goodIn_r _ [8, 9, 10, 11, 12, 13, 14, 15, 3, 16, 17, 18, 19, 20, 21, 22, 23, 24, 25, 26, 1, 2, 4, 27, 28, 29, 33, 34, 35, 36, 37, 38, 39, 40, 41, 42, 43, 44, 45, 46, 47, 48, 49, 50, 51, 52, 53, 54, 55, 56, 57, 58, 59, 60, 61, 62, 63, 64, 65, 66] (by decide +kernel) (by decide +kernel)
set_option maxRecDepth 20000 in
theorem gX6_ask_X6_wore : GoodIn wsX6_ask (wsV RX6 255 RX6 yX6_wore wsX6_wore) := goodIn_app (goodIn_of _ (by decide +kernel)) ggX6_ask_X6_wore
set_option maxRecDepth 20000 in
theorem ggX6_ask_X6_ownersOf : GoodIn wsX6_ask wsX6_ownersOf := goodIn_r _ [16, 17, 18, 19, 3, 20, 21, 22, 23, 24, 25, 26, 9, 1, 2, 4, 27, 28, 29, 33, 34, 35, 36, 37, 38, 39, 40, 41, 42, 43, 44, 45, 46, 47, 48, 49, 50, 51, 52, 53, 54, 55, 56, 57, 58, 59, 60, 61, 62, 63, 64, 65, 66] (by decide +kernel) (by decide +kernel)
set_option maxRecDepth 20000 in
theorem gX6_ask_X6_ownersOf : GoodIn wsX6_ask (wsV RX6 226 RX6 yX6_ownersOf wsX6_ownersOf) := goodIn_app (goodIn_of _ (by decide +kernel)) ggX6_ask_X6_ownersOf
set_option maxRecDepth 20000 in
theorem ggX6_ask_X6_ones : GoodIn wsX6_ask wsX6_ones := goodIn_r _ [32] (by decide +kernel) (by decide +kernel)
set_option maxRecDepth 20000 in
theorem gX6_ask_X6_ones : GoodIn wsX6_ask (va_wsS RX6 104 yX6_ones wsX6_ones) := goodIn_app (goodIn_of _ (by decide +kernel)) ggX6_ask_X6_ones
theorem dX6_ask_0 : decode cX6_ask 0 = .ok (.iload_n 1, 1) := by decide +kernel
theorem dX6_ask_1 : decode cX6_ask 1 = .ok (.i2l, 1) := by decide +kernel
theorem dX6_ask_2 : decode cX6_ask 2 = .ok (.lconst 0, 1) := by decide +kernel
theorem dX6_ask_3 : decode cX6_ask 3 = .ok (.lconst 1, 1) := by decide +kernel
theorem dX6_ask_4 : decode cX6_ask 4 = .ok (.invokestatic 81, 3) := by decide +kernel
theorem dX6_ask_7 : decode cX6_ask 7 = .ok (.ifCond .ne 6, 3) := by decide +kernel
theorem dX6_ask_10 : decode cX6_ask 10 = .ok (.bipush (-2), 2) := by decide +kernel
theorem dX6_ask_12 : decode cX6_ask 12 = .ok (.ireturn, 1) := by decide +kernel
theorem dX6_ask_13 : decode cX6_ask 13 = .ok (.aload_n 0, 1) := by decide +kernel
theorem dX6_ask_14 : decode cX6_ask 14 = .ok (.invokevirtual 255, 3) := by decide +kernel
theorem dX6_ask_17 : decode cX6_ask 17 = .ok (.istore_n 2, 1) := by decide +kernel
theorem dX6_ask_18 : decode cX6_ask 18 = .ok (.bipush (-6), 2) := by decide +kernel
theorem dX6_ask_20 : decode cX6_ask 20 = .ok (.istore_n 3, 1) := by decide +kernel
theorem dX6_ask_21 : decode cX6_ask 21 = .ok (.iconst 0, 1) := by decide +kernel
theorem dX6_ask_22 : decode cX6_ask 22 = .ok (.istore 4, 2) := by decide +kernel
theorem dX6_ask_24 : decode cX6_ask 24 = .ok (.iconst 0, 1) := by decide +kernel
theorem dX6_ask_25 : decode cX6_ask 25 = .ok (.istore 5, 2) := by decide +kernel
theorem dX6_ask_27 : decode cX6_ask 27 = .ok (.iload 5, 2) := by decide +kernel
theorem dX6_ask_29 : decode cX6_ask 29 = .ok (.bipush 24, 2) := by decide +kernel
theorem dX6_ask_31 : decode cX6_ask 31 = .ok (.if_icmp .ge 69, 3) := by decide +kernel
theorem dX6_ask_34 : decode cX6_ask 34 = .ok (.iload_n 2, 1) := by decide +kernel
theorem dX6_ask_35 : decode cX6_ask 35 = .ok (.ifCond .eq 65, 3) := by decide +kernel
theorem dX6_ask_38 : decode cX6_ask 38 = .ok (.iload_n 2, 1) := by decide +kernel
theorem dX6_ask_39 : decode cX6_ask 39 = .ok (.aload_n 0, 1) := by decide +kernel
theorem dX6_ask_40 : decode cX6_ask 40 = .ok (.iload 5, 2) := by decide +kernel
theorem dX6_ask_42 : decode cX6_ask 42 = .ok (.invokevirtual 226, 3) := by decide +kernel
theorem dX6_ask_45 : decode cX6_ask 45 = .ok (.iand, 1) := by decide +kernel
theorem dX6_ask_46 : decode cX6_ask 46 = .ok (.invokestatic 104, 3) := by decide +kernel
theorem dX6_ask_49 : decode cX6_ask 49 = .ok (.istore 6, 2) := by decide +kernel
theorem dX6_ask_51 : decode cX6_ask 51 = .ok (.iload_n 2, 1) := by decide +kernel
theorem dX6_ask_52 : decode cX6_ask 52 = .ok (.invokestatic 104, 3) := by decide +kernel
theorem dX6_ask_55 : decode cX6_ask 55 = .ok (.iload 6, 2) := by decide +kernel
theorem dX6_ask_57 : decode cX6_ask 57 = .ok (.isub, 1) := by decide +kernel
theorem dX6_ask_58 : decode cX6_ask 58 = .ok (.istore 7, 2) := by decide +kernel
theorem dX6_ask_60 : decode cX6_ask 60 = .ok (.iload 6, 2) := by decide +kernel
theorem dX6_ask_62 : decode cX6_ask 62 = .ok (.iload 7, 2) := by decide +kernel
theorem dX6_ask_64 : decode cX6_ask 64 = .ok (.if_icmp .le 8, 3) := by decide +kernel
theorem dX6_ask_67 : decode cX6_ask 67 = .ok (.iload 6, 2) := by decide +kernel
theorem dX6_ask_69 : decode cX6_ask 69 = .ok (.goto 5, 3) := by decide +kernel
theorem dX6_ask_72 : decode cX6_ask 72 = .ok (.iload 7, 2) := by decide +kernel
theorem dX6_ask_74 : decode cX6_ask 74 = .ok (.istore 8, 2) := by decide +kernel
theorem dX6_ask_76 : decode cX6_ask 76 = .ok (.iload_n 3, 1) := by decide +kernel
theorem dX6_ask_77 : decode cX6_ask 77 = .ok (.ifCond .lt 10, 3) := by decide +kernel
theorem dX6_ask_80 : decode cX6_ask 80 = .ok (.iload 8, 2) := by decide +kernel
theorem dX6_ask_82 : decode cX6_ask 82 = .ok (.iload 4, 2) := by decide +kernel
theorem dX6_ask_84 : decode cX6_ask 84 = .ok (.if_icmp .ge 10, 3) := by decide +kernel
theorem dX6_ask_87 : decode cX6_ask 87 = .ok (.iload 5, 2) := by decide +kernel
theorem dX6_ask_89 : decode cX6_ask 89 = .ok (.istore_n 3, 1) := by decide +kernel
theorem dX6_ask_90 : decode cX6_ask 90 = .ok (.iload 8, 2) := by decide +kernel
theorem dX6_ask_92 : decode cX6_ask 92 = .ok (.istore 4, 2) := by decide +kernel
theorem dX6_ask_94 : decode cX6_ask 94 = .ok (.iinc 5 1, 3) := by decide +kernel
theorem dX6_ask_97 : decode cX6_ask 97 = .ok (.goto (-70), 3) := by decide +kernel
theorem dX6_ask_100 : decode cX6_ask 100 = .ok (.iload_n 3, 1) := by decide +kernel
theorem dX6_ask_101 : decode cX6_ask 101 = .ok (.ifCond .lt 7, 3) := by decide +kernel
theorem dX6_ask_104 : decode cX6_ask 104 = .ok (.iload_n 1, 1) := by decide +kernel
theorem dX6_ask_105 : decode cX6_ask 105 = .ok (.ifCond .ne 7, 3) := by decide +kernel
theorem dX6_ask_108 : decode cX6_ask 108 = .ok (.iload_n 3, 1) := by decide +kernel
theorem dX6_ask_109 : decode cX6_ask 109 = .ok (.goto 5, 3) := by decide +kernel
theorem dX6_ask_112 : decode cX6_ask 112 = .ok (.iload 4, 2) := by decide +kernel
theorem dX6_ask_114 : decode cX6_ask 114 = .ok (.ireturn, 1) := by decide +kernel
theorem dX6_lowest_0 : decode cX6_lowest 0 = .ok (.lload_n 2, 1) := by decide +kernel
theorem dX6_lowest_1 : decode cX6_lowest 1 = .ok (.lstore 5, 2) := by decide +kernel
theorem dX6_lowest_3 : decode cX6_lowest 3 = .ok (.lload_n 0, 1) := by decide +kernel
theorem dX6_lowest_4 : decode cX6_lowest 4 = .ok (.lstore 7, 2) := by decide +kernel
theorem dX6_lowest_6 : decode cX6_lowest 6 = .ok (.lload 7, 2) := by decide +kernel
theorem dX6_lowest_8 : decode cX6_lowest 8 = .ok (.lconst 0, 1) := by decide +kernel
theorem dX6_lowest_9 : decode cX6_lowest 9 = .ok (.lcmp, 1) := by decide +kernel
theorem dX6_lowest_10 : decode cX6_lowest 10 = .ok (.ifCond .eq 21, 3) := by decide +kernel
theorem dX6_lowest_13 : decode cX6_lowest 13 = .ok (.lload 5, 2) := by decide +kernel
theorem dX6_lowest_15 : decode cX6_lowest 15 = .ok (.lload 7, 2) := by decide +kernel
theorem dX6_lowest_17 : decode cX6_lowest 17 = .ok (.lrem, 1) := by decide +kernel
theorem dX6_lowest_18 : decode cX6_lowest 18 = .ok (.lstore 9, 2) := by decide +kernel
theorem dX6_lowest_20 : decode cX6_lowest 20 = .ok (.lload 7, 2) := by decide +kernel
theorem dX6_lowest_22 : decode cX6_lowest 22 = .ok (.lstore 5, 2) := by decide +kernel
theorem dX6_lowest_24 : decode cX6_lowest 24 = .ok (.lload 9, 2) := by decide +kernel
theorem dX6_lowest_26 : decode cX6_lowest 26 = .ok (.lstore 7, 2) := by decide +kernel
theorem dX6_lowest_28 : decode cX6_lowest 28 = .ok (.goto (-22), 3) := by decide +kernel
theorem dX6_lowest_31 : decode cX6_lowest 31 = .ok (.iload 4, 2) := by decide +kernel
theorem dX6_lowest_33 : decode cX6_lowest 33 = .ok (.ifCond .ne 10, 3) := by decide +kernel
theorem dX6_lowest_36 : decode cX6_lowest 36 = .ok (.lload_n 0, 1) := by decide +kernel
theorem dX6_lowest_37 : decode cX6_lowest 37 = .ok (.lload 5, 2) := by decide +kernel
theorem dX6_lowest_39 : decode cX6_lowest 39 = .ok (.ldiv, 1) := by decide +kernel
theorem dX6_lowest_40 : decode cX6_lowest 40 = .ok (.goto 7, 3) := by decide +kernel
theorem dX6_lowest_43 : decode cX6_lowest 43 = .ok (.lload_n 2, 1) := by decide +kernel
theorem dX6_lowest_44 : decode cX6_lowest 44 = .ok (.lload 5, 2) := by decide +kernel
theorem dX6_lowest_46 : decode cX6_lowest 46 = .ok (.ldiv, 1) := by decide +kernel
theorem dX6_lowest_47 : decode cX6_lowest 47 = .ok (.lreturn, 1) := by decide +kernel
set_option maxRecDepth 20000 in
theorem ggX6_tear_X6_in : GoodIn wsX6_tear wsX6_in := goodIn_r _ [9] (by decide +kernel) (by decide +kernel)
set_option maxRecDepth 20000 in
theorem gX6_tear_X6_in : GoodIn wsX6_tear (va_wsS RX6 81 yX6_in wsX6_in) := goodIn_app (goodIn_of _ (by decide +kernel)) ggX6_tear_X6_in
set_option maxRecDepth 20000 in
theorem ggX6_tear_X6_lowest : GoodIn wsX6_tear wsX6_lowest := goodIn_r _ [12] (by decide +kernel) (by decide +kernel)
set_option maxRecDepth 20000 in
theorem gX6_tear_X6_lowest : GoodIn wsX6_tear (va_wsS RX6 266 yX6_lowest wsX6_lowest) := goodIn_app (goodIn_of _ (by decide +kernel)) ggX6_tear_X6_lowest
theorem dX6_tear_0 : decode cX6_tear 0 = .ok (.iload_n 1, 1) := by decide +kernel
theorem dX6_tear_1 : decode cX6_tear 1 = .ok (.i2l, 1) := by decide +kernel
theorem dX6_tear_2 : decode cX6_tear 2 = .ok (.lconst 0, 1) := by decide +kernel
theorem dX6_tear_3 : decode cX6_tear 3 = .ok (.ldc2_w 258, 3) := by decide +kernel
theorem dX6_tear_6 : decode cX6_tear 6 = .ok (.invokestatic 81, 3) := by decide +kernel
theorem dX6_tear_9 : decode cX6_tear 9 = .ok (.ifCond .eq 49, 3) := by decide +kernel
theorem dX6_tear_12 : decode cX6_tear 12 = .ok (.iload_n 2, 1) := by decide +kernel
theorem dX6_tear_13 : decode cX6_tear 13 = .ok (.i2l, 1) := by decide +kernel
theorem dX6_tear_14 : decode cX6_tear 14 = .ok (.lconst 0, 1) := by decide +kernel
theorem dX6_tear_15 : decode cX6_tear 15 = .ok (.ldc2_w 260, 3) := by decide +kernel
theorem dX6_tear_18 : decode cX6_tear 18 = .ok (.invokestatic 81, 3) := by decide +kernel
theorem dX6_tear_21 : decode cX6_tear 21 = .ok (.ifCond .eq 37, 3) := by decide +kernel
theorem dX6_tear_24 : decode cX6_tear 24 = .ok (.iload_n 3, 1) := by decide +kernel
theorem dX6_tear_25 : decode cX6_tear 25 = .ok (.i2l, 1) := by decide +kernel
theorem dX6_tear_26 : decode cX6_tear 26 = .ok (.lconst 0, 1) := by decide +kernel
theorem dX6_tear_27 : decode cX6_tear 27 = .ok (.ldc2_w 262, 3) := by decide +kernel
theorem dX6_tear_30 : decode cX6_tear 30 = .ok (.invokestatic 81, 3) := by decide +kernel
theorem dX6_tear_33 : decode cX6_tear 33 = .ok (.ifCond .eq 25, 3) := by decide +kernel
theorem dX6_tear_36 : decode cX6_tear 36 = .ok (.iload 4, 2) := by decide +kernel
theorem dX6_tear_38 : decode cX6_tear 38 = .ok (.i2l, 1) := by decide +kernel
theorem dX6_tear_39 : decode cX6_tear 39 = .ok (.lconst 0, 1) := by decide +kernel
theorem dX6_tear_40 : decode cX6_tear 40 = .ok (.lconst 1, 1) := by decide +kernel
theorem dX6_tear_41 : decode cX6_tear 41 = .ok (.invokestatic 81, 3) := by decide +kernel
theorem dX6_tear_44 : decode cX6_tear 44 = .ok (.ifCond .eq 14, 3) := by decide +kernel
theorem dX6_tear_47 : decode cX6_tear 47 = .ok (.iload 5, 2) := by decide +kernel
theorem dX6_tear_49 : decode cX6_tear 49 = .ok (.i2l, 1) := by decide +kernel
theorem dX6_tear_50 : decode cX6_tear 50 = .ok (.lconst 0, 1) := by decide +kernel
theorem dX6_tear_51 : decode cX6_tear 51 = .ok (.lconst 1, 1) := by decide +kernel
theorem dX6_tear_52 : decode cX6_tear 52 = .ok (.invokestatic 81, 3) := by decide +kernel
theorem dX6_tear_55 : decode cX6_tear 55 = .ok (.ifCond .ne 7, 3) := by decide +kernel
theorem dX6_tear_58 : decode cX6_tear 58 = .ok (.ldc2_w 264, 3) := by decide +kernel
theorem dX6_tear_61 : decode cX6_tear 61 = .ok (.lreturn, 1) := by decide +kernel
theorem dX6_tear_62 : decode cX6_tear 62 = .ok (.iconst 0, 1) := by decide +kernel
theorem dX6_tear_63 : decode cX6_tear 63 = .ok (.istore 6, 2) := by decide +kernel
theorem dX6_tear_65 : decode cX6_tear 65 = .ok (.iload 6, 2) := by decide +kernel
theorem dX6_tear_67 : decode cX6_tear 67 = .ok (.bipush 10, 2) := by decide +kernel
theorem dX6_tear_69 : decode cX6_tear 69 = .ok (.if_icmp .ge 27, 3) := by decide +kernel
theorem dX6_tear_72 : decode cX6_tear 72 = .ok (.aload_n 0, 1) := by decide +kernel
theorem dX6_tear_73 : decode cX6_tear 73 = .ok (.getfield 64, 3) := by decide +kernel
theorem dX6_tear_76 : decode cX6_tear 76 = .ok (.iload 6, 2) := by decide +kernel
theorem dX6_tear_78 : decode cX6_tear 78 = .ok (.iload 6, 2) := by decide +kernel
theorem dX6_tear_80 : decode cX6_tear 80 = .ok (.iload_n 1, 1) := by decide +kernel
theorem dX6_tear_81 : decode cX6_tear 81 = .ok (.if_icmp .ne 7, 3) := by decide +kernel
theorem dX6_tear_84 : decode cX6_tear 84 = .ok (.lconst 1, 1) := by decide +kernel
theorem dX6_tear_85 : decode cX6_tear 85 = .ok (.goto 4, 3) := by decide +kernel
theorem dX6_tear_88 : decode cX6_tear 88 = .ok (.lconst 0, 1) := by decide +kernel
theorem dX6_tear_89 : decode cX6_tear 89 = .ok (.lastore, 1) := by decide +kernel
theorem dX6_tear_90 : decode cX6_tear 90 = .ok (.iinc 6 1, 3) := by decide +kernel
theorem dX6_tear_93 : decode cX6_tear 93 = .ok (.goto (-28), 3) := by decide +kernel
theorem dX6_tear_96 : decode cX6_tear 96 = .ok (.lconst 1, 1) := by decide +kernel
theorem dX6_tear_97 : decode cX6_tear 97 = .ok (.lstore 6, 2) := by decide +kernel
theorem dX6_tear_99 : decode cX6_tear 99 = .ok (.lconst 0, 1) := by decide +kernel
theorem dX6_tear_100 : decode cX6_tear 100 = .ok (.lstore 8, 2) := by decide +kernel
theorem dX6_tear_102 : decode cX6_tear 102 = .ok (.iconst 0, 1) := by decide +kernel
theorem dX6_tear_103 : decode cX6_tear 103 = .ok (.istore 10, 2) := by decide +kernel
theorem dX6_tear_105 : decode cX6_tear 105 = .ok (.iload 10, 2) := by decide +kernel
theorem dX6_tear_107 : decode cX6_tear 107 = .ok (.iload_n 2, 1) := by decide +kernel
theorem dX6_tear_108 : decode cX6_tear 108 = .ok (.if_icmp .ge 122, 3) := by decide +kernel
theorem dX6_tear_111 : decode cX6_tear 111 = .ok (.ldc2_w 262, 3) := by decide +kernel
theorem dX6_tear_114 : decode cX6_tear 114 = .ok (.lload 8, 2) := by decide +kernel
theorem dX6_tear_116 : decode cX6_tear 116 = .ok (.lload 6, 2) := by decide +kernel
theorem dX6_tear_118 : decode cX6_tear 118 = .ok (.ladd, 1) := by decide +kernel
theorem dX6_tear_119 : decode cX6_tear 119 = .ok (.aload_n 0, 1) := by decide +kernel
theorem dX6_tear_120 : decode cX6_tear 120 = .ok (.getfield 64, 3) := by decide +kernel
theorem dX6_tear_123 : decode cX6_tear 123 = .ok (.iconst 0, 1) := by decide +kernel
theorem dX6_tear_124 : decode cX6_tear 124 = .ok (.laload, 1) := by decide +kernel
theorem dX6_tear_125 : decode cX6_tear 125 = .ok (.lsub, 1) := by decide +kernel
theorem dX6_tear_126 : decode cX6_tear 126 = .ok (.lmul, 1) := by decide +kernel
theorem dX6_tear_127 : decode cX6_tear 127 = .ok (.lstore 8, 2) := by decide +kernel
theorem dX6_tear_129 : decode cX6_tear 129 = .ok (.aload_n 0, 1) := by decide +kernel
theorem dX6_tear_130 : decode cX6_tear 130 = .ok (.getfield 64, 3) := by decide +kernel
theorem dX6_tear_133 : decode cX6_tear 133 = .ok (.iconst 0, 1) := by decide +kernel
theorem dX6_tear_134 : decode cX6_tear 134 = .ok (.ldc2_w 262, 3) := by decide +kernel
theorem dX6_tear_137 : decode cX6_tear 137 = .ok (.aload_n 0, 1) := by decide +kernel
theorem dX6_tear_138 : decode cX6_tear 138 = .ok (.getfield 64, 3) := by decide +kernel
theorem dX6_tear_141 : decode cX6_tear 141 = .ok (.iconst 0, 1) := by decide +kernel
theorem dX6_tear_142 : decode cX6_tear 142 = .ok (.laload, 1) := by decide +kernel
theorem dX6_tear_143 : decode cX6_tear 143 = .ok (.lmul, 1) := by decide +kernel
theorem dX6_tear_144 : decode cX6_tear 144 = .ok (.iload_n 3, 1) := by decide +kernel
theorem dX6_tear_145 : decode cX6_tear 145 = .ok (.i2l, 1) := by decide +kernel
theorem dX6_tear_146 : decode cX6_tear 146 = .ok (.aload_n 0, 1) := by decide +kernel
theorem dX6_tear_147 : decode cX6_tear 147 = .ok (.getfield 64, 3) := by decide +kernel
theorem dX6_tear_150 : decode cX6_tear 150 = .ok (.iconst 1, 1) := by decide +kernel
theorem dX6_tear_151 : decode cX6_tear 151 = .ok (.laload, 1) := by decide +kernel
theorem dX6_tear_152 : decode cX6_tear 152 = .ok (.lmul, 1) := by decide +kernel
theorem dX6_tear_153 : decode cX6_tear 153 = .ok (.ladd, 1) := by decide +kernel
theorem dX6_tear_154 : decode cX6_tear 154 = .ok (.lastore, 1) := by decide +kernel
theorem dX6_tear_155 : decode cX6_tear 155 = .ok (.iconst 1, 1) := by decide +kernel
theorem dX6_tear_156 : decode cX6_tear 156 = .ok (.istore 11, 2) := by decide +kernel
theorem dX6_tear_158 : decode cX6_tear 158 = .ok (.iload 11, 2) := by decide +kernel
theorem dX6_tear_160 : decode cX6_tear 160 = .ok (.bipush 10, 2) := by decide +kernel
theorem dX6_tear_162 : decode cX6_tear 162 = .ok (.if_icmp .ge 54, 3) := by decide +kernel
theorem dX6_tear_165 : decode cX6_tear 165 = .ok (.aload_n 0, 1) := by decide +kernel
theorem dX6_tear_166 : decode cX6_tear 166 = .ok (.getfield 64, 3) := by decide +kernel
theorem dX6_tear_169 : decode cX6_tear 169 = .ok (.iload 11, 2) := by decide +kernel
theorem dX6_tear_171 : decode cX6_tear 171 = .ok (.ldc2_w 262, 3) := by decide +kernel
theorem dX6_tear_174 : decode cX6_tear 174 = .ok (.iload_n 3, 1) := by decide +kernel
theorem dX6_tear_175 : decode cX6_tear 175 = .ok (.i2l, 1) := by decide +kernel
theorem dX6_tear_176 : decode cX6_tear 176 = .ok (.lsub, 1) := by decide +kernel
theorem dX6_tear_177 : decode cX6_tear 177 = .ok (.aload_n 0, 1) := by decide +kernel
theorem dX6_tear_178 : decode cX6_tear 178 = .ok (.getfield 64, 3) := by decide +kernel
theorem dX6_tear_181 : decode cX6_tear 181 = .ok (.iload 11, 2) := by decide +kernel
theorem dX6_tear_183 : decode cX6_tear 183 = .ok (.laload, 1) := by decide +kernel
theorem dX6_tear_184 : decode cX6_tear 184 = .ok (.lmul, 1) := by decide +kernel
theorem dX6_tear_185 : decode cX6_tear 185 = .ok (.iload 11, 2) := by decide +kernel
theorem dX6_tear_187 : decode cX6_tear 187 = .ok (.bipush 9, 2) := by decide +kernel
theorem dX6_tear_189 : decode cX6_tear 189 = .ok (.if_icmp .ge 18, 3) := by decide +kernel
theorem dX6_tear_192 : decode cX6_tear 192 = .ok (.iload_n 3, 1) := by decide +kernel
theorem dX6_tear_193 : decode cX6_tear 193 = .ok (.i2l, 1) := by decide +kernel
theorem dX6_tear_194 : decode cX6_tear 194 = .ok (.aload_n 0, 1) := by decide +kernel
theorem dX6_tear_195 : decode cX6_tear 195 = .ok (.getfield 64, 3) := by decide +kernel
theorem dX6_tear_198 : decode cX6_tear 198 = .ok (.iload 11, 2) := by decide +kernel
theorem dX6_tear_200 : decode cX6_tear 200 = .ok (.iconst 1, 1) := by decide +kernel
theorem dX6_tear_201 : decode cX6_tear 201 = .ok (.iadd, 1) := by decide +kernel
theorem dX6_tear_202 : decode cX6_tear 202 = .ok (.laload, 1) := by decide +kernel
theorem dX6_tear_203 : decode cX6_tear 203 = .ok (.lmul, 1) := by decide +kernel
theorem dX6_tear_204 : decode cX6_tear 204 = .ok (.goto 4, 3) := by decide +kernel
theorem dX6_tear_207 : decode cX6_tear 207 = .ok (.lconst 0, 1) := by decide +kernel
theorem dX6_tear_208 : decode cX6_tear 208 = .ok (.ladd, 1) := by decide +kernel
theorem dX6_tear_209 : decode cX6_tear 209 = .ok (.lastore, 1) := by decide +kernel
theorem dX6_tear_210 : decode cX6_tear 210 = .ok (.iinc 11 1, 3) := by decide +kernel
theorem dX6_tear_213 : decode cX6_tear 213 = .ok (.goto (-55), 3) := by decide +kernel
theorem dX6_tear_216 : decode cX6_tear 216 = .ok (.lload 6, 2) := by decide +kernel
theorem dX6_tear_218 : decode cX6_tear 218 = .ok (.ldc2_w 262, 3) := by decide +kernel
theorem dX6_tear_221 : decode cX6_tear 221 = .ok (.lmul, 1) := by decide +kernel
theorem dX6_tear_222 : decode cX6_tear 222 = .ok (.lstore 6, 2) := by decide +kernel
theorem dX6_tear_224 : decode cX6_tear 224 = .ok (.iinc 10 1, 3) := by decide +kernel
theorem dX6_tear_227 : decode cX6_tear 227 = .ok (.goto (-122), 3) := by decide +kernel
theorem dX6_tear_230 : decode cX6_tear 230 = .ok (.iload 4, 2) := by decide +kernel
theorem dX6_tear_232 : decode cX6_tear 232 = .ok (.ifCond .ne 15, 3) := by decide +kernel
