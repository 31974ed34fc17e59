theorem dX4_init_0 : decode cX4_init 0 = .ok (.aload_n 0, 1) := by decide +kernel
theorem dX4_init_1 : decode cX4_init 1 = .ok (.invokespecial 3, 3) := by decide +kernel
theorem dX4_init_4 : decode cX4_init 4 = .ok (.aload_n 0, 1) := by decide +kernel
theorem dX4_init_5 : decode cX4_init 5 = .ok (.bipush 60, 2) := by decide +kernel
theorem dX4_init_7 : decode cX4_init 7 = .ok (.newarray .int, 2) := by decide +kernel
theorem dX4_init_9 : decode cX4_init 9 = .ok (.putfield 9, 3) := by decide +kernel
theorem dX4_init_12 : decode cX4_init 12 = .ok (.return_, 1) := by decide +kernel
set_option maxRecDepth 20000 in
theorem ggX4_append_X5_isWithin : GoodIn wsX4_append wsX5_isWithin := goodIn_r _ [5] (by decide +kernel) (by decide +kernel)
set_option maxRecDepth 20000 in
theorem gX4_append_X5_isWithin_n19 : GoodIn wsX4_append (wsX5_isWithin) := ggX4_append_X5_isWithin
theorem dX4_append_0 : decode cX4_append 0 = .ok (.aload_n 0, 1) := by decide +kernel
theorem dX4_append_1 : decode cX4_append 1 = .ok (.getfield 15, 3) := by decide +kernel
theorem dX4_append_4 : decode cX4_append 4 = .ok (.iconst 0, 1) := by decide +kernel
theorem dX4_append_5 : decode cX4_append 5 = .ok (.bipush 59, 2) := by decide +kernel
theorem dX4_append_7 : decode cX4_append 7 = .ok (.invokestatic 19, 3) := by decide +kernel
theorem dX4_append_10 : decode cX4_append 10 = .ok (.ifCond .ne 5, 3) := by decide +kernel
theorem dX4_append_13 : decode cX4_append 13 = .ok (.iconst 0, 1) := by decide +kernel
theorem dX4_append_14 : decode cX4_append 14 = .ok (.ireturn, 1) := by decide +kernel
theorem dX4_append_15 : decode cX4_append 15 = .ok (.aload_n 0, 1) := by decide +kernel
theorem dX4_append_16 : decode cX4_append 16 = .ok (.getfield 9, 3) := by decide +kernel
theorem dX4_append_19 : decode cX4_append 19 = .ok (.aload_n 0, 1) := by decide +kernel
theorem dX4_append_20 : decode cX4_append 20 = .ok (.getfield 15, 3) := by decide +kernel
theorem dX4_append_23 : decode cX4_append 23 = .ok (.iload_n 1, 1) := by decide +kernel
theorem dX4_append_24 : decode cX4_append 24 = .ok (.iastore, 1) := by decide +kernel
theorem dX4_append_25 : decode cX4_append 25 = .ok (.aload_n 0, 1) := by decide +kernel
theorem dX4_append_26 : decode cX4_append 26 = .ok (.dup, 1) := by decide +kernel
theorem dX4_append_27 : decode cX4_append 27 = .ok (.getfield 15, 3) := by decide +kernel
theorem dX4_append_30 : decode cX4_append 30 = .ok (.iconst 1, 1) := by decide +kernel
theorem dX4_append_31 : decode cX4_append 31 = .ok (.iadd, 1) := by decide +kernel
theorem dX4_append_32 : decode cX4_append 32 = .ok (.putfield 15, 3) := by decide +kernel
theorem dX4_append_35 : decode cX4_append 35 = .ok (.iconst 1, 1) := by decide +kernel
theorem dX4_append_36 : decode cX4_append 36 = .ok (.ireturn, 1) := by decide +kernel
set_option maxRecDepth 20000 in
theorem ggX4_signAt_X5_isWithin : GoodIn wsX4_signAt wsX5_isWithin := goodIn_r _ [5] (by decide +kernel) (by decide +kernel)
set_option maxRecDepth 20000 in
theorem gX4_signAt_X5_isWithin_n19 : GoodIn wsX4_signAt (wsX5_isWithin) := ggX4_signAt_X5_isWithin
theorem dX4_signAt_0 : decode cX4_signAt 0 = .ok (.iload_n 1, 1) := by decide +kernel
theorem dX4_signAt_1 : decode cX4_signAt 1 = .ok (.iconst 0, 1) := by decide +kernel
theorem dX4_signAt_2 : decode cX4_signAt 2 = .ok (.bipush 59, 2) := by decide +kernel
theorem dX4_signAt_4 : decode cX4_signAt 4 = .ok (.invokestatic 19, 3) := by decide +kernel
theorem dX4_signAt_7 : decode cX4_signAt 7 = .ok (.ifCond .eq 20, 3) := by decide +kernel
theorem dX4_signAt_10 : decode cX4_signAt 10 = .ok (.iload_n 1, 1) := by decide +kernel
theorem dX4_signAt_11 : decode cX4_signAt 11 = .ok (.aload_n 0, 1) := by decide +kernel
theorem dX4_signAt_12 : decode cX4_signAt 12 = .ok (.getfield 15, 3) := by decide +kernel
theorem dX4_signAt_15 : decode cX4_signAt 15 = .ok (.if_icmp .ge 12, 3) := by decide +kernel
theorem dX4_signAt_18 : decode cX4_signAt 18 = .ok (.aload_n 0, 1) := by decide +kernel
theorem dX4_signAt_19 : decode cX4_signAt 19 = .ok (.getfield 9, 3) := by decide +kernel
theorem dX4_signAt_22 : decode cX4_signAt 22 = .ok (.iload_n 1, 1) := by decide +kernel
theorem dX4_signAt_23 : decode cX4_signAt 23 = .ok (.iaload, 1) := by decide +kernel
theorem dX4_signAt_24 : decode cX4_signAt 24 = .ok (.goto 4, 3) := by decide +kernel
theorem dX4_signAt_27 : decode cX4_signAt 27 = .ok (.iconst 0, 1) := by decide +kernel
theorem dX4_signAt_28 : decode cX4_signAt 28 = .ok (.ireturn, 1) := by decide +kernel
set_option maxRecDepth 20000 in
theorem ggX4_courtierAt_X4_signAt : GoodIn wsX4_courtierAt wsX4_signAt := goodIn_r _ [5, 6, 7, 8, 9, 10, 11, 12] (by decide +kernel) (by decide +kernel)
set_option maxRecDepth 20000 in
theorem gX4_courtierAt_X4_signAt : GoodIn wsX4_courtierAt (wsV RX4 23 RX4 yX4_signAt wsX4_signAt) := goodIn_app (goodIn_of _ (by decide +kernel)) ggX4_courtierAt_X4_signAt
theorem dX4_courtierAt_0 : decode cX4_courtierAt 0 = .ok (.aload_n 0, 1) := by decide +kernel
theorem dX4_courtierAt_1 : decode cX4_courtierAt 1 = .ok (.iload_n 1, 1) := by decide +kernel
theorem dX4_courtierAt_2 : decode cX4_courtierAt 2 = .ok (.invokevirtual 23, 3) := by decide +kernel
theorem dX4_courtierAt_5 : decode cX4_courtierAt 5 = .ok (.bipush 65, 2) := by decide +kernel
theorem dX4_courtierAt_7 : decode cX4_courtierAt 7 = .ok (.isub, 1) := by decide +kernel
theorem dX4_courtierAt_8 : decode cX4_courtierAt 8 = .ok (.ireturn, 1) := by decide +kernel
set_option maxRecDepth 20000 in
theorem ggX4_hourAt_X4_signAt : GoodIn wsX4_hourAt wsX4_signAt := goodIn_r _ [5, 6, 7, 8, 9, 10, 11, 12] (by decide +kernel) (by decide +kernel)
set_option maxRecDepth 20000 in
theorem gX4_hourAt_X4_signAt : GoodIn wsX4_hourAt (wsV RX4 23 RX4 yX4_signAt wsX4_signAt) := goodIn_app (goodIn_of _ (by decide +kernel)) ggX4_hourAt_X4_signAt
theorem dX4_hourAt_0 : decode cX4_hourAt 0 = .ok (.bipush 10, 2) := by decide +kernel
theorem dX4_hourAt_2 : decode cX4_hourAt 2 = .ok (.aload_n 0, 1) := by decide +kernel
theorem dX4_hourAt_3 : decode cX4_hourAt 3 = .ok (.iload_n 1, 1) := by decide +kernel
theorem dX4_hourAt_4 : decode cX4_hourAt 4 = .ok (.invokevirtual 23, 3) := by decide +kernel
theorem dX4_hourAt_7 : decode cX4_hourAt 7 = .ok (.bipush 48, 2) := by decide +kernel
theorem dX4_hourAt_9 : decode cX4_hourAt 9 = .ok (.isub, 1) := by decide +kernel
theorem dX4_hourAt_10 : decode cX4_hourAt 10 = .ok (.imul, 1) := by decide +kernel
theorem dX4_hourAt_11 : decode cX4_hourAt 11 = .ok (.aload_n 0, 1) := by decide +kernel
theorem dX4_hourAt_12 : decode cX4_hourAt 12 = .ok (.iload_n 1, 1) := by decide +kernel
theorem dX4_hourAt_13 : decode cX4_hourAt 13 = .ok (.iconst 1, 1) := by decide +kernel
theorem dX4_hourAt_14 : decode cX4_hourAt 14 = .ok (.iadd, 1) := by decide +kernel
theorem dX4_hourAt_15 : decode cX4_hourAt 15 = .ok (.invokevirtual 23, 3) := by decide +kernel
theorem dX4_hourAt_18 : decode cX4_hourAt 18 = .ok (.iadd, 1) := by decide +kernel
theorem dX4_hourAt_19 : decode cX4_hourAt 19 = .ok (.bipush 48, 2) := by decide +kernel
theorem dX4_hourAt_21 : decode cX4_hourAt 21 = .ok (.isub, 1) := by decide +kernel
theorem dX4_hourAt_22 : decode cX4_hourAt 22 = .ok (.ireturn, 1) := by decide +kernel
set_option maxRecDepth 20000 in
theorem ggX4_widthAt_X4_signAt : GoodIn wsX4_widthAt wsX4_signAt := goodIn_r _ [5, 6, 7, 8, 9, 10, 11, 12] (by decide +kernel) (by decide +kernel)
set_option maxRecDepth 20000 in
theorem gX4_widthAt_X4_signAt : GoodIn wsX4_widthAt (wsV RX4 23 RX4 yX4_signAt wsX4_signAt) := goodIn_app (goodIn_of _ (by decide +kernel)) ggX4_widthAt_X4_signAt
theorem dX4_widthAt_0 : decode cX4_widthAt 0 = .ok (.aload_n 0, 1) := by decide +kernel
theorem dX4_widthAt_1 : decode cX4_widthAt 1 = .ok (.iload_n 1, 1) := by decide +kernel
theorem dX4_widthAt_2 : decode cX4_widthAt 2 = .ok (.invokevirtual 23, 3) := by decide +kernel
theorem dX4_widthAt_5 : decode cX4_widthAt 5 = .ok (.bipush 46, 2) := by decide +kernel
theorem dX4_widthAt_7 : decode cX4_widthAt 7 = .ok (.if_icmp .ne 5, 3) := by decide +kernel
theorem dX4_widthAt_10 : decode cX4_widthAt 10 = .ok (.iconst 1, 1) := by decide +kernel
theorem dX4_widthAt_11 : decode cX4_widthAt 11 = .ok (.ireturn, 1) := by decide +kernel
theorem dX4_widthAt_12 : decode cX4_widthAt 12 = .ok (.aload_n 0, 1) := by decide +kernel
theorem dX4_widthAt_13 : decode cX4_widthAt 13 = .ok (.iload_n 1, 1) := by decide +kernel
theorem dX4_widthAt_14 : decode cX4_widthAt 14 = .ok (.iconst 1, 1) := by decide +kernel
theorem dX4_widthAt_15 : decode cX4_widthAt 15 = .ok (.iadd, 1) := by decide +kernel
theorem dX4_widthAt_16 : decode cX4_widthAt 16 = .ok (.invokevirtual 23, 3) := by decide +kernel
theorem dX4_widthAt_19 : decode cX4_widthAt 19 = .ok (.lookupswitch 37 #[(62, 35), (108, 33), (114, 33)], 33) := by decide +kernel
theorem dX4_widthAt_52 : decode cX4_widthAt 52 = .ok (.iconst 4, 1) := by decide +kernel
theorem dX4_widthAt_53 : decode cX4_widthAt 53 = .ok (.ireturn, 1) := by decide +kernel
theorem dX4_widthAt_54 : decode cX4_widthAt 54 = .ok (.iconst 5, 1) := by decide +kernel
theorem dX4_widthAt_55 : decode cX4_widthAt 55 = .ok (.ireturn, 1) := by decide +kernel
theorem dX4_widthAt_56 : decode cX4_widthAt 56 = .ok (.iconst 2, 1) := by decide +kernel
theorem dX4_widthAt_57 : decode cX4_widthAt 57 = .ok (.ireturn, 1) := by decide +kernel
set_option maxRecDepth 20000 in
theorem ggX4_firstFault_X4_signAt : GoodIn wsX4_firstFault wsX4_signAt := goodIn_r _ [6, 1, 7, 8, 9, 10, 20, 21] (by decide +kernel) (by decide +kernel)
set_option maxRecDepth 20000 in
theorem gX4_firstFault_X4_signAt : GoodIn wsX4_firstFault (wsV RX4 23 RX4 yX4_signAt wsX4_signAt) := goodIn_app (goodIn_of _ (by decide +kernel)) ggX4_firstFault_X4_signAt
set_option maxRecDepth 20000 in
theorem ggX4_firstFault_X4_nextBehind : GoodIn wsX4_firstFault wsX4_nextBehind := goodIn_r _ [13, 14, 15, 5, 16, 17, 18, 19, 8, 9, 10] (by decide +kernel) (by decide +kernel)
set_option maxRecDepth 20000 in
theorem gX4_firstFault_X4_nextBehind : GoodIn wsX4_firstFault (va_wsS RX4 27 yX4_nextBehind wsX4_nextBehind) := goodIn_app (goodIn_of _ (by decide +kernel)) ggX4_firstFault_X4_nextBehind
theorem dX4_firstFault_0 : decode cX4_firstFault 0 = .ok (.iconst 0, 1) := by decide +kernel
theorem dX4_firstFault_1 : decode cX4_firstFault 1 = .ok (.istore_n 1, 1) := by decide +kernel
theorem dX4_firstFault_2 : decode cX4_firstFault 2 = .ok (.iconst 0, 1) := by decide +kernel
theorem dX4_firstFault_3 : decode cX4_firstFault 3 = .ok (.istore_n 2, 1) := by decide +kernel
theorem dX4_firstFault_4 : decode cX4_firstFault 4 = .ok (.iload_n 2, 1) := by decide +kernel
theorem dX4_firstFault_5 : decode cX4_firstFault 5 = .ok (.aload_n 0, 1) := by decide +kernel
theorem dX4_firstFault_6 : decode cX4_firstFault 6 = .ok (.getfield 15, 3) := by decide +kernel
theorem dX4_firstFault_9 : decode cX4_firstFault 9 = .ok (.if_icmp .ge 26, 3) := by decide +kernel
theorem dX4_firstFault_12 : decode cX4_firstFault 12 = .ok (.iload_n 1, 1) := by decide +kernel
theorem dX4_firstFault_13 : decode cX4_firstFault 13 = .ok (.aload_n 0, 1) := by decide +kernel
theorem dX4_firstFault_14 : decode cX4_firstFault 14 = .ok (.iload_n 2, 1) := by decide +kernel
theorem dX4_firstFault_15 : decode cX4_firstFault 15 = .ok (.invokevirtual 23, 3) := by decide +kernel
theorem dX4_firstFault_18 : decode cX4_firstFault 18 = .ok (.invokestatic 27, 3) := by decide +kernel
theorem dX4_firstFault_21 : decode cX4_firstFault 21 = .ok (.istore_n 1, 1) := by decide +kernel
theorem dX4_firstFault_22 : decode cX4_firstFault 22 = .ok (.iload_n 1, 1) := by decide +kernel
theorem dX4_firstFault_23 : decode cX4_firstFault 23 = .ok (.iconst (-1), 1) := by decide +kernel
theorem dX4_firstFault_24 : decode cX4_firstFault 24 = .ok (.if_icmp .ne 5, 3) := by decide +kernel
theorem dX4_firstFault_27 : decode cX4_firstFault 27 = .ok (.iload_n 2, 1) := by decide +kernel
theorem dX4_firstFault_28 : decode cX4_firstFault 28 = .ok (.ireturn, 1) := by decide +kernel
theorem dX4_firstFault_29 : decode cX4_firstFault 29 = .ok (.iinc 2 1, 3) := by decide +kernel
theorem dX4_firstFault_32 : decode cX4_firstFault 32 = .ok (.goto (-28), 3) := by decide +kernel
theorem dX4_firstFault_35 : decode cX4_firstFault 35 = .ok (.iload_n 1, 1) := by decide +kernel
theorem dX4_firstFault_36 : decode cX4_firstFault 36 = .ok (.ifCond .ne 8, 3) := by decide +kernel
theorem dX4_firstFault_39 : decode cX4_firstFault 39 = .ok (.bipush (-6), 2) := by decide +kernel
theorem dX4_firstFault_41 : decode cX4_firstFault 41 = .ok (.goto 7, 3) := by decide +kernel
theorem dX4_firstFault_44 : decode cX4_firstFault 44 = .ok (.aload_n 0, 1) := by decide +kernel
theorem dX4_firstFault_45 : decode cX4_firstFault 45 = .ok (.getfield 15, 3) := by decide +kernel
theorem dX4_firstFault_48 : decode cX4_firstFault 48 = .ok (.ireturn, 1) := by decide +kernel
set_option maxRecDepth 20000 in
theorem ggX4_nextBehind_X4_isLetter : GoodIn wsX4_nextBehind wsX4_isLetter := goodIn_r _ [4] (by decide +kernel) (by decide +kernel)
set_option maxRecDepth 20000 in
theorem gX4_nextBehind_X4_isLetter : GoodIn wsX4_nextBehind (va_wsS RX4 31 yX4_isLetter wsX4_isLetter) := goodIn_app (goodIn_of _ (by decide +kernel)) ggX4_nextBehind_X4_isLetter
set_option maxRecDepth 20000 in
theorem ggX4_nextBehind_X4_nextBehindLetter : GoodIn wsX4_nextBehind wsX4_nextBehindLetter := goodIn_r _ [7, 1, 2, 3, 4] (by decide +kernel) (by decide +kernel)
set_option maxRecDepth 20000 in
theorem gX4_nextBehind_X4_nextBehindLetter : GoodIn wsX4_nextBehind (va_wsS RX4 35 yX4_nextBehindLetter wsX4_nextBehindLetter) := goodIn_app (goodIn_of _ (by decide +kernel)) ggX4_nextBehind_X4_nextBehindLetter
set_option maxRecDepth 20000 in
theorem ggX4_nextBehind_X5_isWithin : GoodIn wsX4_nextBehind wsX5_isWithin := goodIn_r _ [10] (by decide +kernel) (by decide +kernel)
set_option maxRecDepth 20000 in
theorem gX4_nextBehind_X5_isWithin_n19 : GoodIn wsX4_nextBehind (wsX5_isWithin) := ggX4_nextBehind_X5_isWithin
theorem dX4_nextBehind_0 : decode cX4_nextBehind 0 = .ok (.iload_n 0, 1) := by decide +kernel
theorem dX4_nextBehind_1 : decode cX4_nextBehind 1 = .ok (.tableswitch 124 0 4 #[35, 58, 63, 90, 107], 35) := by decide +kernel
theorem dX4_nextBehind_36 : decode cX4_nextBehind 36 = .ok (.iload_n 1, 1) := by decide +kernel
theorem dX4_nextBehind_37 : decode cX4_nextBehind 37 = .ok (.bipush 46, 2) := by decide +kernel
theorem dX4_nextBehind_39 : decode cX4_nextBehind 39 = .ok (.if_icmp .ne 7, 3) := by decide +kernel
theorem dX4_nextBehind_42 : decode cX4_nextBehind 42 = .ok (.iconst 0, 1) := by decide +kernel
theorem dX4_nextBehind_43 : decode cX4_nextBehind 43 = .ok (.goto 15, 3) := by decide +kernel
theorem dX4_nextBehind_46 : decode cX4_nextBehind 46 = .ok (.iload_n 1, 1) := by decide +kernel
theorem dX4_nextBehind_47 : decode cX4_nextBehind 47 = .ok (.invokestatic 31, 3) := by decide +kernel
theorem dX4_nextBehind_50 : decode cX4_nextBehind 50 = .ok (.ifCond .eq 7, 3) := by decide +kernel
theorem dX4_nextBehind_53 : decode cX4_nextBehind 53 = .ok (.iconst 1, 1) := by decide +kernel
theorem dX4_nextBehind_54 : decode cX4_nextBehind 54 = .ok (.goto 4, 3) := by decide +kernel
theorem dX4_nextBehind_57 : decode cX4_nextBehind 57 = .ok (.iconst (-1), 1) := by decide +kernel
theorem dX4_nextBehind_58 : decode cX4_nextBehind 58 = .ok (.ireturn, 1) := by decide +kernel
theorem dX4_nextBehind_59 : decode cX4_nextBehind 59 = .ok (.iload_n 1, 1) := by decide +kernel
theorem dX4_nextBehind_60 : decode cX4_nextBehind 60 = .ok (.invokestatic 35, 3) := by decide +kernel
theorem dX4_nextBehind_63 : decode cX4_nextBehind 63 = .ok (.ireturn, 1) := by decide +kernel
theorem dX4_nextBehind_64 : decode cX4_nextBehind 64 = .ok (.iload_n 1, 1) := by decide +kernel
theorem dX4_nextBehind_65 : decode cX4_nextBehind 65 = .ok (.bipush 50, 2) := by decide +kernel
theorem dX4_nextBehind_67 : decode cX4_nextBehind 67 = .ok (.if_icmp .ne 7, 3) := by decide +kernel
theorem dX4_nextBehind_70 : decode cX4_nextBehind 70 = .ok (.iconst 4, 1) := by decide +kernel
theorem dX4_nextBehind_71 : decode cX4_nextBehind 71 = .ok (.goto 19, 3) := by decide +kernel
theorem dX4_nextBehind_74 : decode cX4_nextBehind 74 = .ok (.iload_n 1, 1) := by decide +kernel
theorem dX4_nextBehind_75 : decode cX4_nextBehind 75 = .ok (.bipush 48, 2) := by decide +kernel
theorem dX4_nextBehind_77 : decode cX4_nextBehind 77 = .ok (.bipush 49, 2) := by decide +kernel
theorem dX4_nextBehind_79 : decode cX4_nextBehind 79 = .ok (.invokestatic 19, 3) := by decide +kernel
theorem dX4_nextBehind_82 : decode cX4_nextBehind 82 = .ok (.ifCond .eq 7, 3) := by decide +kernel
theorem dX4_nextBehind_85 : decode cX4_nextBehind 85 = .ok (.iconst 3, 1) := by decide +kernel
theorem dX4_nextBehind_86 : decode cX4_nextBehind 86 = .ok (.goto 4, 3) := by decide +kernel
theorem dX4_nextBehind_89 : decode cX4_nextBehind 89 = .ok (.iconst (-1), 1) := by decide +kernel
theorem dX4_nextBehind_90 : decode cX4_nextBehind 90 = .ok (.ireturn, 1) := by decide +kernel
theorem dX4_nextBehind_91 : decode cX4_nextBehind 91 = .ok (.iload_n 1, 1) := by decide +kernel
theorem dX4_nextBehind_92 : decode cX4_nextBehind 92 = .ok (.bipush 48, 2) := by decide +kernel
theorem dX4_nextBehind_94 : decode cX4_nextBehind 94 = .ok (.bipush 57, 2) := by decide +kernel
theorem dX4_nextBehind_96 : decode cX4_nextBehind 96 = .ok (.invokestatic 19, 3) := by decide +kernel
theorem dX4_nextBehind_99 : decode cX4_nextBehind 99 = .ok (.ifCond .eq 7, 3) := by decide +kernel
theorem dX4_nextBehind_102 : decode cX4_nextBehind 102 = .ok (.iconst 0, 1) := by decide +kernel
theorem dX4_nextBehind_103 : decode cX4_nextBehind 103 = .ok (.goto 4, 3) := by decide +kernel
theorem dX4_nextBehind_106 : decode cX4_nextBehind 106 = .ok (.iconst (-1), 1) := by decide +kernel
theorem dX4_nextBehind_107 : decode cX4_nextBehind 107 = .ok (.ireturn, 1) := by decide +kernel
theorem dX4_nextBehind_108 : decode cX4_nextBehind 108 = .ok (.iload_n 1, 1) := by decide +kernel
theorem dX4_nextBehind_109 : decode cX4_nextBehind 109 = .ok (.bipush 48, 2) := by decide +kernel
theorem dX4_nextBehind_111 : decode cX4_nextBehind 111 = .ok (.bipush 51, 2) := by decide +kernel
theorem dX4_nextBehind_113 : decode cX4_nextBehind 113 = .ok (.invokestatic 19, 3) := by decide +kernel
theorem dX4_nextBehind_116 : decode cX4_nextBehind 116 = .ok (.ifCond .eq 7, 3) := by decide +kernel
theorem dX4_nextBehind_119 : decode cX4_nextBehind 119 = .ok (.iconst 0, 1) := by decide +kernel
theorem dX4_nextBehind_120 : decode cX4_nextBehind 120 = .ok (.goto 4, 3) := by decide +kernel
theorem dX4_nextBehind_123 : decode cX4_nextBehind 123 = .ok (.iconst (-1), 1) := by decide +kernel
theorem dX4_nextBehind_124 : decode cX4_nextBehind 124 = .ok (.ireturn, 1) := by decide +kernel
theorem dX4_nextBehind_125 : decode cX4_nextBehind 125 = .ok (.iload_n 1, 1) := by decide +kernel
theorem dX4_nextBehind_126 : decode cX4_nextBehind 126 = .ok (.invokestatic 31, 3) := by decide +kernel
theorem dX4_nextBehind_129 : decode cX4_nextBehind 129 = .ok (.ifCond .eq 7, 3) := by decide +kernel
theorem dX4_nextBehind_132 : decode cX4_nextBehind 132 = .ok (.iconst 2, 1) := by decide +kernel
theorem dX4_nextBehind_133 : decode cX4_nextBehind 133 = .ok (.goto 4, 3) := by decide +kernel
theorem dX4_nextBehind_136 : decode cX4_nextBehind 136 = .ok (.iconst (-1), 1) := by decide +kernel
theorem dX4_nextBehind_137 : decode cX4_nextBehind 137 = .ok (.ireturn, 1) := by decide +kernel
set_option maxRecDepth 20000 in
theorem ggX4_nextBehindLetter_X4_isLetter : GoodIn wsX4_nextBehindLetter wsX4_isLetter := goodIn_r _ [4] (by decide +kernel) (by decide +kernel)
set_option maxRecDepth 20000 in
theorem gX4_nextBehindLetter_X4_isLetter : GoodIn wsX4_nextBehindLetter (va_wsS RX4 31 yX4_isLetter wsX4_isLetter) := goodIn_app (goodIn_of _ (by decide +kernel)) ggX4_nextBehindLetter_X4_isLetter
theorem dX4_nextBehindLetter_0 : decode cX4_nextBehindLetter 0 = .ok (.iload_n 0, 1) := by decide +kernel
theorem dX4_nextBehindLetter_1 : decode cX4_nextBehindLetter 1 = .ok (.lookupswitch 57 #[(33, 55), (48, 55), (62, 53), (108, 51), (114, 51)], 51) := by decide +kernel
theorem dX4_nextBehindLetter_52 : decode cX4_nextBehindLetter 52 = .ok (.iconst 2, 1) := by decide +kernel
theorem dX4_nextBehindLetter_53 : decode cX4_nextBehindLetter 53 = .ok (.ireturn, 1) := by decide +kernel
theorem dX4_nextBehindLetter_54 : decode cX4_nextBehindLetter 54 = .ok (.iconst 5, 1) := by decide +kernel
theorem dX4_nextBehindLetter_55 : decode cX4_nextBehindLetter 55 = .ok (.ireturn, 1) := by decide +kernel
theorem dX4_nextBehindLetter_56 : decode cX4_nextBehindLetter 56 = .ok (.iconst 0, 1) := by decide +kernel
theorem dX4_nextBehindLetter_57 : decode cX4_nextBehindLetter 57 = .ok (.ireturn, 1) := by decide +kernel
theorem dX4_nextBehindLetter_58 : decode cX4_nextBehindLetter 58 = .ok (.iload_n 0, 1) := by decide +kernel
theorem dX4_nextBehindLetter_59 : decode cX4_nextBehindLetter 59 = .ok (.invokestatic 31, 3) := by decide +kernel
theorem dX4_nextBehindLetter_62 : decode cX4_nextBehindLetter 62 = .ok (.ifCond .eq 7, 3) := by decide +kernel
theorem dX4_nextBehindLetter_65 : decode cX4_nextBehindLetter 65 = .ok (.iconst 0, 1) := by decide +kernel
theorem dX4_nextBehindLetter_66 : decode cX4_nextBehindLetter 66 = .ok (.goto 4, 3) := by decide +kernel
theorem dX4_nextBehindLetter_69 : decode cX4_nextBehindLetter 69 = .ok (.iconst (-1), 1) := by decide +kernel
theorem dX4_nextBehindLetter_70 : decode cX4_nextBehindLetter 70 = .ok (.ireturn, 1) := by decide +kernel
theorem dX4_isLetter_0 : decode cX4_isLetter 0 = .ok (.iload_n 0, 1) := by decide +kernel
theorem dX4_isLetter_1 : decode cX4_isLetter 1 = .ok (.bipush 65, 2) := by decide +kernel
theorem dX4_isLetter_3 : decode cX4_isLetter 3 = .ok (.if_icmp .lt 13, 3) := by decide +kernel
theorem dX4_isLetter_6 : decode cX4_isLetter 6 = .ok (.iload_n 0, 1) := by decide +kernel
theorem dX4_isLetter_7 : decode cX4_isLetter 7 = .ok (.bipush 71, 2) := by decide +kernel
theorem dX4_isLetter_9 : decode cX4_isLetter 9 = .ok (.if_icmp .ge 7, 3) := by decide +kernel
theorem dX4_isLetter_12 : decode cX4_isLetter 12 = .ok (.iconst 1, 1) := by decide +kernel
theorem dX4_isLetter_13 : decode cX4_isLetter 13 = .ok (.goto 4, 3) := by decide +kernel
theorem dX4_isLetter_16 : decode cX4_isLetter 16 = .ok (.iconst 0, 1) := by decide +kernel
theorem dX4_isLetter_17 : decode cX4_isLetter 17 = .ok (.ireturn, 1) := by decide +kernel
set_option maxRecDepth 20000 in
theorem ggX5_init_X1_init : GoodIn wsX5_init wsX1_init := goodIn_r _ [28, 29, 2, 3, 30, 31, 32, 33, 34, 35, 36, 65, 66, 67, 68, 69, 70, 71, 72, 73, 74, 75] (by decide +kernel) (by decide +kernel)
set_option maxRecDepth 20000 in
theorem gX5_init_X1_init : GoodIn wsX5_init (wsX1_init) := ggX5_init_X1_init
set_option maxRecDepth 20000 in
theorem ggX5_init_X4_init : GoodIn wsX5_init wsX4_init := goodIn_r _ [39, 40, 2, 3, 31, 41, 85, 86] (by decide +kernel) (by decide +kernel)
set_option maxRecDepth 20000 in
theorem gX5_init_X4_init : GoodIn wsX5_init (wsX4_init) := ggX5_init_X4_init
set_option maxRecDepth 20000 in
theorem ggX5_init_X2_init : GoodIn wsX5_init wsX2_init := goodIn_r _ [44, 45, 2, 3, 46, 5, 6, 47, 31, 48, 49, 50, 51, 52, 27, 28, 29, 30, 32, 33, 34, 35, 36, 65, 66, 67, 68, 69, 70, 71, 72, 73, 74, 75, 87, 88, 89, 90, 91, 92, 93, 94, 95] (by decide +kernel) (by decide +kernel)
set_option maxRecDepth 20000 in
theorem gX5_init_X2_init : GoodIn wsX5_init (wsX2_init) := ggX5_init_X2_init
set_option maxRecDepth 20000 in
theorem ggX5_init_X3_init : GoodIn wsX5_init wsX3_init := goodIn_r _ [55, 56, 2, 3, 31, 57, 58, 96, 97, 98] (by decide +kernel) (by decide +kernel)
set_option maxRecDepth 20000 in
theorem gX5_init_X3_init : GoodIn wsX5_init (wsX3_init) := ggX5_init_X3_init
set_option maxRecDepth 20000 in
theorem ggX5_init_X0_init : GoodIn wsX5_init wsX0_init := goodIn_r _ [61, 62, 2, 3, 63, 64, 99, 100, 101] (by decide +kernel) (by decide +kernel)
set_option maxRecDepth 20000 in
theorem gX5_init_X0_init : GoodIn wsX5_init (wsX0_init) := ggX5_init_X0_init
