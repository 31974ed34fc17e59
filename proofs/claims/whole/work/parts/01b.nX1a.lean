theorem dX1_init_0 : decode cX1_init 0 = .ok (.aload_n 0, 1) := by decide +kernel
theorem dX1_init_1 : decode cX1_init 1 = .ok (.invokespecial 3, 3) := by decide +kernel
theorem dX1_init_4 : decode cX1_init 4 = .ok (.aload_n 0, 1) := by decide +kernel
theorem dX1_init_5 : decode cX1_init 5 = .ok (.bipush 9, 2) := by decide +kernel
theorem dX1_init_7 : decode cX1_init 7 = .ok (.putfield 9, 3) := by decide +kernel
theorem dX1_init_10 : decode cX1_init 10 = .ok (.aload_n 0, 1) := by decide +kernel
theorem dX1_init_11 : decode cX1_init 11 = .ok (.bipush 6, 2) := by decide +kernel
theorem dX1_init_13 : decode cX1_init 13 = .ok (.newarray .int, 2) := by decide +kernel
theorem dX1_init_15 : decode cX1_init 15 = .ok (.putfield 15, 3) := by decide +kernel
theorem dX1_init_18 : decode cX1_init 18 = .ok (.aload_n 0, 1) := by decide +kernel
theorem dX1_init_19 : decode cX1_init 19 = .ok (.bipush 6, 2) := by decide +kernel
theorem dX1_init_21 : decode cX1_init 21 = .ok (.newarray .int, 2) := by decide +kernel
theorem dX1_init_23 : decode cX1_init 23 = .ok (.putfield 19, 3) := by decide +kernel
theorem dX1_init_26 : decode cX1_init 26 = .ok (.aload_n 0, 1) := by decide +kernel
theorem dX1_init_27 : decode cX1_init 27 = .ok (.bipush 6, 2) := by decide +kernel
theorem dX1_init_29 : decode cX1_init 29 = .ok (.newarray .int, 2) := by decide +kernel
theorem dX1_init_31 : decode cX1_init 31 = .ok (.putfield 22, 3) := by decide +kernel
theorem dX1_init_34 : decode cX1_init 34 = .ok (.aload_n 0, 1) := by decide +kernel
theorem dX1_init_35 : decode cX1_init 35 = .ok (.bipush 6, 2) := by decide +kernel
theorem dX1_init_37 : decode cX1_init 37 = .ok (.newarray .int, 2) := by decide +kernel
theorem dX1_init_39 : decode cX1_init 39 = .ok (.putfield 25, 3) := by decide +kernel
theorem dX1_init_42 : decode cX1_init 42 = .ok (.aload_n 0, 1) := by decide +kernel
theorem dX1_init_43 : decode cX1_init 43 = .ok (.sipush 144, 3) := by decide +kernel
theorem dX1_init_46 : decode cX1_init 46 = .ok (.newarray .int, 2) := by decide +kernel
theorem dX1_init_48 : decode cX1_init 48 = .ok (.putfield 28, 3) := by decide +kernel
theorem dX1_init_51 : decode cX1_init 51 = .ok (.return_, 1) := by decide +kernel
theorem dX1_copyFrom_0 : decode cX1_copyFrom 0 = .ok (.aload_n 0, 1) := by decide +kernel
theorem dX1_copyFrom_1 : decode cX1_copyFrom 1 = .ok (.aload_n 1, 1) := by decide +kernel
theorem dX1_copyFrom_2 : decode cX1_copyFrom 2 = .ok (.getfield 31, 3) := by decide +kernel
theorem dX1_copyFrom_5 : decode cX1_copyFrom 5 = .ok (.putfield 31, 3) := by decide +kernel
theorem dX1_copyFrom_8 : decode cX1_copyFrom 8 = .ok (.aload_n 0, 1) := by decide +kernel
theorem dX1_copyFrom_9 : decode cX1_copyFrom 9 = .ok (.aload_n 1, 1) := by decide +kernel
theorem dX1_copyFrom_10 : decode cX1_copyFrom 10 = .ok (.getfield 34, 3) := by decide +kernel
theorem dX1_copyFrom_13 : decode cX1_copyFrom 13 = .ok (.putfield 34, 3) := by decide +kernel
theorem dX1_copyFrom_16 : decode cX1_copyFrom 16 = .ok (.aload_n 0, 1) := by decide +kernel
theorem dX1_copyFrom_17 : decode cX1_copyFrom 17 = .ok (.aload_n 1, 1) := by decide +kernel
theorem dX1_copyFrom_18 : decode cX1_copyFrom 18 = .ok (.getfield 9, 3) := by decide +kernel
theorem dX1_copyFrom_21 : decode cX1_copyFrom 21 = .ok (.putfield 9, 3) := by decide +kernel
theorem dX1_copyFrom_24 : decode cX1_copyFrom 24 = .ok (.aload_n 0, 1) := by decide +kernel
theorem dX1_copyFrom_25 : decode cX1_copyFrom 25 = .ok (.aload_n 1, 1) := by decide +kernel
theorem dX1_copyFrom_26 : decode cX1_copyFrom 26 = .ok (.getfield 37, 3) := by decide +kernel
theorem dX1_copyFrom_29 : decode cX1_copyFrom 29 = .ok (.putfield 37, 3) := by decide +kernel
theorem dX1_copyFrom_32 : decode cX1_copyFrom 32 = .ok (.aload_n 0, 1) := by decide +kernel
theorem dX1_copyFrom_33 : decode cX1_copyFrom 33 = .ok (.aload_n 1, 1) := by decide +kernel
theorem dX1_copyFrom_34 : decode cX1_copyFrom 34 = .ok (.getfield 40, 3) := by decide +kernel
theorem dX1_copyFrom_37 : decode cX1_copyFrom 37 = .ok (.putfield 40, 3) := by decide +kernel
theorem dX1_copyFrom_40 : decode cX1_copyFrom 40 = .ok (.aload_n 0, 1) := by decide +kernel
theorem dX1_copyFrom_41 : decode cX1_copyFrom 41 = .ok (.aload_n 1, 1) := by decide +kernel
theorem dX1_copyFrom_42 : decode cX1_copyFrom 42 = .ok (.getfield 43, 3) := by decide +kernel
theorem dX1_copyFrom_45 : decode cX1_copyFrom 45 = .ok (.putfield 43, 3) := by decide +kernel
theorem dX1_copyFrom_48 : decode cX1_copyFrom 48 = .ok (.aload_n 1, 1) := by decide +kernel
theorem dX1_copyFrom_49 : decode cX1_copyFrom 49 = .ok (.getfield 15, 3) := by decide +kernel
theorem dX1_copyFrom_52 : decode cX1_copyFrom 52 = .ok (.iconst 0, 1) := by decide +kernel
theorem dX1_copyFrom_53 : decode cX1_copyFrom 53 = .ok (.aload_n 0, 1) := by decide +kernel
theorem dX1_copyFrom_54 : decode cX1_copyFrom 54 = .ok (.getfield 15, 3) := by decide +kernel
theorem dX1_copyFrom_57 : decode cX1_copyFrom 57 = .ok (.iconst 0, 1) := by decide +kernel
theorem dX1_copyFrom_58 : decode cX1_copyFrom 58 = .ok (.bipush 6, 2) := by decide +kernel
theorem dX1_copyFrom_60 : decode cX1_copyFrom 60 = .ok (.invokestatic 46, 3) := by decide +kernel
theorem dX1_copyFrom_63 : decode cX1_copyFrom 63 = .ok (.aload_n 1, 1) := by decide +kernel
theorem dX1_copyFrom_64 : decode cX1_copyFrom 64 = .ok (.getfield 19, 3) := by decide +kernel
theorem dX1_copyFrom_67 : decode cX1_copyFrom 67 = .ok (.iconst 0, 1) := by decide +kernel
theorem dX1_copyFrom_68 : decode cX1_copyFrom 68 = .ok (.aload_n 0, 1) := by decide +kernel
theorem dX1_copyFrom_69 : decode cX1_copyFrom 69 = .ok (.getfield 19, 3) := by decide +kernel
theorem dX1_copyFrom_72 : decode cX1_copyFrom 72 = .ok (.iconst 0, 1) := by decide +kernel
theorem dX1_copyFrom_73 : decode cX1_copyFrom 73 = .ok (.bipush 6, 2) := by decide +kernel
theorem dX1_copyFrom_75 : decode cX1_copyFrom 75 = .ok (.invokestatic 46, 3) := by decide +kernel
theorem dX1_copyFrom_78 : decode cX1_copyFrom 78 = .ok (.aload_n 1, 1) := by decide +kernel
theorem dX1_copyFrom_79 : decode cX1_copyFrom 79 = .ok (.getfield 22, 3) := by decide +kernel
theorem dX1_copyFrom_82 : decode cX1_copyFrom 82 = .ok (.iconst 0, 1) := by decide +kernel
theorem dX1_copyFrom_83 : decode cX1_copyFrom 83 = .ok (.aload_n 0, 1) := by decide +kernel
theorem dX1_copyFrom_84 : decode cX1_copyFrom 84 = .ok (.getfield 22, 3) := by decide +kernel
theorem dX1_copyFrom_87 : decode cX1_copyFrom 87 = .ok (.iconst 0, 1) := by decide +kernel
theorem dX1_copyFrom_88 : decode cX1_copyFrom 88 = .ok (.bipush 6, 2) := by decide +kernel
theorem dX1_copyFrom_90 : decode cX1_copyFrom 90 = .ok (.invokestatic 46, 3) := by decide +kernel
theorem dX1_copyFrom_93 : decode cX1_copyFrom 93 = .ok (.aload_n 1, 1) := by decide +kernel
theorem dX1_copyFrom_94 : decode cX1_copyFrom 94 = .ok (.getfield 25, 3) := by decide +kernel
theorem dX1_copyFrom_97 : decode cX1_copyFrom 97 = .ok (.iconst 0, 1) := by decide +kernel
theorem dX1_copyFrom_98 : decode cX1_copyFrom 98 = .ok (.aload_n 0, 1) := by decide +kernel
theorem dX1_copyFrom_99 : decode cX1_copyFrom 99 = .ok (.getfield 25, 3) := by decide +kernel
theorem dX1_copyFrom_102 : decode cX1_copyFrom 102 = .ok (.iconst 0, 1) := by decide +kernel
theorem dX1_copyFrom_103 : decode cX1_copyFrom 103 = .ok (.bipush 6, 2) := by decide +kernel
theorem dX1_copyFrom_105 : decode cX1_copyFrom 105 = .ok (.invokestatic 46, 3) := by decide +kernel
theorem dX1_copyFrom_108 : decode cX1_copyFrom 108 = .ok (.aload_n 1, 1) := by decide +kernel
theorem dX1_copyFrom_109 : decode cX1_copyFrom 109 = .ok (.getfield 28, 3) := by decide +kernel
theorem dX1_copyFrom_112 : decode cX1_copyFrom 112 = .ok (.iconst 0, 1) := by decide +kernel
theorem dX1_copyFrom_113 : decode cX1_copyFrom 113 = .ok (.aload_n 0, 1) := by decide +kernel
theorem dX1_copyFrom_114 : decode cX1_copyFrom 114 = .ok (.getfield 28, 3) := by decide +kernel
theorem dX1_copyFrom_117 : decode cX1_copyFrom 117 = .ok (.iconst 0, 1) := by decide +kernel
theorem dX1_copyFrom_118 : decode cX1_copyFrom 118 = .ok (.sipush 144, 3) := by decide +kernel
theorem dX1_copyFrom_121 : decode cX1_copyFrom 121 = .ok (.invokestatic 46, 3) := by decide +kernel
theorem dX1_copyFrom_124 : decode cX1_copyFrom 124 = .ok (.return_, 1) := by decide +kernel
theorem dX1_isThere_0 : decode cX1_isThere 0 = .ok (.iload_n 1, 1) := by decide +kernel
theorem dX1_isThere_1 : decode cX1_isThere 1 = .ok (.ifCond .lt 24, 3) := by decide +kernel
theorem dX1_isThere_4 : decode cX1_isThere 4 = .ok (.iload_n 1, 1) := by decide +kernel
theorem dX1_isThere_5 : decode cX1_isThere 5 = .ok (.bipush 6, 2) := by decide +kernel
theorem dX1_isThere_7 : decode cX1_isThere 7 = .ok (.if_icmp .ge 18, 3) := by decide +kernel
theorem dX1_isThere_10 : decode cX1_isThere 10 = .ok (.aload_n 0, 1) := by decide +kernel
theorem dX1_isThere_11 : decode cX1_isThere 11 = .ok (.getfield 31, 3) := by decide +kernel
theorem dX1_isThere_14 : decode cX1_isThere 14 = .ok (.iconst 1, 1) := by decide +kernel
theorem dX1_isThere_15 : decode cX1_isThere 15 = .ok (.iload_n 1, 1) := by decide +kernel
theorem dX1_isThere_16 : decode cX1_isThere 16 = .ok (.ishl, 1) := by decide +kernel
theorem dX1_isThere_17 : decode cX1_isThere 17 = .ok (.iand, 1) := by decide +kernel
theorem dX1_isThere_18 : decode cX1_isThere 18 = .ok (.ifCond .eq 7, 3) := by decide +kernel
theorem dX1_isThere_21 : decode cX1_isThere 21 = .ok (.iconst 1, 1) := by decide +kernel
theorem dX1_isThere_22 : decode cX1_isThere 22 = .ok (.goto 4, 3) := by decide +kernel
theorem dX1_isThere_25 : decode cX1_isThere 25 = .ok (.iconst 0, 1) := by decide +kernel
theorem dX1_isThere_26 : decode cX1_isThere 26 = .ok (.ireturn, 1) := by decide +kernel
theorem dX1_owns_0 : decode cX1_owns 0 = .ok (.iload_n 1, 1) := by decide +kernel
theorem dX1_owns_1 : decode cX1_owns 1 = .ok (.ifCond .lt 36, 3) := by decide +kernel
theorem dX1_owns_4 : decode cX1_owns 4 = .ok (.iload_n 1, 1) := by decide +kernel
theorem dX1_owns_5 : decode cX1_owns 5 = .ok (.bipush 6, 2) := by decide +kernel
theorem dX1_owns_7 : decode cX1_owns 7 = .ok (.if_icmp .ge 30, 3) := by decide +kernel
theorem dX1_owns_10 : decode cX1_owns 10 = .ok (.iload_n 2, 1) := by decide +kernel
theorem dX1_owns_11 : decode cX1_owns 11 = .ok (.ifCond .lt 26, 3) := by decide +kernel
theorem dX1_owns_14 : decode cX1_owns 14 = .ok (.iload_n 2, 1) := by decide +kernel
theorem dX1_owns_15 : decode cX1_owns 15 = .ok (.bipush 24, 2) := by decide +kernel
theorem dX1_owns_17 : decode cX1_owns 17 = .ok (.if_icmp .ge 20, 3) := by decide +kernel
theorem dX1_owns_20 : decode cX1_owns 20 = .ok (.aload_n 0, 1) := by decide +kernel
theorem dX1_owns_21 : decode cX1_owns 21 = .ok (.getfield 15, 3) := by decide +kernel
theorem dX1_owns_24 : decode cX1_owns 24 = .ok (.iload_n 1, 1) := by decide +kernel
theorem dX1_owns_25 : decode cX1_owns 25 = .ok (.iaload, 1) := by decide +kernel
theorem dX1_owns_26 : decode cX1_owns 26 = .ok (.iconst 1, 1) := by decide +kernel
theorem dX1_owns_27 : decode cX1_owns 27 = .ok (.iload_n 2, 1) := by decide +kernel
theorem dX1_owns_28 : decode cX1_owns 28 = .ok (.ishl, 1) := by decide +kernel
theorem dX1_owns_29 : decode cX1_owns 29 = .ok (.iand, 1) := by decide +kernel
theorem dX1_owns_30 : decode cX1_owns 30 = .ok (.ifCond .eq 7, 3) := by decide +kernel
theorem dX1_owns_33 : decode cX1_owns 33 = .ok (.iconst 1, 1) := by decide +kernel
theorem dX1_owns_34 : decode cX1_owns 34 = .ok (.goto 4, 3) := by decide +kernel
theorem dX1_owns_37 : decode cX1_owns 37 = .ok (.iconst 0, 1) := by decide +kernel
theorem dX1_owns_38 : decode cX1_owns 38 = .ok (.ireturn, 1) := by decide +kernel
set_option maxRecDepth 20000 in
theorem ggX1_pairsOf_X1_isThere : GoodIn wsX1_pairsOf wsX1_isThere := goodIn_r _ [6, 7, 8, 9, 10, 11, 12, 13, 14, 15, 16, 17, 18] (by decide +kernel) (by decide +kernel)
set_option maxRecDepth 20000 in
theorem gX1_pairsOf_X1_isThere : GoodIn wsX1_pairsOf (wsV RX1 52 RX1 yX1_isThere wsX1_isThere) := goodIn_app (goodIn_of _ (by decide +kernel)) ggX1_pairsOf_X1_isThere
theorem dX1_pairsOf_0 : decode cX1_pairsOf 0 = .ok (.aload_n 0, 1) := by decide +kernel
theorem dX1_pairsOf_1 : decode cX1_pairsOf 1 = .ok (.iload_n 1, 1) := by decide +kernel
theorem dX1_pairsOf_2 : decode cX1_pairsOf 2 = .ok (.invokevirtual 52, 3) := by decide +kernel
theorem dX1_pairsOf_5 : decode cX1_pairsOf 5 = .ok (.ifCond .eq 12, 3) := by decide +kernel
theorem dX1_pairsOf_8 : decode cX1_pairsOf 8 = .ok (.aload_n 0, 1) := by decide +kernel
theorem dX1_pairsOf_9 : decode cX1_pairsOf 9 = .ok (.getfield 15, 3) := by decide +kernel
theorem dX1_pairsOf_12 : decode cX1_pairsOf 12 = .ok (.iload_n 1, 1) := by decide +kernel
theorem dX1_pairsOf_13 : decode cX1_pairsOf 13 = .ok (.iaload, 1) := by decide +kernel
theorem dX1_pairsOf_14 : decode cX1_pairsOf 14 = .ok (.goto 4, 3) := by decide +kernel
theorem dX1_pairsOf_17 : decode cX1_pairsOf 17 = .ok (.iconst 0, 1) := by decide +kernel
theorem dX1_pairsOf_18 : decode cX1_pairsOf 18 = .ok (.ireturn, 1) := by decide +kernel
set_option maxRecDepth 20000 in
theorem ggX1_countPairs_X1_pairsOf : GoodIn wsX1_countPairs wsX1_pairsOf := goodIn_r _ [5, 6, 7, 8, 9, 4, 10, 11, 19, 20, 21, 22, 23, 24, 25, 26, 27, 28, 29] (by decide +kernel) (by decide +kernel)
set_option maxRecDepth 20000 in
theorem gX1_countPairs_X1_pairsOf : GoodIn wsX1_countPairs (wsV RX1 56 RX1 yX1_pairsOf wsX1_pairsOf) := goodIn_app (goodIn_of _ (by decide +kernel)) ggX1_countPairs_X1_pairsOf
set_option maxRecDepth 20000 in
theorem ggX1_countPairs_J6_bitCount_0f7a4 : GoodIn wsX1_countPairs wsJ6_bitCount_0f7a4 := goodIn_r _ [15, 16, 17, 18] (by decide +kernel) (by decide +kernel)
set_option maxRecDepth 20000 in
theorem gX1_countPairs_J6_bitCount_0f7a4 : GoodIn wsX1_countPairs (va_wsS RX1 60 yJ6_bitCount_0f7a4 wsJ6_bitCount_0f7a4) := goodIn_app (goodIn_of _ (by decide +kernel)) ggX1_countPairs_J6_bitCount_0f7a4
theorem dX1_countPairs_0 : decode cX1_countPairs 0 = .ok (.aload_n 0, 1) := by decide +kernel
theorem dX1_countPairs_1 : decode cX1_countPairs 1 = .ok (.iload_n 1, 1) := by decide +kernel
theorem dX1_countPairs_2 : decode cX1_countPairs 2 = .ok (.invokevirtual 56, 3) := by decide +kernel
theorem dX1_countPairs_5 : decode cX1_countPairs 5 = .ok (.invokestatic 60, 3) := by decide +kernel
theorem dX1_countPairs_8 : decode cX1_countPairs 8 = .ok (.ireturn, 1) := by decide +kernel
set_option maxRecDepth 20000 in
theorem ggX1_pairsOfSet_X1_pairsOf : GoodIn wsX1_pairsOfSet wsX1_pairsOf := goodIn_r _ [5, 6, 7, 8, 9, 4, 10, 11, 12, 13, 14, 15, 16, 17, 18, 19, 20, 21, 22] (by decide +kernel) (by decide +kernel)
set_option maxRecDepth 20000 in
theorem gX1_pairsOfSet_X1_pairsOf : GoodIn wsX1_pairsOfSet (wsV RX1 56 RX1 yX1_pairsOf wsX1_pairsOf) := goodIn_app (goodIn_of _ (by decide +kernel)) ggX1_pairsOfSet_X1_pairsOf
theorem dX1_pairsOfSet_0 : decode cX1_pairsOfSet 0 = .ok (.iconst 0, 1) := by decide +kernel
theorem dX1_pairsOfSet_1 : decode cX1_pairsOfSet 1 = .ok (.istore_n 2, 1) := by decide +kernel
theorem dX1_pairsOfSet_2 : decode cX1_pairsOfSet 2 = .ok (.iconst 0, 1) := by decide +kernel
theorem dX1_pairsOfSet_3 : decode cX1_pairsOfSet 3 = .ok (.istore_n 3, 1) := by decide +kernel
theorem dX1_pairsOfSet_4 : decode cX1_pairsOfSet 4 = .ok (.iload_n 3, 1) := by decide +kernel
theorem dX1_pairsOfSet_5 : decode cX1_pairsOfSet 5 = .ok (.bipush 6, 2) := by decide +kernel
theorem dX1_pairsOfSet_7 : decode cX1_pairsOfSet 7 = .ok (.if_icmp .ge 25, 3) := by decide +kernel
theorem dX1_pairsOfSet_10 : decode cX1_pairsOfSet 10 = .ok (.iload_n 1, 1) := by decide +kernel
theorem dX1_pairsOfSet_11 : decode cX1_pairsOfSet 11 = .ok (.iconst 1, 1) := by decide +kernel
theorem dX1_pairsOfSet_12 : decode cX1_pairsOfSet 12 = .ok (.iload_n 3, 1) := by decide +kernel
theorem dX1_pairsOfSet_13 : decode cX1_pairsOfSet 13 = .ok (.ishl, 1) := by decide +kernel
theorem dX1_pairsOfSet_14 : decode cX1_pairsOfSet 14 = .ok (.iand, 1) := by decide +kernel
theorem dX1_pairsOfSet_15 : decode cX1_pairsOfSet 15 = .ok (.ifCond .eq 11, 3) := by decide +kernel
theorem dX1_pairsOfSet_18 : decode cX1_pairsOfSet 18 = .ok (.iload_n 2, 1) := by decide +kernel
theorem dX1_pairsOfSet_19 : decode cX1_pairsOfSet 19 = .ok (.aload_n 0, 1) := by decide +kernel
theorem dX1_pairsOfSet_20 : decode cX1_pairsOfSet 20 = .ok (.iload_n 3, 1) := by decide +kernel
theorem dX1_pairsOfSet_21 : decode cX1_pairsOfSet 21 = .ok (.invokevirtual 56, 3) := by decide +kernel
theorem dX1_pairsOfSet_24 : decode cX1_pairsOfSet 24 = .ok (.ior, 1) := by decide +kernel
theorem dX1_pairsOfSet_25 : decode cX1_pairsOfSet 25 = .ok (.istore_n 2, 1) := by decide +kernel
theorem dX1_pairsOfSet_26 : decode cX1_pairsOfSet 26 = .ok (.iinc 3 1, 3) := by decide +kernel
theorem dX1_pairsOfSet_29 : decode cX1_pairsOfSet 29 = .ok (.goto (-25), 3) := by decide +kernel
theorem dX1_pairsOfSet_32 : decode cX1_pairsOfSet 32 = .ok (.iload_n 2, 1) := by decide +kernel
theorem dX1_pairsOfSet_33 : decode cX1_pairsOfSet 33 = .ok (.ireturn, 1) := by decide +kernel
set_option maxRecDepth 20000 in
theorem ggX1_ownersOf_X1_owns : GoodIn wsX1_ownersOf wsX1_owns := goodIn_r _ [5, 6, 7, 8, 9, 10, 11, 12, 13, 14, 15, 16, 17] (by decide +kernel) (by decide +kernel)
set_option maxRecDepth 20000 in
theorem gX1_ownersOf_X1_owns : GoodIn wsX1_ownersOf (wsV RX1 65 RX1 yX1_owns wsX1_owns) := goodIn_app (goodIn_of _ (by decide +kernel)) ggX1_ownersOf_X1_owns
theorem dX1_ownersOf_0 : decode cX1_ownersOf 0 = .ok (.iconst 0, 1) := by decide +kernel
theorem dX1_ownersOf_1 : decode cX1_ownersOf 1 = .ok (.istore_n 2, 1) := by decide +kernel
theorem dX1_ownersOf_2 : decode cX1_ownersOf 2 = .ok (.iconst 0, 1) := by decide +kernel
theorem dX1_ownersOf_3 : decode cX1_ownersOf 3 = .ok (.istore_n 3, 1) := by decide +kernel
theorem dX1_ownersOf_4 : decode cX1_ownersOf 4 = .ok (.iload_n 3, 1) := by decide +kernel
theorem dX1_ownersOf_5 : decode cX1_ownersOf 5 = .ok (.bipush 6, 2) := by decide +kernel
theorem dX1_ownersOf_7 : decode cX1_ownersOf 7 = .ok (.if_icmp .ge 24, 3) := by decide +kernel
theorem dX1_ownersOf_10 : decode cX1_ownersOf 10 = .ok (.aload_n 0, 1) := by decide +kernel
theorem dX1_ownersOf_11 : decode cX1_ownersOf 11 = .ok (.iload_n 3, 1) := by decide +kernel
theorem dX1_ownersOf_12 : decode cX1_ownersOf 12 = .ok (.iload_n 1, 1) := by decide +kernel
theorem dX1_ownersOf_13 : decode cX1_ownersOf 13 = .ok (.invokevirtual 65, 3) := by decide +kernel
theorem dX1_ownersOf_16 : decode cX1_ownersOf 16 = .ok (.ifCond .eq 9, 3) := by decide +kernel
theorem dX1_ownersOf_19 : decode cX1_ownersOf 19 = .ok (.iload_n 2, 1) := by decide +kernel
theorem dX1_ownersOf_20 : decode cX1_ownersOf 20 = .ok (.iconst 1, 1) := by decide +kernel
theorem dX1_ownersOf_21 : decode cX1_ownersOf 21 = .ok (.iload_n 3, 1) := by decide +kernel
theorem dX1_ownersOf_22 : decode cX1_ownersOf 22 = .ok (.ishl, 1) := by decide +kernel
theorem dX1_ownersOf_23 : decode cX1_ownersOf 23 = .ok (.ior, 1) := by decide +kernel
theorem dX1_ownersOf_24 : decode cX1_ownersOf 24 = .ok (.istore_n 2, 1) := by decide +kernel
theorem dX1_ownersOf_25 : decode cX1_ownersOf 25 = .ok (.iinc 3 1, 3) := by decide +kernel
theorem dX1_ownersOf_28 : decode cX1_ownersOf 28 = .ok (.goto (-24), 3) := by decide +kernel
theorem dX1_ownersOf_31 : decode cX1_ownersOf 31 = .ok (.iload_n 2, 1) := by decide +kernel
theorem dX1_ownersOf_32 : decode cX1_ownersOf 32 = .ok (.ireturn, 1) := by decide +kernel
set_option maxRecDepth 20000 in
theorem ggX1_wearOf_X1_owns : GoodIn wsX1_wearOf wsX1_owns := goodIn_r _ [6, 7, 8, 9, 10, 11, 12, 13, 14, 15, 16, 17, 18] (by decide +kernel) (by decide +kernel)
set_option maxRecDepth 20000 in
theorem gX1_wearOf_X1_owns : GoodIn wsX1_wearOf (wsV RX1 65 RX1 yX1_owns wsX1_owns) := goodIn_app (goodIn_of _ (by decide +kernel)) ggX1_wearOf_X1_owns
theorem dX1_wearOf_0 : decode cX1_wearOf 0 = .ok (.aload_n 0, 1) := by decide +kernel
theorem dX1_wearOf_1 : decode cX1_wearOf 1 = .ok (.iload_n 1, 1) := by decide +kernel
theorem dX1_wearOf_2 : decode cX1_wearOf 2 = .ok (.iload_n 2, 1) := by decide +kernel
theorem dX1_wearOf_3 : decode cX1_wearOf 3 = .ok (.invokevirtual 65, 3) := by decide +kernel
theorem dX1_wearOf_6 : decode cX1_wearOf 6 = .ok (.ifCond .eq 17, 3) := by decide +kernel
theorem dX1_wearOf_9 : decode cX1_wearOf 9 = .ok (.aload_n 0, 1) := by decide +kernel
theorem dX1_wearOf_10 : decode cX1_wearOf 10 = .ok (.getfield 28, 3) := by decide +kernel
theorem dX1_wearOf_13 : decode cX1_wearOf 13 = .ok (.iload_n 1, 1) := by decide +kernel
theorem dX1_wearOf_14 : decode cX1_wearOf 14 = .ok (.bipush 24, 2) := by decide +kernel
theorem dX1_wearOf_16 : decode cX1_wearOf 16 = .ok (.imul, 1) := by decide +kernel
theorem dX1_wearOf_17 : decode cX1_wearOf 17 = .ok (.iload_n 2, 1) := by decide +kernel
theorem dX1_wearOf_18 : decode cX1_wearOf 18 = .ok (.iadd, 1) := by decide +kernel
theorem dX1_wearOf_19 : decode cX1_wearOf 19 = .ok (.iaload, 1) := by decide +kernel
theorem dX1_wearOf_20 : decode cX1_wearOf 20 = .ok (.goto 5, 3) := by decide +kernel
theorem dX1_wearOf_23 : decode cX1_wearOf 23 = .ok (.bipush (-6), 2) := by decide +kernel
theorem dX1_wearOf_25 : decode cX1_wearOf 25 = .ok (.ireturn, 1) := by decide +kernel
set_option maxRecDepth 20000 in
theorem ggX1_rightOf_X1_isThere : GoodIn wsX1_rightOf wsX1_isThere := goodIn_r _ [6, 7, 8, 9, 10, 11, 12, 13, 14, 15, 16, 17, 18] (by decide +kernel) (by decide +kernel)
set_option maxRecDepth 20000 in
theorem gX1_rightOf_X1_isThere : GoodIn wsX1_rightOf (wsV RX1 52 RX1 yX1_isThere wsX1_isThere) := goodIn_app (goodIn_of _ (by decide +kernel)) ggX1_rightOf_X1_isThere
theorem dX1_rightOf_0 : decode cX1_rightOf 0 = .ok (.aload_n 0, 1) := by decide +kernel
theorem dX1_rightOf_1 : decode cX1_rightOf 1 = .ok (.iload_n 1, 1) := by decide +kernel
theorem dX1_rightOf_2 : decode cX1_rightOf 2 = .ok (.invokevirtual 52, 3) := by decide +kernel
theorem dX1_rightOf_5 : decode cX1_rightOf 5 = .ok (.ifCond .eq 12, 3) := by decide +kernel
theorem dX1_rightOf_8 : decode cX1_rightOf 8 = .ok (.aload_n 0, 1) := by decide +kernel
theorem dX1_rightOf_9 : decode cX1_rightOf 9 = .ok (.getfield 22, 3) := by decide +kernel
theorem dX1_rightOf_12 : decode cX1_rightOf 12 = .ok (.iload_n 1, 1) := by decide +kernel
theorem dX1_rightOf_13 : decode cX1_rightOf 13 = .ok (.iaload, 1) := by decide +kernel
theorem dX1_rightOf_14 : decode cX1_rightOf 14 = .ok (.goto 5, 3) := by decide +kernel
theorem dX1_rightOf_17 : decode cX1_rightOf 17 = .ok (.bipush 24, 2) := by decide +kernel
theorem dX1_rightOf_19 : decode cX1_rightOf 19 = .ok (.ireturn, 1) := by decide +kernel
set_option maxRecDepth 20000 in
theorem ggX1_tellOf_X1_isThere : GoodIn wsX1_tellOf wsX1_isThere := goodIn_r _ [8, 9, 10, 11, 12, 13, 14, 15, 16, 17, 18, 19, 20] (by decide +kernel) (by decide +kernel)
set_option maxRecDepth 20000 in
theorem gX1_tellOf_X1_isThere : GoodIn wsX1_tellOf (wsV RX1 52 RX1 yX1_isThere wsX1_isThere) := goodIn_app (goodIn_of _ (by decide +kernel)) ggX1_tellOf_X1_isThere
theorem dX1_tellOf_0 : decode cX1_tellOf 0 = .ok (.aload_n 0, 1) := by decide +kernel
theorem dX1_tellOf_1 : decode cX1_tellOf 1 = .ok (.iload_n 1, 1) := by decide +kernel
theorem dX1_tellOf_2 : decode cX1_tellOf 2 = .ok (.invokevirtual 52, 3) := by decide +kernel
theorem dX1_tellOf_5 : decode cX1_tellOf 5 = .ok (.ifCond .ne 6, 3) := by decide +kernel
theorem dX1_tellOf_8 : decode cX1_tellOf 8 = .ok (.bipush (-6), 2) := by decide +kernel
theorem dX1_tellOf_10 : decode cX1_tellOf 10 = .ok (.ireturn, 1) := by decide +kernel
theorem dX1_tellOf_11 : decode cX1_tellOf 11 = .ok (.iload_n 2, 1) := by decide +kernel
theorem dX1_tellOf_12 : decode cX1_tellOf 12 = .ok (.iconst 2, 1) := by decide +kernel
theorem dX1_tellOf_13 : decode cX1_tellOf 13 = .ok (.if_icmp .ne 10, 3) := by decide +kernel
theorem dX1_tellOf_16 : decode cX1_tellOf 16 = .ok (.aload_n 0, 1) := by decide +kernel
theorem dX1_tellOf_17 : decode cX1_tellOf 17 = .ok (.getfield 25, 3) := by decide +kernel
theorem dX1_tellOf_20 : decode cX1_tellOf 20 = .ok (.iload_n 1, 1) := by decide +kernel
theorem dX1_tellOf_21 : decode cX1_tellOf 21 = .ok (.iaload, 1) := by decide +kernel
theorem dX1_tellOf_22 : decode cX1_tellOf 22 = .ok (.ireturn, 1) := by decide +kernel
theorem dX1_tellOf_23 : decode cX1_tellOf 23 = .ok (.iload_n 2, 1) := by decide +kernel
theorem dX1_tellOf_24 : decode cX1_tellOf 24 = .ok (.ifCond .ne 12, 3) := by decide +kernel
theorem dX1_tellOf_27 : decode cX1_tellOf 27 = .ok (.aload_n 0, 1) := by decide +kernel
theorem dX1_tellOf_28 : decode cX1_tellOf 28 = .ok (.getfield 19, 3) := by decide +kernel
theorem dX1_tellOf_31 : decode cX1_tellOf 31 = .ok (.iload_n 1, 1) := by decide +kernel
theorem dX1_tellOf_32 : decode cX1_tellOf 32 = .ok (.iaload, 1) := by decide +kernel
theorem dX1_tellOf_33 : decode cX1_tellOf 33 = .ok (.goto 9, 3) := by decide +kernel
theorem dX1_tellOf_36 : decode cX1_tellOf 36 = .ok (.aload_n 0, 1) := by decide +kernel
theorem dX1_tellOf_37 : decode cX1_tellOf 37 = .ok (.getfield 22, 3) := by decide +kernel
theorem dX1_tellOf_40 : decode cX1_tellOf 40 = .ok (.iload_n 1, 1) := by decide +kernel
theorem dX1_tellOf_41 : decode cX1_tellOf 41 = .ok (.iaload, 1) := by decide +kernel
theorem dX1_tellOf_42 : decode cX1_tellOf 42 = .ok (.ireturn, 1) := by decide +kernel
set_option maxRecDepth 20000 in
theorem ggX1_arrive_X5_isWithin : GoodIn wsX1_arrive wsX5_isWithin := goodIn_r _ [9] (by decide +kernel) (by decide +kernel)
set_option maxRecDepth 20000 in
theorem gX1_arrive_X5_isWithin_n69 : GoodIn wsX1_arrive (wsX5_isWithin) := ggX1_arrive_X5_isWithin
theorem dX1_arrive_0 : decode cX1_arrive 0 = .ok (.iload_n 1, 1) := by decide +kernel
theorem dX1_arrive_1 : decode cX1_arrive 1 = .ok (.iconst 0, 1) := by decide +kernel
theorem dX1_arrive_2 : decode cX1_arrive 2 = .ok (.iconst 5, 1) := by decide +kernel
theorem dX1_arrive_3 : decode cX1_arrive 3 = .ok (.invokestatic 69, 3) := by decide +kernel
theorem dX1_arrive_6 : decode cX1_arrive 6 = .ok (.ifCond .ne 4, 3) := by decide +kernel
theorem dX1_arrive_9 : decode cX1_arrive 9 = .ok (.return_, 1) := by decide +kernel
theorem dX1_arrive_10 : decode cX1_arrive 10 = .ok (.aload_n 0, 1) := by decide +kernel
theorem dX1_arrive_11 : decode cX1_arrive 11 = .ok (.dup, 1) := by decide +kernel
theorem dX1_arrive_12 : decode cX1_arrive 12 = .ok (.getfield 31, 3) := by decide +kernel
theorem dX1_arrive_15 : decode cX1_arrive 15 = .ok (.iconst 1, 1) := by decide +kernel
theorem dX1_arrive_16 : decode cX1_arrive 16 = .ok (.iload_n 1, 1) := by decide +kernel
theorem dX1_arrive_17 : decode cX1_arrive 17 = .ok (.ishl, 1) := by decide +kernel
theorem dX1_arrive_18 : decode cX1_arrive 18 = .ok (.ior, 1) := by decide +kernel
theorem dX1_arrive_19 : decode cX1_arrive 19 = .ok (.putfield 31, 3) := by decide +kernel
theorem dX1_arrive_22 : decode cX1_arrive 22 = .ok (.aload_n 0, 1) := by decide +kernel
theorem dX1_arrive_23 : decode cX1_arrive 23 = .ok (.getfield 15, 3) := by decide +kernel
theorem dX1_arrive_26 : decode cX1_arrive 26 = .ok (.iload_n 1, 1) := by decide +kernel
theorem dX1_arrive_27 : decode cX1_arrive 27 = .ok (.iload_n 2, 1) := by decide +kernel
theorem dX1_arrive_28 : decode cX1_arrive 28 = .ok (.iastore, 1) := by decide +kernel
theorem dX1_arrive_29 : decode cX1_arrive 29 = .ok (.aload_n 0, 1) := by decide +kernel
theorem dX1_arrive_30 : decode cX1_arrive 30 = .ok (.getfield 19, 3) := by decide +kernel
theorem dX1_arrive_33 : decode cX1_arrive 33 = .ok (.iload_n 1, 1) := by decide +kernel
theorem dX1_arrive_34 : decode cX1_arrive 34 = .ok (.bipush 24, 2) := by decide +kernel
theorem dX1_arrive_36 : decode cX1_arrive 36 = .ok (.iastore, 1) := by decide +kernel
theorem dX1_arrive_37 : decode cX1_arrive 37 = .ok (.aload_n 0, 1) := by decide +kernel
theorem dX1_arrive_38 : decode cX1_arrive 38 = .ok (.getfield 22, 3) := by decide +kernel
theorem dX1_arrive_41 : decode cX1_arrive 41 = .ok (.iload_n 1, 1) := by decide +kernel
theorem dX1_arrive_42 : decode cX1_arrive 42 = .ok (.bipush 24, 2) := by decide +kernel
theorem dX1_arrive_44 : decode cX1_arrive 44 = .ok (.iastore, 1) := by decide +kernel
theorem dX1_arrive_45 : decode cX1_arrive 45 = .ok (.aload_n 0, 1) := by decide +kernel
theorem dX1_arrive_46 : decode cX1_arrive 46 = .ok (.getfield 25, 3) := by decide +kernel
theorem dX1_arrive_49 : decode cX1_arrive 49 = .ok (.iload_n 1, 1) := by decide +kernel
theorem dX1_arrive_50 : decode cX1_arrive 50 = .ok (.iconst 0, 1) := by decide +kernel
theorem dX1_arrive_51 : decode cX1_arrive 51 = .ok (.iastore, 1) := by decide +kernel
theorem dX1_arrive_52 : decode cX1_arrive 52 = .ok (.iconst 0, 1) := by decide +kernel
theorem dX1_arrive_53 : decode cX1_arrive 53 = .ok (.istore_n 3, 1) := by decide +kernel
theorem dX1_arrive_54 : decode cX1_arrive 54 = .ok (.iload_n 3, 1) := by decide +kernel
theorem dX1_arrive_55 : decode cX1_arrive 55 = .ok (.bipush 24, 2) := by decide +kernel
theorem dX1_arrive_57 : decode cX1_arrive 57 = .ok (.if_icmp .ge 21, 3) := by decide +kernel
theorem dX1_arrive_60 : decode cX1_arrive 60 = .ok (.aload_n 0, 1) := by decide +kernel
theorem dX1_arrive_61 : decode cX1_arrive 61 = .ok (.getfield 28, 3) := by decide +kernel
theorem dX1_arrive_64 : decode cX1_arrive 64 = .ok (.iload_n 1, 1) := by decide +kernel
theorem dX1_arrive_65 : decode cX1_arrive 65 = .ok (.bipush 24, 2) := by decide +kernel
theorem dX1_arrive_67 : decode cX1_arrive 67 = .ok (.imul, 1) := by decide +kernel
theorem dX1_arrive_68 : decode cX1_arrive 68 = .ok (.iload_n 3, 1) := by decide +kernel
theorem dX1_arrive_69 : decode cX1_arrive 69 = .ok (.iadd, 1) := by decide +kernel
theorem dX1_arrive_70 : decode cX1_arrive 70 = .ok (.iconst 0, 1) := by decide +kernel
theorem dX1_arrive_71 : decode cX1_arrive 71 = .ok (.iastore, 1) := by decide +kernel
theorem dX1_arrive_72 : decode cX1_arrive 72 = .ok (.iinc 3 1, 3) := by decide +kernel
theorem dX1_arrive_75 : decode cX1_arrive 75 = .ok (.goto (-21), 3) := by decide +kernel
theorem dX1_arrive_78 : decode cX1_arrive 78 = .ok (.return_, 1) := by decide +kernel
set_option maxRecDepth 20000 in
theorem ggX1_goAway_X1_isThere : GoodIn wsX1_goAway wsX1_isThere := goodIn_r _ [7, 1, 8, 9, 10, 11, 12, 13, 14, 15, 16, 17, 18] (by decide +kernel) (by decide +kernel)
set_option maxRecDepth 20000 in
theorem gX1_goAway_X1_isThere : GoodIn wsX1_goAway (wsV RX1 52 RX1 yX1_isThere wsX1_isThere) := goodIn_app (goodIn_of _ (by decide +kernel)) ggX1_goAway_X1_isThere
theorem dX1_goAway_0 : decode cX1_goAway 0 = .ok (.aload_n 0, 1) := by decide +kernel
theorem dX1_goAway_1 : decode cX1_goAway 1 = .ok (.iload_n 1, 1) := by decide +kernel
theorem dX1_goAway_2 : decode cX1_goAway 2 = .ok (.invokevirtual 52, 3) := by decide +kernel
theorem dX1_goAway_5 : decode cX1_goAway 5 = .ok (.ifCond .eq 24, 3) := by decide +kernel
theorem dX1_goAway_8 : decode cX1_goAway 8 = .ok (.aload_n 0, 1) := by decide +kernel
theorem dX1_goAway_9 : decode cX1_goAway 9 = .ok (.dup, 1) := by decide +kernel
theorem dX1_goAway_10 : decode cX1_goAway 10 = .ok (.getfield 31, 3) := by decide +kernel
theorem dX1_goAway_13 : decode cX1_goAway 13 = .ok (.iconst 1, 1) := by decide +kernel
theorem dX1_goAway_14 : decode cX1_goAway 14 = .ok (.iload_n 1, 1) := by decide +kernel
theorem dX1_goAway_15 : decode cX1_goAway 15 = .ok (.ishl, 1) := by decide +kernel
theorem dX1_goAway_16 : decode cX1_goAway 16 = .ok (.iconst (-1), 1) := by decide +kernel
theorem dX1_goAway_17 : decode cX1_goAway 17 = .ok (.ixor, 1) := by decide +kernel
theorem dX1_goAway_18 : decode cX1_goAway 18 = .ok (.iand, 1) := by decide +kernel
theorem dX1_goAway_19 : decode cX1_goAway 19 = .ok (.putfield 31, 3) := by decide +kernel
theorem dX1_goAway_22 : decode cX1_goAway 22 = .ok (.aload_n 0, 1) := by decide +kernel
theorem dX1_goAway_23 : decode cX1_goAway 23 = .ok (.getfield 15, 3) := by decide +kernel
theorem dX1_goAway_26 : decode cX1_goAway 26 = .ok (.iload_n 1, 1) := by decide +kernel
theorem dX1_goAway_27 : decode cX1_goAway 27 = .ok (.iconst 0, 1) := by decide +kernel
theorem dX1_goAway_28 : decode cX1_goAway 28 = .ok (.iastore, 1) := by decide +kernel
theorem dX1_goAway_29 : decode cX1_goAway 29 = .ok (.return_, 1) := by decide +kernel
set_option maxRecDepth 20000 in
theorem ggX1_isProper_X1_isThere : GoodIn wsX1_isProper wsX1_isThere := goodIn_r _ [8, 9, 10, 11, 12, 13, 14, 15, 16, 17, 18, 19, 20] (by decide +kernel) (by decide +kernel)
set_option maxRecDepth 20000 in
theorem gX1_isProper_X1_isThere : GoodIn wsX1_isProper (wsV RX1 52 RX1 yX1_isThere wsX1_isThere) := goodIn_app (goodIn_of _ (by decide +kernel)) ggX1_isProper_X1_isThere
theorem dX1_isProper_0 : decode cX1_isProper 0 = .ok (.aload_n 0, 1) := by decide +kernel
theorem dX1_isProper_1 : decode cX1_isProper 1 = .ok (.iload_n 1, 1) := by decide +kernel
theorem dX1_isProper_2 : decode cX1_isProper 2 = .ok (.invokevirtual 52, 3) := by decide +kernel
theorem dX1_isProper_5 : decode cX1_isProper 5 = .ok (.ifCond .eq 16, 3) := by decide +kernel
theorem dX1_isProper_8 : decode cX1_isProper 8 = .ok (.aload_n 0, 1) := by decide +kernel
theorem dX1_isProper_9 : decode cX1_isProper 9 = .ok (.getfield 22, 3) := by decide +kernel
theorem dX1_isProper_12 : decode cX1_isProper 12 = .ok (.iload_n 1, 1) := by decide +kernel
theorem dX1_isProper_13 : decode cX1_isProper 13 = .ok (.iaload, 1) := by decide +kernel
theorem dX1_isProper_14 : decode cX1_isProper 14 = .ok (.aload_n 0, 1) := by decide +kernel
theorem dX1_isProper_15 : decode cX1_isProper 15 = .ok (.getfield 34, 3) := by decide +kernel
theorem dX1_isProper_18 : decode cX1_isProper 18 = .ok (.if_icmp .eq 5, 3) := by decide +kernel
theorem dX1_isProper_21 : decode cX1_isProper 21 = .ok (.iconst 0, 1) := by decide +kernel
theorem dX1_isProper_22 : decode cX1_isProper 22 = .ok (.ireturn, 1) := by decide +kernel
theorem dX1_isProper_23 : decode cX1_isProper 23 = .ok (.aload_n 0, 1) := by decide +kernel
theorem dX1_isProper_24 : decode cX1_isProper 24 = .ok (.getfield 34, 3) := by decide +kernel
theorem dX1_isProper_27 : decode cX1_isProper 27 = .ok (.ifCond .ne 8, 3) := by decide +kernel
theorem dX1_isProper_30 : decode cX1_isProper 30 = .ok (.bipush 23, 2) := by decide +kernel
theorem dX1_isProper_32 : decode cX1_isProper 32 = .ok (.goto 9, 3) := by decide +kernel
theorem dX1_isProper_35 : decode cX1_isProper 35 = .ok (.aload_n 0, 1) := by decide +kernel
theorem dX1_isProper_36 : decode cX1_isProper 36 = .ok (.getfield 34, 3) := by decide +kernel
theorem dX1_isProper_39 : decode cX1_isProper 39 = .ok (.iconst 1, 1) := by decide +kernel
theorem dX1_isProper_40 : decode cX1_isProper 40 = .ok (.isub, 1) := by decide +kernel
theorem dX1_isProper_41 : decode cX1_isProper 41 = .ok (.istore_n 2, 1) := by decide +kernel
theorem dX1_isProper_42 : decode cX1_isProper 42 = .ok (.aload_n 0, 1) := by decide +kernel
theorem dX1_isProper_43 : decode cX1_isProper 43 = .ok (.getfield 19, 3) := by decide +kernel
theorem dX1_isProper_46 : decode cX1_isProper 46 = .ok (.iload_n 1, 1) := by decide +kernel
theorem dX1_isProper_47 : decode cX1_isProper 47 = .ok (.iaload, 1) := by decide +kernel
theorem dX1_isProper_48 : decode cX1_isProper 48 = .ok (.aload_n 0, 1) := by decide +kernel
theorem dX1_isProper_49 : decode cX1_isProper 49 = .ok (.getfield 34, 3) := by decide +kernel
theorem dX1_isProper_52 : decode cX1_isProper 52 = .ok (.if_icmp .eq 13, 3) := by decide +kernel
theorem dX1_isProper_55 : decode cX1_isProper 55 = .ok (.aload_n 0, 1) := by decide +kernel
theorem dX1_isProper_56 : decode cX1_isProper 56 = .ok (.getfield 19, 3) := by decide +kernel
theorem dX1_isProper_59 : decode cX1_isProper 59 = .ok (.iload_n 1, 1) := by decide +kernel
theorem dX1_isProper_60 : decode cX1_isProper 60 = .ok (.iaload, 1) := by decide +kernel
theorem dX1_isProper_61 : decode cX1_isProper 61 = .ok (.iload_n 2, 1) := by decide +kernel
theorem dX1_isProper_62 : decode cX1_isProper 62 = .ok (.if_icmp .ne 7, 3) := by decide +kernel
theorem dX1_isProper_65 : decode cX1_isProper 65 = .ok (.iconst 1, 1) := by decide +kernel
theorem dX1_isProper_66 : decode cX1_isProper 66 = .ok (.goto 4, 3) := by decide +kernel
theorem dX1_isProper_69 : decode cX1_isProper 69 = .ok (.iconst 0, 1) := by decide +kernel
theorem dX1_isProper_70 : decode cX1_isProper 70 = .ok (.ireturn, 1) := by decide +kernel
set_option maxRecDepth 20000 in
theorem ggX1_passHour_X1_isThere : GoodIn wsX1_passHour wsX1_isThere := goodIn_r _ [7, 8, 15, 16, 17, 18, 19, 20, 21, 22, 23, 24, 25] (by decide +kernel) (by decide +kernel)
set_option maxRecDepth 20000 in
theorem gX1_passHour_X1_isThere : GoodIn wsX1_passHour (wsV RX1 52 RX1 yX1_isThere wsX1_isThere) := goodIn_app (goodIn_of _ (by decide +kernel)) ggX1_passHour_X1_isThere
set_option maxRecDepth 20000 in
theorem ggX1_passHour_X1_isProper : GoodIn wsX1_passHour wsX1_isProper := goodIn_r _ [12, 13, 2, 14, 3, 4, 5, 6, 7, 8, 15, 16, 17, 18, 19, 20, 21, 22, 23, 24, 25] (by decide +kernel) (by decide +kernel)
set_option maxRecDepth 20000 in
theorem gX1_passHour_X1_isProper : GoodIn wsX1_passHour (wsV RX1 73 RX1 yX1_isProper wsX1_isProper) := goodIn_app (goodIn_of _ (by decide +kernel)) ggX1_passHour_X1_isProper
theorem dX1_passHour_0 : decode cX1_passHour 0 = .ok (.iconst 0, 1) := by decide +kernel
theorem dX1_passHour_1 : decode cX1_passHour 1 = .ok (.istore_n 1, 1) := by decide +kernel
theorem dX1_passHour_2 : decode cX1_passHour 2 = .ok (.iload_n 1, 1) := by decide +kernel
theorem dX1_passHour_3 : decode cX1_passHour 3 = .ok (.bipush 6, 2) := by decide +kernel
theorem dX1_passHour_5 : decode cX1_passHour 5 = .ok (.if_icmp .ge 46, 3) := by decide +kernel
theorem dX1_passHour_8 : decode cX1_passHour 8 = .ok (.aload_n 0, 1) := by decide +kernel
theorem dX1_passHour_9 : decode cX1_passHour 9 = .ok (.iload_n 1, 1) := by decide +kernel
theorem dX1_passHour_10 : decode cX1_passHour 10 = .ok (.invokevirtual 52, 3) := by decide +kernel
theorem dX1_passHour_13 : decode cX1_passHour 13 = .ok (.ifCond .eq 32, 3) := by decide +kernel
theorem dX1_passHour_16 : decode cX1_passHour 16 = .ok (.aload_n 0, 1) := by decide +kernel
theorem dX1_passHour_17 : decode cX1_passHour 17 = .ok (.iload_n 1, 1) := by decide +kernel
theorem dX1_passHour_18 : decode cX1_passHour 18 = .ok (.invokevirtual 73, 3) := by decide +kernel
theorem dX1_passHour_21 : decode cX1_passHour 21 = .ok (.ifCond .ne 24, 3) := by decide +kernel
theorem dX1_passHour_24 : decode cX1_passHour 24 = .ok (.aload_n 0, 1) := by decide +kernel
theorem dX1_passHour_25 : decode cX1_passHour 25 = .ok (.getfield 25, 3) := by decide +kernel
theorem dX1_passHour_28 : decode cX1_passHour 28 = .ok (.iload_n 1, 1) := by decide +kernel
theorem dX1_passHour_29 : decode cX1_passHour 29 = .ok (.iaload, 1) := by decide +kernel
theorem dX1_passHour_30 : decode cX1_passHour 30 = .ok (.bipush 99, 2) := by decide +kernel
theorem dX1_passHour_32 : decode cX1_passHour 32 = .ok (.if_icmp .ge 13, 3) := by decide +kernel
theorem dX1_passHour_35 : decode cX1_passHour 35 = .ok (.aload_n 0, 1) := by decide +kernel
theorem dX1_passHour_36 : decode cX1_passHour 36 = .ok (.getfield 25, 3) := by decide +kernel
theorem dX1_passHour_39 : decode cX1_passHour 39 = .ok (.iload_n 1, 1) := by decide +kernel
theorem dX1_passHour_40 : decode cX1_passHour 40 = .ok (.dup2, 1) := by decide +kernel
theorem dX1_passHour_41 : decode cX1_passHour 41 = .ok (.iaload, 1) := by decide +kernel
theorem dX1_passHour_42 : decode cX1_passHour 42 = .ok (.iconst 1, 1) := by decide +kernel
theorem dX1_passHour_43 : decode cX1_passHour 43 = .ok (.iadd, 1) := by decide +kernel
theorem dX1_passHour_44 : decode cX1_passHour 44 = .ok (.iastore, 1) := by decide +kernel
theorem dX1_passHour_45 : decode cX1_passHour 45 = .ok (.iinc 1 1, 3) := by decide +kernel
theorem dX1_passHour_48 : decode cX1_passHour 48 = .ok (.goto (-46), 3) := by decide +kernel
theorem dX1_passHour_51 : decode cX1_passHour 51 = .ok (.aload_n 0, 1) := by decide +kernel
theorem dX1_passHour_52 : decode cX1_passHour 52 = .ok (.aload_n 0, 1) := by decide +kernel
theorem dX1_passHour_53 : decode cX1_passHour 53 = .ok (.getfield 34, 3) := by decide +kernel
theorem dX1_passHour_56 : decode cX1_passHour 56 = .ok (.bipush 23, 2) := by decide +kernel
theorem dX1_passHour_58 : decode cX1_passHour 58 = .ok (.if_icmp .ne 7, 3) := by decide +kernel
theorem dX1_passHour_61 : decode cX1_passHour 61 = .ok (.iconst 0, 1) := by decide +kernel
theorem dX1_passHour_62 : decode cX1_passHour 62 = .ok (.goto 9, 3) := by decide +kernel
theorem dX1_passHour_65 : decode cX1_passHour 65 = .ok (.aload_n 0, 1) := by decide +kernel
theorem dX1_passHour_66 : decode cX1_passHour 66 = .ok (.getfield 34, 3) := by decide +kernel
theorem dX1_passHour_69 : decode cX1_passHour 69 = .ok (.iconst 1, 1) := by decide +kernel
theorem dX1_passHour_70 : decode cX1_passHour 70 = .ok (.iadd, 1) := by decide +kernel
theorem dX1_passHour_71 : decode cX1_passHour 71 = .ok (.putfield 34, 3) := by decide +kernel
theorem dX1_passHour_74 : decode cX1_passHour 74 = .ok (.return_, 1) := by decide +kernel
set_option maxRecDepth 20000 in
theorem ggX1_putOnLeft_X1_owns : GoodIn wsX1_putOnLeft wsX1_owns := goodIn_r _ [6, 7, 17, 18, 19, 20, 21, 22, 23, 24, 25, 26, 27] (by decide +kernel) (by decide +kernel)
set_option maxRecDepth 20000 in
theorem gX1_putOnLeft_X1_owns : GoodIn wsX1_putOnLeft (wsV RX1 65 RX1 yX1_owns wsX1_owns) := goodIn_app (goodIn_of _ (by decide +kernel)) ggX1_putOnLeft_X1_owns
set_option maxRecDepth 20000 in
theorem ggX1_putOnLeft_X1_whyNotHis : GoodIn wsX1_putOnLeft wsX1_whyNotHis := goodIn_r _ [11, 12, 13, 14, 5, 15, 16, 2, 3, 4, 6, 7, 17, 18, 19, 20, 21, 22, 23, 24, 25, 26, 27] (by decide +kernel) (by decide +kernel)
set_option maxRecDepth 20000 in
theorem gX1_putOnLeft_X1_whyNotHis : GoodIn wsX1_putOnLeft (wsV RX1 76 RX1 yX1_whyNotHis wsX1_whyNotHis) := goodIn_app (goodIn_of _ (by decide +kernel)) ggX1_putOnLeft_X1_whyNotHis
theorem dX1_putOnLeft_0 : decode cX1_putOnLeft 0 = .ok (.aload_n 0, 1) := by decide +kernel
theorem dX1_putOnLeft_1 : decode cX1_putOnLeft 1 = .ok (.iload_n 1, 1) := by decide +kernel
theorem dX1_putOnLeft_2 : decode cX1_putOnLeft 2 = .ok (.iload_n 2, 1) := by decide +kernel
theorem dX1_putOnLeft_3 : decode cX1_putOnLeft 3 = .ok (.invokevirtual 65, 3) := by decide +kernel
theorem dX1_putOnLeft_6 : decode cX1_putOnLeft 6 = .ok (.ifCond .eq 10, 3) := by decide +kernel
theorem dX1_putOnLeft_9 : decode cX1_putOnLeft 9 = .ok (.aload_n 0, 1) := by decide +kernel
theorem dX1_putOnLeft_10 : decode cX1_putOnLeft 10 = .ok (.getfield 19, 3) := by decide +kernel
theorem dX1_putOnLeft_13 : decode cX1_putOnLeft 13 = .ok (.iload_n 1, 1) := by decide +kernel
theorem dX1_putOnLeft_14 : decode cX1_putOnLeft 14 = .ok (.iload_n 2, 1) := by decide +kernel
theorem dX1_putOnLeft_15 : decode cX1_putOnLeft 15 = .ok (.iastore, 1) := by decide +kernel
theorem dX1_putOnLeft_16 : decode cX1_putOnLeft 16 = .ok (.aload_n 0, 1) := by decide +kernel
theorem dX1_putOnLeft_17 : decode cX1_putOnLeft 17 = .ok (.iload_n 1, 1) := by decide +kernel
theorem dX1_putOnLeft_18 : decode cX1_putOnLeft 18 = .ok (.iload_n 2, 1) := by decide +kernel
theorem dX1_putOnLeft_19 : decode cX1_putOnLeft 19 = .ok (.invokevirtual 76, 3) := by decide +kernel
theorem dX1_putOnLeft_22 : decode cX1_putOnLeft 22 = .ok (.ireturn, 1) := by decide +kernel
set_option maxRecDepth 20000 in
theorem ggX1_putOnRight_X1_owns : GoodIn wsX1_putOnRight wsX1_owns := goodIn_r _ [6, 7, 17, 18, 19, 20, 21, 22, 23, 24, 25, 26, 27] (by decide +kernel) (by decide +kernel)
set_option maxRecDepth 20000 in
theorem gX1_putOnRight_X1_owns : GoodIn wsX1_putOnRight (wsV RX1 65 RX1 yX1_owns wsX1_owns) := goodIn_app (goodIn_of _ (by decide +kernel)) ggX1_putOnRight_X1_owns
set_option maxRecDepth 20000 in
theorem ggX1_putOnRight_X1_whyNotHis : GoodIn wsX1_putOnRight wsX1_whyNotHis := goodIn_r _ [11, 12, 13, 14, 5, 15, 16, 2, 3, 4, 6, 7, 17, 18, 19, 20, 21, 22, 23, 24, 25, 26, 27] (by decide +kernel) (by decide +kernel)
set_option maxRecDepth 20000 in
theorem gX1_putOnRight_X1_whyNotHis : GoodIn wsX1_putOnRight (wsV RX1 76 RX1 yX1_whyNotHis wsX1_whyNotHis) := goodIn_app (goodIn_of _ (by decide +kernel)) ggX1_putOnRight_X1_whyNotHis
theorem dX1_putOnRight_0 : decode cX1_putOnRight 0 = .ok (.aload_n 0, 1) := by decide +kernel
theorem dX1_putOnRight_1 : decode cX1_putOnRight 1 = .ok (.iload_n 1, 1) := by decide +kernel
theorem dX1_putOnRight_2 : decode cX1_putOnRight 2 = .ok (.iload_n 2, 1) := by decide +kernel
theorem dX1_putOnRight_3 : decode cX1_putOnRight 3 = .ok (.invokevirtual 65, 3) := by decide +kernel
theorem dX1_putOnRight_6 : decode cX1_putOnRight 6 = .ok (.ifCond .eq 10, 3) := by decide +kernel
theorem dX1_putOnRight_9 : decode cX1_putOnRight 9 = .ok (.aload_n 0, 1) := by decide +kernel
theorem dX1_putOnRight_10 : decode cX1_putOnRight 10 = .ok (.getfield 22, 3) := by decide +kernel
theorem dX1_putOnRight_13 : decode cX1_putOnRight 13 = .ok (.iload_n 1, 1) := by decide +kernel
theorem dX1_putOnRight_14 : decode cX1_putOnRight 14 = .ok (.iload_n 2, 1) := by decide +kernel
theorem dX1_putOnRight_15 : decode cX1_putOnRight 15 = .ok (.iastore, 1) := by decide +kernel
theorem dX1_putOnRight_16 : decode cX1_putOnRight 16 = .ok (.aload_n 0, 1) := by decide +kernel
theorem dX1_putOnRight_17 : decode cX1_putOnRight 17 = .ok (.iload_n 1, 1) := by decide +kernel
theorem dX1_putOnRight_18 : decode cX1_putOnRight 18 = .ok (.iload_n 2, 1) := by decide +kernel
theorem dX1_putOnRight_19 : decode cX1_putOnRight 19 = .ok (.invokevirtual 76, 3) := by decide +kernel
theorem dX1_putOnRight_22 : decode cX1_putOnRight 22 = .ok (.ireturn, 1) := by decide +kernel
set_option maxRecDepth 20000 in
theorem ggX1_whyNotHis_X1_isThere : GoodIn wsX1_whyNotHis wsX1_isThere := goodIn_r _ [5, 6, 12, 13, 14, 15, 16, 17, 18, 19, 20, 21, 22] (by decide +kernel) (by decide +kernel)
set_option maxRecDepth 20000 in
theorem gX1_whyNotHis_X1_isThere : GoodIn wsX1_whyNotHis (wsV RX1 52 RX1 yX1_isThere wsX1_isThere) := goodIn_app (goodIn_of _ (by decide +kernel)) ggX1_whyNotHis_X1_isThere
set_option maxRecDepth 20000 in
theorem ggX1_whyNotHis_X1_owns : GoodIn wsX1_whyNotHis wsX1_owns := goodIn_r _ [10, 11, 12, 13, 14, 15, 16, 17, 18, 19, 20, 21, 22] (by decide +kernel) (by decide +kernel)
set_option maxRecDepth 20000 in
theorem gX1_whyNotHis_X1_owns : GoodIn wsX1_whyNotHis (wsV RX1 65 RX1 yX1_owns wsX1_owns) := goodIn_app (goodIn_of _ (by decide +kernel)) ggX1_whyNotHis_X1_owns
theorem dX1_whyNotHis_0 : decode cX1_whyNotHis 0 = .ok (.aload_n 0, 1) := by decide +kernel
theorem dX1_whyNotHis_1 : decode cX1_whyNotHis 1 = .ok (.iload_n 1, 1) := by decide +kernel
theorem dX1_whyNotHis_2 : decode cX1_whyNotHis 2 = .ok (.invokevirtual 52, 3) := by decide +kernel
theorem dX1_whyNotHis_5 : decode cX1_whyNotHis 5 = .ok (.ifCond .ne 5, 3) := by decide +kernel
theorem dX1_whyNotHis_8 : decode cX1_whyNotHis 8 = .ok (.iconst 1, 1) := by decide +kernel
theorem dX1_whyNotHis_9 : decode cX1_whyNotHis 9 = .ok (.ireturn, 1) := by decide +kernel
theorem dX1_whyNotHis_10 : decode cX1_whyNotHis 10 = .ok (.aload_n 0, 1) := by decide +kernel
theorem dX1_whyNotHis_11 : decode cX1_whyNotHis 11 = .ok (.iload_n 1, 1) := by decide +kernel
theorem dX1_whyNotHis_12 : decode cX1_whyNotHis 12 = .ok (.iload_n 2, 1) := by decide +kernel
theorem dX1_whyNotHis_13 : decode cX1_whyNotHis 13 = .ok (.invokevirtual 65, 3) := by decide +kernel
theorem dX1_whyNotHis_16 : decode cX1_whyNotHis 16 = .ok (.ifCond .eq 7, 3) := by decide +kernel
theorem dX1_whyNotHis_19 : decode cX1_whyNotHis 19 = .ok (.iconst 0, 1) := by decide +kernel
theorem dX1_whyNotHis_20 : decode cX1_whyNotHis 20 = .ok (.goto 4, 3) := by decide +kernel
theorem dX1_whyNotHis_23 : decode cX1_whyNotHis 23 = .ok (.iconst 3, 1) := by decide +kernel
theorem dX1_whyNotHis_24 : decode cX1_whyNotHis 24 = .ok (.ireturn, 1) := by decide +kernel
set_option maxRecDepth 20000 in
theorem ggX1_takeOff_X1_isThere : GoodIn wsX1_takeOff wsX1_isThere := goodIn_r _ [7, 8, 9, 10, 11, 12, 13, 14, 15, 16, 17, 18, 19] (by decide +kernel) (by decide +kernel)
set_option maxRecDepth 20000 in
theorem gX1_takeOff_X1_isThere : GoodIn wsX1_takeOff (wsV RX1 52 RX1 yX1_isThere wsX1_isThere) := goodIn_app (goodIn_of _ (by decide +kernel)) ggX1_takeOff_X1_isThere
theorem dX1_takeOff_0 : decode cX1_takeOff 0 = .ok (.aload_n 0, 1) := by decide +kernel
theorem dX1_takeOff_1 : decode cX1_takeOff 1 = .ok (.iload_n 1, 1) := by decide +kernel
theorem dX1_takeOff_2 : decode cX1_takeOff 2 = .ok (.invokevirtual 52, 3) := by decide +kernel
theorem dX1_takeOff_5 : decode cX1_takeOff 5 = .ok (.ifCond .ne 5, 3) := by decide +kernel
theorem dX1_takeOff_8 : decode cX1_takeOff 8 = .ok (.iconst 1, 1) := by decide +kernel
theorem dX1_takeOff_9 : decode cX1_takeOff 9 = .ok (.ireturn, 1) := by decide +kernel
theorem dX1_takeOff_10 : decode cX1_takeOff 10 = .ok (.aload_n 0, 1) := by decide +kernel
theorem dX1_takeOff_11 : decode cX1_takeOff 11 = .ok (.getfield 19, 3) := by decide +kernel
theorem dX1_takeOff_14 : decode cX1_takeOff 14 = .ok (.iload_n 1, 1) := by decide +kernel
theorem dX1_takeOff_15 : decode cX1_takeOff 15 = .ok (.bipush 24, 2) := by decide +kernel
theorem dX1_takeOff_17 : decode cX1_takeOff 17 = .ok (.iastore, 1) := by decide +kernel
theorem dX1_takeOff_18 : decode cX1_takeOff 18 = .ok (.aload_n 0, 1) := by decide +kernel
theorem dX1_takeOff_19 : decode cX1_takeOff 19 = .ok (.getfield 22, 3) := by decide +kernel
theorem dX1_takeOff_22 : decode cX1_takeOff 22 = .ok (.iload_n 1, 1) := by decide +kernel
theorem dX1_takeOff_23 : decode cX1_takeOff 23 = .ok (.bipush 24, 2) := by decide +kernel
theorem dX1_takeOff_25 : decode cX1_takeOff 25 = .ok (.iastore, 1) := by decide +kernel
theorem dX1_takeOff_26 : decode cX1_takeOff 26 = .ok (.iconst 0, 1) := by decide +kernel
theorem dX1_takeOff_27 : decode cX1_takeOff 27 = .ok (.ireturn, 1) := by decide +kernel
set_option maxRecDepth 20000 in
theorem ggX1_give_X1_whyNotGiven : GoodIn wsX1_give wsX1_whyNotGiven := goodIn_r _ [7, 8, 9, 10, 6, 11, 12, 13, 14, 15, 16, 2, 23, 24, 25, 26, 27, 28, 29, 30, 31, 32, 33] (by decide +kernel) (by decide +kernel)
set_option maxRecDepth 20000 in
theorem gX1_give_X1_whyNotGiven : GoodIn wsX1_give (wsV RX1 80 RX1 yX1_whyNotGiven wsX1_whyNotGiven) := goodIn_app (goodIn_of _ (by decide +kernel)) ggX1_give_X1_whyNotGiven
set_option maxRecDepth 20000 in
theorem ggX1_give_X1_owns : GoodIn wsX1_give wsX1_owns := goodIn_r _ [16, 2, 23, 24, 25, 26, 27, 28, 29, 30, 31, 32, 33] (by decide +kernel) (by decide +kernel)
set_option maxRecDepth 20000 in
theorem gX1_give_X1_owns : GoodIn wsX1_give (wsV RX1 65 RX1 yX1_owns wsX1_owns) := goodIn_app (goodIn_of _ (by decide +kernel)) ggX1_give_X1_owns
set_option maxRecDepth 20000 in
theorem ggX1_give_X1_isThere : GoodIn wsX1_give wsX1_isThere := goodIn_r _ [11, 12, 23, 24, 25, 26, 27, 28, 29, 30, 31, 32, 33] (by decide +kernel) (by decide +kernel)
set_option maxRecDepth 20000 in
theorem gX1_give_X1_isThere : GoodIn wsX1_give (wsV RX1 52 RX1 yX1_isThere wsX1_isThere) := goodIn_app (goodIn_of _ (by decide +kernel)) ggX1_give_X1_isThere
set_option maxRecDepth 20000 in
theorem ggX1_give_X1_losePair : GoodIn wsX1_give wsX1_losePair := goodIn_r _ [20, 2, 21, 22, 23, 24, 25, 26, 27, 28, 29, 30, 31, 32, 33] (by decide +kernel) (by decide +kernel)
set_option maxRecDepth 20000 in
theorem gX1_give_X1_losePair : GoodIn wsX1_give (wsV RX1 84 RX1 yX1_losePair wsX1_losePair) := goodIn_app (goodIn_of _ (by decide +kernel)) ggX1_give_X1_losePair
theorem dX1_give_0 : decode cX1_give 0 = .ok (.aload_n 0, 1) := by decide +kernel
theorem dX1_give_1 : decode cX1_give 1 = .ok (.iload_n 1, 1) := by decide +kernel
theorem dX1_give_2 : decode cX1_give 2 = .ok (.iload_n 2, 1) := by decide +kernel
theorem dX1_give_3 : decode cX1_give 3 = .ok (.iload_n 3, 1) := by decide +kernel
theorem dX1_give_4 : decode cX1_give 4 = .ok (.invokevirtual 80, 3) := by decide +kernel
theorem dX1_give_7 : decode cX1_give 7 = .ok (.istore 4, 2) := by decide +kernel
theorem dX1_give_9 : decode cX1_give 9 = .ok (.iload 4, 2) := by decide +kernel
theorem dX1_give_11 : decode cX1_give 11 = .ok (.ifCond .ne 60, 3) := by decide +kernel
theorem dX1_give_14 : decode cX1_give 14 = .ok (.aload_n 0, 1) := by decide +kernel
theorem dX1_give_15 : decode cX1_give 15 = .ok (.iload_n 1, 1) := by decide +kernel
theorem dX1_give_16 : decode cX1_give 16 = .ok (.iload_n 3, 1) := by decide +kernel
theorem dX1_give_17 : decode cX1_give 17 = .ok (.invokevirtual 65, 3) := by decide +kernel
theorem dX1_give_20 : decode cX1_give 20 = .ok (.ifCond .eq 51, 3) := by decide +kernel
theorem dX1_give_23 : decode cX1_give 23 = .ok (.aload_n 0, 1) := by decide +kernel
theorem dX1_give_24 : decode cX1_give 24 = .ok (.iload_n 2, 1) := by decide +kernel
theorem dX1_give_25 : decode cX1_give 25 = .ok (.invokevirtual 52, 3) := by decide +kernel
theorem dX1_give_28 : decode cX1_give 28 = .ok (.ifCond .eq 43, 3) := by decide +kernel
theorem dX1_give_31 : decode cX1_give 31 = .ok (.aload_n 0, 1) := by decide +kernel
theorem dX1_give_32 : decode cX1_give 32 = .ok (.getfield 28, 3) := by decide +kernel
theorem dX1_give_35 : decode cX1_give 35 = .ok (.iload_n 2, 1) := by decide +kernel
theorem dX1_give_36 : decode cX1_give 36 = .ok (.bipush 24, 2) := by decide +kernel
theorem dX1_give_38 : decode cX1_give 38 = .ok (.imul, 1) := by decide +kernel
theorem dX1_give_39 : decode cX1_give 39 = .ok (.iload_n 3, 1) := by decide +kernel
theorem dX1_give_40 : decode cX1_give 40 = .ok (.iadd, 1) := by decide +kernel
theorem dX1_give_41 : decode cX1_give 41 = .ok (.aload_n 0, 1) := by decide +kernel
theorem dX1_give_42 : decode cX1_give 42 = .ok (.getfield 28, 3) := by decide +kernel
theorem dX1_give_45 : decode cX1_give 45 = .ok (.iload_n 1, 1) := by decide +kernel
theorem dX1_give_46 : decode cX1_give 46 = .ok (.bipush 24, 2) := by decide +kernel
theorem dX1_give_48 : decode cX1_give 48 = .ok (.imul, 1) := by decide +kernel
theorem dX1_give_49 : decode cX1_give 49 = .ok (.iload_n 3, 1) := by decide +kernel
theorem dX1_give_50 : decode cX1_give 50 = .ok (.iadd, 1) := by decide +kernel
theorem dX1_give_51 : decode cX1_give 51 = .ok (.iaload, 1) := by decide +kernel
theorem dX1_give_52 : decode cX1_give 52 = .ok (.iastore, 1) := by decide +kernel
theorem dX1_give_53 : decode cX1_give 53 = .ok (.aload_n 0, 1) := by decide +kernel
theorem dX1_give_54 : decode cX1_give 54 = .ok (.getfield 15, 3) := by decide +kernel
theorem dX1_give_57 : decode cX1_give 57 = .ok (.iload_n 2, 1) := by decide +kernel
theorem dX1_give_58 : decode cX1_give 58 = .ok (.dup2, 1) := by decide +kernel
theorem dX1_give_59 : decode cX1_give 59 = .ok (.iaload, 1) := by decide +kernel
theorem dX1_give_60 : decode cX1_give 60 = .ok (.iconst 1, 1) := by decide +kernel
theorem dX1_give_61 : decode cX1_give 61 = .ok (.iload_n 3, 1) := by decide +kernel
theorem dX1_give_62 : decode cX1_give 62 = .ok (.ishl, 1) := by decide +kernel
theorem dX1_give_63 : decode cX1_give 63 = .ok (.ior, 1) := by decide +kernel
theorem dX1_give_64 : decode cX1_give 64 = .ok (.iastore, 1) := by decide +kernel
theorem dX1_give_65 : decode cX1_give 65 = .ok (.aload_n 0, 1) := by decide +kernel
theorem dX1_give_66 : decode cX1_give 66 = .ok (.iload_n 1, 1) := by decide +kernel
theorem dX1_give_67 : decode cX1_give 67 = .ok (.iload_n 3, 1) := by decide +kernel
theorem dX1_give_68 : decode cX1_give 68 = .ok (.invokevirtual 84, 3) := by decide +kernel
theorem dX1_give_71 : decode cX1_give 71 = .ok (.iload 4, 2) := by decide +kernel
theorem dX1_give_73 : decode cX1_give 73 = .ok (.ireturn, 1) := by decide +kernel
set_option maxRecDepth 20000 in
theorem ggX1_whyNotGiven_X1_isThere : GoodIn wsX1_whyNotGiven wsX1_isThere := goodIn_r _ [5, 6, 12, 13, 14, 15, 16, 17, 18, 19, 20, 21, 22] (by decide +kernel) (by decide +kernel)
set_option maxRecDepth 20000 in
theorem gX1_whyNotGiven_X1_isThere : GoodIn wsX1_whyNotGiven (wsV RX1 52 RX1 yX1_isThere wsX1_isThere) := goodIn_app (goodIn_of _ (by decide +kernel)) ggX1_whyNotGiven_X1_isThere
set_option maxRecDepth 20000 in
theorem ggX1_whyNotGiven_X1_owns : GoodIn wsX1_whyNotGiven wsX1_owns := goodIn_r _ [10, 11, 12, 13, 14, 15, 16, 17, 18, 19, 20, 21, 22] (by decide +kernel) (by decide +kernel)
set_option maxRecDepth 20000 in
theorem gX1_whyNotGiven_X1_owns : GoodIn wsX1_whyNotGiven (wsV RX1 65 RX1 yX1_owns wsX1_owns) := goodIn_app (goodIn_of _ (by decide +kernel)) ggX1_whyNotGiven_X1_owns
theorem dX1_whyNotGiven_0 : decode cX1_whyNotGiven 0 = .ok (.aload_n 0, 1) := by decide +kernel
theorem dX1_whyNotGiven_1 : decode cX1_whyNotGiven 1 = .ok (.iload_n 1, 1) := by decide +kernel
theorem dX1_whyNotGiven_2 : decode cX1_whyNotGiven 2 = .ok (.invokevirtual 52, 3) := by decide +kernel
theorem dX1_whyNotGiven_5 : decode cX1_whyNotGiven 5 = .ok (.ifCond .eq 11, 3) := by decide +kernel
theorem dX1_whyNotGiven_8 : decode cX1_whyNotGiven 8 = .ok (.aload_n 0, 1) := by decide +kernel
theorem dX1_whyNotGiven_9 : decode cX1_whyNotGiven 9 = .ok (.iload_n 2, 1) := by decide +kernel
theorem dX1_whyNotGiven_10 : decode cX1_whyNotGiven 10 = .ok (.invokevirtual 52, 3) := by decide +kernel
theorem dX1_whyNotGiven_13 : decode cX1_whyNotGiven 13 = .ok (.ifCond .ne 5, 3) := by decide +kernel
theorem dX1_whyNotGiven_16 : decode cX1_whyNotGiven 16 = .ok (.iconst 1, 1) := by decide +kernel
theorem dX1_whyNotGiven_17 : decode cX1_whyNotGiven 17 = .ok (.ireturn, 1) := by decide +kernel
theorem dX1_whyNotGiven_18 : decode cX1_whyNotGiven 18 = .ok (.iload_n 1, 1) := by decide +kernel
theorem dX1_whyNotGiven_19 : decode cX1_whyNotGiven 19 = .ok (.iload_n 2, 1) := by decide +kernel
theorem dX1_whyNotGiven_20 : decode cX1_whyNotGiven 20 = .ok (.if_icmp .ne 5, 3) := by decide +kernel
theorem dX1_whyNotGiven_23 : decode cX1_whyNotGiven 23 = .ok (.iconst 2, 1) := by decide +kernel
theorem dX1_whyNotGiven_24 : decode cX1_whyNotGiven 24 = .ok (.ireturn, 1) := by decide +kernel
theorem dX1_whyNotGiven_25 : decode cX1_whyNotGiven 25 = .ok (.aload_n 0, 1) := by decide +kernel
theorem dX1_whyNotGiven_26 : decode cX1_whyNotGiven 26 = .ok (.iload_n 1, 1) := by decide +kernel
theorem dX1_whyNotGiven_27 : decode cX1_whyNotGiven 27 = .ok (.iload_n 3, 1) := by decide +kernel
theorem dX1_whyNotGiven_28 : decode cX1_whyNotGiven 28 = .ok (.invokevirtual 65, 3) := by decide +kernel
theorem dX1_whyNotGiven_31 : decode cX1_whyNotGiven 31 = .ok (.ifCond .ne 5, 3) := by decide +kernel
theorem dX1_whyNotGiven_34 : decode cX1_whyNotGiven 34 = .ok (.iconst 3, 1) := by decide +kernel
theorem dX1_whyNotGiven_35 : decode cX1_whyNotGiven 35 = .ok (.ireturn, 1) := by decide +kernel
theorem dX1_whyNotGiven_36 : decode cX1_whyNotGiven 36 = .ok (.aload_n 0, 1) := by decide +kernel
theorem dX1_whyNotGiven_37 : decode cX1_whyNotGiven 37 = .ok (.iload_n 2, 1) := by decide +kernel
theorem dX1_whyNotGiven_38 : decode cX1_whyNotGiven 38 = .ok (.iload_n 3, 1) := by decide +kernel
theorem dX1_whyNotGiven_39 : decode cX1_whyNotGiven 39 = .ok (.invokevirtual 65, 3) := by decide +kernel
theorem dX1_whyNotGiven_42 : decode cX1_whyNotGiven 42 = .ok (.ifCond .eq 7, 3) := by decide +kernel
theorem dX1_whyNotGiven_45 : decode cX1_whyNotGiven 45 = .ok (.iconst 4, 1) := by decide +kernel
theorem dX1_whyNotGiven_46 : decode cX1_whyNotGiven 46 = .ok (.goto 4, 3) := by decide +kernel
theorem dX1_whyNotGiven_49 : decode cX1_whyNotGiven 49 = .ok (.iconst 0, 1) := by decide +kernel
theorem dX1_whyNotGiven_50 : decode cX1_whyNotGiven 50 = .ok (.ireturn, 1) := by decide +kernel
theorem dX1_losePair_0 : decode cX1_losePair 0 = .ok (.iload_n 1, 1) := by decide +kernel
theorem dX1_losePair_1 : decode cX1_losePair 1 = .ok (.ifCond .lt 9, 3) := by decide +kernel
theorem dX1_losePair_4 : decode cX1_losePair 4 = .ok (.iload_n 1, 1) := by decide +kernel
theorem dX1_losePair_5 : decode cX1_losePair 5 = .ok (.bipush 6, 2) := by decide +kernel
theorem dX1_losePair_7 : decode cX1_losePair 7 = .ok (.if_icmp .lt 4, 3) := by decide +kernel
theorem dX1_losePair_10 : decode cX1_losePair 10 = .ok (.return_, 1) := by decide +kernel
theorem dX1_losePair_11 : decode cX1_losePair 11 = .ok (.aload_n 0, 1) := by decide +kernel
theorem dX1_losePair_12 : decode cX1_losePair 12 = .ok (.getfield 15, 3) := by decide +kernel
theorem dX1_losePair_15 : decode cX1_losePair 15 = .ok (.iload_n 1, 1) := by decide +kernel
theorem dX1_losePair_16 : decode cX1_losePair 16 = .ok (.dup2, 1) := by decide +kernel
theorem dX1_losePair_17 : decode cX1_losePair 17 = .ok (.iaload, 1) := by decide +kernel
theorem dX1_losePair_18 : decode cX1_losePair 18 = .ok (.iconst 1, 1) := by decide +kernel
theorem dX1_losePair_19 : decode cX1_losePair 19 = .ok (.iload_n 2, 1) := by decide +kernel
theorem dX1_losePair_20 : decode cX1_losePair 20 = .ok (.ishl, 1) := by decide +kernel
theorem dX1_losePair_21 : decode cX1_losePair 21 = .ok (.iconst (-1), 1) := by decide +kernel
theorem dX1_losePair_22 : decode cX1_losePair 22 = .ok (.ixor, 1) := by decide +kernel
theorem dX1_losePair_23 : decode cX1_losePair 23 = .ok (.iand, 1) := by decide +kernel
theorem dX1_losePair_24 : decode cX1_losePair 24 = .ok (.iastore, 1) := by decide +kernel
theorem dX1_losePair_25 : decode cX1_losePair 25 = .ok (.aload_n 0, 1) := by decide +kernel
theorem dX1_losePair_26 : decode cX1_losePair 26 = .ok (.getfield 19, 3) := by decide +kernel
theorem dX1_losePair_29 : decode cX1_losePair 29 = .ok (.iload_n 1, 1) := by decide +kernel
theorem dX1_losePair_30 : decode cX1_losePair 30 = .ok (.iaload, 1) := by decide +kernel
theorem dX1_losePair_31 : decode cX1_losePair 31 = .ok (.iload_n 2, 1) := by decide +kernel
theorem dX1_losePair_32 : decode cX1_losePair 32 = .ok (.if_icmp .ne 11, 3) := by decide +kernel
theorem dX1_losePair_35 : decode cX1_losePair 35 = .ok (.aload_n 0, 1) := by decide +kernel
theorem dX1_losePair_36 : decode cX1_losePair 36 = .ok (.getfield 19, 3) := by decide +kernel
theorem dX1_losePair_39 : decode cX1_losePair 39 = .ok (.iload_n 1, 1) := by decide +kernel
theorem dX1_losePair_40 : decode cX1_losePair 40 = .ok (.bipush 24, 2) := by decide +kernel
theorem dX1_losePair_42 : decode cX1_losePair 42 = .ok (.iastore, 1) := by decide +kernel
theorem dX1_losePair_43 : decode cX1_losePair 43 = .ok (.aload_n 0, 1) := by decide +kernel
theorem dX1_losePair_44 : decode cX1_losePair 44 = .ok (.getfield 22, 3) := by decide +kernel
theorem dX1_losePair_47 : decode cX1_losePair 47 = .ok (.iload_n 1, 1) := by decide +kernel
theorem dX1_losePair_48 : decode cX1_losePair 48 = .ok (.iaload, 1) := by decide +kernel
theorem dX1_losePair_49 : decode cX1_losePair 49 = .ok (.iload_n 2, 1) := by decide +kernel
theorem dX1_losePair_50 : decode cX1_losePair 50 = .ok (.if_icmp .ne 11, 3) := by decide +kernel
theorem dX1_losePair_53 : decode cX1_losePair 53 = .ok (.aload_n 0, 1) := by decide +kernel
theorem dX1_losePair_54 : decode cX1_losePair 54 = .ok (.getfield 22, 3) := by decide +kernel
theorem dX1_losePair_57 : decode cX1_losePair 57 = .ok (.iload_n 1, 1) := by decide +kernel
theorem dX1_losePair_58 : decode cX1_losePair 58 = .ok (.bipush 24, 2) := by decide +kernel
theorem dX1_losePair_60 : decode cX1_losePair 60 = .ok (.iastore, 1) := by decide +kernel
theorem dX1_losePair_61 : decode cX1_losePair 61 = .ok (.return_, 1) := by decide +kernel
set_option maxRecDepth 20000 in
theorem ggX1_whyNoDeed_X1_isThere : GoodIn wsX1_whyNoDeed wsX1_isThere := goodIn_r _ [6, 7, 8, 9, 10, 11, 12, 13, 14, 15, 16, 17, 18] (by decide +kernel) (by decide +kernel)
set_option maxRecDepth 20000 in
theorem gX1_whyNoDeed_X1_isThere : GoodIn wsX1_whyNoDeed (wsV RX1 52 RX1 yX1_isThere wsX1_isThere) := goodIn_app (goodIn_of _ (by decide +kernel)) ggX1_whyNoDeed_X1_isThere
theorem dX1_whyNoDeed_0 : decode cX1_whyNoDeed 0 = .ok (.aload_n 0, 1) := by decide +kernel
theorem dX1_whyNoDeed_1 : decode cX1_whyNoDeed 1 = .ok (.iload_n 1, 1) := by decide +kernel
theorem dX1_whyNoDeed_2 : decode cX1_whyNoDeed 2 = .ok (.invokevirtual 52, 3) := by decide +kernel
theorem dX1_whyNoDeed_5 : decode cX1_whyNoDeed 5 = .ok (.ifCond .ne 5, 3) := by decide +kernel
theorem dX1_whyNoDeed_8 : decode cX1_whyNoDeed 8 = .ok (.iconst 1, 1) := by decide +kernel
theorem dX1_whyNoDeed_9 : decode cX1_whyNoDeed 9 = .ok (.ireturn, 1) := by decide +kernel
theorem dX1_whyNoDeed_10 : decode cX1_whyNoDeed 10 = .ok (.aload_n 0, 1) := by decide +kernel
theorem dX1_whyNoDeed_11 : decode cX1_whyNoDeed 11 = .ok (.getfield 22, 3) := by decide +kernel
theorem dX1_whyNoDeed_14 : decode cX1_whyNoDeed 14 = .ok (.iload_n 1, 1) := by decide +kernel
theorem dX1_whyNoDeed_15 : decode cX1_whyNoDeed 15 = .ok (.iaload, 1) := by decide +kernel
theorem dX1_whyNoDeed_16 : decode cX1_whyNoDeed 16 = .ok (.bipush 24, 2) := by decide +kernel
theorem dX1_whyNoDeed_18 : decode cX1_whyNoDeed 18 = .ok (.if_icmp .ne 7, 3) := by decide +kernel
theorem dX1_whyNoDeed_21 : decode cX1_whyNoDeed 21 = .ok (.iconst 5, 1) := by decide +kernel
theorem dX1_whyNoDeed_22 : decode cX1_whyNoDeed 22 = .ok (.goto 4, 3) := by decide +kernel
theorem dX1_whyNoDeed_25 : decode cX1_whyNoDeed 25 = .ok (.iconst 0, 1) := by decide +kernel
theorem dX1_whyNoDeed_26 : decode cX1_whyNoDeed 26 = .ok (.ireturn, 1) := by decide +kernel
set_option maxRecDepth 20000 in
theorem ggX1_whyNoPromise_X1_isThere : GoodIn wsX1_whyNoPromise wsX1_isThere := goodIn_r _ [6, 7, 8, 9, 10, 11, 12, 13, 14, 15, 16, 17, 18] (by decide +kernel) (by decide +kernel)
set_option maxRecDepth 20000 in
theorem gX1_whyNoPromise_X1_isThere : GoodIn wsX1_whyNoPromise (wsV RX1 52 RX1 yX1_isThere wsX1_isThere) := goodIn_app (goodIn_of _ (by decide +kernel)) ggX1_whyNoPromise_X1_isThere
theorem dX1_whyNoPromise_0 : decode cX1_whyNoPromise 0 = .ok (.aload_n 0, 1) := by decide +kernel
theorem dX1_whyNoPromise_1 : decode cX1_whyNoPromise 1 = .ok (.iload_n 1, 1) := by decide +kernel
theorem dX1_whyNoPromise_2 : decode cX1_whyNoPromise 2 = .ok (.invokevirtual 52, 3) := by decide +kernel
theorem dX1_whyNoPromise_5 : decode cX1_whyNoPromise 5 = .ok (.ifCond .eq 11, 3) := by decide +kernel
theorem dX1_whyNoPromise_8 : decode cX1_whyNoPromise 8 = .ok (.aload_n 0, 1) := by decide +kernel
theorem dX1_whyNoPromise_9 : decode cX1_whyNoPromise 9 = .ok (.iload_n 2, 1) := by decide +kernel
theorem dX1_whyNoPromise_10 : decode cX1_whyNoPromise 10 = .ok (.invokevirtual 52, 3) := by decide +kernel
theorem dX1_whyNoPromise_13 : decode cX1_whyNoPromise 13 = .ok (.ifCond .ne 5, 3) := by decide +kernel
theorem dX1_whyNoPromise_16 : decode cX1_whyNoPromise 16 = .ok (.iconst 1, 1) := by decide +kernel
theorem dX1_whyNoPromise_17 : decode cX1_whyNoPromise 17 = .ok (.ireturn, 1) := by decide +kernel
theorem dX1_whyNoPromise_18 : decode cX1_whyNoPromise 18 = .ok (.iload_n 1, 1) := by decide +kernel
theorem dX1_whyNoPromise_19 : decode cX1_whyNoPromise 19 = .ok (.iload_n 2, 1) := by decide +kernel
theorem dX1_whyNoPromise_20 : decode cX1_whyNoPromise 20 = .ok (.if_icmp .ne 5, 3) := by decide +kernel
theorem dX1_whyNoPromise_23 : decode cX1_whyNoPromise 23 = .ok (.iconst 2, 1) := by decide +kernel
theorem dX1_whyNoPromise_24 : decode cX1_whyNoPromise 24 = .ok (.ireturn, 1) := by decide +kernel
theorem dX1_whyNoPromise_25 : decode cX1_whyNoPromise 25 = .ok (.aload_n 0, 1) := by decide +kernel
theorem dX1_whyNoPromise_26 : decode cX1_whyNoPromise 26 = .ok (.getfield 22, 3) := by decide +kernel
theorem dX1_whyNoPromise_29 : decode cX1_whyNoPromise 29 = .ok (.iload_n 1, 1) := by decide +kernel
theorem dX1_whyNoPromise_30 : decode cX1_whyNoPromise 30 = .ok (.iaload, 1) := by decide +kernel
theorem dX1_whyNoPromise_31 : decode cX1_whyNoPromise 31 = .ok (.bipush 24, 2) := by decide +kernel
theorem dX1_whyNoPromise_33 : decode cX1_whyNoPromise 33 = .ok (.if_icmp .eq 14, 3) := by decide +kernel
theorem dX1_whyNoPromise_36 : decode cX1_whyNoPromise 36 = .ok (.aload_n 0, 1) := by decide +kernel
theorem dX1_whyNoPromise_37 : decode cX1_whyNoPromise 37 = .ok (.getfield 22, 3) := by decide +kernel
theorem dX1_whyNoPromise_40 : decode cX1_whyNoPromise 40 = .ok (.iload_n 2, 1) := by decide +kernel
theorem dX1_whyNoPromise_41 : decode cX1_whyNoPromise 41 = .ok (.iaload, 1) := by decide +kernel
theorem dX1_whyNoPromise_42 : decode cX1_whyNoPromise 42 = .ok (.bipush 24, 2) := by decide +kernel
theorem dX1_whyNoPromise_44 : decode cX1_whyNoPromise 44 = .ok (.if_icmp .ne 5, 3) := by decide +kernel
theorem dX1_whyNoPromise_47 : decode cX1_whyNoPromise 47 = .ok (.iconst 5, 1) := by decide +kernel
theorem dX1_whyNoPromise_48 : decode cX1_whyNoPromise 48 = .ok (.ireturn, 1) := by decide +kernel
theorem dX1_whyNoPromise_49 : decode cX1_whyNoPromise 49 = .ok (.aload_n 0, 1) := by decide +kernel
theorem dX1_whyNoPromise_50 : decode cX1_whyNoPromise 50 = .ok (.getfield 22, 3) := by decide +kernel
theorem dX1_whyNoPromise_53 : decode cX1_whyNoPromise 53 = .ok (.iload_n 1, 1) := by decide +kernel
theorem dX1_whyNoPromise_54 : decode cX1_whyNoPromise 54 = .ok (.iaload, 1) := by decide +kernel
theorem dX1_whyNoPromise_55 : decode cX1_whyNoPromise 55 = .ok (.aload_n 0, 1) := by decide +kernel
theorem dX1_whyNoPromise_56 : decode cX1_whyNoPromise 56 = .ok (.getfield 22, 3) := by decide +kernel
theorem dX1_whyNoPromise_59 : decode cX1_whyNoPromise 59 = .ok (.iload_n 2, 1) := by decide +kernel
theorem dX1_whyNoPromise_60 : decode cX1_whyNoPromise 60 = .ok (.iaload, 1) := by decide +kernel
theorem dX1_whyNoPromise_61 : decode cX1_whyNoPromise 61 = .ok (.if_icmp .ne 7, 3) := by decide +kernel
theorem dX1_whyNoPromise_64 : decode cX1_whyNoPromise 64 = .ok (.iconst 0, 1) := by decide +kernel
theorem dX1_whyNoPromise_65 : decode cX1_whyNoPromise 65 = .ok (.goto 5, 3) := by decide +kernel
theorem dX1_whyNoPromise_68 : decode cX1_whyNoPromise 68 = .ok (.bipush 6, 2) := by decide +kernel
theorem dX1_whyNoPromise_70 : decode cX1_whyNoPromise 70 = .ok (.ireturn, 1) := by decide +kernel
set_option maxRecDepth 20000 in
theorem ggX1_usePair_X1_owns : GoodIn wsX1_usePair wsX1_owns := goodIn_r _ [7, 8, 15, 16, 17, 18, 19, 20, 21, 22, 23, 24, 25] (by decide +kernel) (by decide +kernel)
set_option maxRecDepth 20000 in
theorem gX1_usePair_X1_owns : GoodIn wsX1_usePair (wsV RX1 65 RX1 yX1_owns wsX1_owns) := goodIn_app (goodIn_of _ (by decide +kernel)) ggX1_usePair_X1_owns
set_option maxRecDepth 20000 in
theorem ggX1_usePair_X1_losePair : GoodIn wsX1_usePair wsX1_losePair := goodIn_r _ [12, 8, 13, 14, 15, 16, 17, 18, 19, 20, 21, 22, 23, 24, 25] (by decide +kernel) (by decide +kernel)
set_option maxRecDepth 20000 in
theorem gX1_usePair_X1_losePair : GoodIn wsX1_usePair (wsV RX1 84 RX1 yX1_losePair wsX1_losePair) := goodIn_app (goodIn_of _ (by decide +kernel)) ggX1_usePair_X1_losePair
theorem dX1_usePair_0 : decode cX1_usePair 0 = .ok (.aload_n 0, 1) := by decide +kernel
theorem dX1_usePair_1 : decode cX1_usePair 1 = .ok (.iload_n 1, 1) := by decide +kernel
theorem dX1_usePair_2 : decode cX1_usePair 2 = .ok (.iload_n 2, 1) := by decide +kernel
theorem dX1_usePair_3 : decode cX1_usePair 3 = .ok (.invokevirtual 65, 3) := by decide +kernel
theorem dX1_usePair_6 : decode cX1_usePair 6 = .ok (.ifCond .ne 4, 3) := by decide +kernel
theorem dX1_usePair_9 : decode cX1_usePair 9 = .ok (.return_, 1) := by decide +kernel
theorem dX1_usePair_10 : decode cX1_usePair 10 = .ok (.aload_n 0, 1) := by decide +kernel
theorem dX1_usePair_11 : decode cX1_usePair 11 = .ok (.getfield 28, 3) := by decide +kernel
theorem dX1_usePair_14 : decode cX1_usePair 14 = .ok (.iload_n 1, 1) := by decide +kernel
theorem dX1_usePair_15 : decode cX1_usePair 15 = .ok (.bipush 24, 2) := by decide +kernel
theorem dX1_usePair_17 : decode cX1_usePair 17 = .ok (.imul, 1) := by decide +kernel
theorem dX1_usePair_18 : decode cX1_usePair 18 = .ok (.iload_n 2, 1) := by decide +kernel
theorem dX1_usePair_19 : decode cX1_usePair 19 = .ok (.iadd, 1) := by decide +kernel
theorem dX1_usePair_20 : decode cX1_usePair 20 = .ok (.iaload, 1) := by decide +kernel
theorem dX1_usePair_21 : decode cX1_usePair 21 = .ok (.iconst 1, 1) := by decide +kernel
theorem dX1_usePair_22 : decode cX1_usePair 22 = .ok (.iadd, 1) := by decide +kernel
theorem dX1_usePair_23 : decode cX1_usePair 23 = .ok (.istore_n 3, 1) := by decide +kernel
theorem dX1_usePair_24 : decode cX1_usePair 24 = .ok (.aload_n 0, 1) := by decide +kernel
theorem dX1_usePair_25 : decode cX1_usePair 25 = .ok (.getfield 28, 3) := by decide +kernel
theorem dX1_usePair_28 : decode cX1_usePair 28 = .ok (.iload_n 1, 1) := by decide +kernel
theorem dX1_usePair_29 : decode cX1_usePair 29 = .ok (.bipush 24, 2) := by decide +kernel
theorem dX1_usePair_31 : decode cX1_usePair 31 = .ok (.imul, 1) := by decide +kernel
theorem dX1_usePair_32 : decode cX1_usePair 32 = .ok (.iload_n 2, 1) := by decide +kernel
theorem dX1_usePair_33 : decode cX1_usePair 33 = .ok (.iadd, 1) := by decide +kernel
theorem dX1_usePair_34 : decode cX1_usePair 34 = .ok (.iload_n 3, 1) := by decide +kernel
theorem dX1_usePair_35 : decode cX1_usePair 35 = .ok (.iastore, 1) := by decide +kernel
theorem dX1_usePair_36 : decode cX1_usePair 36 = .ok (.iload_n 3, 1) := by decide +kernel
theorem dX1_usePair_37 : decode cX1_usePair 37 = .ok (.aload_n 0, 1) := by decide +kernel
theorem dX1_usePair_38 : decode cX1_usePair 38 = .ok (.getfield 9, 3) := by decide +kernel
theorem dX1_usePair_41 : decode cX1_usePair 41 = .ok (.if_icmp .lt 9, 3) := by decide +kernel
theorem dX1_usePair_44 : decode cX1_usePair 44 = .ok (.aload_n 0, 1) := by decide +kernel
theorem dX1_usePair_45 : decode cX1_usePair 45 = .ok (.iload_n 1, 1) := by decide +kernel
theorem dX1_usePair_46 : decode cX1_usePair 46 = .ok (.iload_n 2, 1) := by decide +kernel
theorem dX1_usePair_47 : decode cX1_usePair 47 = .ok (.invokevirtual 84, 3) := by decide +kernel
theorem dX1_usePair_50 : decode cX1_usePair 50 = .ok (.return_, 1) := by decide +kernel
set_option maxRecDepth 20000 in
theorem ggX1_scandalsTogether_X1_isThere : GoodIn wsX1_scandalsTogether wsX1_isThere := goodIn_r _ [6, 7, 8, 9, 10, 11, 12, 13, 14, 15, 16, 17, 18] (by decide +kernel) (by decide +kernel)
set_option maxRecDepth 20000 in
theorem gX1_scandalsTogether_X1_isThere : GoodIn wsX1_scandalsTogether (wsV RX1 52 RX1 yX1_isThere wsX1_isThere) := goodIn_app (goodIn_of _ (by decide +kernel)) ggX1_scandalsTogether_X1_isThere
theorem dX1_scandalsTogether_0 : decode cX1_scandalsTogether 0 = .ok (.iconst 0, 1) := by decide +kernel
theorem dX1_scandalsTogether_1 : decode cX1_scandalsTogether 1 = .ok (.istore_n 1, 1) := by decide +kernel
theorem dX1_scandalsTogether_2 : decode cX1_scandalsTogether 2 = .ok (.iconst 0, 1) := by decide +kernel
theorem dX1_scandalsTogether_3 : decode cX1_scandalsTogether 3 = .ok (.istore_n 2, 1) := by decide +kernel
theorem dX1_scandalsTogether_4 : decode cX1_scandalsTogether 4 = .ok (.iload_n 2, 1) := by decide +kernel
theorem dX1_scandalsTogether_5 : decode cX1_scandalsTogether 5 = .ok (.bipush 6, 2) := by decide +kernel
theorem dX1_scandalsTogether_7 : decode cX1_scandalsTogether 7 = .ok (.if_icmp .ge 26, 3) := by decide +kernel
theorem dX1_scandalsTogether_10 : decode cX1_scandalsTogether 10 = .ok (.aload_n 0, 1) := by decide +kernel
theorem dX1_scandalsTogether_11 : decode cX1_scandalsTogether 11 = .ok (.iload_n 2, 1) := by decide +kernel
theorem dX1_scandalsTogether_12 : decode cX1_scandalsTogether 12 = .ok (.invokevirtual 52, 3) := by decide +kernel
theorem dX1_scandalsTogether_15 : decode cX1_scandalsTogether 15 = .ok (.ifCond .eq 12, 3) := by decide +kernel
theorem dX1_scandalsTogether_18 : decode cX1_scandalsTogether 18 = .ok (.iload_n 1, 1) := by decide +kernel
theorem dX1_scandalsTogether_19 : decode cX1_scandalsTogether 19 = .ok (.aload_n 0, 1) := by decide +kernel
theorem dX1_scandalsTogether_20 : decode cX1_scandalsTogether 20 = .ok (.getfield 25, 3) := by decide +kernel
theorem dX1_scandalsTogether_23 : decode cX1_scandalsTogether 23 = .ok (.iload_n 2, 1) := by decide +kernel
theorem dX1_scandalsTogether_24 : decode cX1_scandalsTogether 24 = .ok (.iaload, 1) := by decide +kernel
theorem dX1_scandalsTogether_25 : decode cX1_scandalsTogether 25 = .ok (.iadd, 1) := by decide +kernel
theorem dX1_scandalsTogether_26 : decode cX1_scandalsTogether 26 = .ok (.istore_n 1, 1) := by decide +kernel
theorem dX1_scandalsTogether_27 : decode cX1_scandalsTogether 27 = .ok (.iinc 2 1, 3) := by decide +kernel
theorem dX1_scandalsTogether_30 : decode cX1_scandalsTogether 30 = .ok (.goto (-26), 3) := by decide +kernel
theorem dX1_scandalsTogether_33 : decode cX1_scandalsTogether 33 = .ok (.iload_n 1, 1) := by decide +kernel
theorem dX1_scandalsTogether_34 : decode cX1_scandalsTogether 34 = .ok (.ireturn, 1) := by decide +kernel
theorem dX1_addSight_0 : decode cX1_addSight 0 = .ok (.aload_n 0, 1) := by decide +kernel
theorem dX1_addSight_1 : decode cX1_addSight 1 = .ok (.dup, 1) := by decide +kernel
theorem dX1_addSight_2 : decode cX1_addSight 2 = .ok (.getfield 37, 3) := by decide +kernel
theorem dX1_addSight_5 : decode cX1_addSight 5 = .ok (.iconst 1, 1) := by decide +kernel
theorem dX1_addSight_6 : decode cX1_addSight 6 = .ok (.iadd, 1) := by decide +kernel
theorem dX1_addSight_7 : decode cX1_addSight 7 = .ok (.putfield 37, 3) := by decide +kernel
theorem dX1_addSight_10 : decode cX1_addSight 10 = .ok (.iload_n 2, 1) := by decide +kernel
theorem dX1_addSight_11 : decode cX1_addSight 11 = .ok (.ifCond .eq 18, 3) := by decide +kernel
theorem dX1_addSight_14 : decode cX1_addSight 14 = .ok (.aload_n 0, 1) := by decide +kernel
theorem dX1_addSight_15 : decode cX1_addSight 15 = .ok (.dup, 1) := by decide +kernel
theorem dX1_addSight_16 : decode cX1_addSight 16 = .ok (.getfield 40, 3) := by decide +kernel
theorem dX1_addSight_19 : decode cX1_addSight 19 = .ok (.iconst 1, 1) := by decide +kernel
theorem dX1_addSight_20 : decode cX1_addSight 20 = .ok (.iload_n 1, 1) := by decide +kernel
theorem dX1_addSight_21 : decode cX1_addSight 21 = .ok (.ishl, 1) := by decide +kernel
theorem dX1_addSight_22 : decode cX1_addSight 22 = .ok (.ior, 1) := by decide +kernel
theorem dX1_addSight_23 : decode cX1_addSight 23 = .ok (.putfield 40, 3) := by decide +kernel
theorem dX1_addSight_26 : decode cX1_addSight 26 = .ok (.goto 15, 3) := by decide +kernel
theorem dX1_addSight_29 : decode cX1_addSight 29 = .ok (.aload_n 0, 1) := by decide +kernel
theorem dX1_addSight_30 : decode cX1_addSight 30 = .ok (.dup, 1) := by decide +kernel
theorem dX1_addSight_31 : decode cX1_addSight 31 = .ok (.getfield 43, 3) := by decide +kernel
theorem dX1_addSight_34 : decode cX1_addSight 34 = .ok (.iconst 1, 1) := by decide +kernel
theorem dX1_addSight_35 : decode cX1_addSight 35 = .ok (.iload_n 1, 1) := by decide +kernel
theorem dX1_addSight_36 : decode cX1_addSight 36 = .ok (.ishl, 1) := by decide +kernel
theorem dX1_addSight_37 : decode cX1_addSight 37 = .ok (.ior, 1) := by decide +kernel
theorem dX1_addSight_38 : decode cX1_addSight 38 = .ok (.putfield 43, 3) := by decide +kernel
theorem dX1_addSight_41 : decode cX1_addSight 41 = .ok (.return_, 1) := by decide +kernel
theorem dX1_dropSights_0 : decode cX1_dropSights 0 = .ok (.aload_n 0, 1) := by decide +kernel
theorem dX1_dropSights_1 : decode cX1_dropSights 1 = .ok (.getfield 37, 3) := by decide +kernel
theorem dX1_dropSights_4 : decode cX1_dropSights 4 = .ok (.istore_n 1, 1) := by decide +kernel
theorem dX1_dropSights_5 : decode cX1_dropSights 5 = .ok (.aload_n 0, 1) := by decide +kernel
theorem dX1_dropSights_6 : decode cX1_dropSights 6 = .ok (.iconst 0, 1) := by decide +kernel
theorem dX1_dropSights_7 : decode cX1_dropSights 7 = .ok (.putfield 37, 3) := by decide +kernel
theorem dX1_dropSights_10 : decode cX1_dropSights 10 = .ok (.aload_n 0, 1) := by decide +kernel
theorem dX1_dropSights_11 : decode cX1_dropSights 11 = .ok (.iconst 0, 1) := by decide +kernel
theorem dX1_dropSights_12 : decode cX1_dropSights 12 = .ok (.putfield 40, 3) := by decide +kernel
theorem dX1_dropSights_15 : decode cX1_dropSights 15 = .ok (.aload_n 0, 1) := by decide +kernel
theorem dX1_dropSights_16 : decode cX1_dropSights 16 = .ok (.iconst 0, 1) := by decide +kernel
theorem dX1_dropSights_17 : decode cX1_dropSights 17 = .ok (.putfield 43, 3) := by decide +kernel
theorem dX1_dropSights_20 : decode cX1_dropSights 20 = .ok (.iload_n 1, 1) := by decide +kernel
theorem dX1_dropSights_21 : decode cX1_dropSights 21 = .ok (.ireturn, 1) := by decide +kernel
set_option maxRecDepth 20000 in
theorem ggX1_suspects_X1_pairsOf : GoodIn wsX1_suspects wsX1_pairsOf := goodIn_r _ [7, 8, 9, 10, 11, 6, 12, 13, 14, 15, 16, 17, 18, 19, 20, 21, 22, 23, 24] (by decide +kernel) (by decide +kernel)
set_option maxRecDepth 20000 in
theorem gX1_suspects_X1_pairsOf : GoodIn wsX1_suspects (wsV RX1 56 RX1 yX1_pairsOf wsX1_pairsOf) := goodIn_app (goodIn_of _ (by decide +kernel)) ggX1_suspects_X1_pairsOf
set_option maxRecDepth 20000 in
theorem ggX1_suspects_X1_isThere : GoodIn wsX1_suspects wsX1_isThere := goodIn_r _ [12, 13, 14, 15, 16, 17, 18, 19, 20, 21, 22, 23, 24] (by decide +kernel) (by decide +kernel)
set_option maxRecDepth 20000 in
theorem gX1_suspects_X1_isThere : GoodIn wsX1_suspects (wsV RX1 52 RX1 yX1_isThere wsX1_isThere) := goodIn_app (goodIn_of _ (by decide +kernel)) ggX1_suspects_X1_isThere
theorem dX1_suspects_0 : decode cX1_suspects 0 = .ok (.iconst 0, 1) := by decide +kernel
theorem dX1_suspects_1 : decode cX1_suspects 1 = .ok (.istore_n 1, 1) := by decide +kernel
theorem dX1_suspects_2 : decode cX1_suspects 2 = .ok (.iconst 0, 1) := by decide +kernel
theorem dX1_suspects_3 : decode cX1_suspects 3 = .ok (.istore_n 2, 1) := by decide +kernel
theorem dX1_suspects_4 : decode cX1_suspects 4 = .ok (.iload_n 2, 1) := by decide +kernel
theorem dX1_suspects_5 : decode cX1_suspects 5 = .ok (.bipush 6, 2) := by decide +kernel
theorem dX1_suspects_7 : decode cX1_suspects 7 = .ok (.if_icmp .ge 49, 3) := by decide +kernel
theorem dX1_suspects_10 : decode cX1_suspects 10 = .ok (.aload_n 0, 1) := by decide +kernel
theorem dX1_suspects_11 : decode cX1_suspects 11 = .ok (.iload_n 2, 1) := by decide +kernel
theorem dX1_suspects_12 : decode cX1_suspects 12 = .ok (.invokevirtual 56, 3) := by decide +kernel
theorem dX1_suspects_15 : decode cX1_suspects 15 = .ok (.istore_n 3, 1) := by decide +kernel
theorem dX1_suspects_16 : decode cX1_suspects 16 = .ok (.aload_n 0, 1) := by decide +kernel
theorem dX1_suspects_17 : decode cX1_suspects 17 = .ok (.iload_n 2, 1) := by decide +kernel
theorem dX1_suspects_18 : decode cX1_suspects 18 = .ok (.invokevirtual 52, 3) := by decide +kernel
theorem dX1_suspects_21 : decode cX1_suspects 21 = .ok (.ifCond .eq 29, 3) := by decide +kernel
theorem dX1_suspects_24 : decode cX1_suspects 24 = .ok (.aload_n 0, 1) := by decide +kernel
theorem dX1_suspects_25 : decode cX1_suspects 25 = .ok (.getfield 40, 3) := by decide +kernel
theorem dX1_suspects_28 : decode cX1_suspects 28 = .ok (.iload_n 3, 1) := by decide +kernel
theorem dX1_suspects_29 : decode cX1_suspects 29 = .ok (.iconst (-1), 1) := by decide +kernel
theorem dX1_suspects_30 : decode cX1_suspects 30 = .ok (.ixor, 1) := by decide +kernel
theorem dX1_suspects_31 : decode cX1_suspects 31 = .ok (.iand, 1) := by decide +kernel
theorem dX1_suspects_32 : decode cX1_suspects 32 = .ok (.ifCond .ne 18, 3) := by decide +kernel
theorem dX1_suspects_35 : decode cX1_suspects 35 = .ok (.aload_n 0, 1) := by decide +kernel
theorem dX1_suspects_36 : decode cX1_suspects 36 = .ok (.getfield 43, 3) := by decide +kernel
theorem dX1_suspects_39 : decode cX1_suspects 39 = .ok (.iload_n 3, 1) := by decide +kernel
theorem dX1_suspects_40 : decode cX1_suspects 40 = .ok (.iand, 1) := by decide +kernel
theorem dX1_suspects_41 : decode cX1_suspects 41 = .ok (.ifCond .ne 9, 3) := by decide +kernel
theorem dX1_suspects_44 : decode cX1_suspects 44 = .ok (.iload_n 1, 1) := by decide +kernel
theorem dX1_suspects_45 : decode cX1_suspects 45 = .ok (.iconst 1, 1) := by decide +kernel
theorem dX1_suspects_46 : decode cX1_suspects 46 = .ok (.iload_n 2, 1) := by decide +kernel
theorem dX1_suspects_47 : decode cX1_suspects 47 = .ok (.ishl, 1) := by decide +kernel
theorem dX1_suspects_48 : decode cX1_suspects 48 = .ok (.ior, 1) := by decide +kernel
