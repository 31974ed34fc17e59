theorem dX3_init_0 : decode cX3_init 0 = .ok (.aload_n 0, 1) := by decide +kernel
theorem dX3_init_1 : decode cX3_init 1 = .ok (.invokespecial 3, 3) := by decide +kernel
theorem dX3_init_4 : decode cX3_init 4 = .ok (.aload_n 0, 1) := by decide +kernel
theorem dX3_init_5 : decode cX3_init 5 = .ok (.bipush 6, 2) := by decide +kernel
theorem dX3_init_7 : decode cX3_init 7 = .ok (.newarray .int, 2) := by decide +kernel
theorem dX3_init_9 : decode cX3_init 9 = .ok (.putfield 9, 3) := by decide +kernel
theorem dX3_init_12 : decode cX3_init 12 = .ok (.aload_n 0, 1) := by decide +kernel
theorem dX3_init_13 : decode cX3_init 13 = .ok (.bipush 64, 2) := by decide +kernel
theorem dX3_init_15 : decode cX3_init 15 = .ok (.newarray .int, 2) := by decide +kernel
theorem dX3_init_17 : decode cX3_init 17 = .ok (.putfield 15, 3) := by decide +kernel
theorem dX3_init_20 : decode cX3_init 20 = .ok (.return_, 1) := by decide +kernel
set_option maxRecDepth 20000 in
theorem ggX3_begin_J6_bitCount_0f7a4 : GoodIn wsX3_begin wsJ6_bitCount_0f7a4 := goodIn_r _ [7, 8, 9, 10] (by decide +kernel) (by decide +kernel)
set_option maxRecDepth 20000 in
theorem gX3_begin_J6_bitCount_0f7a4 : GoodIn wsX3_begin (va_wsS RX3 22 yJ6_bitCount_0f7a4 wsJ6_bitCount_0f7a4) := goodIn_app (goodIn_of _ (by decide +kernel)) ggX3_begin_J6_bitCount_0f7a4
set_option maxRecDepth 20000 in
theorem ggX3_begin_X5_hasHour : GoodIn wsX3_begin wsX5_hasHour := goodIn_r _ [13, 14, 15, 12, 16] (by decide +kernel) (by decide +kernel)
set_option maxRecDepth 20000 in
theorem gX3_begin_X5_hasHour_n28 : GoodIn wsX3_begin (wsX5_hasHour) := ggX3_begin_X5_hasHour
set_option maxRecDepth 20000 in
theorem ggX3_begin_X1_ownersOf : GoodIn wsX3_begin wsX1_ownersOf := goodIn_r _ [21, 22, 23, 24, 20, 25, 26, 35, 36, 37, 38, 39, 40, 41, 42, 43, 44, 45] (by decide +kernel) (by decide +kernel)
set_option maxRecDepth 20000 in
theorem gX3_begin_X1_ownersOf : GoodIn wsX3_begin (wsV RX3 32 RX1 yX1_ownersOf wsX1_ownersOf) := goodIn_app (goodIn_of _ (by decide +kernel)) ggX3_begin_X1_ownersOf
set_option maxRecDepth 20000 in
theorem ggX3_begin_X3_changeHours : GoodIn wsX3_begin wsX3_changeHours := goodIn_r _ [31, 1, 3, 32, 33, 34] (by decide +kernel) (by decide +kernel)
set_option maxRecDepth 20000 in
theorem gX3_begin_X3_changeHours : GoodIn wsX3_begin (wsV RX3 37 RX3 yX3_changeHours wsX3_changeHours) := goodIn_app (goodIn_of _ (by decide +kernel)) ggX3_begin_X3_changeHours
theorem dX3_begin_0 : decode cX3_begin 0 = .ok (.aload_n 0, 1) := by decide +kernel
theorem dX3_begin_1 : decode cX3_begin 1 = .ok (.iconst 0, 1) := by decide +kernel
theorem dX3_begin_2 : decode cX3_begin 2 = .ok (.putfield 18, 3) := by decide +kernel
theorem dX3_begin_5 : decode cX3_begin 5 = .ok (.iconst 0, 1) := by decide +kernel
theorem dX3_begin_6 : decode cX3_begin 6 = .ok (.istore 4, 2) := by decide +kernel
theorem dX3_begin_8 : decode cX3_begin 8 = .ok (.iload 4, 2) := by decide +kernel
theorem dX3_begin_10 : decode cX3_begin 10 = .ok (.bipush 6, 2) := by decide +kernel
theorem dX3_begin_12 : decode cX3_begin 12 = .ok (.if_icmp .ge 17, 3) := by decide +kernel
theorem dX3_begin_15 : decode cX3_begin 15 = .ok (.aload_n 0, 1) := by decide +kernel
theorem dX3_begin_16 : decode cX3_begin 16 = .ok (.getfield 9, 3) := by decide +kernel
theorem dX3_begin_19 : decode cX3_begin 19 = .ok (.iload 4, 2) := by decide +kernel
theorem dX3_begin_21 : decode cX3_begin 21 = .ok (.iload_n 3, 1) := by decide +kernel
theorem dX3_begin_22 : decode cX3_begin 22 = .ok (.iastore, 1) := by decide +kernel
theorem dX3_begin_23 : decode cX3_begin 23 = .ok (.iinc 4 1, 3) := by decide +kernel
theorem dX3_begin_26 : decode cX3_begin 26 = .ok (.goto (-18), 3) := by decide +kernel
theorem dX3_begin_29 : decode cX3_begin 29 = .ok (.iconst 0, 1) := by decide +kernel
theorem dX3_begin_30 : decode cX3_begin 30 = .ok (.istore 4, 2) := by decide +kernel
theorem dX3_begin_32 : decode cX3_begin 32 = .ok (.iload 4, 2) := by decide +kernel
theorem dX3_begin_34 : decode cX3_begin 34 = .ok (.bipush 64, 2) := by decide +kernel
theorem dX3_begin_36 : decode cX3_begin 36 = .ok (.if_icmp .ge 23, 3) := by decide +kernel
theorem dX3_begin_39 : decode cX3_begin 39 = .ok (.aload_n 0, 1) := by decide +kernel
theorem dX3_begin_40 : decode cX3_begin 40 = .ok (.getfield 15, 3) := by decide +kernel
theorem dX3_begin_43 : decode cX3_begin 43 = .ok (.iload 4, 2) := by decide +kernel
theorem dX3_begin_45 : decode cX3_begin 45 = .ok (.iload_n 3, 1) := by decide +kernel
theorem dX3_begin_46 : decode cX3_begin 46 = .ok (.iload 4, 2) := by decide +kernel
theorem dX3_begin_48 : decode cX3_begin 48 = .ok (.invokestatic 22, 3) := by decide +kernel
theorem dX3_begin_51 : decode cX3_begin 51 = .ok (.imul, 1) := by decide +kernel
theorem dX3_begin_52 : decode cX3_begin 52 = .ok (.iastore, 1) := by decide +kernel
theorem dX3_begin_53 : decode cX3_begin 53 = .ok (.iinc 4 1, 3) := by decide +kernel
theorem dX3_begin_56 : decode cX3_begin 56 = .ok (.goto (-24), 3) := by decide +kernel
theorem dX3_begin_59 : decode cX3_begin 59 = .ok (.iconst 0, 1) := by decide +kernel
theorem dX3_begin_60 : decode cX3_begin 60 = .ok (.istore 4, 2) := by decide +kernel
theorem dX3_begin_62 : decode cX3_begin 62 = .ok (.iload 4, 2) := by decide +kernel
theorem dX3_begin_64 : decode cX3_begin 64 = .ok (.bipush 24, 2) := by decide +kernel
theorem dX3_begin_66 : decode cX3_begin 66 = .ok (.if_icmp .ge 29, 3) := by decide +kernel
theorem dX3_begin_69 : decode cX3_begin 69 = .ok (.iload_n 2, 1) := by decide +kernel
theorem dX3_begin_70 : decode cX3_begin 70 = .ok (.iload 4, 2) := by decide +kernel
theorem dX3_begin_72 : decode cX3_begin 72 = .ok (.invokestatic 28, 3) := by decide +kernel
theorem dX3_begin_75 : decode cX3_begin 75 = .ok (.ifCond .eq 14, 3) := by decide +kernel
theorem dX3_begin_78 : decode cX3_begin 78 = .ok (.aload_n 0, 1) := by decide +kernel
theorem dX3_begin_79 : decode cX3_begin 79 = .ok (.aload_n 1, 1) := by decide +kernel
theorem dX3_begin_80 : decode cX3_begin 80 = .ok (.iload 4, 2) := by decide +kernel
theorem dX3_begin_82 : decode cX3_begin 82 = .ok (.invokevirtual 32, 3) := by decide +kernel
theorem dX3_begin_85 : decode cX3_begin 85 = .ok (.iconst 1, 1) := by decide +kernel
theorem dX3_begin_86 : decode cX3_begin 86 = .ok (.invokevirtual 37, 3) := by decide +kernel
theorem dX3_begin_89 : decode cX3_begin 89 = .ok (.iinc 4 1, 3) := by decide +kernel
theorem dX3_begin_92 : decode cX3_begin 92 = .ok (.goto (-30), 3) := by decide +kernel
theorem dX3_begin_95 : decode cX3_begin 95 = .ok (.return_, 1) := by decide +kernel
theorem dX3_most_0 : decode cX3_most 0 = .ok (.aload_n 0, 1) := by decide +kernel
theorem dX3_most_1 : decode cX3_most 1 = .ok (.getfield 15, 3) := by decide +kernel
theorem dX3_most_4 : decode cX3_most 4 = .ok (.iconst 0, 1) := by decide +kernel
theorem dX3_most_5 : decode cX3_most 5 = .ok (.iaload, 1) := by decide +kernel
theorem dX3_most_6 : decode cX3_most 6 = .ok (.istore_n 1, 1) := by decide +kernel
theorem dX3_most_7 : decode cX3_most 7 = .ok (.iconst 1, 1) := by decide +kernel
theorem dX3_most_8 : decode cX3_most 8 = .ok (.istore_n 2, 1) := by decide +kernel
theorem dX3_most_9 : decode cX3_most 9 = .ok (.iload_n 2, 1) := by decide +kernel
theorem dX3_most_10 : decode cX3_most 10 = .ok (.bipush 64, 2) := by decide +kernel
theorem dX3_most_12 : decode cX3_most 12 = .ok (.if_icmp .ge 20, 3) := by decide +kernel
theorem dX3_most_15 : decode cX3_most 15 = .ok (.iload_n 1, 1) := by decide +kernel
theorem dX3_most_16 : decode cX3_most 16 = .ok (.aload_n 0, 1) := by decide +kernel
theorem dX3_most_17 : decode cX3_most 17 = .ok (.getfield 15, 3) := by decide +kernel
theorem dX3_most_20 : decode cX3_most 20 = .ok (.iload_n 2, 1) := by decide +kernel
theorem dX3_most_21 : decode cX3_most 21 = .ok (.iaload, 1) := by decide +kernel
theorem dX3_most_22 : decode cX3_most 22 = .ok (.invokestatic 41, 3) := by decide +kernel
theorem dX3_most_25 : decode cX3_most 25 = .ok (.istore_n 1, 1) := by decide +kernel
theorem dX3_most_26 : decode cX3_most 26 = .ok (.iinc 2 1, 3) := by decide +kernel
theorem dX3_most_29 : decode cX3_most 29 = .ok (.goto (-20), 3) := by decide +kernel
theorem dX3_most_32 : decode cX3_most 32 = .ok (.aload_n 0, 1) := by decide +kernel
theorem dX3_most_33 : decode cX3_most 33 = .ok (.getfield 18, 3) := by decide +kernel
theorem dX3_most_36 : decode cX3_most 36 = .ok (.iload_n 1, 1) := by decide +kernel
theorem dX3_most_37 : decode cX3_most 37 = .ok (.iadd, 1) := by decide +kernel
theorem dX3_most_38 : decode cX3_most 38 = .ok (.ireturn, 1) := by decide +kernel
set_option maxRecDepth 20000 in
theorem ggX3_whoDoes_X3_most : GoodIn wsX3_whoDoes wsX3_most := goodIn_r _ [5, 6, 7, 8, 9, 10, 11, 41, 42, 43] (by decide +kernel) (by decide +kernel)
set_option maxRecDepth 20000 in
theorem gX3_whoDoes_X3_most : GoodIn wsX3_whoDoes (wsV RX3 47 RX3 yX3_most wsX3_most) := goodIn_app (goodIn_of _ (by decide +kernel)) ggX3_whoDoes_X3_most
set_option maxRecDepth 20000 in
theorem ggX3_whoDoes_X5_hasHour : GoodIn wsX3_whoDoes wsX5_hasHour := goodIn_r _ [14, 15, 16, 13, 17] (by decide +kernel) (by decide +kernel)
set_option maxRecDepth 20000 in
theorem gX3_whoDoes_X5_hasHour_n28 : GoodIn wsX3_whoDoes (wsX5_hasHour) := ggX3_whoDoes_X5_hasHour
set_option maxRecDepth 20000 in
theorem ggX3_whoDoes_X1_ownersOf : GoodIn wsX3_whoDoes wsX1_ownersOf := goodIn_r _ [22, 23, 24, 25, 21, 26, 27, 44, 45, 46, 47, 48, 49, 50, 51, 52, 53, 54] (by decide +kernel) (by decide +kernel)
set_option maxRecDepth 20000 in
theorem gX3_whoDoes_X1_ownersOf : GoodIn wsX3_whoDoes (wsV RX3 32 RX1 yX1_ownersOf wsX1_ownersOf) := goodIn_app (goodIn_of _ (by decide +kernel)) ggX3_whoDoes_X1_ownersOf
set_option maxRecDepth 20000 in
theorem ggX3_whoDoes_X3_changeHours : GoodIn wsX3_whoDoes wsX3_changeHours := goodIn_r _ [31, 11, 6, 41, 42, 43] (by decide +kernel) (by decide +kernel)
set_option maxRecDepth 20000 in
theorem gX3_whoDoes_X3_changeHours : GoodIn wsX3_whoDoes (wsV RX3 37 RX3 yX3_changeHours wsX3_changeHours) := goodIn_app (goodIn_of _ (by decide +kernel)) ggX3_whoDoes_X3_changeHours
set_option maxRecDepth 20000 in
theorem ggX3_whoDoes_X3_leastWho : GoodIn wsX3_whoDoes wsX3_leastWho := goodIn_r _ [35, 36, 37, 38, 39, 4, 40, 6, 16, 13, 17, 1, 2, 3, 5, 7, 8, 9, 10, 11, 41, 42, 43] (by decide +kernel) (by decide +kernel)
set_option maxRecDepth 20000 in
theorem gX3_whoDoes_X3_leastWho : GoodIn wsX3_whoDoes (wsV RX3 51 RX3 yX3_leastWho wsX3_leastWho) := goodIn_app (goodIn_of _ (by decide +kernel)) ggX3_whoDoes_X3_leastWho
theorem dX3_whoDoes_0 : decode cX3_whoDoes 0 = .ok (.aload_n 0, 1) := by decide +kernel
theorem dX3_whoDoes_1 : decode cX3_whoDoes 1 = .ok (.invokevirtual 47, 3) := by decide +kernel
theorem dX3_whoDoes_4 : decode cX3_whoDoes 4 = .ok (.istore 4, 2) := by decide +kernel
theorem dX3_whoDoes_6 : decode cX3_whoDoes 6 = .ok (.bipush (-6), 2) := by decide +kernel
theorem dX3_whoDoes_8 : decode cX3_whoDoes 8 = .ok (.istore 5, 2) := by decide +kernel
theorem dX3_whoDoes_10 : decode cX3_whoDoes 10 = .ok (.iconst 0, 1) := by decide +kernel
theorem dX3_whoDoes_11 : decode cX3_whoDoes 11 = .ok (.istore 6, 2) := by decide +kernel
theorem dX3_whoDoes_13 : decode cX3_whoDoes 13 = .ok (.iload 6, 2) := by decide +kernel
theorem dX3_whoDoes_15 : decode cX3_whoDoes 15 = .ok (.bipush 24, 2) := by decide +kernel
theorem dX3_whoDoes_17 : decode cX3_whoDoes 17 = .ok (.if_icmp .ge 67, 3) := by decide +kernel
theorem dX3_whoDoes_20 : decode cX3_whoDoes 20 = .ok (.iload 6, 2) := by decide +kernel
theorem dX3_whoDoes_22 : decode cX3_whoDoes 22 = .ok (.iload_n 3, 1) := by decide +kernel
theorem dX3_whoDoes_23 : decode cX3_whoDoes 23 = .ok (.if_icmp .gt 61, 3) := by decide +kernel
theorem dX3_whoDoes_26 : decode cX3_whoDoes 26 = .ok (.iload_n 2, 1) := by decide +kernel
theorem dX3_whoDoes_27 : decode cX3_whoDoes 27 = .ok (.iload 6, 2) := by decide +kernel
theorem dX3_whoDoes_29 : decode cX3_whoDoes 29 = .ok (.invokestatic 28, 3) := by decide +kernel
theorem dX3_whoDoes_32 : decode cX3_whoDoes 32 = .ok (.ifCond .eq 46, 3) := by decide +kernel
theorem dX3_whoDoes_35 : decode cX3_whoDoes 35 = .ok (.aload_n 1, 1) := by decide +kernel
theorem dX3_whoDoes_36 : decode cX3_whoDoes 36 = .ok (.iload 6, 2) := by decide +kernel
theorem dX3_whoDoes_38 : decode cX3_whoDoes 38 = .ok (.invokevirtual 32, 3) := by decide +kernel
theorem dX3_whoDoes_41 : decode cX3_whoDoes 41 = .ok (.istore 7, 2) := by decide +kernel
theorem dX3_whoDoes_43 : decode cX3_whoDoes 43 = .ok (.aload_n 0, 1) := by decide +kernel
theorem dX3_whoDoes_44 : decode cX3_whoDoes 44 = .ok (.iload 7, 2) := by decide +kernel
theorem dX3_whoDoes_46 : decode cX3_whoDoes 46 = .ok (.iconst (-1), 1) := by decide +kernel
theorem dX3_whoDoes_47 : decode cX3_whoDoes 47 = .ok (.invokevirtual 37, 3) := by decide +kernel
theorem dX3_whoDoes_50 : decode cX3_whoDoes 50 = .ok (.aload_n 0, 1) := by decide +kernel
theorem dX3_whoDoes_51 : decode cX3_whoDoes 51 = .ok (.iload 7, 2) := by decide +kernel
theorem dX3_whoDoes_53 : decode cX3_whoDoes 53 = .ok (.iload 4, 2) := by decide +kernel
theorem dX3_whoDoes_55 : decode cX3_whoDoes 55 = .ok (.invokevirtual 51, 3) := by decide +kernel
theorem dX3_whoDoes_58 : decode cX3_whoDoes 58 = .ok (.istore 5, 2) := by decide +kernel
theorem dX3_whoDoes_60 : decode cX3_whoDoes 60 = .ok (.iload 5, 2) := by decide +kernel
theorem dX3_whoDoes_62 : decode cX3_whoDoes 62 = .ok (.bipush (-6), 2) := by decide +kernel
theorem dX3_whoDoes_64 : decode cX3_whoDoes 64 = .ok (.if_icmp .ne 8, 3) := by decide +kernel
theorem dX3_whoDoes_67 : decode cX3_whoDoes 67 = .ok (.iload 4, 2) := by decide +kernel
theorem dX3_whoDoes_69 : decode cX3_whoDoes 69 = .ok (.goto 7, 3) := by decide +kernel
theorem dX3_whoDoes_72 : decode cX3_whoDoes 72 = .ok (.iload 4, 2) := by decide +kernel
theorem dX3_whoDoes_74 : decode cX3_whoDoes 74 = .ok (.iconst 1, 1) := by decide +kernel
theorem dX3_whoDoes_75 : decode cX3_whoDoes 75 = .ok (.isub, 1) := by decide +kernel
theorem dX3_whoDoes_76 : decode cX3_whoDoes 76 = .ok (.istore 4, 2) := by decide +kernel
theorem dX3_whoDoes_78 : decode cX3_whoDoes 78 = .ok (.iinc 6 1, 3) := by decide +kernel
theorem dX3_whoDoes_81 : decode cX3_whoDoes 81 = .ok (.goto (-68), 3) := by decide +kernel
theorem dX3_whoDoes_84 : decode cX3_whoDoes 84 = .ok (.iload 5, 2) := by decide +kernel
theorem dX3_whoDoes_86 : decode cX3_whoDoes 86 = .ok (.ireturn, 1) := by decide +kernel
set_option maxRecDepth 20000 in
theorem ggX3_leastWho_X3_changeRoom : GoodIn wsX3_leastWho wsX3_changeRoom := goodIn_r _ [6, 1, 7, 8, 9, 10, 20, 21, 22] (by decide +kernel) (by decide +kernel)
set_option maxRecDepth 20000 in
theorem gX3_leastWho_X3_changeRoom : GoodIn wsX3_leastWho (wsV RX3 54 RX3 yX3_changeRoom wsX3_changeRoom) := goodIn_app (goodIn_of _ (by decide +kernel)) ggX3_leastWho_X3_changeRoom
set_option maxRecDepth 20000 in
theorem ggX3_leastWho_X3_most : GoodIn wsX3_leastWho wsX3_most := goodIn_r _ [14, 7, 15, 16, 17, 18, 19, 20, 21, 22] (by decide +kernel) (by decide +kernel)
set_option maxRecDepth 20000 in
theorem gX3_leastWho_X3_most : GoodIn wsX3_leastWho (wsV RX3 47 RX3 yX3_most wsX3_most) := goodIn_app (goodIn_of _ (by decide +kernel)) ggX3_leastWho_X3_most
theorem dX3_leastWho_0 : decode cX3_leastWho 0 = .ok (.iconst 0, 1) := by decide +kernel
theorem dX3_leastWho_1 : decode cX3_leastWho 1 = .ok (.istore_n 3, 1) := by decide +kernel
theorem dX3_leastWho_2 : decode cX3_leastWho 2 = .ok (.iload_n 3, 1) := by decide +kernel
theorem dX3_leastWho_3 : decode cX3_leastWho 3 = .ok (.bipush 6, 2) := by decide +kernel
theorem dX3_leastWho_5 : decode cX3_leastWho 5 = .ok (.if_icmp .ge 50, 3) := by decide +kernel
theorem dX3_leastWho_8 : decode cX3_leastWho 8 = .ok (.iload_n 1, 1) := by decide +kernel
theorem dX3_leastWho_9 : decode cX3_leastWho 9 = .ok (.iconst 1, 1) := by decide +kernel
theorem dX3_leastWho_10 : decode cX3_leastWho 10 = .ok (.iload_n 3, 1) := by decide +kernel
theorem dX3_leastWho_11 : decode cX3_leastWho 11 = .ok (.ishl, 1) := by decide +kernel
theorem dX3_leastWho_12 : decode cX3_leastWho 12 = .ok (.iand, 1) := by decide +kernel
theorem dX3_leastWho_13 : decode cX3_leastWho 13 = .ok (.ifCond .eq 36, 3) := by decide +kernel
theorem dX3_leastWho_16 : decode cX3_leastWho 16 = .ok (.aload_n 0, 1) := by decide +kernel
theorem dX3_leastWho_17 : decode cX3_leastWho 17 = .ok (.getfield 9, 3) := by decide +kernel
theorem dX3_leastWho_20 : decode cX3_leastWho 20 = .ok (.iload_n 3, 1) := by decide +kernel
theorem dX3_leastWho_21 : decode cX3_leastWho 21 = .ok (.iaload, 1) := by decide +kernel
theorem dX3_leastWho_22 : decode cX3_leastWho 22 = .ok (.ifCond .le 27, 3) := by decide +kernel
theorem dX3_leastWho_25 : decode cX3_leastWho 25 = .ok (.aload_n 0, 1) := by decide +kernel
theorem dX3_leastWho_26 : decode cX3_leastWho 26 = .ok (.iload_n 3, 1) := by decide +kernel
theorem dX3_leastWho_27 : decode cX3_leastWho 27 = .ok (.iconst (-1), 1) := by decide +kernel
theorem dX3_leastWho_28 : decode cX3_leastWho 28 = .ok (.invokevirtual 54, 3) := by decide +kernel
theorem dX3_leastWho_31 : decode cX3_leastWho 31 = .ok (.aload_n 0, 1) := by decide +kernel
theorem dX3_leastWho_32 : decode cX3_leastWho 32 = .ok (.invokevirtual 47, 3) := by decide +kernel
theorem dX3_leastWho_35 : decode cX3_leastWho 35 = .ok (.iconst 1, 1) := by decide +kernel
theorem dX3_leastWho_36 : decode cX3_leastWho 36 = .ok (.iadd, 1) := by decide +kernel
theorem dX3_leastWho_37 : decode cX3_leastWho 37 = .ok (.iload_n 2, 1) := by decide +kernel
theorem dX3_leastWho_38 : decode cX3_leastWho 38 = .ok (.if_icmp .ne 5, 3) := by decide +kernel
theorem dX3_leastWho_41 : decode cX3_leastWho 41 = .ok (.iload_n 3, 1) := by decide +kernel
theorem dX3_leastWho_42 : decode cX3_leastWho 42 = .ok (.ireturn, 1) := by decide +kernel
theorem dX3_leastWho_43 : decode cX3_leastWho 43 = .ok (.aload_n 0, 1) := by decide +kernel
theorem dX3_leastWho_44 : decode cX3_leastWho 44 = .ok (.iload_n 3, 1) := by decide +kernel
theorem dX3_leastWho_45 : decode cX3_leastWho 45 = .ok (.iconst 1, 1) := by decide +kernel
theorem dX3_leastWho_46 : decode cX3_leastWho 46 = .ok (.invokevirtual 54, 3) := by decide +kernel
theorem dX3_leastWho_49 : decode cX3_leastWho 49 = .ok (.iinc 3 1, 3) := by decide +kernel
theorem dX3_leastWho_52 : decode cX3_leastWho 52 = .ok (.goto (-50), 3) := by decide +kernel
theorem dX3_leastWho_55 : decode cX3_leastWho 55 = .ok (.bipush (-6), 2) := by decide +kernel
theorem dX3_leastWho_57 : decode cX3_leastWho 57 = .ok (.ireturn, 1) := by decide +kernel
theorem dX3_changeHours_0 : decode cX3_changeHours 0 = .ok (.aload_n 0, 1) := by decide +kernel
theorem dX3_changeHours_1 : decode cX3_changeHours 1 = .ok (.dup, 1) := by decide +kernel
theorem dX3_changeHours_2 : decode cX3_changeHours 2 = .ok (.getfield 18, 3) := by decide +kernel
theorem dX3_changeHours_5 : decode cX3_changeHours 5 = .ok (.iload_n 2, 1) := by decide +kernel
theorem dX3_changeHours_6 : decode cX3_changeHours 6 = .ok (.iadd, 1) := by decide +kernel
theorem dX3_changeHours_7 : decode cX3_changeHours 7 = .ok (.putfield 18, 3) := by decide +kernel
theorem dX3_changeHours_10 : decode cX3_changeHours 10 = .ok (.iconst 0, 1) := by decide +kernel
theorem dX3_changeHours_11 : decode cX3_changeHours 11 = .ok (.istore_n 3, 1) := by decide +kernel
theorem dX3_changeHours_12 : decode cX3_changeHours 12 = .ok (.iload_n 3, 1) := by decide +kernel
theorem dX3_changeHours_13 : decode cX3_changeHours 13 = .ok (.bipush 64, 2) := by decide +kernel
theorem dX3_changeHours_15 : decode cX3_changeHours 15 = .ok (.if_icmp .ge 27, 3) := by decide +kernel
theorem dX3_changeHours_18 : decode cX3_changeHours 18 = .ok (.iload_n 1, 1) := by decide +kernel
theorem dX3_changeHours_19 : decode cX3_changeHours 19 = .ok (.iload_n 3, 1) := by decide +kernel
theorem dX3_changeHours_20 : decode cX3_changeHours 20 = .ok (.iconst (-1), 1) := by decide +kernel
theorem dX3_changeHours_21 : decode cX3_changeHours 21 = .ok (.ixor, 1) := by decide +kernel
theorem dX3_changeHours_22 : decode cX3_changeHours 22 = .ok (.iand, 1) := by decide +kernel
theorem dX3_changeHours_23 : decode cX3_changeHours 23 = .ok (.ifCond .ne 13, 3) := by decide +kernel
theorem dX3_changeHours_26 : decode cX3_changeHours 26 = .ok (.aload_n 0, 1) := by decide +kernel
theorem dX3_changeHours_27 : decode cX3_changeHours 27 = .ok (.getfield 15, 3) := by decide +kernel
theorem dX3_changeHours_30 : decode cX3_changeHours 30 = .ok (.iload_n 3, 1) := by decide +kernel
theorem dX3_changeHours_31 : decode cX3_changeHours 31 = .ok (.dup2, 1) := by decide +kernel
theorem dX3_changeHours_32 : decode cX3_changeHours 32 = .ok (.iaload, 1) := by decide +kernel
theorem dX3_changeHours_33 : decode cX3_changeHours 33 = .ok (.iload_n 2, 1) := by decide +kernel
theorem dX3_changeHours_34 : decode cX3_changeHours 34 = .ok (.isub, 1) := by decide +kernel
theorem dX3_changeHours_35 : decode cX3_changeHours 35 = .ok (.iastore, 1) := by decide +kernel
theorem dX3_changeHours_36 : decode cX3_changeHours 36 = .ok (.iinc 3 1, 3) := by decide +kernel
theorem dX3_changeHours_39 : decode cX3_changeHours 39 = .ok (.goto (-27), 3) := by decide +kernel
theorem dX3_changeHours_42 : decode cX3_changeHours 42 = .ok (.return_, 1) := by decide +kernel
set_option maxRecDepth 20000 in
theorem ggX3_changeRoom_X5_isWithin : GoodIn wsX3_changeRoom wsX5_isWithin := goodIn_r _ [5] (by decide +kernel) (by decide +kernel)
set_option maxRecDepth 20000 in
theorem gX3_changeRoom_X5_isWithin_n57 : GoodIn wsX3_changeRoom (wsX5_isWithin) := ggX3_changeRoom_X5_isWithin
theorem dX3_changeRoom_0 : decode cX3_changeRoom 0 = .ok (.iload_n 1, 1) := by decide +kernel
theorem dX3_changeRoom_1 : decode cX3_changeRoom 1 = .ok (.iconst 0, 1) := by decide +kernel
theorem dX3_changeRoom_2 : decode cX3_changeRoom 2 = .ok (.iconst 5, 1) := by decide +kernel
theorem dX3_changeRoom_3 : decode cX3_changeRoom 3 = .ok (.invokestatic 57, 3) := by decide +kernel
theorem dX3_changeRoom_6 : decode cX3_changeRoom 6 = .ok (.ifCond .ne 4, 3) := by decide +kernel
theorem dX3_changeRoom_9 : decode cX3_changeRoom 9 = .ok (.return_, 1) := by decide +kernel
theorem dX3_changeRoom_10 : decode cX3_changeRoom 10 = .ok (.aload_n 0, 1) := by decide +kernel
theorem dX3_changeRoom_11 : decode cX3_changeRoom 11 = .ok (.getfield 9, 3) := by decide +kernel
theorem dX3_changeRoom_14 : decode cX3_changeRoom 14 = .ok (.iload_n 1, 1) := by decide +kernel
theorem dX3_changeRoom_15 : decode cX3_changeRoom 15 = .ok (.dup2, 1) := by decide +kernel
theorem dX3_changeRoom_16 : decode cX3_changeRoom 16 = .ok (.iaload, 1) := by decide +kernel
theorem dX3_changeRoom_17 : decode cX3_changeRoom 17 = .ok (.iload_n 2, 1) := by decide +kernel
theorem dX3_changeRoom_18 : decode cX3_changeRoom 18 = .ok (.iadd, 1) := by decide +kernel
theorem dX3_changeRoom_19 : decode cX3_changeRoom 19 = .ok (.iastore, 1) := by decide +kernel
theorem dX3_changeRoom_20 : decode cX3_changeRoom 20 = .ok (.iconst 0, 1) := by decide +kernel
theorem dX3_changeRoom_21 : decode cX3_changeRoom 21 = .ok (.istore_n 3, 1) := by decide +kernel
theorem dX3_changeRoom_22 : decode cX3_changeRoom 22 = .ok (.iload_n 3, 1) := by decide +kernel
theorem dX3_changeRoom_23 : decode cX3_changeRoom 23 = .ok (.bipush 64, 2) := by decide +kernel
theorem dX3_changeRoom_25 : decode cX3_changeRoom 25 = .ok (.if_icmp .ge 27, 3) := by decide +kernel
theorem dX3_changeRoom_28 : decode cX3_changeRoom 28 = .ok (.iload_n 3, 1) := by decide +kernel
theorem dX3_changeRoom_29 : decode cX3_changeRoom 29 = .ok (.iconst 1, 1) := by decide +kernel
theorem dX3_changeRoom_30 : decode cX3_changeRoom 30 = .ok (.iload_n 1, 1) := by decide +kernel
theorem dX3_changeRoom_31 : decode cX3_changeRoom 31 = .ok (.ishl, 1) := by decide +kernel
theorem dX3_changeRoom_32 : decode cX3_changeRoom 32 = .ok (.iand, 1) := by decide +kernel
theorem dX3_changeRoom_33 : decode cX3_changeRoom 33 = .ok (.ifCond .eq 13, 3) := by decide +kernel
theorem dX3_changeRoom_36 : decode cX3_changeRoom 36 = .ok (.aload_n 0, 1) := by decide +kernel
theorem dX3_changeRoom_37 : decode cX3_changeRoom 37 = .ok (.getfield 15, 3) := by decide +kernel
theorem dX3_changeRoom_40 : decode cX3_changeRoom 40 = .ok (.iload_n 3, 1) := by decide +kernel
theorem dX3_changeRoom_41 : decode cX3_changeRoom 41 = .ok (.dup2, 1) := by decide +kernel
theorem dX3_changeRoom_42 : decode cX3_changeRoom 42 = .ok (.iaload, 1) := by decide +kernel
theorem dX3_changeRoom_43 : decode cX3_changeRoom 43 = .ok (.iload_n 2, 1) := by decide +kernel
theorem dX3_changeRoom_44 : decode cX3_changeRoom 44 = .ok (.iadd, 1) := by decide +kernel
theorem dX3_changeRoom_45 : decode cX3_changeRoom 45 = .ok (.iastore, 1) := by decide +kernel
theorem dX3_changeRoom_46 : decode cX3_changeRoom 46 = .ok (.iinc 3 1, 3) := by decide +kernel
theorem dX3_changeRoom_49 : decode cX3_changeRoom 49 = .ok (.goto (-27), 3) := by decide +kernel
theorem dX3_changeRoom_52 : decode cX3_changeRoom 52 = .ok (.return_, 1) := by decide +kernel
