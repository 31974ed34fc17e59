theorem dX0_init_0 : decode cX0_init 0 = .ok (.aload_n 0, 1) := by decide +kernel
theorem dX0_init_1 : decode cX0_init 1 = .ok (.invokespecial 3, 3) := by decide +kernel
theorem dX0_init_4 : decode cX0_init 4 = .ok (.aload_n 0, 1) := by decide +kernel
theorem dX0_init_5 : decode cX0_init 5 = .ok (.bipush 11, 2) := by decide +kernel
theorem dX0_init_7 : decode cX0_init 7 = .ok (.newarray .long, 2) := by decide +kernel
theorem dX0_init_9 : decode cX0_init 9 = .ok (.putfield 9, 3) := by decide +kernel
theorem dX0_init_12 : decode cX0_init 12 = .ok (.return_, 1) := by decide +kernel
set_option maxRecDepth 20000 in
theorem ggX0_run_X0_someLeft : GoodIn wsX0_run wsX0_someLeft := goodIn_r _ [9, 1, 14, 15, 16] (by decide +kernel) (by decide +kernel)
set_option maxRecDepth 20000 in
theorem gX0_run_X0_someLeft : GoodIn wsX0_run (wsV RX0 24 RX0 yX0_someLeft wsX0_someLeft) := goodIn_app (goodIn_of _ (by decide +kernel)) ggX0_run_X0_someLeft
set_option maxRecDepth 20000 in
theorem ggX0_run_X0_tryDeed : GoodIn wsX0_run wsX0_tryDeed := goodIn_r _ [13, 1, 14, 15, 16] (by decide +kernel) (by decide +kernel)
set_option maxRecDepth 20000 in
theorem gX0_run_X0_tryDeed : GoodIn wsX0_run (wsV RX0 28 RX0 yX0_tryDeed wsX0_tryDeed) := goodIn_app (goodIn_of _ (by decide +kernel)) ggX0_run_X0_tryDeed
theorem dX0_run_0 : decode cX0_run 0 = .ok (.iconst 0, 1) := by decide +kernel
theorem dX0_run_1 : decode cX0_run 1 = .ok (.istore 4, 2) := by decide +kernel
theorem dX0_run_3 : decode cX0_run 3 = .ok (.iload 4, 2) := by decide +kernel
theorem dX0_run_5 : decode cX0_run 5 = .ok (.bipush 11, 2) := by decide +kernel
theorem dX0_run_7 : decode cX0_run 7 = .ok (.if_icmp .ge 27, 3) := by decide +kernel
theorem dX0_run_10 : decode cX0_run 10 = .ok (.aload_n 0, 1) := by decide +kernel
theorem dX0_run_11 : decode cX0_run 11 = .ok (.getfield 9, 3) := by decide +kernel
theorem dX0_run_14 : decode cX0_run 14 = .ok (.iload 4, 2) := by decide +kernel
theorem dX0_run_16 : decode cX0_run 16 = .ok (.iload 4, 2) := by decide +kernel
theorem dX0_run_18 : decode cX0_run 18 = .ok (.iload_n 1, 1) := by decide +kernel
theorem dX0_run_19 : decode cX0_run 19 = .ok (.if_icmp .ne 7, 3) := by decide +kernel
theorem dX0_run_22 : decode cX0_run 22 = .ok (.lconst 1, 1) := by decide +kernel
theorem dX0_run_23 : decode cX0_run 23 = .ok (.goto 4, 3) := by decide +kernel
theorem dX0_run_26 : decode cX0_run 26 = .ok (.lconst 0, 1) := by decide +kernel
theorem dX0_run_27 : decode cX0_run 27 = .ok (.lastore, 1) := by decide +kernel
theorem dX0_run_28 : decode cX0_run 28 = .ok (.iinc 4 1, 3) := by decide +kernel
theorem dX0_run_31 : decode cX0_run 31 = .ok (.goto (-28), 3) := by decide +kernel
theorem dX0_run_34 : decode cX0_run 34 = .ok (.aload_n 0, 1) := by decide +kernel
theorem dX0_run_35 : decode cX0_run 35 = .ok (.lconst 1, 1) := by decide +kernel
theorem dX0_run_36 : decode cX0_run 36 = .ok (.putfield 15, 3) := by decide +kernel
theorem dX0_run_39 : decode cX0_run 39 = .ok (.aload_n 0, 1) := by decide +kernel
theorem dX0_run_40 : decode cX0_run 40 = .ok (.lconst 0, 1) := by decide +kernel
theorem dX0_run_41 : decode cX0_run 41 = .ok (.putfield 19, 3) := by decide +kernel
theorem dX0_run_44 : decode cX0_run 44 = .ok (.iconst 0, 1) := by decide +kernel
theorem dX0_run_45 : decode cX0_run 45 = .ok (.istore 4, 2) := by decide +kernel
theorem dX0_run_47 : decode cX0_run 47 = .ok (.iload 4, 2) := by decide +kernel
theorem dX0_run_49 : decode cX0_run 49 = .ok (.iload_n 2, 1) := by decide +kernel
theorem dX0_run_50 : decode cX0_run 50 = .ok (.if_icmp .ge 43, 3) := by decide +kernel
theorem dX0_run_53 : decode cX0_run 53 = .ok (.aload_n 0, 1) := by decide +kernel
theorem dX0_run_54 : decode cX0_run 54 = .ok (.ldc2_w 22, 3) := by decide +kernel
theorem dX0_run_57 : decode cX0_run 57 = .ok (.aload_n 0, 1) := by decide +kernel
theorem dX0_run_58 : decode cX0_run 58 = .ok (.getfield 19, 3) := by decide +kernel
theorem dX0_run_61 : decode cX0_run 61 = .ok (.aload_n 0, 1) := by decide +kernel
theorem dX0_run_62 : decode cX0_run 62 = .ok (.invokevirtual 24, 3) := by decide +kernel
theorem dX0_run_65 : decode cX0_run 65 = .ok (.ladd, 1) := by decide +kernel
theorem dX0_run_66 : decode cX0_run 66 = .ok (.lmul, 1) := by decide +kernel
theorem dX0_run_67 : decode cX0_run 67 = .ok (.putfield 19, 3) := by decide +kernel
theorem dX0_run_70 : decode cX0_run 70 = .ok (.aload_n 0, 1) := by decide +kernel
theorem dX0_run_71 : decode cX0_run 71 = .ok (.dup, 1) := by decide +kernel
theorem dX0_run_72 : decode cX0_run 72 = .ok (.getfield 15, 3) := by decide +kernel
theorem dX0_run_75 : decode cX0_run 75 = .ok (.ldc2_w 22, 3) := by decide +kernel
theorem dX0_run_78 : decode cX0_run 78 = .ok (.lmul, 1) := by decide +kernel
theorem dX0_run_79 : decode cX0_run 79 = .ok (.putfield 15, 3) := by decide +kernel
theorem dX0_run_82 : decode cX0_run 82 = .ok (.aload_n 0, 1) := by decide +kernel
theorem dX0_run_83 : decode cX0_run 83 = .ok (.iload_n 3, 1) := by decide +kernel
theorem dX0_run_84 : decode cX0_run 84 = .ok (.invokevirtual 28, 3) := by decide +kernel
theorem dX0_run_87 : decode cX0_run 87 = .ok (.iinc 4 1, 3) := by decide +kernel
theorem dX0_run_90 : decode cX0_run 90 = .ok (.goto (-43), 3) := by decide +kernel
theorem dX0_run_93 : decode cX0_run 93 = .ok (.return_, 1) := by decide +kernel
theorem dX0_tryDeed_0 : decode cX0_tryDeed 0 = .ok (.iconst 1, 1) := by decide +kernel
theorem dX0_tryDeed_1 : decode cX0_tryDeed 1 = .ok (.istore_n 2, 1) := by decide +kernel
theorem dX0_tryDeed_2 : decode cX0_tryDeed 2 = .ok (.iload_n 2, 1) := by decide +kernel
theorem dX0_tryDeed_3 : decode cX0_tryDeed 3 = .ok (.bipush 10, 2) := by decide +kernel
theorem dX0_tryDeed_5 : decode cX0_tryDeed 5 = .ok (.if_icmp .ge 39, 3) := by decide +kernel
theorem dX0_tryDeed_8 : decode cX0_tryDeed 8 = .ok (.aload_n 0, 1) := by decide +kernel
theorem dX0_tryDeed_9 : decode cX0_tryDeed 9 = .ok (.getfield 9, 3) := by decide +kernel
theorem dX0_tryDeed_12 : decode cX0_tryDeed 12 = .ok (.iload_n 2, 1) := by decide +kernel
theorem dX0_tryDeed_13 : decode cX0_tryDeed 13 = .ok (.bipush 10, 2) := by decide +kernel
theorem dX0_tryDeed_15 : decode cX0_tryDeed 15 = .ok (.iload_n 1, 1) := by decide +kernel
theorem dX0_tryDeed_16 : decode cX0_tryDeed 16 = .ok (.isub, 1) := by decide +kernel
theorem dX0_tryDeed_17 : decode cX0_tryDeed 17 = .ok (.i2l, 1) := by decide +kernel
theorem dX0_tryDeed_18 : decode cX0_tryDeed 18 = .ok (.aload_n 0, 1) := by decide +kernel
theorem dX0_tryDeed_19 : decode cX0_tryDeed 19 = .ok (.getfield 9, 3) := by decide +kernel
theorem dX0_tryDeed_22 : decode cX0_tryDeed 22 = .ok (.iload_n 2, 1) := by decide +kernel
theorem dX0_tryDeed_23 : decode cX0_tryDeed 23 = .ok (.laload, 1) := by decide +kernel
theorem dX0_tryDeed_24 : decode cX0_tryDeed 24 = .ok (.lmul, 1) := by decide +kernel
theorem dX0_tryDeed_25 : decode cX0_tryDeed 25 = .ok (.iload_n 1, 1) := by decide +kernel
theorem dX0_tryDeed_26 : decode cX0_tryDeed 26 = .ok (.i2l, 1) := by decide +kernel
theorem dX0_tryDeed_27 : decode cX0_tryDeed 27 = .ok (.aload_n 0, 1) := by decide +kernel
theorem dX0_tryDeed_28 : decode cX0_tryDeed 28 = .ok (.getfield 9, 3) := by decide +kernel
theorem dX0_tryDeed_31 : decode cX0_tryDeed 31 = .ok (.iload_n 2, 1) := by decide +kernel
theorem dX0_tryDeed_32 : decode cX0_tryDeed 32 = .ok (.iconst 1, 1) := by decide +kernel
theorem dX0_tryDeed_33 : decode cX0_tryDeed 33 = .ok (.iadd, 1) := by decide +kernel
theorem dX0_tryDeed_34 : decode cX0_tryDeed 34 = .ok (.laload, 1) := by decide +kernel
theorem dX0_tryDeed_35 : decode cX0_tryDeed 35 = .ok (.lmul, 1) := by decide +kernel
theorem dX0_tryDeed_36 : decode cX0_tryDeed 36 = .ok (.ladd, 1) := by decide +kernel
theorem dX0_tryDeed_37 : decode cX0_tryDeed 37 = .ok (.lastore, 1) := by decide +kernel
theorem dX0_tryDeed_38 : decode cX0_tryDeed 38 = .ok (.iinc 2 1, 3) := by decide +kernel
theorem dX0_tryDeed_41 : decode cX0_tryDeed 41 = .ok (.goto (-39), 3) := by decide +kernel
theorem dX0_tryDeed_44 : decode cX0_tryDeed 44 = .ok (.return_, 1) := by decide +kernel
theorem dX0_someLeft_0 : decode cX0_someLeft 0 = .ok (.lconst 0, 1) := by decide +kernel
theorem dX0_someLeft_1 : decode cX0_someLeft 1 = .ok (.lstore_n 1, 1) := by decide +kernel
theorem dX0_someLeft_2 : decode cX0_someLeft 2 = .ok (.iconst 1, 1) := by decide +kernel
theorem dX0_someLeft_3 : decode cX0_someLeft 3 = .ok (.istore_n 3, 1) := by decide +kernel
theorem dX0_someLeft_4 : decode cX0_someLeft 4 = .ok (.iload_n 3, 1) := by decide +kernel
theorem dX0_someLeft_5 : decode cX0_someLeft 5 = .ok (.bipush 10, 2) := by decide +kernel
theorem dX0_someLeft_7 : decode cX0_someLeft 7 = .ok (.if_icmp .ge 18, 3) := by decide +kernel
theorem dX0_someLeft_10 : decode cX0_someLeft 10 = .ok (.lload_n 1, 1) := by decide +kernel
theorem dX0_someLeft_11 : decode cX0_someLeft 11 = .ok (.aload_n 0, 1) := by decide +kernel
theorem dX0_someLeft_12 : decode cX0_someLeft 12 = .ok (.getfield 9, 3) := by decide +kernel
theorem dX0_someLeft_15 : decode cX0_someLeft 15 = .ok (.iload_n 3, 1) := by decide +kernel
theorem dX0_someLeft_16 : decode cX0_someLeft 16 = .ok (.laload, 1) := by decide +kernel
theorem dX0_someLeft_17 : decode cX0_someLeft 17 = .ok (.ladd, 1) := by decide +kernel
theorem dX0_someLeft_18 : decode cX0_someLeft 18 = .ok (.lstore_n 1, 1) := by decide +kernel
theorem dX0_someLeft_19 : decode cX0_someLeft 19 = .ok (.iinc 3 1, 3) := by decide +kernel
theorem dX0_someLeft_22 : decode cX0_someLeft 22 = .ok (.goto (-18), 3) := by decide +kernel
theorem dX0_someLeft_25 : decode cX0_someLeft 25 = .ok (.lload_n 1, 1) := by decide +kernel
theorem dX0_someLeft_26 : decode cX0_someLeft 26 = .ok (.lreturn, 1) := by decide +kernel
