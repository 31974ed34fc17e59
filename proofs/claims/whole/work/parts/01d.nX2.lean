theorem dX2_init_0 : decode cX2_init 0 = .ok (.aload_n 0, 1) := by decide +kernel
theorem dX2_init_1 : decode cX2_init 1 = .ok (.invokespecial 3, 3) := by decide +kernel
theorem dX2_init_4 : decode cX2_init 4 = .ok (.aload_n 0, 1) := by decide +kernel
theorem dX2_init_5 : decode cX2_init 5 = .ok (.new 9, 3) := by decide +kernel
theorem dX2_init_8 : decode cX2_init 8 = .ok (.dup, 1) := by decide +kernel
theorem dX2_init_9 : decode cX2_init 9 = .ok (.invokespecial 11, 3) := by decide +kernel
theorem dX2_init_12 : decode cX2_init 12 = .ok (.putfield 12, 3) := by decide +kernel
theorem dX2_init_15 : decode cX2_init 15 = .ok (.aload_n 0, 1) := by decide +kernel
theorem dX2_init_16 : decode cX2_init 16 = .ok (.bipush 99, 2) := by decide +kernel
theorem dX2_init_18 : decode cX2_init 18 = .ok (.newarray .int, 2) := by decide +kernel
theorem dX2_init_20 : decode cX2_init 20 = .ok (.putfield 18, 3) := by decide +kernel
theorem dX2_init_23 : decode cX2_init 23 = .ok (.aload_n 0, 1) := by decide +kernel
theorem dX2_init_24 : decode cX2_init 24 = .ok (.bipush 99, 2) := by decide +kernel
theorem dX2_init_26 : decode cX2_init 26 = .ok (.newarray .int, 2) := by decide +kernel
theorem dX2_init_28 : decode cX2_init 28 = .ok (.putfield 22, 3) := by decide +kernel
theorem dX2_init_31 : decode cX2_init 31 = .ok (.aload_n 0, 1) := by decide +kernel
theorem dX2_init_32 : decode cX2_init 32 = .ok (.bipush 99, 2) := by decide +kernel
theorem dX2_init_34 : decode cX2_init 34 = .ok (.newarray .int, 2) := by decide +kernel
theorem dX2_init_36 : decode cX2_init 36 = .ok (.putfield 25, 3) := by decide +kernel
theorem dX2_init_39 : decode cX2_init 39 = .ok (.aload_n 0, 1) := by decide +kernel
theorem dX2_init_40 : decode cX2_init 40 = .ok (.bipush 99, 2) := by decide +kernel
theorem dX2_init_42 : decode cX2_init 42 = .ok (.newarray .int, 2) := by decide +kernel
theorem dX2_init_44 : decode cX2_init 44 = .ok (.putfield 28, 3) := by decide +kernel
theorem dX2_init_47 : decode cX2_init 47 = .ok (.return_, 1) := by decide +kernel
set_option maxRecDepth 20000 in
theorem ggX2_begin_X1_copyFrom : GoodIn wsX2_begin wsX1_copyFrom := goodIn_r _ [10, 11, 12, 13, 14, 15, 16, 17, 18, 19, 20, 21, 22, 23, 24, 25, 35, 36, 37, 38, 39, 40, 41, 42, 43, 44, 45] (by decide +kernel) (by decide +kernel)
set_option maxRecDepth 20000 in
theorem gX2_begin_X1_copyFrom : GoodIn wsX2_begin (wsV RX2 31 RX1 yX1_copyFrom wsX1_copyFrom) := goodIn_app (goodIn_of _ (by decide +kernel)) ggX2_begin_X1_copyFrom
theorem dX2_begin_0 : decode cX2_begin 0 = .ok (.aload_n 0, 1) := by decide +kernel
theorem dX2_begin_1 : decode cX2_begin 1 = .ok (.getfield 12, 3) := by decide +kernel
theorem dX2_begin_4 : decode cX2_begin 4 = .ok (.aload_n 1, 1) := by decide +kernel
theorem dX2_begin_5 : decode cX2_begin 5 = .ok (.invokevirtual 31, 3) := by decide +kernel
theorem dX2_begin_8 : decode cX2_begin 8 = .ok (.aload_n 0, 1) := by decide +kernel
theorem dX2_begin_9 : decode cX2_begin 9 = .ok (.iconst 0, 1) := by decide +kernel
theorem dX2_begin_10 : decode cX2_begin 10 = .ok (.putfield 35, 3) := by decide +kernel
theorem dX2_begin_13 : decode cX2_begin 13 = .ok (.aload_n 0, 1) := by decide +kernel
theorem dX2_begin_14 : decode cX2_begin 14 = .ok (.iconst 0, 1) := by decide +kernel
theorem dX2_begin_15 : decode cX2_begin 15 = .ok (.putfield 39, 3) := by decide +kernel
theorem dX2_begin_18 : decode cX2_begin 18 = .ok (.aload_n 0, 1) := by decide +kernel
theorem dX2_begin_19 : decode cX2_begin 19 = .ok (.bipush (-6), 2) := by decide +kernel
theorem dX2_begin_21 : decode cX2_begin 21 = .ok (.putfield 42, 3) := by decide +kernel
theorem dX2_begin_24 : decode cX2_begin 24 = .ok (.aload_n 0, 1) := by decide +kernel
theorem dX2_begin_25 : decode cX2_begin 25 = .ok (.bipush (-6), 2) := by decide +kernel
theorem dX2_begin_27 : decode cX2_begin 27 = .ok (.putfield 45, 3) := by decide +kernel
theorem dX2_begin_30 : decode cX2_begin 30 = .ok (.return_, 1) := by decide +kernel
set_option maxRecDepth 20000 in
theorem ggX2_playPad_X4_firstFault : GoodIn wsX2_playPad wsX4_firstFault := goodIn_r _ [9, 10, 11, 12, 13, 8, 14, 15, 16, 17, 18, 19, 20, 21, 22, 23, 24, 25, 26, 27, 144, 145] (by decide +kernel) (by decide +kernel)
set_option maxRecDepth 20000 in
theorem gX2_playPad_X4_firstFault : GoodIn wsX2_playPad (wsV RX2 48 RX4 yX4_firstFault wsX4_firstFault) := goodIn_app (goodIn_of _ (by decide +kernel)) ggX2_playPad_X4_firstFault
set_option maxRecDepth 20000 in
theorem ggX2_playPad_X2_begin : GoodIn wsX2_playPad wsX2_begin := goodIn_r _ [32, 33, 4, 34, 2, 3, 35, 36, 37, 38, 39, 40, 41, 42, 43, 44, 45, 46, 47, 48, 49, 50, 51, 52, 53, 54, 146, 147, 148, 149, 150, 151, 152, 153, 154, 155, 156, 157, 158, 159, 160, 161, 162, 163, 164, 165] (by decide +kernel) (by decide +kernel)
set_option maxRecDepth 20000 in
theorem gX2_playPad_X2_begin : GoodIn wsX2_playPad (wsV RX2 54 RX2 yX2_begin wsX2_begin) := goodIn_app (goodIn_of _ (by decide +kernel)) ggX2_playPad_X2_begin
set_option maxRecDepth 20000 in
theorem ggX2_playPad_X2_playAct : GoodIn wsX2_playPad wsX2_playAct := goodIn_r _ [58, 33, 59, 12, 13, 8, 14, 10, 15, 16, 17, 18, 60, 61, 62, 38, 63, 53, 41, 64, 65, 66, 67, 40, 68, 69, 70, 71, 52, 51, 72, 73, 74, 75, 11, 76, 77, 78, 79, 80, 81, 82, 83, 84, 85, 86, 87, 46, 88, 89, 90, 91, 92, 93, 94, 95, 96, 97, 98, 99, 100, 101, 102, 103, 104, 105, 106, 31, 107, 108, 109, 110, 111, 34, 112, 113, 114, 115, 116, 117, 118, 119, 120, 121, 122, 123, 54, 42, 124, 125, 126, 127, 128, 129, 130, 131, 132, 133, 134, 135, 136, 137, 138, 139, 146, 147, 148, 149, 150, 151, 152, 153, 154, 144, 145, 155, 156, 157, 158, 159, 160, 161, 162, 163, 164, 165] (by decide +kernel) (by decide +kernel)
set_option maxRecDepth 20000 in
theorem gX2_playPad_X2_playAct : GoodIn wsX2_playPad (wsV RX2 60 RX2 yX2_playAct wsX2_playAct) := goodIn_app (goodIn_of _ (by decide +kernel)) ggX2_playPad_X2_playAct
set_option maxRecDepth 20000 in
theorem ggX2_playPad_X4_widthAt : GoodIn wsX2_playPad wsX4_widthAt := goodIn_r _ [143, 11, 12, 13, 8, 14, 10, 15, 16, 17, 18, 144, 145] (by decide +kernel) (by decide +kernel)
set_option maxRecDepth 20000 in
theorem gX2_playPad_X4_widthAt : GoodIn wsX2_playPad (wsV RX2 64 RX4 yX4_widthAt wsX4_widthAt) := goodIn_app (goodIn_of _ (by decide +kernel)) ggX2_playPad_X4_widthAt
theorem dX2_playPad_0 : decode cX2_playPad 0 = .ok (.aload_n 2, 1) := by decide +kernel
theorem dX2_playPad_1 : decode cX2_playPad 1 = .ok (.invokevirtual 48, 3) := by decide +kernel
theorem dX2_playPad_4 : decode cX2_playPad 4 = .ok (.bipush (-6), 2) := by decide +kernel
theorem dX2_playPad_6 : decode cX2_playPad 6 = .ok (.if_icmp .eq 6, 3) := by decide +kernel
theorem dX2_playPad_9 : decode cX2_playPad 9 = .ok (.bipush (-5), 2) := by decide +kernel
theorem dX2_playPad_11 : decode cX2_playPad 11 = .ok (.ireturn, 1) := by decide +kernel
theorem dX2_playPad_12 : decode cX2_playPad 12 = .ok (.aload_n 0, 1) := by decide +kernel
theorem dX2_playPad_13 : decode cX2_playPad 13 = .ok (.aload_n 1, 1) := by decide +kernel
theorem dX2_playPad_14 : decode cX2_playPad 14 = .ok (.invokevirtual 54, 3) := by decide +kernel
theorem dX2_playPad_17 : decode cX2_playPad 17 = .ok (.iconst 0, 1) := by decide +kernel
theorem dX2_playPad_18 : decode cX2_playPad 18 = .ok (.istore_n 3, 1) := by decide +kernel
theorem dX2_playPad_19 : decode cX2_playPad 19 = .ok (.iconst 0, 1) := by decide +kernel
theorem dX2_playPad_20 : decode cX2_playPad 20 = .ok (.istore 4, 2) := by decide +kernel
theorem dX2_playPad_22 : decode cX2_playPad 22 = .ok (.iload 4, 2) := by decide +kernel
theorem dX2_playPad_24 : decode cX2_playPad 24 = .ok (.bipush 60, 2) := by decide +kernel
theorem dX2_playPad_26 : decode cX2_playPad 26 = .ok (.if_icmp .ge 63, 3) := by decide +kernel
theorem dX2_playPad_29 : decode cX2_playPad 29 = .ok (.iload_n 3, 1) := by decide +kernel
theorem dX2_playPad_30 : decode cX2_playPad 30 = .ok (.aload_n 2, 1) := by decide +kernel
theorem dX2_playPad_31 : decode cX2_playPad 31 = .ok (.getfield 57, 3) := by decide +kernel
theorem dX2_playPad_34 : decode cX2_playPad 34 = .ok (.if_icmp .ge 55, 3) := by decide +kernel
theorem dX2_playPad_37 : decode cX2_playPad 37 = .ok (.aload_n 0, 1) := by decide +kernel
theorem dX2_playPad_38 : decode cX2_playPad 38 = .ok (.aload_n 2, 1) := by decide +kernel
theorem dX2_playPad_39 : decode cX2_playPad 39 = .ok (.iload_n 3, 1) := by decide +kernel
theorem dX2_playPad_40 : decode cX2_playPad 40 = .ok (.invokevirtual 60, 3) := by decide +kernel
theorem dX2_playPad_43 : decode cX2_playPad 43 = .ok (.istore 5, 2) := by decide +kernel
theorem dX2_playPad_45 : decode cX2_playPad 45 = .ok (.iload 5, 2) := by decide +kernel
theorem dX2_playPad_47 : decode cX2_playPad 47 = .ok (.ifCond .eq 18, 3) := by decide +kernel
theorem dX2_playPad_50 : decode cX2_playPad 50 = .ok (.aload_n 0, 1) := by decide +kernel
theorem dX2_playPad_51 : decode cX2_playPad 51 = .ok (.iload 4, 2) := by decide +kernel
theorem dX2_playPad_53 : decode cX2_playPad 53 = .ok (.putfield 42, 3) := by decide +kernel
theorem dX2_playPad_56 : decode cX2_playPad 56 = .ok (.aload_n 0, 1) := by decide +kernel
theorem dX2_playPad_57 : decode cX2_playPad 57 = .ok (.iload 5, 2) := by decide +kernel
theorem dX2_playPad_59 : decode cX2_playPad 59 = .ok (.putfield 45, 3) := by decide +kernel
theorem dX2_playPad_62 : decode cX2_playPad 62 = .ok (.bipush (-3), 2) := by decide +kernel
theorem dX2_playPad_64 : decode cX2_playPad 64 = .ok (.ireturn, 1) := by decide +kernel
theorem dX2_playPad_65 : decode cX2_playPad 65 = .ok (.aload_n 0, 1) := by decide +kernel
theorem dX2_playPad_66 : decode cX2_playPad 66 = .ok (.dup, 1) := by decide +kernel
theorem dX2_playPad_67 : decode cX2_playPad 67 = .ok (.getfield 35, 3) := by decide +kernel
theorem dX2_playPad_70 : decode cX2_playPad 70 = .ok (.iconst 1, 1) := by decide +kernel
theorem dX2_playPad_71 : decode cX2_playPad 71 = .ok (.iadd, 1) := by decide +kernel
theorem dX2_playPad_72 : decode cX2_playPad 72 = .ok (.putfield 35, 3) := by decide +kernel
theorem dX2_playPad_75 : decode cX2_playPad 75 = .ok (.iload_n 3, 1) := by decide +kernel
theorem dX2_playPad_76 : decode cX2_playPad 76 = .ok (.aload_n 2, 1) := by decide +kernel
theorem dX2_playPad_77 : decode cX2_playPad 77 = .ok (.iload_n 3, 1) := by decide +kernel
theorem dX2_playPad_78 : decode cX2_playPad 78 = .ok (.invokevirtual 64, 3) := by decide +kernel
theorem dX2_playPad_81 : decode cX2_playPad 81 = .ok (.iadd, 1) := by decide +kernel
theorem dX2_playPad_82 : decode cX2_playPad 82 = .ok (.istore_n 3, 1) := by decide +kernel
theorem dX2_playPad_83 : decode cX2_playPad 83 = .ok (.iinc 4 1, 3) := by decide +kernel
theorem dX2_playPad_86 : decode cX2_playPad 86 = .ok (.goto (-64), 3) := by decide +kernel
theorem dX2_playPad_89 : decode cX2_playPad 89 = .ok (.iconst 0, 1) := by decide +kernel
theorem dX2_playPad_90 : decode cX2_playPad 90 = .ok (.ireturn, 1) := by decide +kernel
set_option maxRecDepth 20000 in
theorem ggX2_playAct_X4_signAt : GoodIn wsX2_playAct wsX4_signAt := goodIn_r _ [6, 7, 8, 9, 10, 11, 113, 114] (by decide +kernel) (by decide +kernel)
set_option maxRecDepth 20000 in
theorem gX2_playAct_X4_signAt : GoodIn wsX2_playAct (wsV RX2 68 RX4 yX4_signAt wsX4_signAt) := goodIn_app (goodIn_of _ (by decide +kernel)) ggX2_playAct_X4_signAt
set_option maxRecDepth 20000 in
theorem ggX2_playAct_X1_passHour : GoodIn wsX2_playAct wsX1_passHour := goodIn_r _ [16, 17, 18, 19, 20, 21, 15, 22, 23, 24, 25, 26, 27, 28, 29, 115, 116, 117, 118, 119, 120, 121, 122, 123, 124, 125] (by decide +kernel) (by decide +kernel)
set_option maxRecDepth 20000 in
theorem gX2_playAct_X1_passHour : GoodIn wsX2_playAct (wsV RX2 71 RX1 yX1_passHour wsX1_passHour) := goodIn_app (goodIn_of _ (by decide +kernel)) ggX2_playAct_X1_passHour
set_option maxRecDepth 20000 in
theorem ggX2_playAct_X4_courtierAt : GoodIn wsX2_playAct wsX4_courtierAt := goodIn_r _ [33, 34, 3, 4, 5, 6, 7, 8, 9, 10, 11, 113, 114] (by decide +kernel) (by decide +kernel)
set_option maxRecDepth 20000 in
theorem gX2_playAct_X4_courtierAt : GoodIn wsX2_playAct (wsV RX2 74 RX4 yX4_courtierAt wsX4_courtierAt) := goodIn_app (goodIn_of _ (by decide +kernel)) ggX2_playAct_X4_courtierAt
set_option maxRecDepth 20000 in
theorem ggX2_playAct_X4_hourAt : GoodIn wsX2_playAct wsX4_hourAt := goodIn_r _ [38, 34, 3, 4, 5, 6, 7, 8, 9, 10, 11, 113, 114] (by decide +kernel) (by decide +kernel)
set_option maxRecDepth 20000 in
theorem gX2_playAct_X4_hourAt : GoodIn wsX2_playAct (wsV RX2 77 RX4 yX4_hourAt wsX4_hourAt) := goodIn_app (goodIn_of _ (by decide +kernel)) ggX2_playAct_X4_hourAt
set_option maxRecDepth 20000 in
theorem ggX2_playAct_X1_putOnLeft : GoodIn wsX2_playAct wsX1_putOnLeft := goodIn_r _ [42, 29, 43, 44, 45, 15, 46, 47, 48, 49, 50, 51, 19, 20, 21, 22, 23, 115, 116, 117, 118, 119, 120, 121, 122, 123, 124, 125] (by decide +kernel) (by decide +kernel)
set_option maxRecDepth 20000 in
theorem gX2_playAct_X1_putOnLeft : GoodIn wsX2_playAct (wsV RX2 80 RX1 yX1_putOnLeft wsX1_putOnLeft) := goodIn_app (goodIn_of _ (by decide +kernel)) ggX2_playAct_X1_putOnLeft
set_option maxRecDepth 20000 in
theorem ggX2_playAct_X1_putOnRight : GoodIn wsX2_playAct wsX1_putOnRight := goodIn_r _ [55, 28, 43, 44, 45, 15, 46, 47, 48, 49, 50, 51, 19, 20, 21, 22, 23, 115, 116, 117, 118, 119, 120, 121, 122, 123, 124, 125] (by decide +kernel) (by decide +kernel)
set_option maxRecDepth 20000 in
theorem gX2_playAct_X1_putOnRight : GoodIn wsX2_playAct (wsV RX2 84 RX1 yX1_putOnRight wsX1_putOnRight) := goodIn_app (goodIn_of _ (by decide +kernel)) ggX2_playAct_X1_putOnRight
set_option maxRecDepth 20000 in
theorem ggX2_playAct_X1_takeOff : GoodIn wsX2_playAct wsX1_takeOff := goodIn_r _ [59, 29, 28, 19, 20, 21, 15, 22, 23, 115, 116, 117, 118, 119, 120, 121, 122, 123, 124, 125] (by decide +kernel) (by decide +kernel)
set_option maxRecDepth 20000 in
theorem gX2_playAct_X1_takeOff : GoodIn wsX2_playAct (wsV RX2 87 RX1 yX1_takeOff wsX1_takeOff) := goodIn_app (goodIn_of _ (by decide +kernel)) ggX2_playAct_X1_takeOff
set_option maxRecDepth 20000 in
theorem ggX2_playAct_X1_whyNoDeed : GoodIn wsX2_playAct wsX1_whyNoDeed := goodIn_r _ [63, 28, 19, 20, 21, 15, 22, 23, 115, 116, 117, 118, 119, 120, 121, 122, 123, 124, 125] (by decide +kernel) (by decide +kernel)
set_option maxRecDepth 20000 in
theorem gX2_playAct_X1_whyNoDeed : GoodIn wsX2_playAct (wsV RX2 90 RX1 yX1_whyNoDeed wsX1_whyNoDeed) := goodIn_app (goodIn_of _ (by decide +kernel)) ggX2_playAct_X1_whyNoDeed
set_option maxRecDepth 20000 in
theorem ggX2_playAct_X2_playDeeds : GoodIn wsX2_playAct wsX2_playDeeds := goodIn_r _ [68, 69, 70, 71, 67, 72, 73, 1, 74, 75, 76, 77, 9, 10, 11, 78, 79, 80, 15, 81, 28, 19, 20, 21, 22, 23, 82, 83, 84, 85, 86, 87, 43, 44, 45, 46, 47, 88, 89, 90, 91, 29, 104, 105, 106, 107, 108, 109, 110, 111, 112, 115, 116, 117, 118, 119, 120, 121, 122, 123, 124, 125] (by decide +kernel) (by decide +kernel)
set_option maxRecDepth 20000 in
theorem gX2_playAct_X2_playDeeds : GoodIn wsX2_playAct (wsV RX2 93 RX2 yX2_playDeeds wsX2_playDeeds) := goodIn_app (goodIn_of _ (by decide +kernel)) ggX2_playAct_X2_playDeeds
set_option maxRecDepth 20000 in
theorem ggX2_playAct_X1_give : GoodIn wsX2_playAct wsX1_give := goodIn_r _ [95, 86, 47, 96, 97, 98, 15, 99, 19, 20, 21, 22, 23, 43, 44, 45, 46, 88, 89, 90, 91, 29, 28, 115, 116, 117, 118, 119, 120, 121, 122, 123, 124, 125] (by decide +kernel) (by decide +kernel)
set_option maxRecDepth 20000 in
theorem gX2_playAct_X1_give : GoodIn wsX2_playAct (wsV RX2 97 RX1 yX1_give wsX1_give) := goodIn_app (goodIn_of _ (by decide +kernel)) ggX2_playAct_X1_give
set_option maxRecDepth 20000 in
theorem ggX2_playAct_X1_whyNoPromise : GoodIn wsX2_playAct wsX1_whyNoPromise := goodIn_r _ [103, 28, 19, 20, 21, 15, 22, 23, 115, 116, 117, 118, 119, 120, 121, 122, 123, 124, 125] (by decide +kernel) (by decide +kernel)
set_option maxRecDepth 20000 in
theorem gX2_playAct_X1_whyNoPromise : GoodIn wsX2_playAct (wsV RX2 100 RX1 yX1_whyNoPromise wsX1_whyNoPromise) := goodIn_app (goodIn_of _ (by decide +kernel)) ggX2_playAct_X1_whyNoPromise
theorem dX2_playAct_0 : decode cX2_playAct 0 = .ok (.aload_n 1, 1) := by decide +kernel
theorem dX2_playAct_1 : decode cX2_playAct 1 = .ok (.iload_n 2, 1) := by decide +kernel
theorem dX2_playAct_2 : decode cX2_playAct 2 = .ok (.invokevirtual 68, 3) := by decide +kernel
theorem dX2_playAct_5 : decode cX2_playAct 5 = .ok (.bipush 46, 2) := by decide +kernel
theorem dX2_playAct_7 : decode cX2_playAct 7 = .ok (.if_icmp .ne 12, 3) := by decide +kernel
theorem dX2_playAct_10 : decode cX2_playAct 10 = .ok (.aload_n 0, 1) := by decide +kernel
theorem dX2_playAct_11 : decode cX2_playAct 11 = .ok (.getfield 12, 3) := by decide +kernel
theorem dX2_playAct_14 : decode cX2_playAct 14 = .ok (.invokevirtual 71, 3) := by decide +kernel
theorem dX2_playAct_17 : decode cX2_playAct 17 = .ok (.iconst 0, 1) := by decide +kernel
theorem dX2_playAct_18 : decode cX2_playAct 18 = .ok (.ireturn, 1) := by decide +kernel
theorem dX2_playAct_19 : decode cX2_playAct 19 = .ok (.aload_n 1, 1) := by decide +kernel
theorem dX2_playAct_20 : decode cX2_playAct 20 = .ok (.iload_n 2, 1) := by decide +kernel
theorem dX2_playAct_21 : decode cX2_playAct 21 = .ok (.invokevirtual 74, 3) := by decide +kernel
theorem dX2_playAct_24 : decode cX2_playAct 24 = .ok (.istore_n 3, 1) := by decide +kernel
theorem dX2_playAct_25 : decode cX2_playAct 25 = .ok (.aload_n 1, 1) := by decide +kernel
theorem dX2_playAct_26 : decode cX2_playAct 26 = .ok (.iload_n 2, 1) := by decide +kernel
theorem dX2_playAct_27 : decode cX2_playAct 27 = .ok (.iconst 1, 1) := by decide +kernel
theorem dX2_playAct_28 : decode cX2_playAct 28 = .ok (.iadd, 1) := by decide +kernel
theorem dX2_playAct_29 : decode cX2_playAct 29 = .ok (.invokevirtual 68, 3) := by decide +kernel
theorem dX2_playAct_32 : decode cX2_playAct 32 = .ok (.lookupswitch 131 #[(33, 93), (48, 84), (62, 108), (108, 52), (114, 68)], 52) := by decide +kernel
theorem dX2_playAct_84 : decode cX2_playAct 84 = .ok (.aload_n 0, 1) := by decide +kernel
theorem dX2_playAct_85 : decode cX2_playAct 85 = .ok (.getfield 12, 3) := by decide +kernel
theorem dX2_playAct_88 : decode cX2_playAct 88 = .ok (.iload_n 3, 1) := by decide +kernel
theorem dX2_playAct_89 : decode cX2_playAct 89 = .ok (.aload_n 1, 1) := by decide +kernel
theorem dX2_playAct_90 : decode cX2_playAct 90 = .ok (.iload_n 2, 1) := by decide +kernel
theorem dX2_playAct_91 : decode cX2_playAct 91 = .ok (.iconst 2, 1) := by decide +kernel
theorem dX2_playAct_92 : decode cX2_playAct 92 = .ok (.iadd, 1) := by decide +kernel
theorem dX2_playAct_93 : decode cX2_playAct 93 = .ok (.invokevirtual 77, 3) := by decide +kernel
theorem dX2_playAct_96 : decode cX2_playAct 96 = .ok (.invokevirtual 80, 3) := by decide +kernel
theorem dX2_playAct_99 : decode cX2_playAct 99 = .ok (.ireturn, 1) := by decide +kernel
theorem dX2_playAct_100 : decode cX2_playAct 100 = .ok (.aload_n 0, 1) := by decide +kernel
theorem dX2_playAct_101 : decode cX2_playAct 101 = .ok (.getfield 12, 3) := by decide +kernel
theorem dX2_playAct_104 : decode cX2_playAct 104 = .ok (.iload_n 3, 1) := by decide +kernel
theorem dX2_playAct_105 : decode cX2_playAct 105 = .ok (.aload_n 1, 1) := by decide +kernel
theorem dX2_playAct_106 : decode cX2_playAct 106 = .ok (.iload_n 2, 1) := by decide +kernel
theorem dX2_playAct_107 : decode cX2_playAct 107 = .ok (.iconst 2, 1) := by decide +kernel
theorem dX2_playAct_108 : decode cX2_playAct 108 = .ok (.iadd, 1) := by decide +kernel
theorem dX2_playAct_109 : decode cX2_playAct 109 = .ok (.invokevirtual 77, 3) := by decide +kernel
theorem dX2_playAct_112 : decode cX2_playAct 112 = .ok (.invokevirtual 84, 3) := by decide +kernel
theorem dX2_playAct_115 : decode cX2_playAct 115 = .ok (.ireturn, 1) := by decide +kernel
theorem dX2_playAct_116 : decode cX2_playAct 116 = .ok (.aload_n 0, 1) := by decide +kernel
theorem dX2_playAct_117 : decode cX2_playAct 117 = .ok (.getfield 12, 3) := by decide +kernel
theorem dX2_playAct_120 : decode cX2_playAct 120 = .ok (.iload_n 3, 1) := by decide +kernel
theorem dX2_playAct_121 : decode cX2_playAct 121 = .ok (.invokevirtual 87, 3) := by decide +kernel
theorem dX2_playAct_124 : decode cX2_playAct 124 = .ok (.ireturn, 1) := by decide +kernel
theorem dX2_playAct_125 : decode cX2_playAct 125 = .ok (.aload_n 0, 1) := by decide +kernel
theorem dX2_playAct_126 : decode cX2_playAct 126 = .ok (.iload_n 3, 1) := by decide +kernel
theorem dX2_playAct_127 : decode cX2_playAct 127 = .ok (.iload_n 3, 1) := by decide +kernel
theorem dX2_playAct_128 : decode cX2_playAct 128 = .ok (.aload_n 0, 1) := by decide +kernel
theorem dX2_playAct_129 : decode cX2_playAct 129 = .ok (.getfield 12, 3) := by decide +kernel
theorem dX2_playAct_132 : decode cX2_playAct 132 = .ok (.iload_n 3, 1) := by decide +kernel
theorem dX2_playAct_133 : decode cX2_playAct 133 = .ok (.invokevirtual 90, 3) := by decide +kernel
theorem dX2_playAct_136 : decode cX2_playAct 136 = .ok (.invokevirtual 93, 3) := by decide +kernel
theorem dX2_playAct_139 : decode cX2_playAct 139 = .ok (.ireturn, 1) := by decide +kernel
theorem dX2_playAct_140 : decode cX2_playAct 140 = .ok (.aload_n 0, 1) := by decide +kernel
theorem dX2_playAct_141 : decode cX2_playAct 141 = .ok (.getfield 12, 3) := by decide +kernel
theorem dX2_playAct_144 : decode cX2_playAct 144 = .ok (.iload_n 3, 1) := by decide +kernel
theorem dX2_playAct_145 : decode cX2_playAct 145 = .ok (.aload_n 1, 1) := by decide +kernel
theorem dX2_playAct_146 : decode cX2_playAct 146 = .ok (.iload_n 2, 1) := by decide +kernel
theorem dX2_playAct_147 : decode cX2_playAct 147 = .ok (.iconst 2, 1) := by decide +kernel
theorem dX2_playAct_148 : decode cX2_playAct 148 = .ok (.iadd, 1) := by decide +kernel
theorem dX2_playAct_149 : decode cX2_playAct 149 = .ok (.invokevirtual 74, 3) := by decide +kernel
theorem dX2_playAct_152 : decode cX2_playAct 152 = .ok (.aload_n 1, 1) := by decide +kernel
theorem dX2_playAct_153 : decode cX2_playAct 153 = .ok (.iload_n 2, 1) := by decide +kernel
theorem dX2_playAct_154 : decode cX2_playAct 154 = .ok (.iconst 3, 1) := by decide +kernel
theorem dX2_playAct_155 : decode cX2_playAct 155 = .ok (.iadd, 1) := by decide +kernel
theorem dX2_playAct_156 : decode cX2_playAct 156 = .ok (.invokevirtual 77, 3) := by decide +kernel
theorem dX2_playAct_159 : decode cX2_playAct 159 = .ok (.invokevirtual 97, 3) := by decide +kernel
theorem dX2_playAct_162 : decode cX2_playAct 162 = .ok (.ireturn, 1) := by decide +kernel
theorem dX2_playAct_163 : decode cX2_playAct 163 = .ok (.aload_n 1, 1) := by decide +kernel
theorem dX2_playAct_164 : decode cX2_playAct 164 = .ok (.iload_n 2, 1) := by decide +kernel
theorem dX2_playAct_165 : decode cX2_playAct 165 = .ok (.iconst 1, 1) := by decide +kernel
theorem dX2_playAct_166 : decode cX2_playAct 166 = .ok (.iadd, 1) := by decide +kernel
theorem dX2_playAct_167 : decode cX2_playAct 167 = .ok (.invokevirtual 74, 3) := by decide +kernel
theorem dX2_playAct_170 : decode cX2_playAct 170 = .ok (.istore 4, 2) := by decide +kernel
theorem dX2_playAct_172 : decode cX2_playAct 172 = .ok (.aload_n 0, 1) := by decide +kernel
theorem dX2_playAct_173 : decode cX2_playAct 173 = .ok (.iload_n 3, 1) := by decide +kernel
theorem dX2_playAct_174 : decode cX2_playAct 174 = .ok (.iload 4, 2) := by decide +kernel
theorem dX2_playAct_176 : decode cX2_playAct 176 = .ok (.aload_n 0, 1) := by decide +kernel
theorem dX2_playAct_177 : decode cX2_playAct 177 = .ok (.getfield 12, 3) := by decide +kernel
theorem dX2_playAct_180 : decode cX2_playAct 180 = .ok (.iload_n 3, 1) := by decide +kernel
theorem dX2_playAct_181 : decode cX2_playAct 181 = .ok (.iload 4, 2) := by decide +kernel
theorem dX2_playAct_183 : decode cX2_playAct 183 = .ok (.invokevirtual 100, 3) := by decide +kernel
theorem dX2_playAct_186 : decode cX2_playAct 186 = .ok (.invokevirtual 93, 3) := by decide +kernel
theorem dX2_playAct_189 : decode cX2_playAct 189 = .ok (.ireturn, 1) := by decide +kernel
set_option maxRecDepth 20000 in
theorem ggX2_playDraws_X2_begin : GoodIn wsX2_playDraws wsX2_begin := goodIn_r _ [6, 7, 8, 9, 10, 11, 12, 13, 14, 15, 16, 17, 18, 19, 20, 21, 22, 23, 24, 25, 26, 27, 28, 29, 30, 31, 95, 96, 97, 98, 99, 100, 101, 102, 103, 104, 105, 106, 107, 108, 109, 110, 111, 112, 113, 114] (by decide +kernel) (by decide +kernel)
set_option maxRecDepth 20000 in
theorem gX2_playDraws_X2_begin : GoodIn wsX2_playDraws (wsV RX2 54 RX2 yX2_begin wsX2_begin) := goodIn_app (goodIn_of _ (by decide +kernel)) ggX2_playDraws_X2_begin
set_option maxRecDepth 20000 in
theorem ggX2_playDraws_X2_playDraw : GoodIn wsX2_playDraws wsX2_playDraw := goodIn_r _ [35, 7, 36, 37, 38, 15, 39, 30, 18, 40, 41, 42, 43, 17, 44, 45, 46, 47, 29, 28, 48, 49, 50, 51, 52, 53, 54, 55, 23, 56, 57, 58, 59, 60, 61, 62, 63, 64, 65, 66, 67, 68, 69, 70, 5, 71, 72, 73, 74, 75, 9, 76, 77, 78, 79, 80, 81, 82, 83, 84, 85, 86, 87, 88, 89, 90, 31, 19, 91, 92, 93, 94, 95, 96, 97, 98, 99, 100, 101, 102, 103, 104, 105, 106, 107, 108, 109, 110, 111, 112, 113, 114] (by decide +kernel) (by decide +kernel)
set_option maxRecDepth 20000 in
theorem gX2_playDraws_X2_playDraw : GoodIn wsX2_playDraws (wsV RX2 104 RX2 yX2_playDraw wsX2_playDraw) := goodIn_app (goodIn_of _ (by decide +kernel)) ggX2_playDraws_X2_playDraw
theorem dX2_playDraws_0 : decode cX2_playDraws 0 = .ok (.aload_n 0, 1) := by decide +kernel
theorem dX2_playDraws_1 : decode cX2_playDraws 1 = .ok (.aload_n 1, 1) := by decide +kernel
theorem dX2_playDraws_2 : decode cX2_playDraws 2 = .ok (.invokevirtual 54, 3) := by decide +kernel
theorem dX2_playDraws_5 : decode cX2_playDraws 5 = .ok (.iload_n 2, 1) := by decide +kernel
theorem dX2_playDraws_6 : decode cX2_playDraws 6 = .ok (.istore 4, 2) := by decide +kernel
theorem dX2_playDraws_8 : decode cX2_playDraws 8 = .ok (.iconst 0, 1) := by decide +kernel
theorem dX2_playDraws_9 : decode cX2_playDraws 9 = .ok (.istore 5, 2) := by decide +kernel
theorem dX2_playDraws_11 : decode cX2_playDraws 11 = .ok (.iload 5, 2) := by decide +kernel
theorem dX2_playDraws_13 : decode cX2_playDraws 13 = .ok (.iload_n 3, 1) := by decide +kernel
theorem dX2_playDraws_14 : decode cX2_playDraws 14 = .ok (.if_icmp .ge 28, 3) := by decide +kernel
theorem dX2_playDraws_17 : decode cX2_playDraws 17 = .ok (.bipush 75, 2) := by decide +kernel
theorem dX2_playDraws_19 : decode cX2_playDraws 19 = .ok (.iload 4, 2) := by decide +kernel
theorem dX2_playDraws_21 : decode cX2_playDraws 21 = .ok (.imul, 1) := by decide +kernel
theorem dX2_playDraws_22 : decode cX2_playDraws 22 = .ok (.bipush 74, 2) := by decide +kernel
theorem dX2_playDraws_24 : decode cX2_playDraws 24 = .ok (.iadd, 1) := by decide +kernel
theorem dX2_playDraws_25 : decode cX2_playDraws 25 = .ok (.ldc 103, 2) := by decide +kernel
theorem dX2_playDraws_27 : decode cX2_playDraws 27 = .ok (.irem, 1) := by decide +kernel
theorem dX2_playDraws_28 : decode cX2_playDraws 28 = .ok (.istore 4, 2) := by decide +kernel
theorem dX2_playDraws_30 : decode cX2_playDraws 30 = .ok (.aload_n 0, 1) := by decide +kernel
theorem dX2_playDraws_31 : decode cX2_playDraws 31 = .ok (.iload 4, 2) := by decide +kernel
theorem dX2_playDraws_33 : decode cX2_playDraws 33 = .ok (.invokevirtual 104, 3) := by decide +kernel
theorem dX2_playDraws_36 : decode cX2_playDraws 36 = .ok (.iinc 5 1, 3) := by decide +kernel
theorem dX2_playDraws_39 : decode cX2_playDraws 39 = .ok (.goto (-28), 3) := by decide +kernel
theorem dX2_playDraws_42 : decode cX2_playDraws 42 = .ok (.return_, 1) := by decide +kernel
set_option maxRecDepth 20000 in
theorem ggX2_playDraw_X1_passHour : GoodIn wsX2_playDraw wsX1_passHour := goodIn_r _ [6, 7, 8, 9, 10, 11, 5, 12, 13, 14, 15, 16, 17, 18, 19, 81, 82, 83, 84, 85, 86, 87, 88, 89, 90, 91] (by decide +kernel) (by decide +kernel)
set_option maxRecDepth 20000 in
theorem gX2_playDraw_X1_passHour : GoodIn wsX2_playDraw (wsV RX2 71 RX1 yX1_passHour wsX1_passHour) := goodIn_app (goodIn_of _ (by decide +kernel)) ggX2_playDraw_X1_passHour
set_option maxRecDepth 20000 in
theorem ggX2_playDraw_X1_putOnRight : GoodIn wsX2_playDraw wsX1_putOnRight := goodIn_r _ [23, 18, 24, 25, 26, 5, 27, 28, 29, 30, 31, 32, 9, 10, 11, 12, 13, 81, 82, 83, 84, 85, 86, 87, 88, 89, 90, 91] (by decide +kernel) (by decide +kernel)
set_option maxRecDepth 20000 in
theorem gX2_playDraw_X1_putOnRight : GoodIn wsX2_playDraw (wsV RX2 84 RX1 yX1_putOnRight wsX1_putOnRight) := goodIn_app (goodIn_of _ (by decide +kernel)) ggX2_playDraw_X1_putOnRight
set_option maxRecDepth 20000 in
theorem ggX2_playDraw_X1_putOnLeft : GoodIn wsX2_playDraw wsX1_putOnLeft := goodIn_r _ [36, 19, 24, 25, 26, 5, 27, 28, 29, 30, 31, 32, 9, 10, 11, 12, 13, 81, 82, 83, 84, 85, 86, 87, 88, 89, 90, 91] (by decide +kernel) (by decide +kernel)
set_option maxRecDepth 20000 in
theorem gX2_playDraw_X1_putOnLeft : GoodIn wsX2_playDraw (wsV RX2 80 RX1 yX1_putOnLeft wsX1_putOnLeft) := goodIn_app (goodIn_of _ (by decide +kernel)) ggX2_playDraw_X1_putOnLeft
set_option maxRecDepth 20000 in
theorem ggX2_playDraw_X1_whyNoDeed : GoodIn wsX2_playDraw wsX1_whyNoDeed := goodIn_r _ [40, 18, 9, 10, 11, 5, 12, 13, 81, 82, 83, 84, 85, 86, 87, 88, 89, 90, 91] (by decide +kernel) (by decide +kernel)
set_option maxRecDepth 20000 in
theorem gX2_playDraw_X1_whyNoDeed : GoodIn wsX2_playDraw (wsV RX2 90 RX1 yX1_whyNoDeed wsX1_whyNoDeed) := goodIn_app (goodIn_of _ (by decide +kernel)) ggX2_playDraw_X1_whyNoDeed
set_option maxRecDepth 20000 in
theorem ggX2_playDraw_X2_playDeeds : GoodIn wsX2_playDraw wsX2_playDeeds := goodIn_r _ [45, 46, 47, 48, 44, 49, 50, 1, 51, 52, 53, 54, 55, 56, 57, 58, 59, 60, 5, 61, 18, 9, 10, 11, 12, 13, 62, 63, 64, 65, 66, 67, 24, 25, 26, 27, 28, 68, 69, 70, 71, 19, 72, 73, 74, 75, 76, 77, 78, 79, 80, 81, 82, 83, 84, 85, 86, 87, 88, 89, 90, 91] (by decide +kernel) (by decide +kernel)
set_option maxRecDepth 20000 in
theorem gX2_playDraw_X2_playDeeds : GoodIn wsX2_playDraw (wsV RX2 93 RX2 yX2_playDeeds wsX2_playDeeds) := goodIn_app (goodIn_of _ (by decide +kernel)) ggX2_playDraw_X2_playDeeds
theorem dX2_playDraw_0 : decode cX2_playDraw 0 = .ok (.iload_n 1, 1) := by decide +kernel
theorem dX2_playDraw_1 : decode cX2_playDraw 1 = .ok (.bipush 6, 2) := by decide +kernel
theorem dX2_playDraw_3 : decode cX2_playDraw 3 = .ok (.irem, 1) := by decide +kernel
theorem dX2_playDraw_4 : decode cX2_playDraw 4 = .ok (.istore_n 2, 1) := by decide +kernel
theorem dX2_playDraw_5 : decode cX2_playDraw 5 = .ok (.iload_n 1, 1) := by decide +kernel
theorem dX2_playDraw_6 : decode cX2_playDraw 6 = .ok (.bipush 24, 2) := by decide +kernel
theorem dX2_playDraw_8 : decode cX2_playDraw 8 = .ok (.idiv, 1) := by decide +kernel
theorem dX2_playDraw_9 : decode cX2_playDraw 9 = .ok (.bipush 24, 2) := by decide +kernel
theorem dX2_playDraw_11 : decode cX2_playDraw 11 = .ok (.irem, 1) := by decide +kernel
theorem dX2_playDraw_12 : decode cX2_playDraw 12 = .ok (.istore_n 3, 1) := by decide +kernel
theorem dX2_playDraw_13 : decode cX2_playDraw 13 = .ok (.iload_n 1, 1) := by decide +kernel
theorem dX2_playDraw_14 : decode cX2_playDraw 14 = .ok (.bipush 6, 2) := by decide +kernel
theorem dX2_playDraw_16 : decode cX2_playDraw 16 = .ok (.idiv, 1) := by decide +kernel
theorem dX2_playDraw_17 : decode cX2_playDraw 17 = .ok (.iconst 4, 1) := by decide +kernel
theorem dX2_playDraw_18 : decode cX2_playDraw 18 = .ok (.irem, 1) := by decide +kernel
theorem dX2_playDraw_19 : decode cX2_playDraw 19 = .ok (.tableswitch 61 0 2 #[25, 35, 48], 25) := by decide +kernel
theorem dX2_playDraw_44 : decode cX2_playDraw 44 = .ok (.aload_n 0, 1) := by decide +kernel
theorem dX2_playDraw_45 : decode cX2_playDraw 45 = .ok (.getfield 12, 3) := by decide +kernel
theorem dX2_playDraw_48 : decode cX2_playDraw 48 = .ok (.invokevirtual 71, 3) := by decide +kernel
theorem dX2_playDraw_51 : decode cX2_playDraw 51 = .ok (.goto 44, 3) := by decide +kernel
theorem dX2_playDraw_54 : decode cX2_playDraw 54 = .ok (.aload_n 0, 1) := by decide +kernel
theorem dX2_playDraw_55 : decode cX2_playDraw 55 = .ok (.getfield 12, 3) := by decide +kernel
theorem dX2_playDraw_58 : decode cX2_playDraw 58 = .ok (.iload_n 2, 1) := by decide +kernel
theorem dX2_playDraw_59 : decode cX2_playDraw 59 = .ok (.iload_n 3, 1) := by decide +kernel
theorem dX2_playDraw_60 : decode cX2_playDraw 60 = .ok (.invokevirtual 84, 3) := by decide +kernel
theorem dX2_playDraw_63 : decode cX2_playDraw 63 = .ok (.pop, 1) := by decide +kernel
theorem dX2_playDraw_64 : decode cX2_playDraw 64 = .ok (.goto 31, 3) := by decide +kernel
theorem dX2_playDraw_67 : decode cX2_playDraw 67 = .ok (.aload_n 0, 1) := by decide +kernel
theorem dX2_playDraw_68 : decode cX2_playDraw 68 = .ok (.getfield 12, 3) := by decide +kernel
theorem dX2_playDraw_71 : decode cX2_playDraw 71 = .ok (.iload_n 2, 1) := by decide +kernel
theorem dX2_playDraw_72 : decode cX2_playDraw 72 = .ok (.iload_n 3, 1) := by decide +kernel
theorem dX2_playDraw_73 : decode cX2_playDraw 73 = .ok (.invokevirtual 80, 3) := by decide +kernel
theorem dX2_playDraw_76 : decode cX2_playDraw 76 = .ok (.pop, 1) := by decide +kernel
theorem dX2_playDraw_77 : decode cX2_playDraw 77 = .ok (.goto 18, 3) := by decide +kernel
theorem dX2_playDraw_80 : decode cX2_playDraw 80 = .ok (.aload_n 0, 1) := by decide +kernel
theorem dX2_playDraw_81 : decode cX2_playDraw 81 = .ok (.iload_n 2, 1) := by decide +kernel
theorem dX2_playDraw_82 : decode cX2_playDraw 82 = .ok (.iload_n 2, 1) := by decide +kernel
theorem dX2_playDraw_83 : decode cX2_playDraw 83 = .ok (.aload_n 0, 1) := by decide +kernel
theorem dX2_playDraw_84 : decode cX2_playDraw 84 = .ok (.getfield 12, 3) := by decide +kernel
theorem dX2_playDraw_87 : decode cX2_playDraw 87 = .ok (.iload_n 2, 1) := by decide +kernel
theorem dX2_playDraw_88 : decode cX2_playDraw 88 = .ok (.invokevirtual 90, 3) := by decide +kernel
theorem dX2_playDraw_91 : decode cX2_playDraw 91 = .ok (.invokevirtual 93, 3) := by decide +kernel
theorem dX2_playDraw_94 : decode cX2_playDraw 94 = .ok (.pop, 1) := by decide +kernel
theorem dX2_playDraw_95 : decode cX2_playDraw 95 = .ok (.return_, 1) := by decide +kernel
set_option maxRecDepth 20000 in
theorem ggX2_playDeeds_X2_addDeed : GoodIn wsX2_playDeeds wsX2_addDeed := goodIn_r _ [5, 6, 7, 8, 9, 10, 11, 12, 13, 14, 15, 16, 17, 18, 19, 20, 21, 22, 23, 24, 25, 26, 27, 28, 29, 30, 31, 32, 33, 34, 35, 36, 37, 38, 39, 40, 41, 42, 43, 44, 45, 46, 47, 48, 49, 50, 51, 52, 53, 54, 55, 56, 57, 58, 59, 60, 61] (by decide +kernel) (by decide +kernel)
set_option maxRecDepth 20000 in
theorem gX2_playDeeds_X2_addDeed : GoodIn wsX2_playDeeds (wsV RX2 108 RX2 yX2_addDeed wsX2_addDeed) := goodIn_app (goodIn_of _ (by decide +kernel)) ggX2_playDeeds_X2_addDeed
theorem dX2_playDeeds_0 : decode cX2_playDeeds 0 = .ok (.iload_n 3, 1) := by decide +kernel
theorem dX2_playDeeds_1 : decode cX2_playDeeds 1 = .ok (.ifCond .ne 18, 3) := by decide +kernel
theorem dX2_playDeeds_4 : decode cX2_playDeeds 4 = .ok (.aload_n 0, 1) := by decide +kernel
theorem dX2_playDeeds_5 : decode cX2_playDeeds 5 = .ok (.iload_n 1, 1) := by decide +kernel
theorem dX2_playDeeds_6 : decode cX2_playDeeds 6 = .ok (.invokevirtual 108, 3) := by decide +kernel
theorem dX2_playDeeds_9 : decode cX2_playDeeds 9 = .ok (.iload_n 2, 1) := by decide +kernel
theorem dX2_playDeeds_10 : decode cX2_playDeeds 10 = .ok (.iload_n 1, 1) := by decide +kernel
theorem dX2_playDeeds_11 : decode cX2_playDeeds 11 = .ok (.if_icmp .eq 8, 3) := by decide +kernel
theorem dX2_playDeeds_14 : decode cX2_playDeeds 14 = .ok (.aload_n 0, 1) := by decide +kernel
theorem dX2_playDeeds_15 : decode cX2_playDeeds 15 = .ok (.iload_n 2, 1) := by decide +kernel
theorem dX2_playDeeds_16 : decode cX2_playDeeds 16 = .ok (.invokevirtual 108, 3) := by decide +kernel
theorem dX2_playDeeds_19 : decode cX2_playDeeds 19 = .ok (.iload_n 3, 1) := by decide +kernel
theorem dX2_playDeeds_20 : decode cX2_playDeeds 20 = .ok (.ireturn, 1) := by decide +kernel
set_option maxRecDepth 20000 in
theorem ggX2_addDeed_X5_isWithin : GoodIn wsX2_addDeed wsX5_isWithin := goodIn_r _ [9] (by decide +kernel) (by decide +kernel)
set_option maxRecDepth 20000 in
theorem gX2_addDeed_X5_isWithin_n111 : GoodIn wsX2_addDeed (wsX5_isWithin) := ggX2_addDeed_X5_isWithin
set_option maxRecDepth 20000 in
theorem ggX2_addDeed_X1_rightOf : GoodIn wsX2_addDeed wsX1_rightOf := goodIn_r _ [14, 15, 16, 17, 18, 13, 19, 20, 46, 47, 48, 49, 50, 51, 52, 53, 54, 55, 56] (by decide +kernel) (by decide +kernel)
set_option maxRecDepth 20000 in
theorem gX2_addDeed_X1_rightOf : GoodIn wsX2_addDeed (wsV RX2 115 RX1 yX1_rightOf wsX1_rightOf) := goodIn_app (goodIn_of _ (by decide +kernel)) ggX2_addDeed_X1_rightOf
set_option maxRecDepth 20000 in
theorem ggX2_addDeed_X1_usePair : GoodIn wsX2_addDeed wsX1_usePair := goodIn_r _ [24, 25, 26, 27, 28, 29, 13, 30, 31, 32, 33, 34, 35, 36, 15, 46, 47, 48, 49, 50, 51, 52, 53, 54, 55, 56] (by decide +kernel) (by decide +kernel)
set_option maxRecDepth 20000 in
theorem gX2_addDeed_X1_usePair : GoodIn wsX2_addDeed (wsV RX2 121 RX1 yX1_usePair wsX1_usePair) := goodIn_app (goodIn_of _ (by decide +kernel)) ggX2_addDeed_X1_usePair
theorem dX2_addDeed_0 : decode cX2_addDeed 0 = .ok (.aload_n 0, 1) := by decide +kernel
theorem dX2_addDeed_1 : decode cX2_addDeed 1 = .ok (.getfield 39, 3) := by decide +kernel
theorem dX2_addDeed_4 : decode cX2_addDeed 4 = .ok (.iconst 0, 1) := by decide +kernel
theorem dX2_addDeed_5 : decode cX2_addDeed 5 = .ok (.bipush 98, 2) := by decide +kernel
theorem dX2_addDeed_7 : decode cX2_addDeed 7 = .ok (.invokestatic 111, 3) := by decide +kernel
theorem dX2_addDeed_10 : decode cX2_addDeed 10 = .ok (.ifCond .ne 4, 3) := by decide +kernel
theorem dX2_addDeed_13 : decode cX2_addDeed 13 = .ok (.return_, 1) := by decide +kernel
theorem dX2_addDeed_14 : decode cX2_addDeed 14 = .ok (.aload_n 0, 1) := by decide +kernel
theorem dX2_addDeed_15 : decode cX2_addDeed 15 = .ok (.getfield 12, 3) := by decide +kernel
theorem dX2_addDeed_18 : decode cX2_addDeed 18 = .ok (.iload_n 1, 1) := by decide +kernel
theorem dX2_addDeed_19 : decode cX2_addDeed 19 = .ok (.invokevirtual 115, 3) := by decide +kernel
theorem dX2_addDeed_22 : decode cX2_addDeed 22 = .ok (.istore_n 2, 1) := by decide +kernel
theorem dX2_addDeed_23 : decode cX2_addDeed 23 = .ok (.aload_n 0, 1) := by decide +kernel
theorem dX2_addDeed_24 : decode cX2_addDeed 24 = .ok (.getfield 18, 3) := by decide +kernel
theorem dX2_addDeed_27 : decode cX2_addDeed 27 = .ok (.aload_n 0, 1) := by decide +kernel
theorem dX2_addDeed_28 : decode cX2_addDeed 28 = .ok (.getfield 39, 3) := by decide +kernel
theorem dX2_addDeed_31 : decode cX2_addDeed 31 = .ok (.iload_n 2, 1) := by decide +kernel
theorem dX2_addDeed_32 : decode cX2_addDeed 32 = .ok (.iastore, 1) := by decide +kernel
theorem dX2_addDeed_33 : decode cX2_addDeed 33 = .ok (.aload_n 0, 1) := by decide +kernel
theorem dX2_addDeed_34 : decode cX2_addDeed 34 = .ok (.getfield 22, 3) := by decide +kernel
theorem dX2_addDeed_37 : decode cX2_addDeed 37 = .ok (.aload_n 0, 1) := by decide +kernel
theorem dX2_addDeed_38 : decode cX2_addDeed 38 = .ok (.getfield 39, 3) := by decide +kernel
theorem dX2_addDeed_41 : decode cX2_addDeed 41 = .ok (.aload_n 0, 1) := by decide +kernel
theorem dX2_addDeed_42 : decode cX2_addDeed 42 = .ok (.getfield 12, 3) := by decide +kernel
theorem dX2_addDeed_45 : decode cX2_addDeed 45 = .ok (.getfield 118, 3) := by decide +kernel
theorem dX2_addDeed_48 : decode cX2_addDeed 48 = .ok (.iastore, 1) := by decide +kernel
theorem dX2_addDeed_49 : decode cX2_addDeed 49 = .ok (.aload_n 0, 1) := by decide +kernel
theorem dX2_addDeed_50 : decode cX2_addDeed 50 = .ok (.getfield 25, 3) := by decide +kernel
theorem dX2_addDeed_53 : decode cX2_addDeed 53 = .ok (.aload_n 0, 1) := by decide +kernel
theorem dX2_addDeed_54 : decode cX2_addDeed 54 = .ok (.getfield 39, 3) := by decide +kernel
theorem dX2_addDeed_57 : decode cX2_addDeed 57 = .ok (.iload_n 1, 1) := by decide +kernel
theorem dX2_addDeed_58 : decode cX2_addDeed 58 = .ok (.iastore, 1) := by decide +kernel
theorem dX2_addDeed_59 : decode cX2_addDeed 59 = .ok (.aload_n 0, 1) := by decide +kernel
theorem dX2_addDeed_60 : decode cX2_addDeed 60 = .ok (.dup, 1) := by decide +kernel
theorem dX2_addDeed_61 : decode cX2_addDeed 61 = .ok (.getfield 39, 3) := by decide +kernel
theorem dX2_addDeed_64 : decode cX2_addDeed 64 = .ok (.iconst 1, 1) := by decide +kernel
theorem dX2_addDeed_65 : decode cX2_addDeed 65 = .ok (.iadd, 1) := by decide +kernel
theorem dX2_addDeed_66 : decode cX2_addDeed 66 = .ok (.putfield 39, 3) := by decide +kernel
theorem dX2_addDeed_69 : decode cX2_addDeed 69 = .ok (.aload_n 0, 1) := by decide +kernel
theorem dX2_addDeed_70 : decode cX2_addDeed 70 = .ok (.getfield 12, 3) := by decide +kernel
theorem dX2_addDeed_73 : decode cX2_addDeed 73 = .ok (.iload_n 1, 1) := by decide +kernel
theorem dX2_addDeed_74 : decode cX2_addDeed 74 = .ok (.iload_n 2, 1) := by decide +kernel
theorem dX2_addDeed_75 : decode cX2_addDeed 75 = .ok (.invokevirtual 121, 3) := by decide +kernel
theorem dX2_addDeed_78 : decode cX2_addDeed 78 = .ok (.return_, 1) := by decide +kernel
set_option maxRecDepth 20000 in
theorem ggX2_isDeed_X5_isWithin : GoodIn wsX2_isDeed wsX5_isWithin := goodIn_r _ [4] (by decide +kernel) (by decide +kernel)
set_option maxRecDepth 20000 in
theorem gX2_isDeed_X5_isWithin_n111 : GoodIn wsX2_isDeed (wsX5_isWithin) := ggX2_isDeed_X5_isWithin
theorem dX2_isDeed_0 : decode cX2_isDeed 0 = .ok (.iload_n 1, 1) := by decide +kernel
theorem dX2_isDeed_1 : decode cX2_isDeed 1 = .ok (.iconst 0, 1) := by decide +kernel
theorem dX2_isDeed_2 : decode cX2_isDeed 2 = .ok (.bipush 98, 2) := by decide +kernel
theorem dX2_isDeed_4 : decode cX2_isDeed 4 = .ok (.invokestatic 111, 3) := by decide +kernel
theorem dX2_isDeed_7 : decode cX2_isDeed 7 = .ok (.ifCond .eq 15, 3) := by decide +kernel
theorem dX2_isDeed_10 : decode cX2_isDeed 10 = .ok (.iload_n 1, 1) := by decide +kernel
theorem dX2_isDeed_11 : decode cX2_isDeed 11 = .ok (.aload_n 0, 1) := by decide +kernel
theorem dX2_isDeed_12 : decode cX2_isDeed 12 = .ok (.getfield 39, 3) := by decide +kernel
theorem dX2_isDeed_15 : decode cX2_isDeed 15 = .ok (.if_icmp .ge 7, 3) := by decide +kernel
theorem dX2_isDeed_18 : decode cX2_isDeed 18 = .ok (.iconst 1, 1) := by decide +kernel
theorem dX2_isDeed_19 : decode cX2_isDeed 19 = .ok (.goto 4, 3) := by decide +kernel
theorem dX2_isDeed_22 : decode cX2_isDeed 22 = .ok (.iconst 0, 1) := by decide +kernel
theorem dX2_isDeed_23 : decode cX2_isDeed 23 = .ok (.ireturn, 1) := by decide +kernel
set_option maxRecDepth 20000 in
theorem ggX2_tellOfDeed_X2_isDeed : GoodIn wsX2_tellOfDeed wsX2_isDeed := goodIn_r _ [8, 9, 10, 11, 12, 13, 14, 15, 16, 17, 18, 19, 20, 21] (by decide +kernel) (by decide +kernel)
set_option maxRecDepth 20000 in
theorem gX2_tellOfDeed_X2_isDeed : GoodIn wsX2_tellOfDeed (wsV RX2 125 RX2 yX2_isDeed wsX2_isDeed) := goodIn_app (goodIn_of _ (by decide +kernel)) ggX2_tellOfDeed_X2_isDeed
theorem dX2_tellOfDeed_0 : decode cX2_tellOfDeed 0 = .ok (.aload_n 0, 1) := by decide +kernel
theorem dX2_tellOfDeed_1 : decode cX2_tellOfDeed 1 = .ok (.iload_n 1, 1) := by decide +kernel
theorem dX2_tellOfDeed_2 : decode cX2_tellOfDeed 2 = .ok (.invokevirtual 125, 3) := by decide +kernel
theorem dX2_tellOfDeed_5 : decode cX2_tellOfDeed 5 = .ok (.ifCond .ne 5, 3) := by decide +kernel
theorem dX2_tellOfDeed_8 : decode cX2_tellOfDeed 8 = .ok (.iconst (-1), 1) := by decide +kernel
theorem dX2_tellOfDeed_9 : decode cX2_tellOfDeed 9 = .ok (.ireturn, 1) := by decide +kernel
theorem dX2_tellOfDeed_10 : decode cX2_tellOfDeed 10 = .ok (.iload_n 2, 1) := by decide +kernel
theorem dX2_tellOfDeed_11 : decode cX2_tellOfDeed 11 = .ok (.iconst 2, 1) := by decide +kernel
theorem dX2_tellOfDeed_12 : decode cX2_tellOfDeed 12 = .ok (.if_icmp .ne 10, 3) := by decide +kernel
theorem dX2_tellOfDeed_15 : decode cX2_tellOfDeed 15 = .ok (.aload_n 0, 1) := by decide +kernel
theorem dX2_tellOfDeed_16 : decode cX2_tellOfDeed 16 = .ok (.getfield 25, 3) := by decide +kernel
theorem dX2_tellOfDeed_19 : decode cX2_tellOfDeed 19 = .ok (.iload_n 1, 1) := by decide +kernel
theorem dX2_tellOfDeed_20 : decode cX2_tellOfDeed 20 = .ok (.iaload, 1) := by decide +kernel
theorem dX2_tellOfDeed_21 : decode cX2_tellOfDeed 21 = .ok (.ireturn, 1) := by decide +kernel
theorem dX2_tellOfDeed_22 : decode cX2_tellOfDeed 22 = .ok (.iload_n 2, 1) := by decide +kernel
theorem dX2_tellOfDeed_23 : decode cX2_tellOfDeed 23 = .ok (.ifCond .ne 12, 3) := by decide +kernel
theorem dX2_tellOfDeed_26 : decode cX2_tellOfDeed 26 = .ok (.aload_n 0, 1) := by decide +kernel
theorem dX2_tellOfDeed_27 : decode cX2_tellOfDeed 27 = .ok (.getfield 18, 3) := by decide +kernel
theorem dX2_tellOfDeed_30 : decode cX2_tellOfDeed 30 = .ok (.iload_n 1, 1) := by decide +kernel
theorem dX2_tellOfDeed_31 : decode cX2_tellOfDeed 31 = .ok (.iaload, 1) := by decide +kernel
theorem dX2_tellOfDeed_32 : decode cX2_tellOfDeed 32 = .ok (.goto 9, 3) := by decide +kernel
theorem dX2_tellOfDeed_35 : decode cX2_tellOfDeed 35 = .ok (.aload_n 0, 1) := by decide +kernel
theorem dX2_tellOfDeed_36 : decode cX2_tellOfDeed 36 = .ok (.getfield 22, 3) := by decide +kernel
theorem dX2_tellOfDeed_39 : decode cX2_tellOfDeed 39 = .ok (.iload_n 1, 1) := by decide +kernel
theorem dX2_tellOfDeed_40 : decode cX2_tellOfDeed 40 = .ok (.iaload, 1) := by decide +kernel
theorem dX2_tellOfDeed_41 : decode cX2_tellOfDeed 41 = .ok (.ireturn, 1) := by decide +kernel
set_option maxRecDepth 20000 in
theorem ggX2_isLate_X2_isDeed : GoodIn wsX2_isLate wsX2_isDeed := goodIn_r _ [7, 8, 9, 10, 11, 12, 13, 14, 15, 16, 17, 18, 19, 20] (by decide +kernel) (by decide +kernel)
set_option maxRecDepth 20000 in
theorem gX2_isLate_X2_isDeed : GoodIn wsX2_isLate (wsV RX2 125 RX2 yX2_isDeed wsX2_isDeed) := goodIn_app (goodIn_of _ (by decide +kernel)) ggX2_isLate_X2_isDeed
theorem dX2_isLate_0 : decode cX2_isLate 0 = .ok (.aload_n 0, 1) := by decide +kernel
theorem dX2_isLate_1 : decode cX2_isLate 1 = .ok (.iload_n 1, 1) := by decide +kernel
theorem dX2_isLate_2 : decode cX2_isLate 2 = .ok (.invokevirtual 125, 3) := by decide +kernel
theorem dX2_isLate_5 : decode cX2_isLate 5 = .ok (.ifCond .eq 22, 3) := by decide +kernel
theorem dX2_isLate_8 : decode cX2_isLate 8 = .ok (.aload_n 0, 1) := by decide +kernel
theorem dX2_isLate_9 : decode cX2_isLate 9 = .ok (.getfield 18, 3) := by decide +kernel
theorem dX2_isLate_12 : decode cX2_isLate 12 = .ok (.iload_n 1, 1) := by decide +kernel
theorem dX2_isLate_13 : decode cX2_isLate 13 = .ok (.iaload, 1) := by decide +kernel
theorem dX2_isLate_14 : decode cX2_isLate 14 = .ok (.aload_n 0, 1) := by decide +kernel
theorem dX2_isLate_15 : decode cX2_isLate 15 = .ok (.getfield 22, 3) := by decide +kernel
theorem dX2_isLate_18 : decode cX2_isLate 18 = .ok (.iload_n 1, 1) := by decide +kernel
theorem dX2_isLate_19 : decode cX2_isLate 19 = .ok (.iaload, 1) := by decide +kernel
theorem dX2_isLate_20 : decode cX2_isLate 20 = .ok (.if_icmp .eq 7, 3) := by decide +kernel
theorem dX2_isLate_23 : decode cX2_isLate 23 = .ok (.iconst 1, 1) := by decide +kernel
theorem dX2_isLate_24 : decode cX2_isLate 24 = .ok (.goto 4, 3) := by decide +kernel
theorem dX2_isLate_27 : decode cX2_isLate 27 = .ok (.iconst 0, 1) := by decide +kernel
theorem dX2_isLate_28 : decode cX2_isLate 28 = .ok (.ireturn, 1) := by decide +kernel
set_option maxRecDepth 20000 in
theorem ggX2_firstLate_X2_isLate : GoodIn wsX2_firstLate wsX2_isLate := goodIn_r _ [6, 7, 8, 9, 10, 11, 5, 12, 1, 13, 14, 15, 16, 17, 18, 19, 20, 21, 22, 23, 24] (by decide +kernel) (by decide +kernel)
set_option maxRecDepth 20000 in
theorem gX2_firstLate_X2_isLate : GoodIn wsX2_firstLate (wsV RX2 129 RX2 yX2_isLate wsX2_isLate) := goodIn_app (goodIn_of _ (by decide +kernel)) ggX2_firstLate_X2_isLate
theorem dX2_firstLate_0 : decode cX2_firstLate 0 = .ok (.iconst 0, 1) := by decide +kernel
theorem dX2_firstLate_1 : decode cX2_firstLate 1 = .ok (.istore_n 1, 1) := by decide +kernel
theorem dX2_firstLate_2 : decode cX2_firstLate 2 = .ok (.iload_n 1, 1) := by decide +kernel
theorem dX2_firstLate_3 : decode cX2_firstLate 3 = .ok (.aload_n 0, 1) := by decide +kernel
theorem dX2_firstLate_4 : decode cX2_firstLate 4 = .ok (.getfield 39, 3) := by decide +kernel
theorem dX2_firstLate_7 : decode cX2_firstLate 7 = .ok (.if_icmp .ge 19, 3) := by decide +kernel
theorem dX2_firstLate_10 : decode cX2_firstLate 10 = .ok (.aload_n 0, 1) := by decide +kernel
theorem dX2_firstLate_11 : decode cX2_firstLate 11 = .ok (.iload_n 1, 1) := by decide +kernel
theorem dX2_firstLate_12 : decode cX2_firstLate 12 = .ok (.invokevirtual 129, 3) := by decide +kernel
theorem dX2_firstLate_15 : decode cX2_firstLate 15 = .ok (.ifCond .eq 5, 3) := by decide +kernel
theorem dX2_firstLate_18 : decode cX2_firstLate 18 = .ok (.iload_n 1, 1) := by decide +kernel
theorem dX2_firstLate_19 : decode cX2_firstLate 19 = .ok (.ireturn, 1) := by decide +kernel
theorem dX2_firstLate_20 : decode cX2_firstLate 20 = .ok (.iinc 1 1, 3) := by decide +kernel
theorem dX2_firstLate_23 : decode cX2_firstLate 23 = .ok (.goto (-21), 3) := by decide +kernel
theorem dX2_firstLate_26 : decode cX2_firstLate 26 = .ok (.bipush (-6), 2) := by decide +kernel
theorem dX2_firstLate_28 : decode cX2_firstLate 28 = .ok (.ireturn, 1) := by decide +kernel
set_option maxRecDepth 20000 in
theorem ggX2_countLate_X2_isLate : GoodIn wsX2_countLate wsX2_isLate := goodIn_r _ [6, 7, 8, 9, 10, 11, 5, 12, 1, 13, 14, 15, 16, 17, 18, 19, 20, 21, 22, 23, 24] (by decide +kernel) (by decide +kernel)
set_option maxRecDepth 20000 in
theorem gX2_countLate_X2_isLate : GoodIn wsX2_countLate (wsV RX2 129 RX2 yX2_isLate wsX2_isLate) := goodIn_app (goodIn_of _ (by decide +kernel)) ggX2_countLate_X2_isLate
theorem dX2_countLate_0 : decode cX2_countLate 0 = .ok (.iconst 0, 1) := by decide +kernel
theorem dX2_countLate_1 : decode cX2_countLate 1 = .ok (.istore_n 1, 1) := by decide +kernel
theorem dX2_countLate_2 : decode cX2_countLate 2 = .ok (.iconst 0, 1) := by decide +kernel
theorem dX2_countLate_3 : decode cX2_countLate 3 = .ok (.istore_n 2, 1) := by decide +kernel
theorem dX2_countLate_4 : decode cX2_countLate 4 = .ok (.iload_n 2, 1) := by decide +kernel
theorem dX2_countLate_5 : decode cX2_countLate 5 = .ok (.aload_n 0, 1) := by decide +kernel
theorem dX2_countLate_6 : decode cX2_countLate 6 = .ok (.getfield 39, 3) := by decide +kernel
theorem dX2_countLate_9 : decode cX2_countLate 9 = .ok (.if_icmp .ge 20, 3) := by decide +kernel
theorem dX2_countLate_12 : decode cX2_countLate 12 = .ok (.aload_n 0, 1) := by decide +kernel
theorem dX2_countLate_13 : decode cX2_countLate 13 = .ok (.iload_n 2, 1) := by decide +kernel
theorem dX2_countLate_14 : decode cX2_countLate 14 = .ok (.invokevirtual 129, 3) := by decide +kernel
theorem dX2_countLate_17 : decode cX2_countLate 17 = .ok (.ifCond .eq 6, 3) := by decide +kernel
theorem dX2_countLate_20 : decode cX2_countLate 20 = .ok (.iinc 1 1, 3) := by decide +kernel
theorem dX2_countLate_23 : decode cX2_countLate 23 = .ok (.iinc 2 1, 3) := by decide +kernel
theorem dX2_countLate_26 : decode cX2_countLate 26 = .ok (.goto (-22), 3) := by decide +kernel
theorem dX2_countLate_29 : decode cX2_countLate 29 = .ok (.iload_n 1, 1) := by decide +kernel
theorem dX2_countLate_30 : decode cX2_countLate 30 = .ok (.ireturn, 1) := by decide +kernel
set_option maxRecDepth 20000 in
theorem ggX2_mostKept_X2_isDeed : GoodIn wsX2_mostKept wsX2_isDeed := goodIn_r _ [10, 11, 12, 13, 14, 20, 21, 22, 23, 24, 25, 26, 27, 28] (by decide +kernel) (by decide +kernel)
set_option maxRecDepth 20000 in
theorem gX2_mostKept_X2_isDeed : GoodIn wsX2_mostKept (wsV RX2 125 RX2 yX2_isDeed wsX2_isDeed) := goodIn_app (goodIn_of _ (by decide +kernel)) ggX2_mostKept_X2_isDeed
set_option maxRecDepth 20000 in
theorem ggX2_mostKept_X2_longestBehind : GoodIn wsX2_mostKept wsX2_longestBehind := goodIn_r _ [18, 11, 19, 1, 2, 3, 4, 5, 6, 7, 8, 9, 10, 12, 13, 14, 20, 21, 22, 23, 24, 25, 26, 27, 28] (by decide +kernel) (by decide +kernel)
set_option maxRecDepth 20000 in
theorem gX2_mostKept_X2_longestBehind : GoodIn wsX2_mostKept (wsV RX2 132 RX2 yX2_longestBehind wsX2_longestBehind) := goodIn_app (goodIn_of _ (by decide +kernel)) ggX2_mostKept_X2_longestBehind
theorem dX2_mostKept_0 : decode cX2_mostKept 0 = .ok (.iconst 0, 1) := by decide +kernel
theorem dX2_mostKept_1 : decode cX2_mostKept 1 = .ok (.istore_n 1, 1) := by decide +kernel
theorem dX2_mostKept_2 : decode cX2_mostKept 2 = .ok (.bipush 98, 2) := by decide +kernel
theorem dX2_mostKept_4 : decode cX2_mostKept 4 = .ok (.istore_n 2, 1) := by decide +kernel
theorem dX2_mostKept_5 : decode cX2_mostKept 5 = .ok (.iload_n 2, 1) := by decide +kernel
theorem dX2_mostKept_6 : decode cX2_mostKept 6 = .ok (.ifCond .lt 45, 3) := by decide +kernel
theorem dX2_mostKept_9 : decode cX2_mostKept 9 = .ok (.aload_n 0, 1) := by decide +kernel
theorem dX2_mostKept_10 : decode cX2_mostKept 10 = .ok (.getfield 28, 3) := by decide +kernel
theorem dX2_mostKept_13 : decode cX2_mostKept 13 = .ok (.iload_n 2, 1) := by decide +kernel
theorem dX2_mostKept_14 : decode cX2_mostKept 14 = .ok (.aload_n 0, 1) := by decide +kernel
theorem dX2_mostKept_15 : decode cX2_mostKept 15 = .ok (.iload_n 2, 1) := by decide +kernel
theorem dX2_mostKept_16 : decode cX2_mostKept 16 = .ok (.invokevirtual 125, 3) := by decide +kernel
theorem dX2_mostKept_19 : decode cX2_mostKept 19 = .ok (.ifCond .eq 13, 3) := by decide +kernel
theorem dX2_mostKept_22 : decode cX2_mostKept 22 = .ok (.iconst 1, 1) := by decide +kernel
theorem dX2_mostKept_23 : decode cX2_mostKept 23 = .ok (.aload_n 0, 1) := by decide +kernel
theorem dX2_mostKept_24 : decode cX2_mostKept 24 = .ok (.iload_n 2, 1) := by decide +kernel
theorem dX2_mostKept_25 : decode cX2_mostKept 25 = .ok (.invokevirtual 132, 3) := by decide +kernel
theorem dX2_mostKept_28 : decode cX2_mostKept 28 = .ok (.iadd, 1) := by decide +kernel
theorem dX2_mostKept_29 : decode cX2_mostKept 29 = .ok (.goto 4, 3) := by decide +kernel
theorem dX2_mostKept_32 : decode cX2_mostKept 32 = .ok (.iconst 0, 1) := by decide +kernel
theorem dX2_mostKept_33 : decode cX2_mostKept 33 = .ok (.iastore, 1) := by decide +kernel
theorem dX2_mostKept_34 : decode cX2_mostKept 34 = .ok (.iload_n 1, 1) := by decide +kernel
theorem dX2_mostKept_35 : decode cX2_mostKept 35 = .ok (.aload_n 0, 1) := by decide +kernel
theorem dX2_mostKept_36 : decode cX2_mostKept 36 = .ok (.getfield 28, 3) := by decide +kernel
theorem dX2_mostKept_39 : decode cX2_mostKept 39 = .ok (.iload_n 2, 1) := by decide +kernel
theorem dX2_mostKept_40 : decode cX2_mostKept 40 = .ok (.iaload, 1) := by decide +kernel
theorem dX2_mostKept_41 : decode cX2_mostKept 41 = .ok (.invokestatic 135, 3) := by decide +kernel
theorem dX2_mostKept_44 : decode cX2_mostKept 44 = .ok (.istore_n 1, 1) := by decide +kernel
theorem dX2_mostKept_45 : decode cX2_mostKept 45 = .ok (.iinc 2 (-1), 3) := by decide +kernel
theorem dX2_mostKept_48 : decode cX2_mostKept 48 = .ok (.goto (-43), 3) := by decide +kernel
theorem dX2_mostKept_51 : decode cX2_mostKept 51 = .ok (.iload_n 1, 1) := by decide +kernel
theorem dX2_mostKept_52 : decode cX2_mostKept 52 = .ok (.ireturn, 1) := by decide +kernel
set_option maxRecDepth 20000 in
theorem ggX2_longestBehind_X2_isDeed : GoodIn wsX2_longestBehind wsX2_isDeed := goodIn_r _ [12, 1, 13, 14, 15, 16, 17, 18, 19, 20, 21, 22, 23, 24] (by decide +kernel) (by decide +kernel)
set_option maxRecDepth 20000 in
theorem gX2_longestBehind_X2_isDeed : GoodIn wsX2_longestBehind (wsV RX2 125 RX2 yX2_isDeed wsX2_isDeed) := goodIn_app (goodIn_of _ (by decide +kernel)) ggX2_longestBehind_X2_isDeed
theorem dX2_longestBehind_0 : decode cX2_longestBehind 0 = .ok (.iconst 0, 1) := by decide +kernel
theorem dX2_longestBehind_1 : decode cX2_longestBehind 1 = .ok (.istore_n 2, 1) := by decide +kernel
theorem dX2_longestBehind_2 : decode cX2_longestBehind 2 = .ok (.iload_n 1, 1) := by decide +kernel
theorem dX2_longestBehind_3 : decode cX2_longestBehind 3 = .ok (.iconst 1, 1) := by decide +kernel
theorem dX2_longestBehind_4 : decode cX2_longestBehind 4 = .ok (.iadd, 1) := by decide +kernel
theorem dX2_longestBehind_5 : decode cX2_longestBehind 5 = .ok (.istore_n 3, 1) := by decide +kernel
theorem dX2_longestBehind_6 : decode cX2_longestBehind 6 = .ok (.iload_n 3, 1) := by decide +kernel
theorem dX2_longestBehind_7 : decode cX2_longestBehind 7 = .ok (.bipush 99, 2) := by decide +kernel
theorem dX2_longestBehind_9 : decode cX2_longestBehind 9 = .ok (.if_icmp .ge 51, 3) := by decide +kernel
theorem dX2_longestBehind_12 : decode cX2_longestBehind 12 = .ok (.iload_n 3, 1) := by decide +kernel
theorem dX2_longestBehind_13 : decode cX2_longestBehind 13 = .ok (.aload_n 0, 1) := by decide +kernel
theorem dX2_longestBehind_14 : decode cX2_longestBehind 14 = .ok (.getfield 39, 3) := by decide +kernel
theorem dX2_longestBehind_17 : decode cX2_longestBehind 17 = .ok (.if_icmp .ge 43, 3) := by decide +kernel
theorem dX2_longestBehind_20 : decode cX2_longestBehind 20 = .ok (.aload_n 0, 1) := by decide +kernel
theorem dX2_longestBehind_21 : decode cX2_longestBehind 21 = .ok (.iload_n 1, 1) := by decide +kernel
theorem dX2_longestBehind_22 : decode cX2_longestBehind 22 = .ok (.invokevirtual 125, 3) := by decide +kernel
theorem dX2_longestBehind_25 : decode cX2_longestBehind 25 = .ok (.ifCond .eq 29, 3) := by decide +kernel
theorem dX2_longestBehind_28 : decode cX2_longestBehind 28 = .ok (.aload_n 0, 1) := by decide +kernel
theorem dX2_longestBehind_29 : decode cX2_longestBehind 29 = .ok (.getfield 18, 3) := by decide +kernel
theorem dX2_longestBehind_32 : decode cX2_longestBehind 32 = .ok (.iload_n 3, 1) := by decide +kernel
theorem dX2_longestBehind_33 : decode cX2_longestBehind 33 = .ok (.iaload, 1) := by decide +kernel
theorem dX2_longestBehind_34 : decode cX2_longestBehind 34 = .ok (.aload_n 0, 1) := by decide +kernel
theorem dX2_longestBehind_35 : decode cX2_longestBehind 35 = .ok (.getfield 18, 3) := by decide +kernel
theorem dX2_longestBehind_38 : decode cX2_longestBehind 38 = .ok (.iload_n 1, 1) := by decide +kernel
theorem dX2_longestBehind_39 : decode cX2_longestBehind 39 = .ok (.iaload, 1) := by decide +kernel
theorem dX2_longestBehind_40 : decode cX2_longestBehind 40 = .ok (.if_icmp .lt 14, 3) := by decide +kernel
theorem dX2_longestBehind_43 : decode cX2_longestBehind 43 = .ok (.iload_n 2, 1) := by decide +kernel
theorem dX2_longestBehind_44 : decode cX2_longestBehind 44 = .ok (.aload_n 0, 1) := by decide +kernel
theorem dX2_longestBehind_45 : decode cX2_longestBehind 45 = .ok (.getfield 28, 3) := by decide +kernel
theorem dX2_longestBehind_48 : decode cX2_longestBehind 48 = .ok (.iload_n 3, 1) := by decide +kernel
theorem dX2_longestBehind_49 : decode cX2_longestBehind 49 = .ok (.iaload, 1) := by decide +kernel
theorem dX2_longestBehind_50 : decode cX2_longestBehind 50 = .ok (.invokestatic 135, 3) := by decide +kernel
theorem dX2_longestBehind_53 : decode cX2_longestBehind 53 = .ok (.istore_n 2, 1) := by decide +kernel
theorem dX2_longestBehind_54 : decode cX2_longestBehind 54 = .ok (.iinc 3 1, 3) := by decide +kernel
theorem dX2_longestBehind_57 : decode cX2_longestBehind 57 = .ok (.goto (-51), 3) := by decide +kernel
theorem dX2_longestBehind_60 : decode cX2_longestBehind 60 = .ok (.iload_n 2, 1) := by decide +kernel
theorem dX2_longestBehind_61 : decode cX2_longestBehind 61 = .ok (.ireturn, 1) := by decide +kernel
theorem dX2_firstLeftOut_0 : decode cX2_firstLeftOut 0 = .ok (.iconst 0, 1) := by decide +kernel
theorem dX2_firstLeftOut_1 : decode cX2_firstLeftOut 1 = .ok (.istore_n 2, 1) := by decide +kernel
theorem dX2_firstLeftOut_2 : decode cX2_firstLeftOut 2 = .ok (.iload_n 1, 1) := by decide +kernel
theorem dX2_firstLeftOut_3 : decode cX2_firstLeftOut 3 = .ok (.istore_n 3, 1) := by decide +kernel
theorem dX2_firstLeftOut_4 : decode cX2_firstLeftOut 4 = .ok (.iconst 0, 1) := by decide +kernel
theorem dX2_firstLeftOut_5 : decode cX2_firstLeftOut 5 = .ok (.istore 4, 2) := by decide +kernel
theorem dX2_firstLeftOut_7 : decode cX2_firstLeftOut 7 = .ok (.iload 4, 2) := by decide +kernel
theorem dX2_firstLeftOut_9 : decode cX2_firstLeftOut 9 = .ok (.bipush 99, 2) := by decide +kernel
theorem dX2_firstLeftOut_11 : decode cX2_firstLeftOut 11 = .ok (.if_icmp .ge 54, 3) := by decide +kernel
theorem dX2_firstLeftOut_14 : decode cX2_firstLeftOut 14 = .ok (.iload 4, 2) := by decide +kernel
theorem dX2_firstLeftOut_16 : decode cX2_firstLeftOut 16 = .ok (.aload_n 0, 1) := by decide +kernel
theorem dX2_firstLeftOut_17 : decode cX2_firstLeftOut 17 = .ok (.getfield 39, 3) := by decide +kernel
theorem dX2_firstLeftOut_20 : decode cX2_firstLeftOut 20 = .ok (.if_icmp .ge 45, 3) := by decide +kernel
theorem dX2_firstLeftOut_23 : decode cX2_firstLeftOut 23 = .ok (.aload_n 0, 1) := by decide +kernel
theorem dX2_firstLeftOut_24 : decode cX2_firstLeftOut 24 = .ok (.getfield 18, 3) := by decide +kernel
theorem dX2_firstLeftOut_27 : decode cX2_firstLeftOut 27 = .ok (.iload 4, 2) := by decide +kernel
theorem dX2_firstLeftOut_29 : decode cX2_firstLeftOut 29 = .ok (.iaload, 1) := by decide +kernel
theorem dX2_firstLeftOut_30 : decode cX2_firstLeftOut 30 = .ok (.iload_n 2, 1) := by decide +kernel
theorem dX2_firstLeftOut_31 : decode cX2_firstLeftOut 31 = .ok (.if_icmp .lt 14, 3) := by decide +kernel
theorem dX2_firstLeftOut_34 : decode cX2_firstLeftOut 34 = .ok (.aload_n 0, 1) := by decide +kernel
theorem dX2_firstLeftOut_35 : decode cX2_firstLeftOut 35 = .ok (.getfield 28, 3) := by decide +kernel
theorem dX2_firstLeftOut_38 : decode cX2_firstLeftOut 38 = .ok (.iload 4, 2) := by decide +kernel
theorem dX2_firstLeftOut_40 : decode cX2_firstLeftOut 40 = .ok (.iaload, 1) := by decide +kernel
theorem dX2_firstLeftOut_41 : decode cX2_firstLeftOut 41 = .ok (.iload_n 3, 1) := by decide +kernel
theorem dX2_firstLeftOut_42 : decode cX2_firstLeftOut 42 = .ok (.if_icmp .ge 6, 3) := by decide +kernel
theorem dX2_firstLeftOut_45 : decode cX2_firstLeftOut 45 = .ok (.iload 4, 2) := by decide +kernel
theorem dX2_firstLeftOut_47 : decode cX2_firstLeftOut 47 = .ok (.ireturn, 1) := by decide +kernel
theorem dX2_firstLeftOut_48 : decode cX2_firstLeftOut 48 = .ok (.aload_n 0, 1) := by decide +kernel
theorem dX2_firstLeftOut_49 : decode cX2_firstLeftOut 49 = .ok (.getfield 18, 3) := by decide +kernel
theorem dX2_firstLeftOut_52 : decode cX2_firstLeftOut 52 = .ok (.iload 4, 2) := by decide +kernel
theorem dX2_firstLeftOut_54 : decode cX2_firstLeftOut 54 = .ok (.iaload, 1) := by decide +kernel
theorem dX2_firstLeftOut_55 : decode cX2_firstLeftOut 55 = .ok (.istore_n 2, 1) := by decide +kernel
theorem dX2_firstLeftOut_56 : decode cX2_firstLeftOut 56 = .ok (.iinc 3 (-1), 3) := by decide +kernel
theorem dX2_firstLeftOut_59 : decode cX2_firstLeftOut 59 = .ok (.iinc 4 1, 3) := by decide +kernel
theorem dX2_firstLeftOut_62 : decode cX2_firstLeftOut 62 = .ok (.goto (-55), 3) := by decide +kernel
theorem dX2_firstLeftOut_65 : decode cX2_firstLeftOut 65 = .ok (.bipush (-6), 2) := by decide +kernel
theorem dX2_firstLeftOut_67 : decode cX2_firstLeftOut 67 = .ok (.ireturn, 1) := by decide +kernel
