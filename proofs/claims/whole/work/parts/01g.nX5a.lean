theorem dX5_init_0 : decode cX5_init 0 = .ok (.aload_n 0, 1) := by decide +kernel
theorem dX5_init_1 : decode cX5_init 1 = .ok (.invokespecial 1, 3) := by decide +kernel
theorem dX5_init_4 : decode cX5_init 4 = .ok (.aload_n 0, 1) := by decide +kernel
theorem dX5_init_5 : decode cX5_init 5 = .ok (.new 7, 3) := by decide +kernel
theorem dX5_init_8 : decode cX5_init 8 = .ok (.dup, 1) := by decide +kernel
theorem dX5_init_9 : decode cX5_init 9 = .ok (.invokespecial 9, 3) := by decide +kernel
theorem dX5_init_12 : decode cX5_init 12 = .ok (.putfield 10, 3) := by decide +kernel
theorem dX5_init_15 : decode cX5_init 15 = .ok (.aload_n 0, 1) := by decide +kernel
theorem dX5_init_16 : decode cX5_init 16 = .ok (.new 7, 3) := by decide +kernel
theorem dX5_init_19 : decode cX5_init 19 = .ok (.dup, 1) := by decide +kernel
theorem dX5_init_20 : decode cX5_init 20 = .ok (.invokespecial 9, 3) := by decide +kernel
theorem dX5_init_23 : decode cX5_init 23 = .ok (.putfield 16, 3) := by decide +kernel
theorem dX5_init_26 : decode cX5_init 26 = .ok (.aload_n 0, 1) := by decide +kernel
theorem dX5_init_27 : decode cX5_init 27 = .ok (.new 7, 3) := by decide +kernel
theorem dX5_init_30 : decode cX5_init 30 = .ok (.dup, 1) := by decide +kernel
theorem dX5_init_31 : decode cX5_init 31 = .ok (.invokespecial 9, 3) := by decide +kernel
theorem dX5_init_34 : decode cX5_init 34 = .ok (.putfield 19, 3) := by decide +kernel
theorem dX5_init_37 : decode cX5_init 37 = .ok (.aload_n 0, 1) := by decide +kernel
theorem dX5_init_38 : decode cX5_init 38 = .ok (.new 22, 3) := by decide +kernel
theorem dX5_init_41 : decode cX5_init 41 = .ok (.dup, 1) := by decide +kernel
theorem dX5_init_42 : decode cX5_init 42 = .ok (.invokespecial 24, 3) := by decide +kernel
theorem dX5_init_45 : decode cX5_init 45 = .ok (.putfield 25, 3) := by decide +kernel
theorem dX5_init_48 : decode cX5_init 48 = .ok (.aload_n 0, 1) := by decide +kernel
theorem dX5_init_49 : decode cX5_init 49 = .ok (.new 29, 3) := by decide +kernel
theorem dX5_init_52 : decode cX5_init 52 = .ok (.dup, 1) := by decide +kernel
theorem dX5_init_53 : decode cX5_init 53 = .ok (.invokespecial 31, 3) := by decide +kernel
theorem dX5_init_56 : decode cX5_init 56 = .ok (.putfield 32, 3) := by decide +kernel
theorem dX5_init_59 : decode cX5_init 59 = .ok (.aload_n 0, 1) := by decide +kernel
theorem dX5_init_60 : decode cX5_init 60 = .ok (.new 36, 3) := by decide +kernel
theorem dX5_init_63 : decode cX5_init 63 = .ok (.dup, 1) := by decide +kernel
theorem dX5_init_64 : decode cX5_init 64 = .ok (.invokespecial 38, 3) := by decide +kernel
theorem dX5_init_67 : decode cX5_init 67 = .ok (.putfield 39, 3) := by decide +kernel
theorem dX5_init_70 : decode cX5_init 70 = .ok (.aload_n 0, 1) := by decide +kernel
theorem dX5_init_71 : decode cX5_init 71 = .ok (.new 43, 3) := by decide +kernel
theorem dX5_init_74 : decode cX5_init 74 = .ok (.dup, 1) := by decide +kernel
theorem dX5_init_75 : decode cX5_init 75 = .ok (.invokespecial 45, 3) := by decide +kernel
theorem dX5_init_78 : decode cX5_init 78 = .ok (.putfield 46, 3) := by decide +kernel
theorem dX5_init_81 : decode cX5_init 81 = .ok (.return_, 1) := by decide +kernel
set_option maxRecDepth 20000 in
theorem ggX5_courtier_X5_isWithin : GoodIn wsX5_courtier wsX5_isWithin := goodIn_r _ [7] (by decide +kernel) (by decide +kernel)
set_option maxRecDepth 20000 in
theorem gX5_courtier_X5_isWithin : GoodIn wsX5_courtier (va_wsS RX5 50 yX5_isWithin wsX5_isWithin) := goodIn_app (goodIn_of _ (by decide +kernel)) ggX5_courtier_X5_isWithin
set_option maxRecDepth 20000 in
theorem ggX5_courtier_X1_arrive : GoodIn wsX5_courtier wsX1_arrive := goodIn_r _ [12, 13, 14, 15, 16, 17, 18, 5, 6, 7, 35, 36, 37, 38, 39, 40, 41, 42, 43, 44, 45] (by decide +kernel) (by decide +kernel)
set_option maxRecDepth 20000 in
theorem gX5_courtier_X1_arrive : GoodIn wsX5_courtier (wsV RX5 55 RX1 yX1_arrive wsX1_arrive) := goodIn_app (goodIn_of _ (by decide +kernel)) ggX5_courtier_X1_arrive
set_option maxRecDepth 20000 in
theorem ggX5_courtier_J6_bitCount_0f7a4 : GoodIn wsX5_courtier wsJ6_bitCount_0f7a4 := goodIn_r _ [22, 23, 24, 25] (by decide +kernel) (by decide +kernel)
set_option maxRecDepth 20000 in
theorem gX5_courtier_J6_bitCount_0f7a4 : GoodIn wsX5_courtier (va_wsS RX5 63 yJ6_bitCount_0f7a4 wsJ6_bitCount_0f7a4) := goodIn_app (goodIn_of _ (by decide +kernel)) ggX5_courtier_J6_bitCount_0f7a4
theorem dX5_courtier_0 : decode cX5_courtier 0 = .ok (.iload_n 1, 1) := by decide +kernel
theorem dX5_courtier_1 : decode cX5_courtier 1 = .ok (.iconst 0, 1) := by decide +kernel
theorem dX5_courtier_2 : decode cX5_courtier 2 = .ok (.iconst 5, 1) := by decide +kernel
theorem dX5_courtier_3 : decode cX5_courtier 3 = .ok (.invokestatic 50, 3) := by decide +kernel
theorem dX5_courtier_6 : decode cX5_courtier 6 = .ok (.ifCond .ne 5, 3) := by decide +kernel
theorem dX5_courtier_9 : decode cX5_courtier 9 = .ok (.iconst (-1), 1) := by decide +kernel
theorem dX5_courtier_10 : decode cX5_courtier 10 = .ok (.ireturn, 1) := by decide +kernel
theorem dX5_courtier_11 : decode cX5_courtier 11 = .ok (.iload_n 2, 1) := by decide +kernel
theorem dX5_courtier_12 : decode cX5_courtier 12 = .ok (.iconst 0, 1) := by decide +kernel
theorem dX5_courtier_13 : decode cX5_courtier 13 = .ok (.ldc 54, 2) := by decide +kernel
theorem dX5_courtier_15 : decode cX5_courtier 15 = .ok (.invokestatic 50, 3) := by decide +kernel
theorem dX5_courtier_18 : decode cX5_courtier 18 = .ok (.ifCond .ne 6, 3) := by decide +kernel
theorem dX5_courtier_21 : decode cX5_courtier 21 = .ok (.bipush (-2), 2) := by decide +kernel
theorem dX5_courtier_23 : decode cX5_courtier 23 = .ok (.ireturn, 1) := by decide +kernel
theorem dX5_courtier_24 : decode cX5_courtier 24 = .ok (.aload_n 0, 1) := by decide +kernel
theorem dX5_courtier_25 : decode cX5_courtier 25 = .ok (.getfield 10, 3) := by decide +kernel
theorem dX5_courtier_28 : decode cX5_courtier 28 = .ok (.iload_n 1, 1) := by decide +kernel
theorem dX5_courtier_29 : decode cX5_courtier 29 = .ok (.iload_n 2, 1) := by decide +kernel
theorem dX5_courtier_30 : decode cX5_courtier 30 = .ok (.invokevirtual 55, 3) := by decide +kernel
theorem dX5_courtier_33 : decode cX5_courtier 33 = .ok (.aload_n 0, 1) := by decide +kernel
theorem dX5_courtier_34 : decode cX5_courtier 34 = .ok (.getfield 10, 3) := by decide +kernel
theorem dX5_courtier_37 : decode cX5_courtier 37 = .ok (.getfield 59, 3) := by decide +kernel
theorem dX5_courtier_40 : decode cX5_courtier 40 = .ok (.invokestatic 63, 3) := by decide +kernel
theorem dX5_courtier_43 : decode cX5_courtier 43 = .ok (.ireturn, 1) := by decide +kernel
set_option maxRecDepth 20000 in
theorem ggX5_leave_X1_isThere : GoodIn wsX5_leave wsX1_isThere := goodIn_r _ [7, 8, 31, 32, 33, 34, 35, 36, 37, 38, 39, 40, 41] (by decide +kernel) (by decide +kernel)
set_option maxRecDepth 20000 in
theorem gX5_leave_X1_isThere : GoodIn wsX5_leave (wsV RX5 69 RX1 yX1_isThere wsX1_isThere) := goodIn_app (goodIn_of _ (by decide +kernel)) ggX5_leave_X1_isThere
set_option maxRecDepth 20000 in
theorem ggX5_leave_X1_goAway : GoodIn wsX5_leave wsX1_goAway := goodIn_r _ [12, 8, 13, 14, 4, 5, 6, 7, 31, 32, 33, 34, 35, 36, 37, 38, 39, 40, 41] (by decide +kernel) (by decide +kernel)
set_option maxRecDepth 20000 in
theorem gX5_leave_X1_goAway : GoodIn wsX5_leave (wsV RX5 73 RX1 yX1_goAway wsX1_goAway) := goodIn_app (goodIn_of _ (by decide +kernel)) ggX5_leave_X1_goAway
set_option maxRecDepth 20000 in
theorem ggX5_leave_J6_bitCount_0f7a4 : GoodIn wsX5_leave wsJ6_bitCount_0f7a4 := goodIn_r _ [18, 19, 20, 21] (by decide +kernel) (by decide +kernel)
set_option maxRecDepth 20000 in
theorem gX5_leave_J6_bitCount_0f7a4 : GoodIn wsX5_leave (va_wsS RX5 63 yJ6_bitCount_0f7a4 wsJ6_bitCount_0f7a4) := goodIn_app (goodIn_of _ (by decide +kernel)) ggX5_leave_J6_bitCount_0f7a4
theorem dX5_leave_0 : decode cX5_leave 0 = .ok (.aload_n 0, 1) := by decide +kernel
theorem dX5_leave_1 : decode cX5_leave 1 = .ok (.getfield 10, 3) := by decide +kernel
theorem dX5_leave_4 : decode cX5_leave 4 = .ok (.iload_n 1, 1) := by decide +kernel
theorem dX5_leave_5 : decode cX5_leave 5 = .ok (.invokevirtual 69, 3) := by decide +kernel
theorem dX5_leave_8 : decode cX5_leave 8 = .ok (.ifCond .ne 5, 3) := by decide +kernel
theorem dX5_leave_11 : decode cX5_leave 11 = .ok (.iconst (-1), 1) := by decide +kernel
theorem dX5_leave_12 : decode cX5_leave 12 = .ok (.ireturn, 1) := by decide +kernel
theorem dX5_leave_13 : decode cX5_leave 13 = .ok (.aload_n 0, 1) := by decide +kernel
theorem dX5_leave_14 : decode cX5_leave 14 = .ok (.getfield 10, 3) := by decide +kernel
theorem dX5_leave_17 : decode cX5_leave 17 = .ok (.iload_n 1, 1) := by decide +kernel
theorem dX5_leave_18 : decode cX5_leave 18 = .ok (.invokevirtual 73, 3) := by decide +kernel
theorem dX5_leave_21 : decode cX5_leave 21 = .ok (.aload_n 0, 1) := by decide +kernel
theorem dX5_leave_22 : decode cX5_leave 22 = .ok (.getfield 10, 3) := by decide +kernel
theorem dX5_leave_25 : decode cX5_leave 25 = .ok (.getfield 59, 3) := by decide +kernel
theorem dX5_leave_28 : decode cX5_leave 28 = .ok (.invokestatic 63, 3) := by decide +kernel
theorem dX5_leave_31 : decode cX5_leave 31 = .ok (.ireturn, 1) := by decide +kernel
set_option maxRecDepth 20000 in
theorem ggX5_set_X5_isWithin : GoodIn wsX5_set wsX5_isWithin := goodIn_r _ [7] (by decide +kernel) (by decide +kernel)
set_option maxRecDepth 20000 in
theorem gX5_set_X5_isWithin : GoodIn wsX5_set (va_wsS RX5 50 yX5_isWithin wsX5_isWithin) := goodIn_app (goodIn_of _ (by decide +kernel)) ggX5_set_X5_isWithin
theorem dX5_set_0 : decode cX5_set 0 = .ok (.iload_n 1, 1) := by decide +kernel
theorem dX5_set_1 : decode cX5_set 1 = .ok (.ifCond .ne 32, 3) := by decide +kernel
theorem dX5_set_4 : decode cX5_set 4 = .ok (.iload_n 2, 1) := by decide +kernel
theorem dX5_set_5 : decode cX5_set 5 = .ok (.iconst 0, 1) := by decide +kernel
theorem dX5_set_6 : decode cX5_set 6 = .ok (.bipush 23, 2) := by decide +kernel
theorem dX5_set_8 : decode cX5_set 8 = .ok (.invokestatic 50, 3) := by decide +kernel
theorem dX5_set_11 : decode cX5_set 11 = .ok (.ifCond .eq 22, 3) := by decide +kernel
theorem dX5_set_14 : decode cX5_set 14 = .ok (.aload_n 0, 1) := by decide +kernel
theorem dX5_set_15 : decode cX5_set 15 = .ok (.getfield 10, 3) := by decide +kernel
theorem dX5_set_18 : decode cX5_set 18 = .ok (.getfield 77, 3) := by decide +kernel
theorem dX5_set_21 : decode cX5_set 21 = .ok (.istore_n 3, 1) := by decide +kernel
theorem dX5_set_22 : decode cX5_set 22 = .ok (.aload_n 0, 1) := by decide +kernel
theorem dX5_set_23 : decode cX5_set 23 = .ok (.getfield 10, 3) := by decide +kernel
theorem dX5_set_26 : decode cX5_set 26 = .ok (.iload_n 2, 1) := by decide +kernel
theorem dX5_set_27 : decode cX5_set 27 = .ok (.putfield 77, 3) := by decide +kernel
theorem dX5_set_30 : decode cX5_set 30 = .ok (.goto 40, 3) := by decide +kernel
theorem dX5_set_33 : decode cX5_set 33 = .ok (.iload_n 1, 1) := by decide +kernel
theorem dX5_set_34 : decode cX5_set 34 = .ok (.iconst 1, 1) := by decide +kernel
theorem dX5_set_35 : decode cX5_set 35 = .ok (.if_icmp .ne 32, 3) := by decide +kernel
theorem dX5_set_38 : decode cX5_set 38 = .ok (.iload_n 2, 1) := by decide +kernel
theorem dX5_set_39 : decode cX5_set 39 = .ok (.iconst 1, 1) := by decide +kernel
theorem dX5_set_40 : decode cX5_set 40 = .ok (.bipush 20, 2) := by decide +kernel
theorem dX5_set_42 : decode cX5_set 42 = .ok (.invokestatic 50, 3) := by decide +kernel
theorem dX5_set_45 : decode cX5_set 45 = .ok (.ifCond .eq 22, 3) := by decide +kernel
theorem dX5_set_48 : decode cX5_set 48 = .ok (.aload_n 0, 1) := by decide +kernel
theorem dX5_set_49 : decode cX5_set 49 = .ok (.getfield 10, 3) := by decide +kernel
theorem dX5_set_52 : decode cX5_set 52 = .ok (.getfield 80, 3) := by decide +kernel
theorem dX5_set_55 : decode cX5_set 55 = .ok (.istore_n 3, 1) := by decide +kernel
theorem dX5_set_56 : decode cX5_set 56 = .ok (.aload_n 0, 1) := by decide +kernel
theorem dX5_set_57 : decode cX5_set 57 = .ok (.getfield 10, 3) := by decide +kernel
theorem dX5_set_60 : decode cX5_set 60 = .ok (.iload_n 2, 1) := by decide +kernel
theorem dX5_set_61 : decode cX5_set 61 = .ok (.putfield 80, 3) := by decide +kernel
theorem dX5_set_64 : decode cX5_set 64 = .ok (.goto 6, 3) := by decide +kernel
theorem dX5_set_67 : decode cX5_set 67 = .ok (.bipush (-2), 2) := by decide +kernel
theorem dX5_set_69 : decode cX5_set 69 = .ok (.istore_n 3, 1) := by decide +kernel
theorem dX5_set_70 : decode cX5_set 70 = .ok (.iload_n 3, 1) := by decide +kernel
theorem dX5_set_71 : decode cX5_set 71 = .ok (.ireturn, 1) := by decide +kernel
set_option maxRecDepth 20000 in
theorem ggX5_say_X5_isWithin : GoodIn wsX5_say wsX5_isWithin := goodIn_r _ [6] (by decide +kernel) (by decide +kernel)
set_option maxRecDepth 20000 in
theorem gX5_say_X5_isWithin : GoodIn wsX5_say (va_wsS RX5 50 yX5_isWithin wsX5_isWithin) := goodIn_app (goodIn_of _ (by decide +kernel)) ggX5_say_X5_isWithin
set_option maxRecDepth 20000 in
theorem ggX5_say_X4_append : GoodIn wsX5_say wsX4_append := goodIn_r _ [11, 12, 13, 4, 5, 6, 23, 24] (by decide +kernel) (by decide +kernel)
set_option maxRecDepth 20000 in
theorem gX5_say_X4_append : GoodIn wsX5_say (wsV RX5 83 RX4 yX4_append wsX4_append) := goodIn_app (goodIn_of _ (by decide +kernel)) ggX5_say_X4_append
theorem dX5_say_0 : decode cX5_say 0 = .ok (.iload_n 1, 1) := by decide +kernel
theorem dX5_say_1 : decode cX5_say 1 = .ok (.bipush 33, 2) := by decide +kernel
theorem dX5_say_3 : decode cX5_say 3 = .ok (.bipush 126, 2) := by decide +kernel
theorem dX5_say_5 : decode cX5_say 5 = .ok (.invokestatic 50, 3) := by decide +kernel
theorem dX5_say_8 : decode cX5_say 8 = .ok (.ifCond .ne 6, 3) := by decide +kernel
theorem dX5_say_11 : decode cX5_say 11 = .ok (.bipush (-2), 2) := by decide +kernel
theorem dX5_say_13 : decode cX5_say 13 = .ok (.ireturn, 1) := by decide +kernel
theorem dX5_say_14 : decode cX5_say 14 = .ok (.aload_n 0, 1) := by decide +kernel
theorem dX5_say_15 : decode cX5_say 15 = .ok (.getfield 25, 3) := by decide +kernel
theorem dX5_say_18 : decode cX5_say 18 = .ok (.iload_n 1, 1) := by decide +kernel
theorem dX5_say_19 : decode cX5_say 19 = .ok (.invokevirtual 83, 3) := by decide +kernel
theorem dX5_say_22 : decode cX5_say 22 = .ok (.ifCond .eq 13, 3) := by decide +kernel
theorem dX5_say_25 : decode cX5_say 25 = .ok (.aload_n 0, 1) := by decide +kernel
theorem dX5_say_26 : decode cX5_say 26 = .ok (.getfield 25, 3) := by decide +kernel
theorem dX5_say_29 : decode cX5_say 29 = .ok (.getfield 86, 3) := by decide +kernel
theorem dX5_say_32 : decode cX5_say 32 = .ok (.goto 5, 3) := by decide +kernel
theorem dX5_say_35 : decode cX5_say 35 = .ok (.bipush (-4), 2) := by decide +kernel
theorem dX5_say_37 : decode cX5_say 37 = .ok (.ireturn, 1) := by decide +kernel
theorem dX5_wipe_0 : decode cX5_wipe 0 = .ok (.aload_n 0, 1) := by decide +kernel
theorem dX5_wipe_1 : decode cX5_wipe 1 = .ok (.getfield 25, 3) := by decide +kernel
theorem dX5_wipe_4 : decode cX5_wipe 4 = .ok (.getfield 86, 3) := by decide +kernel
theorem dX5_wipe_7 : decode cX5_wipe 7 = .ok (.istore_n 1, 1) := by decide +kernel
theorem dX5_wipe_8 : decode cX5_wipe 8 = .ok (.aload_n 0, 1) := by decide +kernel
theorem dX5_wipe_9 : decode cX5_wipe 9 = .ok (.getfield 25, 3) := by decide +kernel
theorem dX5_wipe_12 : decode cX5_wipe 12 = .ok (.iconst 0, 1) := by decide +kernel
theorem dX5_wipe_13 : decode cX5_wipe 13 = .ok (.putfield 86, 3) := by decide +kernel
theorem dX5_wipe_16 : decode cX5_wipe 16 = .ok (.iload_n 1, 1) := by decide +kernel
theorem dX5_wipe_17 : decode cX5_wipe 17 = .ok (.ireturn, 1) := by decide +kernel
set_option maxRecDepth 20000 in
theorem ggX5_fault_X4_firstFault : GoodIn wsX5_fault wsX4_firstFault := goodIn_r _ [6, 7, 8, 9, 10, 5, 11, 12, 13, 14, 15, 16, 17, 18, 19, 20, 21, 22, 23, 24, 34, 35] (by decide +kernel) (by decide +kernel)
set_option maxRecDepth 20000 in
theorem gX5_fault_X4_firstFault : GoodIn wsX5_fault (wsV RX5 89 RX4 yX4_firstFault wsX4_firstFault) := goodIn_app (goodIn_of _ (by decide +kernel)) ggX5_fault_X4_firstFault
theorem dX5_fault_0 : decode cX5_fault 0 = .ok (.aload_n 0, 1) := by decide +kernel
theorem dX5_fault_1 : decode cX5_fault 1 = .ok (.getfield 25, 3) := by decide +kernel
theorem dX5_fault_4 : decode cX5_fault 4 = .ok (.invokevirtual 89, 3) := by decide +kernel
theorem dX5_fault_7 : decode cX5_fault 7 = .ok (.ireturn, 1) := by decide +kernel
set_option maxRecDepth 20000 in
theorem ggX5_judge_X5_isWithin : GoodIn wsX5_judge wsX5_isWithin := goodIn_r _ [10] (by decide +kernel) (by decide +kernel)
set_option maxRecDepth 20000 in
theorem gX5_judge_X5_isWithin : GoodIn wsX5_judge (va_wsS RX5 50 yX5_isWithin wsX5_isWithin) := goodIn_app (goodIn_of _ (by decide +kernel)) ggX5_judge_X5_isWithin
set_option maxRecDepth 20000 in
theorem ggX5_judge_X2_playPad : GoodIn wsX5_judge wsX2_playPad := goodIn_r _ [15, 16, 17, 18, 19, 20, 21, 22, 23, 24, 25, 26, 27, 28, 29, 30, 8, 9, 10, 31, 32, 33, 34, 35, 36, 37, 38, 39, 40, 41, 42, 14, 43, 44, 45, 46, 47, 48, 49, 50, 51, 52, 53, 54, 55, 56, 57, 58, 59, 60, 61, 62, 63, 64, 65, 66, 67, 68, 69, 70, 71, 72, 73, 74, 75, 76, 77, 78, 79, 80, 81, 82, 83, 84, 85, 86, 87, 88, 89, 90, 91, 92, 93, 94, 95, 96, 97, 98, 99, 100, 101, 102, 103, 104, 105, 106, 107, 108, 109, 110, 111, 112, 113, 114, 115, 116, 117, 118, 119, 120, 121, 122, 123, 124, 125, 126, 127, 128, 129, 130, 131, 132, 133, 134, 135, 136, 137, 138, 139, 140, 141, 142, 143, 144, 145, 146, 147, 148, 149, 150, 151, 152, 153, 154, 173, 174, 164, 165, 166, 167, 168, 169, 170, 171, 172, 175, 176, 177, 178, 179, 180, 181, 182, 183, 184, 185] (by decide +kernel) (by decide +kernel)
set_option maxRecDepth 20000 in
theorem gX5_judge_X2_playPad : GoodIn wsX5_judge (wsV RX5 93 RX2 yX2_playPad wsX2_playPad) := goodIn_app (goodIn_of _ (by decide +kernel)) ggX5_judge_X2_playPad
theorem dX5_judge_0 : decode cX5_judge 0 = .ok (.iload_n 1, 1) := by decide +kernel
theorem dX5_judge_1 : decode cX5_judge 1 = .ok (.iconst 0, 1) := by decide +kernel
theorem dX5_judge_2 : decode cX5_judge 2 = .ok (.iconst 2, 1) := by decide +kernel
theorem dX5_judge_3 : decode cX5_judge 3 = .ok (.invokestatic 50, 3) := by decide +kernel
theorem dX5_judge_6 : decode cX5_judge 6 = .ok (.ifCond .ne 6, 3) := by decide +kernel
theorem dX5_judge_9 : decode cX5_judge 9 = .ok (.bipush (-2), 2) := by decide +kernel
theorem dX5_judge_11 : decode cX5_judge 11 = .ok (.ireturn, 1) := by decide +kernel
theorem dX5_judge_12 : decode cX5_judge 12 = .ok (.aload_n 0, 1) := by decide +kernel
theorem dX5_judge_13 : decode cX5_judge 13 = .ok (.getfield 32, 3) := by decide +kernel
theorem dX5_judge_16 : decode cX5_judge 16 = .ok (.aload_n 0, 1) := by decide +kernel
theorem dX5_judge_17 : decode cX5_judge 17 = .ok (.getfield 10, 3) := by decide +kernel
theorem dX5_judge_20 : decode cX5_judge 20 = .ok (.aload_n 0, 1) := by decide +kernel
theorem dX5_judge_21 : decode cX5_judge 21 = .ok (.getfield 25, 3) := by decide +kernel
theorem dX5_judge_24 : decode cX5_judge 24 = .ok (.invokevirtual 93, 3) := by decide +kernel
theorem dX5_judge_27 : decode cX5_judge 27 = .ok (.istore_n 2, 1) := by decide +kernel
theorem dX5_judge_28 : decode cX5_judge 28 = .ok (.iload_n 2, 1) := by decide +kernel
theorem dX5_judge_29 : decode cX5_judge 29 = .ok (.bipush (-5), 2) := by decide +kernel
theorem dX5_judge_31 : decode cX5_judge 31 = .ok (.if_icmp .ne 6, 3) := by decide +kernel
theorem dX5_judge_34 : decode cX5_judge 34 = .ok (.bipush (-5), 2) := by decide +kernel
theorem dX5_judge_36 : decode cX5_judge 36 = .ok (.ireturn, 1) := by decide +kernel
theorem dX5_judge_37 : decode cX5_judge 37 = .ok (.iload_n 1, 1) := by decide +kernel
theorem dX5_judge_38 : decode cX5_judge 38 = .ok (.iconst 2, 1) := by decide +kernel
theorem dX5_judge_39 : decode cX5_judge 39 = .ok (.if_icmp .ne 22, 3) := by decide +kernel
theorem dX5_judge_42 : decode cX5_judge 42 = .ok (.iload_n 2, 1) := by decide +kernel
theorem dX5_judge_43 : decode cX5_judge 43 = .ok (.bipush (-3), 2) := by decide +kernel
theorem dX5_judge_45 : decode cX5_judge 45 = .ok (.if_icmp .ne 8, 3) := by decide +kernel
theorem dX5_judge_48 : decode cX5_judge 48 = .ok (.bipush (-3), 2) := by decide +kernel
theorem dX5_judge_50 : decode cX5_judge 50 = .ok (.goto 10, 3) := by decide +kernel
theorem dX5_judge_53 : decode cX5_judge 53 = .ok (.aload_n 0, 1) := by decide +kernel
theorem dX5_judge_54 : decode cX5_judge 54 = .ok (.getfield 32, 3) := by decide +kernel
theorem dX5_judge_57 : decode cX5_judge 57 = .ok (.getfield 97, 3) := by decide +kernel
theorem dX5_judge_60 : decode cX5_judge 60 = .ok (.ireturn, 1) := by decide +kernel
theorem dX5_judge_61 : decode cX5_judge 61 = .ok (.iload_n 1, 1) := by decide +kernel
theorem dX5_judge_62 : decode cX5_judge 62 = .ok (.ifCond .ne 13, 3) := by decide +kernel
theorem dX5_judge_65 : decode cX5_judge 65 = .ok (.aload_n 0, 1) := by decide +kernel
theorem dX5_judge_66 : decode cX5_judge 66 = .ok (.getfield 32, 3) := by decide +kernel
theorem dX5_judge_69 : decode cX5_judge 69 = .ok (.getfield 100, 3) := by decide +kernel
theorem dX5_judge_72 : decode cX5_judge 72 = .ok (.goto 10, 3) := by decide +kernel
theorem dX5_judge_75 : decode cX5_judge 75 = .ok (.aload_n 0, 1) := by decide +kernel
theorem dX5_judge_76 : decode cX5_judge 76 = .ok (.getfield 32, 3) := by decide +kernel
theorem dX5_judge_79 : decode cX5_judge 79 = .ok (.getfield 103, 3) := by decide +kernel
theorem dX5_judge_82 : decode cX5_judge 82 = .ok (.ireturn, 1) := by decide +kernel
set_option maxRecDepth 20000 in
theorem ggX5_behind_X1_isThere : GoodIn wsX5_behind wsX1_isThere := goodIn_r _ [9, 10, 180, 181, 182, 183, 184, 185, 186, 187, 188, 189, 190] (by decide +kernel) (by decide +kernel)
set_option maxRecDepth 20000 in
theorem gX5_behind_X1_isThere : GoodIn wsX5_behind (wsV RX5 69 RX1 yX1_isThere wsX1_isThere) := goodIn_app (goodIn_of _ (by decide +kernel)) ggX5_behind_X1_isThere
set_option maxRecDepth 20000 in
theorem ggX5_behind_X5_isWithin : GoodIn wsX5_behind wsX5_isWithin := goodIn_r _ [14] (by decide +kernel) (by decide +kernel)
set_option maxRecDepth 20000 in
theorem gX5_behind_X5_isWithin : GoodIn wsX5_behind (va_wsS RX5 50 yX5_isWithin wsX5_isWithin) := goodIn_app (goodIn_of _ (by decide +kernel)) ggX5_behind_X5_isWithin
set_option maxRecDepth 20000 in
theorem ggX5_behind_X2_playPad : GoodIn wsX5_behind wsX2_playPad := goodIn_r _ [19, 20, 21, 22, 23, 24, 25, 26, 27, 28, 29, 30, 31, 32, 33, 34, 12, 13, 14, 35, 36, 37, 38, 39, 40, 41, 42, 43, 44, 45, 46, 18, 47, 48, 49, 50, 51, 52, 8, 53, 10, 54, 55, 56, 57, 58, 59, 60, 61, 62, 63, 64, 65, 66, 67, 68, 69, 70, 71, 72, 73, 74, 75, 76, 77, 6, 7, 9, 78, 79, 80, 81, 82, 83, 84, 85, 86, 87, 88, 89, 90, 91, 92, 93, 94, 95, 96, 97, 98, 99, 100, 101, 102, 103, 104, 105, 106, 107, 108, 109, 110, 111, 112, 113, 114, 115, 116, 117, 118, 119, 120, 121, 122, 123, 124, 125, 126, 127, 128, 129, 130, 131, 132, 133, 134, 135, 136, 137, 138, 139, 140, 141, 142, 143, 144, 145, 146, 147, 148, 149, 150, 151, 152, 153, 191, 192, 171, 172, 173, 174, 175, 176, 177, 178, 179, 180, 181, 182, 183, 184, 185, 186, 187, 188, 189, 190] (by decide +kernel) (by decide +kernel)
set_option maxRecDepth 20000 in
theorem gX5_behind_X2_playPad : GoodIn wsX5_behind (wsV RX5 93 RX2 yX2_playPad wsX2_playPad) := goodIn_app (goodIn_of _ (by decide +kernel)) ggX5_behind_X2_playPad
set_option maxRecDepth 20000 in
theorem ggX5_behind_X1_pairsOf : GoodIn wsX5_behind wsX1_pairsOf := goodIn_r _ [157, 59, 77, 6, 7, 8, 9, 10, 180, 181, 182, 183, 184, 185, 186, 187, 188, 189, 190] (by decide +kernel) (by decide +kernel)
set_option maxRecDepth 20000 in
theorem gX5_behind_X1_pairsOf : GoodIn wsX5_behind (wsV RX5 107 RX1 yX1_pairsOf wsX1_pairsOf) := goodIn_app (goodIn_of _ (by decide +kernel)) ggX5_behind_X1_pairsOf
set_option maxRecDepth 20000 in
theorem ggX5_behind_X1_tellOf : GoodIn wsX5_behind wsX1_tellOf := goodIn_r _ [161, 66, 64, 65, 77, 6, 7, 8, 9, 10, 180, 181, 182, 183, 184, 185, 186, 187, 188, 189, 190] (by decide +kernel) (by decide +kernel)
set_option maxRecDepth 20000 in
theorem gX5_behind_X1_tellOf : GoodIn wsX5_behind (wsV RX5 110 RX1 yX1_tellOf wsX1_tellOf) := goodIn_app (goodIn_of _ (by decide +kernel)) ggX5_behind_X1_tellOf
theorem dX5_behind_0 : decode cX5_behind 0 = .ok (.aload_n 0, 1) := by decide +kernel
theorem dX5_behind_1 : decode cX5_behind 1 = .ok (.getfield 10, 3) := by decide +kernel
theorem dX5_behind_4 : decode cX5_behind 4 = .ok (.iload_n 1, 1) := by decide +kernel
theorem dX5_behind_5 : decode cX5_behind 5 = .ok (.invokevirtual 69, 3) := by decide +kernel
theorem dX5_behind_8 : decode cX5_behind 8 = .ok (.ifCond .ne 5, 3) := by decide +kernel
theorem dX5_behind_11 : decode cX5_behind 11 = .ok (.iconst (-1), 1) := by decide +kernel
theorem dX5_behind_12 : decode cX5_behind 12 = .ok (.ireturn, 1) := by decide +kernel
theorem dX5_behind_13 : decode cX5_behind 13 = .ok (.iload_n 2, 1) := by decide +kernel
theorem dX5_behind_14 : decode cX5_behind 14 = .ok (.iconst 0, 1) := by decide +kernel
theorem dX5_behind_15 : decode cX5_behind 15 = .ok (.iconst 3, 1) := by decide +kernel
theorem dX5_behind_16 : decode cX5_behind 16 = .ok (.invokestatic 50, 3) := by decide +kernel
theorem dX5_behind_19 : decode cX5_behind 19 = .ok (.ifCond .ne 6, 3) := by decide +kernel
theorem dX5_behind_22 : decode cX5_behind 22 = .ok (.bipush (-2), 2) := by decide +kernel
theorem dX5_behind_24 : decode cX5_behind 24 = .ok (.ireturn, 1) := by decide +kernel
theorem dX5_behind_25 : decode cX5_behind 25 = .ok (.aload_n 0, 1) := by decide +kernel
theorem dX5_behind_26 : decode cX5_behind 26 = .ok (.getfield 32, 3) := by decide +kernel
theorem dX5_behind_29 : decode cX5_behind 29 = .ok (.aload_n 0, 1) := by decide +kernel
theorem dX5_behind_30 : decode cX5_behind 30 = .ok (.getfield 10, 3) := by decide +kernel
theorem dX5_behind_33 : decode cX5_behind 33 = .ok (.aload_n 0, 1) := by decide +kernel
theorem dX5_behind_34 : decode cX5_behind 34 = .ok (.getfield 25, 3) := by decide +kernel
theorem dX5_behind_37 : decode cX5_behind 37 = .ok (.invokevirtual 93, 3) := by decide +kernel
theorem dX5_behind_40 : decode cX5_behind 40 = .ok (.istore_n 3, 1) := by decide +kernel
theorem dX5_behind_41 : decode cX5_behind 41 = .ok (.iload_n 3, 1) := by decide +kernel
theorem dX5_behind_42 : decode cX5_behind 42 = .ok (.ifCond .ge 5, 3) := by decide +kernel
theorem dX5_behind_45 : decode cX5_behind 45 = .ok (.iload_n 3, 1) := by decide +kernel
theorem dX5_behind_46 : decode cX5_behind 46 = .ok (.ireturn, 1) := by decide +kernel
theorem dX5_behind_47 : decode cX5_behind 47 = .ok (.iload_n 2, 1) := by decide +kernel
theorem dX5_behind_48 : decode cX5_behind 48 = .ok (.iconst 3, 1) := by decide +kernel
theorem dX5_behind_49 : decode cX5_behind 49 = .ok (.if_icmp .ne 17, 3) := by decide +kernel
theorem dX5_behind_52 : decode cX5_behind 52 = .ok (.aload_n 0, 1) := by decide +kernel
theorem dX5_behind_53 : decode cX5_behind 53 = .ok (.getfield 32, 3) := by decide +kernel
theorem dX5_behind_56 : decode cX5_behind 56 = .ok (.getfield 106, 3) := by decide +kernel
theorem dX5_behind_59 : decode cX5_behind 59 = .ok (.iload_n 1, 1) := by decide +kernel
theorem dX5_behind_60 : decode cX5_behind 60 = .ok (.invokevirtual 107, 3) := by decide +kernel
theorem dX5_behind_63 : decode cX5_behind 63 = .ok (.goto 15, 3) := by decide +kernel
theorem dX5_behind_66 : decode cX5_behind 66 = .ok (.aload_n 0, 1) := by decide +kernel
theorem dX5_behind_67 : decode cX5_behind 67 = .ok (.getfield 32, 3) := by decide +kernel
theorem dX5_behind_70 : decode cX5_behind 70 = .ok (.getfield 106, 3) := by decide +kernel
theorem dX5_behind_73 : decode cX5_behind 73 = .ok (.iload_n 1, 1) := by decide +kernel
theorem dX5_behind_74 : decode cX5_behind 74 = .ok (.iload_n 2, 1) := by decide +kernel
theorem dX5_behind_75 : decode cX5_behind 75 = .ok (.invokevirtual 110, 3) := by decide +kernel
theorem dX5_behind_78 : decode cX5_behind 78 = .ok (.ireturn, 1) := by decide +kernel
set_option maxRecDepth 20000 in
theorem ggX5_wear_X1_isThere : GoodIn wsX5_wear wsX1_isThere := goodIn_r _ [9, 10, 176, 177, 178, 179, 180, 181, 182, 183, 184, 185, 186] (by decide +kernel) (by decide +kernel)
set_option maxRecDepth 20000 in
theorem gX5_wear_X1_isThere : GoodIn wsX5_wear (wsV RX5 69 RX1 yX1_isThere wsX1_isThere) := goodIn_app (goodIn_of _ (by decide +kernel)) ggX5_wear_X1_isThere
set_option maxRecDepth 20000 in
theorem ggX5_wear_X5_isWithin : GoodIn wsX5_wear wsX5_isWithin := goodIn_r _ [14] (by decide +kernel) (by decide +kernel)
set_option maxRecDepth 20000 in
theorem gX5_wear_X5_isWithin : GoodIn wsX5_wear (va_wsS RX5 50 yX5_isWithin wsX5_isWithin) := goodIn_app (goodIn_of _ (by decide +kernel)) ggX5_wear_X5_isWithin
set_option maxRecDepth 20000 in
theorem ggX5_wear_X2_playPad : GoodIn wsX5_wear wsX2_playPad := goodIn_r _ [19, 20, 21, 22, 23, 24, 25, 26, 27, 28, 29, 30, 31, 32, 33, 34, 12, 13, 14, 35, 36, 37, 38, 39, 40, 41, 42, 43, 44, 45, 46, 18, 47, 48, 49, 50, 51, 52, 8, 53, 10, 54, 55, 56, 57, 58, 59, 60, 61, 62, 63, 64, 65, 66, 67, 68, 69, 70, 71, 72, 73, 74, 75, 76, 77, 6, 7, 9, 78, 79, 80, 81, 82, 83, 84, 85, 86, 87, 88, 89, 90, 91, 92, 93, 94, 95, 96, 97, 98, 99, 100, 101, 102, 103, 104, 105, 106, 107, 108, 109, 110, 111, 112, 113, 114, 115, 116, 117, 118, 119, 120, 121, 122, 123, 124, 125, 126, 127, 128, 129, 130, 131, 132, 133, 134, 135, 136, 137, 138, 139, 140, 141, 142, 143, 144, 145, 146, 147, 148, 149, 150, 151, 152, 153, 187, 188, 167, 168, 169, 170, 171, 172, 173, 174, 175, 176, 177, 178, 179, 180, 181, 182, 183, 184, 185, 186] (by decide +kernel) (by decide +kernel)
set_option maxRecDepth 20000 in
theorem gX5_wear_X2_playPad : GoodIn wsX5_wear (wsV RX5 93 RX2 yX2_playPad wsX2_playPad) := goodIn_app (goodIn_of _ (by decide +kernel)) ggX5_wear_X2_playPad
set_option maxRecDepth 20000 in
theorem ggX5_wear_X1_wearOf : GoodIn wsX5_wear wsX1_wearOf := goodIn_r _ [157, 67, 94, 95, 96, 8, 97, 59, 176, 177, 178, 179, 180, 181, 182, 183, 184, 185, 186] (by decide +kernel) (by decide +kernel)
set_option maxRecDepth 20000 in
theorem gX5_wear_X1_wearOf : GoodIn wsX5_wear (wsV RX5 114 RX1 yX1_wearOf wsX1_wearOf) := goodIn_app (goodIn_of _ (by decide +kernel)) ggX5_wear_X1_wearOf
theorem dX5_wear_0 : decode cX5_wear 0 = .ok (.aload_n 0, 1) := by decide +kernel
theorem dX5_wear_1 : decode cX5_wear 1 = .ok (.getfield 10, 3) := by decide +kernel
theorem dX5_wear_4 : decode cX5_wear 4 = .ok (.iload_n 1, 1) := by decide +kernel
theorem dX5_wear_5 : decode cX5_wear 5 = .ok (.invokevirtual 69, 3) := by decide +kernel
theorem dX5_wear_8 : decode cX5_wear 8 = .ok (.ifCond .ne 5, 3) := by decide +kernel
theorem dX5_wear_11 : decode cX5_wear 11 = .ok (.iconst (-1), 1) := by decide +kernel
theorem dX5_wear_12 : decode cX5_wear 12 = .ok (.ireturn, 1) := by decide +kernel
theorem dX5_wear_13 : decode cX5_wear 13 = .ok (.iload_n 2, 1) := by decide +kernel
theorem dX5_wear_14 : decode cX5_wear 14 = .ok (.iconst 0, 1) := by decide +kernel
theorem dX5_wear_15 : decode cX5_wear 15 = .ok (.bipush 23, 2) := by decide +kernel
theorem dX5_wear_17 : decode cX5_wear 17 = .ok (.invokestatic 50, 3) := by decide +kernel
theorem dX5_wear_20 : decode cX5_wear 20 = .ok (.ifCond .ne 6, 3) := by decide +kernel
theorem dX5_wear_23 : decode cX5_wear 23 = .ok (.bipush (-2), 2) := by decide +kernel
theorem dX5_wear_25 : decode cX5_wear 25 = .ok (.ireturn, 1) := by decide +kernel
theorem dX5_wear_26 : decode cX5_wear 26 = .ok (.aload_n 0, 1) := by decide +kernel
theorem dX5_wear_27 : decode cX5_wear 27 = .ok (.getfield 32, 3) := by decide +kernel
theorem dX5_wear_30 : decode cX5_wear 30 = .ok (.aload_n 0, 1) := by decide +kernel
theorem dX5_wear_31 : decode cX5_wear 31 = .ok (.getfield 10, 3) := by decide +kernel
theorem dX5_wear_34 : decode cX5_wear 34 = .ok (.aload_n 0, 1) := by decide +kernel
theorem dX5_wear_35 : decode cX5_wear 35 = .ok (.getfield 25, 3) := by decide +kernel
theorem dX5_wear_38 : decode cX5_wear 38 = .ok (.invokevirtual 93, 3) := by decide +kernel
theorem dX5_wear_41 : decode cX5_wear 41 = .ok (.istore_n 3, 1) := by decide +kernel
theorem dX5_wear_42 : decode cX5_wear 42 = .ok (.iload_n 3, 1) := by decide +kernel
theorem dX5_wear_43 : decode cX5_wear 43 = .ok (.ifCond .ge 7, 3) := by decide +kernel
theorem dX5_wear_46 : decode cX5_wear 46 = .ok (.iload_n 3, 1) := by decide +kernel
theorem dX5_wear_47 : decode cX5_wear 47 = .ok (.goto 15, 3) := by decide +kernel
theorem dX5_wear_50 : decode cX5_wear 50 = .ok (.aload_n 0, 1) := by decide +kernel
theorem dX5_wear_51 : decode cX5_wear 51 = .ok (.getfield 32, 3) := by decide +kernel
theorem dX5_wear_54 : decode cX5_wear 54 = .ok (.getfield 106, 3) := by decide +kernel
theorem dX5_wear_57 : decode cX5_wear 57 = .ok (.iload_n 1, 1) := by decide +kernel
theorem dX5_wear_58 : decode cX5_wear 58 = .ok (.iload_n 2, 1) := by decide +kernel
theorem dX5_wear_59 : decode cX5_wear 59 = .ok (.invokevirtual 114, 3) := by decide +kernel
theorem dX5_wear_62 : decode cX5_wear 62 = .ok (.ireturn, 1) := by decide +kernel
set_option maxRecDepth 20000 in
theorem ggX5_deed_X5_isWithin : GoodIn wsX5_deed wsX5_isWithin := goodIn_r _ [7] (by decide +kernel) (by decide +kernel)
set_option maxRecDepth 20000 in
theorem gX5_deed_X5_isWithin : GoodIn wsX5_deed (va_wsS RX5 50 yX5_isWithin wsX5_isWithin) := goodIn_app (goodIn_of _ (by decide +kernel)) ggX5_deed_X5_isWithin
set_option maxRecDepth 20000 in
theorem ggX5_deed_X2_playPad : GoodIn wsX5_deed wsX2_playPad := goodIn_r _ [12, 13, 14, 15, 16, 17, 18, 19, 20, 21, 22, 23, 24, 25, 26, 27, 5, 6, 7, 28, 29, 30, 31, 32, 33, 34, 35, 36, 37, 38, 39, 11, 40, 41, 42, 43, 44, 45, 46, 47, 48, 49, 50, 51, 52, 53, 54, 55, 56, 57, 58, 59, 60, 61, 62, 63, 64, 65, 66, 67, 68, 69, 70, 71, 72, 73, 74, 75, 76, 77, 78, 79, 80, 81, 82, 83, 84, 85, 86, 87, 88, 89, 90, 91, 92, 93, 94, 95, 96, 97, 98, 99, 100, 101, 102, 103, 104, 105, 106, 107, 108, 109, 110, 111, 112, 113, 114, 115, 116, 117, 118, 119, 120, 121, 122, 123, 124, 125, 126, 127, 128, 129, 130, 131, 132, 133, 134, 135, 136, 137, 138, 139, 140, 141, 142, 143, 144, 145, 146, 147, 148, 149, 150, 151, 169, 170, 171, 172, 173, 174, 175, 176, 177, 178, 179, 180, 181, 182, 183, 184, 185, 186, 187, 188, 189, 190] (by decide +kernel) (by decide +kernel)
set_option maxRecDepth 20000 in
theorem gX5_deed_X2_playPad : GoodIn wsX5_deed (wsV RX5 93 RX2 yX2_playPad wsX2_playPad) := goodIn_app (goodIn_of _ (by decide +kernel)) ggX5_deed_X2_playPad
set_option maxRecDepth 20000 in
theorem ggX5_deed_X2_tellOfDeed : GoodIn wsX5_deed wsX2_tellOfDeed := goodIn_r _ [155, 123, 120, 121, 156, 157, 158, 11, 159, 42, 5, 6, 7, 171, 172, 173, 174, 175, 176, 177, 178, 179] (by decide +kernel) (by decide +kernel)
set_option maxRecDepth 20000 in
theorem gX5_deed_X2_tellOfDeed : GoodIn wsX5_deed (wsV RX5 117 RX2 yX2_tellOfDeed wsX2_tellOfDeed) := goodIn_app (goodIn_of _ (by decide +kernel)) ggX5_deed_X2_tellOfDeed
theorem dX5_deed_0 : decode cX5_deed 0 = .ok (.iload_n 2, 1) := by decide +kernel
theorem dX5_deed_1 : decode cX5_deed 1 = .ok (.iconst 0, 1) := by decide +kernel
theorem dX5_deed_2 : decode cX5_deed 2 = .ok (.iconst 2, 1) := by decide +kernel
theorem dX5_deed_3 : decode cX5_deed 3 = .ok (.invokestatic 50, 3) := by decide +kernel
theorem dX5_deed_6 : decode cX5_deed 6 = .ok (.ifCond .ne 6, 3) := by decide +kernel
theorem dX5_deed_9 : decode cX5_deed 9 = .ok (.bipush (-2), 2) := by decide +kernel
theorem dX5_deed_11 : decode cX5_deed 11 = .ok (.ireturn, 1) := by decide +kernel
theorem dX5_deed_12 : decode cX5_deed 12 = .ok (.aload_n 0, 1) := by decide +kernel
theorem dX5_deed_13 : decode cX5_deed 13 = .ok (.getfield 32, 3) := by decide +kernel
theorem dX5_deed_16 : decode cX5_deed 16 = .ok (.aload_n 0, 1) := by decide +kernel
theorem dX5_deed_17 : decode cX5_deed 17 = .ok (.getfield 10, 3) := by decide +kernel
theorem dX5_deed_20 : decode cX5_deed 20 = .ok (.aload_n 0, 1) := by decide +kernel
theorem dX5_deed_21 : decode cX5_deed 21 = .ok (.getfield 25, 3) := by decide +kernel
theorem dX5_deed_24 : decode cX5_deed 24 = .ok (.invokevirtual 93, 3) := by decide +kernel
theorem dX5_deed_27 : decode cX5_deed 27 = .ok (.istore_n 3, 1) := by decide +kernel
theorem dX5_deed_28 : decode cX5_deed 28 = .ok (.iload_n 3, 1) := by decide +kernel
theorem dX5_deed_29 : decode cX5_deed 29 = .ok (.ifCond .ge 7, 3) := by decide +kernel
theorem dX5_deed_32 : decode cX5_deed 32 = .ok (.iload_n 3, 1) := by decide +kernel
theorem dX5_deed_33 : decode cX5_deed 33 = .ok (.goto 12, 3) := by decide +kernel
theorem dX5_deed_36 : decode cX5_deed 36 = .ok (.aload_n 0, 1) := by decide +kernel
theorem dX5_deed_37 : decode cX5_deed 37 = .ok (.getfield 32, 3) := by decide +kernel
theorem dX5_deed_40 : decode cX5_deed 40 = .ok (.iload_n 1, 1) := by decide +kernel
theorem dX5_deed_41 : decode cX5_deed 41 = .ok (.iload_n 2, 1) := by decide +kernel
theorem dX5_deed_42 : decode cX5_deed 42 = .ok (.invokevirtual 117, 3) := by decide +kernel
theorem dX5_deed_45 : decode cX5_deed 45 = .ok (.ireturn, 1) := by decide +kernel
set_option maxRecDepth 20000 in
theorem ggX5_late_X5_isWithin : GoodIn wsX5_late wsX5_isWithin := goodIn_r _ [7] (by decide +kernel) (by decide +kernel)
set_option maxRecDepth 20000 in
theorem gX5_late_X5_isWithin : GoodIn wsX5_late (va_wsS RX5 50 yX5_isWithin wsX5_isWithin) := goodIn_app (goodIn_of _ (by decide +kernel)) ggX5_late_X5_isWithin
set_option maxRecDepth 20000 in
theorem ggX5_late_X2_playPad : GoodIn wsX5_late wsX2_playPad := goodIn_r _ [12, 13, 14, 15, 16, 17, 18, 19, 20, 21, 22, 23, 24, 25, 26, 27, 5, 6, 7, 28, 29, 30, 31, 32, 33, 34, 35, 36, 37, 38, 39, 11, 40, 41, 42, 43, 44, 45, 46, 47, 48, 49, 50, 51, 52, 53, 54, 55, 56, 57, 58, 59, 60, 61, 62, 63, 64, 65, 66, 67, 68, 69, 70, 71, 72, 73, 74, 75, 76, 77, 78, 79, 80, 81, 82, 83, 84, 85, 86, 87, 88, 89, 90, 91, 92, 93, 94, 95, 96, 97, 98, 99, 100, 101, 102, 103, 104, 105, 106, 107, 108, 109, 110, 111, 112, 113, 114, 115, 116, 117, 118, 119, 120, 121, 122, 123, 124, 125, 126, 127, 128, 129, 130, 131, 132, 133, 134, 135, 136, 137, 138, 139, 140, 141, 142, 143, 144, 145, 146, 147, 148, 149, 150, 151, 177, 178, 179, 180, 181, 182, 183, 184, 185, 186, 187, 188, 189, 190, 191, 192, 193, 194, 195, 196, 197, 198] (by decide +kernel) (by decide +kernel)
set_option maxRecDepth 20000 in
theorem gX5_late_X2_playPad : GoodIn wsX5_late (wsV RX5 93 RX2 yX2_playPad wsX2_playPad) := goodIn_app (goodIn_of _ (by decide +kernel)) ggX5_late_X2_playPad
set_option maxRecDepth 20000 in
theorem ggX5_late_X2_firstLate : GoodIn wsX5_late wsX2_firstLate := goodIn_r _ [155, 42, 156, 157, 158, 11, 159, 120, 121, 160, 161, 162, 163, 5, 6, 7, 179, 180, 181, 182, 183, 184, 185, 186, 187] (by decide +kernel) (by decide +kernel)
set_option maxRecDepth 20000 in
theorem gX5_late_X2_firstLate : GoodIn wsX5_late (wsV RX5 120 RX2 yX2_firstLate wsX2_firstLate) := goodIn_app (goodIn_of _ (by decide +kernel)) ggX5_late_X2_firstLate
set_option maxRecDepth 20000 in
theorem ggX5_late_X2_countLate : GoodIn wsX5_late wsX2_countLate := goodIn_r _ [167, 42, 156, 157, 158, 11, 159, 120, 121, 160, 161, 162, 163, 5, 6, 7, 179, 180, 181, 182, 183, 184, 185, 186, 187] (by decide +kernel) (by decide +kernel)
set_option maxRecDepth 20000 in
theorem gX5_late_X2_countLate : GoodIn wsX5_late (wsV RX5 123 RX2 yX2_countLate wsX2_countLate) := goodIn_app (goodIn_of _ (by decide +kernel)) ggX5_late_X2_countLate
theorem dX5_late_0 : decode cX5_late 0 = .ok (.iload_n 1, 1) := by decide +kernel
theorem dX5_late_1 : decode cX5_late 1 = .ok (.iconst 0, 1) := by decide +kernel
theorem dX5_late_2 : decode cX5_late 2 = .ok (.iconst 1, 1) := by decide +kernel
theorem dX5_late_3 : decode cX5_late 3 = .ok (.invokestatic 50, 3) := by decide +kernel
theorem dX5_late_6 : decode cX5_late 6 = .ok (.ifCond .ne 6, 3) := by decide +kernel
theorem dX5_late_9 : decode cX5_late 9 = .ok (.bipush (-2), 2) := by decide +kernel
theorem dX5_late_11 : decode cX5_late 11 = .ok (.ireturn, 1) := by decide +kernel
theorem dX5_late_12 : decode cX5_late 12 = .ok (.aload_n 0, 1) := by decide +kernel
theorem dX5_late_13 : decode cX5_late 13 = .ok (.getfield 32, 3) := by decide +kernel
theorem dX5_late_16 : decode cX5_late 16 = .ok (.aload_n 0, 1) := by decide +kernel
theorem dX5_late_17 : decode cX5_late 17 = .ok (.getfield 10, 3) := by decide +kernel
theorem dX5_late_20 : decode cX5_late 20 = .ok (.aload_n 0, 1) := by decide +kernel
theorem dX5_late_21 : decode cX5_late 21 = .ok (.getfield 25, 3) := by decide +kernel
theorem dX5_late_24 : decode cX5_late 24 = .ok (.invokevirtual 93, 3) := by decide +kernel
theorem dX5_late_27 : decode cX5_late 27 = .ok (.istore_n 2, 1) := by decide +kernel
theorem dX5_late_28 : decode cX5_late 28 = .ok (.iload_n 2, 1) := by decide +kernel
theorem dX5_late_29 : decode cX5_late 29 = .ok (.ifCond .ge 5, 3) := by decide +kernel
theorem dX5_late_32 : decode cX5_late 32 = .ok (.iload_n 2, 1) := by decide +kernel
theorem dX5_late_33 : decode cX5_late 33 = .ok (.ireturn, 1) := by decide +kernel
theorem dX5_late_34 : decode cX5_late 34 = .ok (.iload_n 1, 1) := by decide +kernel
theorem dX5_late_35 : decode cX5_late 35 = .ok (.ifCond .ne 13, 3) := by decide +kernel
theorem dX5_late_38 : decode cX5_late 38 = .ok (.aload_n 0, 1) := by decide +kernel
theorem dX5_late_39 : decode cX5_late 39 = .ok (.getfield 32, 3) := by decide +kernel
theorem dX5_late_42 : decode cX5_late 42 = .ok (.invokevirtual 120, 3) := by decide +kernel
theorem dX5_late_45 : decode cX5_late 45 = .ok (.goto 10, 3) := by decide +kernel
theorem dX5_late_48 : decode cX5_late 48 = .ok (.aload_n 0, 1) := by decide +kernel
theorem dX5_late_49 : decode cX5_late 49 = .ok (.getfield 32, 3) := by decide +kernel
theorem dX5_late_52 : decode cX5_late 52 = .ok (.invokevirtual 123, 3) := by decide +kernel
theorem dX5_late_55 : decode cX5_late 55 = .ok (.ireturn, 1) := by decide +kernel
set_option maxRecDepth 20000 in
theorem ggX5_done_X2_playPad : GoodIn wsX5_done wsX2_playPad := goodIn_r _ [11, 12, 13, 14, 15, 16, 17, 18, 19, 20, 21, 22, 23, 24, 25, 26, 27, 28, 29, 30, 31, 32, 33, 34, 35, 36, 37, 38, 39, 40, 41, 10, 42, 43, 44, 45, 46, 47, 48, 49, 50, 51, 52, 53, 54, 55, 56, 57, 58, 59, 60, 61, 62, 63, 64, 65, 66, 67, 68, 69, 70, 71, 72, 73, 74, 75, 76, 77, 78, 79, 80, 81, 82, 83, 84, 85, 86, 87, 88, 89, 90, 91, 92, 93, 94, 95, 96, 97, 98, 99, 100, 101, 102, 103, 104, 105, 106, 107, 108, 109, 110, 111, 112, 113, 114, 115, 116, 117, 118, 119, 120, 121, 122, 123, 124, 125, 126, 127, 128, 129, 130, 131, 132, 133, 134, 135, 136, 137, 138, 139, 140, 141, 142, 143, 144, 145, 146, 147, 148, 149, 150, 151, 152, 153, 173, 174, 164, 165, 166, 167, 168, 169, 170, 171, 172, 175, 176, 177, 178, 179, 180, 181, 182, 183, 184, 185] (by decide +kernel) (by decide +kernel)
set_option maxRecDepth 20000 in
theorem gX5_done_X2_playPad : GoodIn wsX5_done (wsV RX5 93 RX2 yX2_playPad wsX2_playPad) := goodIn_app (goodIn_of _ (by decide +kernel)) ggX5_done_X2_playPad
set_option maxRecDepth 20000 in
theorem ggX5_done_X1_copyFrom : GoodIn wsX5_done wsX1_copyFrom := goodIn_r _ [49, 50, 51, 52, 53, 54, 55, 56, 57, 58, 59, 60, 61, 62, 63, 64, 175, 176, 177, 178, 179, 180, 181, 182, 183, 184, 185] (by decide +kernel) (by decide +kernel)
set_option maxRecDepth 20000 in
theorem gX5_done_X1_copyFrom : GoodIn wsX5_done (wsV RX5 126 RX1 yX1_copyFrom wsX1_copyFrom) := goodIn_app (goodIn_of _ (by decide +kernel)) ggX5_done_X1_copyFrom
theorem dX5_done_0 : decode cX5_done 0 = .ok (.aload_n 0, 1) := by decide +kernel
theorem dX5_done_1 : decode cX5_done 1 = .ok (.getfield 32, 3) := by decide +kernel
theorem dX5_done_4 : decode cX5_done 4 = .ok (.aload_n 0, 1) := by decide +kernel
theorem dX5_done_5 : decode cX5_done 5 = .ok (.getfield 10, 3) := by decide +kernel
theorem dX5_done_8 : decode cX5_done 8 = .ok (.aload_n 0, 1) := by decide +kernel
theorem dX5_done_9 : decode cX5_done 9 = .ok (.getfield 25, 3) := by decide +kernel
theorem dX5_done_12 : decode cX5_done 12 = .ok (.invokevirtual 93, 3) := by decide +kernel
theorem dX5_done_15 : decode cX5_done 15 = .ok (.istore_n 1, 1) := by decide +kernel
theorem dX5_done_16 : decode cX5_done 16 = .ok (.iload_n 1, 1) := by decide +kernel
theorem dX5_done_17 : decode cX5_done 17 = .ok (.ifCond .ge 5, 3) := by decide +kernel
theorem dX5_done_20 : decode cX5_done 20 = .ok (.iload_n 1, 1) := by decide +kernel
theorem dX5_done_21 : decode cX5_done 21 = .ok (.ireturn, 1) := by decide +kernel
theorem dX5_done_22 : decode cX5_done 22 = .ok (.aload_n 0, 1) := by decide +kernel
theorem dX5_done_23 : decode cX5_done 23 = .ok (.getfield 10, 3) := by decide +kernel
theorem dX5_done_26 : decode cX5_done 26 = .ok (.aload_n 0, 1) := by decide +kernel
theorem dX5_done_27 : decode cX5_done 27 = .ok (.getfield 32, 3) := by decide +kernel
theorem dX5_done_30 : decode cX5_done 30 = .ok (.getfield 106, 3) := by decide +kernel
theorem dX5_done_33 : decode cX5_done 33 = .ok (.invokevirtual 126, 3) := by decide +kernel
theorem dX5_done_36 : decode cX5_done 36 = .ok (.aload_n 0, 1) := by decide +kernel
theorem dX5_done_37 : decode cX5_done 37 = .ok (.getfield 25, 3) := by decide +kernel
theorem dX5_done_40 : decode cX5_done 40 = .ok (.iconst 0, 1) := by decide +kernel
theorem dX5_done_41 : decode cX5_done 41 = .ok (.putfield 86, 3) := by decide +kernel
theorem dX5_done_44 : decode cX5_done 44 = .ok (.aload_n 0, 1) := by decide +kernel
theorem dX5_done_45 : decode cX5_done 45 = .ok (.getfield 32, 3) := by decide +kernel
theorem dX5_done_48 : decode cX5_done 48 = .ok (.getfield 130, 3) := by decide +kernel
theorem dX5_done_51 : decode cX5_done 51 = .ok (.ireturn, 1) := by decide +kernel
set_option maxRecDepth 20000 in
theorem ggX5_proper_X1_isProper : GoodIn wsX5_proper wsX1_isProper := goodIn_r _ [6, 7, 8, 9, 10, 11, 12, 5, 13, 14, 24, 25, 26, 27, 28, 29, 30, 31, 32, 33, 34] (by decide +kernel) (by decide +kernel)
set_option maxRecDepth 20000 in
theorem gX5_proper_X1_isProper : GoodIn wsX5_proper (wsV RX5 133 RX1 yX1_isProper wsX1_isProper) := goodIn_app (goodIn_of _ (by decide +kernel)) ggX5_proper_X1_isProper
theorem dX5_proper_0 : decode cX5_proper 0 = .ok (.iconst 0, 1) := by decide +kernel
theorem dX5_proper_1 : decode cX5_proper 1 = .ok (.istore_n 1, 1) := by decide +kernel
theorem dX5_proper_2 : decode cX5_proper 2 = .ok (.iconst 0, 1) := by decide +kernel
theorem dX5_proper_3 : decode cX5_proper 3 = .ok (.istore_n 2, 1) := by decide +kernel
theorem dX5_proper_4 : decode cX5_proper 4 = .ok (.iload_n 2, 1) := by decide +kernel
theorem dX5_proper_5 : decode cX5_proper 5 = .ok (.bipush 6, 2) := by decide +kernel
theorem dX5_proper_7 : decode cX5_proper 7 = .ok (.if_icmp .ge 26, 3) := by decide +kernel
theorem dX5_proper_10 : decode cX5_proper 10 = .ok (.aload_n 0, 1) := by decide +kernel
theorem dX5_proper_11 : decode cX5_proper 11 = .ok (.getfield 10, 3) := by decide +kernel
theorem dX5_proper_14 : decode cX5_proper 14 = .ok (.iload_n 2, 1) := by decide +kernel
theorem dX5_proper_15 : decode cX5_proper 15 = .ok (.invokevirtual 133, 3) := by decide +kernel
theorem dX5_proper_18 : decode cX5_proper 18 = .ok (.ifCond .eq 9, 3) := by decide +kernel
theorem dX5_proper_21 : decode cX5_proper 21 = .ok (.iload_n 1, 1) := by decide +kernel
theorem dX5_proper_22 : decode cX5_proper 22 = .ok (.iconst 1, 1) := by decide +kernel
theorem dX5_proper_23 : decode cX5_proper 23 = .ok (.iload_n 2, 1) := by decide +kernel
theorem dX5_proper_24 : decode cX5_proper 24 = .ok (.ishl, 1) := by decide +kernel
theorem dX5_proper_25 : decode cX5_proper 25 = .ok (.ior, 1) := by decide +kernel
theorem dX5_proper_26 : decode cX5_proper 26 = .ok (.istore_n 1, 1) := by decide +kernel
theorem dX5_proper_27 : decode cX5_proper 27 = .ok (.iinc 2 1, 3) := by decide +kernel
theorem dX5_proper_30 : decode cX5_proper 30 = .ok (.goto (-26), 3) := by decide +kernel
theorem dX5_proper_33 : decode cX5_proper 33 = .ok (.iload_n 1, 1) := by decide +kernel
theorem dX5_proper_34 : decode cX5_proper 34 = .ok (.ireturn, 1) := by decide +kernel
set_option maxRecDepth 20000 in
theorem ggX5_can_X5_isWithin : GoodIn wsX5_can wsX5_isWithin := goodIn_r _ [10] (by decide +kernel) (by decide +kernel)
set_option maxRecDepth 20000 in
theorem gX5_can_X5_isWithin : GoodIn wsX5_can (va_wsS RX5 50 yX5_isWithin wsX5_isWithin) := goodIn_app (goodIn_of _ (by decide +kernel)) ggX5_can_X5_isWithin
set_option maxRecDepth 20000 in
theorem ggX5_can_X1_ownersOf : GoodIn wsX5_can wsX1_ownersOf := goodIn_r _ [15, 16, 17, 18, 14, 19, 20, 37, 38, 39, 40, 41, 42, 43, 44, 45, 46, 47] (by decide +kernel) (by decide +kernel)
set_option maxRecDepth 20000 in
theorem gX5_can_X1_ownersOf : GoodIn wsX5_can (wsV RX5 136 RX1 yX1_ownersOf wsX1_ownersOf) := goodIn_app (goodIn_of _ (by decide +kernel)) ggX5_can_X1_ownersOf
set_option maxRecDepth 20000 in
theorem ggX5_can_J6_bitCount_0f7a4 : GoodIn wsX5_can wsJ6_bitCount_0f7a4 := goodIn_r _ [24, 25, 26, 27] (by decide +kernel) (by decide +kernel)
set_option maxRecDepth 20000 in
theorem gX5_can_J6_bitCount_0f7a4 : GoodIn wsX5_can (va_wsS RX5 63 yJ6_bitCount_0f7a4 wsJ6_bitCount_0f7a4) := goodIn_app (goodIn_of _ (by decide +kernel)) ggX5_can_J6_bitCount_0f7a4
theorem dX5_can_0 : decode cX5_can 0 = .ok (.iload_n 2, 1) := by decide +kernel
theorem dX5_can_1 : decode cX5_can 1 = .ok (.aload_n 0, 1) := by decide +kernel
theorem dX5_can_2 : decode cX5_can 2 = .ok (.getfield 10, 3) := by decide +kernel
theorem dX5_can_5 : decode cX5_can 5 = .ok (.getfield 59, 3) := by decide +kernel
theorem dX5_can_8 : decode cX5_can 8 = .ok (.iconst (-1), 1) := by decide +kernel
theorem dX5_can_9 : decode cX5_can 9 = .ok (.ixor, 1) := by decide +kernel
theorem dX5_can_10 : decode cX5_can 10 = .ok (.iand, 1) := by decide +kernel
theorem dX5_can_11 : decode cX5_can 11 = .ok (.ifCond .eq 5, 3) := by decide +kernel
theorem dX5_can_14 : decode cX5_can 14 = .ok (.iconst (-1), 1) := by decide +kernel
theorem dX5_can_15 : decode cX5_can 15 = .ok (.ireturn, 1) := by decide +kernel
theorem dX5_can_16 : decode cX5_can 16 = .ok (.iload_n 1, 1) := by decide +kernel
theorem dX5_can_17 : decode cX5_can 17 = .ok (.iconst 0, 1) := by decide +kernel
theorem dX5_can_18 : decode cX5_can 18 = .ok (.bipush 23, 2) := by decide +kernel
theorem dX5_can_20 : decode cX5_can 20 = .ok (.invokestatic 50, 3) := by decide +kernel
theorem dX5_can_23 : decode cX5_can 23 = .ok (.ifCond .eq 12, 3) := by decide +kernel
theorem dX5_can_26 : decode cX5_can 26 = .ok (.iload_n 3, 1) := by decide +kernel
theorem dX5_can_27 : decode cX5_can 27 = .ok (.iconst 0, 1) := by decide +kernel
theorem dX5_can_28 : decode cX5_can 28 = .ok (.iconst 1, 1) := by decide +kernel
theorem dX5_can_29 : decode cX5_can 29 = .ok (.invokestatic 50, 3) := by decide +kernel
theorem dX5_can_32 : decode cX5_can 32 = .ok (.ifCond .ne 6, 3) := by decide +kernel
theorem dX5_can_35 : decode cX5_can 35 = .ok (.bipush (-2), 2) := by decide +kernel
theorem dX5_can_37 : decode cX5_can 37 = .ok (.ireturn, 1) := by decide +kernel
theorem dX5_can_38 : decode cX5_can 38 = .ok (.aload_n 0, 1) := by decide +kernel
theorem dX5_can_39 : decode cX5_can 39 = .ok (.getfield 10, 3) := by decide +kernel
theorem dX5_can_42 : decode cX5_can 42 = .ok (.iload_n 1, 1) := by decide +kernel
theorem dX5_can_43 : decode cX5_can 43 = .ok (.invokevirtual 136, 3) := by decide +kernel
theorem dX5_can_46 : decode cX5_can 46 = .ok (.istore 4, 2) := by decide +kernel
theorem dX5_can_48 : decode cX5_can 48 = .ok (.iload_n 2, 1) := by decide +kernel
theorem dX5_can_49 : decode cX5_can 49 = .ok (.invokestatic 63, 3) := by decide +kernel
theorem dX5_can_52 : decode cX5_can 52 = .ok (.iload 4, 2) := by decide +kernel
theorem dX5_can_54 : decode cX5_can 54 = .ok (.invokestatic 63, 3) := by decide +kernel
theorem dX5_can_57 : decode cX5_can 57 = .ok (.invokestatic 139, 3) := by decide +kernel
theorem dX5_can_60 : decode cX5_can 60 = .ok (.istore 5, 2) := by decide +kernel
theorem dX5_can_62 : decode cX5_can 62 = .ok (.iload_n 3, 1) := by decide +kernel
theorem dX5_can_63 : decode cX5_can 63 = .ok (.ifCond .ne 8, 3) := by decide +kernel
theorem dX5_can_66 : decode cX5_can 66 = .ok (.iload 5, 2) := by decide +kernel
theorem dX5_can_68 : decode cX5_can 68 = .ok (.goto 13, 3) := by decide +kernel
theorem dX5_can_71 : decode cX5_can 71 = .ok (.iload 5, 2) := by decide +kernel
theorem dX5_can_73 : decode cX5_can 73 = .ok (.iload_n 2, 1) := by decide +kernel
theorem dX5_can_74 : decode cX5_can 74 = .ok (.iload 4, 2) := by decide +kernel
theorem dX5_can_76 : decode cX5_can 76 = .ok (.iand, 1) := by decide +kernel
theorem dX5_can_77 : decode cX5_can 77 = .ok (.invokestatic 63, 3) := by decide +kernel
theorem dX5_can_80 : decode cX5_can 80 = .ok (.isub, 1) := by decide +kernel
theorem dX5_can_81 : decode cX5_can 81 = .ok (.ireturn, 1) := by decide +kernel
set_option maxRecDepth 20000 in
theorem ggX5_match_X5_isWithin : GoodIn wsX5_match wsX5_isWithin := goodIn_r _ [7] (by decide +kernel) (by decide +kernel)
set_option maxRecDepth 20000 in
theorem gX5_match_X5_isWithin : GoodIn wsX5_match (va_wsS RX5 50 yX5_isWithin wsX5_isWithin) := goodIn_app (goodIn_of _ (by decide +kernel)) ggX5_match_X5_isWithin
set_option maxRecDepth 20000 in
theorem ggX5_match_X5_hasHour : GoodIn wsX5_match wsX5_hasHour := goodIn_r _ [10, 4, 5, 6, 7] (by decide +kernel) (by decide +kernel)
set_option maxRecDepth 20000 in
theorem gX5_match_X5_hasHour : GoodIn wsX5_match (va_wsS RX5 144 yX5_hasHour wsX5_hasHour) := goodIn_app (goodIn_of _ (by decide +kernel)) ggX5_match_X5_hasHour
set_option maxRecDepth 20000 in
theorem ggX5_match_X3_begin : GoodIn wsX5_match wsX3_begin := goodIn_r _ [15, 16, 17, 18, 19, 20, 21, 22, 23, 24, 25, 9, 6, 10, 4, 5, 7, 26, 27, 28, 29, 30, 31, 32, 33, 34, 35, 36, 37, 38, 14, 39, 70, 71, 72, 73, 74, 75, 76, 77, 78, 79, 80, 81, 82, 83] (by decide +kernel) (by decide +kernel)
set_option maxRecDepth 20000 in
theorem gX5_match_X3_begin : GoodIn wsX5_match (wsV RX5 148 RX3 yX3_begin wsX3_begin) := goodIn_app (goodIn_of _ (by decide +kernel)) ggX5_match_X3_begin
set_option maxRecDepth 20000 in
theorem ggX5_match_X3_most : GoodIn wsX5_match wsX3_most := goodIn_r _ [43, 18, 44, 45, 46, 47, 16, 70, 71, 72] (by decide +kernel) (by decide +kernel)
set_option maxRecDepth 20000 in
theorem gX5_match_X3_most : GoodIn wsX5_match (wsV RX5 152 RX3 yX3_most wsX3_most) := goodIn_app (goodIn_of _ (by decide +kernel)) ggX5_match_X3_most
set_option maxRecDepth 20000 in
theorem ggX5_match_X3_whoDoes : GoodIn wsX5_match wsX3_whoDoes := goodIn_r _ [51, 52, 41, 42, 14, 43, 18, 44, 45, 46, 47, 16, 9, 6, 10, 4, 5, 7, 26, 27, 28, 29, 30, 31, 32, 33, 34, 35, 36, 37, 38, 39, 53, 54, 55, 56, 17, 57, 58, 59, 60, 70, 71, 72, 73, 74, 75, 76, 77, 78, 79, 80, 81, 82, 83] (by decide +kernel) (by decide +kernel)
set_option maxRecDepth 20000 in
theorem gX5_match_X3_whoDoes : GoodIn wsX5_match (wsV RX5 155 RX3 yX3_whoDoes wsX3_whoDoes) := goodIn_app (goodIn_of _ (by decide +kernel)) ggX5_match_X3_whoDoes
theorem dX5_match_0 : decode cX5_match 0 = .ok (.iload_n 1, 1) := by decide +kernel
theorem dX5_match_1 : decode cX5_match 1 = .ok (.iconst 0, 1) := by decide +kernel
theorem dX5_match_2 : decode cX5_match 2 = .ok (.ldc 54, 2) := by decide +kernel
theorem dX5_match_4 : decode cX5_match 4 = .ok (.invokestatic 50, 3) := by decide +kernel
theorem dX5_match_7 : decode cX5_match 7 = .ok (.ifCond .eq 13, 3) := by decide +kernel
theorem dX5_match_10 : decode cX5_match 10 = .ok (.iload_n 2, 1) := by decide +kernel
theorem dX5_match_11 : decode cX5_match 11 = .ok (.iconst 1, 1) := by decide +kernel
theorem dX5_match_12 : decode cX5_match 12 = .ok (.bipush 24, 2) := by decide +kernel
theorem dX5_match_14 : decode cX5_match 14 = .ok (.invokestatic 50, 3) := by decide +kernel
theorem dX5_match_17 : decode cX5_match 17 = .ok (.ifCond .ne 6, 3) := by decide +kernel
theorem dX5_match_20 : decode cX5_match 20 = .ok (.bipush (-2), 2) := by decide +kernel
theorem dX5_match_22 : decode cX5_match 22 = .ok (.ireturn, 1) := by decide +kernel
theorem dX5_match_23 : decode cX5_match 23 = .ok (.iload_n 3, 1) := by decide +kernel
theorem dX5_match_24 : decode cX5_match 24 = .ok (.iconst (-1), 1) := by decide +kernel
theorem dX5_match_25 : decode cX5_match 25 = .ok (.if_icmp .eq 13, 3) := by decide +kernel
theorem dX5_match_28 : decode cX5_match 28 = .ok (.iload_n 1, 1) := by decide +kernel
theorem dX5_match_29 : decode cX5_match 29 = .ok (.iload_n 3, 1) := by decide +kernel
theorem dX5_match_30 : decode cX5_match 30 = .ok (.invokestatic 144, 3) := by decide +kernel
theorem dX5_match_33 : decode cX5_match 33 = .ok (.ifCond .ne 5, 3) := by decide +kernel
theorem dX5_match_36 : decode cX5_match 36 = .ok (.iconst (-1), 1) := by decide +kernel
theorem dX5_match_37 : decode cX5_match 37 = .ok (.ireturn, 1) := by decide +kernel
theorem dX5_match_38 : decode cX5_match 38 = .ok (.aload_n 0, 1) := by decide +kernel
theorem dX5_match_39 : decode cX5_match 39 = .ok (.getfield 39, 3) := by decide +kernel
theorem dX5_match_42 : decode cX5_match 42 = .ok (.aload_n 0, 1) := by decide +kernel
theorem dX5_match_43 : decode cX5_match 43 = .ok (.getfield 10, 3) := by decide +kernel
theorem dX5_match_46 : decode cX5_match 46 = .ok (.iload_n 1, 1) := by decide +kernel
theorem dX5_match_47 : decode cX5_match 47 = .ok (.iload_n 2, 1) := by decide +kernel
theorem dX5_match_48 : decode cX5_match 48 = .ok (.invokevirtual 148, 3) := by decide +kernel
theorem dX5_match_51 : decode cX5_match 51 = .ok (.iload_n 3, 1) := by decide +kernel
theorem dX5_match_52 : decode cX5_match 52 = .ok (.iconst (-1), 1) := by decide +kernel
theorem dX5_match_53 : decode cX5_match 53 = .ok (.if_icmp .ne 13, 3) := by decide +kernel
theorem dX5_match_56 : decode cX5_match 56 = .ok (.aload_n 0, 1) := by decide +kernel
theorem dX5_match_57 : decode cX5_match 57 = .ok (.getfield 39, 3) := by decide +kernel
theorem dX5_match_60 : decode cX5_match 60 = .ok (.invokevirtual 152, 3) := by decide +kernel
theorem dX5_match_63 : decode cX5_match 63 = .ok (.goto 16, 3) := by decide +kernel
theorem dX5_match_66 : decode cX5_match 66 = .ok (.aload_n 0, 1) := by decide +kernel
theorem dX5_match_67 : decode cX5_match 67 = .ok (.getfield 39, 3) := by decide +kernel
theorem dX5_match_70 : decode cX5_match 70 = .ok (.aload_n 0, 1) := by decide +kernel
theorem dX5_match_71 : decode cX5_match 71 = .ok (.getfield 10, 3) := by decide +kernel
theorem dX5_match_74 : decode cX5_match 74 = .ok (.iload_n 1, 1) := by decide +kernel
theorem dX5_match_75 : decode cX5_match 75 = .ok (.iload_n 3, 1) := by decide +kernel
theorem dX5_match_76 : decode cX5_match 76 = .ok (.invokevirtual 155, 3) := by decide +kernel
theorem dX5_match_79 : decode cX5_match 79 = .ok (.ireturn, 1) := by decide +kernel
set_option maxRecDepth 20000 in
theorem ggX5_all_X5_isWithin : GoodIn wsX5_all wsX5_isWithin := goodIn_r _ [6] (by decide +kernel) (by decide +kernel)
set_option maxRecDepth 20000 in
theorem gX5_all_X5_isWithin : GoodIn wsX5_all (va_wsS RX5 50 yX5_isWithin wsX5_isWithin) := goodIn_app (goodIn_of _ (by decide +kernel)) ggX5_all_X5_isWithin
set_option maxRecDepth 20000 in
theorem ggX5_all_J6_bitCount_0f7a4 : GoodIn wsX5_all wsJ6_bitCount_0f7a4 := goodIn_r _ [10, 11, 12, 13] (by decide +kernel) (by decide +kernel)
set_option maxRecDepth 20000 in
theorem gX5_all_J6_bitCount_0f7a4 : GoodIn wsX5_all (va_wsS RX5 63 yJ6_bitCount_0f7a4 wsJ6_bitCount_0f7a4) := goodIn_app (goodIn_of _ (by decide +kernel)) ggX5_all_J6_bitCount_0f7a4
set_option maxRecDepth 20000 in
theorem ggX5_all_X1_pairsOfSet : GoodIn wsX5_all wsX1_pairsOfSet := goodIn_r _ [18, 19, 20, 21, 17, 22, 23, 24, 25, 26, 27, 28, 38, 39, 40, 41, 42, 43, 44, 45, 46, 47, 48] (by decide +kernel) (by decide +kernel)
set_option maxRecDepth 20000 in
theorem gX5_all_X1_pairsOfSet : GoodIn wsX5_all (wsV RX5 159 RX1 yX1_pairsOfSet wsX1_pairsOfSet) := goodIn_app (goodIn_of _ (by decide +kernel)) ggX5_all_X1_pairsOfSet
theorem dX5_all_0 : decode cX5_all 0 = .ok (.iload_n 1, 1) := by decide +kernel
theorem dX5_all_1 : decode cX5_all 1 = .ok (.iconst 0, 1) := by decide +kernel
theorem dX5_all_2 : decode cX5_all 2 = .ok (.ldc 54, 2) := by decide +kernel
theorem dX5_all_4 : decode cX5_all 4 = .ok (.invokestatic 50, 3) := by decide +kernel
theorem dX5_all_7 : decode cX5_all 7 = .ok (.ifCond .eq 12, 3) := by decide +kernel
theorem dX5_all_10 : decode cX5_all 10 = .ok (.iload_n 2, 1) := by decide +kernel
theorem dX5_all_11 : decode cX5_all 11 = .ok (.iconst 0, 1) := by decide +kernel
theorem dX5_all_12 : decode cX5_all 12 = .ok (.iconst 1, 1) := by decide +kernel
theorem dX5_all_13 : decode cX5_all 13 = .ok (.invokestatic 50, 3) := by decide +kernel
theorem dX5_all_16 : decode cX5_all 16 = .ok (.ifCond .ne 6, 3) := by decide +kernel
theorem dX5_all_19 : decode cX5_all 19 = .ok (.bipush (-2), 2) := by decide +kernel
theorem dX5_all_21 : decode cX5_all 21 = .ok (.ireturn, 1) := by decide +kernel
theorem dX5_all_22 : decode cX5_all 22 = .ok (.bipush (-6), 2) := by decide +kernel
theorem dX5_all_24 : decode cX5_all 24 = .ok (.istore_n 3, 1) := by decide +kernel
theorem dX5_all_25 : decode cX5_all 25 = .ok (.bipush 7, 2) := by decide +kernel
theorem dX5_all_27 : decode cX5_all 27 = .ok (.istore 4, 2) := by decide +kernel
theorem dX5_all_29 : decode cX5_all 29 = .ok (.iconst 0, 1) := by decide +kernel
theorem dX5_all_30 : decode cX5_all 30 = .ok (.istore 5, 2) := by decide +kernel
theorem dX5_all_32 : decode cX5_all 32 = .ok (.iload 5, 2) := by decide +kernel
theorem dX5_all_34 : decode cX5_all 34 = .ok (.bipush 64, 2) := by decide +kernel
theorem dX5_all_36 : decode cX5_all 36 = .ok (.if_icmp .ge 46, 3) := by decide +kernel
theorem dX5_all_39 : decode cX5_all 39 = .ok (.iload 5, 2) := by decide +kernel
theorem dX5_all_41 : decode cX5_all 41 = .ok (.invokestatic 63, 3) := by decide +kernel
theorem dX5_all_44 : decode cX5_all 44 = .ok (.istore 6, 2) := by decide +kernel
theorem dX5_all_46 : decode cX5_all 46 = .ok (.iload 6, 2) := by decide +kernel
theorem dX5_all_48 : decode cX5_all 48 = .ok (.iload 4, 2) := by decide +kernel
theorem dX5_all_50 : decode cX5_all 50 = .ok (.if_icmp .ge 26, 3) := by decide +kernel
theorem dX5_all_53 : decode cX5_all 53 = .ok (.iload_n 1, 1) := by decide +kernel
theorem dX5_all_54 : decode cX5_all 54 = .ok (.aload_n 0, 1) := by decide +kernel
theorem dX5_all_55 : decode cX5_all 55 = .ok (.getfield 10, 3) := by decide +kernel
theorem dX5_all_58 : decode cX5_all 58 = .ok (.iload 5, 2) := by decide +kernel
theorem dX5_all_60 : decode cX5_all 60 = .ok (.invokevirtual 159, 3) := by decide +kernel
theorem dX5_all_63 : decode cX5_all 63 = .ok (.iconst (-1), 1) := by decide +kernel
theorem dX5_all_64 : decode cX5_all 64 = .ok (.ixor, 1) := by decide +kernel
theorem dX5_all_65 : decode cX5_all 65 = .ok (.iand, 1) := by decide +kernel
theorem dX5_all_66 : decode cX5_all 66 = .ok (.ifCond .ne 10, 3) := by decide +kernel
theorem dX5_all_69 : decode cX5_all 69 = .ok (.iload 5, 2) := by decide +kernel
theorem dX5_all_71 : decode cX5_all 71 = .ok (.istore_n 3, 1) := by decide +kernel
theorem dX5_all_72 : decode cX5_all 72 = .ok (.iload 6, 2) := by decide +kernel
theorem dX5_all_74 : decode cX5_all 74 = .ok (.istore 4, 2) := by decide +kernel
theorem dX5_all_76 : decode cX5_all 76 = .ok (.iinc 5 1, 3) := by decide +kernel
theorem dX5_all_79 : decode cX5_all 79 = .ok (.goto (-47), 3) := by decide +kernel
theorem dX5_all_82 : decode cX5_all 82 = .ok (.iload_n 3, 1) := by decide +kernel
theorem dX5_all_83 : decode cX5_all 83 = .ok (.bipush (-6), 2) := by decide +kernel
theorem dX5_all_85 : decode cX5_all 85 = .ok (.if_icmp .eq 8, 3) := by decide +kernel
theorem dX5_all_88 : decode cX5_all 88 = .ok (.iload_n 2, 1) := by decide +kernel
theorem dX5_all_89 : decode cX5_all 89 = .ok (.iconst 1, 1) := by decide +kernel
theorem dX5_all_90 : decode cX5_all 90 = .ok (.if_icmp .ne 7, 3) := by decide +kernel
theorem dX5_all_93 : decode cX5_all 93 = .ok (.iload_n 3, 1) := by decide +kernel
theorem dX5_all_94 : decode cX5_all 94 = .ok (.goto 5, 3) := by decide +kernel
theorem dX5_all_97 : decode cX5_all 97 = .ok (.iload 4, 2) := by decide +kernel
theorem dX5_all_99 : decode cX5_all 99 = .ok (.ireturn, 1) := by decide +kernel
set_option maxRecDepth 20000 in
theorem ggX5_mended_X5_isWithin : GoodIn wsX5_mended wsX5_isWithin := goodIn_r _ [8] (by decide +kernel) (by decide +kernel)
set_option maxRecDepth 20000 in
theorem gX5_mended_X5_isWithin : GoodIn wsX5_mended (va_wsS RX5 50 yX5_isWithin wsX5_isWithin) := goodIn_app (goodIn_of _ (by decide +kernel)) ggX5_mended_X5_isWithin
set_option maxRecDepth 20000 in
theorem ggX5_mended_X2_playPad : GoodIn wsX5_mended wsX2_playPad := goodIn_r _ [13, 14, 15, 16, 17, 18, 19, 20, 21, 22, 23, 24, 25, 26, 27, 28, 6, 7, 8, 29, 30, 31, 32, 33, 34, 35, 36, 37, 38, 39, 40, 12, 41, 42, 43, 44, 45, 46, 47, 48, 49, 50, 51, 52, 53, 54, 55, 56, 57, 58, 59, 60, 61, 62, 63, 64, 65, 66, 67, 68, 69, 70, 71, 72, 73, 74, 75, 76, 77, 78, 79, 80, 81, 82, 83, 84, 85, 86, 87, 88, 89, 90, 91, 92, 93, 94, 95, 96, 97, 98, 99, 100, 101, 102, 103, 104, 105, 106, 107, 108, 109, 110, 111, 112, 113, 114, 115, 116, 117, 118, 119, 120, 121, 122, 123, 124, 125, 126, 127, 128, 129, 130, 131, 132, 133, 134, 135, 136, 137, 138, 139, 140, 141, 142, 143, 144, 145, 146, 147, 148, 149, 150, 151, 152, 192, 193, 183, 184, 185, 186, 187, 188, 189, 190, 191, 194, 195, 196, 197, 198, 199, 200, 201, 202, 203, 204] (by decide +kernel) (by decide +kernel)
set_option maxRecDepth 20000 in
theorem gX5_mended_X2_playPad : GoodIn wsX5_mended (wsV RX5 93 RX2 yX2_playPad wsX2_playPad) := goodIn_app (goodIn_of _ (by decide +kernel)) ggX5_mended_X2_playPad
set_option maxRecDepth 20000 in
theorem ggX5_mended_X2_mostKept : GoodIn wsX5_mended wsX2_mostKept := goodIn_r _ [156, 157, 158, 159, 160, 161, 162, 163, 164, 12, 165, 43, 6, 7, 8, 166, 167, 168, 169, 121, 183, 184, 185, 186, 187, 188, 189, 190, 191] (by decide +kernel) (by decide +kernel)
set_option maxRecDepth 20000 in
theorem gX5_mended_X2_mostKept : GoodIn wsX5_mended (wsV RX5 162 RX2 yX2_mostKept wsX2_mostKept) := goodIn_app (goodIn_of _ (by decide +kernel)) ggX5_mended_X2_mostKept
set_option maxRecDepth 20000 in
theorem ggX5_mended_X2_firstLeftOut : GoodIn wsX5_mended wsX2_firstLeftOut := goodIn_r _ [173, 43, 121, 157, 183, 184, 185, 186, 187, 188, 189, 190, 191] (by decide +kernel) (by decide +kernel)
set_option maxRecDepth 20000 in
theorem gX5_mended_X2_firstLeftOut : GoodIn wsX5_mended (wsV RX5 165 RX2 yX2_firstLeftOut wsX2_firstLeftOut) := goodIn_app (goodIn_of _ (by decide +kernel)) ggX5_mended_X2_firstLeftOut
theorem dX5_mended_0 : decode cX5_mended 0 = .ok (.iload_n 1, 1) := by decide +kernel
theorem dX5_mended_1 : decode cX5_mended 1 = .ok (.iconst 0, 1) := by decide +kernel
theorem dX5_mended_2 : decode cX5_mended 2 = .ok (.iconst 1, 1) := by decide +kernel
theorem dX5_mended_3 : decode cX5_mended 3 = .ok (.invokestatic 50, 3) := by decide +kernel
theorem dX5_mended_6 : decode cX5_mended 6 = .ok (.ifCond .ne 6, 3) := by decide +kernel
theorem dX5_mended_9 : decode cX5_mended 9 = .ok (.bipush (-2), 2) := by decide +kernel
theorem dX5_mended_11 : decode cX5_mended 11 = .ok (.ireturn, 1) := by decide +kernel
theorem dX5_mended_12 : decode cX5_mended 12 = .ok (.aload_n 0, 1) := by decide +kernel
theorem dX5_mended_13 : decode cX5_mended 13 = .ok (.getfield 32, 3) := by decide +kernel
theorem dX5_mended_16 : decode cX5_mended 16 = .ok (.aload_n 0, 1) := by decide +kernel
theorem dX5_mended_17 : decode cX5_mended 17 = .ok (.getfield 10, 3) := by decide +kernel
theorem dX5_mended_20 : decode cX5_mended 20 = .ok (.aload_n 0, 1) := by decide +kernel
theorem dX5_mended_21 : decode cX5_mended 21 = .ok (.getfield 25, 3) := by decide +kernel
theorem dX5_mended_24 : decode cX5_mended 24 = .ok (.invokevirtual 93, 3) := by decide +kernel
theorem dX5_mended_27 : decode cX5_mended 27 = .ok (.istore_n 2, 1) := by decide +kernel
theorem dX5_mended_28 : decode cX5_mended 28 = .ok (.iload_n 2, 1) := by decide +kernel
theorem dX5_mended_29 : decode cX5_mended 29 = .ok (.ifCond .ge 5, 3) := by decide +kernel
theorem dX5_mended_32 : decode cX5_mended 32 = .ok (.iload_n 2, 1) := by decide +kernel
theorem dX5_mended_33 : decode cX5_mended 33 = .ok (.ireturn, 1) := by decide +kernel
theorem dX5_mended_34 : decode cX5_mended 34 = .ok (.aload_n 0, 1) := by decide +kernel
theorem dX5_mended_35 : decode cX5_mended 35 = .ok (.getfield 32, 3) := by decide +kernel
theorem dX5_mended_38 : decode cX5_mended 38 = .ok (.invokevirtual 162, 3) := by decide +kernel
theorem dX5_mended_41 : decode cX5_mended 41 = .ok (.istore_n 3, 1) := by decide +kernel
theorem dX5_mended_42 : decode cX5_mended 42 = .ok (.iload_n 1, 1) := by decide +kernel
theorem dX5_mended_43 : decode cX5_mended 43 = .ok (.ifCond .ne 15, 3) := by decide +kernel
theorem dX5_mended_46 : decode cX5_mended 46 = .ok (.aload_n 0, 1) := by decide +kernel
theorem dX5_mended_47 : decode cX5_mended 47 = .ok (.getfield 32, 3) := by decide +kernel
theorem dX5_mended_50 : decode cX5_mended 50 = .ok (.getfield 97, 3) := by decide +kernel
theorem dX5_mended_53 : decode cX5_mended 53 = .ok (.iload_n 3, 1) := by decide +kernel
theorem dX5_mended_54 : decode cX5_mended 54 = .ok (.isub, 1) := by decide +kernel
theorem dX5_mended_55 : decode cX5_mended 55 = .ok (.goto 11, 3) := by decide +kernel
theorem dX5_mended_58 : decode cX5_mended 58 = .ok (.aload_n 0, 1) := by decide +kernel
theorem dX5_mended_59 : decode cX5_mended 59 = .ok (.getfield 32, 3) := by decide +kernel
theorem dX5_mended_62 : decode cX5_mended 62 = .ok (.iload_n 3, 1) := by decide +kernel
theorem dX5_mended_63 : decode cX5_mended 63 = .ok (.invokevirtual 165, 3) := by decide +kernel
theorem dX5_mended_66 : decode cX5_mended 66 = .ok (.ireturn, 1) := by decide +kernel
set_option maxRecDepth 20000 in
theorem ggX5_strikes_X5_areCountries : GoodIn wsX5_strikes wsX5_areCountries := goodIn_r _ [4, 5, 6, 3, 7] (by decide +kernel) (by decide +kernel)
set_option maxRecDepth 20000 in
theorem gX5_strikes_X5_areCountries : GoodIn wsX5_strikes (va_wsS RX5 168 yX5_areCountries wsX5_areCountries) := goodIn_app (goodIn_of _ (by decide +kernel)) ggX5_strikes_X5_areCountries
set_option maxRecDepth 20000 in
theorem ggX5_strikes_X5_firstStrike : GoodIn wsX5_strikes wsX5_firstStrike := goodIn_r _ [10] (by decide +kernel) (by decide +kernel)
set_option maxRecDepth 20000 in
theorem gX5_strikes_X5_firstStrike : GoodIn wsX5_strikes (va_wsS RX5 172 yX5_firstStrike wsX5_firstStrike) := goodIn_app (goodIn_of _ (by decide +kernel)) ggX5_strikes_X5_firstStrike
theorem dX5_strikes_0 : decode cX5_strikes 0 = .ok (.iload_n 1, 1) := by decide +kernel
theorem dX5_strikes_1 : decode cX5_strikes 1 = .ok (.iload_n 2, 1) := by decide +kernel
theorem dX5_strikes_2 : decode cX5_strikes 2 = .ok (.iload_n 3, 1) := by decide +kernel
theorem dX5_strikes_3 : decode cX5_strikes 3 = .ok (.iload 4, 2) := by decide +kernel
theorem dX5_strikes_5 : decode cX5_strikes 5 = .ok (.invokestatic 168, 3) := by decide +kernel
theorem dX5_strikes_8 : decode cX5_strikes 8 = .ok (.ifCond .eq 14, 3) := by decide +kernel
theorem dX5_strikes_11 : decode cX5_strikes 11 = .ok (.iload_n 1, 1) := by decide +kernel
theorem dX5_strikes_12 : decode cX5_strikes 12 = .ok (.iload_n 2, 1) := by decide +kernel
theorem dX5_strikes_13 : decode cX5_strikes 13 = .ok (.iload_n 3, 1) := by decide +kernel
theorem dX5_strikes_14 : decode cX5_strikes 14 = .ok (.iload 4, 2) := by decide +kernel
theorem dX5_strikes_16 : decode cX5_strikes 16 = .ok (.invokestatic 172, 3) := by decide +kernel
theorem dX5_strikes_19 : decode cX5_strikes 19 = .ok (.goto 5, 3) := by decide +kernel
theorem dX5_strikes_22 : decode cX5_strikes 22 = .ok (.bipush (-2), 2) := by decide +kernel
theorem dX5_strikes_24 : decode cX5_strikes 24 = .ok (.ireturn, 1) := by decide +kernel
set_option maxRecDepth 20000 in
theorem ggX5_often_X5_areCountries : GoodIn wsX5_often wsX5_areCountries := goodIn_r _ [5, 6, 7, 4, 8] (by decide +kernel) (by decide +kernel)
set_option maxRecDepth 20000 in
theorem gX5_often_X5_areCountries : GoodIn wsX5_often (va_wsS RX5 168 yX5_areCountries wsX5_areCountries) := goodIn_app (goodIn_of _ (by decide +kernel)) ggX5_often_X5_areCountries
set_option maxRecDepth 20000 in
theorem ggX5_often_X5_isWithin : GoodIn wsX5_often wsX5_isWithin := goodIn_r _ [8] (by decide +kernel) (by decide +kernel)
set_option maxRecDepth 20000 in
theorem gX5_often_X5_isWithin : GoodIn wsX5_often (va_wsS RX5 50 yX5_isWithin wsX5_isWithin) := goodIn_app (goodIn_of _ (by decide +kernel)) ggX5_often_X5_isWithin
set_option maxRecDepth 20000 in
theorem ggX5_often_X5_firstStrike : GoodIn wsX5_often wsX5_firstStrike := goodIn_r _ [11] (by decide +kernel) (by decide +kernel)
set_option maxRecDepth 20000 in
theorem gX5_often_X5_firstStrike : GoodIn wsX5_often (va_wsS RX5 172 yX5_firstStrike wsX5_firstStrike) := goodIn_app (goodIn_of _ (by decide +kernel)) ggX5_often_X5_firstStrike
set_option maxRecDepth 20000 in
theorem ggX5_often_X5_commonDivisor : GoodIn wsX5_often wsX5_commonDivisor := goodIn_r _ [14] (by decide +kernel) (by decide +kernel)
set_option maxRecDepth 20000 in
theorem gX5_often_X5_commonDivisor : GoodIn wsX5_often (va_wsS RX5 177 yX5_commonDivisor wsX5_commonDivisor) := goodIn_app (goodIn_of _ (by decide +kernel)) ggX5_often_X5_commonDivisor
theorem dX5_often_0 : decode cX5_often 0 = .ok (.iload_n 1, 1) := by decide +kernel
theorem dX5_often_1 : decode cX5_often 1 = .ok (.iload_n 2, 1) := by decide +kernel
theorem dX5_often_2 : decode cX5_often 2 = .ok (.iload_n 3, 1) := by decide +kernel
theorem dX5_often_3 : decode cX5_often 3 = .ok (.iload 4, 2) := by decide +kernel
theorem dX5_often_5 : decode cX5_often 5 = .ok (.invokestatic 168, 3) := by decide +kernel
theorem dX5_often_8 : decode cX5_often 8 = .ok (.ifCond .eq 14, 3) := by decide +kernel
theorem dX5_often_11 : decode cX5_often 11 = .ok (.iload 5, 2) := by decide +kernel
theorem dX5_often_13 : decode cX5_often 13 = .ok (.iconst 0, 1) := by decide +kernel
theorem dX5_often_14 : decode cX5_often 14 = .ok (.ldc 176, 2) := by decide +kernel
theorem dX5_often_16 : decode cX5_often 16 = .ok (.invokestatic 50, 3) := by decide +kernel
theorem dX5_often_19 : decode cX5_often 19 = .ok (.ifCond .ne 6, 3) := by decide +kernel
theorem dX5_often_22 : decode cX5_often 22 = .ok (.bipush (-2), 2) := by decide +kernel
theorem dX5_often_24 : decode cX5_often 24 = .ok (.ireturn, 1) := by decide +kernel
theorem dX5_often_25 : decode cX5_often 25 = .ok (.iload_n 1, 1) := by decide +kernel
theorem dX5_often_26 : decode cX5_often 26 = .ok (.iload_n 2, 1) := by decide +kernel
theorem dX5_often_27 : decode cX5_often 27 = .ok (.iload_n 3, 1) := by decide +kernel
theorem dX5_often_28 : decode cX5_often 28 = .ok (.iload 4, 2) := by decide +kernel
theorem dX5_often_30 : decode cX5_often 30 = .ok (.invokestatic 172, 3) := by decide +kernel
theorem dX5_often_33 : decode cX5_often 33 = .ok (.istore 6, 2) := by decide +kernel
theorem dX5_often_35 : decode cX5_often 35 = .ok (.iload_n 1, 1) := by decide +kernel
theorem dX5_often_36 : decode cX5_often 36 = .ok (.i2l, 1) := by decide +kernel
theorem dX5_often_37 : decode cX5_often 37 = .ok (.iload_n 3, 1) := by decide +kernel
theorem dX5_often_38 : decode cX5_often 38 = .ok (.i2l, 1) := by decide +kernel
theorem dX5_often_39 : decode cX5_often 39 = .ok (.invokestatic 177, 3) := by decide +kernel
theorem dX5_often_42 : decode cX5_often 42 = .ok (.l2i, 1) := by decide +kernel
theorem dX5_often_43 : decode cX5_often 43 = .ok (.istore 7, 2) := by decide +kernel
theorem dX5_often_45 : decode cX5_often 45 = .ok (.iload 6, 2) := by decide +kernel
theorem dX5_often_47 : decode cX5_often 47 = .ok (.bipush (-6), 2) := by decide +kernel
theorem dX5_often_49 : decode cX5_often 49 = .ok (.if_icmp .eq 16, 3) := by decide +kernel
theorem dX5_often_52 : decode cX5_often 52 = .ok (.iload 6, 2) := by decide +kernel
theorem dX5_often_54 : decode cX5_often 54 = .ok (.iload 5, 2) := by decide +kernel
theorem dX5_often_56 : decode cX5_often 56 = .ok (.if_icmp .gt 9, 3) := by decide +kernel
theorem dX5_often_59 : decode cX5_often 59 = .ok (.iload 7, 2) := by decide +kernel
theorem dX5_often_61 : decode cX5_often 61 = .ok (.iconst 1, 1) := by decide +kernel
theorem dX5_often_62 : decode cX5_often 62 = .ok (.if_icmp .ge 5, 3) := by decide +kernel
theorem dX5_often_65 : decode cX5_often 65 = .ok (.iconst 0, 1) := by decide +kernel
theorem dX5_often_66 : decode cX5_often 66 = .ok (.ireturn, 1) := by decide +kernel
theorem dX5_often_67 : decode cX5_often 67 = .ok (.iload_n 1, 1) := by decide +kernel
theorem dX5_often_68 : decode cX5_often 68 = .ok (.iload 7, 2) := by decide +kernel
theorem dX5_often_70 : decode cX5_often 70 = .ok (.idiv, 1) := by decide +kernel
theorem dX5_often_71 : decode cX5_often 71 = .ok (.iload_n 3, 1) := by decide +kernel
theorem dX5_often_72 : decode cX5_often 72 = .ok (.imul, 1) := by decide +kernel
theorem dX5_often_73 : decode cX5_often 73 = .ok (.istore 8, 2) := by decide +kernel
theorem dX5_often_75 : decode cX5_often 75 = .ok (.iload 8, 2) := by decide +kernel
theorem dX5_often_77 : decode cX5_often 77 = .ok (.iconst 1, 1) := by decide +kernel
theorem dX5_often_78 : decode cX5_often 78 = .ok (.if_icmp .ge 7, 3) := by decide +kernel
theorem dX5_often_81 : decode cX5_often 81 = .ok (.iconst 0, 1) := by decide +kernel
theorem dX5_often_82 : decode cX5_often 82 = .ok (.goto 13, 3) := by decide +kernel
theorem dX5_often_85 : decode cX5_often 85 = .ok (.iload 5, 2) := by decide +kernel
theorem dX5_often_87 : decode cX5_often 87 = .ok (.iload 6, 2) := by decide +kernel
theorem dX5_often_89 : decode cX5_often 89 = .ok (.isub, 1) := by decide +kernel
theorem dX5_often_90 : decode cX5_often 90 = .ok (.iload 8, 2) := by decide +kernel
theorem dX5_often_92 : decode cX5_often 92 = .ok (.idiv, 1) := by decide +kernel
theorem dX5_often_93 : decode cX5_often 93 = .ok (.iconst 1, 1) := by decide +kernel
theorem dX5_often_94 : decode cX5_often 94 = .ok (.iadd, 1) := by decide +kernel
theorem dX5_often_95 : decode cX5_often 95 = .ok (.ireturn, 1) := by decide +kernel
set_option maxRecDepth 20000 in
theorem ggX5_seen_X5_isWithin : GoodIn wsX5_seen wsX5_isWithin := goodIn_r _ [6] (by decide +kernel) (by decide +kernel)
set_option maxRecDepth 20000 in
theorem gX5_seen_X5_isWithin : GoodIn wsX5_seen (va_wsS RX5 50 yX5_isWithin wsX5_isWithin) := goodIn_app (goodIn_of _ (by decide +kernel)) ggX5_seen_X5_isWithin
set_option maxRecDepth 20000 in
theorem ggX5_seen_X1_addSight : GoodIn wsX5_seen wsX1_addSight := goodIn_r _ [11, 12, 13, 14, 24, 25, 26, 27, 28, 29, 30, 31, 32, 33, 34] (by decide +kernel) (by decide +kernel)
set_option maxRecDepth 20000 in
theorem gX5_seen_X1_addSight : GoodIn wsX5_seen (wsV RX5 184 RX1 yX1_addSight wsX1_addSight) := goodIn_app (goodIn_of _ (by decide +kernel)) ggX5_seen_X1_addSight
theorem dX5_seen_0 : decode cX5_seen 0 = .ok (.iload_n 1, 1) := by decide +kernel
theorem dX5_seen_1 : decode cX5_seen 1 = .ok (.iconst 0, 1) := by decide +kernel
theorem dX5_seen_2 : decode cX5_seen 2 = .ok (.bipush 23, 2) := by decide +kernel
theorem dX5_seen_4 : decode cX5_seen 4 = .ok (.invokestatic 50, 3) := by decide +kernel
theorem dX5_seen_7 : decode cX5_seen 7 = .ok (.ifCond .ne 6, 3) := by decide +kernel
theorem dX5_seen_10 : decode cX5_seen 10 = .ok (.bipush (-2), 2) := by decide +kernel
theorem dX5_seen_12 : decode cX5_seen 12 = .ok (.ireturn, 1) := by decide +kernel
theorem dX5_seen_13 : decode cX5_seen 13 = .ok (.aload_n 0, 1) := by decide +kernel
theorem dX5_seen_14 : decode cX5_seen 14 = .ok (.getfield 10, 3) := by decide +kernel
theorem dX5_seen_17 : decode cX5_seen 17 = .ok (.getfield 181, 3) := by decide +kernel
theorem dX5_seen_20 : decode cX5_seen 20 = .ok (.bipush 8, 2) := by decide +kernel
theorem dX5_seen_22 : decode cX5_seen 22 = .ok (.if_icmp .lt 6, 3) := by decide +kernel
theorem dX5_seen_25 : decode cX5_seen 25 = .ok (.bipush (-4), 2) := by decide +kernel
theorem dX5_seen_27 : decode cX5_seen 27 = .ok (.ireturn, 1) := by decide +kernel
theorem dX5_seen_28 : decode cX5_seen 28 = .ok (.aload_n 0, 1) := by decide +kernel
theorem dX5_seen_29 : decode cX5_seen 29 = .ok (.getfield 10, 3) := by decide +kernel
theorem dX5_seen_32 : decode cX5_seen 32 = .ok (.iload_n 1, 1) := by decide +kernel
theorem dX5_seen_33 : decode cX5_seen 33 = .ok (.iload_n 2, 1) := by decide +kernel
theorem dX5_seen_34 : decode cX5_seen 34 = .ok (.invokevirtual 184, 3) := by decide +kernel
theorem dX5_seen_37 : decode cX5_seen 37 = .ok (.aload_n 0, 1) := by decide +kernel
theorem dX5_seen_38 : decode cX5_seen 38 = .ok (.getfield 10, 3) := by decide +kernel
theorem dX5_seen_41 : decode cX5_seen 41 = .ok (.getfield 181, 3) := by decide +kernel
theorem dX5_seen_44 : decode cX5_seen 44 = .ok (.ireturn, 1) := by decide +kernel
set_option maxRecDepth 20000 in
theorem ggX5_forget_X1_dropSights : GoodIn wsX5_forget wsX1_dropSights := goodIn_r _ [6, 7, 8, 9, 19, 20, 21, 22, 23, 24, 25, 26, 27, 28, 29] (by decide +kernel) (by decide +kernel)
set_option maxRecDepth 20000 in
theorem gX5_forget_X1_dropSights : GoodIn wsX5_forget (wsV RX5 188 RX1 yX1_dropSights wsX1_dropSights) := goodIn_app (goodIn_of _ (by decide +kernel)) ggX5_forget_X1_dropSights
theorem dX5_forget_0 : decode cX5_forget 0 = .ok (.aload_n 0, 1) := by decide +kernel
theorem dX5_forget_1 : decode cX5_forget 1 = .ok (.getfield 10, 3) := by decide +kernel
theorem dX5_forget_4 : decode cX5_forget 4 = .ok (.invokevirtual 188, 3) := by decide +kernel
theorem dX5_forget_7 : decode cX5_forget 7 = .ok (.ireturn, 1) := by decide +kernel
set_option maxRecDepth 20000 in
theorem ggX5_wore_X1_suspects : GoodIn wsX5_wore wsX1_suspects := goodIn_r _ [6, 7, 8, 9, 10, 11, 5, 12, 13, 14, 15, 16, 17, 18, 28, 29, 30, 31, 32, 33, 34, 35, 36, 37, 38] (by decide +kernel) (by decide +kernel)
set_option maxRecDepth 20000 in
theorem gX5_wore_X1_suspects : GoodIn wsX5_wore (wsV RX5 191 RX1 yX1_suspects wsX1_suspects) := goodIn_app (goodIn_of _ (by decide +kernel)) ggX5_wore_X1_suspects
theorem dX5_wore_0 : decode cX5_wore 0 = .ok (.aload_n 0, 1) := by decide +kernel
theorem dX5_wore_1 : decode cX5_wore 1 = .ok (.getfield 10, 3) := by decide +kernel
theorem dX5_wore_4 : decode cX5_wore 4 = .ok (.invokevirtual 191, 3) := by decide +kernel
theorem dX5_wore_7 : decode cX5_wore 7 = .ok (.ireturn, 1) := by decide +kernel
set_option maxRecDepth 20000 in
theorem ggX5_ask_X5_isWithin : GoodIn wsX5_ask wsX5_isWithin := goodIn_r _ [9] (by decide +kernel) (by decide +kernel)
set_option maxRecDepth 20000 in
theorem gX5_ask_X5_isWithin : GoodIn wsX5_ask (va_wsS RX5 50 yX5_isWithin wsX5_isWithin) := goodIn_app (goodIn_of _ (by decide +kernel)) ggX5_ask_X5_isWithin
set_option maxRecDepth 20000 in
theorem ggX5_ask_X1_suspects : GoodIn wsX5_ask wsX1_suspects := goodIn_r _ [14, 15, 16, 17, 18, 19, 13, 20, 21, 22, 23, 24, 25, 26, 51, 52, 53, 54, 55, 56, 57, 58, 59, 60, 61] (by decide +kernel) (by decide +kernel)
set_option maxRecDepth 20000 in
theorem gX5_ask_X1_suspects : GoodIn wsX5_ask (wsV RX5 191 RX1 yX1_suspects wsX1_suspects) := goodIn_app (goodIn_of _ (by decide +kernel)) ggX5_ask_X1_suspects
set_option maxRecDepth 20000 in
theorem ggX5_ask_X1_ownersOf : GoodIn wsX5_ask wsX1_ownersOf := goodIn_r _ [30, 31, 32, 33, 13, 34, 21, 51, 52, 53, 54, 55, 56, 57, 58, 59, 60, 61] (by decide +kernel) (by decide +kernel)
set_option maxRecDepth 20000 in
theorem gX5_ask_X1_ownersOf : GoodIn wsX5_ask (wsV RX5 136 RX1 yX1_ownersOf wsX1_ownersOf) := goodIn_app (goodIn_of _ (by decide +kernel)) ggX5_ask_X1_ownersOf
set_option maxRecDepth 20000 in
theorem ggX5_ask_J6_bitCount_0f7a4 : GoodIn wsX5_ask wsJ6_bitCount_0f7a4 := goodIn_r _ [38, 39, 40, 41] (by decide +kernel) (by decide +kernel)
set_option maxRecDepth 20000 in
theorem gX5_ask_J6_bitCount_0f7a4 : GoodIn wsX5_ask (va_wsS RX5 63 yJ6_bitCount_0f7a4 wsJ6_bitCount_0f7a4) := goodIn_app (goodIn_of _ (by decide +kernel)) ggX5_ask_J6_bitCount_0f7a4
theorem dX5_ask_0 : decode cX5_ask 0 = .ok (.iload_n 1, 1) := by decide +kernel
theorem dX5_ask_1 : decode cX5_ask 1 = .ok (.iconst 0, 1) := by decide +kernel
theorem dX5_ask_2 : decode cX5_ask 2 = .ok (.iconst 1, 1) := by decide +kernel
theorem dX5_ask_3 : decode cX5_ask 3 = .ok (.invokestatic 50, 3) := by decide +kernel
theorem dX5_ask_6 : decode cX5_ask 6 = .ok (.ifCond .ne 6, 3) := by decide +kernel
theorem dX5_ask_9 : decode cX5_ask 9 = .ok (.bipush (-2), 2) := by decide +kernel
theorem dX5_ask_11 : decode cX5_ask 11 = .ok (.ireturn, 1) := by decide +kernel
theorem dX5_ask_12 : decode cX5_ask 12 = .ok (.aload_n 0, 1) := by decide +kernel
theorem dX5_ask_13 : decode cX5_ask 13 = .ok (.getfield 10, 3) := by decide +kernel
theorem dX5_ask_16 : decode cX5_ask 16 = .ok (.invokevirtual 191, 3) := by decide +kernel
theorem dX5_ask_19 : decode cX5_ask 19 = .ok (.istore_n 2, 1) := by decide +kernel
theorem dX5_ask_20 : decode cX5_ask 20 = .ok (.iload_n 2, 1) := by decide +kernel
theorem dX5_ask_21 : decode cX5_ask 21 = .ok (.ifCond .ne 6, 3) := by decide +kernel
theorem dX5_ask_24 : decode cX5_ask 24 = .ok (.bipush (-6), 2) := by decide +kernel
theorem dX5_ask_26 : decode cX5_ask 26 = .ok (.ireturn, 1) := by decide +kernel
theorem dX5_ask_27 : decode cX5_ask 27 = .ok (.iconst 0, 1) := by decide +kernel
theorem dX5_ask_28 : decode cX5_ask 28 = .ok (.istore_n 3, 1) := by decide +kernel
theorem dX5_ask_29 : decode cX5_ask 29 = .ok (.bipush 7, 2) := by decide +kernel
