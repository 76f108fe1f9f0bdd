set_option maxRecDepth 20000 in
theorem ggX5_send_X4_init : GoodIn wsX5_send wsX4_init := goodIn_r _ [8, 9, 10, 11, 12, 13, 14, 15, 31, 32, 33, 34] (by decide +kernel) (by decide +kernel)
set_option maxRecDepth 20000 in
theorem gX5_send_X4_init : GoodIn wsX5_send (wsX4_init) := ggX5_send_X4_init
set_option maxRecDepth 20000 in
theorem ggX5_send_X2_put : GoodIn wsX5_send wsX2_put := goodIn_r _ [20, 21, 22, 23, 35, 36, 31, 32, 33, 34] (by decide +kernel) (by decide +kernel)
set_option maxRecDepth 20000 in
theorem gX5_send_X2_put : GoodIn wsX5_send (wsV RX5 208 RX2 yX2_put wsX2_put) := goodIn_app (goodIn_of _ (by decide +kernel)) ggX5_send_X2_put
theorem dX5_send_0 : decode cX5_send 0 = .ok (.aload_n 0, 1) := by decide +kernel
theorem dX5_send_1 : decode cX5_send 1 = .ok (.getfield 44, 3) := by decide +kernel
theorem dX5_send_4 : decode cX5_send 4 = .ok (.iload_n 2, 1) := by decide +kernel
theorem dX5_send_5 : decode cX5_send 5 = .ok (.iadd, 1) := by decide +kernel
theorem dX5_send_6 : decode cX5_send 6 = .ok (.istore 5, 2) := by decide +kernel
theorem dX5_send_8 : decode cX5_send 8 = .ok (.aload_n 0, 1) := by decide +kernel
theorem dX5_send_9 : decode cX5_send 9 = .ok (.getfield 26, 3) := by decide +kernel
theorem dX5_send_12 : decode cX5_send 12 = .ok (.new 203, 3) := by decide +kernel
theorem dX5_send_15 : decode cX5_send 15 = .ok (.dup, 1) := by decide +kernel
theorem dX5_send_16 : decode cX5_send 16 = .ok (.iload_n 1, 1) := by decide +kernel
theorem dX5_send_17 : decode cX5_send 17 = .ok (.iload 5, 2) := by decide +kernel
theorem dX5_send_19 : decode cX5_send 19 = .ok (.aload_n 3, 1) := by decide +kernel
theorem dX5_send_20 : decode cX5_send 20 = .ok (.aload 4, 2) := by decide +kernel
theorem dX5_send_22 : decode cX5_send 22 = .ok (.invokespecial 205, 3) := by decide +kernel
theorem dX5_send_25 : decode cX5_send 25 = .ok (.invokevirtual 208, 3) := by decide +kernel
theorem dX5_send_28 : decode cX5_send 28 = .ok (.iload 5, 2) := by decide +kernel
theorem dX5_send_30 : decode cX5_send 30 = .ok (.ireturn, 1) := by decide +kernel
set_option maxRecDepth 20000 in
theorem ggX5_sendNews_X5_wayToList : GoodIn wsX5_sendNews wsX5_wayToList := goodIn_r _ [5] (by decide +kernel) (by decide +kernel)
set_option maxRecDepth 20000 in
theorem gX5_sendNews_X5_wayToList : GoodIn wsX5_sendNews (va_wsS RX5 212 yX5_wayToList wsX5_wayToList) := goodIn_app (goodIn_of _ (by decide +kernel)) ggX5_sendNews_X5_wayToList
set_option maxRecDepth 20000 in
theorem ggX5_sendNews_X5_send : GoodIn wsX5_sendNews wsX5_send := goodIn_r _ [9, 10, 11, 12, 13, 14, 15, 16, 17, 18, 19, 20, 21, 22, 23, 24, 25, 26, 27, 28, 29, 30, 31, 32, 41, 42, 43, 44, 45, 46, 47, 48, 49, 50, 51, 52, 53] (by decide +kernel) (by decide +kernel)
set_option maxRecDepth 20000 in
theorem gX5_sendNews_X5_send : GoodIn wsX5_sendNews (wsV RX5 156 RX5 yX5_send wsX5_send) := goodIn_app (goodIn_of _ (by decide +kernel)) ggX5_sendNews_X5_send
theorem dX5_sendNews_0 : decode cX5_sendNews 0 = .ok (.aload_n 0, 1) := by decide +kernel
theorem dX5_sendNews_1 : decode cX5_sendNews 1 = .ok (.iload_n 1, 1) := by decide +kernel
theorem dX5_sendNews_2 : decode cX5_sendNews 2 = .ok (.aload_n 2, 1) := by decide +kernel
theorem dX5_sendNews_3 : decode cX5_sendNews 3 = .ok (.getfield 149, 3) := by decide +kernel
theorem dX5_sendNews_6 : decode cX5_sendNews 6 = .ok (.invokestatic 212, 3) := by decide +kernel
theorem dX5_sendNews_9 : decode cX5_sendNews 9 = .ok (.aload_n 2, 1) := by decide +kernel
theorem dX5_sendNews_10 : decode cX5_sendNews 10 = .ok (.aconst_null, 1) := by decide +kernel
theorem dX5_sendNews_11 : decode cX5_sendNews 11 = .ok (.invokevirtual 156, 3) := by decide +kernel
theorem dX5_sendNews_14 : decode cX5_sendNews 14 = .ok (.pop, 1) := by decide +kernel
theorem dX5_sendNews_15 : decode cX5_sendNews 15 = .ok (.return_, 1) := by decide +kernel
set_option maxRecDepth 20000 in
theorem ggX5_arrivalsOfNextDay_X0_beginQuarter : GoodIn wsX5_arrivalsOfNextDay wsX0_beginQuarter := goodIn_r _ [9, 10, 164, 165, 166] (by decide +kernel) (by decide +kernel)
set_option maxRecDepth 20000 in
theorem gX5_arrivalsOfNextDay_X0_beginQuarter : GoodIn wsX5_arrivalsOfNextDay (wsV RX5 215 RX0 yX0_beginQuarter wsX0_beginQuarter) := goodIn_app (goodIn_of _ (by decide +kernel)) ggX5_arrivalsOfNextDay_X0_beginQuarter
set_option maxRecDepth 20000 in
theorem ggX5_arrivalsOfNextDay_X2_takeArrived : GoodIn wsX5_arrivalsOfNextDay wsX2_takeArrived := goodIn_r _ [15, 16, 17, 18, 162, 163, 167, 168, 169, 170] (by decide +kernel) (by decide +kernel)
set_option maxRecDepth 20000 in
theorem gX5_arrivalsOfNextDay_X2_takeArrived : GoodIn wsX5_arrivalsOfNextDay (wsV RX5 221 RX2 yX2_takeArrived wsX2_takeArrived) := goodIn_app (goodIn_of _ (by decide +kernel)) ggX5_arrivalsOfNextDay_X2_takeArrived
set_option maxRecDepth 20000 in
theorem ggX5_arrivalsOfNextDay_X5_deliver : GoodIn wsX5_arrivalsOfNextDay wsX5_deliver := goodIn_r _ [23, 24, 25, 26, 27, 28, 29, 30, 22, 31, 32, 33, 34, 35, 36, 37, 38, 39, 40, 41, 42, 43, 44, 45, 46, 47, 48, 49, 50, 51, 52, 53, 54, 55, 56, 57, 58, 59, 60, 61, 62, 63, 64, 65, 66, 67, 68, 69, 70, 71, 72, 73, 74, 75, 76, 77, 78, 79, 80, 81, 82, 83, 84, 1, 3, 85, 86, 87, 88, 89, 90, 91, 92, 93, 94, 95, 96, 97, 98, 99, 100, 14, 101, 16, 17, 18, 102, 103, 104, 105, 106, 107, 108, 109, 110, 111, 112, 113, 114, 2, 115, 116, 117, 8, 118, 119, 10, 120, 121, 122, 123, 124, 125, 126, 127, 128, 129, 130, 131, 132, 133, 134, 135, 136, 137, 138, 139, 140, 141, 142, 143, 144, 145, 146, 147, 148, 149, 150, 151, 152, 153, 154, 167, 168, 169, 170, 171, 172, 173, 174, 175, 176, 177, 178, 179, 180, 181, 182, 183, 184, 185, 155, 156, 157, 158, 159, 160, 161, 162, 163, 164, 165, 166] (by decide +kernel) (by decide +kernel)
set_option maxRecDepth 20000 in
theorem gX5_arrivalsOfNextDay_X5_deliver : GoodIn wsX5_arrivalsOfNextDay (wsV RX5 225 RX5 yX5_deliver wsX5_deliver) := goodIn_app (goodIn_of _ (by decide +kernel)) ggX5_arrivalsOfNextDay_X5_deliver
theorem dX5_arrivalsOfNextDay_0 : decode cX5_arrivalsOfNextDay 0 = .ok (.aload_n 0, 1) := by decide +kernel
theorem dX5_arrivalsOfNextDay_1 : decode cX5_arrivalsOfNextDay 1 = .ok (.dup, 1) := by decide +kernel
theorem dX5_arrivalsOfNextDay_2 : decode cX5_arrivalsOfNextDay 2 = .ok (.getfield 44, 3) := by decide +kernel
theorem dX5_arrivalsOfNextDay_5 : decode cX5_arrivalsOfNextDay 5 = .ok (.iconst 1, 1) := by decide +kernel
theorem dX5_arrivalsOfNextDay_6 : decode cX5_arrivalsOfNextDay 6 = .ok (.iadd, 1) := by decide +kernel
theorem dX5_arrivalsOfNextDay_7 : decode cX5_arrivalsOfNextDay 7 = .ok (.putfield 44, 3) := by decide +kernel
theorem dX5_arrivalsOfNextDay_10 : decode cX5_arrivalsOfNextDay 10 = .ok (.aload_n 0, 1) := by decide +kernel
theorem dX5_arrivalsOfNextDay_11 : decode cX5_arrivalsOfNextDay 11 = .ok (.getfield 44, 3) := by decide +kernel
theorem dX5_arrivalsOfNextDay_14 : decode cX5_arrivalsOfNextDay 14 = .ok (.bipush 90, 2) := by decide +kernel
theorem dX5_arrivalsOfNextDay_16 : decode cX5_arrivalsOfNextDay 16 = .ok (.irem, 1) := by decide +kernel
theorem dX5_arrivalsOfNextDay_17 : decode cX5_arrivalsOfNextDay 17 = .ok (.ifCond .ne 10, 3) := by decide +kernel
theorem dX5_arrivalsOfNextDay_20 : decode cX5_arrivalsOfNextDay 20 = .ok (.aload_n 0, 1) := by decide +kernel
theorem dX5_arrivalsOfNextDay_21 : decode cX5_arrivalsOfNextDay 21 = .ok (.getfield 33, 3) := by decide +kernel
theorem dX5_arrivalsOfNextDay_24 : decode cX5_arrivalsOfNextDay 24 = .ok (.invokevirtual 215, 3) := by decide +kernel
theorem dX5_arrivalsOfNextDay_27 : decode cX5_arrivalsOfNextDay 27 = .ok (.aload_n 0, 1) := by decide +kernel
theorem dX5_arrivalsOfNextDay_28 : decode cX5_arrivalsOfNextDay 28 = .ok (.getfield 26, 3) := by decide +kernel
theorem dX5_arrivalsOfNextDay_31 : decode cX5_arrivalsOfNextDay 31 = .ok (.getfield 218, 3) := by decide +kernel
theorem dX5_arrivalsOfNextDay_34 : decode cX5_arrivalsOfNextDay 34 = .ok (.istore_n 1, 1) := by decide +kernel
theorem dX5_arrivalsOfNextDay_35 : decode cX5_arrivalsOfNextDay 35 = .ok (.iconst 0, 1) := by decide +kernel
theorem dX5_arrivalsOfNextDay_36 : decode cX5_arrivalsOfNextDay 36 = .ok (.istore_n 2, 1) := by decide +kernel
theorem dX5_arrivalsOfNextDay_37 : decode cX5_arrivalsOfNextDay 37 = .ok (.iconst 0, 1) := by decide +kernel
theorem dX5_arrivalsOfNextDay_38 : decode cX5_arrivalsOfNextDay 38 = .ok (.istore_n 3, 1) := by decide +kernel
theorem dX5_arrivalsOfNextDay_39 : decode cX5_arrivalsOfNextDay 39 = .ok (.iload_n 3, 1) := by decide +kernel
theorem dX5_arrivalsOfNextDay_40 : decode cX5_arrivalsOfNextDay 40 = .ok (.iload_n 1, 1) := by decide +kernel
theorem dX5_arrivalsOfNextDay_41 : decode cX5_arrivalsOfNextDay 41 = .ok (.if_icmp .ge 39, 3) := by decide +kernel
theorem dX5_arrivalsOfNextDay_44 : decode cX5_arrivalsOfNextDay 44 = .ok (.aload_n 0, 1) := by decide +kernel
theorem dX5_arrivalsOfNextDay_45 : decode cX5_arrivalsOfNextDay 45 = .ok (.getfield 26, 3) := by decide +kernel
theorem dX5_arrivalsOfNextDay_48 : decode cX5_arrivalsOfNextDay 48 = .ok (.aload_n 0, 1) := by decide +kernel
theorem dX5_arrivalsOfNextDay_49 : decode cX5_arrivalsOfNextDay 49 = .ok (.getfield 44, 3) := by decide +kernel
theorem dX5_arrivalsOfNextDay_52 : decode cX5_arrivalsOfNextDay 52 = .ok (.invokevirtual 221, 3) := by decide +kernel
theorem dX5_arrivalsOfNextDay_55 : decode cX5_arrivalsOfNextDay 55 = .ok (.astore 4, 2) := by decide +kernel
theorem dX5_arrivalsOfNextDay_57 : decode cX5_arrivalsOfNextDay 57 = .ok (.aload 4, 2) := by decide +kernel
theorem dX5_arrivalsOfNextDay_59 : decode cX5_arrivalsOfNextDay 59 = .ok (.ifnonnull 6, 3) := by decide +kernel
theorem dX5_arrivalsOfNextDay_62 : decode cX5_arrivalsOfNextDay 62 = .ok (.goto 18, 3) := by decide +kernel
theorem dX5_arrivalsOfNextDay_65 : decode cX5_arrivalsOfNextDay 65 = .ok (.aload_n 0, 1) := by decide +kernel
theorem dX5_arrivalsOfNextDay_66 : decode cX5_arrivalsOfNextDay 66 = .ok (.aload 4, 2) := by decide +kernel
theorem dX5_arrivalsOfNextDay_68 : decode cX5_arrivalsOfNextDay 68 = .ok (.invokevirtual 225, 3) := by decide +kernel
theorem dX5_arrivalsOfNextDay_71 : decode cX5_arrivalsOfNextDay 71 = .ok (.iinc 2 1, 3) := by decide +kernel
theorem dX5_arrivalsOfNextDay_74 : decode cX5_arrivalsOfNextDay 74 = .ok (.iinc 3 1, 3) := by decide +kernel
theorem dX5_arrivalsOfNextDay_77 : decode cX5_arrivalsOfNextDay 77 = .ok (.goto (-38), 3) := by decide +kernel
theorem dX5_arrivalsOfNextDay_80 : decode cX5_arrivalsOfNextDay 80 = .ok (.iload_n 2, 1) := by decide +kernel
theorem dX5_arrivalsOfNextDay_81 : decode cX5_arrivalsOfNextDay 81 = .ok (.ireturn, 1) := by decide +kernel
set_option maxRecDepth 20000 in
theorem ggX5_deliver_X5_answerQuestion : GoodIn wsX5_deliver wsX5_answerQuestion := goodIn_r _ [9, 10, 11, 12, 13, 14, 15, 16, 17, 18, 19, 20, 21, 22, 23, 24, 25, 26, 27, 28, 29, 8, 30, 31, 32, 33, 34, 35, 36, 37, 38, 39, 40, 41, 42, 43, 44, 45, 46, 47, 48, 49, 50, 51, 52, 53, 54, 55, 56, 57, 58, 59, 60, 61, 62, 63, 64, 65, 66, 67, 68, 69, 70, 71, 72, 73, 74, 75, 76, 77, 78, 79, 80, 81, 82, 83, 84, 85, 86, 87, 88, 89, 90, 91, 92, 154, 155, 156, 157, 158, 159, 160, 146, 147, 148, 149, 150, 151, 152, 153, 161, 162, 163, 164, 165, 166, 167, 142, 143, 144, 145, 168, 169] (by decide +kernel) (by decide +kernel)
set_option maxRecDepth 20000 in
theorem gX5_deliver_X5_answerQuestion : GoodIn wsX5_deliver (wsV RX5 236 RX5 yX5_answerQuestion wsX5_answerQuestion) := goodIn_app (goodIn_of _ (by decide +kernel)) ggX5_deliver_X5_answerQuestion
set_option maxRecDepth 20000 in
theorem ggX5_deliver_X5_beginLoan : GoodIn wsX5_deliver wsX5_beginLoan := goodIn_r _ [96, 12, 97, 11, 10, 63, 98, 99, 13, 100, 101, 102, 103, 104, 105, 106, 107, 8, 108, 109, 110, 111, 112, 113, 154, 155, 156, 157, 158, 159, 160, 146, 147, 148, 149, 150, 151, 152, 153, 161, 162, 163, 164, 165, 166, 167, 170, 171, 172] (by decide +kernel) (by decide +kernel)
set_option maxRecDepth 20000 in
theorem gX5_deliver_X5_beginLoan : GoodIn wsX5_deliver (wsV RX5 240 RX5 yX5_beginLoan wsX5_beginLoan) := goodIn_app (goodIn_of _ (by decide +kernel)) ggX5_deliver_X5_beginLoan
set_option maxRecDepth 20000 in
theorem ggX5_deliver_X5_comeHome : GoodIn wsX5_deliver wsX5_comeHome := goodIn_r _ [117, 13, 97, 11, 10, 118, 119, 120, 8, 121, 122, 123, 99, 124, 125, 126, 17, 127, 128, 129, 110, 111, 103, 112, 113, 107, 108, 14, 15, 16, 18, 19, 20, 21, 22, 23, 24, 25, 26, 86, 87, 88, 89, 90, 91, 92, 59, 60, 61, 62, 63, 64, 65, 66, 67, 68, 69, 70, 71, 72, 73, 74, 75, 76, 77, 78, 79, 80, 81, 82, 83, 84, 85, 146, 147, 148, 149, 150, 151, 152, 153, 154, 155, 156, 157, 158, 159, 160, 161, 162, 163, 164, 165, 166, 167, 170, 171, 172, 142, 143, 144, 145, 168, 169] (by decide +kernel) (by decide +kernel)
set_option maxRecDepth 20000 in
theorem gX5_deliver_X5_comeHome : GoodIn wsX5_deliver (wsV RX5 243 RX5 yX5_comeHome wsX5_comeHome) := goodIn_app (goodIn_of _ (by decide +kernel)) ggX5_deliver_X5_comeHome
set_option maxRecDepth 20000 in
theorem ggX5_deliver_X5_prolong : GoodIn wsX5_deliver wsX5_prolong := goodIn_r _ [133, 10, 134, 98, 154, 155, 156, 157, 158, 159, 160] (by decide +kernel) (by decide +kernel)
set_option maxRecDepth 20000 in
theorem gX5_deliver_X5_prolong : GoodIn wsX5_deliver (wsV RX5 246 RX5 yX5_prolong wsX5_prolong) := goodIn_app (goodIn_of _ (by decide +kernel)) ggX5_deliver_X5_prolong
set_option maxRecDepth 20000 in
theorem ggX5_deliver_X5_shorten : GoodIn wsX5_deliver wsX5_shorten := goodIn_r _ [138, 10, 98, 63, 139, 140, 53, 141, 154, 155, 156, 157, 158, 159, 160, 161, 162, 163, 164, 165, 166, 167] (by decide +kernel) (by decide +kernel)
set_option maxRecDepth 20000 in
theorem gX5_deliver_X5_shorten : GoodIn wsX5_deliver (wsV RX5 249 RX5 yX5_shorten wsX5_shorten) := goodIn_app (goodIn_of _ (by decide +kernel)) ggX5_deliver_X5_shorten
theorem dX5_deliver_0 : decode cX5_deliver 0 = .ok (.aload_n 1, 1) := by decide +kernel
theorem dX5_deliver_1 : decode cX5_deliver 1 = .ok (.getfield 228, 3) := by decide +kernel
theorem dX5_deliver_4 : decode cX5_deliver 4 = .ok (.astore_n 2, 1) := by decide +kernel
theorem dX5_deliver_5 : decode cX5_deliver 5 = .ok (.aload_n 2, 1) := by decide +kernel
theorem dX5_deliver_6 : decode cX5_deliver 6 = .ok (.ifnonnull 4, 3) := by decide +kernel
theorem dX5_deliver_9 : decode cX5_deliver 9 = .ok (.return_, 1) := by decide +kernel
theorem dX5_deliver_10 : decode cX5_deliver 10 = .ok (.aload_n 1, 1) := by decide +kernel
theorem dX5_deliver_11 : decode cX5_deliver 11 = .ok (.getfield 229, 3) := by decide +kernel
theorem dX5_deliver_14 : decode cX5_deliver 14 = .ok (.astore_n 3, 1) := by decide +kernel
theorem dX5_deliver_15 : decode cX5_deliver 15 = .ok (.aload_n 3, 1) := by decide +kernel
theorem dX5_deliver_16 : decode cX5_deliver 16 = .ok (.ifnonnull 20, 3) := by decide +kernel
theorem dX5_deliver_19 : decode cX5_deliver 19 = .ok (.aload_n 2, 1) := by decide +kernel
theorem dX5_deliver_20 : decode cX5_deliver 20 = .ok (.aload_n 1, 1) := by decide +kernel
theorem dX5_deliver_21 : decode cX5_deliver 21 = .ok (.getfield 233, 3) := by decide +kernel
theorem dX5_deliver_24 : decode cX5_deliver 24 = .ok (.ifCond .ne 7, 3) := by decide +kernel
theorem dX5_deliver_27 : decode cX5_deliver 27 = .ok (.iconst 1, 1) := by decide +kernel
theorem dX5_deliver_28 : decode cX5_deliver 28 = .ok (.goto 4, 3) := by decide +kernel
theorem dX5_deliver_31 : decode cX5_deliver 31 = .ok (.iconst 0, 1) := by decide +kernel
theorem dX5_deliver_32 : decode cX5_deliver 32 = .ok (.putfield 87, 3) := by decide +kernel
theorem dX5_deliver_35 : decode cX5_deliver 35 = .ok (.return_, 1) := by decide +kernel
theorem dX5_deliver_36 : decode cX5_deliver 36 = .ok (.aload_n 1, 1) := by decide +kernel
theorem dX5_deliver_37 : decode cX5_deliver 37 = .ok (.getfield 233, 3) := by decide +kernel
theorem dX5_deliver_40 : decode cX5_deliver 40 = .ok (.tableswitch 79 2 6 #[36, 45, 54, 63, 71], 36) := by decide +kernel
theorem dX5_deliver_76 : decode cX5_deliver 76 = .ok (.aload_n 0, 1) := by decide +kernel
theorem dX5_deliver_77 : decode cX5_deliver 77 = .ok (.aload_n 2, 1) := by decide +kernel
theorem dX5_deliver_78 : decode cX5_deliver 78 = .ok (.aload_n 3, 1) := by decide +kernel
theorem dX5_deliver_79 : decode cX5_deliver 79 = .ok (.invokevirtual 236, 3) := by decide +kernel
theorem dX5_deliver_82 : decode cX5_deliver 82 = .ok (.goto 37, 3) := by decide +kernel
theorem dX5_deliver_85 : decode cX5_deliver 85 = .ok (.aload_n 0, 1) := by decide +kernel
theorem dX5_deliver_86 : decode cX5_deliver 86 = .ok (.aload_n 2, 1) := by decide +kernel
theorem dX5_deliver_87 : decode cX5_deliver 87 = .ok (.aload_n 3, 1) := by decide +kernel
theorem dX5_deliver_88 : decode cX5_deliver 88 = .ok (.invokevirtual 240, 3) := by decide +kernel
theorem dX5_deliver_91 : decode cX5_deliver 91 = .ok (.goto 28, 3) := by decide +kernel
theorem dX5_deliver_94 : decode cX5_deliver 94 = .ok (.aload_n 0, 1) := by decide +kernel
theorem dX5_deliver_95 : decode cX5_deliver 95 = .ok (.aload_n 2, 1) := by decide +kernel
theorem dX5_deliver_96 : decode cX5_deliver 96 = .ok (.aload_n 3, 1) := by decide +kernel
theorem dX5_deliver_97 : decode cX5_deliver 97 = .ok (.invokevirtual 243, 3) := by decide +kernel
theorem dX5_deliver_100 : decode cX5_deliver 100 = .ok (.goto 19, 3) := by decide +kernel
theorem dX5_deliver_103 : decode cX5_deliver 103 = .ok (.aload_n 0, 1) := by decide +kernel
theorem dX5_deliver_104 : decode cX5_deliver 104 = .ok (.aload_n 3, 1) := by decide +kernel
theorem dX5_deliver_105 : decode cX5_deliver 105 = .ok (.invokevirtual 246, 3) := by decide +kernel
theorem dX5_deliver_108 : decode cX5_deliver 108 = .ok (.goto 11, 3) := by decide +kernel
theorem dX5_deliver_111 : decode cX5_deliver 111 = .ok (.aload_n 0, 1) := by decide +kernel
theorem dX5_deliver_112 : decode cX5_deliver 112 = .ok (.aload_n 3, 1) := by decide +kernel
theorem dX5_deliver_113 : decode cX5_deliver 113 = .ok (.invokevirtual 249, 3) := by decide +kernel
theorem dX5_deliver_116 : decode cX5_deliver 116 = .ok (.goto 3, 3) := by decide +kernel
theorem dX5_deliver_119 : decode cX5_deliver 119 = .ok (.return_, 1) := by decide +kernel
set_option maxRecDepth 20000 in
theorem ggX5_askNextHome_X5_nearestListedFree : GoodIn wsX5_askNextHome wsX5_nearestListedFree := goodIn_r _ [9, 10, 4, 3, 11, 12, 13, 14, 15, 16, 17, 18, 19, 20, 21, 22, 23, 8, 24, 25, 26, 27, 28, 75, 76, 77, 78, 79, 80, 81, 60, 61, 62, 63, 64, 65, 66, 67, 68, 69, 70, 71, 72, 73, 74] (by decide +kernel) (by decide +kernel)
set_option maxRecDepth 20000 in
theorem gX5_askNextHome_X5_nearestListedFree : GoodIn wsX5_askNextHome (wsV RX5 252 RX5 yX5_nearestListedFree wsX5_nearestListedFree) := goodIn_app (goodIn_of _ (by decide +kernel)) ggX5_askNextHome_X5_nearestListedFree
set_option maxRecDepth 20000 in
theorem ggX5_askNextHome_X3_markAsked : GoodIn wsX5_askNextHome wsX3_markAsked := goodIn_r _ [32, 16, 60, 61, 62, 63, 64, 65, 66] (by decide +kernel) (by decide +kernel)
set_option maxRecDepth 20000 in
theorem gX5_askNextHome_X3_markAsked : GoodIn wsX5_askNextHome (wsV RX5 256 RX3 yX3_markAsked wsX3_markAsked) := goodIn_app (goodIn_of _ (by decide +kernel)) ggX5_askNextHome_X3_markAsked
set_option maxRecDepth 20000 in
theorem ggX5_askNextHome_X5_way : GoodIn wsX5_askNextHome wsX5_way := goodIn_r _ [24, 25, 26, 27, 28] (by decide +kernel) (by decide +kernel)
set_option maxRecDepth 20000 in
theorem gX5_askNextHome_X5_way : GoodIn wsX5_askNextHome (va_wsS RX5 152 yX5_way wsX5_way) := goodIn_app (goodIn_of _ (by decide +kernel)) ggX5_askNextHome_X5_way
set_option maxRecDepth 20000 in
theorem ggX5_askNextHome_X5_send : GoodIn wsX5_askNextHome wsX5_send := goodIn_r _ [36, 37, 38, 39, 40, 41, 42, 43, 44, 45, 46, 47, 48, 49, 50, 51, 52, 53, 54, 55, 56, 57, 58, 59, 75, 76, 77, 78, 79, 80, 81, 82, 83, 84, 85, 86, 87] (by decide +kernel) (by decide +kernel)
set_option maxRecDepth 20000 in
theorem gX5_askNextHome_X5_send : GoodIn wsX5_askNextHome (wsV RX5 156 RX5 yX5_send wsX5_send) := goodIn_app (goodIn_of _ (by decide +kernel)) ggX5_askNextHome_X5_send
theorem dX5_askNextHome_0 : decode cX5_askNextHome 0 = .ok (.aload_n 0, 1) := by decide +kernel
theorem dX5_askNextHome_1 : decode cX5_askNextHome 1 = .ok (.aload_n 1, 1) := by decide +kernel
theorem dX5_askNextHome_2 : decode cX5_askNextHome 2 = .ok (.invokevirtual 252, 3) := by decide +kernel
theorem dX5_askNextHome_5 : decode cX5_askNextHome 5 = .ok (.astore_n 2, 1) := by decide +kernel
theorem dX5_askNextHome_6 : decode cX5_askNextHome 6 = .ok (.aload_n 1, 1) := by decide +kernel
theorem dX5_askNextHome_7 : decode cX5_askNextHome 7 = .ok (.aload_n 2, 1) := by decide +kernel
theorem dX5_askNextHome_8 : decode cX5_askNextHome 8 = .ok (.putfield 134, 3) := by decide +kernel
theorem dX5_askNextHome_11 : decode cX5_askNextHome 11 = .ok (.aload_n 2, 1) := by decide +kernel
theorem dX5_askNextHome_12 : decode cX5_askNextHome 12 = .ok (.ifnonnull 9, 3) := by decide +kernel
theorem dX5_askNextHome_15 : decode cX5_askNextHome 15 = .ok (.aload_n 1, 1) := by decide +kernel
theorem dX5_askNextHome_16 : decode cX5_askNextHome 16 = .ok (.iconst 5, 1) := by decide +kernel
theorem dX5_askNextHome_17 : decode cX5_askNextHome 17 = .ok (.putfield 131, 3) := by decide +kernel
theorem dX5_askNextHome_20 : decode cX5_askNextHome 20 = .ok (.return_, 1) := by decide +kernel
theorem dX5_askNextHome_21 : decode cX5_askNextHome 21 = .ok (.aload_n 1, 1) := by decide +kernel
theorem dX5_askNextHome_22 : decode cX5_askNextHome 22 = .ok (.aload_n 2, 1) := by decide +kernel
theorem dX5_askNextHome_23 : decode cX5_askNextHome 23 = .ok (.getfield 149, 3) := by decide +kernel
theorem dX5_askNextHome_26 : decode cX5_askNextHome 26 = .ok (.invokevirtual 256, 3) := by decide +kernel
theorem dX5_askNextHome_29 : decode cX5_askNextHome 29 = .ok (.aload_n 0, 1) := by decide +kernel
theorem dX5_askNextHome_30 : decode cX5_askNextHome 30 = .ok (.iconst 2, 1) := by decide +kernel
theorem dX5_askNextHome_31 : decode cX5_askNextHome 31 = .ok (.aload_n 1, 1) := by decide +kernel
theorem dX5_askNextHome_32 : decode cX5_askNextHome 32 = .ok (.getfield 146, 3) := by decide +kernel
theorem dX5_askNextHome_35 : decode cX5_askNextHome 35 = .ok (.aload_n 2, 1) := by decide +kernel
theorem dX5_askNextHome_36 : decode cX5_askNextHome 36 = .ok (.getfield 149, 3) := by decide +kernel
theorem dX5_askNextHome_39 : decode cX5_askNextHome 39 = .ok (.invokestatic 152, 3) := by decide +kernel
theorem dX5_askNextHome_42 : decode cX5_askNextHome 42 = .ok (.aload_n 2, 1) := by decide +kernel
theorem dX5_askNextHome_43 : decode cX5_askNextHome 43 = .ok (.aload_n 1, 1) := by decide +kernel
theorem dX5_askNextHome_44 : decode cX5_askNextHome 44 = .ok (.invokevirtual 156, 3) := by decide +kernel
theorem dX5_askNextHome_47 : decode cX5_askNextHome 47 = .ok (.pop, 1) := by decide +kernel
theorem dX5_askNextHome_48 : decode cX5_askNextHome 48 = .ok (.return_, 1) := by decide +kernel
set_option maxRecDepth 20000 in
theorem ggX5_nearestListedFree_X3_mayAskFor : GoodIn wsX5_nearestListedFree wsX3_mayAskFor := goodIn_r _ [8, 9, 10, 11, 12, 13, 14, 30, 31, 32, 33, 34, 35, 36, 37, 38, 39, 40, 41, 42, 43, 44] (by decide +kernel) (by decide +kernel)
set_option maxRecDepth 20000 in
theorem gX5_nearestListedFree_X3_mayAskFor : GoodIn wsX5_nearestListedFree (wsV RX5 259 RX3 yX3_mayAskFor wsX3_mayAskFor) := goodIn_app (goodIn_of _ (by decide +kernel)) ggX5_nearestListedFree_X3_mayAskFor
set_option maxRecDepth 20000 in
theorem ggX5_nearestListedFree_X5_way : GoodIn wsX5_nearestListedFree wsX5_way := goodIn_r _ [18, 19, 20, 21, 22] (by decide +kernel) (by decide +kernel)
set_option maxRecDepth 20000 in
theorem gX5_nearestListedFree_X5_way : GoodIn wsX5_nearestListedFree (va_wsS RX5 152 yX5_way wsX5_way) := goodIn_app (goodIn_of _ (by decide +kernel)) ggX5_nearestListedFree_X5_way
theorem dX5_nearestListedFree_0 : decode cX5_nearestListedFree 0 = .ok (.aconst_null, 1) := by decide +kernel
theorem dX5_nearestListedFree_1 : decode cX5_nearestListedFree 1 = .ok (.astore_n 2, 1) := by decide +kernel
theorem dX5_nearestListedFree_2 : decode cX5_nearestListedFree 2 = .ok (.iconst 0, 1) := by decide +kernel
theorem dX5_nearestListedFree_3 : decode cX5_nearestListedFree 3 = .ok (.istore_n 3, 1) := by decide +kernel
theorem dX5_nearestListedFree_4 : decode cX5_nearestListedFree 4 = .ok (.aload_n 0, 1) := by decide +kernel
theorem dX5_nearestListedFree_5 : decode cX5_nearestListedFree 5 = .ok (.getfield 11, 3) := by decide +kernel
theorem dX5_nearestListedFree_8 : decode cX5_nearestListedFree 8 = .ok (.astore 4, 2) := by decide +kernel
theorem dX5_nearestListedFree_10 : decode cX5_nearestListedFree 10 = .ok (.aload 4, 2) := by decide +kernel
theorem dX5_nearestListedFree_12 : decode cX5_nearestListedFree 12 = .ok (.arraylength, 1) := by decide +kernel
theorem dX5_nearestListedFree_13 : decode cX5_nearestListedFree 13 = .ok (.istore 5, 2) := by decide +kernel
theorem dX5_nearestListedFree_15 : decode cX5_nearestListedFree 15 = .ok (.iconst 0, 1) := by decide +kernel
theorem dX5_nearestListedFree_16 : decode cX5_nearestListedFree 16 = .ok (.istore 6, 2) := by decide +kernel
theorem dX5_nearestListedFree_18 : decode cX5_nearestListedFree 18 = .ok (.iload 6, 2) := by decide +kernel
theorem dX5_nearestListedFree_20 : decode cX5_nearestListedFree 20 = .ok (.iload 5, 2) := by decide +kernel
theorem dX5_nearestListedFree_22 : decode cX5_nearestListedFree 22 = .ok (.if_icmp .ge 63, 3) := by decide +kernel
theorem dX5_nearestListedFree_25 : decode cX5_nearestListedFree 25 = .ok (.aload 4, 2) := by decide +kernel
theorem dX5_nearestListedFree_27 : decode cX5_nearestListedFree 27 = .ok (.iload 6, 2) := by decide +kernel
theorem dX5_nearestListedFree_29 : decode cX5_nearestListedFree 29 = .ok (.aaload, 1) := by decide +kernel
theorem dX5_nearestListedFree_30 : decode cX5_nearestListedFree 30 = .ok (.astore 7, 2) := by decide +kernel
theorem dX5_nearestListedFree_32 : decode cX5_nearestListedFree 32 = .ok (.aload 7, 2) := by decide +kernel
theorem dX5_nearestListedFree_34 : decode cX5_nearestListedFree 34 = .ok (.ifnull 45, 3) := by decide +kernel
theorem dX5_nearestListedFree_37 : decode cX5_nearestListedFree 37 = .ok (.aload_n 1, 1) := by decide +kernel
theorem dX5_nearestListedFree_38 : decode cX5_nearestListedFree 38 = .ok (.aload 7, 2) := by decide +kernel
theorem dX5_nearestListedFree_40 : decode cX5_nearestListedFree 40 = .ok (.invokevirtual 259, 3) := by decide +kernel
theorem dX5_nearestListedFree_43 : decode cX5_nearestListedFree 43 = .ok (.ifCond .ne 6, 3) := by decide +kernel
theorem dX5_nearestListedFree_46 : decode cX5_nearestListedFree 46 = .ok (.goto 33, 3) := by decide +kernel
theorem dX5_nearestListedFree_49 : decode cX5_nearestListedFree 49 = .ok (.aload_n 1, 1) := by decide +kernel
theorem dX5_nearestListedFree_50 : decode cX5_nearestListedFree 50 = .ok (.getfield 146, 3) := by decide +kernel
theorem dX5_nearestListedFree_53 : decode cX5_nearestListedFree 53 = .ok (.aload 7, 2) := by decide +kernel
theorem dX5_nearestListedFree_55 : decode cX5_nearestListedFree 55 = .ok (.getfield 149, 3) := by decide +kernel
theorem dX5_nearestListedFree_58 : decode cX5_nearestListedFree 58 = .ok (.invokestatic 152, 3) := by decide +kernel
theorem dX5_nearestListedFree_61 : decode cX5_nearestListedFree 61 = .ok (.istore 8, 2) := by decide +kernel
theorem dX5_nearestListedFree_63 : decode cX5_nearestListedFree 63 = .ok (.aload_n 2, 1) := by decide +kernel
theorem dX5_nearestListedFree_64 : decode cX5_nearestListedFree 64 = .ok (.ifnull 9, 3) := by decide +kernel
theorem dX5_nearestListedFree_67 : decode cX5_nearestListedFree 67 = .ok (.iload 8, 2) := by decide +kernel
theorem dX5_nearestListedFree_69 : decode cX5_nearestListedFree 69 = .ok (.iload_n 3, 1) := by decide +kernel
theorem dX5_nearestListedFree_70 : decode cX5_nearestListedFree 70 = .ok (.if_icmp .ge 9, 3) := by decide +kernel
theorem dX5_nearestListedFree_73 : decode cX5_nearestListedFree 73 = .ok (.aload 7, 2) := by decide +kernel
theorem dX5_nearestListedFree_75 : decode cX5_nearestListedFree 75 = .ok (.astore_n 2, 1) := by decide +kernel
theorem dX5_nearestListedFree_76 : decode cX5_nearestListedFree 76 = .ok (.iload 8, 2) := by decide +kernel
theorem dX5_nearestListedFree_78 : decode cX5_nearestListedFree 78 = .ok (.istore_n 3, 1) := by decide +kernel
theorem dX5_nearestListedFree_79 : decode cX5_nearestListedFree 79 = .ok (.iinc 6 1, 3) := by decide +kernel
theorem dX5_nearestListedFree_82 : decode cX5_nearestListedFree 82 = .ok (.goto (-64), 3) := by decide +kernel
theorem dX5_nearestListedFree_85 : decode cX5_nearestListedFree 85 = .ok (.aload_n 2, 1) := by decide +kernel
theorem dX5_nearestListedFree_86 : decode cX5_nearestListedFree 86 = .ok (.areturn, 1) := by decide +kernel
set_option maxRecDepth 20000 in
theorem ggX5_answerQuestion_X1_canBeSent : GoodIn wsX5_answerQuestion wsX1_canBeSent := goodIn_r _ [9, 10, 11, 12, 13, 8, 14, 15, 16, 17, 92, 93, 94, 95, 96, 97, 98, 99] (by decide +kernel) (by decide +kernel)
set_option maxRecDepth 20000 in
theorem gX5_answerQuestion_X1_canBeSent : GoodIn wsX5_answerQuestion (wsV RX5 83 RX1 yX1_canBeSent wsX1_canBeSent) := goodIn_app (goodIn_of _ (by decide +kernel)) ggX5_answerQuestion_X1_canBeSent
set_option maxRecDepth 20000 in
theorem ggX5_answerQuestion_X5_askNextHome : GoodIn wsX5_answerQuestion wsX5_askNextHome := goodIn_r _ [22, 23, 1, 4, 3, 24, 25, 26, 21, 27, 28, 29, 30, 31, 32, 33, 34, 35, 36, 37, 38, 39, 40, 41, 42, 43, 44, 45, 46, 47, 48, 49, 50, 51, 52, 53, 54, 55, 56, 57, 58, 59, 60, 61, 62, 63, 64, 65, 66, 67, 68, 69, 70, 71, 72, 73, 74, 75, 76, 77, 85, 86, 87, 88, 89, 90, 91, 92, 93, 94, 95, 96, 97, 98, 99, 100, 101, 102, 103, 104, 105, 106, 107, 108, 109, 110, 111, 112] (by decide +kernel) (by decide +kernel)
set_option maxRecDepth 20000 in
theorem gX5_answerQuestion_X5_askNextHome : GoodIn wsX5_answerQuestion (wsV RX5 123 RX5 yX5_askNextHome wsX5_askNextHome) := goodIn_app (goodIn_of _ (by decide +kernel)) ggX5_answerQuestion_X5_askNextHome
set_option maxRecDepth 20000 in
theorem ggX5_answerQuestion_X5_way : GoodIn wsX5_answerQuestion wsX5_way := goodIn_r _ [42, 43, 44, 45, 46] (by decide +kernel) (by decide +kernel)
set_option maxRecDepth 20000 in
theorem gX5_answerQuestion_X5_way : GoodIn wsX5_answerQuestion (va_wsS RX5 152 yX5_way wsX5_way) := goodIn_app (goodIn_of _ (by decide +kernel)) ggX5_answerQuestion_X5_way
set_option maxRecDepth 20000 in
theorem ggX5_answerQuestion_X5_send : GoodIn wsX5_answerQuestion wsX5_send := goodIn_r _ [54, 55, 56, 57, 58, 59, 60, 61, 62, 63, 64, 65, 66, 67, 68, 69, 70, 71, 72, 73, 74, 75, 76, 77, 100, 101, 102, 103, 104, 105, 106, 107, 108, 109, 110, 111, 112] (by decide +kernel) (by decide +kernel)
set_option maxRecDepth 20000 in
theorem gX5_answerQuestion_X5_send : GoodIn wsX5_answerQuestion (wsV RX5 156 RX5 yX5_send wsX5_send) := goodIn_app (goodIn_of _ (by decide +kernel)) ggX5_answerQuestion_X5_send
set_option maxRecDepth 20000 in
theorem ggX5_answerQuestion_X5_sendNews : GoodIn wsX5_answerQuestion wsX5_sendNews := goodIn_r _ [81, 4, 82, 83, 21, 84, 51, 52, 53, 54, 55, 56, 57, 58, 59, 60, 61, 62, 63, 64, 65, 66, 67, 68, 69, 70, 71, 72, 73, 74, 75, 76, 77, 92, 93, 94, 95, 96, 97, 98, 99, 100, 101, 102, 103, 104, 105, 106, 107, 108, 109, 110, 111, 112] (by decide +kernel) (by decide +kernel)
set_option maxRecDepth 20000 in
theorem gX5_answerQuestion_X5_sendNews : GoodIn wsX5_answerQuestion (wsV RX5 72 RX5 yX5_sendNews wsX5_sendNews) := goodIn_app (goodIn_of _ (by decide +kernel)) ggX5_answerQuestion_X5_sendNews
theorem dX5_answerQuestion_0 : decode cX5_answerQuestion 0 = .ok (.aload_n 1, 1) := by decide +kernel
theorem dX5_answerQuestion_1 : decode cX5_answerQuestion 1 = .ok (.invokevirtual 83, 3) := by decide +kernel
theorem dX5_answerQuestion_4 : decode cX5_answerQuestion 4 = .ok (.ifCond .ne 9, 3) := by decide +kernel
theorem dX5_answerQuestion_7 : decode cX5_answerQuestion 7 = .ok (.aload_n 0, 1) := by decide +kernel
theorem dX5_answerQuestion_8 : decode cX5_answerQuestion 8 = .ok (.aload_n 2, 1) := by decide +kernel
theorem dX5_answerQuestion_9 : decode cX5_answerQuestion 9 = .ok (.invokevirtual 123, 3) := by decide +kernel
theorem dX5_answerQuestion_12 : decode cX5_answerQuestion 12 = .ok (.return_, 1) := by decide +kernel
theorem dX5_answerQuestion_13 : decode cX5_answerQuestion 13 = .ok (.aload_n 2, 1) := by decide +kernel
theorem dX5_answerQuestion_14 : decode cX5_answerQuestion 14 = .ok (.iconst 1, 1) := by decide +kernel
theorem dX5_answerQuestion_15 : decode cX5_answerQuestion 15 = .ok (.putfield 131, 3) := by decide +kernel
theorem dX5_answerQuestion_18 : decode cX5_answerQuestion 18 = .ok (.aload_n 1, 1) := by decide +kernel
theorem dX5_answerQuestion_19 : decode cX5_answerQuestion 19 = .ok (.iconst 1, 1) := by decide +kernel
theorem dX5_answerQuestion_20 : decode cX5_answerQuestion 20 = .ok (.putfield 98, 3) := by decide +kernel
theorem dX5_answerQuestion_23 : decode cX5_answerQuestion 23 = .ok (.aload_n 0, 1) := by decide +kernel
theorem dX5_answerQuestion_24 : decode cX5_answerQuestion 24 = .ok (.iconst 3, 1) := by decide +kernel
theorem dX5_answerQuestion_25 : decode cX5_answerQuestion 25 = .ok (.aload_n 2, 1) := by decide +kernel
theorem dX5_answerQuestion_26 : decode cX5_answerQuestion 26 = .ok (.getfield 146, 3) := by decide +kernel
theorem dX5_answerQuestion_29 : decode cX5_answerQuestion 29 = .ok (.aload_n 1, 1) := by decide +kernel
theorem dX5_answerQuestion_30 : decode cX5_answerQuestion 30 = .ok (.getfield 149, 3) := by decide +kernel
theorem dX5_answerQuestion_33 : decode cX5_answerQuestion 33 = .ok (.invokestatic 152, 3) := by decide +kernel
theorem dX5_answerQuestion_36 : decode cX5_answerQuestion 36 = .ok (.aload_n 1, 1) := by decide +kernel
theorem dX5_answerQuestion_37 : decode cX5_answerQuestion 37 = .ok (.aload_n 2, 1) := by decide +kernel
theorem dX5_answerQuestion_38 : decode cX5_answerQuestion 38 = .ok (.invokevirtual 156, 3) := by decide +kernel
theorem dX5_answerQuestion_41 : decode cX5_answerQuestion 41 = .ok (.pop, 1) := by decide +kernel
theorem dX5_answerQuestion_42 : decode cX5_answerQuestion 42 = .ok (.aload_n 0, 1) := by decide +kernel
theorem dX5_answerQuestion_43 : decode cX5_answerQuestion 43 = .ok (.iconst 1, 1) := by decide +kernel
theorem dX5_answerQuestion_44 : decode cX5_answerQuestion 44 = .ok (.aload_n 1, 1) := by decide +kernel
theorem dX5_answerQuestion_45 : decode cX5_answerQuestion 45 = .ok (.invokevirtual 72, 3) := by decide +kernel
theorem dX5_answerQuestion_48 : decode cX5_answerQuestion 48 = .ok (.return_, 1) := by decide +kernel
set_option maxRecDepth 20000 in
theorem ggX5_beginLoan_X0_chargeLoan : GoodIn wsX5_beginLoan wsX0_chargeLoan := goodIn_r _ [13, 14, 15, 16, 17, 18, 19, 20, 21, 12, 22, 23, 46, 47, 48] (by decide +kernel) (by decide +kernel)
set_option maxRecDepth 20000 in
theorem gX5_beginLoan_X0_chargeLoan : GoodIn wsX5_beginLoan (wsV RX5 263 RX0 yX0_chargeLoan wsX0_chargeLoan) := goodIn_app (goodIn_of _ (by decide +kernel)) ggX5_beginLoan_X0_chargeLoan
theorem dX5_beginLoan_0 : decode cX5_beginLoan 0 = .ok (.aload_n 1, 1) := by decide +kernel
theorem dX5_beginLoan_1 : decode cX5_beginLoan 1 = .ok (.aload_n 2, 1) := by decide +kernel
theorem dX5_beginLoan_2 : decode cX5_beginLoan 2 = .ok (.getfield 146, 3) := by decide +kernel
theorem dX5_beginLoan_5 : decode cX5_beginLoan 5 = .ok (.putfield 80, 3) := by decide +kernel
theorem dX5_beginLoan_8 : decode cX5_beginLoan 8 = .ok (.aload_n 1, 1) := by decide +kernel
theorem dX5_beginLoan_9 : decode cX5_beginLoan 9 = .ok (.iconst 0, 1) := by decide +kernel
theorem dX5_beginLoan_10 : decode cX5_beginLoan 10 = .ok (.putfield 98, 3) := by decide +kernel
theorem dX5_beginLoan_13 : decode cX5_beginLoan 13 = .ok (.aload_n 2, 1) := by decide +kernel
theorem dX5_beginLoan_14 : decode cX5_beginLoan 14 = .ok (.iconst 2, 1) := by decide +kernel
theorem dX5_beginLoan_15 : decode cX5_beginLoan 15 = .ok (.putfield 131, 3) := by decide +kernel
theorem dX5_beginLoan_18 : decode cX5_beginLoan 18 = .ok (.aload_n 2, 1) := by decide +kernel
theorem dX5_beginLoan_19 : decode cX5_beginLoan 19 = .ok (.aload_n 0, 1) := by decide +kernel
theorem dX5_beginLoan_20 : decode cX5_beginLoan 20 = .ok (.getfield 44, 3) := by decide +kernel
theorem dX5_beginLoan_23 : decode cX5_beginLoan 23 = .ok (.bipush 20, 2) := by decide +kernel
theorem dX5_beginLoan_25 : decode cX5_beginLoan 25 = .ok (.iadd, 1) := by decide +kernel
theorem dX5_beginLoan_26 : decode cX5_beginLoan 26 = .ok (.putfield 143, 3) := by decide +kernel
theorem dX5_beginLoan_29 : decode cX5_beginLoan 29 = .ok (.aload_n 0, 1) := by decide +kernel
theorem dX5_beginLoan_30 : decode cX5_beginLoan 30 = .ok (.getfield 33, 3) := by decide +kernel
theorem dX5_beginLoan_33 : decode cX5_beginLoan 33 = .ok (.aload_n 2, 1) := by decide +kernel
theorem dX5_beginLoan_34 : decode cX5_beginLoan 34 = .ok (.getfield 146, 3) := by decide +kernel
theorem dX5_beginLoan_37 : decode cX5_beginLoan 37 = .ok (.aload_n 1, 1) := by decide +kernel
theorem dX5_beginLoan_38 : decode cX5_beginLoan 38 = .ok (.getfield 149, 3) := by decide +kernel
theorem dX5_beginLoan_41 : decode cX5_beginLoan 41 = .ok (.invokevirtual 263, 3) := by decide +kernel
theorem dX5_beginLoan_44 : decode cX5_beginLoan 44 = .ok (.return_, 1) := by decide +kernel
theorem dX5_prolong_0 : decode cX5_prolong 0 = .ok (.aload_n 1, 1) := by decide +kernel
theorem dX5_prolong_1 : decode cX5_prolong 1 = .ok (.getfield 131, 3) := by decide +kernel
theorem dX5_prolong_4 : decode cX5_prolong 4 = .ok (.iconst 2, 1) := by decide +kernel
theorem dX5_prolong_5 : decode cX5_prolong 5 = .ok (.if_icmp .ne 21, 3) := by decide +kernel
theorem dX5_prolong_8 : decode cX5_prolong 8 = .ok (.aload_n 1, 1) := by decide +kernel
theorem dX5_prolong_9 : decode cX5_prolong 9 = .ok (.getfield 160, 3) := by decide +kernel
theorem dX5_prolong_12 : decode cX5_prolong 12 = .ok (.ifCond .ne 14, 3) := by decide +kernel
theorem dX5_prolong_15 : decode cX5_prolong 15 = .ok (.aload_n 1, 1) := by decide +kernel
theorem dX5_prolong_16 : decode cX5_prolong 16 = .ok (.dup, 1) := by decide +kernel
theorem dX5_prolong_17 : decode cX5_prolong 17 = .ok (.getfield 143, 3) := by decide +kernel
theorem dX5_prolong_20 : decode cX5_prolong 20 = .ok (.bipush 20, 2) := by decide +kernel
theorem dX5_prolong_22 : decode cX5_prolong 22 = .ok (.iadd, 1) := by decide +kernel
theorem dX5_prolong_23 : decode cX5_prolong 23 = .ok (.putfield 143, 3) := by decide +kernel
theorem dX5_prolong_26 : decode cX5_prolong 26 = .ok (.return_, 1) := by decide +kernel
theorem dX5_shorten_0 : decode cX5_shorten 0 = .ok (.aload_n 1, 1) := by decide +kernel
theorem dX5_shorten_1 : decode cX5_shorten 1 = .ok (.getfield 131, 3) := by decide +kernel
theorem dX5_shorten_4 : decode cX5_shorten 4 = .ok (.iconst 2, 1) := by decide +kernel
theorem dX5_shorten_5 : decode cX5_shorten 5 = .ok (.if_icmp .ne 20, 3) := by decide +kernel
theorem dX5_shorten_8 : decode cX5_shorten 8 = .ok (.aload_n 1, 1) := by decide +kernel
theorem dX5_shorten_9 : decode cX5_shorten 9 = .ok (.aload_n 1, 1) := by decide +kernel
theorem dX5_shorten_10 : decode cX5_shorten 10 = .ok (.getfield 143, 3) := by decide +kernel
theorem dX5_shorten_13 : decode cX5_shorten 13 = .ok (.aload_n 0, 1) := by decide +kernel
theorem dX5_shorten_14 : decode cX5_shorten 14 = .ok (.getfield 44, 3) := by decide +kernel
theorem dX5_shorten_17 : decode cX5_shorten 17 = .ok (.iconst 5, 1) := by decide +kernel
theorem dX5_shorten_18 : decode cX5_shorten 18 = .ok (.iadd, 1) := by decide +kernel
theorem dX5_shorten_19 : decode cX5_shorten 19 = .ok (.invokestatic 266, 3) := by decide +kernel
theorem dX5_shorten_22 : decode cX5_shorten 22 = .ok (.putfield 143, 3) := by decide +kernel
theorem dX5_shorten_25 : decode cX5_shorten 25 = .ok (.return_, 1) := by decide +kernel
set_option maxRecDepth 20000 in
theorem ggX5_comeHome_X5_examine : GoodIn wsX5_comeHome wsX5_examine := goodIn_r _ [9, 10, 11, 1, 12, 13, 14, 15, 16, 17, 18, 19, 20, 21, 22, 23, 24, 25, 8, 26, 73, 74, 75, 76, 77, 78, 79, 80, 88, 89, 90, 91, 92, 93, 94, 95, 96, 97] (by decide +kernel) (by decide +kernel)
set_option maxRecDepth 20000 in
theorem gX5_comeHome_X5_examine : GoodIn wsX5_comeHome (wsV RX5 104 RX5 yX5_examine wsX5_examine) := goodIn_app (goodIn_of _ (by decide +kernel)) ggX5_comeHome_X5_examine
set_option maxRecDepth 20000 in
theorem ggX5_comeHome_X1_canBeSent : GoodIn wsX5_comeHome wsX1_canBeSent := goodIn_r _ [30, 31, 32, 33, 34, 16, 35, 36, 37, 38, 73, 74, 75, 76, 77, 78, 79, 80] (by decide +kernel) (by decide +kernel)
set_option maxRecDepth 20000 in
theorem gX5_comeHome_X1_canBeSent : GoodIn wsX5_comeHome (wsV RX5 83 RX1 yX1_canBeSent wsX1_canBeSent) := goodIn_app (goodIn_of _ (by decide +kernel)) ggX5_comeHome_X1_canBeSent
set_option maxRecDepth 20000 in
theorem ggX5_comeHome_X5_sendNews : GoodIn wsX5_comeHome wsX5_sendNews := goodIn_r _ [42, 1, 43, 44, 8, 45, 46, 47, 48, 49, 50, 51, 52, 53, 54, 55, 56, 57, 58, 59, 60, 61, 62, 63, 64, 65, 66, 67, 68, 69, 70, 71, 72, 73, 74, 75, 76, 77, 78, 79, 80, 88, 89, 90, 91, 92, 93, 94, 98, 99, 100, 101, 102, 103] (by decide +kernel) (by decide +kernel)
set_option maxRecDepth 20000 in
theorem gX5_comeHome_X5_sendNews : GoodIn wsX5_comeHome (wsV RX5 72 RX5 yX5_sendNews wsX5_sendNews) := goodIn_app (goodIn_of _ (by decide +kernel)) ggX5_comeHome_X5_sendNews
theorem dX5_comeHome_0 : decode cX5_comeHome 0 = .ok (.aload_n 1, 1) := by decide +kernel
theorem dX5_comeHome_1 : decode cX5_comeHome 1 = .ok (.aload_n 1, 1) := by decide +kernel
theorem dX5_comeHome_2 : decode cX5_comeHome 2 = .ok (.getfield 149, 3) := by decide +kernel
theorem dX5_comeHome_5 : decode cX5_comeHome 5 = .ok (.putfield 80, 3) := by decide +kernel
theorem dX5_comeHome_8 : decode cX5_comeHome 8 = .ok (.aload_n 1, 1) := by decide +kernel
theorem dX5_comeHome_9 : decode cX5_comeHome 9 = .ok (.iconst 0, 1) := by decide +kernel
theorem dX5_comeHome_10 : decode cX5_comeHome 10 = .ok (.putfield 98, 3) := by decide +kernel
theorem dX5_comeHome_13 : decode cX5_comeHome 13 = .ok (.aload_n 2, 1) := by decide +kernel
theorem dX5_comeHome_14 : decode cX5_comeHome 14 = .ok (.iconst 4, 1) := by decide +kernel
theorem dX5_comeHome_15 : decode cX5_comeHome 15 = .ok (.putfield 131, 3) := by decide +kernel
theorem dX5_comeHome_18 : decode cX5_comeHome 18 = .ok (.aload_n 0, 1) := by decide +kernel
theorem dX5_comeHome_19 : decode cX5_comeHome 19 = .ok (.aload_n 1, 1) := by decide +kernel
theorem dX5_comeHome_20 : decode cX5_comeHome 20 = .ok (.invokevirtual 104, 3) := by decide +kernel
theorem dX5_comeHome_23 : decode cX5_comeHome 23 = .ok (.pop, 1) := by decide +kernel
theorem dX5_comeHome_24 : decode cX5_comeHome 24 = .ok (.aload_n 1, 1) := by decide +kernel
theorem dX5_comeHome_25 : decode cX5_comeHome 25 = .ok (.invokevirtual 83, 3) := by decide +kernel
theorem dX5_comeHome_28 : decode cX5_comeHome 28 = .ok (.ifCond .eq 9, 3) := by decide +kernel
theorem dX5_comeHome_31 : decode cX5_comeHome 31 = .ok (.aload_n 0, 1) := by decide +kernel
theorem dX5_comeHome_32 : decode cX5_comeHome 32 = .ok (.iconst 0, 1) := by decide +kernel
theorem dX5_comeHome_33 : decode cX5_comeHome 33 = .ok (.aload_n 1, 1) := by decide +kernel
theorem dX5_comeHome_34 : decode cX5_comeHome 34 = .ok (.invokevirtual 72, 3) := by decide +kernel
theorem dX5_comeHome_37 : decode cX5_comeHome 37 = .ok (.return_, 1) := by decide +kernel
set_option maxRecDepth 20000 in
theorem ggX5_examine_X1_isHarmed : GoodIn wsX5_examine wsX1_isHarmed := goodIn_r _ [9, 10, 20, 21, 22, 23, 24, 25, 26, 27] (by decide +kernel) (by decide +kernel)
set_option maxRecDepth 20000 in
theorem gX5_examine_X1_isHarmed : GoodIn wsX5_examine (wsV RX5 90 RX1 yX1_isHarmed wsX1_isHarmed) := goodIn_app (goodIn_of _ (by decide +kernel)) ggX5_examine_X1_isHarmed
set_option maxRecDepth 20000 in
theorem ggX5_examine_X0_charge : GoodIn wsX5_examine wsX0_charge := goodIn_r _ [15, 16, 17, 18, 19, 35, 36, 37] (by decide +kernel) (by decide +kernel)
set_option maxRecDepth 20000 in
theorem gX5_examine_X0_charge : GoodIn wsX5_examine (wsV RX5 170 RX0 yX0_charge wsX0_charge) := goodIn_app (goodIn_of _ (by decide +kernel)) ggX5_examine_X0_charge
theorem dX5_examine_0 : decode cX5_examine 0 = .ok (.aload_n 1, 1) := by decide +kernel
theorem dX5_examine_1 : decode cX5_examine 1 = .ok (.invokevirtual 90, 3) := by decide +kernel
theorem dX5_examine_4 : decode cX5_examine 4 = .ok (.ifCond .eq 10, 3) := by decide +kernel
theorem dX5_examine_7 : decode cX5_examine 7 = .ok (.aload_n 1, 1) := by decide +kernel
theorem dX5_examine_8 : decode cX5_examine 8 = .ok (.getfield 111, 3) := by decide +kernel
theorem dX5_examine_11 : decode cX5_examine 11 = .ok (.ifCond .eq 5, 3) := by decide +kernel
theorem dX5_examine_14 : decode cX5_examine 14 = .ok (.iconst (-1), 1) := by decide +kernel
theorem dX5_examine_15 : decode cX5_examine 15 = .ok (.ireturn, 1) := by decide +kernel
theorem dX5_examine_16 : decode cX5_examine 16 = .ok (.aload_n 1, 1) := by decide +kernel
theorem dX5_examine_17 : decode cX5_examine 17 = .ok (.iconst 1, 1) := by decide +kernel
theorem dX5_examine_18 : decode cX5_examine 18 = .ok (.putfield 111, 3) := by decide +kernel
theorem dX5_examine_21 : decode cX5_examine 21 = .ok (.aload_n 1, 1) := by decide +kernel
theorem dX5_examine_22 : decode cX5_examine 22 = .ok (.getfield 95, 3) := by decide +kernel
theorem dX5_examine_25 : decode cX5_examine 25 = .ok (.aload_n 1, 1) := by decide +kernel
theorem dX5_examine_26 : decode cX5_examine 26 = .ok (.getfield 149, 3) := by decide +kernel
theorem dX5_examine_29 : decode cX5_examine 29 = .ok (.if_icmp .eq 20, 3) := by decide +kernel
theorem dX5_examine_32 : decode cX5_examine 32 = .ok (.aload_n 0, 1) := by decide +kernel
theorem dX5_examine_33 : decode cX5_examine 33 = .ok (.getfield 33, 3) := by decide +kernel
theorem dX5_examine_36 : decode cX5_examine 36 = .ok (.aload_n 1, 1) := by decide +kernel
theorem dX5_examine_37 : decode cX5_examine 37 = .ok (.getfield 95, 3) := by decide +kernel
theorem dX5_examine_40 : decode cX5_examine 40 = .ok (.aload_n 1, 1) := by decide +kernel
theorem dX5_examine_41 : decode cX5_examine 41 = .ok (.getfield 149, 3) := by decide +kernel
theorem dX5_examine_44 : decode cX5_examine 44 = .ok (.bipush 30, 2) := by decide +kernel
theorem dX5_examine_46 : decode cX5_examine 46 = .ok (.invokevirtual 170, 3) := by decide +kernel
theorem dX5_examine_49 : decode cX5_examine 49 = .ok (.aload_n 1, 1) := by decide +kernel
theorem dX5_examine_50 : decode cX5_examine 50 = .ok (.getfield 95, 3) := by decide +kernel
theorem dX5_examine_53 : decode cX5_examine 53 = .ok (.ireturn, 1) := by decide +kernel
theorem dX6_init_0 : decode cX6_init 0 = .ok (.aload_n 0, 1) := by decide +kernel
theorem dX6_init_1 : decode cX6_init 1 = .ok (.invokespecial 1, 3) := by decide +kernel
theorem dX6_init_4 : decode cX6_init 4 = .ok (.aload_n 0, 1) := by decide +kernel
theorem dX6_init_5 : decode cX6_init 5 = .ok (.bipush 20, 2) := by decide +kernel
theorem dX6_init_7 : decode cX6_init 7 = .ok (.newarray .int, 2) := by decide +kernel
theorem dX6_init_9 : decode cX6_init 9 = .ok (.putfield 7, 3) := by decide +kernel
theorem dX6_init_12 : decode cX6_init 12 = .ok (.aload_n 0, 1) := by decide +kernel
theorem dX6_init_13 : decode cX6_init 13 = .ok (.bipush 20, 2) := by decide +kernel
theorem dX6_init_15 : decode cX6_init 15 = .ok (.newarray .int, 2) := by decide +kernel
theorem dX6_init_17 : decode cX6_init 17 = .ok (.putfield 13, 3) := by decide +kernel
theorem dX6_init_20 : decode cX6_init 20 = .ok (.aload_n 0, 1) := by decide +kernel
theorem dX6_init_21 : decode cX6_init 21 = .ok (.bipush 20, 2) := by decide +kernel
theorem dX6_init_23 : decode cX6_init 23 = .ok (.newarray .int, 2) := by decide +kernel
theorem dX6_init_25 : decode cX6_init 25 = .ok (.putfield 16, 3) := by decide +kernel
theorem dX6_init_28 : decode cX6_init 28 = .ok (.aload_n 0, 1) := by decide +kernel
theorem dX6_init_29 : decode cX6_init 29 = .ok (.bipush 20, 2) := by decide +kernel
theorem dX6_init_31 : decode cX6_init 31 = .ok (.newarray .int, 2) := by decide +kernel
theorem dX6_init_33 : decode cX6_init 33 = .ok (.putfield 19, 3) := by decide +kernel
theorem dX6_init_36 : decode cX6_init 36 = .ok (.aload_n 0, 1) := by decide +kernel
theorem dX6_init_37 : decode cX6_init 37 = .ok (.bipush 20, 2) := by decide +kernel
theorem dX6_init_39 : decode cX6_init 39 = .ok (.newarray .int, 2) := by decide +kernel
theorem dX6_init_41 : decode cX6_init 41 = .ok (.putfield 22, 3) := by decide +kernel
theorem dX6_init_44 : decode cX6_init 44 = .ok (.aload_n 0, 1) := by decide +kernel
theorem dX6_init_45 : decode cX6_init 45 = .ok (.bipush 20, 2) := by decide +kernel
theorem dX6_init_47 : decode cX6_init 47 = .ok (.newarray .int, 2) := by decide +kernel
theorem dX6_init_49 : decode cX6_init 49 = .ok (.putfield 25, 3) := by decide +kernel
theorem dX6_init_52 : decode cX6_init 52 = .ok (.aload_n 0, 1) := by decide +kernel
theorem dX6_init_53 : decode cX6_init 53 = .ok (.bipush 20, 2) := by decide +kernel
theorem dX6_init_55 : decode cX6_init 55 = .ok (.newarray .int, 2) := by decide +kernel
theorem dX6_init_57 : decode cX6_init 57 = .ok (.putfield 28, 3) := by decide +kernel
theorem dX6_init_60 : decode cX6_init 60 = .ok (.aload_n 0, 1) := by decide +kernel
theorem dX6_init_61 : decode cX6_init 61 = .ok (.bipush 40, 2) := by decide +kernel
theorem dX6_init_63 : decode cX6_init 63 = .ok (.newarray .int, 2) := by decide +kernel
theorem dX6_init_65 : decode cX6_init 65 = .ok (.putfield 31, 3) := by decide +kernel
theorem dX6_init_68 : decode cX6_init 68 = .ok (.aload_n 0, 1) := by decide +kernel
theorem dX6_init_69 : decode cX6_init 69 = .ok (.bipush 40, 2) := by decide +kernel
theorem dX6_init_71 : decode cX6_init 71 = .ok (.newarray .int, 2) := by decide +kernel
theorem dX6_init_73 : decode cX6_init 73 = .ok (.putfield 34, 3) := by decide +kernel
theorem dX6_init_76 : decode cX6_init 76 = .ok (.aload_n 0, 1) := by decide +kernel
theorem dX6_init_77 : decode cX6_init 77 = .ok (.bipush 40, 2) := by decide +kernel
theorem dX6_init_79 : decode cX6_init 79 = .ok (.newarray .int, 2) := by decide +kernel
theorem dX6_init_81 : decode cX6_init 81 = .ok (.putfield 37, 3) := by decide +kernel
theorem dX6_init_84 : decode cX6_init 84 = .ok (.aload_n 0, 1) := by decide +kernel
theorem dX6_init_85 : decode cX6_init 85 = .ok (.bipush 40, 2) := by decide +kernel
theorem dX6_init_87 : decode cX6_init 87 = .ok (.newarray .int, 2) := by decide +kernel
theorem dX6_init_89 : decode cX6_init 89 = .ok (.putfield 40, 3) := by decide +kernel
theorem dX6_init_92 : decode cX6_init 92 = .ok (.aload_n 0, 1) := by decide +kernel
theorem dX6_init_93 : decode cX6_init 93 = .ok (.bipush 40, 2) := by decide +kernel
theorem dX6_init_95 : decode cX6_init 95 = .ok (.newarray .int, 2) := by decide +kernel
theorem dX6_init_97 : decode cX6_init 97 = .ok (.putfield 43, 3) := by decide +kernel
theorem dX6_init_100 : decode cX6_init 100 = .ok (.aload_n 0, 1) := by decide +kernel
theorem dX6_init_101 : decode cX6_init 101 = .ok (.bipush 40, 2) := by decide +kernel
theorem dX6_init_103 : decode cX6_init 103 = .ok (.newarray .int, 2) := by decide +kernel
theorem dX6_init_105 : decode cX6_init 105 = .ok (.putfield 46, 3) := by decide +kernel
theorem dX6_init_108 : decode cX6_init 108 = .ok (.aload_n 0, 1) := by decide +kernel
theorem dX6_init_109 : decode cX6_init 109 = .ok (.bipush 40, 2) := by decide +kernel
theorem dX6_init_111 : decode cX6_init 111 = .ok (.newarray .int, 2) := by decide +kernel
theorem dX6_init_113 : decode cX6_init 113 = .ok (.putfield 49, 3) := by decide +kernel
theorem dX6_init_116 : decode cX6_init 116 = .ok (.aload_n 0, 1) := by decide +kernel
theorem dX6_init_117 : decode cX6_init 117 = .ok (.sipush 4000, 3) := by decide +kernel
theorem dX6_init_120 : decode cX6_init 120 = .ok (.newarray .int, 2) := by decide +kernel
theorem dX6_init_122 : decode cX6_init 122 = .ok (.putfield 52, 3) := by decide +kernel
theorem dX6_init_125 : decode cX6_init 125 = .ok (.aload_n 0, 1) := by decide +kernel
theorem dX6_init_126 : decode cX6_init 126 = .ok (.sipush 4000, 3) := by decide +kernel
theorem dX6_init_129 : decode cX6_init 129 = .ok (.newarray .int, 2) := by decide +kernel
theorem dX6_init_131 : decode cX6_init 131 = .ok (.putfield 55, 3) := by decide +kernel
theorem dX6_init_134 : decode cX6_init 134 = .ok (.aload_n 0, 1) := by decide +kernel
theorem dX6_init_135 : decode cX6_init 135 = .ok (.sipush 4000, 3) := by decide +kernel
theorem dX6_init_138 : decode cX6_init 138 = .ok (.newarray .int, 2) := by decide +kernel
theorem dX6_init_140 : decode cX6_init 140 = .ok (.putfield 58, 3) := by decide +kernel
theorem dX6_init_143 : decode cX6_init 143 = .ok (.aload_n 0, 1) := by decide +kernel
theorem dX6_init_144 : decode cX6_init 144 = .ok (.bipush 36, 2) := by decide +kernel
theorem dX6_init_146 : decode cX6_init 146 = .ok (.newarray .int, 2) := by decide +kernel
theorem dX6_init_148 : decode cX6_init 148 = .ok (.putfield 61, 3) := by decide +kernel
theorem dX6_init_151 : decode cX6_init 151 = .ok (.aload_n 0, 1) := by decide +kernel
theorem dX6_init_152 : decode cX6_init 152 = .ok (.bipush 6, 2) := by decide +kernel
theorem dX6_init_154 : decode cX6_init 154 = .ok (.newarray .int, 2) := by decide +kernel
theorem dX6_init_156 : decode cX6_init 156 = .ok (.putfield 64, 3) := by decide +kernel
theorem dX6_init_159 : decode cX6_init 159 = .ok (.return_, 1) := by decide +kernel
theorem dX6_thrown_0 : decode cX6_thrown 0 = .ok (.aload_n 0, 1) := by decide +kernel
theorem dX6_thrown_1 : decode cX6_thrown 1 = .ok (.getfield 67, 3) := by decide +kernel
theorem dX6_thrown_4 : decode cX6_thrown 4 = .ok (.ireturn, 1) := by decide +kernel
theorem dX6_holds_0 : decode cX6_holds 0 = .ok (.aload_n 0, 1) := by decide +kernel
theorem dX6_holds_1 : decode cX6_holds 1 = .ok (.iload_n 1, 1) := by decide +kernel
theorem dX6_holds_2 : decode cX6_holds 2 = .ok (.putfield 67, 3) := by decide +kernel
theorem dX6_holds_5 : decode cX6_holds 5 = .ok (.iload_n 1, 1) := by decide +kernel
theorem dX6_holds_6 : decode cX6_holds 6 = .ok (.ifCond .le 7, 3) := by decide +kernel
theorem dX6_holds_9 : decode cX6_holds 9 = .ok (.iconst 1, 1) := by decide +kernel
theorem dX6_holds_10 : decode cX6_holds 10 = .ok (.goto 4, 3) := by decide +kernel
theorem dX6_holds_13 : decode cX6_holds 13 = .ok (.iconst 0, 1) := by decide +kernel
theorem dX6_holds_14 : decode cX6_holds 14 = .ok (.ireturn, 1) := by decide +kernel
theorem dX6_plain_0 : decode cX6_plain 0 = .ok (.aload_n 0, 1) := by decide +kernel
theorem dX6_plain_1 : decode cX6_plain 1 = .ok (.iconst 0, 1) := by decide +kernel
theorem dX6_plain_2 : decode cX6_plain 2 = .ok (.putfield 67, 3) := by decide +kernel
theorem dX6_plain_5 : decode cX6_plain 5 = .ok (.iload_n 1, 1) := by decide +kernel
theorem dX6_plain_6 : decode cX6_plain 6 = .ok (.ireturn, 1) := by decide +kernel
theorem dX6_between_0 : decode cX6_between 0 = .ok (.iload_n 1, 1) := by decide +kernel
theorem dX6_between_1 : decode cX6_between 1 = .ok (.iload_n 2, 1) := by decide +kernel
theorem dX6_between_2 : decode cX6_between 2 = .ok (.if_icmp .lt 12, 3) := by decide +kernel
theorem dX6_between_5 : decode cX6_between 5 = .ok (.iload_n 1, 1) := by decide +kernel
theorem dX6_between_6 : decode cX6_between 6 = .ok (.iload_n 3, 1) := by decide +kernel
theorem dX6_between_7 : decode cX6_between 7 = .ok (.if_icmp .gt 7, 3) := by decide +kernel
theorem dX6_between_10 : decode cX6_between 10 = .ok (.iconst 1, 1) := by decide +kernel
theorem dX6_between_11 : decode cX6_between 11 = .ok (.goto 4, 3) := by decide +kernel
theorem dX6_between_14 : decode cX6_between 14 = .ok (.iconst 0, 1) := by decide +kernel
theorem dX6_between_15 : decode cX6_between 15 = .ok (.ireturn, 1) := by decide +kernel
set_option maxRecDepth 20000 in
theorem ggX6_isHouse_X6_between : GoodIn wsX6_isHouse wsX6_between := goodIn_r _ [5] (by decide +kernel) (by decide +kernel)
set_option maxRecDepth 20000 in
theorem gX6_isHouse_X6_between : GoodIn wsX6_isHouse (wsV RX6 71 RX6 yX6_between wsX6_between) := goodIn_app (goodIn_of _ (by decide +kernel)) ggX6_isHouse_X6_between
theorem dX6_isHouse_0 : decode cX6_isHouse 0 = .ok (.aload_n 0, 1) := by decide +kernel
theorem dX6_isHouse_1 : decode cX6_isHouse 1 = .ok (.iload_n 1, 1) := by decide +kernel
theorem dX6_isHouse_2 : decode cX6_isHouse 2 = .ok (.iconst 0, 1) := by decide +kernel
theorem dX6_isHouse_3 : decode cX6_isHouse 3 = .ok (.iconst 5, 1) := by decide +kernel
theorem dX6_isHouse_4 : decode cX6_isHouse 4 = .ok (.invokevirtual 71, 3) := by decide +kernel
theorem dX6_isHouse_7 : decode cX6_isHouse 7 = .ok (.ireturn, 1) := by decide +kernel
set_option maxRecDepth 20000 in
theorem ggX6_isCopy_X6_between : GoodIn wsX6_isCopy wsX6_between := goodIn_r _ [6] (by decide +kernel) (by decide +kernel)
set_option maxRecDepth 20000 in
theorem gX6_isCopy_X6_between : GoodIn wsX6_isCopy (wsV RX6 71 RX6 yX6_between wsX6_between) := goodIn_app (goodIn_of _ (by decide +kernel)) ggX6_isCopy_X6_between
theorem dX6_isCopy_0 : decode cX6_isCopy 0 = .ok (.aload_n 0, 1) := by decide +kernel
theorem dX6_isCopy_1 : decode cX6_isCopy 1 = .ok (.iload_n 1, 1) := by decide +kernel
theorem dX6_isCopy_2 : decode cX6_isCopy 2 = .ok (.iconst 0, 1) := by decide +kernel
theorem dX6_isCopy_3 : decode cX6_isCopy 3 = .ok (.aload_n 0, 1) := by decide +kernel
