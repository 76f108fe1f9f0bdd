theorem dX5_nearestListedFree_73 : decode cX5_nearestListedFree 73 = .ok (.aload 7, 2) := by decide +kernel
theorem dX5_nearestListedFree_75 : decode cX5_nearestListedFree 75 = .ok (.astore_n 2, 1) := by decide +kernel
theorem dX5_nearestListedFree_76 : decode cX5_nearestListedFree 76 = .ok (.iload 8, 2) := by decide +kernel
theorem dX5_nearestListedFree_78 : decode cX5_nearestListedFree 78 = .ok (.istore_n 3, 1) := by decide +kernel
theorem dX5_nearestListedFree_79 : decode cX5_nearestListedFree 79 = .ok (.iinc 6 1, 3) := by decide +kernel
theorem dX5_nearestListedFree_82 : decode cX5_nearestListedFree 82 = .ok (.goto (-64), 3) := by decide +kernel
theorem dX5_nearestListedFree_85 : decode cX5_nearestListedFree 85 = .ok (.aload_n 2, 1) := by decide +kernel
theorem dX5_nearestListedFree_86 : decode cX5_nearestListedFree 86 = .ok (.areturn, 1) := by decide +kernel
set_option maxRecDepth 20000 in
theorem ggX5_answerQuestion_X1_canBeSent : GoodIn wsX5_answerQuestion wsX1_canBeSent := goodIn_r _ [9, 10, 11, 12, 13, 8, 14, 15, 16, 17, 92, 93, 94, 95, 96, 97, 98, 99] (by decide +kernel) (by decide +kernel)
set_option maxRecDepth 20000 in
theorem gX5_answerQuestion_X1_canBeSent : GoodIn wsX5_answerQuestion (wsV RX5 83 RX1 yX1_canBeSent wsX1_canBeSent) := goodIn_app (goodIn_of _ (by decide +kernel)) ggX5_answerQuestion_X1_canBeSent
set_option maxRecDepth 20000 in
theorem ggX5_answerQuestion_X5_askNextHome : GoodIn wsX5_answerQuestion wsX5_askNextHome := goodIn_r _ [22, 23, 1, 4, 3, 24, 25, 26, 21, 27, 28, 29, 30, 31, 32, 33, 34, 35, 36, 37, 38, 39, 40, 41, 42, 43, 44, 45, 46, 47, 48, 49, 50, 51, 52, 53, 54, 55, 56, 57, 58, 59, 60, 61, 62, 63, 64, 65, 66, 67, 68, 69, 70, 71, 72, 73, 74, 75, 76, 77, 85, 86, 87, 88, 89, 90, 91, 92, 93, 94, 95, 96, 97, 98, 99, 100, 101, 102, 103, 104, 105, 106, 107, 108, 109, 110, 111, 112] (by decide +kernel) (by decide +kernel)
set_option maxRecDepth 20000 in
theorem gX5_answerQuestion_X5_askNextHome : GoodIn wsX5_answerQuestion (wsV RX5 123 RX5 yX5_askNextHome wsX5_askNextHome) := goodIn_app (goodIn_of _ (by decide +kernel)) ggX5_answerQuestion_X5_askNextHome
set_option maxRecDepth 20000 in
theorem ggX5_answerQuestion_X5_way : GoodIn wsX5_answerQuestion wsX5_way := goodIn_r _ [42, 43, 44, 45, 46] (by decide +kernel) (by decide +kernel)
set_option maxRecDepth 20000 in
theorem gX5_answerQuestion_X5_way : GoodIn wsX5_answerQuestion (va_wsS RX5 152 yX5_way wsX5_way) := goodIn_app (goodIn_of _ (by decide +kernel)) ggX5_answerQuestion_X5_way
set_option maxRecDepth 20000 in
theorem ggX5_answerQuestion_X5_send : GoodIn wsX5_answerQuestion wsX5_send := goodIn_r _ [54, 55, 56, 57, 58, 59, 60, 61, 62, 63, 64, 65, 66, 67, 68, 69, 70, 71, 72, 73, 74, 75, 76, 77, 100, 101, 102, 103, 104, 105, 106, 107, 108, 109, 110, 111, 112] (by decide +kernel) (by decide +kernel)
set_option maxRecDepth 20000 in
theorem gX5_answerQuestion_X5_send : GoodIn wsX5_answerQuestion (wsV RX5 156 RX5 yX5_send wsX5_send) := goodIn_app (goodIn_of _ (by decide +kernel)) ggX5_answerQuestion_X5_send
set_option maxRecDepth 20000 in
theorem ggX5_answerQuestion_X5_sendNews : GoodIn wsX5_answerQuestion wsX5_sendNews := goodIn_r _ [81, 4, 82, 83, 21, 84, 51, 52, 53, 54, 55, 56, 57, 58, 59, 60, 61, 62, 63, 64, 65, 66, 67, 68, 69, 70, 71, 72, 73, 74, 75, 76, 77, 92, 93, 94, 95, 96, 97, 98, 99, 100, 101, 102, 103, 104, 105, 106, 107, 108, 109, 110, 111, 112] (by decide +kernel) (by decide +kernel)
set_option maxRecDepth 20000 in
theorem gX5_answerQuestion_X5_sendNews : GoodIn wsX5_answerQuestion (wsV RX5 72 RX5 yX5_sendNews wsX5_sendNews) := goodIn_app (goodIn_of _ (by decide +kernel)) ggX5_answerQuestion_X5_sendNews
theorem dX5_answerQuestion_0 : decode cX5_answerQuestion 0 = .ok (.aload_n 1, 1) := by decide +kernel
theorem dX5_answerQuestion_1 : decode cX5_answerQuestion 1 = .ok (.invokevirtual 83, 3) := by decide +kernel
theorem dX5_answerQuestion_4 : decode cX5_answerQuestion 4 = .ok (.ifCond .ne 9, 3) := by decide +kernel
theorem dX5_answerQuestion_7 : decode cX5_answerQuestion 7 = .ok (.aload_n 0, 1) := by decide +kernel
theorem dX5_answerQuestion_8 : decode cX5_answerQuestion 8 = .ok (.aload_n 2, 1) := by decide +kernel
theorem dX5_answerQuestion_9 : decode cX5_answerQuestion 9 = .ok (.invokevirtual 123, 3) := by decide +kernel
theorem dX5_answerQuestion_12 : decode cX5_answerQuestion 12 = .ok (.return_, 1) := by decide +kernel
theorem dX5_answerQuestion_13 : decode cX5_answerQuestion 13 = .ok (.aload_n 2, 1) := by decide +kernel
theorem dX5_answerQuestion_14 : decode cX5_answerQuestion 14 = .ok (.iconst 1, 1) := by decide +kernel
theorem dX5_answerQuestion_15 : decode cX5_answerQuestion 15 = .ok (.putfield 131, 3) := by decide +kernel
theorem dX5_answerQuestion_18 : decode cX5_answerQuestion 18 = .ok (.aload_n 1, 1) := by decide +kernel
theorem dX5_answerQuestion_19 : decode cX5_answerQuestion 19 = .ok (.iconst 1, 1) := by decide +kernel
theorem dX5_answerQuestion_20 : decode cX5_answerQuestion 20 = .ok (.putfield 98, 3) := by decide +kernel
theorem dX5_answerQuestion_23 : decode cX5_answerQuestion 23 = .ok (.aload_n 0, 1) := by decide +kernel
theorem dX5_answerQuestion_24 : decode cX5_answerQuestion 24 = .ok (.iconst 3, 1) := by decide +kernel
theorem dX5_answerQuestion_25 : decode cX5_answerQuestion 25 = .ok (.aload_n 2, 1) := by decide +kernel
theorem dX5_answerQuestion_26 : decode cX5_answerQuestion 26 = .ok (.getfield 146, 3) := by decide +kernel
theorem dX5_answerQuestion_29 : decode cX5_answerQuestion 29 = .ok (.aload_n 1, 1) := by decide +kernel
theorem dX5_answerQuestion_30 : decode cX5_answerQuestion 30 = .ok (.getfield 149, 3) := by decide +kernel
theorem dX5_answerQuestion_33 : decode cX5_answerQuestion 33 = .ok (.invokestatic 152, 3) := by decide +kernel
theorem dX5_answerQuestion_36 : decode cX5_answerQuestion 36 = .ok (.aload_n 1, 1) := by decide +kernel
theorem dX5_answerQuestion_37 : decode cX5_answerQuestion 37 = .ok (.aload_n 2, 1) := by decide +kernel
theorem dX5_answerQuestion_38 : decode cX5_answerQuestion 38 = .ok (.invokevirtual 156, 3) := by decide +kernel
theorem dX5_answerQuestion_41 : decode cX5_answerQuestion 41 = .ok (.pop, 1) := by decide +kernel
theorem dX5_answerQuestion_42 : decode cX5_answerQuestion 42 = .ok (.aload_n 0, 1) := by decide +kernel
theorem dX5_answerQuestion_43 : decode cX5_answerQuestion 43 = .ok (.iconst 1, 1) := by decide +kernel
theorem dX5_answerQuestion_44 : decode cX5_answerQuestion 44 = .ok (.aload_n 1, 1) := by decide +kernel
theorem dX5_answerQuestion_45 : decode cX5_answerQuestion 45 = .ok (.invokevirtual 72, 3) := by decide +kernel
theorem dX5_answerQuestion_48 : decode cX5_answerQuestion 48 = .ok (.return_, 1) := by decide +kernel
set_option maxRecDepth 20000 in
theorem ggX5_beginLoan_X0_chargeLoan : GoodIn wsX5_beginLoan wsX0_chargeLoan := goodIn_r _ [13, 14, 15, 16, 17, 18, 19, 20, 21, 12, 22, 23, 46, 47, 48] (by decide +kernel) (by decide +kernel)
set_option maxRecDepth 20000 in
theorem gX5_beginLoan_X0_chargeLoan : GoodIn wsX5_beginLoan (wsV RX5 263 RX0 yX0_chargeLoan wsX0_chargeLoan) := goodIn_app (goodIn_of _ (by decide +kernel)) ggX5_beginLoan_X0_chargeLoan
theorem dX5_beginLoan_0 : decode cX5_beginLoan 0 = .ok (.aload_n 1, 1) := by decide +kernel
theorem dX5_beginLoan_1 : decode cX5_beginLoan 1 = .ok (.aload_n 2, 1) := by decide +kernel
theorem dX5_beginLoan_2 : decode cX5_beginLoan 2 = .ok (.getfield 146, 3) := by decide +kernel
theorem dX5_beginLoan_5 : decode cX5_beginLoan 5 = .ok (.putfield 80, 3) := by decide +kernel
theorem dX5_beginLoan_8 : decode cX5_beginLoan 8 = .ok (.aload_n 1, 1) := by decide +kernel
theorem dX5_beginLoan_9 : decode cX5_beginLoan 9 = .ok (.iconst 0, 1) := by decide +kernel
theorem dX5_beginLoan_10 : decode cX5_beginLoan 10 = .ok (.putfield 98, 3) := by decide +kernel
theorem dX5_beginLoan_13 : decode cX5_beginLoan 13 = .ok (.aload_n 2, 1) := by decide +kernel
theorem dX5_beginLoan_14 : decode cX5_beginLoan 14 = .ok (.iconst 2, 1) := by decide +kernel
theorem dX5_beginLoan_15 : decode cX5_beginLoan 15 = .ok (.putfield 131, 3) := by decide +kernel
theorem dX5_beginLoan_18 : decode cX5_beginLoan 18 = .ok (.aload_n 2, 1) := by decide +kernel
theorem dX5_beginLoan_19 : decode cX5_beginLoan 19 = .ok (.aload_n 0, 1) := by decide +kernel
theorem dX5_beginLoan_20 : decode cX5_beginLoan 20 = .ok (.getfield 44, 3) := by decide +kernel
theorem dX5_beginLoan_23 : decode cX5_beginLoan 23 = .ok (.bipush 20, 2) := by decide +kernel
theorem dX5_beginLoan_25 : decode cX5_beginLoan 25 = .ok (.iadd, 1) := by decide +kernel
theorem dX5_beginLoan_26 : decode cX5_beginLoan 26 = .ok (.putfield 143, 3) := by decide +kernel
theorem dX5_beginLoan_29 : decode cX5_beginLoan 29 = .ok (.aload_n 0, 1) := by decide +kernel
theorem dX5_beginLoan_30 : decode cX5_beginLoan 30 = .ok (.getfield 33, 3) := by decide +kernel
theorem dX5_beginLoan_33 : decode cX5_beginLoan 33 = .ok (.aload_n 2, 1) := by decide +kernel
theorem dX5_beginLoan_34 : decode cX5_beginLoan 34 = .ok (.getfield 146, 3) := by decide +kernel
theorem dX5_beginLoan_37 : decode cX5_beginLoan 37 = .ok (.aload_n 1, 1) := by decide +kernel
theorem dX5_beginLoan_38 : decode cX5_beginLoan 38 = .ok (.getfield 149, 3) := by decide +kernel
theorem dX5_beginLoan_41 : decode cX5_beginLoan 41 = .ok (.invokevirtual 263, 3) := by decide +kernel
theorem dX5_beginLoan_44 : decode cX5_beginLoan 44 = .ok (.return_, 1) := by decide +kernel
theorem dX5_prolong_0 : decode cX5_prolong 0 = .ok (.aload_n 1, 1) := by decide +kernel
theorem dX5_prolong_1 : decode cX5_prolong 1 = .ok (.getfield 131, 3) := by decide +kernel
theorem dX5_prolong_4 : decode cX5_prolong 4 = .ok (.iconst 2, 1) := by decide +kernel
theorem dX5_prolong_5 : decode cX5_prolong 5 = .ok (.if_icmp .ne 21, 3) := by decide +kernel
theorem dX5_prolong_8 : decode cX5_prolong 8 = .ok (.aload_n 1, 1) := by decide +kernel
theorem dX5_prolong_9 : decode cX5_prolong 9 = .ok (.getfield 160, 3) := by decide +kernel
theorem dX5_prolong_12 : decode cX5_prolong 12 = .ok (.ifCond .ne 14, 3) := by decide +kernel
theorem dX5_prolong_15 : decode cX5_prolong 15 = .ok (.aload_n 1, 1) := by decide +kernel
theorem dX5_prolong_16 : decode cX5_prolong 16 = .ok (.dup, 1) := by decide +kernel
theorem dX5_prolong_17 : decode cX5_prolong 17 = .ok (.getfield 143, 3) := by decide +kernel
theorem dX5_prolong_20 : decode cX5_prolong 20 = .ok (.bipush 20, 2) := by decide +kernel
theorem dX5_prolong_22 : decode cX5_prolong 22 = .ok (.iadd, 1) := by decide +kernel
theorem dX5_prolong_23 : decode cX5_prolong 23 = .ok (.putfield 143, 3) := by decide +kernel
theorem dX5_prolong_26 : decode cX5_prolong 26 = .ok (.return_, 1) := by decide +kernel
theorem dX5_shorten_0 : decode cX5_shorten 0 = .ok (.aload_n 1, 1) := by decide +kernel
theorem dX5_shorten_1 : decode cX5_shorten 1 = .ok (.getfield 131, 3) := by decide +kernel
theorem dX5_shorten_4 : decode cX5_shorten 4 = .ok (.iconst 2, 1) := by decide +kernel
theorem dX5_shorten_5 : decode cX5_shorten 5 = .ok (.if_icmp .ne 20, 3) := by decide +kernel
theorem dX5_shorten_8 : decode cX5_shorten 8 = .ok (.aload_n 1, 1) := by decide +kernel
theorem dX5_shorten_9 : decode cX5_shorten 9 = .ok (.aload_n 1, 1) := by decide +kernel
theorem dX5_shorten_10 : decode cX5_shorten 10 = .ok (.getfield 143, 3) := by decide +kernel
theorem dX5_shorten_13 : decode cX5_shorten 13 = .ok (.aload_n 0, 1) := by decide +kernel
theorem dX5_shorten_14 : decode cX5_shorten 14 = .ok (.getfield 44, 3) := by decide +kernel
theorem dX5_shorten_17 : decode cX5_shorten 17 = .ok (.iconst 5, 1) := by decide +kernel
theorem dX5_shorten_18 : decode cX5_shorten 18 = .ok (.iadd, 1) := by decide +kernel
theorem dX5_shorten_19 : decode cX5_shorten 19 = .ok (.invokestatic 266, 3) := by decide +kernel
theorem dX5_shorten_22 : decode cX5_shorten 22 = .ok (.putfield 143, 3) := by decide +kernel
theorem dX5_shorten_25 : decode cX5_shorten 25 = .ok (.return_, 1) := by decide +kernel
set_option maxRecDepth 20000 in
theorem ggX5_comeHome_X5_examine : GoodIn wsX5_comeHome wsX5_examine := goodIn_r _ [9, 10, 11, 1, 12, 13, 14, 15, 16, 17, 18, 19, 20, 21, 22, 23, 24, 25, 8, 26, 73, 74, 75, 76, 77, 78, 79, 80, 88, 89, 90, 91, 92, 93, 94, 95, 96, 97] (by decide +kernel) (by decide +kernel)
set_option maxRecDepth 20000 in
theorem gX5_comeHome_X5_examine : GoodIn wsX5_comeHome (wsV RX5 104 RX5 yX5_examine wsX5_examine) := goodIn_app (goodIn_of _ (by decide +kernel)) ggX5_comeHome_X5_examine
set_option maxRecDepth 20000 in
theorem ggX5_comeHome_X1_canBeSent : GoodIn wsX5_comeHome wsX1_canBeSent := goodIn_r _ [30, 31, 32, 33, 34, 16, 35, 36, 37, 38, 73, 74, 75, 76, 77, 78, 79, 80] (by decide +kernel) (by decide +kernel)
set_option maxRecDepth 20000 in
theorem gX5_comeHome_X1_canBeSent : GoodIn wsX5_comeHome (wsV RX5 83 RX1 yX1_canBeSent wsX1_canBeSent) := goodIn_app (goodIn_of _ (by decide +kernel)) ggX5_comeHome_X1_canBeSent
set_option maxRecDepth 20000 in
theorem ggX5_comeHome_X5_sendNews : GoodIn wsX5_comeHome wsX5_sendNews := goodIn_r _ [42, 1, 43, 44, 8, 45, 46, 47, 48, 49, 50, 51, 52, 53, 54, 55, 56, 57, 58, 59, 60, 61, 62, 63, 64, 65, 66, 67, 68, 69, 70, 71, 72, 73, 74, 75, 76, 77, 78, 79, 80, 88, 89, 90, 91, 92, 93, 94, 98, 99, 100, 101, 102, 103] (by decide +kernel) (by decide +kernel)
set_option maxRecDepth 20000 in
theorem gX5_comeHome_X5_sendNews : GoodIn wsX5_comeHome (wsV RX5 72 RX5 yX5_sendNews wsX5_sendNews) := goodIn_app (goodIn_of _ (by decide +kernel)) ggX5_comeHome_X5_sendNews
theorem dX5_comeHome_0 : decode cX5_comeHome 0 = .ok (.aload_n 1, 1) := by decide +kernel
theorem dX5_comeHome_1 : decode cX5_comeHome 1 = .ok (.aload_n 1, 1) := by decide +kernel
theorem dX5_comeHome_2 : decode cX5_comeHome 2 = .ok (.getfield 149, 3) := by decide +kernel
theorem dX5_comeHome_5 : decode cX5_comeHome 5 = .ok (.putfield 80, 3) := by decide +kernel
theorem dX5_comeHome_8 : decode cX5_comeHome 8 = .ok (.aload_n 1, 1) := by decide +kernel
theorem dX5_comeHome_9 : decode cX5_comeHome 9 = .ok (.iconst 0, 1) := by decide +kernel
theorem dX5_comeHome_10 : decode cX5_comeHome 10 = .ok (.putfield 98, 3) := by decide +kernel
theorem dX5_comeHome_13 : decode cX5_comeHome 13 = .ok (.aload_n 2, 1) := by decide +kernel
theorem dX5_comeHome_14 : decode cX5_comeHome 14 = .ok (.iconst 4, 1) := by decide +kernel
theorem dX5_comeHome_15 : decode cX5_comeHome 15 = .ok (.putfield 131, 3) := by decide +kernel
theorem dX5_comeHome_18 : decode cX5_comeHome 18 = .ok (.aload_n 0, 1) := by decide +kernel
theorem dX5_comeHome_19 : decode cX5_comeHome 19 = .ok (.aload_n 1, 1) := by decide +kernel
theorem dX5_comeHome_20 : decode cX5_comeHome 20 = .ok (.invokevirtual 104, 3) := by decide +kernel
theorem dX5_comeHome_23 : decode cX5_comeHome 23 = .ok (.pop, 1) := by decide +kernel
theorem dX5_comeHome_24 : decode cX5_comeHome 24 = .ok (.aload_n 1, 1) := by decide +kernel
theorem dX5_comeHome_25 : decode cX5_comeHome 25 = .ok (.invokevirtual 83, 3) := by decide +kernel
theorem dX5_comeHome_28 : decode cX5_comeHome 28 = .ok (.ifCond .eq 9, 3) := by decide +kernel
theorem dX5_comeHome_31 : decode cX5_comeHome 31 = .ok (.aload_n 0, 1) := by decide +kernel
theorem dX5_comeHome_32 : decode cX5_comeHome 32 = .ok (.iconst 0, 1) := by decide +kernel
theorem dX5_comeHome_33 : decode cX5_comeHome 33 = .ok (.aload_n 1, 1) := by decide +kernel
theorem dX5_comeHome_34 : decode cX5_comeHome 34 = .ok (.invokevirtual 72, 3) := by decide +kernel
theorem dX5_comeHome_37 : decode cX5_comeHome 37 = .ok (.return_, 1) := by decide +kernel
set_option maxRecDepth 20000 in
theorem ggX5_examine_X1_isHarmed : GoodIn wsX5_examine wsX1_isHarmed := goodIn_r _ [9, 10, 20, 21, 22, 23, 24, 25, 26, 27] (by decide +kernel) (by decide +kernel)
set_option maxRecDepth 20000 in
theorem gX5_examine_X1_isHarmed : GoodIn wsX5_examine (wsV RX5 90 RX1 yX1_isHarmed wsX1_isHarmed) := goodIn_app (goodIn_of _ (by decide +kernel)) ggX5_examine_X1_isHarmed
set_option maxRecDepth 20000 in
theorem ggX5_examine_X0_charge : GoodIn wsX5_examine wsX0_charge := goodIn_r _ [15, 16, 17, 18, 19, 35, 36, 37] (by decide +kernel) (by decide +kernel)
set_option maxRecDepth 20000 in
theorem gX5_examine_X0_charge : GoodIn wsX5_examine (wsV RX5 170 RX0 yX0_charge wsX0_charge) := goodIn_app (goodIn_of _ (by decide +kernel)) ggX5_examine_X0_charge
theorem dX5_examine_0 : decode cX5_examine 0 = .ok (.aload_n 1, 1) := by decide +kernel
theorem dX5_examine_1 : decode cX5_examine 1 = .ok (.invokevirtual 90, 3) := by decide +kernel
theorem dX5_examine_4 : decode cX5_examine 4 = .ok (.ifCond .eq 10, 3) := by decide +kernel
theorem dX5_examine_7 : decode cX5_examine 7 = .ok (.aload_n 1, 1) := by decide +kernel
theorem dX5_examine_8 : decode cX5_examine 8 = .ok (.getfield 111, 3) := by decide +kernel
theorem dX5_examine_11 : decode cX5_examine 11 = .ok (.ifCond .eq 5, 3) := by decide +kernel
theorem dX5_examine_14 : decode cX5_examine 14 = .ok (.iconst (-1), 1) := by decide +kernel
theorem dX5_examine_15 : decode cX5_examine 15 = .ok (.ireturn, 1) := by decide +kernel
theorem dX5_examine_16 : decode cX5_examine 16 = .ok (.aload_n 1, 1) := by decide +kernel
theorem dX5_examine_17 : decode cX5_examine 17 = .ok (.iconst 1, 1) := by decide +kernel
theorem dX5_examine_18 : decode cX5_examine 18 = .ok (.putfield 111, 3) := by decide +kernel
theorem dX5_examine_21 : decode cX5_examine 21 = .ok (.aload_n 1, 1) := by decide +kernel
theorem dX5_examine_22 : decode cX5_examine 22 = .ok (.getfield 95, 3) := by decide +kernel
theorem dX5_examine_25 : decode cX5_examine 25 = .ok (.aload_n 1, 1) := by decide +kernel
theorem dX5_examine_26 : decode cX5_examine 26 = .ok (.getfield 149, 3) := by decide +kernel
theorem dX5_examine_29 : decode cX5_examine 29 = .ok (.if_icmp .eq 20, 3) := by decide +kernel
theorem dX5_examine_32 : decode cX5_examine 32 = .ok (.aload_n 0, 1) := by decide +kernel
theorem dX5_examine_33 : decode cX5_examine 33 = .ok (.getfield 33, 3) := by decide +kernel
theorem dX5_examine_36 : decode cX5_examine 36 = .ok (.aload_n 1, 1) := by decide +kernel
theorem dX5_examine_37 : decode cX5_examine 37 = .ok (.getfield 95, 3) := by decide +kernel
theorem dX5_examine_40 : decode cX5_examine 40 = .ok (.aload_n 1, 1) := by decide +kernel
theorem dX5_examine_41 : decode cX5_examine 41 = .ok (.getfield 149, 3) := by decide +kernel
theorem dX5_examine_44 : decode cX5_examine 44 = .ok (.bipush 30, 2) := by decide +kernel
theorem dX5_examine_46 : decode cX5_examine 46 = .ok (.invokevirtual 170, 3) := by decide +kernel
theorem dX5_examine_49 : decode cX5_examine 49 = .ok (.aload_n 1, 1) := by decide +kernel
theorem dX5_examine_50 : decode cX5_examine 50 = .ok (.getfield 95, 3) := by decide +kernel
theorem dX5_examine_53 : decode cX5_examine 53 = .ok (.ireturn, 1) := by decide +kernel
theorem dJ9_abs_0f7a4_0 : decode cJ9_abs_0f7a4 0 = .ok (.iload_n 0, 1) := by decide +kernel
theorem dJ9_abs_0f7a4_1 : decode cJ9_abs_0f7a4 1 = .ok (.ifCond .ge 8, 3) := by decide +kernel
theorem dJ9_abs_0f7a4_4 : decode cJ9_abs_0f7a4 4 = .ok (.iload_n 0, 1) := by decide +kernel
theorem dJ9_abs_0f7a4_5 : decode cJ9_abs_0f7a4 5 = .ok (.ineg, 1) := by decide +kernel
theorem dJ9_abs_0f7a4_6 : decode cJ9_abs_0f7a4 6 = .ok (.goto 4, 3) := by decide +kernel
theorem dJ9_abs_0f7a4_9 : decode cJ9_abs_0f7a4 9 = .ok (.iload_n 0, 1) := by decide +kernel
theorem dJ9_abs_0f7a4_10 : decode cJ9_abs_0f7a4 10 = .ok (.ireturn, 1) := by decide +kernel
theorem dJ9_max_7cf53_0 : decode cJ9_max_7cf53 0 = .ok (.iload_n 0, 1) := by decide +kernel
theorem dJ9_max_7cf53_1 : decode cJ9_max_7cf53 1 = .ok (.iload_n 1, 1) := by decide +kernel
theorem dJ9_max_7cf53_2 : decode cJ9_max_7cf53 2 = .ok (.if_icmp .lt 7, 3) := by decide +kernel
theorem dJ9_max_7cf53_5 : decode cJ9_max_7cf53 5 = .ok (.iload_n 0, 1) := by decide +kernel
theorem dJ9_max_7cf53_6 : decode cJ9_max_7cf53 6 = .ok (.goto 4, 3) := by decide +kernel
theorem dJ9_max_7cf53_9 : decode cJ9_max_7cf53 9 = .ok (.iload_n 1, 1) := by decide +kernel
theorem dJ9_max_7cf53_10 : decode cJ9_max_7cf53 10 = .ok (.ireturn, 1) := by decide +kernel
theorem dJ9_min_7cf53_0 : decode cJ9_min_7cf53 0 = .ok (.iload_n 0, 1) := by decide +kernel
theorem dJ9_min_7cf53_1 : decode cJ9_min_7cf53 1 = .ok (.iload_n 1, 1) := by decide +kernel
theorem dJ9_min_7cf53_2 : decode cJ9_min_7cf53 2 = .ok (.if_icmp .gt 7, 3) := by decide +kernel
theorem dJ9_min_7cf53_5 : decode cJ9_min_7cf53 5 = .ok (.iload_n 0, 1) := by decide +kernel
theorem dJ9_min_7cf53_6 : decode cJ9_min_7cf53 6 = .ok (.goto 4, 3) := by decide +kernel
theorem dJ9_min_7cf53_9 : decode cJ9_min_7cf53 9 = .ok (.iload_n 1, 1) := by decide +kernel
theorem dJ9_min_7cf53_10 : decode cJ9_min_7cf53 10 = .ok (.ireturn, 1) := by decide +kernel
theorem dL_cell_0 : decode cL_cell 0 = .ok (.iload_n 1, 1) := by decide +kernel
theorem dL_cell_1 : decode cL_cell 1 = .ok (.aload_n 0, 1) := by decide +kernel
theorem dL_cell_2 : decode cL_cell 2 = .ok (.arraylength, 1) := by decide +kernel
theorem dL_cell_3 : decode cL_cell 3 = .ok (.if_icmp .ge 9, 3) := by decide +kernel
theorem dL_cell_6 : decode cL_cell 6 = .ok (.aload_n 0, 1) := by decide +kernel
theorem dL_cell_7 : decode cL_cell 7 = .ok (.iload_n 1, 1) := by decide +kernel
theorem dL_cell_8 : decode cL_cell 8 = .ok (.iaload, 1) := by decide +kernel
theorem dL_cell_9 : decode cL_cell 9 = .ok (.goto 11, 3) := by decide +kernel
theorem dL_cell_12 : decode cL_cell 12 = .ok (.ldc 7, 2) := by decide +kernel
theorem dL_cell_14 : decode cL_cell 14 = .ok (.iload_n 1, 1) := by decide +kernel
theorem dL_cell_15 : decode cL_cell 15 = .ok (.imul, 1) := by decide +kernel
theorem dL_cell_16 : decode cL_cell 16 = .ok (.sipush 1091, 3) := by decide +kernel
theorem dL_cell_19 : decode cL_cell 19 = .ok (.iadd, 1) := by decide +kernel
theorem dL_cell_20 : decode cL_cell 20 = .ok (.ireturn, 1) := by decide +kernel
theorem dL_low_0 : decode cL_low 0 = .ok (.iload_n 0, 1) := by decide +kernel
theorem dL_low_1 : decode cL_low 1 = .ok (.ldc 8, 2) := by decide +kernel
theorem dL_low_3 : decode cL_low 3 = .ok (.iand, 1) := by decide +kernel
theorem dL_low_4 : decode cL_low 4 = .ok (.iload_n 1, 1) := by decide +kernel
theorem dL_low_5 : decode cL_low 5 = .ok (.irem, 1) := by decide +kernel
theorem dL_low_6 : decode cL_low 6 = .ok (.ireturn, 1) := by decide +kernel
set_option maxRecDepth 20000 in
theorem ggL_added_X5_addCopy : GoodIn wsL_added wsX5_addCopy := goodIn_ca (goodIn_ca (goodIn_r _ [7, 8, 9, 10, 11, 12, 13, 14, 15, 16, 17, 18, 19, 6, 20, 21, 22, 23, 24, 25, 26, 27, 28, 29, 30, 31, 32, 33, 34, 35, 36, 37, 38, 39, 40, 41, 42, 43, 44, 45, 46, 47, 48, 49, 50, 51, 52, 53, 54, 55, 56, 57, 58, 59, 60, 61, 62, 63, 64, 65, 66, 67, 68, 69, 70, 71, 72, 73, 74, 75, 76, 77, 78, 79, 80, 81, 82, 83, 84, 85, 86, 87, 88, 89, 90, 91, 92, 93, 94, 95, 96, 97, 98, 99, 100] (by decide +kernel) (by decide +kernel)) (goodIn_sub (fun _ h => List.mem_cons_of_mem _ (List.mem_append_left _ (List.mem_append_right _ h))) (by decide +kernel))) (goodIn_sub (fun _ h => List.mem_cons_of_mem _ (List.mem_append_right _ h)) (by decide +kernel))
set_option maxRecDepth 20000 in
theorem gL_added_X5_addCopy : GoodIn wsL_added (wsV RL 9 RX5 yX5_addCopy wsX5_addCopy) := goodIn_app (goodIn_of _ (by decide +kernel)) ggL_added_X5_addCopy
theorem dL_added_0 : decode cL_added 0 = .ok (.aload_n 0, 1) := by decide +kernel
theorem dL_added_1 : decode cL_added 1 = .ok (.iload_n 1, 1) := by decide +kernel
theorem dL_added_2 : decode cL_added 2 = .ok (.iload_n 2, 1) := by decide +kernel
theorem dL_added_3 : decode cL_added 3 = .ok (.invokevirtual 9, 3) := by decide +kernel
theorem dL_added_6 : decode cL_added 6 = .ok (.ireturn, 1) := by decide +kernel
theorem dL_added_7 : decode cL_added 7 = .ok (.astore_n 3, 1) := by decide +kernel
theorem dL_added_8 : decode cL_added 8 = .ok (.bipush (-3), 2) := by decide +kernel
theorem dL_added_10 : decode cL_added 10 = .ok (.ireturn, 1) := by decide +kernel
theorem dL_added_11 : decode cL_added 11 = .ok (.astore_n 3, 1) := by decide +kernel
theorem dL_added_12 : decode cL_added 12 = .ok (.bipush (-4), 2) := by decide +kernel
theorem dL_added_14 : decode cL_added 14 = .ok (.ireturn, 1) := by decide +kernel
set_option maxRecDepth 20000 in
theorem ggL_asked_X5_request : GoodIn wsL_asked wsX5_request := goodIn_ca (goodIn_ca (goodIn_r _ [7, 8, 9, 10, 11, 12, 13, 14, 15, 16, 17, 18, 6, 19, 20, 21, 22, 23, 24, 25, 26, 27, 28, 29, 30, 31, 32, 33, 34, 35, 36, 37, 38, 39, 40, 41, 42, 43, 44, 45, 46, 47, 48, 49, 50, 51, 52, 53, 54, 55, 56, 57, 58, 59, 60, 61, 62, 63, 64, 65, 66, 67, 68, 69, 70, 71, 72, 73, 74, 75, 76, 77, 78, 79, 80, 81, 82, 83, 84, 85, 86, 87, 88, 89, 90, 91, 92, 93, 94, 95, 96, 97, 98, 99, 100, 101, 102, 103, 104, 105, 106, 107, 108, 109, 110, 111, 112, 113, 114, 115, 116, 117, 118, 119] (by decide +kernel) (by decide +kernel)) (goodIn_sub (fun _ h => List.mem_cons_of_mem _ (List.mem_append_left _ (List.mem_append_right _ h))) (by decide +kernel))) (goodIn_sub (fun _ h => List.mem_cons_of_mem _ (List.mem_append_right _ h)) (by decide +kernel))
set_option maxRecDepth 20000 in
theorem gL_asked_X5_request : GoodIn wsL_asked (wsV RL 19 RX5 yX5_request wsX5_request) := goodIn_app (goodIn_of _ (by decide +kernel)) ggL_asked_X5_request
theorem dL_asked_0 : decode cL_asked 0 = .ok (.aload_n 0, 1) := by decide +kernel
theorem dL_asked_1 : decode cL_asked 1 = .ok (.iload_n 1, 1) := by decide +kernel
theorem dL_asked_2 : decode cL_asked 2 = .ok (.iload_n 2, 1) := by decide +kernel
theorem dL_asked_3 : decode cL_asked 3 = .ok (.invokevirtual 19, 3) := by decide +kernel
theorem dL_asked_6 : decode cL_asked 6 = .ok (.ireturn, 1) := by decide +kernel
theorem dL_asked_7 : decode cL_asked 7 = .ok (.astore_n 3, 1) := by decide +kernel
theorem dL_asked_8 : decode cL_asked 8 = .ok (.bipush (-3), 2) := by decide +kernel
theorem dL_asked_10 : decode cL_asked 10 = .ok (.ireturn, 1) := by decide +kernel
theorem dL_asked_11 : decode cL_asked 11 = .ok (.astore_n 3, 1) := by decide +kernel
theorem dL_asked_12 : decode cL_asked 12 = .ok (.bipush (-4), 2) := by decide +kernel
theorem dL_asked_14 : decode cL_asked 14 = .ok (.ireturn, 1) := by decide +kernel
set_option maxRecDepth 20000 in
theorem ggL_harmed_X5_harm : GoodIn wsL_harmed wsX5_harm := goodIn_ca (goodIn_ca (goodIn_r _ [7, 8, 9, 10, 11, 12, 13, 14, 6, 15, 16, 17, 18, 19, 20, 21, 22, 23, 24, 25, 26, 27, 28, 29, 30, 31, 32, 33, 34, 35, 36, 37, 38, 39] (by decide +kernel) (by decide +kernel)) (goodIn_sub (fun _ h => List.mem_cons_of_mem _ (List.mem_append_left _ (List.mem_append_right _ h))) (by decide +kernel))) (goodIn_sub (fun _ h => List.mem_cons_of_mem _ (List.mem_append_right _ h)) (by decide +kernel))
set_option maxRecDepth 20000 in
theorem gL_harmed_X5_harm : GoodIn wsL_harmed (wsV RL 22 RX5 yX5_harm wsX5_harm) := goodIn_app (goodIn_of _ (by decide +kernel)) ggL_harmed_X5_harm
theorem dL_harmed_0 : decode cL_harmed 0 = .ok (.aload_n 0, 1) := by decide +kernel
theorem dL_harmed_1 : decode cL_harmed 1 = .ok (.iload_n 1, 1) := by decide +kernel
theorem dL_harmed_2 : decode cL_harmed 2 = .ok (.invokevirtual 22, 3) := by decide +kernel
theorem dL_harmed_5 : decode cL_harmed 5 = .ok (.ireturn, 1) := by decide +kernel
theorem dL_harmed_6 : decode cL_harmed 6 = .ok (.astore_n 2, 1) := by decide +kernel
theorem dL_harmed_7 : decode cL_harmed 7 = .ok (.bipush (-2), 2) := by decide +kernel
theorem dL_harmed_9 : decode cL_harmed 9 = .ok (.ireturn, 1) := by decide +kernel
theorem dL_harmed_10 : decode cL_harmed 10 = .ok (.astore_n 2, 1) := by decide +kernel
theorem dL_harmed_11 : decode cL_harmed 11 = .ok (.bipush (-4), 2) := by decide +kernel
theorem dL_harmed_13 : decode cL_harmed 13 = .ok (.ireturn, 1) := by decide +kernel
set_option maxRecDepth 20000 in
theorem ggL_looked_X5_look : GoodIn wsL_looked wsX5_look := goodIn_ca (goodIn_ca (goodIn_r _ [7, 8, 9, 10, 11, 12, 13, 6, 14, 15, 16, 17, 18, 19, 20, 21, 22, 23, 24, 25, 26, 27, 28, 29, 30, 31, 32, 33, 34, 35, 36, 37, 38, 39, 40, 41, 42, 43, 44, 45, 46, 47, 48, 49, 50, 51, 52, 53, 54, 55, 56, 57] (by decide +kernel) (by decide +kernel)) (goodIn_sub (fun _ h => List.mem_cons_of_mem _ (List.mem_append_left _ (List.mem_append_right _ h))) (by decide +kernel))) (goodIn_sub (fun _ h => List.mem_cons_of_mem _ (List.mem_append_right _ h)) (by decide +kernel))
set_option maxRecDepth 20000 in
theorem gL_looked_X5_look : GoodIn wsL_looked (wsV RL 28 RX5 yX5_look wsX5_look) := goodIn_app (goodIn_of _ (by decide +kernel)) ggL_looked_X5_look
theorem dL_looked_0 : decode cL_looked 0 = .ok (.bipush 16, 2) := by decide +kernel
theorem dL_looked_2 : decode cL_looked 2 = .ok (.aload_n 0, 1) := by decide +kernel
theorem dL_looked_3 : decode cL_looked 3 = .ok (.iload_n 1, 1) := by decide +kernel
theorem dL_looked_4 : decode cL_looked 4 = .ok (.invokevirtual 28, 3) := by decide +kernel
theorem dL_looked_7 : decode cL_looked 7 = .ok (.iadd, 1) := by decide +kernel
theorem dL_looked_8 : decode cL_looked 8 = .ok (.ireturn, 1) := by decide +kernel
theorem dL_looked_9 : decode cL_looked 9 = .ok (.astore_n 2, 1) := by decide +kernel
theorem dL_looked_10 : decode cL_looked 10 = .ok (.bipush (-2), 2) := by decide +kernel
theorem dL_looked_12 : decode cL_looked 12 = .ok (.ireturn, 1) := by decide +kernel
theorem dL_looked_13 : decode cL_looked 13 = .ok (.astore_n 2, 1) := by decide +kernel
theorem dL_looked_14 : decode cL_looked 14 = .ok (.bipush (-4), 2) := by decide +kernel
theorem dL_looked_16 : decode cL_looked 16 = .ok (.ireturn, 1) := by decide +kernel
set_option maxRecDepth 20000 in
theorem ggL_mended_X5_mend : GoodIn wsL_mended wsX5_mend := goodIn_ca (goodIn_ca (goodIn_r _ [7, 8, 9, 10, 11, 12, 13, 14, 6, 15, 16, 17, 18, 19, 20, 21, 22, 23, 24, 25, 26, 27, 28, 29, 30, 31, 32, 33, 34, 35, 36, 37, 38, 39, 40, 41, 42, 43, 44, 45, 46, 47, 48, 49, 50, 51, 52, 53, 54, 55, 56, 57, 58, 59, 60, 61, 62, 63, 64, 65, 66, 67, 68, 69, 70, 71, 72, 73, 74, 75, 76, 77, 78, 79, 80, 81, 82] (by decide +kernel) (by decide +kernel)) (goodIn_sub (fun _ h => List.mem_cons_of_mem _ (List.mem_append_left _ (List.mem_append_right _ h))) (by decide +kernel))) (goodIn_sub (fun _ h => List.mem_cons_of_mem _ (List.mem_append_right _ h)) (by decide +kernel))
set_option maxRecDepth 20000 in
theorem gL_mended_X5_mend : GoodIn wsL_mended (wsV RL 31 RX5 yX5_mend wsX5_mend) := goodIn_app (goodIn_of _ (by decide +kernel)) ggL_mended_X5_mend
theorem dL_mended_0 : decode cL_mended 0 = .ok (.aload_n 0, 1) := by decide +kernel
theorem dL_mended_1 : decode cL_mended 1 = .ok (.iload_n 1, 1) := by decide +kernel
theorem dL_mended_2 : decode cL_mended 2 = .ok (.invokevirtual 31, 3) := by decide +kernel
theorem dL_mended_5 : decode cL_mended 5 = .ok (.iconst 0, 1) := by decide +kernel
theorem dL_mended_6 : decode cL_mended 6 = .ok (.ireturn, 1) := by decide +kernel
theorem dL_mended_7 : decode cL_mended 7 = .ok (.astore_n 2, 1) := by decide +kernel
theorem dL_mended_8 : decode cL_mended 8 = .ok (.bipush (-2), 2) := by decide +kernel
theorem dL_mended_10 : decode cL_mended 10 = .ok (.ireturn, 1) := by decide +kernel
theorem dL_mended_11 : decode cL_mended 11 = .ok (.astore_n 2, 1) := by decide +kernel
theorem dL_mended_12 : decode cL_mended 12 = .ok (.bipush (-4), 2) := by decide +kernel
theorem dL_mended_14 : decode cL_mended 14 = .ok (.ireturn, 1) := by decide +kernel
set_option maxRecDepth 20000 in
theorem ggL_renewed_X5_renew : GoodIn wsL_renewed wsX5_renew := goodIn_ca (goodIn_ca (goodIn_r _ [7, 8, 9, 10, 11, 12, 13, 14, 15, 16, 6, 17, 18, 19, 20, 21, 22, 23, 24, 25, 26, 27, 28, 29, 30, 31, 32, 33, 34, 35, 36, 37, 38, 39, 40, 41, 42, 43, 44, 45, 46, 47, 48, 49, 50, 51, 52, 53, 54, 55, 56, 57, 58, 59, 60, 61, 62, 63, 64, 65, 66, 67, 68, 69, 70, 71, 72, 73, 74, 75, 76, 77, 78, 79, 80, 81, 82] (by decide +kernel) (by decide +kernel)) (goodIn_sub (fun _ h => List.mem_cons_of_mem _ (List.mem_append_left _ (List.mem_append_right _ h))) (by decide +kernel))) (goodIn_sub (fun _ h => List.mem_cons_of_mem _ (List.mem_append_right _ h)) (by decide +kernel))
set_option maxRecDepth 20000 in
theorem gL_renewed_X5_renew : GoodIn wsL_renewed (wsV RL 35 RX5 yX5_renew wsX5_renew) := goodIn_app (goodIn_of _ (by decide +kernel)) ggL_renewed_X5_renew
theorem dL_renewed_0 : decode cL_renewed 0 = .ok (.aload_n 0, 1) := by decide +kernel
theorem dL_renewed_1 : decode cL_renewed 1 = .ok (.iload_n 1, 1) := by decide +kernel
theorem dL_renewed_2 : decode cL_renewed 2 = .ok (.invokevirtual 35, 3) := by decide +kernel
theorem dL_renewed_5 : decode cL_renewed 5 = .ok (.ireturn, 1) := by decide +kernel
theorem dL_renewed_6 : decode cL_renewed 6 = .ok (.astore_n 2, 1) := by decide +kernel
theorem dL_renewed_7 : decode cL_renewed 7 = .ok (.bipush (-2), 2) := by decide +kernel
theorem dL_renewed_9 : decode cL_renewed 9 = .ok (.ireturn, 1) := by decide +kernel
theorem dL_renewed_10 : decode cL_renewed 10 = .ok (.astore_n 2, 1) := by decide +kernel
theorem dL_renewed_11 : decode cL_renewed 11 = .ok (.bipush (-4), 2) := by decide +kernel
theorem dL_renewed_13 : decode cL_renewed 13 = .ok (.ireturn, 1) := by decide +kernel
set_option maxRecDepth 20000 in
theorem ggL_recalled_X5_recall : GoodIn wsL_recalled wsX5_recall := goodIn_ca (goodIn_ca (goodIn_r _ [7, 8, 9, 10, 11, 12, 13, 14, 15, 16, 17, 6, 18, 19, 20, 21, 22, 23, 24, 25, 26, 27, 28, 29, 30, 31, 32, 33, 34, 35, 36, 37, 38, 39, 40, 41, 42, 43, 44, 45, 46, 47, 48, 49, 50, 51, 52, 53, 54, 55, 56, 57, 58, 59, 60, 61, 62, 63, 64, 65, 66, 67, 68, 69, 70, 71, 72, 73, 74, 75, 76, 77, 78, 79, 80, 81, 82, 83] (by decide +kernel) (by decide +kernel)) (goodIn_sub (fun _ h => List.mem_cons_of_mem _ (List.mem_append_left _ (List.mem_append_right _ h))) (by decide +kernel))) (goodIn_sub (fun _ h => List.mem_cons_of_mem _ (List.mem_append_right _ h)) (by decide +kernel))
set_option maxRecDepth 20000 in
theorem gL_recalled_X5_recall : GoodIn wsL_recalled (wsV RL 38 RX5 yX5_recall wsX5_recall) := goodIn_app (goodIn_of _ (by decide +kernel)) ggL_recalled_X5_recall
theorem dL_recalled_0 : decode cL_recalled 0 = .ok (.aload_n 0, 1) := by decide +kernel
theorem dL_recalled_1 : decode cL_recalled 1 = .ok (.iload_n 1, 1) := by decide +kernel
theorem dL_recalled_2 : decode cL_recalled 2 = .ok (.invokevirtual 38, 3) := by decide +kernel
theorem dL_recalled_5 : decode cL_recalled 5 = .ok (.ireturn, 1) := by decide +kernel
theorem dL_recalled_6 : decode cL_recalled 6 = .ok (.astore_n 2, 1) := by decide +kernel
theorem dL_recalled_7 : decode cL_recalled 7 = .ok (.bipush (-2), 2) := by decide +kernel
theorem dL_recalled_9 : decode cL_recalled 9 = .ok (.ireturn, 1) := by decide +kernel
theorem dL_recalled_10 : decode cL_recalled 10 = .ok (.astore_n 2, 1) := by decide +kernel
theorem dL_recalled_11 : decode cL_recalled 11 = .ok (.bipush (-4), 2) := by decide +kernel
theorem dL_recalled_13 : decode cL_recalled 13 = .ok (.ireturn, 1) := by decide +kernel
set_option maxRecDepth 20000 in
theorem ggL_back_X5_sendBack : GoodIn wsL_back wsX5_sendBack := goodIn_ca (goodIn_ca (goodIn_r _ [7, 8, 9, 10, 11, 12, 13, 14, 15, 16, 17, 18, 19, 20, 21, 22, 23, 24, 6, 25, 26, 27, 28, 29, 30, 31, 32, 33, 34, 35, 36, 37, 38, 39, 40, 41, 42, 43, 44, 45, 46, 47, 48, 49, 50, 51, 52, 53, 54, 55, 56, 57, 58, 59, 60, 61, 62, 63, 64, 65, 66, 67, 68, 69, 70, 71, 72, 73, 74, 75, 76, 77, 78, 79, 80, 81, 82, 83, 84, 85, 86, 87, 88, 89, 90, 91, 92, 93, 94, 95, 96, 97, 98, 99] (by decide +kernel) (by decide +kernel)) (goodIn_sub (fun _ h => List.mem_cons_of_mem _ (List.mem_append_left _ (List.mem_append_right _ h))) (by decide +kernel))) (goodIn_sub (fun _ h => List.mem_cons_of_mem _ (List.mem_append_right _ h)) (by decide +kernel))
set_option maxRecDepth 20000 in
theorem gL_back_X5_sendBack : GoodIn wsL_back (wsV RL 41 RX5 yX5_sendBack wsX5_sendBack) := goodIn_app (goodIn_of _ (by decide +kernel)) ggL_back_X5_sendBack
theorem dL_back_0 : decode cL_back 0 = .ok (.aload_n 0, 1) := by decide +kernel
theorem dL_back_1 : decode cL_back 1 = .ok (.iload_n 1, 1) := by decide +kernel
theorem dL_back_2 : decode cL_back 2 = .ok (.invokevirtual 41, 3) := by decide +kernel
theorem dL_back_5 : decode cL_back 5 = .ok (.ireturn, 1) := by decide +kernel
theorem dL_back_6 : decode cL_back 6 = .ok (.astore_n 2, 1) := by decide +kernel
theorem dL_back_7 : decode cL_back 7 = .ok (.bipush (-2), 2) := by decide +kernel
theorem dL_back_9 : decode cL_back 9 = .ok (.ireturn, 1) := by decide +kernel
theorem dL_back_10 : decode cL_back 10 = .ok (.astore_n 2, 1) := by decide +kernel
theorem dL_back_11 : decode cL_back 11 = .ok (.bipush (-4), 2) := by decide +kernel
theorem dL_back_13 : decode cL_back 13 = .ok (.ireturn, 1) := by decide +kernel
set_option maxRecDepth 20000 in
theorem ggL_passed_X5_pass : GoodIn wsL_passed wsX5_pass := goodIn_ca (goodIn_r _ [6, 7, 8, 9, 10, 11, 5, 12, 13, 14, 15, 16, 17, 18, 19, 20, 21, 22, 23, 24, 25, 26, 27, 28, 29, 30, 31, 32, 33, 34, 35, 36, 37, 38, 39, 40, 41, 42, 43, 44, 45, 46, 47, 48, 49, 50, 51, 52, 53, 54, 55, 56, 57, 58, 59, 60, 61, 62, 63, 64, 65, 66, 67, 68, 69, 70, 71, 72, 73, 74, 75, 76, 77, 78, 79, 80, 81, 82, 83, 84, 85, 86, 87, 88, 89, 90, 91, 92, 93, 94, 95, 96, 97, 98, 99, 100, 101, 102, 103, 104, 105, 106, 107, 108, 109, 110, 111, 112, 113, 114, 115, 116, 117, 118, 119, 120, 121, 122, 123, 124, 125, 126, 127, 128, 129, 130, 131, 132, 133, 134, 135, 136, 137, 138, 139, 140, 141, 142, 143, 144, 145, 146, 147, 148, 149, 150, 151, 152, 153, 154, 155, 156, 157, 158, 159, 160, 161, 162, 163, 164, 165, 166, 167, 168, 169, 170, 171, 172, 173, 174, 175, 176, 177, 178, 179, 180, 181, 182, 183, 184, 185, 186, 187, 188, 189, 190, 191, 192, 193, 194, 195, 196] (by decide +kernel) (by decide +kernel)) (goodIn_sub (fun _ h => List.mem_cons_of_mem _ (List.mem_append_right _ h)) (by decide +kernel))
set_option maxRecDepth 20000 in
theorem gL_passed_X5_pass : GoodIn wsL_passed (wsV RL 44 RX5 yX5_pass wsX5_pass) := goodIn_app (goodIn_of _ (by decide +kernel)) ggL_passed_X5_pass
theorem dL_passed_0 : decode cL_passed 0 = .ok (.aload_n 0, 1) := by decide +kernel
theorem dL_passed_1 : decode cL_passed 1 = .ok (.iload_n 1, 1) := by decide +kernel
theorem dL_passed_2 : decode cL_passed 2 = .ok (.invokevirtual 44, 3) := by decide +kernel
theorem dL_passed_5 : decode cL_passed 5 = .ok (.ireturn, 1) := by decide +kernel
theorem dL_passed_6 : decode cL_passed 6 = .ok (.astore_n 2, 1) := by decide +kernel
theorem dL_passed_7 : decode cL_passed 7 = .ok (.bipush (-3), 2) := by decide +kernel
theorem dL_passed_9 : decode cL_passed 9 = .ok (.ireturn, 1) := by decide +kernel
set_option maxRecDepth 20000 in
theorem ggL_due_X5_due : GoodIn wsL_due wsX5_due := goodIn_ca (goodIn_ca (goodIn_r _ [7, 8, 9, 10, 11, 12, 13, 14, 6, 15, 16, 17, 18, 19, 20, 21, 22, 23, 24, 25, 26, 27, 28, 29, 30, 31, 32] (by decide +kernel) (by decide +kernel)) (goodIn_sub (fun _ h => List.mem_cons_of_mem _ (List.mem_append_left _ (List.mem_append_right _ h))) (by decide +kernel))) (goodIn_sub (fun _ h => List.mem_cons_of_mem _ (List.mem_append_right _ h)) (by decide +kernel))
set_option maxRecDepth 20000 in
theorem gL_due_X5_due : GoodIn wsL_due (wsV RL 47 RX5 yX5_due wsX5_due) := goodIn_app (goodIn_of _ (by decide +kernel)) ggL_due_X5_due
theorem dL_due_0 : decode cL_due 0 = .ok (.aload_n 0, 1) := by decide +kernel
theorem dL_due_1 : decode cL_due 1 = .ok (.iload_n 1, 1) := by decide +kernel
theorem dL_due_2 : decode cL_due 2 = .ok (.invokevirtual 47, 3) := by decide +kernel
theorem dL_due_5 : decode cL_due 5 = .ok (.ireturn, 1) := by decide +kernel
theorem dL_due_6 : decode cL_due 6 = .ok (.astore_n 2, 1) := by decide +kernel
theorem dL_due_7 : decode cL_due 7 = .ok (.bipush (-2), 2) := by decide +kernel
theorem dL_due_9 : decode cL_due 9 = .ok (.ireturn, 1) := by decide +kernel
theorem dL_due_10 : decode cL_due 10 = .ok (.astore_n 2, 1) := by decide +kernel
theorem dL_due_11 : decode cL_due 11 = .ok (.bipush (-4), 2) := by decide +kernel
theorem dL_due_13 : decode cL_due 13 = .ok (.ireturn, 1) := by decide +kernel
set_option maxRecDepth 20000 in
theorem ggL_stateOf_X5_state : GoodIn wsL_stateOf wsX5_state := goodIn_ca (goodIn_r _ [6, 7, 8, 9, 10, 5, 11, 12, 13, 14, 15, 16, 17, 18, 19, 20, 21, 22, 23, 24, 25, 26, 27, 28] (by decide +kernel) (by decide +kernel)) (goodIn_sub (fun _ h => List.mem_cons_of_mem _ (List.mem_append_right _ h)) (by decide +kernel))
set_option maxRecDepth 20000 in
theorem gL_stateOf_X5_state : GoodIn wsL_stateOf (wsV RL 50 RX5 yX5_state wsX5_state) := goodIn_app (goodIn_of _ (by decide +kernel)) ggL_stateOf_X5_state
theorem dL_stateOf_0 : decode cL_stateOf 0 = .ok (.aload_n 0, 1) := by decide +kernel
theorem dL_stateOf_1 : decode cL_stateOf 1 = .ok (.iload_n 1, 1) := by decide +kernel
theorem dL_stateOf_2 : decode cL_stateOf 2 = .ok (.invokevirtual 50, 3) := by decide +kernel
theorem dL_stateOf_5 : decode cL_stateOf 5 = .ok (.ireturn, 1) := by decide +kernel
theorem dL_stateOf_6 : decode cL_stateOf 6 = .ok (.astore_n 2, 1) := by decide +kernel
theorem dL_stateOf_7 : decode cL_stateOf 7 = .ok (.bipush (-2), 2) := by decide +kernel
theorem dL_stateOf_9 : decode cL_stateOf 9 = .ok (.ireturn, 1) := by decide +kernel
set_option maxRecDepth 20000 in
theorem ggL_owed_X5_owes : GoodIn wsL_owed wsX5_owes := goodIn_ca (goodIn_r _ [6, 7, 8, 9, 10, 11, 5, 12, 13, 14, 15, 16, 17, 18, 19, 20, 21, 22, 23, 24, 25, 26, 27, 28] (by decide +kernel) (by decide +kernel)) (goodIn_sub (fun _ h => List.mem_cons_of_mem _ (List.mem_append_right _ h)) (by decide +kernel))
set_option maxRecDepth 20000 in
theorem gL_owed_X5_owes : GoodIn wsL_owed (wsV RL 53 RX5 yX5_owes wsX5_owes) := goodIn_app (goodIn_of _ (by decide +kernel)) ggL_owed_X5_owes
theorem dL_owed_0 : decode cL_owed 0 = .ok (.aload_n 0, 1) := by decide +kernel
theorem dL_owed_1 : decode cL_owed 1 = .ok (.iload_n 1, 1) := by decide +kernel
theorem dL_owed_2 : decode cL_owed 2 = .ok (.iload_n 2, 1) := by decide +kernel
theorem dL_owed_3 : decode cL_owed 3 = .ok (.invokevirtual 53, 3) := by decide +kernel
theorem dL_owed_6 : decode cL_owed 6 = .ok (.ireturn, 1) := by decide +kernel
theorem dL_owed_7 : decode cL_owed 7 = .ok (.astore_n 3, 1) := by decide +kernel
theorem dL_owed_8 : decode cL_owed 8 = .ok (.bipush (-99), 2) := by decide +kernel
theorem dL_owed_10 : decode cL_owed 10 = .ok (.ireturn, 1) := by decide +kernel
set_option maxRecDepth 20000 in
theorem ggL_tell_X5_today : GoodIn wsL_tell wsX5_today := goodIn_r _ [7, 8, 97, 98, 99, 100, 101, 102, 103] (by decide +kernel) (by decide +kernel)
set_option maxRecDepth 20000 in
theorem gL_tell_X5_today : GoodIn wsL_tell (wsV RL 56 RX5 yX5_today wsX5_today) := goodIn_app (goodIn_of _ (by decide +kernel)) ggL_tell_X5_today
set_option maxRecDepth 20000 in
theorem ggL_tell_X5_inHandsOf : GoodIn wsL_tell wsX5_inHandsOf := goodIn_ca (goodIn_r _ [12, 13, 14, 15, 16, 6, 17, 18, 19, 20, 104, 105, 106, 107, 108, 109, 110, 111, 97, 98, 99, 100, 101, 102, 103] (by decide +kernel) (by decide +kernel)) (goodIn_sub (fun _ h => List.mem_cons_of_mem _ (List.mem_append_left _ (List.mem_append_left _ (List.mem_append_right _ h)))) (by decide +kernel))
set_option maxRecDepth 20000 in
theorem gL_tell_X5_inHandsOf : GoodIn wsL_tell (wsV RL 60 RX5 yX5_inHandsOf wsX5_inHandsOf) := goodIn_app (goodIn_of _ (by decide +kernel)) ggL_tell_X5_inHandsOf
set_option maxRecDepth 20000 in
theorem ggL_tell_X5_listed : GoodIn wsL_tell wsX5_listed := goodIn_ca (goodIn_r _ [24, 25, 14, 15, 16, 6, 17, 18, 19, 20, 104, 105, 106, 107, 108, 109, 110, 111, 97, 98, 99, 100, 101, 102, 103] (by decide +kernel) (by decide +kernel)) (goodIn_sub (fun _ h => List.mem_cons_of_mem _ (List.mem_append_left _ (List.mem_append_left _ (List.mem_append_right _ h)))) (by decide +kernel))
set_option maxRecDepth 20000 in
theorem gL_tell_X5_listed : GoodIn wsL_tell (wsV RL 63 RX5 yX5_listed wsX5_listed) := goodIn_app (goodIn_of _ (by decide +kernel)) ggL_tell_X5_listed
set_option maxRecDepth 20000 in
theorem ggL_tell_X5_isFree : GoodIn wsL_tell wsX5_isFree := goodIn_ca (goodIn_r _ [29, 14, 15, 16, 6, 17, 18, 19, 20, 30, 31, 32, 33, 34, 35, 36, 37, 38, 39, 40, 41, 42, 97, 98, 99, 100, 101, 102, 103, 104, 105, 106, 107, 108, 109, 110, 111] (by decide +kernel) (by decide +kernel)) (goodIn_sub (fun _ h => List.mem_cons_of_mem _ (List.mem_append_left _ (List.mem_append_left _ (List.mem_append_right _ h)))) (by decide +kernel))
set_option maxRecDepth 20000 in
theorem gL_tell_X5_isFree : GoodIn wsL_tell (wsV RL 66 RX5 yX5_isFree wsX5_isFree) := goodIn_app (goodIn_of _ (by decide +kernel)) ggL_tell_X5_isFree
set_option maxRecDepth 20000 in
theorem ggL_tell_X5_state : GoodIn wsL_tell wsX5_state := goodIn_ca (goodIn_r _ [46, 47, 48, 49, 50, 6, 51, 18, 19, 52, 112, 113, 114, 115, 116, 117, 118, 97, 98, 99, 100, 101, 102, 103] (by decide +kernel) (by decide +kernel)) (goodIn_sub (fun _ h => List.mem_cons_of_mem _ (List.mem_append_left _ (List.mem_append_left _ (List.mem_append_right _ h)))) (by decide +kernel))
set_option maxRecDepth 20000 in
theorem gL_tell_X5_state : GoodIn wsL_tell (wsV RL 50 RX5 yX5_state wsX5_state) := goodIn_app (goodIn_of _ (by decide +kernel)) ggL_tell_X5_state
set_option maxRecDepth 20000 in
theorem ggL_tell_X5_copyOf : GoodIn wsL_tell wsX5_copyOf := goodIn_ca (goodIn_r _ [56, 57, 58, 48, 49, 50, 6, 51, 18, 19, 52, 112, 113, 114, 115, 116, 117, 118, 104, 105, 106, 107, 108, 109, 110, 111, 97, 98, 99, 100, 101, 102, 103] (by decide +kernel) (by decide +kernel)) (goodIn_sub (fun _ h => List.mem_cons_of_mem _ (List.mem_append_left _ (List.mem_append_left _ (List.mem_append_right _ h)))) (by decide +kernel))
set_option maxRecDepth 20000 in
theorem gL_tell_X5_copyOf : GoodIn wsL_tell (wsV RL 71 RX5 yX5_copyOf wsX5_copyOf) := goodIn_app (goodIn_of _ (by decide +kernel)) ggL_tell_X5_copyOf
set_option maxRecDepth 20000 in
theorem ggL_tell_L_due : GoodIn wsL_tell wsL_due := goodIn_ca (goodIn_ca (goodIn_r _ [62, 63, 64, 65, 66, 67, 6, 68, 69, 70, 47, 71, 48, 49, 50, 51, 18, 19, 52, 112, 113, 114, 115, 116, 117, 118, 97, 98, 99, 100, 101, 102, 103] (by decide +kernel) (by decide +kernel)) (goodIn_sub (fun _ h => List.mem_cons_of_mem _ (List.mem_append_left _ (List.mem_append_right _ h))) (by decide +kernel))) (goodIn_sub (fun _ h => List.mem_cons_of_mem _ (List.mem_append_left _ (List.mem_append_left _ (List.mem_append_right _ h)))) (by decide +kernel))
set_option maxRecDepth 20000 in
theorem gL_tell_L_due : GoodIn wsL_tell (va_wsS RL 74 yL_due wsL_due) := goodIn_app (goodIn_of _ (by decide +kernel)) ggL_tell_L_due
set_option maxRecDepth 20000 in
theorem ggL_tell_X5_quota : GoodIn wsL_tell wsX5_quota := goodIn_ca (goodIn_r _ [75, 76, 77, 78, 79, 80, 6, 81, 82, 83, 84, 85, 86, 87, 97, 98, 99, 100, 101, 102, 103, 119, 120, 121] (by decide +kernel) (by decide +kernel)) (goodIn_sub (fun _ h => List.mem_cons_of_mem _ (List.mem_append_right _ h)) (by decide +kernel))
set_option maxRecDepth 20000 in
theorem gL_tell_X5_quota : GoodIn wsL_tell (wsV RL 79 RX5 yX5_quota wsX5_quota) := goodIn_app (goodIn_of _ (by decide +kernel)) ggL_tell_X5_quota
set_option maxRecDepth 20000 in
theorem ggL_tell_X5_owes : GoodIn wsL_tell wsX5_owes := goodIn_ca (goodIn_r _ [91, 76, 77, 78, 79, 80, 6, 81, 92, 93, 94, 85, 95, 96, 97, 98, 99, 100, 101, 102, 103, 119, 120, 121] (by decide +kernel) (by decide +kernel)) (goodIn_sub (fun _ h => List.mem_cons_of_mem _ (List.mem_append_right _ h)) (by decide +kernel))
set_option maxRecDepth 20000 in
theorem gL_tell_X5_owes : GoodIn wsL_tell (wsV RL 53 RX5 yX5_owes wsX5_owes) := goodIn_app (goodIn_of _ (by decide +kernel)) ggL_tell_X5_owes
theorem dL_tell_0 : decode cL_tell 0 = .ok (.bipush 64, 2) := by decide +kernel
theorem dL_tell_2 : decode cL_tell 2 = .ok (.newarray .int, 2) := by decide +kernel
theorem dL_tell_4 : decode cL_tell 4 = .ok (.astore_n 3, 1) := by decide +kernel
theorem dL_tell_5 : decode cL_tell 5 = .ok (.aload_n 3, 1) := by decide +kernel
theorem dL_tell_6 : decode cL_tell 6 = .ok (.iconst 0, 1) := by decide +kernel
theorem dL_tell_7 : decode cL_tell 7 = .ok (.aload_n 0, 1) := by decide +kernel
theorem dL_tell_8 : decode cL_tell 8 = .ok (.invokevirtual 56, 3) := by decide +kernel
theorem dL_tell_11 : decode cL_tell 11 = .ok (.iastore, 1) := by decide +kernel
theorem dL_tell_12 : decode cL_tell 12 = .ok (.iconst 0, 1) := by decide +kernel
theorem dL_tell_13 : decode cL_tell 13 = .ok (.istore 4, 2) := by decide +kernel
theorem dL_tell_15 : decode cL_tell 15 = .ok (.iload 4, 2) := by decide +kernel
theorem dL_tell_17 : decode cL_tell 17 = .ok (.aload_n 1, 1) := by decide +kernel
theorem dL_tell_18 : decode cL_tell 18 = .ok (.bipush 40, 2) := by decide +kernel
theorem dL_tell_20 : decode cL_tell 20 = .ok (.iaload, 1) := by decide +kernel
theorem dL_tell_21 : decode cL_tell 21 = .ok (.if_icmp .ge 64, 3) := by decide +kernel
theorem dL_tell_24 : decode cL_tell 24 = .ok (.aload_n 3, 1) := by decide +kernel
theorem dL_tell_25 : decode cL_tell 25 = .ok (.iconst 1, 1) := by decide +kernel
theorem dL_tell_26 : decode cL_tell 26 = .ok (.bipush 31, 2) := by decide +kernel
theorem dL_tell_28 : decode cL_tell 28 = .ok (.aload_n 3, 1) := by decide +kernel
theorem dL_tell_29 : decode cL_tell 29 = .ok (.iconst 1, 1) := by decide +kernel
theorem dL_tell_30 : decode cL_tell 30 = .ok (.iaload, 1) := by decide +kernel
theorem dL_tell_31 : decode cL_tell 31 = .ok (.imul, 1) := by decide +kernel
theorem dL_tell_32 : decode cL_tell 32 = .ok (.aload_n 0, 1) := by decide +kernel
theorem dL_tell_33 : decode cL_tell 33 = .ok (.iload 4, 2) := by decide +kernel
theorem dL_tell_35 : decode cL_tell 35 = .ok (.invokevirtual 60, 3) := by decide +kernel
theorem dL_tell_38 : decode cL_tell 38 = .ok (.iadd, 1) := by decide +kernel
theorem dL_tell_39 : decode cL_tell 39 = .ok (.iastore, 1) := by decide +kernel
theorem dL_tell_40 : decode cL_tell 40 = .ok (.aload_n 3, 1) := by decide +kernel
theorem dL_tell_41 : decode cL_tell 41 = .ok (.iconst 2, 1) := by decide +kernel
theorem dL_tell_42 : decode cL_tell 42 = .ok (.bipush 31, 2) := by decide +kernel
theorem dL_tell_44 : decode cL_tell 44 = .ok (.aload_n 3, 1) := by decide +kernel
theorem dL_tell_45 : decode cL_tell 45 = .ok (.iconst 2, 1) := by decide +kernel
theorem dL_tell_46 : decode cL_tell 46 = .ok (.iaload, 1) := by decide +kernel
theorem dL_tell_47 : decode cL_tell 47 = .ok (.imul, 1) := by decide +kernel
theorem dL_tell_48 : decode cL_tell 48 = .ok (.aload_n 0, 1) := by decide +kernel
theorem dL_tell_49 : decode cL_tell 49 = .ok (.iload 4, 2) := by decide +kernel
theorem dL_tell_51 : decode cL_tell 51 = .ok (.invokevirtual 63, 3) := by decide +kernel
theorem dL_tell_54 : decode cL_tell 54 = .ok (.iadd, 1) := by decide +kernel
theorem dL_tell_55 : decode cL_tell 55 = .ok (.iastore, 1) := by decide +kernel
theorem dL_tell_56 : decode cL_tell 56 = .ok (.aload_n 3, 1) := by decide +kernel
theorem dL_tell_57 : decode cL_tell 57 = .ok (.iconst 3, 1) := by decide +kernel
theorem dL_tell_58 : decode cL_tell 58 = .ok (.iconst 2, 1) := by decide +kernel
theorem dL_tell_59 : decode cL_tell 59 = .ok (.aload_n 3, 1) := by decide +kernel
theorem dL_tell_60 : decode cL_tell 60 = .ok (.iconst 3, 1) := by decide +kernel
theorem dL_tell_61 : decode cL_tell 61 = .ok (.iaload, 1) := by decide +kernel
theorem dL_tell_62 : decode cL_tell 62 = .ok (.imul, 1) := by decide +kernel
theorem dL_tell_63 : decode cL_tell 63 = .ok (.aload_n 0, 1) := by decide +kernel
theorem dL_tell_64 : decode cL_tell 64 = .ok (.iload 4, 2) := by decide +kernel
theorem dL_tell_66 : decode cL_tell 66 = .ok (.invokevirtual 66, 3) := by decide +kernel
theorem dL_tell_69 : decode cL_tell 69 = .ok (.ifCond .eq 7, 3) := by decide +kernel
theorem dL_tell_72 : decode cL_tell 72 = .ok (.iconst 1, 1) := by decide +kernel
theorem dL_tell_73 : decode cL_tell 73 = .ok (.goto 4, 3) := by decide +kernel
theorem dL_tell_76 : decode cL_tell 76 = .ok (.iconst 0, 1) := by decide +kernel
theorem dL_tell_77 : decode cL_tell 77 = .ok (.iadd, 1) := by decide +kernel
theorem dL_tell_78 : decode cL_tell 78 = .ok (.iastore, 1) := by decide +kernel
theorem dL_tell_79 : decode cL_tell 79 = .ok (.iinc 4 1, 3) := by decide +kernel
theorem dL_tell_82 : decode cL_tell 82 = .ok (.goto (-67), 3) := by decide +kernel
theorem dL_tell_85 : decode cL_tell 85 = .ok (.iconst 0, 1) := by decide +kernel
theorem dL_tell_86 : decode cL_tell 86 = .ok (.istore 4, 2) := by decide +kernel
theorem dL_tell_88 : decode cL_tell 88 = .ok (.iload 4, 2) := by decide +kernel
theorem dL_tell_90 : decode cL_tell 90 = .ok (.aload_n 2, 1) := by decide +kernel
theorem dL_tell_91 : decode cL_tell 91 = .ok (.bipush 40, 2) := by decide +kernel
theorem dL_tell_93 : decode cL_tell 93 = .ok (.iaload, 1) := by decide +kernel
theorem dL_tell_94 : decode cL_tell 94 = .ok (.if_icmp .ge 43, 3) := by decide +kernel
theorem dL_tell_97 : decode cL_tell 97 = .ok (.aload_n 3, 1) := by decide +kernel
theorem dL_tell_98 : decode cL_tell 98 = .ok (.bipush 10, 2) := by decide +kernel
theorem dL_tell_100 : decode cL_tell 100 = .ok (.iload 4, 2) := by decide +kernel
theorem dL_tell_102 : decode cL_tell 102 = .ok (.iadd, 1) := by decide +kernel
theorem dL_tell_103 : decode cL_tell 103 = .ok (.ldc 70, 2) := by decide +kernel
theorem dL_tell_105 : decode cL_tell 105 = .ok (.aload_n 0, 1) := by decide +kernel
theorem dL_tell_106 : decode cL_tell 106 = .ok (.iload 4, 2) := by decide +kernel
theorem dL_tell_108 : decode cL_tell 108 = .ok (.invokevirtual 50, 3) := by decide +kernel
theorem dL_tell_111 : decode cL_tell 111 = .ok (.imul, 1) := by decide +kernel
theorem dL_tell_112 : decode cL_tell 112 = .ok (.sipush 10000, 3) := by decide +kernel
theorem dL_tell_115 : decode cL_tell 115 = .ok (.aload_n 0, 1) := by decide +kernel
theorem dL_tell_116 : decode cL_tell 116 = .ok (.iload 4, 2) := by decide +kernel
theorem dL_tell_118 : decode cL_tell 118 = .ok (.invokevirtual 71, 3) := by decide +kernel
theorem dL_tell_121 : decode cL_tell 121 = .ok (.imul, 1) := by decide +kernel
theorem dL_tell_122 : decode cL_tell 122 = .ok (.iadd, 1) := by decide +kernel
theorem dL_tell_123 : decode cL_tell 123 = .ok (.aload_n 0, 1) := by decide +kernel
theorem dL_tell_124 : decode cL_tell 124 = .ok (.iload 4, 2) := by decide +kernel
theorem dL_tell_126 : decode cL_tell 126 = .ok (.invokestatic 74, 3) := by decide +kernel
theorem dL_tell_129 : decode cL_tell 129 = .ok (.iadd, 1) := by decide +kernel
theorem dL_tell_130 : decode cL_tell 130 = .ok (.iastore, 1) := by decide +kernel
theorem dL_tell_131 : decode cL_tell 131 = .ok (.iinc 4 1, 3) := by decide +kernel
theorem dL_tell_134 : decode cL_tell 134 = .ok (.goto (-46), 3) := by decide +kernel
theorem dL_tell_137 : decode cL_tell 137 = .ok (.iconst 0, 1) := by decide +kernel
theorem dL_tell_138 : decode cL_tell 138 = .ok (.istore 4, 2) := by decide +kernel
theorem dL_tell_140 : decode cL_tell 140 = .ok (.iload 4, 2) := by decide +kernel
theorem dL_tell_142 : decode cL_tell 142 = .ok (.bipush 6, 2) := by decide +kernel
theorem dL_tell_144 : decode cL_tell 144 = .ok (.if_icmp .ge 68, 3) := by decide +kernel
theorem dL_tell_147 : decode cL_tell 147 = .ok (.aload_n 3, 1) := by decide +kernel
theorem dL_tell_148 : decode cL_tell 148 = .ok (.iconst 4, 1) := by decide +kernel
theorem dL_tell_149 : decode cL_tell 149 = .ok (.iconst 3, 1) := by decide +kernel
theorem dL_tell_150 : decode cL_tell 150 = .ok (.aload_n 3, 1) := by decide +kernel
theorem dL_tell_151 : decode cL_tell 151 = .ok (.iconst 4, 1) := by decide +kernel
theorem dL_tell_152 : decode cL_tell 152 = .ok (.iaload, 1) := by decide +kernel
theorem dL_tell_153 : decode cL_tell 153 = .ok (.imul, 1) := by decide +kernel
theorem dL_tell_154 : decode cL_tell 154 = .ok (.aload_n 0, 1) := by decide +kernel
theorem dL_tell_155 : decode cL_tell 155 = .ok (.iload 4, 2) := by decide +kernel
theorem dL_tell_157 : decode cL_tell 157 = .ok (.invokevirtual 79, 3) := by decide +kernel
theorem dL_tell_160 : decode cL_tell 160 = .ok (.iadd, 1) := by decide +kernel
theorem dL_tell_161 : decode cL_tell 161 = .ok (.iastore, 1) := by decide +kernel
theorem dL_tell_162 : decode cL_tell 162 = .ok (.iconst 0, 1) := by decide +kernel
theorem dL_tell_163 : decode cL_tell 163 = .ok (.istore 5, 2) := by decide +kernel
theorem dL_tell_165 : decode cL_tell 165 = .ok (.iload 5, 2) := by decide +kernel
theorem dL_tell_167 : decode cL_tell 167 = .ok (.bipush 6, 2) := by decide +kernel
theorem dL_tell_169 : decode cL_tell 169 = .ok (.if_icmp .ge 37, 3) := by decide +kernel
theorem dL_tell_172 : decode cL_tell 172 = .ok (.aload_n 3, 1) := by decide +kernel
theorem dL_tell_173 : decode cL_tell 173 = .ok (.iconst 5, 1) := by decide +kernel
theorem dL_tell_174 : decode cL_tell 174 = .ok (.iload 4, 2) := by decide +kernel
theorem dL_tell_176 : decode cL_tell 176 = .ok (.iconst 3, 1) := by decide +kernel
theorem dL_tell_177 : decode cL_tell 177 = .ok (.irem, 1) := by decide +kernel
theorem dL_tell_178 : decode cL_tell 178 = .ok (.iadd, 1) := by decide +kernel
theorem dL_tell_179 : decode cL_tell 179 = .ok (.bipush 101, 2) := by decide +kernel
theorem dL_tell_181 : decode cL_tell 181 = .ok (.aload_n 3, 1) := by decide +kernel
theorem dL_tell_182 : decode cL_tell 182 = .ok (.iconst 5, 1) := by decide +kernel
theorem dL_tell_183 : decode cL_tell 183 = .ok (.iload 4, 2) := by decide +kernel
theorem dL_tell_185 : decode cL_tell 185 = .ok (.iconst 3, 1) := by decide +kernel
theorem dL_tell_186 : decode cL_tell 186 = .ok (.irem, 1) := by decide +kernel
theorem dL_tell_187 : decode cL_tell 187 = .ok (.iadd, 1) := by decide +kernel
theorem dL_tell_188 : decode cL_tell 188 = .ok (.iaload, 1) := by decide +kernel
theorem dL_tell_189 : decode cL_tell 189 = .ok (.imul, 1) := by decide +kernel
theorem dL_tell_190 : decode cL_tell 190 = .ok (.aload_n 0, 1) := by decide +kernel
theorem dL_tell_191 : decode cL_tell 191 = .ok (.iload 4, 2) := by decide +kernel
theorem dL_tell_193 : decode cL_tell 193 = .ok (.iload 5, 2) := by decide +kernel
theorem dL_tell_195 : decode cL_tell 195 = .ok (.invokevirtual 53, 3) := by decide +kernel
theorem dL_tell_198 : decode cL_tell 198 = .ok (.iadd, 1) := by decide +kernel
theorem dL_tell_199 : decode cL_tell 199 = .ok (.iastore, 1) := by decide +kernel
theorem dL_tell_200 : decode cL_tell 200 = .ok (.iinc 5 1, 3) := by decide +kernel
theorem dL_tell_203 : decode cL_tell 203 = .ok (.goto (-38), 3) := by decide +kernel
theorem dL_tell_206 : decode cL_tell 206 = .ok (.iinc 4 1, 3) := by decide +kernel
theorem dL_tell_209 : decode cL_tell 209 = .ok (.goto (-69), 3) := by decide +kernel
theorem dL_tell_212 : decode cL_tell 212 = .ok (.aload_n 3, 1) := by decide +kernel
theorem dL_tell_213 : decode cL_tell 213 = .ok (.areturn, 1) := by decide +kernel
theorem dL_same_0 : decode cL_same 0 = .ok (.iconst 0, 1) := by decide +kernel
theorem dL_same_1 : decode cL_same 1 = .ok (.istore_n 2, 1) := by decide +kernel
theorem dL_same_2 : decode cL_same 2 = .ok (.iload_n 2, 1) := by decide +kernel
theorem dL_same_3 : decode cL_same 3 = .ok (.bipush 64, 2) := by decide +kernel
theorem dL_same_5 : decode cL_same 5 = .ok (.if_icmp .ge 20, 3) := by decide +kernel
theorem dL_same_8 : decode cL_same 8 = .ok (.aload_n 0, 1) := by decide +kernel
theorem dL_same_9 : decode cL_same 9 = .ok (.iload_n 2, 1) := by decide +kernel
theorem dL_same_10 : decode cL_same 10 = .ok (.iaload, 1) := by decide +kernel
theorem dL_same_11 : decode cL_same 11 = .ok (.aload_n 1, 1) := by decide +kernel
theorem dL_same_12 : decode cL_same 12 = .ok (.iload_n 2, 1) := by decide +kernel
theorem dL_same_13 : decode cL_same 13 = .ok (.iaload, 1) := by decide +kernel
theorem dL_same_14 : decode cL_same 14 = .ok (.if_icmp .eq 5, 3) := by decide +kernel
theorem dL_same_17 : decode cL_same 17 = .ok (.iconst 0, 1) := by decide +kernel
theorem dL_same_18 : decode cL_same 18 = .ok (.ireturn, 1) := by decide +kernel
theorem dL_same_19 : decode cL_same 19 = .ok (.iinc 2 1, 3) := by decide +kernel
theorem dL_same_22 : decode cL_same 22 = .ok (.goto (-20), 3) := by decide +kernel
theorem dL_same_25 : decode cL_same 25 = .ok (.iconst 1, 1) := by decide +kernel
theorem dL_same_26 : decode cL_same 26 = .ok (.ireturn, 1) := by decide +kernel
theorem dL_way_0 : decode cL_way 0 = .ok (.iconst 1, 1) := by decide +kernel
theorem dL_way_1 : decode cL_way 1 = .ok (.iload_n 0, 1) := by decide +kernel
theorem dL_way_2 : decode cL_way 2 = .ok (.iload_n 1, 1) := by decide +kernel
theorem dL_way_3 : decode cL_way 3 = .ok (.if_icmp .ge 9, 3) := by decide +kernel
theorem dL_way_6 : decode cL_way 6 = .ok (.iload_n 1, 1) := by decide +kernel
theorem dL_way_7 : decode cL_way 7 = .ok (.iload_n 0, 1) := by decide +kernel
theorem dL_way_8 : decode cL_way 8 = .ok (.isub, 1) := by decide +kernel
theorem dL_way_9 : decode cL_way 9 = .ok (.goto 6, 3) := by decide +kernel
theorem dL_way_12 : decode cL_way 12 = .ok (.iload_n 0, 1) := by decide +kernel
theorem dL_way_13 : decode cL_way 13 = .ok (.iload_n 1, 1) := by decide +kernel
theorem dL_way_14 : decode cL_way 14 = .ok (.isub, 1) := by decide +kernel
theorem dL_way_15 : decode cL_way 15 = .ok (.iadd, 1) := by decide +kernel
theorem dL_way_16 : decode cL_way 16 = .ok (.ireturn, 1) := by decide +kernel
set_option maxRecDepth 20000 in
theorem ggL_first_X5_listed : GoodIn wsL_first wsX5_listed := goodIn_ca (goodIn_r _ [5, 6, 7, 8, 9, 4, 10, 11, 12, 13, 18, 19, 20, 21, 22, 23, 24, 25, 26, 27, 28, 29, 30, 31, 32] (by decide +kernel) (by decide +kernel)) (goodIn_sub (fun _ h => List.mem_cons_of_mem _ (List.mem_append_right _ h)) (by decide +kernel))
set_option maxRecDepth 20000 in
theorem gL_first_X5_listed : GoodIn wsL_first (wsV RL 63 RX5 yX5_listed wsX5_listed) := goodIn_app (goodIn_of _ (by decide +kernel)) ggL_first_X5_listed
set_option maxRecDepth 20000 in
theorem ggL_first_L_way : GoodIn wsL_first wsL_way := goodIn_r _ [17] (by decide +kernel) (by decide +kernel)
set_option maxRecDepth 20000 in
theorem gL_first_L_way : GoodIn wsL_first (va_wsS RL 82 yL_way wsL_way) := goodIn_app (goodIn_of _ (by decide +kernel)) ggL_first_L_way
theorem dL_first_0 : decode cL_first 0 = .ok (.iconst (-1), 1) := by decide +kernel
theorem dL_first_1 : decode cL_first 1 = .ok (.istore 4, 2) := by decide +kernel
theorem dL_first_3 : decode cL_first 3 = .ok (.aload_n 1, 1) := by decide +kernel
theorem dL_first_4 : decode cL_first 4 = .ok (.bipush 40, 2) := by decide +kernel
theorem dL_first_6 : decode cL_first 6 = .ok (.iaload, 1) := by decide +kernel
theorem dL_first_7 : decode cL_first 7 = .ok (.iconst 1, 1) := by decide +kernel
theorem dL_first_8 : decode cL_first 8 = .ok (.isub, 1) := by decide +kernel
theorem dL_first_9 : decode cL_first 9 = .ok (.istore 5, 2) := by decide +kernel
theorem dL_first_11 : decode cL_first 11 = .ok (.iload 5, 2) := by decide +kernel
theorem dL_first_13 : decode cL_first 13 = .ok (.ifCond .lt 66, 3) := by decide +kernel
theorem dL_first_16 : decode cL_first 16 = .ok (.aload_n 1, 1) := by decide +kernel
theorem dL_first_17 : decode cL_first 17 = .ok (.bipush 20, 2) := by decide +kernel
theorem dL_first_19 : decode cL_first 19 = .ok (.iload 5, 2) := by decide +kernel
theorem dL_first_21 : decode cL_first 21 = .ok (.iadd, 1) := by decide +kernel
theorem dL_first_22 : decode cL_first 22 = .ok (.iaload, 1) := by decide +kernel
theorem dL_first_23 : decode cL_first 23 = .ok (.iload_n 3, 1) := by decide +kernel
theorem dL_first_24 : decode cL_first 24 = .ok (.if_icmp .ne 49, 3) := by decide +kernel
theorem dL_first_27 : decode cL_first 27 = .ok (.aload_n 0, 1) := by decide +kernel
theorem dL_first_28 : decode cL_first 28 = .ok (.iload 5, 2) := by decide +kernel
theorem dL_first_30 : decode cL_first 30 = .ok (.invokevirtual 63, 3) := by decide +kernel
theorem dL_first_33 : decode cL_first 33 = .ok (.iconst 1, 1) := by decide +kernel
theorem dL_first_34 : decode cL_first 34 = .ok (.if_icmp .ne 39, 3) := by decide +kernel
theorem dL_first_37 : decode cL_first 37 = .ok (.aload_n 1, 1) := by decide +kernel
theorem dL_first_38 : decode cL_first 38 = .ok (.iload 5, 2) := by decide +kernel
theorem dL_first_40 : decode cL_first 40 = .ok (.iaload, 1) := by decide +kernel
theorem dL_first_41 : decode cL_first 41 = .ok (.iload_n 2, 1) := by decide +kernel
theorem dL_first_42 : decode cL_first 42 = .ok (.if_icmp .eq 31, 3) := by decide +kernel
theorem dL_first_45 : decode cL_first 45 = .ok (.iload 4, 2) := by decide +kernel
theorem dL_first_47 : decode cL_first 47 = .ok (.ifCond .lt 22, 3) := by decide +kernel
theorem dL_first_50 : decode cL_first 50 = .ok (.aload_n 1, 1) := by decide +kernel
theorem dL_first_51 : decode cL_first 51 = .ok (.iload 5, 2) := by decide +kernel
theorem dL_first_53 : decode cL_first 53 = .ok (.iaload, 1) := by decide +kernel
theorem dL_first_54 : decode cL_first 54 = .ok (.iload_n 2, 1) := by decide +kernel
theorem dL_first_55 : decode cL_first 55 = .ok (.invokestatic 82, 3) := by decide +kernel
theorem dL_first_58 : decode cL_first 58 = .ok (.aload_n 1, 1) := by decide +kernel
theorem dL_first_59 : decode cL_first 59 = .ok (.iload 4, 2) := by decide +kernel
theorem dL_first_61 : decode cL_first 61 = .ok (.iaload, 1) := by decide +kernel
theorem dL_first_62 : decode cL_first 62 = .ok (.iload_n 2, 1) := by decide +kernel
theorem dL_first_63 : decode cL_first 63 = .ok (.invokestatic 82, 3) := by decide +kernel
theorem dL_first_66 : decode cL_first 66 = .ok (.if_icmp .gt 7, 3) := by decide +kernel
theorem dL_first_69 : decode cL_first 69 = .ok (.iload 5, 2) := by decide +kernel
theorem dL_first_71 : decode cL_first 71 = .ok (.istore 4, 2) := by decide +kernel
theorem dL_first_73 : decode cL_first 73 = .ok (.iinc 5 (-1), 3) := by decide +kernel
theorem dL_first_76 : decode cL_first 76 = .ok (.goto (-65), 3) := by decide +kernel
theorem dL_first_79 : decode cL_first 79 = .ok (.iload 4, 2) := by decide +kernel
theorem dL_first_81 : decode cL_first 81 = .ok (.ireturn, 1) := by decide +kernel
set_option maxRecDepth 20000 in
theorem ggL_holds_X5_state : GoodIn wsL_holds wsX5_state := goodIn_ca (goodIn_r _ [5, 6, 7, 8, 9, 4, 10, 11, 12, 13, 97, 98, 99, 100, 101, 102, 103, 104, 105, 106, 107, 108, 109, 110] (by decide +kernel) (by decide +kernel)) (goodIn_sub (fun _ h => List.mem_cons_of_mem _ (List.mem_append_left _ (List.mem_append_left _ (List.mem_append_right _ h)))) (by decide +kernel))
set_option maxRecDepth 20000 in
theorem gL_holds_X5_state : GoodIn wsL_holds (wsV RL 50 RX5 yX5_state wsX5_state) := goodIn_app (goodIn_of _ (by decide +kernel)) ggL_holds_X5_state
set_option maxRecDepth 20000 in
theorem ggL_holds_X5_copyOf : GoodIn wsL_holds wsX5_copyOf := goodIn_ca (goodIn_r _ [17, 18, 19, 7, 8, 9, 4, 10, 11, 12, 13, 97, 98, 99, 100, 101, 102, 103, 111, 112, 113, 114, 115, 116, 117, 118, 104, 105, 106, 107, 108, 109, 110] (by decide +kernel) (by decide +kernel)) (goodIn_sub (fun _ h => List.mem_cons_of_mem _ (List.mem_append_left _ (List.mem_append_left _ (List.mem_append_right _ h)))) (by decide +kernel))
set_option maxRecDepth 20000 in
theorem gL_holds_X5_copyOf : GoodIn wsL_holds (wsV RL 71 RX5 yX5_copyOf wsX5_copyOf) := goodIn_app (goodIn_of _ (by decide +kernel)) ggL_holds_X5_copyOf
set_option maxRecDepth 20000 in
theorem ggL_holds_L_due : GoodIn wsL_holds wsL_due := goodIn_ca (goodIn_ca (goodIn_r _ [23, 24, 25, 26, 27, 28, 4, 29, 30, 31, 6, 32, 7, 8, 9, 10, 11, 12, 13, 97, 98, 99, 100, 101, 102, 103, 104, 105, 106, 107, 108, 109, 110] (by decide +kernel) (by decide +kernel)) (goodIn_sub (fun _ h => List.mem_cons_of_mem _ (List.mem_append_left _ (List.mem_append_right _ h))) (by decide +kernel))) (goodIn_sub (fun _ h => List.mem_cons_of_mem _ (List.mem_append_left _ (List.mem_append_left _ (List.mem_append_right _ h)))) (by decide +kernel))
set_option maxRecDepth 20000 in
theorem gL_holds_L_due : GoodIn wsL_holds (va_wsS RL 74 yL_due wsL_due) := goodIn_app (goodIn_of _ (by decide +kernel)) ggL_holds_L_due
set_option maxRecDepth 20000 in
theorem ggL_holds_X5_isFree : GoodIn wsL_holds wsX5_isFree := goodIn_ca (goodIn_r _ [36, 37, 38, 39, 4, 40, 11, 12, 41, 42, 43, 44, 45, 46, 47, 48, 49, 50, 51, 52, 53, 54, 104, 105, 106, 107, 108, 109, 110, 111, 112, 113, 114, 115, 116, 117, 118] (by decide +kernel) (by decide +kernel)) (goodIn_sub (fun _ h => List.mem_cons_of_mem _ (List.mem_append_left _ (List.mem_append_left _ (List.mem_append_right _ h)))) (by decide +kernel))
set_option maxRecDepth 20000 in
theorem gL_holds_X5_isFree : GoodIn wsL_holds (wsV RL 66 RX5 yX5_isFree wsX5_isFree) := goodIn_app (goodIn_of _ (by decide +kernel)) ggL_holds_X5_isFree
set_option maxRecDepth 20000 in
theorem ggL_holds_X5_inHandsOf : GoodIn wsL_holds wsX5_inHandsOf := goodIn_ca (goodIn_r _ [58, 59, 37, 38, 39, 4, 40, 11, 12, 41, 111, 112, 113, 114, 115, 116, 117, 118, 104, 105, 106, 107, 108, 109, 110] (by decide +kernel) (by decide +kernel)) (goodIn_sub (fun _ h => List.mem_cons_of_mem _ (List.mem_append_left _ (List.mem_append_left _ (List.mem_append_right _ h)))) (by decide +kernel))
set_option maxRecDepth 20000 in
theorem gL_holds_X5_inHandsOf : GoodIn wsL_holds (wsV RL 60 RX5 yX5_inHandsOf wsX5_inHandsOf) := goodIn_app (goodIn_of _ (by decide +kernel)) ggL_holds_X5_inHandsOf
set_option maxRecDepth 20000 in
theorem ggL_holds_X5_listed : GoodIn wsL_holds wsX5_listed := goodIn_ca (goodIn_r _ [63, 64, 37, 38, 39, 4, 40, 11, 12, 41, 111, 112, 113, 114, 115, 116, 117, 118, 104, 105, 106, 107, 108, 109, 110] (by decide +kernel) (by decide +kernel)) (goodIn_sub (fun _ h => List.mem_cons_of_mem _ (List.mem_append_left _ (List.mem_append_left _ (List.mem_append_right _ h)))) (by decide +kernel))
set_option maxRecDepth 20000 in
theorem gL_holds_X5_listed : GoodIn wsL_holds (wsV RL 63 RX5 yX5_listed wsX5_listed) := goodIn_app (goodIn_of _ (by decide +kernel)) ggL_holds_X5_listed
set_option maxRecDepth 20000 in
theorem ggL_holds_L_owed : GoodIn wsL_holds wsL_owed := goodIn_ca (goodIn_r _ [67, 68, 69, 70, 71, 4, 72, 73, 74, 75, 76, 77, 78, 79, 80, 81, 82, 83, 84, 104, 105, 106, 107, 108, 109, 110, 119, 120, 121] (by decide +kernel) (by decide +kernel)) (goodIn_sub (fun _ h => List.mem_cons_of_mem _ (List.mem_append_right _ h)) (by decide +kernel))
set_option maxRecDepth 20000 in
theorem gL_holds_L_owed : GoodIn wsL_holds (va_wsS RL 85 yL_owed wsL_owed) := goodIn_app (goodIn_of _ (by decide +kernel)) ggL_holds_L_owed
set_option maxRecDepth 20000 in
theorem ggL_holds_X5_quota : GoodIn wsL_holds wsX5_quota := goodIn_ca (goodIn_r _ [88, 73, 74, 75, 76, 77, 4, 78, 89, 90, 91, 82, 92, 93, 104, 105, 106, 107, 108, 109, 110, 119, 120, 121] (by decide +kernel) (by decide +kernel)) (goodIn_sub (fun _ h => List.mem_cons_of_mem _ (List.mem_append_right _ h)) (by decide +kernel))
set_option maxRecDepth 20000 in
theorem gL_holds_X5_quota : GoodIn wsL_holds (wsV RL 79 RX5 yX5_quota wsX5_quota) := goodIn_app (goodIn_of _ (by decide +kernel)) ggL_holds_X5_quota
set_option maxRecDepth 20000 in
theorem ggL_holds_L_stateOf : GoodIn wsL_holds wsL_stateOf := goodIn_ca (goodIn_r _ [96, 24, 1, 2, 3, 4, 5, 6, 7, 8, 9, 10, 11, 12, 13, 97, 98, 99, 100, 101, 102, 103, 104, 105, 106, 107, 108, 109, 110] (by decide +kernel) (by decide +kernel)) (goodIn_sub (fun _ h => List.mem_cons_of_mem _ (List.mem_append_left _ (List.mem_append_left _ (List.mem_append_right _ h)))) (by decide +kernel))
set_option maxRecDepth 20000 in
theorem gL_holds_L_stateOf : GoodIn wsL_holds (va_wsS RL 89 yL_stateOf wsL_stateOf) := goodIn_app (goodIn_of _ (by decide +kernel)) ggL_holds_L_stateOf
theorem dL_holds_0 : decode cL_holds 0 = .ok (.iconst 0, 1) := by decide +kernel
theorem dL_holds_1 : decode cL_holds 1 = .ok (.istore_n 3, 1) := by decide +kernel
theorem dL_holds_2 : decode cL_holds 2 = .ok (.iconst 0, 1) := by decide +kernel
theorem dL_holds_3 : decode cL_holds 3 = .ok (.istore 4, 2) := by decide +kernel
theorem dL_holds_5 : decode cL_holds 5 = .ok (.iload 4, 2) := by decide +kernel
theorem dL_holds_7 : decode cL_holds 7 = .ok (.aload_n 2, 1) := by decide +kernel
theorem dL_holds_8 : decode cL_holds 8 = .ok (.bipush 40, 2) := by decide +kernel
theorem dL_holds_10 : decode cL_holds 10 = .ok (.iaload, 1) := by decide +kernel
theorem dL_holds_11 : decode cL_holds 11 = .ok (.if_icmp .ge 201, 3) := by decide +kernel
theorem dL_holds_14 : decode cL_holds 14 = .ok (.aload_n 0, 1) := by decide +kernel
theorem dL_holds_15 : decode cL_holds 15 = .ok (.iload 4, 2) := by decide +kernel
theorem dL_holds_17 : decode cL_holds 17 = .ok (.invokevirtual 50, 3) := by decide +kernel
theorem dL_holds_20 : decode cL_holds 20 = .ok (.istore 5, 2) := by decide +kernel
theorem dL_holds_22 : decode cL_holds 22 = .ok (.aload_n 0, 1) := by decide +kernel
theorem dL_holds_23 : decode cL_holds 23 = .ok (.iload 4, 2) := by decide +kernel
theorem dL_holds_25 : decode cL_holds 25 = .ok (.invokevirtual 71, 3) := by decide +kernel
theorem dL_holds_28 : decode cL_holds 28 = .ok (.istore 6, 2) := by decide +kernel
theorem dL_holds_30 : decode cL_holds 30 = .ok (.iload 5, 2) := by decide +kernel
theorem dL_holds_32 : decode cL_holds 32 = .ok (.ifCond .lt 72, 3) := by decide +kernel
theorem dL_holds_35 : decode cL_holds 35 = .ok (.iload 5, 2) := by decide +kernel
theorem dL_holds_37 : decode cL_holds 37 = .ok (.iconst 5, 1) := by decide +kernel
theorem dL_holds_38 : decode cL_holds 38 = .ok (.if_icmp .gt 66, 3) := by decide +kernel
theorem dL_holds_41 : decode cL_holds 41 = .ok (.iload 6, 2) := by decide +kernel
theorem dL_holds_43 : decode cL_holds 43 = .ok (.ifCond .ge 7, 3) := by decide +kernel
theorem dL_holds_46 : decode cL_holds 46 = .ok (.iconst 1, 1) := by decide +kernel
theorem dL_holds_47 : decode cL_holds 47 = .ok (.goto 4, 3) := by decide +kernel
