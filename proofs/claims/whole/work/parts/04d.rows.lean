theorem dX6_isCopy_4 : decode cX6_isCopy 4 = .ok (.getfield 75, 3) := by decide +kernel
theorem dX6_isCopy_7 : decode cX6_isCopy 7 = .ok (.iconst 1, 1) := by decide +kernel
theorem dX6_isCopy_8 : decode cX6_isCopy 8 = .ok (.isub, 1) := by decide +kernel
theorem dX6_isCopy_9 : decode cX6_isCopy 9 = .ok (.invokevirtual 71, 3) := by decide +kernel
theorem dX6_isCopy_12 : decode cX6_isCopy 12 = .ok (.ireturn, 1) := by decide +kernel
set_option maxRecDepth 20000 in
theorem ggX6_isRequest_X6_between : GoodIn wsX6_isRequest wsX6_between := goodIn_r _ [6] (by decide +kernel) (by decide +kernel)
set_option maxRecDepth 20000 in
theorem gX6_isRequest_X6_between : GoodIn wsX6_isRequest (wsV RX6 71 RX6 yX6_between wsX6_between) := goodIn_app (goodIn_of _ (by decide +kernel)) ggX6_isRequest_X6_between
theorem dX6_isRequest_0 : decode cX6_isRequest 0 = .ok (.aload_n 0, 1) := by decide +kernel
theorem dX6_isRequest_1 : decode cX6_isRequest 1 = .ok (.iload_n 1, 1) := by decide +kernel
theorem dX6_isRequest_2 : decode cX6_isRequest 2 = .ok (.iconst 0, 1) := by decide +kernel
theorem dX6_isRequest_3 : decode cX6_isRequest 3 = .ok (.aload_n 0, 1) := by decide +kernel
theorem dX6_isRequest_4 : decode cX6_isRequest 4 = .ok (.getfield 78, 3) := by decide +kernel
theorem dX6_isRequest_7 : decode cX6_isRequest 7 = .ok (.iconst 1, 1) := by decide +kernel
theorem dX6_isRequest_8 : decode cX6_isRequest 8 = .ok (.isub, 1) := by decide +kernel
theorem dX6_isRequest_9 : decode cX6_isRequest 9 = .ok (.invokevirtual 71, 3) := by decide +kernel
theorem dX6_isRequest_12 : decode cX6_isRequest 12 = .ok (.ireturn, 1) := by decide +kernel
theorem dX6_way_0 : decode cX6_way 0 = .ok (.iload_n 1, 1) := by decide +kernel
theorem dX6_way_1 : decode cX6_way 1 = .ok (.iload_n 2, 1) := by decide +kernel
theorem dX6_way_2 : decode cX6_way 2 = .ok (.if_icmp .ge 11, 3) := by decide +kernel
theorem dX6_way_5 : decode cX6_way 5 = .ok (.iload_n 2, 1) := by decide +kernel
theorem dX6_way_6 : decode cX6_way 6 = .ok (.iload_n 1, 1) := by decide +kernel
theorem dX6_way_7 : decode cX6_way 7 = .ok (.isub, 1) := by decide +kernel
theorem dX6_way_8 : decode cX6_way 8 = .ok (.iconst 1, 1) := by decide +kernel
theorem dX6_way_9 : decode cX6_way 9 = .ok (.iadd, 1) := by decide +kernel
theorem dX6_way_10 : decode cX6_way 10 = .ok (.goto 8, 3) := by decide +kernel
theorem dX6_way_13 : decode cX6_way 13 = .ok (.iload_n 1, 1) := by decide +kernel
theorem dX6_way_14 : decode cX6_way 14 = .ok (.iload_n 2, 1) := by decide +kernel
theorem dX6_way_15 : decode cX6_way 15 = .ok (.isub, 1) := by decide +kernel
theorem dX6_way_16 : decode cX6_way 16 = .ok (.iconst 1, 1) := by decide +kernel
theorem dX6_way_17 : decode cX6_way 17 = .ok (.iadd, 1) := by decide +kernel
theorem dX6_way_18 : decode cX6_way 18 = .ok (.ireturn, 1) := by decide +kernel
theorem dX6_send_0 : decode cX6_send 0 = .ok (.aload_n 0, 1) := by decide +kernel
theorem dX6_send_1 : decode cX6_send 1 = .ok (.getfield 52, 3) := by decide +kernel
theorem dX6_send_4 : decode cX6_send 4 = .ok (.aload_n 0, 1) := by decide +kernel
theorem dX6_send_5 : decode cX6_send 5 = .ok (.getfield 81, 3) := by decide +kernel
theorem dX6_send_8 : decode cX6_send 8 = .ok (.iload_n 1, 1) := by decide +kernel
theorem dX6_send_9 : decode cX6_send 9 = .ok (.iastore, 1) := by decide +kernel
theorem dX6_send_10 : decode cX6_send 10 = .ok (.aload_n 0, 1) := by decide +kernel
theorem dX6_send_11 : decode cX6_send 11 = .ok (.getfield 55, 3) := by decide +kernel
theorem dX6_send_14 : decode cX6_send 14 = .ok (.aload_n 0, 1) := by decide +kernel
theorem dX6_send_15 : decode cX6_send 15 = .ok (.getfield 81, 3) := by decide +kernel
theorem dX6_send_18 : decode cX6_send 18 = .ok (.iload_n 2, 1) := by decide +kernel
theorem dX6_send_19 : decode cX6_send 19 = .ok (.iastore, 1) := by decide +kernel
theorem dX6_send_20 : decode cX6_send 20 = .ok (.aload_n 0, 1) := by decide +kernel
theorem dX6_send_21 : decode cX6_send 21 = .ok (.getfield 58, 3) := by decide +kernel
theorem dX6_send_24 : decode cX6_send 24 = .ok (.aload_n 0, 1) := by decide +kernel
theorem dX6_send_25 : decode cX6_send 25 = .ok (.getfield 81, 3) := by decide +kernel
theorem dX6_send_28 : decode cX6_send 28 = .ok (.aload_n 0, 1) := by decide +kernel
theorem dX6_send_29 : decode cX6_send 29 = .ok (.getfield 84, 3) := by decide +kernel
theorem dX6_send_32 : decode cX6_send 32 = .ok (.iload_n 3, 1) := by decide +kernel
theorem dX6_send_33 : decode cX6_send 33 = .ok (.iadd, 1) := by decide +kernel
theorem dX6_send_34 : decode cX6_send 34 = .ok (.iastore, 1) := by decide +kernel
theorem dX6_send_35 : decode cX6_send 35 = .ok (.aload_n 0, 1) := by decide +kernel
theorem dX6_send_36 : decode cX6_send 36 = .ok (.dup, 1) := by decide +kernel
theorem dX6_send_37 : decode cX6_send 37 = .ok (.getfield 81, 3) := by decide +kernel
theorem dX6_send_40 : decode cX6_send 40 = .ok (.iconst 1, 1) := by decide +kernel
theorem dX6_send_41 : decode cX6_send 41 = .ok (.iadd, 1) := by decide +kernel
theorem dX6_send_42 : decode cX6_send 42 = .ok (.putfield 81, 3) := by decide +kernel
theorem dX6_send_45 : decode cX6_send 45 = .ok (.aload_n 0, 1) := by decide +kernel
theorem dX6_send_46 : decode cX6_send 46 = .ok (.getfield 84, 3) := by decide +kernel
theorem dX6_send_49 : decode cX6_send 49 = .ok (.iload_n 3, 1) := by decide +kernel
theorem dX6_send_50 : decode cX6_send 50 = .ok (.iadd, 1) := by decide +kernel
theorem dX6_send_51 : decode cX6_send 51 = .ok (.ireturn, 1) := by decide +kernel
theorem dX6_owe_0 : decode cX6_owe 0 = .ok (.aload_n 0, 1) := by decide +kernel
theorem dX6_owe_1 : decode cX6_owe 1 = .ok (.getfield 61, 3) := by decide +kernel
theorem dX6_owe_4 : decode cX6_owe 4 = .ok (.bipush 6, 2) := by decide +kernel
theorem dX6_owe_6 : decode cX6_owe 6 = .ok (.iload_n 1, 1) := by decide +kernel
theorem dX6_owe_7 : decode cX6_owe 7 = .ok (.imul, 1) := by decide +kernel
theorem dX6_owe_8 : decode cX6_owe 8 = .ok (.iload_n 2, 1) := by decide +kernel
theorem dX6_owe_9 : decode cX6_owe 9 = .ok (.iadd, 1) := by decide +kernel
theorem dX6_owe_10 : decode cX6_owe 10 = .ok (.dup2, 1) := by decide +kernel
theorem dX6_owe_11 : decode cX6_owe 11 = .ok (.iaload, 1) := by decide +kernel
theorem dX6_owe_12 : decode cX6_owe 12 = .ok (.iload_n 3, 1) := by decide +kernel
theorem dX6_owe_13 : decode cX6_owe 13 = .ok (.iadd, 1) := by decide +kernel
theorem dX6_owe_14 : decode cX6_owe 14 = .ok (.iastore, 1) := by decide +kernel
theorem dX6_owe_15 : decode cX6_owe 15 = .ok (.aload_n 0, 1) := by decide +kernel
theorem dX6_owe_16 : decode cX6_owe 16 = .ok (.getfield 61, 3) := by decide +kernel
theorem dX6_owe_19 : decode cX6_owe 19 = .ok (.bipush 6, 2) := by decide +kernel
theorem dX6_owe_21 : decode cX6_owe 21 = .ok (.iload_n 2, 1) := by decide +kernel
theorem dX6_owe_22 : decode cX6_owe 22 = .ok (.imul, 1) := by decide +kernel
theorem dX6_owe_23 : decode cX6_owe 23 = .ok (.iload_n 1, 1) := by decide +kernel
theorem dX6_owe_24 : decode cX6_owe 24 = .ok (.iadd, 1) := by decide +kernel
theorem dX6_owe_25 : decode cX6_owe 25 = .ok (.dup2, 1) := by decide +kernel
theorem dX6_owe_26 : decode cX6_owe 26 = .ok (.iaload, 1) := by decide +kernel
theorem dX6_owe_27 : decode cX6_owe 27 = .ok (.iload_n 3, 1) := by decide +kernel
theorem dX6_owe_28 : decode cX6_owe 28 = .ok (.isub, 1) := by decide +kernel
theorem dX6_owe_29 : decode cX6_owe 29 = .ok (.iastore, 1) := by decide +kernel
theorem dX6_owe_30 : decode cX6_owe 30 = .ok (.return_, 1) := by decide +kernel
theorem dX6_free_0 : decode cX6_free 0 = .ok (.aload_n 0, 1) := by decide +kernel
theorem dX6_free_1 : decode cX6_free 1 = .ok (.getfield 16, 3) := by decide +kernel
theorem dX6_free_4 : decode cX6_free 4 = .ok (.iload_n 1, 1) := by decide +kernel
theorem dX6_free_5 : decode cX6_free 5 = .ok (.iaload, 1) := by decide +kernel
theorem dX6_free_6 : decode cX6_free 6 = .ok (.aload_n 0, 1) := by decide +kernel
theorem dX6_free_7 : decode cX6_free 7 = .ok (.getfield 7, 3) := by decide +kernel
theorem dX6_free_10 : decode cX6_free 10 = .ok (.iload_n 1, 1) := by decide +kernel
theorem dX6_free_11 : decode cX6_free 11 = .ok (.iaload, 1) := by decide +kernel
theorem dX6_free_12 : decode cX6_free 12 = .ok (.if_icmp .ne 16, 3) := by decide +kernel
theorem dX6_free_15 : decode cX6_free 15 = .ok (.aload_n 0, 1) := by decide +kernel
theorem dX6_free_16 : decode cX6_free 16 = .ok (.getfield 28, 3) := by decide +kernel
theorem dX6_free_19 : decode cX6_free 19 = .ok (.iload_n 1, 1) := by decide +kernel
theorem dX6_free_20 : decode cX6_free 20 = .ok (.iaload, 1) := by decide +kernel
theorem dX6_free_21 : decode cX6_free 21 = .ok (.ifCond .ne 7, 3) := by decide +kernel
theorem dX6_free_24 : decode cX6_free 24 = .ok (.iconst 1, 1) := by decide +kernel
theorem dX6_free_25 : decode cX6_free 25 = .ok (.goto 4, 3) := by decide +kernel
theorem dX6_free_28 : decode cX6_free 28 = .ok (.iconst 0, 1) := by decide +kernel
theorem dX6_free_29 : decode cX6_free 29 = .ok (.ireturn, 1) := by decide +kernel
set_option maxRecDepth 20000 in
theorem ggX6_tell_X6_send : GoodIn wsX6_tell wsX6_send := goodIn_r _ [6, 7, 8, 9, 10, 11, 12, 13, 14, 15, 16, 17, 18, 19, 20, 21, 22, 23, 24, 25, 26, 27, 28, 29, 30, 31, 32, 33, 34, 35] (by decide +kernel) (by decide +kernel)
set_option maxRecDepth 20000 in
theorem gX6_tell_X6_send : GoodIn wsX6_tell (wsV RX6 87 RX6 yX6_send wsX6_send) := goodIn_app (goodIn_of _ (by decide +kernel)) ggX6_tell_X6_send
theorem dX6_tell_0 : decode cX6_tell 0 = .ok (.aload_n 0, 1) := by decide +kernel
theorem dX6_tell_1 : decode cX6_tell 1 = .ok (.iload_n 2, 1) := by decide +kernel
theorem dX6_tell_2 : decode cX6_tell 2 = .ok (.iload_n 1, 1) := by decide +kernel
theorem dX6_tell_3 : decode cX6_tell 3 = .ok (.aload_n 0, 1) := by decide +kernel
theorem dX6_tell_4 : decode cX6_tell 4 = .ok (.getfield 7, 3) := by decide +kernel
theorem dX6_tell_7 : decode cX6_tell 7 = .ok (.iload_n 1, 1) := by decide +kernel
theorem dX6_tell_8 : decode cX6_tell 8 = .ok (.iaload, 1) := by decide +kernel
theorem dX6_tell_9 : decode cX6_tell 9 = .ok (.iconst 1, 1) := by decide +kernel
theorem dX6_tell_10 : decode cX6_tell 10 = .ok (.iadd, 1) := by decide +kernel
theorem dX6_tell_11 : decode cX6_tell 11 = .ok (.invokevirtual 87, 3) := by decide +kernel
theorem dX6_tell_14 : decode cX6_tell 14 = .ok (.pop, 1) := by decide +kernel
theorem dX6_tell_15 : decode cX6_tell 15 = .ok (.return_, 1) := by decide +kernel
set_option maxRecDepth 20000 in
theorem ggX6_addCopy_X6_isHouse : GoodIn wsX6_addCopy wsX6_isHouse := goodIn_r _ [12, 13, 14, 15, 11, 16] (by decide +kernel) (by decide +kernel)
set_option maxRecDepth 20000 in
theorem gX6_addCopy_X6_isHouse : GoodIn wsX6_addCopy (wsV RX6 91 RX6 yX6_isHouse wsX6_isHouse) := goodIn_app (goodIn_of _ (by decide +kernel)) ggX6_addCopy_X6_isHouse
set_option maxRecDepth 20000 in
theorem ggX6_addCopy_X6_between : GoodIn wsX6_addCopy wsX6_between := goodIn_r _ [16] (by decide +kernel) (by decide +kernel)
set_option maxRecDepth 20000 in
theorem gX6_addCopy_X6_between : GoodIn wsX6_addCopy (wsV RX6 71 RX6 yX6_between wsX6_between) := goodIn_app (goodIn_of _ (by decide +kernel)) ggX6_addCopy_X6_between
set_option maxRecDepth 20000 in
theorem ggX6_addCopy_X6_holds : GoodIn wsX6_addCopy wsX6_holds := goodIn_r _ [20, 21, 35, 36, 37, 38, 39, 40, 41, 42, 43, 44, 45, 46, 47, 48, 49, 50, 51, 52, 53, 54, 55, 56, 57, 58] (by decide +kernel) (by decide +kernel)
set_option maxRecDepth 20000 in
theorem gX6_addCopy_X6_holds : GoodIn wsX6_addCopy (wsV RX6 95 RX6 yX6_holds wsX6_holds) := goodIn_app (goodIn_of _ (by decide +kernel)) ggX6_addCopy_X6_holds
set_option maxRecDepth 20000 in
theorem ggX6_addCopy_X6_tell : GoodIn wsX6_addCopy wsX6_tell := goodIn_r _ [25, 2, 26, 27, 28, 11, 29, 30, 31, 32, 33, 34, 35, 36, 37, 38, 39, 40, 41, 42, 43, 44, 45, 46, 47, 48, 49, 50, 51, 52, 53, 54, 55, 56, 57, 58] (by decide +kernel) (by decide +kernel)
set_option maxRecDepth 20000 in
theorem gX6_addCopy_X6_tell : GoodIn wsX6_addCopy (wsV RX6 98 RX6 yX6_tell wsX6_tell) := goodIn_app (goodIn_of _ (by decide +kernel)) ggX6_addCopy_X6_tell
theorem dX6_addCopy_0 : decode cX6_addCopy 0 = .ok (.aload_n 0, 1) := by decide +kernel
theorem dX6_addCopy_1 : decode cX6_addCopy 1 = .ok (.aload_n 0, 1) := by decide +kernel
theorem dX6_addCopy_2 : decode cX6_addCopy 2 = .ok (.iload_n 1, 1) := by decide +kernel
theorem dX6_addCopy_3 : decode cX6_addCopy 3 = .ok (.invokevirtual 91, 3) := by decide +kernel
theorem dX6_addCopy_6 : decode cX6_addCopy 6 = .ok (.ifCond .eq 14, 3) := by decide +kernel
theorem dX6_addCopy_9 : decode cX6_addCopy 9 = .ok (.aload_n 0, 1) := by decide +kernel
theorem dX6_addCopy_10 : decode cX6_addCopy 10 = .ok (.iload_n 2, 1) := by decide +kernel
theorem dX6_addCopy_11 : decode cX6_addCopy 11 = .ok (.iconst 0, 1) := by decide +kernel
theorem dX6_addCopy_12 : decode cX6_addCopy 12 = .ok (.bipush 7, 2) := by decide +kernel
theorem dX6_addCopy_14 : decode cX6_addCopy 14 = .ok (.invokevirtual 71, 3) := by decide +kernel
theorem dX6_addCopy_17 : decode cX6_addCopy 17 = .ok (.ifCond .ne 7, 3) := by decide +kernel
theorem dX6_addCopy_20 : decode cX6_addCopy 20 = .ok (.iconst 1, 1) := by decide +kernel
theorem dX6_addCopy_21 : decode cX6_addCopy 21 = .ok (.goto 17, 3) := by decide +kernel
theorem dX6_addCopy_24 : decode cX6_addCopy 24 = .ok (.aload_n 0, 1) := by decide +kernel
theorem dX6_addCopy_25 : decode cX6_addCopy 25 = .ok (.getfield 75, 3) := by decide +kernel
theorem dX6_addCopy_28 : decode cX6_addCopy 28 = .ok (.bipush 20, 2) := by decide +kernel
theorem dX6_addCopy_30 : decode cX6_addCopy 30 = .ok (.if_icmp .ne 7, 3) := by decide +kernel
theorem dX6_addCopy_33 : decode cX6_addCopy 33 = .ok (.iconst 2, 1) := by decide +kernel
theorem dX6_addCopy_34 : decode cX6_addCopy 34 = .ok (.goto 4, 3) := by decide +kernel
theorem dX6_addCopy_37 : decode cX6_addCopy 37 = .ok (.iconst 0, 1) := by decide +kernel
theorem dX6_addCopy_38 : decode cX6_addCopy 38 = .ok (.invokevirtual 95, 3) := by decide +kernel
theorem dX6_addCopy_41 : decode cX6_addCopy 41 = .ok (.ifCond .eq 5, 3) := by decide +kernel
theorem dX6_addCopy_44 : decode cX6_addCopy 44 = .ok (.iconst (-1), 1) := by decide +kernel
theorem dX6_addCopy_45 : decode cX6_addCopy 45 = .ok (.ireturn, 1) := by decide +kernel
theorem dX6_addCopy_46 : decode cX6_addCopy 46 = .ok (.aload_n 0, 1) := by decide +kernel
theorem dX6_addCopy_47 : decode cX6_addCopy 47 = .ok (.getfield 7, 3) := by decide +kernel
theorem dX6_addCopy_50 : decode cX6_addCopy 50 = .ok (.aload_n 0, 1) := by decide +kernel
theorem dX6_addCopy_51 : decode cX6_addCopy 51 = .ok (.getfield 75, 3) := by decide +kernel
theorem dX6_addCopy_54 : decode cX6_addCopy 54 = .ok (.iload_n 1, 1) := by decide +kernel
theorem dX6_addCopy_55 : decode cX6_addCopy 55 = .ok (.iastore, 1) := by decide +kernel
theorem dX6_addCopy_56 : decode cX6_addCopy 56 = .ok (.aload_n 0, 1) := by decide +kernel
theorem dX6_addCopy_57 : decode cX6_addCopy 57 = .ok (.getfield 13, 3) := by decide +kernel
theorem dX6_addCopy_60 : decode cX6_addCopy 60 = .ok (.aload_n 0, 1) := by decide +kernel
theorem dX6_addCopy_61 : decode cX6_addCopy 61 = .ok (.getfield 75, 3) := by decide +kernel
theorem dX6_addCopy_64 : decode cX6_addCopy 64 = .ok (.iload_n 2, 1) := by decide +kernel
theorem dX6_addCopy_65 : decode cX6_addCopy 65 = .ok (.iastore, 1) := by decide +kernel
theorem dX6_addCopy_66 : decode cX6_addCopy 66 = .ok (.aload_n 0, 1) := by decide +kernel
theorem dX6_addCopy_67 : decode cX6_addCopy 67 = .ok (.getfield 16, 3) := by decide +kernel
theorem dX6_addCopy_70 : decode cX6_addCopy 70 = .ok (.aload_n 0, 1) := by decide +kernel
theorem dX6_addCopy_71 : decode cX6_addCopy 71 = .ok (.getfield 75, 3) := by decide +kernel
theorem dX6_addCopy_74 : decode cX6_addCopy 74 = .ok (.iload_n 1, 1) := by decide +kernel
theorem dX6_addCopy_75 : decode cX6_addCopy 75 = .ok (.iastore, 1) := by decide +kernel
theorem dX6_addCopy_76 : decode cX6_addCopy 76 = .ok (.aload_n 0, 1) := by decide +kernel
theorem dX6_addCopy_77 : decode cX6_addCopy 77 = .ok (.getfield 19, 3) := by decide +kernel
theorem dX6_addCopy_80 : decode cX6_addCopy 80 = .ok (.aload_n 0, 1) := by decide +kernel
theorem dX6_addCopy_81 : decode cX6_addCopy 81 = .ok (.getfield 75, 3) := by decide +kernel
theorem dX6_addCopy_84 : decode cX6_addCopy 84 = .ok (.iload_n 1, 1) := by decide +kernel
theorem dX6_addCopy_85 : decode cX6_addCopy 85 = .ok (.iastore, 1) := by decide +kernel
theorem dX6_addCopy_86 : decode cX6_addCopy 86 = .ok (.aload_n 0, 1) := by decide +kernel
theorem dX6_addCopy_87 : decode cX6_addCopy 87 = .ok (.getfield 22, 3) := by decide +kernel
theorem dX6_addCopy_90 : decode cX6_addCopy 90 = .ok (.aload_n 0, 1) := by decide +kernel
theorem dX6_addCopy_91 : decode cX6_addCopy 91 = .ok (.getfield 75, 3) := by decide +kernel
theorem dX6_addCopy_94 : decode cX6_addCopy 94 = .ok (.iconst (-1), 1) := by decide +kernel
theorem dX6_addCopy_95 : decode cX6_addCopy 95 = .ok (.iastore, 1) := by decide +kernel
theorem dX6_addCopy_96 : decode cX6_addCopy 96 = .ok (.aload_n 0, 1) := by decide +kernel
theorem dX6_addCopy_97 : decode cX6_addCopy 97 = .ok (.getfield 25, 3) := by decide +kernel
theorem dX6_addCopy_100 : decode cX6_addCopy 100 = .ok (.aload_n 0, 1) := by decide +kernel
theorem dX6_addCopy_101 : decode cX6_addCopy 101 = .ok (.getfield 75, 3) := by decide +kernel
theorem dX6_addCopy_104 : decode cX6_addCopy 104 = .ok (.iconst (-1), 1) := by decide +kernel
theorem dX6_addCopy_105 : decode cX6_addCopy 105 = .ok (.iastore, 1) := by decide +kernel
theorem dX6_addCopy_106 : decode cX6_addCopy 106 = .ok (.aload_n 0, 1) := by decide +kernel
theorem dX6_addCopy_107 : decode cX6_addCopy 107 = .ok (.aload_n 0, 1) := by decide +kernel
theorem dX6_addCopy_108 : decode cX6_addCopy 108 = .ok (.getfield 75, 3) := by decide +kernel
theorem dX6_addCopy_111 : decode cX6_addCopy 111 = .ok (.iconst 1, 1) := by decide +kernel
theorem dX6_addCopy_112 : decode cX6_addCopy 112 = .ok (.invokevirtual 98, 3) := by decide +kernel
theorem dX6_addCopy_115 : decode cX6_addCopy 115 = .ok (.aload_n 0, 1) := by decide +kernel
theorem dX6_addCopy_116 : decode cX6_addCopy 116 = .ok (.dup, 1) := by decide +kernel
theorem dX6_addCopy_117 : decode cX6_addCopy 117 = .ok (.getfield 75, 3) := by decide +kernel
theorem dX6_addCopy_120 : decode cX6_addCopy 120 = .ok (.iconst 1, 1) := by decide +kernel
theorem dX6_addCopy_121 : decode cX6_addCopy 121 = .ok (.iadd, 1) := by decide +kernel
theorem dX6_addCopy_122 : decode cX6_addCopy 122 = .ok (.putfield 75, 3) := by decide +kernel
theorem dX6_addCopy_125 : decode cX6_addCopy 125 = .ok (.aload_n 0, 1) := by decide +kernel
theorem dX6_addCopy_126 : decode cX6_addCopy 126 = .ok (.getfield 75, 3) := by decide +kernel
theorem dX6_addCopy_129 : decode cX6_addCopy 129 = .ok (.iconst 1, 1) := by decide +kernel
theorem dX6_addCopy_130 : decode cX6_addCopy 130 = .ok (.isub, 1) := by decide +kernel
theorem dX6_addCopy_131 : decode cX6_addCopy 131 = .ok (.ireturn, 1) := by decide +kernel
set_option maxRecDepth 20000 in
theorem ggX6_inHandsOf_X6_isCopy : GoodIn wsX6_inHandsOf wsX6_isCopy := goodIn_r _ [6, 7, 8, 9, 10, 5, 11, 17, 18, 19, 20, 21, 22, 23, 24, 25, 26, 27, 28, 29, 30, 31, 32, 33, 34, 35, 36, 37, 38, 39, 40] (by decide +kernel) (by decide +kernel)
set_option maxRecDepth 20000 in
theorem gX6_inHandsOf_X6_isCopy : GoodIn wsX6_inHandsOf (wsV RX6 102 RX6 yX6_isCopy wsX6_isCopy) := goodIn_app (goodIn_of _ (by decide +kernel)) ggX6_inHandsOf_X6_isCopy
set_option maxRecDepth 20000 in
theorem ggX6_inHandsOf_X6_holds : GoodIn wsX6_inHandsOf wsX6_holds := goodIn_r _ [15, 16, 17, 18, 19, 20, 21, 22, 23, 24, 25, 26, 27, 28, 29, 30, 31, 32, 33, 34, 35, 36, 37, 38, 39, 40] (by decide +kernel) (by decide +kernel)
set_option maxRecDepth 20000 in
theorem gX6_inHandsOf_X6_holds : GoodIn wsX6_inHandsOf (wsV RX6 95 RX6 yX6_holds wsX6_holds) := goodIn_app (goodIn_of _ (by decide +kernel)) ggX6_inHandsOf_X6_holds
theorem dX6_inHandsOf_0 : decode cX6_inHandsOf 0 = .ok (.aload_n 0, 1) := by decide +kernel
theorem dX6_inHandsOf_1 : decode cX6_inHandsOf 1 = .ok (.aload_n 0, 1) := by decide +kernel
theorem dX6_inHandsOf_2 : decode cX6_inHandsOf 2 = .ok (.iload_n 1, 1) := by decide +kernel
theorem dX6_inHandsOf_3 : decode cX6_inHandsOf 3 = .ok (.invokevirtual 102, 3) := by decide +kernel
theorem dX6_inHandsOf_6 : decode cX6_inHandsOf 6 = .ok (.ifCond .eq 7, 3) := by decide +kernel
theorem dX6_inHandsOf_9 : decode cX6_inHandsOf 9 = .ok (.iconst 0, 1) := by decide +kernel
theorem dX6_inHandsOf_10 : decode cX6_inHandsOf 10 = .ok (.goto 4, 3) := by decide +kernel
theorem dX6_inHandsOf_13 : decode cX6_inHandsOf 13 = .ok (.iconst 1, 1) := by decide +kernel
theorem dX6_inHandsOf_14 : decode cX6_inHandsOf 14 = .ok (.invokevirtual 95, 3) := by decide +kernel
theorem dX6_inHandsOf_17 : decode cX6_inHandsOf 17 = .ok (.ifCond .eq 7, 3) := by decide +kernel
theorem dX6_inHandsOf_20 : decode cX6_inHandsOf 20 = .ok (.iconst (-1), 1) := by decide +kernel
theorem dX6_inHandsOf_21 : decode cX6_inHandsOf 21 = .ok (.goto 9, 3) := by decide +kernel
theorem dX6_inHandsOf_24 : decode cX6_inHandsOf 24 = .ok (.aload_n 0, 1) := by decide +kernel
theorem dX6_inHandsOf_25 : decode cX6_inHandsOf 25 = .ok (.getfield 19, 3) := by decide +kernel
theorem dX6_inHandsOf_28 : decode cX6_inHandsOf 28 = .ok (.iload_n 1, 1) := by decide +kernel
theorem dX6_inHandsOf_29 : decode cX6_inHandsOf 29 = .ok (.iaload, 1) := by decide +kernel
theorem dX6_inHandsOf_30 : decode cX6_inHandsOf 30 = .ok (.ireturn, 1) := by decide +kernel
set_option maxRecDepth 20000 in
theorem ggX6_isFree_X6_isCopy : GoodIn wsX6_isFree wsX6_isCopy := goodIn_r _ [5, 6, 7, 8, 9, 4, 10, 23, 24, 25, 26, 27, 28, 29, 30, 31, 32, 33, 34, 35, 36, 37, 38, 39, 40, 41, 42, 43, 44, 45, 46] (by decide +kernel) (by decide +kernel)
set_option maxRecDepth 20000 in
theorem gX6_isFree_X6_isCopy : GoodIn wsX6_isFree (wsV RX6 102 RX6 yX6_isCopy wsX6_isCopy) := goodIn_app (goodIn_of _ (by decide +kernel)) ggX6_isFree_X6_isCopy
set_option maxRecDepth 20000 in
theorem ggX6_isFree_X6_holds : GoodIn wsX6_isFree wsX6_holds := goodIn_r _ [14, 15, 23, 24, 25, 26, 27, 28, 29, 30, 31, 32, 33, 34, 35, 36, 37, 38, 39, 40, 41, 42, 43, 44, 45, 46] (by decide +kernel) (by decide +kernel)
set_option maxRecDepth 20000 in
theorem gX6_isFree_X6_holds : GoodIn wsX6_isFree (wsV RX6 95 RX6 yX6_holds wsX6_holds) := goodIn_app (goodIn_of _ (by decide +kernel)) ggX6_isFree_X6_holds
set_option maxRecDepth 20000 in
theorem ggX6_isFree_X6_free : GoodIn wsX6_isFree wsX6_free := goodIn_r _ [19, 20, 21, 22, 23, 24, 25, 26, 27, 28, 29, 30, 31, 32, 33, 34, 35, 36, 37, 38, 39, 40, 41, 42, 43, 44, 45, 46] (by decide +kernel) (by decide +kernel)
set_option maxRecDepth 20000 in
theorem gX6_isFree_X6_free : GoodIn wsX6_isFree (wsV RX6 105 RX6 yX6_free wsX6_free) := goodIn_app (goodIn_of _ (by decide +kernel)) ggX6_isFree_X6_free
theorem dX6_isFree_0 : decode cX6_isFree 0 = .ok (.aload_n 0, 1) := by decide +kernel
theorem dX6_isFree_1 : decode cX6_isFree 1 = .ok (.aload_n 0, 1) := by decide +kernel
theorem dX6_isFree_2 : decode cX6_isFree 2 = .ok (.iload_n 1, 1) := by decide +kernel
theorem dX6_isFree_3 : decode cX6_isFree 3 = .ok (.invokevirtual 102, 3) := by decide +kernel
theorem dX6_isFree_6 : decode cX6_isFree 6 = .ok (.ifCond .eq 7, 3) := by decide +kernel
theorem dX6_isFree_9 : decode cX6_isFree 9 = .ok (.iconst 0, 1) := by decide +kernel
theorem dX6_isFree_10 : decode cX6_isFree 10 = .ok (.goto 4, 3) := by decide +kernel
theorem dX6_isFree_13 : decode cX6_isFree 13 = .ok (.iconst 1, 1) := by decide +kernel
theorem dX6_isFree_14 : decode cX6_isFree 14 = .ok (.invokevirtual 95, 3) := by decide +kernel
theorem dX6_isFree_17 : decode cX6_isFree 17 = .ok (.ifCond .ne 15, 3) := by decide +kernel
theorem dX6_isFree_20 : decode cX6_isFree 20 = .ok (.aload_n 0, 1) := by decide +kernel
theorem dX6_isFree_21 : decode cX6_isFree 21 = .ok (.iload_n 1, 1) := by decide +kernel
theorem dX6_isFree_22 : decode cX6_isFree 22 = .ok (.invokevirtual 105, 3) := by decide +kernel
theorem dX6_isFree_25 : decode cX6_isFree 25 = .ok (.ifCond .eq 7, 3) := by decide +kernel
theorem dX6_isFree_28 : decode cX6_isFree 28 = .ok (.iconst 1, 1) := by decide +kernel
theorem dX6_isFree_29 : decode cX6_isFree 29 = .ok (.goto 4, 3) := by decide +kernel
theorem dX6_isFree_32 : decode cX6_isFree 32 = .ok (.iconst 0, 1) := by decide +kernel
theorem dX6_isFree_33 : decode cX6_isFree 33 = .ok (.ireturn, 1) := by decide +kernel
set_option maxRecDepth 20000 in
theorem ggX6_listed_X6_isCopy : GoodIn wsX6_listed wsX6_isCopy := goodIn_r _ [6, 7, 8, 9, 10, 5, 11, 17, 18, 19, 20, 21, 22, 23, 24, 25, 26, 27, 28, 29, 30, 31, 32, 33, 34, 35, 36, 37, 38, 39, 40] (by decide +kernel) (by decide +kernel)
set_option maxRecDepth 20000 in
theorem gX6_listed_X6_isCopy : GoodIn wsX6_listed (wsV RX6 102 RX6 yX6_isCopy wsX6_isCopy) := goodIn_app (goodIn_of _ (by decide +kernel)) ggX6_listed_X6_isCopy
set_option maxRecDepth 20000 in
theorem ggX6_listed_X6_holds : GoodIn wsX6_listed wsX6_holds := goodIn_r _ [15, 16, 17, 18, 19, 20, 21, 22, 23, 24, 25, 26, 27, 28, 29, 30, 31, 32, 33, 34, 35, 36, 37, 38, 39, 40] (by decide +kernel) (by decide +kernel)
set_option maxRecDepth 20000 in
theorem gX6_listed_X6_holds : GoodIn wsX6_listed (wsV RX6 95 RX6 yX6_holds wsX6_holds) := goodIn_app (goodIn_of _ (by decide +kernel)) ggX6_listed_X6_holds
theorem dX6_listed_0 : decode cX6_listed 0 = .ok (.aload_n 0, 1) := by decide +kernel
theorem dX6_listed_1 : decode cX6_listed 1 = .ok (.aload_n 0, 1) := by decide +kernel
theorem dX6_listed_2 : decode cX6_listed 2 = .ok (.iload_n 1, 1) := by decide +kernel
theorem dX6_listed_3 : decode cX6_listed 3 = .ok (.invokevirtual 102, 3) := by decide +kernel
theorem dX6_listed_6 : decode cX6_listed 6 = .ok (.ifCond .eq 7, 3) := by decide +kernel
theorem dX6_listed_9 : decode cX6_listed 9 = .ok (.iconst 0, 1) := by decide +kernel
theorem dX6_listed_10 : decode cX6_listed 10 = .ok (.goto 4, 3) := by decide +kernel
theorem dX6_listed_13 : decode cX6_listed 13 = .ok (.iconst 1, 1) := by decide +kernel
theorem dX6_listed_14 : decode cX6_listed 14 = .ok (.invokevirtual 95, 3) := by decide +kernel
theorem dX6_listed_17 : decode cX6_listed 17 = .ok (.ifCond .eq 7, 3) := by decide +kernel
theorem dX6_listed_20 : decode cX6_listed 20 = .ok (.iconst (-1), 1) := by decide +kernel
theorem dX6_listed_21 : decode cX6_listed 21 = .ok (.goto 9, 3) := by decide +kernel
theorem dX6_listed_24 : decode cX6_listed 24 = .ok (.aload_n 0, 1) := by decide +kernel
theorem dX6_listed_25 : decode cX6_listed 25 = .ok (.getfield 22, 3) := by decide +kernel
theorem dX6_listed_28 : decode cX6_listed 28 = .ok (.iload_n 1, 1) := by decide +kernel
theorem dX6_listed_29 : decode cX6_listed 29 = .ok (.iaload, 1) := by decide +kernel
theorem dX6_listed_30 : decode cX6_listed 30 = .ok (.ireturn, 1) := by decide +kernel
set_option maxRecDepth 20000 in
theorem ggX6_harm_X6_isCopy : GoodIn wsX6_harm wsX6_isCopy := goodIn_r _ [7, 8, 9, 10, 11, 6, 12, 18, 19, 20, 21, 22, 23, 24, 25, 26, 27, 28, 29, 30, 31, 32, 33, 34, 35, 36, 37, 38, 39, 40, 41] (by decide +kernel) (by decide +kernel)
set_option maxRecDepth 20000 in
theorem gX6_harm_X6_isCopy : GoodIn wsX6_harm (wsV RX6 102 RX6 yX6_isCopy wsX6_isCopy) := goodIn_app (goodIn_of _ (by decide +kernel)) ggX6_harm_X6_isCopy
set_option maxRecDepth 20000 in
theorem ggX6_harm_X6_holds : GoodIn wsX6_harm wsX6_holds := goodIn_r _ [16, 17, 18, 19, 20, 21, 22, 23, 24, 25, 26, 27, 28, 29, 30, 31, 32, 33, 34, 35, 36, 37, 38, 39, 40, 41] (by decide +kernel) (by decide +kernel)
set_option maxRecDepth 20000 in
theorem gX6_harm_X6_holds : GoodIn wsX6_harm (wsV RX6 95 RX6 yX6_holds wsX6_holds) := goodIn_app (goodIn_of _ (by decide +kernel)) ggX6_harm_X6_holds
theorem dX6_harm_0 : decode cX6_harm 0 = .ok (.aload_n 0, 1) := by decide +kernel
theorem dX6_harm_1 : decode cX6_harm 1 = .ok (.aload_n 0, 1) := by decide +kernel
theorem dX6_harm_2 : decode cX6_harm 2 = .ok (.iload_n 1, 1) := by decide +kernel
theorem dX6_harm_3 : decode cX6_harm 3 = .ok (.invokevirtual 102, 3) := by decide +kernel
theorem dX6_harm_6 : decode cX6_harm 6 = .ok (.ifCond .ne 7, 3) := by decide +kernel
theorem dX6_harm_9 : decode cX6_harm 9 = .ok (.iconst 1, 1) := by decide +kernel
theorem dX6_harm_10 : decode cX6_harm 10 = .ok (.goto 17, 3) := by decide +kernel
theorem dX6_harm_13 : decode cX6_harm 13 = .ok (.aload_n 0, 1) := by decide +kernel
theorem dX6_harm_14 : decode cX6_harm 14 = .ok (.getfield 25, 3) := by decide +kernel
theorem dX6_harm_17 : decode cX6_harm 17 = .ok (.iload_n 1, 1) := by decide +kernel
theorem dX6_harm_18 : decode cX6_harm 18 = .ok (.iaload, 1) := by decide +kernel
theorem dX6_harm_19 : decode cX6_harm 19 = .ok (.ifCond .lt 7, 3) := by decide +kernel
theorem dX6_harm_22 : decode cX6_harm 22 = .ok (.iconst 2, 1) := by decide +kernel
theorem dX6_harm_23 : decode cX6_harm 23 = .ok (.goto 4, 3) := by decide +kernel
theorem dX6_harm_26 : decode cX6_harm 26 = .ok (.iconst 0, 1) := by decide +kernel
theorem dX6_harm_27 : decode cX6_harm 27 = .ok (.invokevirtual 95, 3) := by decide +kernel
theorem dX6_harm_30 : decode cX6_harm 30 = .ok (.ifCond .eq 5, 3) := by decide +kernel
theorem dX6_harm_33 : decode cX6_harm 33 = .ok (.iconst (-1), 1) := by decide +kernel
theorem dX6_harm_34 : decode cX6_harm 34 = .ok (.ireturn, 1) := by decide +kernel
theorem dX6_harm_35 : decode cX6_harm 35 = .ok (.aload_n 0, 1) := by decide +kernel
theorem dX6_harm_36 : decode cX6_harm 36 = .ok (.getfield 25, 3) := by decide +kernel
theorem dX6_harm_39 : decode cX6_harm 39 = .ok (.iload_n 1, 1) := by decide +kernel
theorem dX6_harm_40 : decode cX6_harm 40 = .ok (.aload_n 0, 1) := by decide +kernel
theorem dX6_harm_41 : decode cX6_harm 41 = .ok (.getfield 19, 3) := by decide +kernel
theorem dX6_harm_44 : decode cX6_harm 44 = .ok (.iload_n 1, 1) := by decide +kernel
theorem dX6_harm_45 : decode cX6_harm 45 = .ok (.iaload, 1) := by decide +kernel
theorem dX6_harm_46 : decode cX6_harm 46 = .ok (.iastore, 1) := by decide +kernel
theorem dX6_harm_47 : decode cX6_harm 47 = .ok (.aload_n 0, 1) := by decide +kernel
theorem dX6_harm_48 : decode cX6_harm 48 = .ok (.getfield 19, 3) := by decide +kernel
theorem dX6_harm_51 : decode cX6_harm 51 = .ok (.iload_n 1, 1) := by decide +kernel
theorem dX6_harm_52 : decode cX6_harm 52 = .ok (.iaload, 1) := by decide +kernel
theorem dX6_harm_53 : decode cX6_harm 53 = .ok (.ireturn, 1) := by decide +kernel
set_option maxRecDepth 20000 in
theorem ggX6_find_X6_owe : GoodIn wsX6_find wsX6_owe := goodIn_r _ [8, 9, 10, 11, 12, 13, 14, 15, 16, 17, 18, 19, 20, 21, 22, 23, 24, 25, 26, 27, 28, 29, 30, 31, 32, 33] (by decide +kernel) (by decide +kernel)
set_option maxRecDepth 20000 in
theorem gX6_find_X6_owe : GoodIn wsX6_find (wsV RX6 108 RX6 yX6_owe wsX6_owe) := goodIn_app (goodIn_of _ (by decide +kernel)) ggX6_find_X6_owe
theorem dX6_find_0 : decode cX6_find 0 = .ok (.aload_n 0, 1) := by decide +kernel
theorem dX6_find_1 : decode cX6_find 1 = .ok (.getfield 25, 3) := by decide +kernel
theorem dX6_find_4 : decode cX6_find 4 = .ok (.iload_n 1, 1) := by decide +kernel
theorem dX6_find_5 : decode cX6_find 5 = .ok (.iaload, 1) := by decide +kernel
theorem dX6_find_6 : decode cX6_find 6 = .ok (.ifCond .lt 13, 3) := by decide +kernel
theorem dX6_find_9 : decode cX6_find 9 = .ok (.aload_n 0, 1) := by decide +kernel
theorem dX6_find_10 : decode cX6_find 10 = .ok (.getfield 28, 3) := by decide +kernel
theorem dX6_find_13 : decode cX6_find 13 = .ok (.iload_n 1, 1) := by decide +kernel
theorem dX6_find_14 : decode cX6_find 14 = .ok (.iaload, 1) := by decide +kernel
theorem dX6_find_15 : decode cX6_find 15 = .ok (.iconst 1, 1) := by decide +kernel
theorem dX6_find_16 : decode cX6_find 16 = .ok (.if_icmp .ne 5, 3) := by decide +kernel
theorem dX6_find_19 : decode cX6_find 19 = .ok (.iconst (-1), 1) := by decide +kernel
theorem dX6_find_20 : decode cX6_find 20 = .ok (.ireturn, 1) := by decide +kernel
theorem dX6_find_21 : decode cX6_find 21 = .ok (.aload_n 0, 1) := by decide +kernel
theorem dX6_find_22 : decode cX6_find 22 = .ok (.getfield 28, 3) := by decide +kernel
theorem dX6_find_25 : decode cX6_find 25 = .ok (.iload_n 1, 1) := by decide +kernel
theorem dX6_find_26 : decode cX6_find 26 = .ok (.iconst 1, 1) := by decide +kernel
theorem dX6_find_27 : decode cX6_find 27 = .ok (.iastore, 1) := by decide +kernel
theorem dX6_find_28 : decode cX6_find 28 = .ok (.aload_n 0, 1) := by decide +kernel
theorem dX6_find_29 : decode cX6_find 29 = .ok (.getfield 25, 3) := by decide +kernel
theorem dX6_find_32 : decode cX6_find 32 = .ok (.iload_n 1, 1) := by decide +kernel
theorem dX6_find_33 : decode cX6_find 33 = .ok (.iaload, 1) := by decide +kernel
theorem dX6_find_34 : decode cX6_find 34 = .ok (.aload_n 0, 1) := by decide +kernel
theorem dX6_find_35 : decode cX6_find 35 = .ok (.getfield 7, 3) := by decide +kernel
theorem dX6_find_38 : decode cX6_find 38 = .ok (.iload_n 1, 1) := by decide +kernel
theorem dX6_find_39 : decode cX6_find 39 = .ok (.iaload, 1) := by decide +kernel
theorem dX6_find_40 : decode cX6_find 40 = .ok (.if_icmp .eq 21, 3) := by decide +kernel
theorem dX6_find_43 : decode cX6_find 43 = .ok (.aload_n 0, 1) := by decide +kernel
theorem dX6_find_44 : decode cX6_find 44 = .ok (.aload_n 0, 1) := by decide +kernel
theorem dX6_find_45 : decode cX6_find 45 = .ok (.getfield 25, 3) := by decide +kernel
theorem dX6_find_48 : decode cX6_find 48 = .ok (.iload_n 1, 1) := by decide +kernel
theorem dX6_find_49 : decode cX6_find 49 = .ok (.iaload, 1) := by decide +kernel
theorem dX6_find_50 : decode cX6_find 50 = .ok (.aload_n 0, 1) := by decide +kernel
theorem dX6_find_51 : decode cX6_find 51 = .ok (.getfield 7, 3) := by decide +kernel
theorem dX6_find_54 : decode cX6_find 54 = .ok (.iload_n 1, 1) := by decide +kernel
theorem dX6_find_55 : decode cX6_find 55 = .ok (.iaload, 1) := by decide +kernel
theorem dX6_find_56 : decode cX6_find 56 = .ok (.bipush 30, 2) := by decide +kernel
theorem dX6_find_58 : decode cX6_find 58 = .ok (.invokevirtual 108, 3) := by decide +kernel
theorem dX6_find_61 : decode cX6_find 61 = .ok (.aload_n 0, 1) := by decide +kernel
theorem dX6_find_62 : decode cX6_find 62 = .ok (.getfield 25, 3) := by decide +kernel
theorem dX6_find_65 : decode cX6_find 65 = .ok (.iload_n 1, 1) := by decide +kernel
theorem dX6_find_66 : decode cX6_find 66 = .ok (.iaload, 1) := by decide +kernel
theorem dX6_find_67 : decode cX6_find 67 = .ok (.ireturn, 1) := by decide +kernel
set_option maxRecDepth 20000 in
theorem ggX6_look_X6_isCopy : GoodIn wsX6_look wsX6_isCopy := goodIn_r _ [6, 7, 8, 9, 10, 5, 11, 29, 30, 31, 32, 33, 34, 35, 36, 37, 38, 39, 40, 41, 42, 43, 44, 45, 46, 47, 48, 49, 50, 51, 52] (by decide +kernel) (by decide +kernel)
set_option maxRecDepth 20000 in
theorem gX6_look_X6_isCopy : GoodIn wsX6_look (wsV RX6 102 RX6 yX6_isCopy wsX6_isCopy) := goodIn_app (goodIn_of _ (by decide +kernel)) ggX6_look_X6_isCopy
set_option maxRecDepth 20000 in
theorem ggX6_look_X6_holds : GoodIn wsX6_look wsX6_holds := goodIn_r _ [15, 16, 29, 30, 31, 32, 33, 34, 35, 36, 37, 38, 39, 40, 41, 42, 43, 44, 45, 46, 47, 48, 49, 50, 51, 52] (by decide +kernel) (by decide +kernel)
set_option maxRecDepth 20000 in
theorem gX6_look_X6_holds : GoodIn wsX6_look (wsV RX6 95 RX6 yX6_holds wsX6_holds) := goodIn_app (goodIn_of _ (by decide +kernel)) ggX6_look_X6_holds
set_option maxRecDepth 20000 in
theorem ggX6_look_X6_find : GoodIn wsX6_look wsX6_find := goodIn_r _ [20, 21, 22, 23, 24, 25, 26, 5, 27, 28, 29, 30, 31, 32, 33, 34, 35, 36, 37, 38, 39, 40, 41, 42, 43, 44, 45, 46, 47, 48, 49, 50, 51, 52] (by decide +kernel) (by decide +kernel)
set_option maxRecDepth 20000 in
theorem gX6_look_X6_find : GoodIn wsX6_look (wsV RX6 112 RX6 yX6_find wsX6_find) := goodIn_app (goodIn_of _ (by decide +kernel)) ggX6_look_X6_find
theorem dX6_look_0 : decode cX6_look 0 = .ok (.aload_n 0, 1) := by decide +kernel
theorem dX6_look_1 : decode cX6_look 1 = .ok (.aload_n 0, 1) := by decide +kernel
theorem dX6_look_2 : decode cX6_look 2 = .ok (.iload_n 1, 1) := by decide +kernel
theorem dX6_look_3 : decode cX6_look 3 = .ok (.invokevirtual 102, 3) := by decide +kernel
theorem dX6_look_6 : decode cX6_look 6 = .ok (.ifCond .ne 7, 3) := by decide +kernel
theorem dX6_look_9 : decode cX6_look 9 = .ok (.iconst 1, 1) := by decide +kernel
theorem dX6_look_10 : decode cX6_look 10 = .ok (.goto 17, 3) := by decide +kernel
theorem dX6_look_13 : decode cX6_look 13 = .ok (.aload_n 0, 1) := by decide +kernel
theorem dX6_look_14 : decode cX6_look 14 = .ok (.getfield 16, 3) := by decide +kernel
theorem dX6_look_17 : decode cX6_look 17 = .ok (.iload_n 1, 1) := by decide +kernel
theorem dX6_look_18 : decode cX6_look 18 = .ok (.iaload, 1) := by decide +kernel
theorem dX6_look_19 : decode cX6_look 19 = .ok (.ifCond .ge 7, 3) := by decide +kernel
theorem dX6_look_22 : decode cX6_look 22 = .ok (.iconst 2, 1) := by decide +kernel
theorem dX6_look_23 : decode cX6_look 23 = .ok (.goto 4, 3) := by decide +kernel
theorem dX6_look_26 : decode cX6_look 26 = .ok (.iconst 0, 1) := by decide +kernel
theorem dX6_look_27 : decode cX6_look 27 = .ok (.invokevirtual 95, 3) := by decide +kernel
theorem dX6_look_30 : decode cX6_look 30 = .ok (.ifCond .eq 7, 3) := by decide +kernel
theorem dX6_look_33 : decode cX6_look 33 = .ok (.iconst (-1), 1) := by decide +kernel
theorem dX6_look_34 : decode cX6_look 34 = .ok (.goto 8, 3) := by decide +kernel
theorem dX6_look_37 : decode cX6_look 37 = .ok (.aload_n 0, 1) := by decide +kernel
theorem dX6_look_38 : decode cX6_look 38 = .ok (.iload_n 1, 1) := by decide +kernel
theorem dX6_look_39 : decode cX6_look 39 = .ok (.invokevirtual 112, 3) := by decide +kernel
theorem dX6_look_42 : decode cX6_look 42 = .ok (.ireturn, 1) := by decide +kernel
set_option maxRecDepth 20000 in
theorem ggX6_mend_X6_isCopy : GoodIn wsX6_mend wsX6_isCopy := goodIn_r _ [9, 10, 11, 12, 13, 8, 14, 33, 34, 35, 36, 37, 38, 39, 40, 41, 42, 43, 44, 45, 46, 47, 48, 49, 50, 51, 52, 53, 54, 55, 56] (by decide +kernel) (by decide +kernel)
set_option maxRecDepth 20000 in
theorem gX6_mend_X6_isCopy : GoodIn wsX6_mend (wsV RX6 102 RX6 yX6_isCopy wsX6_isCopy) := goodIn_app (goodIn_of _ (by decide +kernel)) ggX6_mend_X6_isCopy
set_option maxRecDepth 20000 in
theorem ggX6_mend_X6_holds : GoodIn wsX6_mend wsX6_holds := goodIn_r _ [18, 19, 33, 34, 35, 36, 37, 38, 39, 40, 41, 42, 43, 44, 45, 46, 47, 48, 49, 50, 51, 52, 53, 54, 55, 56] (by decide +kernel) (by decide +kernel)
set_option maxRecDepth 20000 in
theorem gX6_mend_X6_holds : GoodIn wsX6_mend (wsV RX6 95 RX6 yX6_holds wsX6_holds) := goodIn_app (goodIn_of _ (by decide +kernel)) ggX6_mend_X6_holds
set_option maxRecDepth 20000 in
theorem ggX6_mend_X6_tell : GoodIn wsX6_mend wsX6_tell := goodIn_r _ [23, 2, 24, 25, 26, 8, 27, 28, 29, 30, 31, 32, 33, 34, 35, 36, 37, 38, 39, 40, 41, 42, 43, 44, 45, 46, 47, 48, 49, 50, 51, 52, 53, 54, 55, 56] (by decide +kernel) (by decide +kernel)
set_option maxRecDepth 20000 in
theorem gX6_mend_X6_tell : GoodIn wsX6_mend (wsV RX6 98 RX6 yX6_tell wsX6_tell) := goodIn_app (goodIn_of _ (by decide +kernel)) ggX6_mend_X6_tell
theorem dX6_mend_0 : decode cX6_mend 0 = .ok (.aload_n 0, 1) := by decide +kernel
theorem dX6_mend_1 : decode cX6_mend 1 = .ok (.aload_n 0, 1) := by decide +kernel
theorem dX6_mend_2 : decode cX6_mend 2 = .ok (.iload_n 1, 1) := by decide +kernel
theorem dX6_mend_3 : decode cX6_mend 3 = .ok (.invokevirtual 102, 3) := by decide +kernel
theorem dX6_mend_6 : decode cX6_mend 6 = .ok (.ifCond .ne 7, 3) := by decide +kernel
theorem dX6_mend_9 : decode cX6_mend 9 = .ok (.iconst 1, 1) := by decide +kernel
theorem dX6_mend_10 : decode cX6_mend 10 = .ok (.goto 32, 3) := by decide +kernel
theorem dX6_mend_13 : decode cX6_mend 13 = .ok (.aload_n 0, 1) := by decide +kernel
theorem dX6_mend_14 : decode cX6_mend 14 = .ok (.getfield 16, 3) := by decide +kernel
theorem dX6_mend_17 : decode cX6_mend 17 = .ok (.iload_n 1, 1) := by decide +kernel
theorem dX6_mend_18 : decode cX6_mend 18 = .ok (.iaload, 1) := by decide +kernel
theorem dX6_mend_19 : decode cX6_mend 19 = .ok (.aload_n 0, 1) := by decide +kernel
theorem dX6_mend_20 : decode cX6_mend 20 = .ok (.getfield 7, 3) := by decide +kernel
theorem dX6_mend_23 : decode cX6_mend 23 = .ok (.iload_n 1, 1) := by decide +kernel
theorem dX6_mend_24 : decode cX6_mend 24 = .ok (.iaload, 1) := by decide +kernel
theorem dX6_mend_25 : decode cX6_mend 25 = .ok (.if_icmp .ne 12, 3) := by decide +kernel
theorem dX6_mend_28 : decode cX6_mend 28 = .ok (.aload_n 0, 1) := by decide +kernel
theorem dX6_mend_29 : decode cX6_mend 29 = .ok (.getfield 28, 3) := by decide +kernel
theorem dX6_mend_32 : decode cX6_mend 32 = .ok (.iload_n 1, 1) := by decide +kernel
theorem dX6_mend_33 : decode cX6_mend 33 = .ok (.iaload, 1) := by decide +kernel
theorem dX6_mend_34 : decode cX6_mend 34 = .ok (.ifCond .ne 7, 3) := by decide +kernel
theorem dX6_mend_37 : decode cX6_mend 37 = .ok (.iconst 2, 1) := by decide +kernel
theorem dX6_mend_38 : decode cX6_mend 38 = .ok (.goto 4, 3) := by decide +kernel
theorem dX6_mend_41 : decode cX6_mend 41 = .ok (.iconst 0, 1) := by decide +kernel
theorem dX6_mend_42 : decode cX6_mend 42 = .ok (.invokevirtual 95, 3) := by decide +kernel
theorem dX6_mend_45 : decode cX6_mend 45 = .ok (.ifCond .ne 23, 3) := by decide +kernel
theorem dX6_mend_48 : decode cX6_mend 48 = .ok (.aload_n 0, 1) := by decide +kernel
theorem dX6_mend_49 : decode cX6_mend 49 = .ok (.getfield 25, 3) := by decide +kernel
theorem dX6_mend_52 : decode cX6_mend 52 = .ok (.iload_n 1, 1) := by decide +kernel
theorem dX6_mend_53 : decode cX6_mend 53 = .ok (.iconst (-1), 1) := by decide +kernel
theorem dX6_mend_54 : decode cX6_mend 54 = .ok (.iastore, 1) := by decide +kernel
theorem dX6_mend_55 : decode cX6_mend 55 = .ok (.aload_n 0, 1) := by decide +kernel
theorem dX6_mend_56 : decode cX6_mend 56 = .ok (.getfield 28, 3) := by decide +kernel
theorem dX6_mend_59 : decode cX6_mend 59 = .ok (.iload_n 1, 1) := by decide +kernel
theorem dX6_mend_60 : decode cX6_mend 60 = .ok (.iconst 0, 1) := by decide +kernel
theorem dX6_mend_61 : decode cX6_mend 61 = .ok (.iastore, 1) := by decide +kernel
theorem dX6_mend_62 : decode cX6_mend 62 = .ok (.aload_n 0, 1) := by decide +kernel
theorem dX6_mend_63 : decode cX6_mend 63 = .ok (.iload_n 1, 1) := by decide +kernel
theorem dX6_mend_64 : decode cX6_mend 64 = .ok (.iconst 1, 1) := by decide +kernel
theorem dX6_mend_65 : decode cX6_mend 65 = .ok (.invokevirtual 98, 3) := by decide +kernel
theorem dX6_mend_68 : decode cX6_mend 68 = .ok (.return_, 1) := by decide +kernel
set_option maxRecDepth 20000 in
theorem ggX6_ask_X6_way : GoodIn wsX6_ask wsX6_way := goodIn_r _ [14] (by decide +kernel) (by decide +kernel)
set_option maxRecDepth 20000 in
theorem gX6_ask_X6_way : GoodIn wsX6_ask (wsV RX6 116 RX6 yX6_way wsX6_way) := goodIn_app (goodIn_of _ (by decide +kernel)) ggX6_ask_X6_way
set_option maxRecDepth 20000 in
theorem ggX6_ask_X6_send : GoodIn wsX6_ask wsX6_send := goodIn_r _ [18, 19, 20, 21, 22, 23, 24, 25, 26, 27, 28, 29, 30, 31, 32, 33, 34, 35, 36, 37, 38, 39, 40, 41, 42, 43, 44, 45, 46, 47] (by decide +kernel) (by decide +kernel)
set_option maxRecDepth 20000 in
theorem gX6_ask_X6_send : GoodIn wsX6_ask (wsV RX6 87 RX6 yX6_send wsX6_send) := goodIn_app (goodIn_of _ (by decide +kernel)) ggX6_ask_X6_send
theorem dX6_ask_0 : decode cX6_ask 0 = .ok (.iconst (-1), 1) := by decide +kernel
theorem dX6_ask_1 : decode cX6_ask 1 = .ok (.istore_n 2, 1) := by decide +kernel
theorem dX6_ask_2 : decode cX6_ask 2 = .ok (.iconst 0, 1) := by decide +kernel
theorem dX6_ask_3 : decode cX6_ask 3 = .ok (.istore_n 3, 1) := by decide +kernel
theorem dX6_ask_4 : decode cX6_ask 4 = .ok (.iload_n 3, 1) := by decide +kernel
theorem dX6_ask_5 : decode cX6_ask 5 = .ok (.aload_n 0, 1) := by decide +kernel
theorem dX6_ask_6 : decode cX6_ask 6 = .ok (.getfield 75, 3) := by decide +kernel
theorem dX6_ask_9 : decode cX6_ask 9 = .ok (.if_icmp .ge 120, 3) := by decide +kernel
theorem dX6_ask_12 : decode cX6_ask 12 = .ok (.aload_n 0, 1) := by decide +kernel
theorem dX6_ask_13 : decode cX6_ask 13 = .ok (.getfield 13, 3) := by decide +kernel
theorem dX6_ask_16 : decode cX6_ask 16 = .ok (.iload_n 3, 1) := by decide +kernel
theorem dX6_ask_17 : decode cX6_ask 17 = .ok (.iaload, 1) := by decide +kernel
theorem dX6_ask_18 : decode cX6_ask 18 = .ok (.aload_n 0, 1) := by decide +kernel
theorem dX6_ask_19 : decode cX6_ask 19 = .ok (.getfield 34, 3) := by decide +kernel
theorem dX6_ask_22 : decode cX6_ask 22 = .ok (.iload_n 1, 1) := by decide +kernel
theorem dX6_ask_23 : decode cX6_ask 23 = .ok (.iaload, 1) := by decide +kernel
theorem dX6_ask_24 : decode cX6_ask 24 = .ok (.if_icmp .ne 50, 3) := by decide +kernel
theorem dX6_ask_27 : decode cX6_ask 27 = .ok (.aload_n 0, 1) := by decide +kernel
theorem dX6_ask_28 : decode cX6_ask 28 = .ok (.getfield 22, 3) := by decide +kernel
theorem dX6_ask_31 : decode cX6_ask 31 = .ok (.iload_n 3, 1) := by decide +kernel
theorem dX6_ask_32 : decode cX6_ask 32 = .ok (.iaload, 1) := by decide +kernel
theorem dX6_ask_33 : decode cX6_ask 33 = .ok (.iconst 1, 1) := by decide +kernel
theorem dX6_ask_34 : decode cX6_ask 34 = .ok (.if_icmp .ne 40, 3) := by decide +kernel
theorem dX6_ask_37 : decode cX6_ask 37 = .ok (.aload_n 0, 1) := by decide +kernel
theorem dX6_ask_38 : decode cX6_ask 38 = .ok (.getfield 7, 3) := by decide +kernel
theorem dX6_ask_41 : decode cX6_ask 41 = .ok (.iload_n 3, 1) := by decide +kernel
theorem dX6_ask_42 : decode cX6_ask 42 = .ok (.iaload, 1) := by decide +kernel
theorem dX6_ask_43 : decode cX6_ask 43 = .ok (.aload_n 0, 1) := by decide +kernel
theorem dX6_ask_44 : decode cX6_ask 44 = .ok (.getfield 31, 3) := by decide +kernel
theorem dX6_ask_47 : decode cX6_ask 47 = .ok (.iload_n 1, 1) := by decide +kernel
theorem dX6_ask_48 : decode cX6_ask 48 = .ok (.iaload, 1) := by decide +kernel
theorem dX6_ask_49 : decode cX6_ask 49 = .ok (.if_icmp .eq 25, 3) := by decide +kernel
theorem dX6_ask_52 : decode cX6_ask 52 = .ok (.aload_n 0, 1) := by decide +kernel
theorem dX6_ask_53 : decode cX6_ask 53 = .ok (.getfield 46, 3) := by decide +kernel
theorem dX6_ask_56 : decode cX6_ask 56 = .ok (.iload_n 1, 1) := by decide +kernel
theorem dX6_ask_57 : decode cX6_ask 57 = .ok (.iaload, 1) := by decide +kernel
theorem dX6_ask_58 : decode cX6_ask 58 = .ok (.aload_n 0, 1) := by decide +kernel
theorem dX6_ask_59 : decode cX6_ask 59 = .ok (.getfield 7, 3) := by decide +kernel
theorem dX6_ask_62 : decode cX6_ask 62 = .ok (.iload_n 3, 1) := by decide +kernel
theorem dX6_ask_63 : decode cX6_ask 63 = .ok (.iaload, 1) := by decide +kernel
theorem dX6_ask_64 : decode cX6_ask 64 = .ok (.ishr, 1) := by decide +kernel
theorem dX6_ask_65 : decode cX6_ask 65 = .ok (.iconst 1, 1) := by decide +kernel
theorem dX6_ask_66 : decode cX6_ask 66 = .ok (.iand, 1) := by decide +kernel
theorem dX6_ask_67 : decode cX6_ask 67 = .ok (.ifCond .ne 7, 3) := by decide +kernel
theorem dX6_ask_70 : decode cX6_ask 70 = .ok (.iconst 1, 1) := by decide +kernel
theorem dX6_ask_71 : decode cX6_ask 71 = .ok (.goto 4, 3) := by decide +kernel
theorem dX6_ask_74 : decode cX6_ask 74 = .ok (.iconst 0, 1) := by decide +kernel
theorem dX6_ask_75 : decode cX6_ask 75 = .ok (.istore 4, 2) := by decide +kernel
theorem dX6_ask_77 : decode cX6_ask 77 = .ok (.iload 4, 2) := by decide +kernel
theorem dX6_ask_79 : decode cX6_ask 79 = .ok (.ifCond .eq 44, 3) := by decide +kernel
theorem dX6_ask_82 : decode cX6_ask 82 = .ok (.iload_n 2, 1) := by decide +kernel
theorem dX6_ask_83 : decode cX6_ask 83 = .ok (.ifCond .lt 38, 3) := by decide +kernel
theorem dX6_ask_86 : decode cX6_ask 86 = .ok (.aload_n 0, 1) := by decide +kernel
theorem dX6_ask_87 : decode cX6_ask 87 = .ok (.aload_n 0, 1) := by decide +kernel
theorem dX6_ask_88 : decode cX6_ask 88 = .ok (.getfield 7, 3) := by decide +kernel
theorem dX6_ask_91 : decode cX6_ask 91 = .ok (.iload_n 3, 1) := by decide +kernel
theorem dX6_ask_92 : decode cX6_ask 92 = .ok (.iaload, 1) := by decide +kernel
theorem dX6_ask_93 : decode cX6_ask 93 = .ok (.aload_n 0, 1) := by decide +kernel
theorem dX6_ask_94 : decode cX6_ask 94 = .ok (.getfield 31, 3) := by decide +kernel
theorem dX6_ask_97 : decode cX6_ask 97 = .ok (.iload_n 1, 1) := by decide +kernel
theorem dX6_ask_98 : decode cX6_ask 98 = .ok (.iaload, 1) := by decide +kernel
theorem dX6_ask_99 : decode cX6_ask 99 = .ok (.invokevirtual 116, 3) := by decide +kernel
theorem dX6_ask_102 : decode cX6_ask 102 = .ok (.aload_n 0, 1) := by decide +kernel
theorem dX6_ask_103 : decode cX6_ask 103 = .ok (.aload_n 0, 1) := by decide +kernel
theorem dX6_ask_104 : decode cX6_ask 104 = .ok (.getfield 7, 3) := by decide +kernel
theorem dX6_ask_107 : decode cX6_ask 107 = .ok (.iload_n 2, 1) := by decide +kernel
theorem dX6_ask_108 : decode cX6_ask 108 = .ok (.iaload, 1) := by decide +kernel
theorem dX6_ask_109 : decode cX6_ask 109 = .ok (.aload_n 0, 1) := by decide +kernel
theorem dX6_ask_110 : decode cX6_ask 110 = .ok (.getfield 31, 3) := by decide +kernel
theorem dX6_ask_113 : decode cX6_ask 113 = .ok (.iload_n 1, 1) := by decide +kernel
theorem dX6_ask_114 : decode cX6_ask 114 = .ok (.iaload, 1) := by decide +kernel
theorem dX6_ask_115 : decode cX6_ask 115 = .ok (.invokevirtual 116, 3) := by decide +kernel
theorem dX6_ask_118 : decode cX6_ask 118 = .ok (.if_icmp .ge 5, 3) := by decide +kernel
theorem dX6_ask_121 : decode cX6_ask 121 = .ok (.iload_n 3, 1) := by decide +kernel
theorem dX6_ask_122 : decode cX6_ask 122 = .ok (.istore_n 2, 1) := by decide +kernel
theorem dX6_ask_123 : decode cX6_ask 123 = .ok (.iinc 3 1, 3) := by decide +kernel
theorem dX6_ask_126 : decode cX6_ask 126 = .ok (.goto (-122), 3) := by decide +kernel
theorem dX6_ask_129 : decode cX6_ask 129 = .ok (.aload_n 0, 1) := by decide +kernel
theorem dX6_ask_130 : decode cX6_ask 130 = .ok (.getfield 40, 3) := by decide +kernel
theorem dX6_ask_133 : decode cX6_ask 133 = .ok (.iload_n 1, 1) := by decide +kernel
theorem dX6_ask_134 : decode cX6_ask 134 = .ok (.iload_n 2, 1) := by decide +kernel
