theorem dX5_addCopy_79 : decode cX5_addCopy 79 = .ok (.aload_n 0, 1) := by decide +kernel
theorem dX5_addCopy_80 : decode cX5_addCopy 80 = .ok (.getfield 33, 3) := by decide +kernel
theorem dX5_addCopy_83 : decode cX5_addCopy 83 = .ok (.iload_n 1, 1) := by decide +kernel
theorem dX5_addCopy_84 : decode cX5_addCopy 84 = .ok (.invokevirtual 69, 3) := by decide +kernel
theorem dX5_addCopy_87 : decode cX5_addCopy 87 = .ok (.aload_n 0, 1) := by decide +kernel
theorem dX5_addCopy_88 : decode cX5_addCopy 88 = .ok (.iconst 0, 1) := by decide +kernel
theorem dX5_addCopy_89 : decode cX5_addCopy 89 = .ok (.aload 4, 2) := by decide +kernel
theorem dX5_addCopy_91 : decode cX5_addCopy 91 = .ok (.invokevirtual 72, 3) := by decide +kernel
theorem dX5_addCopy_94 : decode cX5_addCopy 94 = .ok (.iload_n 3, 1) := by decide +kernel
theorem dX5_addCopy_95 : decode cX5_addCopy 95 = .ok (.ireturn, 1) := by decide +kernel
set_option maxRecDepth 20000 in
theorem ggX5_inHandsOf_X5_copyNumbered : GoodIn wsX5_inHandsOf wsX5_copyNumbered := goodIn_ca (goodIn_r _ [6, 7, 8, 9, 18, 19, 20, 21, 22, 23, 24] (by decide +kernel) (by decide +kernel)) (goodIn_sub (fun _ h => List.mem_cons_of_mem _ (List.mem_append_right _ h)) (by decide +kernel))
set_option maxRecDepth 20000 in
theorem gX5_inHandsOf_X5_copyNumbered : GoodIn wsX5_inHandsOf (wsV RX5 76 RX5 yX5_copyNumbered wsX5_copyNumbered) := goodIn_app (goodIn_of _ (by decide +kernel)) ggX5_inHandsOf_X5_copyNumbered
theorem dX5_inHandsOf_0 : decode cX5_inHandsOf 0 = .ok (.aload_n 0, 1) := by decide +kernel
theorem dX5_inHandsOf_1 : decode cX5_inHandsOf 1 = .ok (.iload_n 1, 1) := by decide +kernel
theorem dX5_inHandsOf_2 : decode cX5_inHandsOf 2 = .ok (.invokevirtual 76, 3) := by decide +kernel
theorem dX5_inHandsOf_5 : decode cX5_inHandsOf 5 = .ok (.getfield 80, 3) := by decide +kernel
theorem dX5_inHandsOf_8 : decode cX5_inHandsOf 8 = .ok (.ireturn, 1) := by decide +kernel
set_option maxRecDepth 20000 in
theorem ggX5_isFree_X5_copyNumbered : GoodIn wsX5_isFree wsX5_copyNumbered := goodIn_ca (goodIn_r _ [5, 6, 7, 8, 22, 23, 24, 25, 26, 27, 28] (by decide +kernel) (by decide +kernel)) (goodIn_sub (fun _ h => List.mem_cons_of_mem _ (List.mem_append_right _ h)) (by decide +kernel))
set_option maxRecDepth 20000 in
theorem gX5_isFree_X5_copyNumbered : GoodIn wsX5_isFree (wsV RX5 76 RX5 yX5_copyNumbered wsX5_copyNumbered) := goodIn_app (goodIn_of _ (by decide +kernel)) ggX5_isFree_X5_copyNumbered
set_option maxRecDepth 20000 in
theorem ggX5_isFree_X1_canBeSent : GoodIn wsX5_isFree wsX1_canBeSent := goodIn_r _ [13, 14, 15, 16, 17, 12, 18, 19, 20, 21, 29, 30, 31, 32, 33, 34, 35, 36] (by decide +kernel) (by decide +kernel)
set_option maxRecDepth 20000 in
theorem gX5_isFree_X1_canBeSent : GoodIn wsX5_isFree (wsV RX5 83 RX1 yX1_canBeSent wsX1_canBeSent) := goodIn_app (goodIn_of _ (by decide +kernel)) ggX5_isFree_X1_canBeSent
theorem dX5_isFree_0 : decode cX5_isFree 0 = .ok (.aload_n 0, 1) := by decide +kernel
theorem dX5_isFree_1 : decode cX5_isFree 1 = .ok (.iload_n 1, 1) := by decide +kernel
theorem dX5_isFree_2 : decode cX5_isFree 2 = .ok (.invokevirtual 76, 3) := by decide +kernel
theorem dX5_isFree_5 : decode cX5_isFree 5 = .ok (.invokevirtual 83, 3) := by decide +kernel
theorem dX5_isFree_8 : decode cX5_isFree 8 = .ok (.ireturn, 1) := by decide +kernel
set_option maxRecDepth 20000 in
theorem ggX5_listed_X5_copyNumbered : GoodIn wsX5_listed wsX5_copyNumbered := goodIn_ca (goodIn_r _ [6, 7, 8, 9, 18, 19, 20, 21, 22, 23, 24] (by decide +kernel) (by decide +kernel)) (goodIn_sub (fun _ h => List.mem_cons_of_mem _ (List.mem_append_right _ h)) (by decide +kernel))
set_option maxRecDepth 20000 in
theorem gX5_listed_X5_copyNumbered : GoodIn wsX5_listed (wsV RX5 76 RX5 yX5_copyNumbered wsX5_copyNumbered) := goodIn_app (goodIn_of _ (by decide +kernel)) ggX5_listed_X5_copyNumbered
theorem dX5_listed_0 : decode cX5_listed 0 = .ok (.aload_n 0, 1) := by decide +kernel
theorem dX5_listed_1 : decode cX5_listed 1 = .ok (.iload_n 1, 1) := by decide +kernel
theorem dX5_listed_2 : decode cX5_listed 2 = .ok (.invokevirtual 76, 3) := by decide +kernel
theorem dX5_listed_5 : decode cX5_listed 5 = .ok (.getfield 87, 3) := by decide +kernel
theorem dX5_listed_8 : decode cX5_listed 8 = .ok (.ireturn, 1) := by decide +kernel
set_option maxRecDepth 20000 in
theorem ggX5_harm_X5_copyNumbered : GoodIn wsX5_harm wsX5_copyNumbered := goodIn_ca (goodIn_r _ [9, 10, 11, 12, 27, 28, 29, 30, 31, 32, 33] (by decide +kernel) (by decide +kernel)) (goodIn_sub (fun _ h => List.mem_cons_of_mem _ (List.mem_append_right _ h)) (by decide +kernel))
set_option maxRecDepth 20000 in
theorem gX5_harm_X5_copyNumbered : GoodIn wsX5_harm (wsV RX5 76 RX5 yX5_copyNumbered wsX5_copyNumbered) := goodIn_app (goodIn_of _ (by decide +kernel)) ggX5_harm_X5_copyNumbered
set_option maxRecDepth 20000 in
theorem ggX5_harm_X1_isHarmed : GoodIn wsX5_harm wsX1_isHarmed := goodIn_r _ [17, 18, 19, 20, 21, 22, 23, 24, 25, 26] (by decide +kernel) (by decide +kernel)
set_option maxRecDepth 20000 in
theorem gX5_harm_X1_isHarmed : GoodIn wsX5_harm (wsV RX5 90 RX1 yX1_isHarmed wsX1_isHarmed) := goodIn_app (goodIn_of _ (by decide +kernel)) ggX5_harm_X1_isHarmed
theorem dX5_harm_0 : decode cX5_harm 0 = .ok (.aload_n 0, 1) := by decide +kernel
theorem dX5_harm_1 : decode cX5_harm 1 = .ok (.iload_n 1, 1) := by decide +kernel
theorem dX5_harm_2 : decode cX5_harm 2 = .ok (.invokevirtual 76, 3) := by decide +kernel
theorem dX5_harm_5 : decode cX5_harm 5 = .ok (.astore_n 2, 1) := by decide +kernel
theorem dX5_harm_6 : decode cX5_harm 6 = .ok (.aload_n 2, 1) := by decide +kernel
theorem dX5_harm_7 : decode cX5_harm 7 = .ok (.invokevirtual 90, 3) := by decide +kernel
theorem dX5_harm_10 : decode cX5_harm 10 = .ok (.ifCond .eq 13, 3) := by decide +kernel
theorem dX5_harm_13 : decode cX5_harm 13 = .ok (.new 61, 3) := by decide +kernel
theorem dX5_harm_16 : decode cX5_harm 16 = .ok (.dup, 1) := by decide +kernel
theorem dX5_harm_17 : decode cX5_harm 17 = .ok (.ldc 93, 2) := by decide +kernel
theorem dX5_harm_19 : decode cX5_harm 19 = .ok (.invokespecial 65, 3) := by decide +kernel
theorem dX5_harm_22 : decode cX5_harm 22 = .ok (.athrow, 1) := by decide +kernel
theorem dX5_harm_23 : decode cX5_harm 23 = .ok (.aload_n 2, 1) := by decide +kernel
theorem dX5_harm_24 : decode cX5_harm 24 = .ok (.aload_n 2, 1) := by decide +kernel
theorem dX5_harm_25 : decode cX5_harm 25 = .ok (.getfield 80, 3) := by decide +kernel
theorem dX5_harm_28 : decode cX5_harm 28 = .ok (.putfield 95, 3) := by decide +kernel
theorem dX5_harm_31 : decode cX5_harm 31 = .ok (.aload_n 2, 1) := by decide +kernel
theorem dX5_harm_32 : decode cX5_harm 32 = .ok (.getfield 95, 3) := by decide +kernel
theorem dX5_harm_35 : decode cX5_harm 35 = .ok (.ireturn, 1) := by decide +kernel
set_option maxRecDepth 20000 in
theorem ggX5_look_X5_copyNumbered : GoodIn wsX5_look wsX5_copyNumbered := goodIn_ca (goodIn_r _ [8, 9, 10, 11, 42, 43, 44, 45, 46, 47, 48] (by decide +kernel) (by decide +kernel)) (goodIn_sub (fun _ h => List.mem_cons_of_mem _ (List.mem_append_right _ h)) (by decide +kernel))
set_option maxRecDepth 20000 in
theorem gX5_look_X5_copyNumbered : GoodIn wsX5_look (wsV RX5 76 RX5 yX5_copyNumbered wsX5_copyNumbered) := goodIn_app (goodIn_of _ (by decide +kernel)) ggX5_look_X5_copyNumbered
set_option maxRecDepth 20000 in
theorem ggX5_look_X5_examine : GoodIn wsX5_look wsX5_examine := goodIn_r _ [15, 16, 17, 18, 19, 20, 21, 22, 23, 24, 25, 26, 27, 28, 29, 30, 31, 32, 7, 33, 34, 35, 36, 37, 38, 39, 40, 41, 42, 43, 44, 45, 46, 47, 48, 49, 50, 51] (by decide +kernel) (by decide +kernel)
set_option maxRecDepth 20000 in
theorem gX5_look_X5_examine : GoodIn wsX5_look (wsV RX5 104 RX5 yX5_examine wsX5_examine) := goodIn_app (goodIn_of _ (by decide +kernel)) ggX5_look_X5_examine
theorem dX5_look_0 : decode cX5_look 0 = .ok (.aload_n 0, 1) := by decide +kernel
theorem dX5_look_1 : decode cX5_look 1 = .ok (.iload_n 1, 1) := by decide +kernel
theorem dX5_look_2 : decode cX5_look 2 = .ok (.invokevirtual 76, 3) := by decide +kernel
theorem dX5_look_5 : decode cX5_look 5 = .ok (.astore_n 2, 1) := by decide +kernel
theorem dX5_look_6 : decode cX5_look 6 = .ok (.aload_n 2, 1) := by decide +kernel
theorem dX5_look_7 : decode cX5_look 7 = .ok (.getfield 98, 3) := by decide +kernel
theorem dX5_look_10 : decode cX5_look 10 = .ok (.ifCond .eq 13, 3) := by decide +kernel
theorem dX5_look_13 : decode cX5_look 13 = .ok (.new 61, 3) := by decide +kernel
theorem dX5_look_16 : decode cX5_look 16 = .ok (.dup, 1) := by decide +kernel
theorem dX5_look_17 : decode cX5_look 17 = .ok (.ldc 102, 2) := by decide +kernel
theorem dX5_look_19 : decode cX5_look 19 = .ok (.invokespecial 65, 3) := by decide +kernel
theorem dX5_look_22 : decode cX5_look 22 = .ok (.athrow, 1) := by decide +kernel
theorem dX5_look_23 : decode cX5_look 23 = .ok (.aload_n 0, 1) := by decide +kernel
theorem dX5_look_24 : decode cX5_look 24 = .ok (.aload_n 2, 1) := by decide +kernel
theorem dX5_look_25 : decode cX5_look 25 = .ok (.invokevirtual 104, 3) := by decide +kernel
theorem dX5_look_28 : decode cX5_look 28 = .ok (.ireturn, 1) := by decide +kernel
set_option maxRecDepth 20000 in
theorem ggX5_mend_X5_copyNumbered : GoodIn wsX5_mend wsX5_copyNumbered := goodIn_ca (goodIn_r _ [9, 10, 11, 12, 64, 65, 66, 67, 68, 69, 70] (by decide +kernel) (by decide +kernel)) (goodIn_sub (fun _ h => List.mem_cons_of_mem _ (List.mem_append_right _ h)) (by decide +kernel))
set_option maxRecDepth 20000 in
theorem gX5_mend_X5_copyNumbered : GoodIn wsX5_mend (wsV RX5 76 RX5 yX5_copyNumbered wsX5_copyNumbered) := goodIn_app (goodIn_of _ (by decide +kernel)) ggX5_mend_X5_copyNumbered
set_option maxRecDepth 20000 in
theorem ggX5_mend_X1_isAtHome : GoodIn wsX5_mend wsX1_isAtHome := goodIn_r _ [17, 18, 19, 20, 56, 57, 58, 59, 60, 61, 62, 63] (by decide +kernel) (by decide +kernel)
set_option maxRecDepth 20000 in
theorem gX5_mend_X1_isAtHome : GoodIn wsX5_mend (wsV RX5 108 RX1 yX1_isAtHome wsX1_isAtHome) := goodIn_app (goodIn_of _ (by decide +kernel)) ggX5_mend_X1_isAtHome
set_option maxRecDepth 20000 in
theorem ggX5_mend_X5_sendNews : GoodIn wsX5_mend wsX5_sendNews := goodIn_r _ [24, 25, 26, 27, 8, 28, 29, 30, 31, 32, 33, 34, 35, 36, 37, 38, 39, 40, 41, 42, 43, 44, 45, 46, 47, 48, 49, 50, 51, 52, 53, 54, 55, 56, 57, 58, 59, 60, 61, 62, 63, 64, 65, 66, 67, 68, 69, 70, 71, 72, 73, 74, 75, 76] (by decide +kernel) (by decide +kernel)
set_option maxRecDepth 20000 in
theorem gX5_mend_X5_sendNews : GoodIn wsX5_mend (wsV RX5 72 RX5 yX5_sendNews wsX5_sendNews) := goodIn_app (goodIn_of _ (by decide +kernel)) ggX5_mend_X5_sendNews
theorem dX5_mend_0 : decode cX5_mend 0 = .ok (.aload_n 0, 1) := by decide +kernel
theorem dX5_mend_1 : decode cX5_mend 1 = .ok (.iload_n 1, 1) := by decide +kernel
theorem dX5_mend_2 : decode cX5_mend 2 = .ok (.invokevirtual 76, 3) := by decide +kernel
theorem dX5_mend_5 : decode cX5_mend 5 = .ok (.astore_n 2, 1) := by decide +kernel
theorem dX5_mend_6 : decode cX5_mend 6 = .ok (.aload_n 2, 1) := by decide +kernel
theorem dX5_mend_7 : decode cX5_mend 7 = .ok (.invokevirtual 108, 3) := by decide +kernel
theorem dX5_mend_10 : decode cX5_mend 10 = .ok (.ifCond .eq 10, 3) := by decide +kernel
theorem dX5_mend_13 : decode cX5_mend 13 = .ok (.aload_n 2, 1) := by decide +kernel
theorem dX5_mend_14 : decode cX5_mend 14 = .ok (.getfield 111, 3) := by decide +kernel
theorem dX5_mend_17 : decode cX5_mend 17 = .ok (.ifCond .ne 13, 3) := by decide +kernel
theorem dX5_mend_20 : decode cX5_mend 20 = .ok (.new 61, 3) := by decide +kernel
theorem dX5_mend_23 : decode cX5_mend 23 = .ok (.dup, 1) := by decide +kernel
theorem dX5_mend_24 : decode cX5_mend 24 = .ok (.ldc 114, 2) := by decide +kernel
theorem dX5_mend_26 : decode cX5_mend 26 = .ok (.invokespecial 65, 3) := by decide +kernel
theorem dX5_mend_29 : decode cX5_mend 29 = .ok (.athrow, 1) := by decide +kernel
theorem dX5_mend_30 : decode cX5_mend 30 = .ok (.aload_n 2, 1) := by decide +kernel
theorem dX5_mend_31 : decode cX5_mend 31 = .ok (.iconst (-1), 1) := by decide +kernel
theorem dX5_mend_32 : decode cX5_mend 32 = .ok (.putfield 95, 3) := by decide +kernel
theorem dX5_mend_35 : decode cX5_mend 35 = .ok (.aload_n 2, 1) := by decide +kernel
theorem dX5_mend_36 : decode cX5_mend 36 = .ok (.iconst 0, 1) := by decide +kernel
theorem dX5_mend_37 : decode cX5_mend 37 = .ok (.putfield 111, 3) := by decide +kernel
theorem dX5_mend_40 : decode cX5_mend 40 = .ok (.aload_n 0, 1) := by decide +kernel
theorem dX5_mend_41 : decode cX5_mend 41 = .ok (.iconst 0, 1) := by decide +kernel
theorem dX5_mend_42 : decode cX5_mend 42 = .ok (.aload_n 2, 1) := by decide +kernel
theorem dX5_mend_43 : decode cX5_mend 43 = .ok (.invokevirtual 72, 3) := by decide +kernel
theorem dX5_mend_46 : decode cX5_mend 46 = .ok (.return_, 1) := by decide +kernel
set_option maxRecDepth 20000 in
theorem ggX5_request_X5_isHouse : GoodIn wsX5_request wsX5_isHouse := goodIn_r _ [13] (by decide +kernel) (by decide +kernel)
set_option maxRecDepth 20000 in
theorem gX5_request_X5_isHouse : GoodIn wsX5_request (va_wsS RX5 47 yX5_isHouse wsX5_isHouse) := goodIn_app (goodIn_of _ (by decide +kernel)) ggX5_request_X5_isHouse
set_option maxRecDepth 20000 in
theorem ggX5_request_X5_isTitle : GoodIn wsX5_request wsX5_isTitle := goodIn_r _ [16] (by decide +kernel) (by decide +kernel)
set_option maxRecDepth 20000 in
theorem gX5_request_X5_isTitle : GoodIn wsX5_request (va_wsS RX5 51 yX5_isTitle wsX5_isTitle) := goodIn_app (goodIn_of _ (by decide +kernel)) ggX5_request_X5_isTitle
set_option maxRecDepth 20000 in
theorem ggX5_request_X3_init : GoodIn wsX5_request wsX3_init := goodIn_r _ [19, 20, 21, 22, 23, 24, 25, 26, 27, 28, 29, 93, 94, 95, 96, 97, 98, 99] (by decide +kernel) (by decide +kernel)
set_option maxRecDepth 20000 in
theorem gX5_request_X3_init : GoodIn wsX5_request (wsX3_init) := ggX5_request_X3_init
set_option maxRecDepth 20000 in
theorem ggX5_request_X5_askNextHome : GoodIn wsX5_request wsX5_askNextHome := goodIn_r _ [33, 34, 35, 36, 37, 38, 39, 40, 12, 41, 42, 43, 44, 45, 9, 46, 29, 47, 48, 24, 49, 23, 50, 51, 52, 53, 54, 55, 56, 57, 58, 59, 60, 61, 62, 63, 64, 65, 66, 67, 68, 69, 70, 71, 72, 73, 21, 22, 74, 75, 76, 77, 78, 79, 80, 81, 82, 83, 84, 85, 93, 94, 95, 96, 97, 98, 99, 100, 101, 102, 103, 104, 105, 106, 107, 86, 87, 88, 89, 90, 91, 92, 108, 109, 110, 111, 112, 113] (by decide +kernel) (by decide +kernel)
set_option maxRecDepth 20000 in
theorem gX5_request_X5_askNextHome : GoodIn wsX5_request (wsV RX5 123 RX5 yX5_askNextHome wsX5_askNextHome) := goodIn_app (goodIn_of _ (by decide +kernel)) ggX5_request_X5_askNextHome
theorem dX5_request_0 : decode cX5_request 0 = .ok (.iload_n 1, 1) := by decide +kernel
theorem dX5_request_1 : decode cX5_request 1 = .ok (.invokestatic 47, 3) := by decide +kernel
theorem dX5_request_4 : decode cX5_request 4 = .ok (.ifCond .eq 10, 3) := by decide +kernel
theorem dX5_request_7 : decode cX5_request 7 = .ok (.iload_n 2, 1) := by decide +kernel
theorem dX5_request_8 : decode cX5_request 8 = .ok (.invokestatic 51, 3) := by decide +kernel
theorem dX5_request_11 : decode cX5_request 11 = .ok (.ifCond .ne 13, 3) := by decide +kernel
theorem dX5_request_14 : decode cX5_request 14 = .ok (.new 54, 3) := by decide +kernel
theorem dX5_request_17 : decode cX5_request 17 = .ok (.dup, 1) := by decide +kernel
theorem dX5_request_18 : decode cX5_request 18 = .ok (.ldc 116, 2) := by decide +kernel
theorem dX5_request_20 : decode cX5_request 20 = .ok (.invokespecial 58, 3) := by decide +kernel
theorem dX5_request_23 : decode cX5_request 23 = .ok (.athrow, 1) := by decide +kernel
theorem dX5_request_24 : decode cX5_request 24 = .ok (.aload_n 0, 1) := by decide +kernel
theorem dX5_request_25 : decode cX5_request 25 = .ok (.getfield 41, 3) := by decide +kernel
theorem dX5_request_28 : decode cX5_request 28 = .ok (.istore_n 3, 1) := by decide +kernel
theorem dX5_request_29 : decode cX5_request 29 = .ok (.iload_n 3, 1) := by decide +kernel
theorem dX5_request_30 : decode cX5_request 30 = .ok (.ifCond .lt 12, 3) := by decide +kernel
theorem dX5_request_33 : decode cX5_request 33 = .ok (.iload_n 3, 1) := by decide +kernel
theorem dX5_request_34 : decode cX5_request 34 = .ok (.aload_n 0, 1) := by decide +kernel
theorem dX5_request_35 : decode cX5_request 35 = .ok (.getfield 17, 3) := by decide +kernel
theorem dX5_request_38 : decode cX5_request 38 = .ok (.arraylength, 1) := by decide +kernel
theorem dX5_request_39 : decode cX5_request 39 = .ok (.if_icmp .lt 13, 3) := by decide +kernel
theorem dX5_request_42 : decode cX5_request 42 = .ok (.new 61, 3) := by decide +kernel
theorem dX5_request_45 : decode cX5_request 45 = .ok (.dup, 1) := by decide +kernel
theorem dX5_request_46 : decode cX5_request 46 = .ok (.ldc 118, 2) := by decide +kernel
theorem dX5_request_48 : decode cX5_request 48 = .ok (.invokespecial 65, 3) := by decide +kernel
theorem dX5_request_51 : decode cX5_request 51 = .ok (.athrow, 1) := by decide +kernel
theorem dX5_request_52 : decode cX5_request 52 = .ok (.new 15, 3) := by decide +kernel
theorem dX5_request_55 : decode cX5_request 55 = .ok (.dup, 1) := by decide +kernel
theorem dX5_request_56 : decode cX5_request 56 = .ok (.iload_n 1, 1) := by decide +kernel
theorem dX5_request_57 : decode cX5_request 57 = .ok (.iload_n 2, 1) := by decide +kernel
theorem dX5_request_58 : decode cX5_request 58 = .ok (.invokespecial 120, 3) := by decide +kernel
theorem dX5_request_61 : decode cX5_request 61 = .ok (.astore 4, 2) := by decide +kernel
theorem dX5_request_63 : decode cX5_request 63 = .ok (.aload_n 0, 1) := by decide +kernel
theorem dX5_request_64 : decode cX5_request 64 = .ok (.getfield 17, 3) := by decide +kernel
theorem dX5_request_67 : decode cX5_request 67 = .ok (.iload_n 3, 1) := by decide +kernel
theorem dX5_request_68 : decode cX5_request 68 = .ok (.aload 4, 2) := by decide +kernel
theorem dX5_request_70 : decode cX5_request 70 = .ok (.aastore, 1) := by decide +kernel
theorem dX5_request_71 : decode cX5_request 71 = .ok (.aload_n 0, 1) := by decide +kernel
theorem dX5_request_72 : decode cX5_request 72 = .ok (.iload_n 3, 1) := by decide +kernel
theorem dX5_request_73 : decode cX5_request 73 = .ok (.iconst 1, 1) := by decide +kernel
theorem dX5_request_74 : decode cX5_request 74 = .ok (.iadd, 1) := by decide +kernel
theorem dX5_request_75 : decode cX5_request 75 = .ok (.putfield 41, 3) := by decide +kernel
theorem dX5_request_78 : decode cX5_request 78 = .ok (.aload_n 0, 1) := by decide +kernel
theorem dX5_request_79 : decode cX5_request 79 = .ok (.aload 4, 2) := by decide +kernel
theorem dX5_request_81 : decode cX5_request 81 = .ok (.invokevirtual 123, 3) := by decide +kernel
theorem dX5_request_84 : decode cX5_request 84 = .ok (.iload_n 3, 1) := by decide +kernel
theorem dX5_request_85 : decode cX5_request 85 = .ok (.ireturn, 1) := by decide +kernel
set_option maxRecDepth 20000 in
theorem ggX5_state_X5_requestNumbered : GoodIn wsX5_state wsX5_requestNumbered := goodIn_ca (goodIn_r _ [6, 7, 8, 9, 17, 18, 19, 20, 21, 22, 23] (by decide +kernel) (by decide +kernel)) (goodIn_sub (fun _ h => List.mem_cons_of_mem _ (List.mem_append_right _ h)) (by decide +kernel))
set_option maxRecDepth 20000 in
theorem gX5_state_X5_requestNumbered : GoodIn wsX5_state (wsV RX5 127 RX5 yX5_requestNumbered wsX5_requestNumbered) := goodIn_app (goodIn_of _ (by decide +kernel)) ggX5_state_X5_requestNumbered
theorem dX5_state_0 : decode cX5_state 0 = .ok (.aload_n 0, 1) := by decide +kernel
theorem dX5_state_1 : decode cX5_state 1 = .ok (.iload_n 1, 1) := by decide +kernel
theorem dX5_state_2 : decode cX5_state 2 = .ok (.invokevirtual 127, 3) := by decide +kernel
theorem dX5_state_5 : decode cX5_state 5 = .ok (.getfield 131, 3) := by decide +kernel
theorem dX5_state_8 : decode cX5_state 8 = .ok (.ireturn, 1) := by decide +kernel
set_option maxRecDepth 20000 in
theorem ggX5_copyOf_X5_requestNumbered : GoodIn wsX5_copyOf wsX5_requestNumbered := goodIn_ca (goodIn_r _ [7, 8, 9, 10, 26, 27, 28, 29, 30, 31, 32] (by decide +kernel) (by decide +kernel)) (goodIn_sub (fun _ h => List.mem_cons_of_mem _ (List.mem_append_right _ h)) (by decide +kernel))
set_option maxRecDepth 20000 in
theorem gX5_copyOf_X5_requestNumbered : GoodIn wsX5_copyOf (wsV RX5 127 RX5 yX5_requestNumbered wsX5_requestNumbered) := goodIn_app (goodIn_of _ (by decide +kernel)) ggX5_copyOf_X5_requestNumbered
theorem dX5_copyOf_0 : decode cX5_copyOf 0 = .ok (.aload_n 0, 1) := by decide +kernel
theorem dX5_copyOf_1 : decode cX5_copyOf 1 = .ok (.iload_n 1, 1) := by decide +kernel
theorem dX5_copyOf_2 : decode cX5_copyOf 2 = .ok (.invokevirtual 127, 3) := by decide +kernel
theorem dX5_copyOf_5 : decode cX5_copyOf 5 = .ok (.getfield 134, 3) := by decide +kernel
theorem dX5_copyOf_8 : decode cX5_copyOf 8 = .ok (.astore_n 2, 1) := by decide +kernel
theorem dX5_copyOf_9 : decode cX5_copyOf 9 = .ok (.aload_n 2, 1) := by decide +kernel
theorem dX5_copyOf_10 : decode cX5_copyOf 10 = .ok (.ifnonnull 7, 3) := by decide +kernel
theorem dX5_copyOf_13 : decode cX5_copyOf 13 = .ok (.iconst (-1), 1) := by decide +kernel
theorem dX5_copyOf_14 : decode cX5_copyOf 14 = .ok (.goto 7, 3) := by decide +kernel
theorem dX5_copyOf_17 : decode cX5_copyOf 17 = .ok (.aload_n 2, 1) := by decide +kernel
theorem dX5_copyOf_18 : decode cX5_copyOf 18 = .ok (.getfield 138, 3) := by decide +kernel
theorem dX5_copyOf_21 : decode cX5_copyOf 21 = .ok (.ireturn, 1) := by decide +kernel
set_option maxRecDepth 20000 in
theorem ggX5_due_X5_requestNumbered : GoodIn wsX5_due wsX5_requestNumbered := goodIn_ca (goodIn_r _ [9, 10, 11, 12, 20, 21, 22, 23, 24, 25, 26] (by decide +kernel) (by decide +kernel)) (goodIn_sub (fun _ h => List.mem_cons_of_mem _ (List.mem_append_right _ h)) (by decide +kernel))
set_option maxRecDepth 20000 in
theorem gX5_due_X5_requestNumbered : GoodIn wsX5_due (wsV RX5 127 RX5 yX5_requestNumbered wsX5_requestNumbered) := goodIn_app (goodIn_of _ (by decide +kernel)) ggX5_due_X5_requestNumbered
theorem dX5_due_0 : decode cX5_due 0 = .ok (.aload_n 0, 1) := by decide +kernel
theorem dX5_due_1 : decode cX5_due 1 = .ok (.iload_n 1, 1) := by decide +kernel
theorem dX5_due_2 : decode cX5_due 2 = .ok (.invokevirtual 127, 3) := by decide +kernel
theorem dX5_due_5 : decode cX5_due 5 = .ok (.astore_n 2, 1) := by decide +kernel
theorem dX5_due_6 : decode cX5_due 6 = .ok (.aload_n 2, 1) := by decide +kernel
theorem dX5_due_7 : decode cX5_due 7 = .ok (.getfield 131, 3) := by decide +kernel
theorem dX5_due_10 : decode cX5_due 10 = .ok (.iconst 2, 1) := by decide +kernel
theorem dX5_due_11 : decode cX5_due 11 = .ok (.if_icmp .eq 13, 3) := by decide +kernel
theorem dX5_due_14 : decode cX5_due 14 = .ok (.new 61, 3) := by decide +kernel
theorem dX5_due_17 : decode cX5_due 17 = .ok (.dup, 1) := by decide +kernel
theorem dX5_due_18 : decode cX5_due 18 = .ok (.ldc 141, 2) := by decide +kernel
theorem dX5_due_20 : decode cX5_due 20 = .ok (.invokespecial 65, 3) := by decide +kernel
theorem dX5_due_23 : decode cX5_due 23 = .ok (.athrow, 1) := by decide +kernel
theorem dX5_due_24 : decode cX5_due 24 = .ok (.aload_n 2, 1) := by decide +kernel
theorem dX5_due_25 : decode cX5_due 25 = .ok (.getfield 143, 3) := by decide +kernel
theorem dX5_due_28 : decode cX5_due 28 = .ok (.ireturn, 1) := by decide +kernel
set_option maxRecDepth 20000 in
theorem ggX5_renew_X5_requestNumbered : GoodIn wsX5_renew wsX5_requestNumbered := goodIn_ca (goodIn_r _ [11, 12, 13, 14, 64, 65, 66, 67, 68, 69, 70] (by decide +kernel) (by decide +kernel)) (goodIn_sub (fun _ h => List.mem_cons_of_mem _ (List.mem_append_right _ h)) (by decide +kernel))
set_option maxRecDepth 20000 in
theorem gX5_renew_X5_requestNumbered : GoodIn wsX5_renew (wsV RX5 127 RX5 yX5_requestNumbered wsX5_requestNumbered) := goodIn_app (goodIn_of _ (by decide +kernel)) ggX5_renew_X5_requestNumbered
set_option maxRecDepth 20000 in
theorem ggX5_renew_X5_way : GoodIn wsX5_renew wsX5_way := goodIn_r _ [17, 18, 19, 20, 21] (by decide +kernel) (by decide +kernel)
set_option maxRecDepth 20000 in
theorem gX5_renew_X5_way : GoodIn wsX5_renew (va_wsS RX5 152 yX5_way wsX5_way) := goodIn_app (goodIn_of _ (by decide +kernel)) ggX5_renew_X5_way
set_option maxRecDepth 20000 in
theorem ggX5_renew_X5_send : GoodIn wsX5_renew wsX5_send := goodIn_r _ [25, 26, 27, 28, 29, 30, 31, 32, 33, 34, 35, 36, 37, 38, 39, 40, 41, 42, 43, 44, 45, 46, 47, 48, 64, 65, 66, 67, 68, 69, 70, 71, 72, 73, 74, 75, 76] (by decide +kernel) (by decide +kernel)
set_option maxRecDepth 20000 in
theorem gX5_renew_X5_send : GoodIn wsX5_renew (wsV RX5 156 RX5 yX5_send wsX5_send) := goodIn_app (goodIn_of _ (by decide +kernel)) ggX5_renew_X5_send
theorem dX5_renew_0 : decode cX5_renew 0 = .ok (.aload_n 0, 1) := by decide +kernel
theorem dX5_renew_1 : decode cX5_renew 1 = .ok (.iload_n 1, 1) := by decide +kernel
theorem dX5_renew_2 : decode cX5_renew 2 = .ok (.invokevirtual 127, 3) := by decide +kernel
theorem dX5_renew_5 : decode cX5_renew 5 = .ok (.astore_n 2, 1) := by decide +kernel
theorem dX5_renew_6 : decode cX5_renew 6 = .ok (.aload_n 2, 1) := by decide +kernel
theorem dX5_renew_7 : decode cX5_renew 7 = .ok (.getfield 134, 3) := by decide +kernel
theorem dX5_renew_10 : decode cX5_renew 10 = .ok (.astore_n 3, 1) := by decide +kernel
theorem dX5_renew_11 : decode cX5_renew 11 = .ok (.aload_n 2, 1) := by decide +kernel
theorem dX5_renew_12 : decode cX5_renew 12 = .ok (.getfield 131, 3) := by decide +kernel
theorem dX5_renew_15 : decode cX5_renew 15 = .ok (.iconst 2, 1) := by decide +kernel
theorem dX5_renew_16 : decode cX5_renew 16 = .ok (.if_icmp .ne 7, 3) := by decide +kernel
theorem dX5_renew_19 : decode cX5_renew 19 = .ok (.aload_n 3, 1) := by decide +kernel
theorem dX5_renew_20 : decode cX5_renew 20 = .ok (.ifnonnull 13, 3) := by decide +kernel
theorem dX5_renew_23 : decode cX5_renew 23 = .ok (.new 61, 3) := by decide +kernel
theorem dX5_renew_26 : decode cX5_renew 26 = .ok (.dup, 1) := by decide +kernel
theorem dX5_renew_27 : decode cX5_renew 27 = .ok (.ldc 141, 2) := by decide +kernel
theorem dX5_renew_29 : decode cX5_renew 29 = .ok (.invokespecial 65, 3) := by decide +kernel
theorem dX5_renew_32 : decode cX5_renew 32 = .ok (.athrow, 1) := by decide +kernel
theorem dX5_renew_33 : decode cX5_renew 33 = .ok (.aload_n 0, 1) := by decide +kernel
theorem dX5_renew_34 : decode cX5_renew 34 = .ok (.iconst 5, 1) := by decide +kernel
theorem dX5_renew_35 : decode cX5_renew 35 = .ok (.aload_n 2, 1) := by decide +kernel
theorem dX5_renew_36 : decode cX5_renew 36 = .ok (.getfield 146, 3) := by decide +kernel
theorem dX5_renew_39 : decode cX5_renew 39 = .ok (.aload_n 3, 1) := by decide +kernel
theorem dX5_renew_40 : decode cX5_renew 40 = .ok (.getfield 149, 3) := by decide +kernel
theorem dX5_renew_43 : decode cX5_renew 43 = .ok (.invokestatic 152, 3) := by decide +kernel
theorem dX5_renew_46 : decode cX5_renew 46 = .ok (.aload_n 3, 1) := by decide +kernel
theorem dX5_renew_47 : decode cX5_renew 47 = .ok (.aload_n 2, 1) := by decide +kernel
theorem dX5_renew_48 : decode cX5_renew 48 = .ok (.invokevirtual 156, 3) := by decide +kernel
theorem dX5_renew_51 : decode cX5_renew 51 = .ok (.ireturn, 1) := by decide +kernel
set_option maxRecDepth 20000 in
theorem ggX5_recall_X5_requestNumbered : GoodIn wsX5_recall wsX5_requestNumbered := goodIn_ca (goodIn_r _ [12, 13, 14, 15, 65, 66, 67, 68, 69, 70, 71] (by decide +kernel) (by decide +kernel)) (goodIn_sub (fun _ h => List.mem_cons_of_mem _ (List.mem_append_right _ h)) (by decide +kernel))
set_option maxRecDepth 20000 in
theorem gX5_recall_X5_requestNumbered : GoodIn wsX5_recall (wsV RX5 127 RX5 yX5_requestNumbered wsX5_requestNumbered) := goodIn_app (goodIn_of _ (by decide +kernel)) ggX5_recall_X5_requestNumbered
set_option maxRecDepth 20000 in
theorem ggX5_recall_X5_way : GoodIn wsX5_recall wsX5_way := goodIn_r _ [18, 19, 20, 21, 22] (by decide +kernel) (by decide +kernel)
set_option maxRecDepth 20000 in
theorem gX5_recall_X5_way : GoodIn wsX5_recall (va_wsS RX5 152 yX5_way wsX5_way) := goodIn_app (goodIn_of _ (by decide +kernel)) ggX5_recall_X5_way
set_option maxRecDepth 20000 in
theorem ggX5_recall_X5_send : GoodIn wsX5_recall wsX5_send := goodIn_r _ [26, 27, 28, 29, 30, 31, 32, 33, 34, 35, 36, 37, 38, 39, 40, 41, 42, 43, 44, 45, 46, 47, 48, 49, 65, 66, 67, 68, 69, 70, 71, 72, 73, 74, 75, 76, 77] (by decide +kernel) (by decide +kernel)
set_option maxRecDepth 20000 in
theorem gX5_recall_X5_send : GoodIn wsX5_recall (wsV RX5 156 RX5 yX5_send wsX5_send) := goodIn_app (goodIn_of _ (by decide +kernel)) ggX5_recall_X5_send
theorem dX5_recall_0 : decode cX5_recall 0 = .ok (.aload_n 0, 1) := by decide +kernel
theorem dX5_recall_1 : decode cX5_recall 1 = .ok (.iload_n 1, 1) := by decide +kernel
theorem dX5_recall_2 : decode cX5_recall 2 = .ok (.invokevirtual 127, 3) := by decide +kernel
theorem dX5_recall_5 : decode cX5_recall 5 = .ok (.astore_n 2, 1) := by decide +kernel
theorem dX5_recall_6 : decode cX5_recall 6 = .ok (.aload_n 2, 1) := by decide +kernel
theorem dX5_recall_7 : decode cX5_recall 7 = .ok (.getfield 134, 3) := by decide +kernel
theorem dX5_recall_10 : decode cX5_recall 10 = .ok (.astore_n 3, 1) := by decide +kernel
theorem dX5_recall_11 : decode cX5_recall 11 = .ok (.aload_n 2, 1) := by decide +kernel
theorem dX5_recall_12 : decode cX5_recall 12 = .ok (.getfield 131, 3) := by decide +kernel
theorem dX5_recall_15 : decode cX5_recall 15 = .ok (.iconst 2, 1) := by decide +kernel
theorem dX5_recall_16 : decode cX5_recall 16 = .ok (.if_icmp .ne 14, 3) := by decide +kernel
theorem dX5_recall_19 : decode cX5_recall 19 = .ok (.aload_n 3, 1) := by decide +kernel
theorem dX5_recall_20 : decode cX5_recall 20 = .ok (.ifnull 10, 3) := by decide +kernel
theorem dX5_recall_23 : decode cX5_recall 23 = .ok (.aload_n 2, 1) := by decide +kernel
theorem dX5_recall_24 : decode cX5_recall 24 = .ok (.getfield 160, 3) := by decide +kernel
theorem dX5_recall_27 : decode cX5_recall 27 = .ok (.ifCond .eq 13, 3) := by decide +kernel
theorem dX5_recall_30 : decode cX5_recall 30 = .ok (.new 61, 3) := by decide +kernel
theorem dX5_recall_33 : decode cX5_recall 33 = .ok (.dup, 1) := by decide +kernel
theorem dX5_recall_34 : decode cX5_recall 34 = .ok (.ldc 163, 2) := by decide +kernel
theorem dX5_recall_36 : decode cX5_recall 36 = .ok (.invokespecial 65, 3) := by decide +kernel
theorem dX5_recall_39 : decode cX5_recall 39 = .ok (.athrow, 1) := by decide +kernel
theorem dX5_recall_40 : decode cX5_recall 40 = .ok (.aload_n 2, 1) := by decide +kernel
theorem dX5_recall_41 : decode cX5_recall 41 = .ok (.iconst 1, 1) := by decide +kernel
theorem dX5_recall_42 : decode cX5_recall 42 = .ok (.putfield 160, 3) := by decide +kernel
theorem dX5_recall_45 : decode cX5_recall 45 = .ok (.aload_n 0, 1) := by decide +kernel
theorem dX5_recall_46 : decode cX5_recall 46 = .ok (.bipush 6, 2) := by decide +kernel
theorem dX5_recall_48 : decode cX5_recall 48 = .ok (.aload_n 2, 1) := by decide +kernel
theorem dX5_recall_49 : decode cX5_recall 49 = .ok (.getfield 146, 3) := by decide +kernel
theorem dX5_recall_52 : decode cX5_recall 52 = .ok (.aload_n 3, 1) := by decide +kernel
theorem dX5_recall_53 : decode cX5_recall 53 = .ok (.getfield 149, 3) := by decide +kernel
theorem dX5_recall_56 : decode cX5_recall 56 = .ok (.invokestatic 152, 3) := by decide +kernel
theorem dX5_recall_59 : decode cX5_recall 59 = .ok (.aload_n 3, 1) := by decide +kernel
theorem dX5_recall_60 : decode cX5_recall 60 = .ok (.aload_n 2, 1) := by decide +kernel
theorem dX5_recall_61 : decode cX5_recall 61 = .ok (.invokevirtual 156, 3) := by decide +kernel
theorem dX5_recall_64 : decode cX5_recall 64 = .ok (.ireturn, 1) := by decide +kernel
set_option maxRecDepth 20000 in
theorem ggX5_sendBack_X5_requestNumbered : GoodIn wsX5_sendBack wsX5_requestNumbered := goodIn_ca (goodIn_r _ [19, 20, 21, 22, 70, 71, 72, 73, 74, 75, 76] (by decide +kernel) (by decide +kernel)) (goodIn_sub (fun _ h => List.mem_cons_of_mem _ (List.mem_append_right _ h)) (by decide +kernel))
set_option maxRecDepth 20000 in
theorem gX5_sendBack_X5_requestNumbered : GoodIn wsX5_sendBack (wsV RX5 127 RX5 yX5_requestNumbered wsX5_requestNumbered) := goodIn_app (goodIn_of _ (by decide +kernel)) ggX5_sendBack_X5_requestNumbered
set_option maxRecDepth 20000 in
theorem ggX5_sendBack_X0_charge : GoodIn wsX5_sendBack wsX0_charge := goodIn_r _ [27, 28, 29, 18, 30, 85, 86, 87] (by decide +kernel) (by decide +kernel)
set_option maxRecDepth 20000 in
theorem gX5_sendBack_X0_charge : GoodIn wsX5_sendBack (wsV RX5 170 RX0 yX0_charge wsX0_charge) := goodIn_app (goodIn_of _ (by decide +kernel)) ggX5_sendBack_X0_charge
set_option maxRecDepth 20000 in
theorem ggX5_sendBack_X5_way : GoodIn wsX5_sendBack wsX5_way := goodIn_r _ [33, 34, 35, 9, 36] (by decide +kernel) (by decide +kernel)
set_option maxRecDepth 20000 in
theorem gX5_sendBack_X5_way : GoodIn wsX5_sendBack (va_wsS RX5 152 yX5_way wsX5_way) := goodIn_app (goodIn_of _ (by decide +kernel)) ggX5_sendBack_X5_way
set_option maxRecDepth 20000 in
theorem ggX5_sendBack_X5_send : GoodIn wsX5_sendBack wsX5_send := goodIn_r _ [40, 5, 41, 42, 43, 44, 45, 46, 47, 48, 49, 50, 51, 52, 53, 54, 55, 56, 57, 58, 59, 60, 61, 62, 70, 71, 72, 73, 74, 75, 76, 88, 89, 90, 91, 92, 93] (by decide +kernel) (by decide +kernel)
set_option maxRecDepth 20000 in
theorem gX5_sendBack_X5_send : GoodIn wsX5_sendBack (wsV RX5 156 RX5 yX5_send wsX5_send) := goodIn_app (goodIn_of _ (by decide +kernel)) ggX5_sendBack_X5_send
theorem dX5_sendBack_0 : decode cX5_sendBack 0 = .ok (.aload_n 0, 1) := by decide +kernel
theorem dX5_sendBack_1 : decode cX5_sendBack 1 = .ok (.iload_n 1, 1) := by decide +kernel
theorem dX5_sendBack_2 : decode cX5_sendBack 2 = .ok (.invokevirtual 127, 3) := by decide +kernel
theorem dX5_sendBack_5 : decode cX5_sendBack 5 = .ok (.astore_n 2, 1) := by decide +kernel
theorem dX5_sendBack_6 : decode cX5_sendBack 6 = .ok (.aload_n 2, 1) := by decide +kernel
theorem dX5_sendBack_7 : decode cX5_sendBack 7 = .ok (.getfield 134, 3) := by decide +kernel
theorem dX5_sendBack_10 : decode cX5_sendBack 10 = .ok (.astore_n 3, 1) := by decide +kernel
theorem dX5_sendBack_11 : decode cX5_sendBack 11 = .ok (.aload_n 2, 1) := by decide +kernel
theorem dX5_sendBack_12 : decode cX5_sendBack 12 = .ok (.getfield 131, 3) := by decide +kernel
theorem dX5_sendBack_15 : decode cX5_sendBack 15 = .ok (.iconst 2, 1) := by decide +kernel
theorem dX5_sendBack_16 : decode cX5_sendBack 16 = .ok (.if_icmp .ne 7, 3) := by decide +kernel
theorem dX5_sendBack_19 : decode cX5_sendBack 19 = .ok (.aload_n 3, 1) := by decide +kernel
theorem dX5_sendBack_20 : decode cX5_sendBack 20 = .ok (.ifnonnull 13, 3) := by decide +kernel
theorem dX5_sendBack_23 : decode cX5_sendBack 23 = .ok (.new 61, 3) := by decide +kernel
theorem dX5_sendBack_26 : decode cX5_sendBack 26 = .ok (.dup, 1) := by decide +kernel
theorem dX5_sendBack_27 : decode cX5_sendBack 27 = .ok (.ldc 141, 2) := by decide +kernel
theorem dX5_sendBack_29 : decode cX5_sendBack 29 = .ok (.invokespecial 65, 3) := by decide +kernel
theorem dX5_sendBack_32 : decode cX5_sendBack 32 = .ok (.athrow, 1) := by decide +kernel
theorem dX5_sendBack_33 : decode cX5_sendBack 33 = .ok (.iconst 0, 1) := by decide +kernel
theorem dX5_sendBack_34 : decode cX5_sendBack 34 = .ok (.aload_n 0, 1) := by decide +kernel
theorem dX5_sendBack_35 : decode cX5_sendBack 35 = .ok (.getfield 44, 3) := by decide +kernel
theorem dX5_sendBack_38 : decode cX5_sendBack 38 = .ok (.aload_n 2, 1) := by decide +kernel
theorem dX5_sendBack_39 : decode cX5_sendBack 39 = .ok (.getfield 143, 3) := by decide +kernel
theorem dX5_sendBack_42 : decode cX5_sendBack 42 = .ok (.isub, 1) := by decide +kernel
theorem dX5_sendBack_43 : decode cX5_sendBack 43 = .ok (.invokestatic 165, 3) := by decide +kernel
theorem dX5_sendBack_46 : decode cX5_sendBack 46 = .ok (.istore 4, 2) := by decide +kernel
theorem dX5_sendBack_48 : decode cX5_sendBack 48 = .ok (.aload_n 0, 1) := by decide +kernel
theorem dX5_sendBack_49 : decode cX5_sendBack 49 = .ok (.getfield 33, 3) := by decide +kernel
theorem dX5_sendBack_52 : decode cX5_sendBack 52 = .ok (.aload_n 2, 1) := by decide +kernel
theorem dX5_sendBack_53 : decode cX5_sendBack 53 = .ok (.getfield 146, 3) := by decide +kernel
theorem dX5_sendBack_56 : decode cX5_sendBack 56 = .ok (.aload_n 3, 1) := by decide +kernel
theorem dX5_sendBack_57 : decode cX5_sendBack 57 = .ok (.getfield 149, 3) := by decide +kernel
theorem dX5_sendBack_60 : decode cX5_sendBack 60 = .ok (.iload 4, 2) := by decide +kernel
theorem dX5_sendBack_62 : decode cX5_sendBack 62 = .ok (.iconst 1, 1) := by decide +kernel
theorem dX5_sendBack_63 : decode cX5_sendBack 63 = .ok (.imul, 1) := by decide +kernel
theorem dX5_sendBack_64 : decode cX5_sendBack 64 = .ok (.invokevirtual 170, 3) := by decide +kernel
theorem dX5_sendBack_67 : decode cX5_sendBack 67 = .ok (.aload_n 2, 1) := by decide +kernel
theorem dX5_sendBack_68 : decode cX5_sendBack 68 = .ok (.iconst 3, 1) := by decide +kernel
theorem dX5_sendBack_69 : decode cX5_sendBack 69 = .ok (.putfield 131, 3) := by decide +kernel
theorem dX5_sendBack_72 : decode cX5_sendBack 72 = .ok (.aload_n 3, 1) := by decide +kernel
theorem dX5_sendBack_73 : decode cX5_sendBack 73 = .ok (.iconst 1, 1) := by decide +kernel
theorem dX5_sendBack_74 : decode cX5_sendBack 74 = .ok (.putfield 98, 3) := by decide +kernel
theorem dX5_sendBack_77 : decode cX5_sendBack 77 = .ok (.aload_n 0, 1) := by decide +kernel
theorem dX5_sendBack_78 : decode cX5_sendBack 78 = .ok (.iconst 4, 1) := by decide +kernel
theorem dX5_sendBack_79 : decode cX5_sendBack 79 = .ok (.aload_n 2, 1) := by decide +kernel
theorem dX5_sendBack_80 : decode cX5_sendBack 80 = .ok (.getfield 146, 3) := by decide +kernel
theorem dX5_sendBack_83 : decode cX5_sendBack 83 = .ok (.aload_n 3, 1) := by decide +kernel
theorem dX5_sendBack_84 : decode cX5_sendBack 84 = .ok (.getfield 149, 3) := by decide +kernel
theorem dX5_sendBack_87 : decode cX5_sendBack 87 = .ok (.invokestatic 152, 3) := by decide +kernel
theorem dX5_sendBack_90 : decode cX5_sendBack 90 = .ok (.aload_n 3, 1) := by decide +kernel
theorem dX5_sendBack_91 : decode cX5_sendBack 91 = .ok (.aload_n 2, 1) := by decide +kernel
theorem dX5_sendBack_92 : decode cX5_sendBack 92 = .ok (.invokevirtual 156, 3) := by decide +kernel
theorem dX5_sendBack_95 : decode cX5_sendBack 95 = .ok (.pop, 1) := by decide +kernel
theorem dX5_sendBack_96 : decode cX5_sendBack 96 = .ok (.iload 4, 2) := by decide +kernel
theorem dX5_sendBack_98 : decode cX5_sendBack 98 = .ok (.ireturn, 1) := by decide +kernel
set_option maxRecDepth 20000 in
theorem ggX5_pass_X5_arrivalsOfNextDay : GoodIn wsX5_pass wsX5_arrivalsOfNextDay := goodIn_r _ [7, 8, 9, 10, 11, 12, 13, 14, 15, 16, 17, 18, 19, 20, 21, 22, 23, 24, 25, 26, 27, 28, 6, 29, 30, 31, 32, 33, 34, 35, 36, 37, 38, 39, 40, 41, 42, 43, 44, 45, 46, 47, 48, 49, 50, 51, 52, 53, 54, 55, 56, 57, 58, 59, 60, 61, 62, 63, 64, 65, 66, 67, 68, 69, 70, 71, 72, 73, 74, 75, 76, 77, 78, 79, 80, 81, 82, 83, 84, 85, 86, 87, 88, 89, 90, 91, 92, 93, 94, 95, 96, 97, 98, 99, 100, 101, 102, 103, 104, 105, 106, 107, 108, 109, 110, 111, 112, 113, 114, 115, 116, 117, 118, 119, 120, 121, 122, 123, 124, 125, 126, 127, 128, 129, 130, 131, 132, 133, 134, 135, 136, 137, 138, 139, 140, 141, 142, 143, 144, 145, 146, 147, 148, 149, 150, 151, 152, 153, 154, 155, 156, 157, 158, 159, 160, 161, 162, 163, 164, 165, 166, 167, 168, 169, 170, 171, 172, 173, 174, 175, 176, 177, 178, 179, 180, 181, 182, 183, 184, 185, 186, 187, 188, 189, 190, 191] (by decide +kernel) (by decide +kernel)
set_option maxRecDepth 20000 in
theorem gX5_pass_X5_arrivalsOfNextDay : GoodIn wsX5_pass (wsV RX5 175 RX5 yX5_arrivalsOfNextDay wsX5_arrivalsOfNextDay) := goodIn_app (goodIn_of _ (by decide +kernel)) ggX5_pass_X5_arrivalsOfNextDay
theorem dX5_pass_0 : decode cX5_pass 0 = .ok (.iload_n 1, 1) := by decide +kernel
theorem dX5_pass_1 : decode cX5_pass 1 = .ok (.iconst 1, 1) := by decide +kernel
theorem dX5_pass_2 : decode cX5_pass 2 = .ok (.if_icmp .lt 9, 3) := by decide +kernel
theorem dX5_pass_5 : decode cX5_pass 5 = .ok (.iload_n 1, 1) := by decide +kernel
theorem dX5_pass_6 : decode cX5_pass 6 = .ok (.bipush 100, 2) := by decide +kernel
theorem dX5_pass_8 : decode cX5_pass 8 = .ok (.if_icmp .le 13, 3) := by decide +kernel
theorem dX5_pass_11 : decode cX5_pass 11 = .ok (.new 54, 3) := by decide +kernel
theorem dX5_pass_14 : decode cX5_pass 14 = .ok (.dup, 1) := by decide +kernel
theorem dX5_pass_15 : decode cX5_pass 15 = .ok (.ldc 173, 2) := by decide +kernel
theorem dX5_pass_17 : decode cX5_pass 17 = .ok (.invokespecial 58, 3) := by decide +kernel
theorem dX5_pass_20 : decode cX5_pass 20 = .ok (.athrow, 1) := by decide +kernel
theorem dX5_pass_21 : decode cX5_pass 21 = .ok (.iconst 0, 1) := by decide +kernel
theorem dX5_pass_22 : decode cX5_pass 22 = .ok (.istore_n 2, 1) := by decide +kernel
theorem dX5_pass_23 : decode cX5_pass 23 = .ok (.iconst 0, 1) := by decide +kernel
theorem dX5_pass_24 : decode cX5_pass 24 = .ok (.istore_n 3, 1) := by decide +kernel
theorem dX5_pass_25 : decode cX5_pass 25 = .ok (.iload_n 3, 1) := by decide +kernel
theorem dX5_pass_26 : decode cX5_pass 26 = .ok (.iload_n 1, 1) := by decide +kernel
theorem dX5_pass_27 : decode cX5_pass 27 = .ok (.if_icmp .ge 16, 3) := by decide +kernel
theorem dX5_pass_30 : decode cX5_pass 30 = .ok (.iload_n 2, 1) := by decide +kernel
theorem dX5_pass_31 : decode cX5_pass 31 = .ok (.aload_n 0, 1) := by decide +kernel
theorem dX5_pass_32 : decode cX5_pass 32 = .ok (.invokevirtual 175, 3) := by decide +kernel
theorem dX5_pass_35 : decode cX5_pass 35 = .ok (.iadd, 1) := by decide +kernel
theorem dX5_pass_36 : decode cX5_pass 36 = .ok (.istore_n 2, 1) := by decide +kernel
theorem dX5_pass_37 : decode cX5_pass 37 = .ok (.iinc 3 1, 3) := by decide +kernel
theorem dX5_pass_40 : decode cX5_pass 40 = .ok (.goto (-15), 3) := by decide +kernel
theorem dX5_pass_43 : decode cX5_pass 43 = .ok (.iload_n 2, 1) := by decide +kernel
theorem dX5_pass_44 : decode cX5_pass 44 = .ok (.ireturn, 1) := by decide +kernel
theorem dX5_today_0 : decode cX5_today 0 = .ok (.aload_n 0, 1) := by decide +kernel
theorem dX5_today_1 : decode cX5_today 1 = .ok (.getfield 44, 3) := by decide +kernel
theorem dX5_today_4 : decode cX5_today 4 = .ok (.ireturn, 1) := by decide +kernel
set_option maxRecDepth 20000 in
theorem ggX5_owes_X5_isHouse : GoodIn wsX5_owes wsX5_isHouse := goodIn_r _ [7] (by decide +kernel) (by decide +kernel)
set_option maxRecDepth 20000 in
theorem gX5_owes_X5_isHouse : GoodIn wsX5_owes (va_wsS RX5 47 yX5_isHouse wsX5_isHouse) := goodIn_app (goodIn_of _ (by decide +kernel)) ggX5_owes_X5_isHouse
set_option maxRecDepth 20000 in
theorem ggX5_owes_X0_balance : GoodIn wsX5_owes wsX0_balance := goodIn_r _ [12, 13, 5, 6, 7, 21, 22, 23] (by decide +kernel) (by decide +kernel)
set_option maxRecDepth 20000 in
theorem gX5_owes_X0_balance : GoodIn wsX5_owes (wsV RX5 181 RX0 yX0_balance wsX0_balance) := goodIn_app (goodIn_of _ (by decide +kernel)) ggX5_owes_X0_balance
theorem dX5_owes_0 : decode cX5_owes 0 = .ok (.iload_n 1, 1) := by decide +kernel
theorem dX5_owes_1 : decode cX5_owes 1 = .ok (.invokestatic 47, 3) := by decide +kernel
theorem dX5_owes_4 : decode cX5_owes 4 = .ok (.ifCond .eq 10, 3) := by decide +kernel
theorem dX5_owes_7 : decode cX5_owes 7 = .ok (.iload_n 2, 1) := by decide +kernel
theorem dX5_owes_8 : decode cX5_owes 8 = .ok (.invokestatic 47, 3) := by decide +kernel
theorem dX5_owes_11 : decode cX5_owes 11 = .ok (.ifCond .ne 13, 3) := by decide +kernel
theorem dX5_owes_14 : decode cX5_owes 14 = .ok (.new 54, 3) := by decide +kernel
theorem dX5_owes_17 : decode cX5_owes 17 = .ok (.dup, 1) := by decide +kernel
theorem dX5_owes_18 : decode cX5_owes 18 = .ok (.ldc 179, 2) := by decide +kernel
theorem dX5_owes_20 : decode cX5_owes 20 = .ok (.invokespecial 58, 3) := by decide +kernel
theorem dX5_owes_23 : decode cX5_owes 23 = .ok (.athrow, 1) := by decide +kernel
theorem dX5_owes_24 : decode cX5_owes 24 = .ok (.aload_n 0, 1) := by decide +kernel
theorem dX5_owes_25 : decode cX5_owes 25 = .ok (.getfield 33, 3) := by decide +kernel
theorem dX5_owes_28 : decode cX5_owes 28 = .ok (.iload_n 1, 1) := by decide +kernel
theorem dX5_owes_29 : decode cX5_owes 29 = .ok (.iload_n 2, 1) := by decide +kernel
theorem dX5_owes_30 : decode cX5_owes 30 = .ok (.invokevirtual 181, 3) := by decide +kernel
theorem dX5_owes_33 : decode cX5_owes 33 = .ok (.ireturn, 1) := by decide +kernel
set_option maxRecDepth 20000 in
theorem ggX5_settle_X0_clearDebts : GoodIn wsX5_settle wsX0_clearDebts := goodIn_r _ [6, 7, 8, 9, 10, 5, 11, 12, 13, 14, 22, 23, 24] (by decide +kernel) (by decide +kernel)
set_option maxRecDepth 20000 in
theorem gX5_settle_X0_clearDebts : GoodIn wsX5_settle (wsV RX5 184 RX0 yX0_clearDebts wsX0_clearDebts) := goodIn_app (goodIn_of _ (by decide +kernel)) ggX5_settle_X0_clearDebts
theorem dX5_settle_0 : decode cX5_settle 0 = .ok (.aload_n 0, 1) := by decide +kernel
theorem dX5_settle_1 : decode cX5_settle 1 = .ok (.getfield 33, 3) := by decide +kernel
theorem dX5_settle_4 : decode cX5_settle 4 = .ok (.invokevirtual 184, 3) := by decide +kernel
theorem dX5_settle_7 : decode cX5_settle 7 = .ok (.ireturn, 1) := by decide +kernel
set_option maxRecDepth 20000 in
theorem ggX5_quota_X5_isHouse : GoodIn wsX5_quota wsX5_isHouse := goodIn_r _ [7] (by decide +kernel) (by decide +kernel)
set_option maxRecDepth 20000 in
theorem gX5_quota_X5_isHouse : GoodIn wsX5_quota (va_wsS RX5 47 yX5_isHouse wsX5_isHouse) := goodIn_app (goodIn_of _ (by decide +kernel)) ggX5_quota_X5_isHouse
set_option maxRecDepth 20000 in
theorem ggX5_quota_X0_freeLoansOf : GoodIn wsX5_quota wsX0_freeLoansOf := goodIn_r _ [12, 13, 5, 6, 7, 21, 22, 23] (by decide +kernel) (by decide +kernel)
set_option maxRecDepth 20000 in
theorem gX5_quota_X0_freeLoansOf : GoodIn wsX5_quota (wsV RX5 189 RX0 yX0_freeLoansOf wsX0_freeLoansOf) := goodIn_app (goodIn_of _ (by decide +kernel)) ggX5_quota_X0_freeLoansOf
theorem dX5_quota_0 : decode cX5_quota 0 = .ok (.iload_n 1, 1) := by decide +kernel
theorem dX5_quota_1 : decode cX5_quota 1 = .ok (.invokestatic 47, 3) := by decide +kernel
theorem dX5_quota_4 : decode cX5_quota 4 = .ok (.ifCond .ne 13, 3) := by decide +kernel
theorem dX5_quota_7 : decode cX5_quota 7 = .ok (.new 54, 3) := by decide +kernel
theorem dX5_quota_10 : decode cX5_quota 10 = .ok (.dup, 1) := by decide +kernel
theorem dX5_quota_11 : decode cX5_quota 11 = .ok (.ldc 187, 2) := by decide +kernel
theorem dX5_quota_13 : decode cX5_quota 13 = .ok (.invokespecial 58, 3) := by decide +kernel
theorem dX5_quota_16 : decode cX5_quota 16 = .ok (.athrow, 1) := by decide +kernel
theorem dX5_quota_17 : decode cX5_quota 17 = .ok (.aload_n 0, 1) := by decide +kernel
theorem dX5_quota_18 : decode cX5_quota 18 = .ok (.getfield 33, 3) := by decide +kernel
theorem dX5_quota_21 : decode cX5_quota 21 = .ok (.iload_n 1, 1) := by decide +kernel
theorem dX5_quota_22 : decode cX5_quota 22 = .ok (.invokevirtual 189, 3) := by decide +kernel
theorem dX5_quota_25 : decode cX5_quota 25 = .ok (.ireturn, 1) := by decide +kernel
theorem dX5_isHouse_0 : decode cX5_isHouse 0 = .ok (.iload_n 0, 1) := by decide +kernel
theorem dX5_isHouse_1 : decode cX5_isHouse 1 = .ok (.ifCond .lt 13, 3) := by decide +kernel
theorem dX5_isHouse_4 : decode cX5_isHouse 4 = .ok (.iload_n 0, 1) := by decide +kernel
theorem dX5_isHouse_5 : decode cX5_isHouse 5 = .ok (.bipush 6, 2) := by decide +kernel
theorem dX5_isHouse_7 : decode cX5_isHouse 7 = .ok (.if_icmp .ge 7, 3) := by decide +kernel
theorem dX5_isHouse_10 : decode cX5_isHouse 10 = .ok (.iconst 1, 1) := by decide +kernel
theorem dX5_isHouse_11 : decode cX5_isHouse 11 = .ok (.goto 4, 3) := by decide +kernel
theorem dX5_isHouse_14 : decode cX5_isHouse 14 = .ok (.iconst 0, 1) := by decide +kernel
theorem dX5_isHouse_15 : decode cX5_isHouse 15 = .ok (.ireturn, 1) := by decide +kernel
theorem dX5_isTitle_0 : decode cX5_isTitle 0 = .ok (.iload_n 0, 1) := by decide +kernel
theorem dX5_isTitle_1 : decode cX5_isTitle 1 = .ok (.ifCond .lt 13, 3) := by decide +kernel
theorem dX5_isTitle_4 : decode cX5_isTitle 4 = .ok (.iload_n 0, 1) := by decide +kernel
theorem dX5_isTitle_5 : decode cX5_isTitle 5 = .ok (.bipush 8, 2) := by decide +kernel
theorem dX5_isTitle_7 : decode cX5_isTitle 7 = .ok (.if_icmp .ge 7, 3) := by decide +kernel
theorem dX5_isTitle_10 : decode cX5_isTitle 10 = .ok (.iconst 1, 1) := by decide +kernel
theorem dX5_isTitle_11 : decode cX5_isTitle 11 = .ok (.goto 4, 3) := by decide +kernel
theorem dX5_isTitle_14 : decode cX5_isTitle 14 = .ok (.iconst 0, 1) := by decide +kernel
theorem dX5_isTitle_15 : decode cX5_isTitle 15 = .ok (.ireturn, 1) := by decide +kernel
theorem dX5_copyNumbered_0 : decode cX5_copyNumbered 0 = .ok (.iload_n 1, 1) := by decide +kernel
theorem dX5_copyNumbered_1 : decode cX5_copyNumbered 1 = .ok (.ifCond .lt 21, 3) := by decide +kernel
theorem dX5_copyNumbered_4 : decode cX5_copyNumbered 4 = .ok (.iload_n 1, 1) := by decide +kernel
theorem dX5_copyNumbered_5 : decode cX5_copyNumbered 5 = .ok (.aload_n 0, 1) := by decide +kernel
theorem dX5_copyNumbered_6 : decode cX5_copyNumbered 6 = .ok (.getfield 11, 3) := by decide +kernel
theorem dX5_copyNumbered_9 : decode cX5_copyNumbered 9 = .ok (.arraylength, 1) := by decide +kernel
theorem dX5_copyNumbered_10 : decode cX5_copyNumbered 10 = .ok (.if_icmp .ge 12, 3) := by decide +kernel
theorem dX5_copyNumbered_13 : decode cX5_copyNumbered 13 = .ok (.aload_n 0, 1) := by decide +kernel
theorem dX5_copyNumbered_14 : decode cX5_copyNumbered 14 = .ok (.getfield 11, 3) := by decide +kernel
theorem dX5_copyNumbered_17 : decode cX5_copyNumbered 17 = .ok (.iload_n 1, 1) := by decide +kernel
theorem dX5_copyNumbered_18 : decode cX5_copyNumbered 18 = .ok (.aaload, 1) := by decide +kernel
theorem dX5_copyNumbered_19 : decode cX5_copyNumbered 19 = .ok (.goto 4, 3) := by decide +kernel
theorem dX5_copyNumbered_22 : decode cX5_copyNumbered 22 = .ok (.aconst_null, 1) := by decide +kernel
theorem dX5_copyNumbered_23 : decode cX5_copyNumbered 23 = .ok (.astore_n 2, 1) := by decide +kernel
theorem dX5_copyNumbered_24 : decode cX5_copyNumbered 24 = .ok (.aload_n 2, 1) := by decide +kernel
theorem dX5_copyNumbered_25 : decode cX5_copyNumbered 25 = .ok (.ifnonnull 13, 3) := by decide +kernel
theorem dX5_copyNumbered_28 : decode cX5_copyNumbered 28 = .ok (.new 193, 3) := by decide +kernel
theorem dX5_copyNumbered_31 : decode cX5_copyNumbered 31 = .ok (.dup, 1) := by decide +kernel
theorem dX5_copyNumbered_32 : decode cX5_copyNumbered 32 = .ok (.ldc 195, 2) := by decide +kernel
theorem dX5_copyNumbered_34 : decode cX5_copyNumbered 34 = .ok (.invokespecial 197, 3) := by decide +kernel
theorem dX5_copyNumbered_37 : decode cX5_copyNumbered 37 = .ok (.athrow, 1) := by decide +kernel
theorem dX5_copyNumbered_38 : decode cX5_copyNumbered 38 = .ok (.aload_n 2, 1) := by decide +kernel
theorem dX5_copyNumbered_39 : decode cX5_copyNumbered 39 = .ok (.areturn, 1) := by decide +kernel
theorem dX5_requestNumbered_0 : decode cX5_requestNumbered 0 = .ok (.iload_n 1, 1) := by decide +kernel
theorem dX5_requestNumbered_1 : decode cX5_requestNumbered 1 = .ok (.ifCond .lt 21, 3) := by decide +kernel
theorem dX5_requestNumbered_4 : decode cX5_requestNumbered 4 = .ok (.iload_n 1, 1) := by decide +kernel
theorem dX5_requestNumbered_5 : decode cX5_requestNumbered 5 = .ok (.aload_n 0, 1) := by decide +kernel
theorem dX5_requestNumbered_6 : decode cX5_requestNumbered 6 = .ok (.getfield 17, 3) := by decide +kernel
theorem dX5_requestNumbered_9 : decode cX5_requestNumbered 9 = .ok (.arraylength, 1) := by decide +kernel
theorem dX5_requestNumbered_10 : decode cX5_requestNumbered 10 = .ok (.if_icmp .ge 12, 3) := by decide +kernel
theorem dX5_requestNumbered_13 : decode cX5_requestNumbered 13 = .ok (.aload_n 0, 1) := by decide +kernel
theorem dX5_requestNumbered_14 : decode cX5_requestNumbered 14 = .ok (.getfield 17, 3) := by decide +kernel
theorem dX5_requestNumbered_17 : decode cX5_requestNumbered 17 = .ok (.iload_n 1, 1) := by decide +kernel
theorem dX5_requestNumbered_18 : decode cX5_requestNumbered 18 = .ok (.aaload, 1) := by decide +kernel
theorem dX5_requestNumbered_19 : decode cX5_requestNumbered 19 = .ok (.goto 4, 3) := by decide +kernel
theorem dX5_requestNumbered_22 : decode cX5_requestNumbered 22 = .ok (.aconst_null, 1) := by decide +kernel
theorem dX5_requestNumbered_23 : decode cX5_requestNumbered 23 = .ok (.astore_n 2, 1) := by decide +kernel
theorem dX5_requestNumbered_24 : decode cX5_requestNumbered 24 = .ok (.aload_n 2, 1) := by decide +kernel
theorem dX5_requestNumbered_25 : decode cX5_requestNumbered 25 = .ok (.ifnonnull 13, 3) := by decide +kernel
theorem dX5_requestNumbered_28 : decode cX5_requestNumbered 28 = .ok (.new 193, 3) := by decide +kernel
theorem dX5_requestNumbered_31 : decode cX5_requestNumbered 31 = .ok (.dup, 1) := by decide +kernel
theorem dX5_requestNumbered_32 : decode cX5_requestNumbered 32 = .ok (.ldc 198, 2) := by decide +kernel
theorem dX5_requestNumbered_34 : decode cX5_requestNumbered 34 = .ok (.invokespecial 197, 3) := by decide +kernel
theorem dX5_requestNumbered_37 : decode cX5_requestNumbered 37 = .ok (.athrow, 1) := by decide +kernel
theorem dX5_requestNumbered_38 : decode cX5_requestNumbered 38 = .ok (.aload_n 2, 1) := by decide +kernel
theorem dX5_requestNumbered_39 : decode cX5_requestNumbered 39 = .ok (.areturn, 1) := by decide +kernel
theorem dX5_way_0 : decode cX5_way 0 = .ok (.iload_n 0, 1) := by decide +kernel
theorem dX5_way_1 : decode cX5_way 1 = .ok (.iload_n 1, 1) := by decide +kernel
theorem dX5_way_2 : decode cX5_way 2 = .ok (.isub, 1) := by decide +kernel
theorem dX5_way_3 : decode cX5_way 3 = .ok (.invokestatic 200, 3) := by decide +kernel
theorem dX5_way_6 : decode cX5_way 6 = .ok (.iconst 1, 1) := by decide +kernel
theorem dX5_way_7 : decode cX5_way 7 = .ok (.iadd, 1) := by decide +kernel
theorem dX5_way_8 : decode cX5_way 8 = .ok (.ireturn, 1) := by decide +kernel
theorem dX5_wayToList_0 : decode cX5_wayToList 0 = .ok (.iload_n 0, 1) := by decide +kernel
theorem dX5_wayToList_1 : decode cX5_wayToList 1 = .ok (.iconst 1, 1) := by decide +kernel
theorem dX5_wayToList_2 : decode cX5_wayToList 2 = .ok (.iadd, 1) := by decide +kernel
theorem dX5_wayToList_3 : decode cX5_wayToList 3 = .ok (.ireturn, 1) := by decide +kernel
