theorem dX5_mend_14 : decode cX5_mend 14 = .ok (.getfield 111, 3) := by decide +kernel
theorem dX5_mend_17 : decode cX5_mend 17 = .ok (.ifCond .ne 13, 3) := by decide +kernel
theorem dX5_mend_20 : decode cX5_mend 20 = .ok (.new 61, 3) := by decide +kernel
theorem dX5_mend_23 : decode cX5_mend 23 = .ok (.dup, 1) := by decide +kernel
theorem dX5_mend_24 : decode cX5_mend 24 = .ok (.ldc 114, 2) := by decide +kernel
theorem dX5_mend_26 : decode cX5_mend 26 = .ok (.invokespecial 65, 3) := by decide +kernel
theorem dX5_mend_29 : decode cX5_mend 29 = .ok (.athrow, 1) := by decide +kernel
theorem dX5_mend_30 : decode cX5_mend 30 = .ok (.aload_n 2, 1) := by decide +kernel
theorem dX5_mend_31 : decode cX5_mend 31 = .ok (.iconst (-1), 1) := by decide +kernel
theorem dX5_mend_32 : decode cX5_mend 32 = .ok (.putfield 95, 3) := by decide +kernel
theorem dX5_mend_35 : decode cX5_mend 35 = .ok (.aload_n 2, 1) := by decide +kernel
theorem dX5_mend_36 : decode cX5_mend 36 = .ok (.iconst 0, 1) := by decide +kernel
theorem dX5_mend_37 : decode cX5_mend 37 = .ok (.putfield 111, 3) := by decide +kernel
theorem dX5_mend_40 : decode cX5_mend 40 = .ok (.aload_n 0, 1) := by decide +kernel
theorem dX5_mend_41 : decode cX5_mend 41 = .ok (.iconst 0, 1) := by decide +kernel
theorem dX5_mend_42 : decode cX5_mend 42 = .ok (.aload_n 2, 1) := by decide +kernel
theorem dX5_mend_43 : decode cX5_mend 43 = .ok (.invokevirtual 72, 3) := by decide +kernel
theorem dX5_mend_46 : decode cX5_mend 46 = .ok (.return_, 1) := by decide +kernel
set_option maxRecDepth 20000 in
theorem ggX5_request_X5_isHouse : GoodIn wsX5_request wsX5_isHouse := goodIn_r _ [13] (by decide +kernel) (by decide +kernel)
set_option maxRecDepth 20000 in
theorem gX5_request_X5_isHouse : GoodIn wsX5_request (va_wsS RX5 47 yX5_isHouse wsX5_isHouse) := goodIn_app (goodIn_of _ (by decide +kernel)) ggX5_request_X5_isHouse
set_option maxRecDepth 20000 in
theorem ggX5_request_X5_isTitle : GoodIn wsX5_request wsX5_isTitle := goodIn_r _ [16] (by decide +kernel) (by decide +kernel)
set_option maxRecDepth 20000 in
theorem gX5_request_X5_isTitle : GoodIn wsX5_request (va_wsS RX5 51 yX5_isTitle wsX5_isTitle) := goodIn_app (goodIn_of _ (by decide +kernel)) ggX5_request_X5_isTitle
set_option maxRecDepth 20000 in
theorem ggX5_request_X3_init : GoodIn wsX5_request wsX3_init := goodIn_r _ [19, 20, 21, 22, 23, 24, 25, 26, 27, 28, 29, 93, 94, 95, 96, 97, 98, 99] (by decide +kernel) (by decide +kernel)
set_option maxRecDepth 20000 in
theorem gX5_request_X3_init : GoodIn wsX5_request (wsX3_init) := ggX5_request_X3_init
set_option maxRecDepth 20000 in
theorem ggX5_request_X5_askNextHome : GoodIn wsX5_request wsX5_askNextHome := goodIn_r _ [33, 34, 35, 36, 37, 38, 39, 40, 12, 41, 42, 43, 44, 45, 9, 46, 29, 47, 48, 24, 49, 23, 50, 51, 52, 53, 54, 55, 56, 57, 58, 59, 60, 61, 62, 63, 64, 65, 66, 67, 68, 69, 70, 71, 72, 73, 21, 22, 74, 75, 76, 77, 78, 79, 80, 81, 82, 83, 84, 85, 93, 94, 95, 96, 97, 98, 99, 100, 101, 102, 103, 104, 105, 106, 107, 86, 87, 88, 89, 90, 91, 92, 108, 109, 110, 111, 112, 113] (by decide +kernel) (by decide +kernel)
set_option maxRecDepth 20000 in
theorem gX5_request_X5_askNextHome : GoodIn wsX5_request (wsV RX5 123 RX5 yX5_askNextHome wsX5_askNextHome) := goodIn_app (goodIn_of _ (by decide +kernel)) ggX5_request_X5_askNextHome
theorem dX5_request_0 : decode cX5_request 0 = .ok (.iload_n 1, 1) := by decide +kernel
theorem dX5_request_1 : decode cX5_request 1 = .ok (.invokestatic 47, 3) := by decide +kernel
theorem dX5_request_4 : decode cX5_request 4 = .ok (.ifCond .eq 10, 3) := by decide +kernel
theorem dX5_request_7 : decode cX5_request 7 = .ok (.iload_n 2, 1) := by decide +kernel
theorem dX5_request_8 : decode cX5_request 8 = .ok (.invokestatic 51, 3) := by decide +kernel
theorem dX5_request_11 : decode cX5_request 11 = .ok (.ifCond .ne 13, 3) := by decide +kernel
theorem dX5_request_14 : decode cX5_request 14 = .ok (.new 54, 3) := by decide +kernel
theorem dX5_request_17 : decode cX5_request 17 = .ok (.dup, 1) := by decide +kernel
theorem dX5_request_18 : decode cX5_request 18 = .ok (.ldc 116, 2) := by decide +kernel
theorem dX5_request_20 : decode cX5_request 20 = .ok (.invokespecial 58, 3) := by decide +kernel
theorem dX5_request_23 : decode cX5_request 23 = .ok (.athrow, 1) := by decide +kernel
theorem dX5_request_24 : decode cX5_request 24 = .ok (.aload_n 0, 1) := by decide +kernel
theorem dX5_request_25 : decode cX5_request 25 = .ok (.getfield 41, 3) := by decide +kernel
theorem dX5_request_28 : decode cX5_request 28 = .ok (.istore_n 3, 1) := by decide +kernel
theorem dX5_request_29 : decode cX5_request 29 = .ok (.iload_n 3, 1) := by decide +kernel
theorem dX5_request_30 : decode cX5_request 30 = .ok (.ifCond .lt 12, 3) := by decide +kernel
theorem dX5_request_33 : decode cX5_request 33 = .ok (.iload_n 3, 1) := by decide +kernel
theorem dX5_request_34 : decode cX5_request 34 = .ok (.aload_n 0, 1) := by decide +kernel
theorem dX5_request_35 : decode cX5_request 35 = .ok (.getfield 17, 3) := by decide +kernel
theorem dX5_request_38 : decode cX5_request 38 = .ok (.arraylength, 1) := by decide +kernel
theorem dX5_request_39 : decode cX5_request 39 = .ok (.if_icmp .lt 13, 3) := by decide +kernel
theorem dX5_request_42 : decode cX5_request 42 = .ok (.new 61, 3) := by decide +kernel
theorem dX5_request_45 : decode cX5_request 45 = .ok (.dup, 1) := by decide +kernel
theorem dX5_request_46 : decode cX5_request 46 = .ok (.ldc 118, 2) := by decide +kernel
theorem dX5_request_48 : decode cX5_request 48 = .ok (.invokespecial 65, 3) := by decide +kernel
theorem dX5_request_51 : decode cX5_request 51 = .ok (.athrow, 1) := by decide +kernel
theorem dX5_request_52 : decode cX5_request 52 = .ok (.new 15, 3) := by decide +kernel
theorem dX5_request_55 : decode cX5_request 55 = .ok (.dup, 1) := by decide +kernel
theorem dX5_request_56 : decode cX5_request 56 = .ok (.iload_n 1, 1) := by decide +kernel
theorem dX5_request_57 : decode cX5_request 57 = .ok (.iload_n 2, 1) := by decide +kernel
theorem dX5_request_58 : decode cX5_request 58 = .ok (.invokespecial 120, 3) := by decide +kernel
theorem dX5_request_61 : decode cX5_request 61 = .ok (.astore 4, 2) := by decide +kernel
theorem dX5_request_63 : decode cX5_request 63 = .ok (.aload_n 0, 1) := by decide +kernel
theorem dX5_request_64 : decode cX5_request 64 = .ok (.getfield 17, 3) := by decide +kernel
theorem dX5_request_67 : decode cX5_request 67 = .ok (.iload_n 3, 1) := by decide +kernel
theorem dX5_request_68 : decode cX5_request 68 = .ok (.aload 4, 2) := by decide +kernel
theorem dX5_request_70 : decode cX5_request 70 = .ok (.aastore, 1) := by decide +kernel
theorem dX5_request_71 : decode cX5_request 71 = .ok (.aload_n 0, 1) := by decide +kernel
theorem dX5_request_72 : decode cX5_request 72 = .ok (.iload_n 3, 1) := by decide +kernel
theorem dX5_request_73 : decode cX5_request 73 = .ok (.iconst 1, 1) := by decide +kernel
theorem dX5_request_74 : decode cX5_request 74 = .ok (.iadd, 1) := by decide +kernel
theorem dX5_request_75 : decode cX5_request 75 = .ok (.putfield 41, 3) := by decide +kernel
theorem dX5_request_78 : decode cX5_request 78 = .ok (.aload_n 0, 1) := by decide +kernel
theorem dX5_request_79 : decode cX5_request 79 = .ok (.aload 4, 2) := by decide +kernel
theorem dX5_request_81 : decode cX5_request 81 = .ok (.invokevirtual 123, 3) := by decide +kernel
theorem dX5_request_84 : decode cX5_request 84 = .ok (.iload_n 3, 1) := by decide +kernel
theorem dX5_request_85 : decode cX5_request 85 = .ok (.ireturn, 1) := by decide +kernel
set_option maxRecDepth 20000 in
theorem ggX5_state_X5_requestNumbered : GoodIn wsX5_state wsX5_requestNumbered := goodIn_ca (goodIn_r _ [6, 7, 8, 9, 17, 18, 19, 20, 21, 22, 23] (by decide +kernel) (by decide +kernel)) (goodIn_sub (fun _ h => List.mem_cons_of_mem _ (List.mem_append_right _ h)) (by decide +kernel))
set_option maxRecDepth 20000 in
theorem gX5_state_X5_requestNumbered : GoodIn wsX5_state (wsV RX5 127 RX5 yX5_requestNumbered wsX5_requestNumbered) := goodIn_app (goodIn_of _ (by decide +kernel)) ggX5_state_X5_requestNumbered
theorem dX5_state_0 : decode cX5_state 0 = .ok (.aload_n 0, 1) := by decide +kernel
theorem dX5_state_1 : decode cX5_state 1 = .ok (.iload_n 1, 1) := by decide +kernel
theorem dX5_state_2 : decode cX5_state 2 = .ok (.invokevirtual 127, 3) := by decide +kernel
theorem dX5_state_5 : decode cX5_state 5 = .ok (.getfield 131, 3) := by decide +kernel
theorem dX5_state_8 : decode cX5_state 8 = .ok (.ireturn, 1) := by decide +kernel
set_option maxRecDepth 20000 in
theorem ggX5_copyOf_X5_requestNumbered : GoodIn wsX5_copyOf wsX5_requestNumbered := goodIn_ca (goodIn_r _ [7, 8, 9, 10, 26, 27, 28, 29, 30, 31, 32] (by decide +kernel) (by decide +kernel)) (goodIn_sub (fun _ h => List.mem_cons_of_mem _ (List.mem_append_right _ h)) (by decide +kernel))
set_option maxRecDepth 20000 in
theorem gX5_copyOf_X5_requestNumbered : GoodIn wsX5_copyOf (wsV RX5 127 RX5 yX5_requestNumbered wsX5_requestNumbered) := goodIn_app (goodIn_of _ (by decide +kernel)) ggX5_copyOf_X5_requestNumbered
theorem dX5_copyOf_0 : decode cX5_copyOf 0 = .ok (.aload_n 0, 1) := by decide +kernel
theorem dX5_copyOf_1 : decode cX5_copyOf 1 = .ok (.iload_n 1, 1) := by decide +kernel
theorem dX5_copyOf_2 : decode cX5_copyOf 2 = .ok (.invokevirtual 127, 3) := by decide +kernel
theorem dX5_copyOf_5 : decode cX5_copyOf 5 = .ok (.getfield 134, 3) := by decide +kernel
theorem dX5_copyOf_8 : decode cX5_copyOf 8 = .ok (.astore_n 2, 1) := by decide +kernel
theorem dX5_copyOf_9 : decode cX5_copyOf 9 = .ok (.aload_n 2, 1) := by decide +kernel
theorem dX5_copyOf_10 : decode cX5_copyOf 10 = .ok (.ifnonnull 7, 3) := by decide +kernel
theorem dX5_copyOf_13 : decode cX5_copyOf 13 = .ok (.iconst (-1), 1) := by decide +kernel
theorem dX5_copyOf_14 : decode cX5_copyOf 14 = .ok (.goto 7, 3) := by decide +kernel
theorem dX5_copyOf_17 : decode cX5_copyOf 17 = .ok (.aload_n 2, 1) := by decide +kernel
theorem dX5_copyOf_18 : decode cX5_copyOf 18 = .ok (.getfield 138, 3) := by decide +kernel
theorem dX5_copyOf_21 : decode cX5_copyOf 21 = .ok (.ireturn, 1) := by decide +kernel
set_option maxRecDepth 20000 in
theorem ggX5_due_X5_requestNumbered : GoodIn wsX5_due wsX5_requestNumbered := goodIn_ca (goodIn_r _ [9, 10, 11, 12, 20, 21, 22, 23, 24, 25, 26] (by decide +kernel) (by decide +kernel)) (goodIn_sub (fun _ h => List.mem_cons_of_mem _ (List.mem_append_right _ h)) (by decide +kernel))
set_option maxRecDepth 20000 in
theorem gX5_due_X5_requestNumbered : GoodIn wsX5_due (wsV RX5 127 RX5 yX5_requestNumbered wsX5_requestNumbered) := goodIn_app (goodIn_of _ (by decide +kernel)) ggX5_due_X5_requestNumbered
theorem dX5_due_0 : decode cX5_due 0 = .ok (.aload_n 0, 1) := by decide +kernel
theorem dX5_due_1 : decode cX5_due 1 = .ok (.iload_n 1, 1) := by decide +kernel
theorem dX5_due_2 : decode cX5_due 2 = .ok (.invokevirtual 127, 3) := by decide +kernel
theorem dX5_due_5 : decode cX5_due 5 = .ok (.astore_n 2, 1) := by decide +kernel
theorem dX5_due_6 : decode cX5_due 6 = .ok (.aload_n 2, 1) := by decide +kernel
theorem dX5_due_7 : decode cX5_due 7 = .ok (.getfield 131, 3) := by decide +kernel
theorem dX5_due_10 : decode cX5_due 10 = .ok (.iconst 2, 1) := by decide +kernel
theorem dX5_due_11 : decode cX5_due 11 = .ok (.if_icmp .eq 13, 3) := by decide +kernel
theorem dX5_due_14 : decode cX5_due 14 = .ok (.new 61, 3) := by decide +kernel
theorem dX5_due_17 : decode cX5_due 17 = .ok (.dup, 1) := by decide +kernel
theorem dX5_due_18 : decode cX5_due 18 = .ok (.ldc 141, 2) := by decide +kernel
theorem dX5_due_20 : decode cX5_due 20 = .ok (.invokespecial 65, 3) := by decide +kernel
theorem dX5_due_23 : decode cX5_due 23 = .ok (.athrow, 1) := by decide +kernel
theorem dX5_due_24 : decode cX5_due 24 = .ok (.aload_n 2, 1) := by decide +kernel
theorem dX5_due_25 : decode cX5_due 25 = .ok (.getfield 143, 3) := by decide +kernel
theorem dX5_due_28 : decode cX5_due 28 = .ok (.ireturn, 1) := by decide +kernel
set_option maxRecDepth 20000 in
theorem ggX5_renew_X5_requestNumbered : GoodIn wsX5_renew wsX5_requestNumbered := goodIn_ca (goodIn_r _ [11, 12, 13, 14, 64, 65, 66, 67, 68, 69, 70] (by decide +kernel) (by decide +kernel)) (goodIn_sub (fun _ h => List.mem_cons_of_mem _ (List.mem_append_right _ h)) (by decide +kernel))
set_option maxRecDepth 20000 in
theorem gX5_renew_X5_requestNumbered : GoodIn wsX5_renew (wsV RX5 127 RX5 yX5_requestNumbered wsX5_requestNumbered) := goodIn_app (goodIn_of _ (by decide +kernel)) ggX5_renew_X5_requestNumbered
set_option maxRecDepth 20000 in
theorem ggX5_renew_X5_way : GoodIn wsX5_renew wsX5_way := goodIn_r _ [17, 18, 19, 20, 21] (by decide +kernel) (by decide +kernel)
set_option maxRecDepth 20000 in
theorem gX5_renew_X5_way : GoodIn wsX5_renew (va_wsS RX5 152 yX5_way wsX5_way) := goodIn_app (goodIn_of _ (by decide +kernel)) ggX5_renew_X5_way
set_option maxRecDepth 20000 in
theorem ggX5_renew_X5_send : GoodIn wsX5_renew wsX5_send := goodIn_r _ [25, 26, 27, 28, 29, 30, 31, 32, 33, 34, 35, 36, 37, 38, 39, 40, 41, 42, 43, 44, 45, 46, 47, 48, 64, 65, 66, 67, 68, 69, 70, 71, 72, 73, 74, 75, 76] (by decide +kernel) (by decide +kernel)
set_option maxRecDepth 20000 in
theorem gX5_renew_X5_send : GoodIn wsX5_renew (wsV RX5 156 RX5 yX5_send wsX5_send) := goodIn_app (goodIn_of _ (by decide +kernel)) ggX5_renew_X5_send
theorem dX5_renew_0 : decode cX5_renew 0 = .ok (.aload_n 0, 1) := by decide +kernel
theorem dX5_renew_1 : decode cX5_renew 1 = .ok (.iload_n 1, 1) := by decide +kernel
theorem dX5_renew_2 : decode cX5_renew 2 = .ok (.invokevirtual 127, 3) := by decide +kernel
theorem dX5_renew_5 : decode cX5_renew 5 = .ok (.astore_n 2, 1) := by decide +kernel
theorem dX5_renew_6 : decode cX5_renew 6 = .ok (.aload_n 2, 1) := by decide +kernel
theorem dX5_renew_7 : decode cX5_renew 7 = .ok (.getfield 134, 3) := by decide +kernel
theorem dX5_renew_10 : decode cX5_renew 10 = .ok (.astore_n 3, 1) := by decide +kernel
theorem dX5_renew_11 : decode cX5_renew 11 = .ok (.aload_n 2, 1) := by decide +kernel
theorem dX5_renew_12 : decode cX5_renew 12 = .ok (.getfield 131, 3) := by decide +kernel
theorem dX5_renew_15 : decode cX5_renew 15 = .ok (.iconst 2, 1) := by decide +kernel
theorem dX5_renew_16 : decode cX5_renew 16 = .ok (.if_icmp .ne 7, 3) := by decide +kernel
theorem dX5_renew_19 : decode cX5_renew 19 = .ok (.aload_n 3, 1) := by decide +kernel
theorem dX5_renew_20 : decode cX5_renew 20 = .ok (.ifnonnull 13, 3) := by decide +kernel
theorem dX5_renew_23 : decode cX5_renew 23 = .ok (.new 61, 3) := by decide +kernel
theorem dX5_renew_26 : decode cX5_renew 26 = .ok (.dup, 1) := by decide +kernel
theorem dX5_renew_27 : decode cX5_renew 27 = .ok (.ldc 141, 2) := by decide +kernel
theorem dX5_renew_29 : decode cX5_renew 29 = .ok (.invokespecial 65, 3) := by decide +kernel
theorem dX5_renew_32 : decode cX5_renew 32 = .ok (.athrow, 1) := by decide +kernel
theorem dX5_renew_33 : decode cX5_renew 33 = .ok (.aload_n 0, 1) := by decide +kernel
theorem dX5_renew_34 : decode cX5_renew 34 = .ok (.iconst 5, 1) := by decide +kernel
theorem dX5_renew_35 : decode cX5_renew 35 = .ok (.aload_n 2, 1) := by decide +kernel
theorem dX5_renew_36 : decode cX5_renew 36 = .ok (.getfield 146, 3) := by decide +kernel
theorem dX5_renew_39 : decode cX5_renew 39 = .ok (.aload_n 3, 1) := by decide +kernel
theorem dX5_renew_40 : decode cX5_renew 40 = .ok (.getfield 149, 3) := by decide +kernel
theorem dX5_renew_43 : decode cX5_renew 43 = .ok (.invokestatic 152, 3) := by decide +kernel
theorem dX5_renew_46 : decode cX5_renew 46 = .ok (.aload_n 3, 1) := by decide +kernel
theorem dX5_renew_47 : decode cX5_renew 47 = .ok (.aload_n 2, 1) := by decide +kernel
theorem dX5_renew_48 : decode cX5_renew 48 = .ok (.invokevirtual 156, 3) := by decide +kernel
theorem dX5_renew_51 : decode cX5_renew 51 = .ok (.ireturn, 1) := by decide +kernel
set_option maxRecDepth 20000 in
theorem ggX5_recall_X5_requestNumbered : GoodIn wsX5_recall wsX5_requestNumbered := goodIn_ca (goodIn_r _ [12, 13, 14, 15, 65, 66, 67, 68, 69, 70, 71] (by decide +kernel) (by decide +kernel)) (goodIn_sub (fun _ h => List.mem_cons_of_mem _ (List.mem_append_right _ h)) (by decide +kernel))
set_option maxRecDepth 20000 in
theorem gX5_recall_X5_requestNumbered : GoodIn wsX5_recall (wsV RX5 127 RX5 yX5_requestNumbered wsX5_requestNumbered) := goodIn_app (goodIn_of _ (by decide +kernel)) ggX5_recall_X5_requestNumbered
set_option maxRecDepth 20000 in
theorem ggX5_recall_X5_way : GoodIn wsX5_recall wsX5_way := goodIn_r _ [18, 19, 20, 21, 22] (by decide +kernel) (by decide +kernel)
set_option maxRecDepth 20000 in
theorem gX5_recall_X5_way : GoodIn wsX5_recall (va_wsS RX5 152 yX5_way wsX5_way) := goodIn_app (goodIn_of _ (by decide +kernel)) ggX5_recall_X5_way
set_option maxRecDepth 20000 in
theorem ggX5_recall_X5_send : GoodIn wsX5_recall wsX5_send := goodIn_r _ [26, 27, 28, 29, 30, 31, 32, 33, 34, 35, 36, 37, 38, 39, 40, 41, 42, 43, 44, 45, 46, 47, 48, 49, 65, 66, 67, 68, 69, 70, 71, 72, 73, 74, 75, 76, 77] (by decide +kernel) (by decide +kernel)
set_option maxRecDepth 20000 in
theorem gX5_recall_X5_send : GoodIn wsX5_recall (wsV RX5 156 RX5 yX5_send wsX5_send) := goodIn_app (goodIn_of _ (by decide +kernel)) ggX5_recall_X5_send
theorem dX5_recall_0 : decode cX5_recall 0 = .ok (.aload_n 0, 1) := by decide +kernel
theorem dX5_recall_1 : decode cX5_recall 1 = .ok (.iload_n 1, 1) := by decide +kernel
theorem dX5_recall_2 : decode cX5_recall 2 = .ok (.invokevirtual 127, 3) := by decide +kernel
theorem dX5_recall_5 : decode cX5_recall 5 = .ok (.astore_n 2, 1) := by decide +kernel
theorem dX5_recall_6 : decode cX5_recall 6 = .ok (.aload_n 2, 1) := by decide +kernel
theorem dX5_recall_7 : decode cX5_recall 7 = .ok (.getfield 134, 3) := by decide +kernel
theorem dX5_recall_10 : decode cX5_recall 10 = .ok (.astore_n 3, 1) := by decide +kernel
theorem dX5_recall_11 : decode cX5_recall 11 = .ok (.aload_n 2, 1) := by decide +kernel
theorem dX5_recall_12 : decode cX5_recall 12 = .ok (.getfield 131, 3) := by decide +kernel
theorem dX5_recall_15 : decode cX5_recall 15 = .ok (.iconst 2, 1) := by decide +kernel
theorem dX5_recall_16 : decode cX5_recall 16 = .ok (.if_icmp .ne 14, 3) := by decide +kernel
theorem dX5_recall_19 : decode cX5_recall 19 = .ok (.aload_n 3, 1) := by decide +kernel
theorem dX5_recall_20 : decode cX5_recall 20 = .ok (.ifnull 10, 3) := by decide +kernel
theorem dX5_recall_23 : decode cX5_recall 23 = .ok (.aload_n 2, 1) := by decide +kernel
theorem dX5_recall_24 : decode cX5_recall 24 = .ok (.getfield 160, 3) := by decide +kernel
theorem dX5_recall_27 : decode cX5_recall 27 = .ok (.ifCond .eq 13, 3) := by decide +kernel
theorem dX5_recall_30 : decode cX5_recall 30 = .ok (.new 61, 3) := by decide +kernel
theorem dX5_recall_33 : decode cX5_recall 33 = .ok (.dup, 1) := by decide +kernel
theorem dX5_recall_34 : decode cX5_recall 34 = .ok (.ldc 163, 2) := by decide +kernel
theorem dX5_recall_36 : decode cX5_recall 36 = .ok (.invokespecial 65, 3) := by decide +kernel
theorem dX5_recall_39 : decode cX5_recall 39 = .ok (.athrow, 1) := by decide +kernel
theorem dX5_recall_40 : decode cX5_recall 40 = .ok (.aload_n 2, 1) := by decide +kernel
theorem dX5_recall_41 : decode cX5_recall 41 = .ok (.iconst 1, 1) := by decide +kernel
theorem dX5_recall_42 : decode cX5_recall 42 = .ok (.putfield 160, 3) := by decide +kernel
theorem dX5_recall_45 : decode cX5_recall 45 = .ok (.aload_n 0, 1) := by decide +kernel
theorem dX5_recall_46 : decode cX5_recall 46 = .ok (.bipush 6, 2) := by decide +kernel
theorem dX5_recall_48 : decode cX5_recall 48 = .ok (.aload_n 2, 1) := by decide +kernel
theorem dX5_recall_49 : decode cX5_recall 49 = .ok (.getfield 146, 3) := by decide +kernel
theorem dX5_recall_52 : decode cX5_recall 52 = .ok (.aload_n 3, 1) := by decide +kernel
theorem dX5_recall_53 : decode cX5_recall 53 = .ok (.getfield 149, 3) := by decide +kernel
theorem dX5_recall_56 : decode cX5_recall 56 = .ok (.invokestatic 152, 3) := by decide +kernel
theorem dX5_recall_59 : decode cX5_recall 59 = .ok (.aload_n 3, 1) := by decide +kernel
theorem dX5_recall_60 : decode cX5_recall 60 = .ok (.aload_n 2, 1) := by decide +kernel
theorem dX5_recall_61 : decode cX5_recall 61 = .ok (.invokevirtual 156, 3) := by decide +kernel
theorem dX5_recall_64 : decode cX5_recall 64 = .ok (.ireturn, 1) := by decide +kernel
set_option maxRecDepth 20000 in
theorem ggX5_sendBack_X5_requestNumbered : GoodIn wsX5_sendBack wsX5_requestNumbered := goodIn_ca (goodIn_r _ [19, 20, 21, 22, 70, 71, 72, 73, 74, 75, 76] (by decide +kernel) (by decide +kernel)) (goodIn_sub (fun _ h => List.mem_cons_of_mem _ (List.mem_append_right _ h)) (by decide +kernel))
set_option maxRecDepth 20000 in
theorem gX5_sendBack_X5_requestNumbered : GoodIn wsX5_sendBack (wsV RX5 127 RX5 yX5_requestNumbered wsX5_requestNumbered) := goodIn_app (goodIn_of _ (by decide +kernel)) ggX5_sendBack_X5_requestNumbered
set_option maxRecDepth 20000 in
theorem ggX5_sendBack_X0_charge : GoodIn wsX5_sendBack wsX0_charge := goodIn_r _ [27, 28, 29, 18, 30, 85, 86, 87] (by decide +kernel) (by decide +kernel)
set_option maxRecDepth 20000 in
theorem gX5_sendBack_X0_charge : GoodIn wsX5_sendBack (wsV RX5 170 RX0 yX0_charge wsX0_charge) := goodIn_app (goodIn_of _ (by decide +kernel)) ggX5_sendBack_X0_charge
set_option maxRecDepth 20000 in
theorem ggX5_sendBack_X5_way : GoodIn wsX5_sendBack wsX5_way := goodIn_r _ [33, 34, 35, 9, 36] (by decide +kernel) (by decide +kernel)
set_option maxRecDepth 20000 in
theorem gX5_sendBack_X5_way : GoodIn wsX5_sendBack (va_wsS RX5 152 yX5_way wsX5_way) := goodIn_app (goodIn_of _ (by decide +kernel)) ggX5_sendBack_X5_way
set_option maxRecDepth 20000 in
theorem ggX5_sendBack_X5_send : GoodIn wsX5_sendBack wsX5_send := goodIn_r _ [40, 5, 41, 42, 43, 44, 45, 46, 47, 48, 49, 50, 51, 52, 53, 54, 55, 56, 57, 58, 59, 60, 61, 62, 70, 71, 72, 73, 74, 75, 76, 88, 89, 90, 91, 92, 93] (by decide +kernel) (by decide +kernel)
set_option maxRecDepth 20000 in
theorem gX5_sendBack_X5_send : GoodIn wsX5_sendBack (wsV RX5 156 RX5 yX5_send wsX5_send) := goodIn_app (goodIn_of _ (by decide +kernel)) ggX5_sendBack_X5_send
theorem dX5_sendBack_0 : decode cX5_sendBack 0 = .ok (.aload_n 0, 1) := by decide +kernel
theorem dX5_sendBack_1 : decode cX5_sendBack 1 = .ok (.iload_n 1, 1) := by decide +kernel
theorem dX5_sendBack_2 : decode cX5_sendBack 2 = .ok (.invokevirtual 127, 3) := by decide +kernel
theorem dX5_sendBack_5 : decode cX5_sendBack 5 = .ok (.astore_n 2, 1) := by decide +kernel
theorem dX5_sendBack_6 : decode cX5_sendBack 6 = .ok (.aload_n 2, 1) := by decide +kernel
theorem dX5_sendBack_7 : decode cX5_sendBack 7 = .ok (.getfield 134, 3) := by decide +kernel
theorem dX5_sendBack_10 : decode cX5_sendBack 10 = .ok (.astore_n 3, 1) := by decide +kernel
theorem dX5_sendBack_11 : decode cX5_sendBack 11 = .ok (.aload_n 2, 1) := by decide +kernel
theorem dX5_sendBack_12 : decode cX5_sendBack 12 = .ok (.getfield 131, 3) := by decide +kernel
theorem dX5_sendBack_15 : decode cX5_sendBack 15 = .ok (.iconst 2, 1) := by decide +kernel
theorem dX5_sendBack_16 : decode cX5_sendBack 16 = .ok (.if_icmp .ne 7, 3) := by decide +kernel
theorem dX5_sendBack_19 : decode cX5_sendBack 19 = .ok (.aload_n 3, 1) := by decide +kernel
theorem dX5_sendBack_20 : decode cX5_sendBack 20 = .ok (.ifnonnull 13, 3) := by decide +kernel
theorem dX5_sendBack_23 : decode cX5_sendBack 23 = .ok (.new 61, 3) := by decide +kernel
theorem dX5_sendBack_26 : decode cX5_sendBack 26 = .ok (.dup, 1) := by decide +kernel
theorem dX5_sendBack_27 : decode cX5_sendBack 27 = .ok (.ldc 141, 2) := by decide +kernel
theorem dX5_sendBack_29 : decode cX5_sendBack 29 = .ok (.invokespecial 65, 3) := by decide +kernel
theorem dX5_sendBack_32 : decode cX5_sendBack 32 = .ok (.athrow, 1) := by decide +kernel
theorem dX5_sendBack_33 : decode cX5_sendBack 33 = .ok (.iconst 0, 1) := by decide +kernel
theorem dX5_sendBack_34 : decode cX5_sendBack 34 = .ok (.aload_n 0, 1) := by decide +kernel
theorem dX5_sendBack_35 : decode cX5_sendBack 35 = .ok (.getfield 44, 3) := by decide +kernel
theorem dX5_sendBack_38 : decode cX5_sendBack 38 = .ok (.aload_n 2, 1) := by decide +kernel
theorem dX5_sendBack_39 : decode cX5_sendBack 39 = .ok (.getfield 143, 3) := by decide +kernel
theorem dX5_sendBack_42 : decode cX5_sendBack 42 = .ok (.isub, 1) := by decide +kernel
theorem dX5_sendBack_43 : decode cX5_sendBack 43 = .ok (.invokestatic 165, 3) := by decide +kernel
theorem dX5_sendBack_46 : decode cX5_sendBack 46 = .ok (.istore 4, 2) := by decide +kernel
theorem dX5_sendBack_48 : decode cX5_sendBack 48 = .ok (.aload_n 0, 1) := by decide +kernel
theorem dX5_sendBack_49 : decode cX5_sendBack 49 = .ok (.getfield 33, 3) := by decide +kernel
theorem dX5_sendBack_52 : decode cX5_sendBack 52 = .ok (.aload_n 2, 1) := by decide +kernel
theorem dX5_sendBack_53 : decode cX5_sendBack 53 = .ok (.getfield 146, 3) := by decide +kernel
theorem dX5_sendBack_56 : decode cX5_sendBack 56 = .ok (.aload_n 3, 1) := by decide +kernel
theorem dX5_sendBack_57 : decode cX5_sendBack 57 = .ok (.getfield 149, 3) := by decide +kernel
theorem dX5_sendBack_60 : decode cX5_sendBack 60 = .ok (.iload 4, 2) := by decide +kernel
theorem dX5_sendBack_62 : decode cX5_sendBack 62 = .ok (.iconst 1, 1) := by decide +kernel
theorem dX5_sendBack_63 : decode cX5_sendBack 63 = .ok (.imul, 1) := by decide +kernel
theorem dX5_sendBack_64 : decode cX5_sendBack 64 = .ok (.invokevirtual 170, 3) := by decide +kernel
theorem dX5_sendBack_67 : decode cX5_sendBack 67 = .ok (.aload_n 2, 1) := by decide +kernel
theorem dX5_sendBack_68 : decode cX5_sendBack 68 = .ok (.iconst 3, 1) := by decide +kernel
theorem dX5_sendBack_69 : decode cX5_sendBack 69 = .ok (.putfield 131, 3) := by decide +kernel
theorem dX5_sendBack_72 : decode cX5_sendBack 72 = .ok (.aload_n 3, 1) := by decide +kernel
theorem dX5_sendBack_73 : decode cX5_sendBack 73 = .ok (.iconst 1, 1) := by decide +kernel
theorem dX5_sendBack_74 : decode cX5_sendBack 74 = .ok (.putfield 98, 3) := by decide +kernel
theorem dX5_sendBack_77 : decode cX5_sendBack 77 = .ok (.aload_n 0, 1) := by decide +kernel
theorem dX5_sendBack_78 : decode cX5_sendBack 78 = .ok (.iconst 4, 1) := by decide +kernel
theorem dX5_sendBack_79 : decode cX5_sendBack 79 = .ok (.aload_n 2, 1) := by decide +kernel
theorem dX5_sendBack_80 : decode cX5_sendBack 80 = .ok (.getfield 146, 3) := by decide +kernel
theorem dX5_sendBack_83 : decode cX5_sendBack 83 = .ok (.aload_n 3, 1) := by decide +kernel
theorem dX5_sendBack_84 : decode cX5_sendBack 84 = .ok (.getfield 149, 3) := by decide +kernel
theorem dX5_sendBack_87 : decode cX5_sendBack 87 = .ok (.invokestatic 152, 3) := by decide +kernel
theorem dX5_sendBack_90 : decode cX5_sendBack 90 = .ok (.aload_n 3, 1) := by decide +kernel
theorem dX5_sendBack_91 : decode cX5_sendBack 91 = .ok (.aload_n 2, 1) := by decide +kernel
theorem dX5_sendBack_92 : decode cX5_sendBack 92 = .ok (.invokevirtual 156, 3) := by decide +kernel
theorem dX5_sendBack_95 : decode cX5_sendBack 95 = .ok (.pop, 1) := by decide +kernel
theorem dX5_sendBack_96 : decode cX5_sendBack 96 = .ok (.iload 4, 2) := by decide +kernel
theorem dX5_sendBack_98 : decode cX5_sendBack 98 = .ok (.ireturn, 1) := by decide +kernel
set_option maxRecDepth 20000 in
theorem ggX5_pass_X5_arrivalsOfNextDay : GoodIn wsX5_pass wsX5_arrivalsOfNextDay := goodIn_r _ [7, 8, 9, 10, 11, 12, 13, 14, 15, 16, 17, 18, 19, 20, 21, 22, 23, 24, 25, 26, 27, 28, 6, 29, 30, 31, 32, 33, 34, 35, 36, 37, 38, 39, 40, 41, 42, 43, 44, 45, 46, 47, 48, 49, 50, 51, 52, 53, 54, 55, 56, 57, 58, 59, 60, 61, 62, 63, 64, 65, 66, 67, 68, 69, 70, 71, 72, 73, 74, 75, 76, 77, 78, 79, 80, 81, 82, 83, 84, 85, 86, 87, 88, 89, 90, 91, 92, 93, 94, 95, 96, 97, 98, 99, 100, 101, 102, 103, 104, 105, 106, 107, 108, 109, 110, 111, 112, 113, 114, 115, 116, 117, 118, 119, 120, 121, 122, 123, 124, 125, 126, 127, 128, 129, 130, 131, 132, 133, 134, 135, 136, 137, 138, 139, 140, 141, 142, 143, 144, 145, 146, 147, 148, 149, 150, 151, 152, 153, 154, 155, 156, 157, 158, 159, 160, 161, 162, 163, 164, 165, 166, 167, 168, 169, 170, 171, 172, 173, 174, 175, 176, 177, 178, 179, 180, 181, 182, 183, 184, 185, 186, 187, 188, 189, 190, 191] (by decide +kernel) (by decide +kernel)
set_option maxRecDepth 20000 in
theorem gX5_pass_X5_arrivalsOfNextDay : GoodIn wsX5_pass (wsV RX5 175 RX5 yX5_arrivalsOfNextDay wsX5_arrivalsOfNextDay) := goodIn_app (goodIn_of _ (by decide +kernel)) ggX5_pass_X5_arrivalsOfNextDay
theorem dX5_pass_0 : decode cX5_pass 0 = .ok (.iload_n 1, 1) := by decide +kernel
theorem dX5_pass_1 : decode cX5_pass 1 = .ok (.iconst 1, 1) := by decide +kernel
theorem dX5_pass_2 : decode cX5_pass 2 = .ok (.if_icmp .lt 9, 3) := by decide +kernel
theorem dX5_pass_5 : decode cX5_pass 5 = .ok (.iload_n 1, 1) := by decide +kernel
theorem dX5_pass_6 : decode cX5_pass 6 = .ok (.bipush 100, 2) := by decide +kernel
theorem dX5_pass_8 : decode cX5_pass 8 = .ok (.if_icmp .le 13, 3) := by decide +kernel
theorem dX5_pass_11 : decode cX5_pass 11 = .ok (.new 54, 3) := by decide +kernel
theorem dX5_pass_14 : decode cX5_pass 14 = .ok (.dup, 1) := by decide +kernel
theorem dX5_pass_15 : decode cX5_pass 15 = .ok (.ldc 173, 2) := by decide +kernel
theorem dX5_pass_17 : decode cX5_pass 17 = .ok (.invokespecial 58, 3) := by decide +kernel
theorem dX5_pass_20 : decode cX5_pass 20 = .ok (.athrow, 1) := by decide +kernel
theorem dX5_pass_21 : decode cX5_pass 21 = .ok (.iconst 0, 1) := by decide +kernel
theorem dX5_pass_22 : decode cX5_pass 22 = .ok (.istore_n 2, 1) := by decide +kernel
theorem dX5_pass_23 : decode cX5_pass 23 = .ok (.iconst 0, 1) := by decide +kernel
theorem dX5_pass_24 : decode cX5_pass 24 = .ok (.istore_n 3, 1) := by decide +kernel
theorem dX5_pass_25 : decode cX5_pass 25 = .ok (.iload_n 3, 1) := by decide +kernel
theorem dX5_pass_26 : decode cX5_pass 26 = .ok (.iload_n 1, 1) := by decide +kernel
theorem dX5_pass_27 : decode cX5_pass 27 = .ok (.if_icmp .ge 16, 3) := by decide +kernel
theorem dX5_pass_30 : decode cX5_pass 30 = .ok (.iload_n 2, 1) := by decide +kernel
theorem dX5_pass_31 : decode cX5_pass 31 = .ok (.aload_n 0, 1) := by decide +kernel
theorem dX5_pass_32 : decode cX5_pass 32 = .ok (.invokevirtual 175, 3) := by decide +kernel
theorem dX5_pass_35 : decode cX5_pass 35 = .ok (.iadd, 1) := by decide +kernel
theorem dX5_pass_36 : decode cX5_pass 36 = .ok (.istore_n 2, 1) := by decide +kernel
theorem dX5_pass_37 : decode cX5_pass 37 = .ok (.iinc 3 1, 3) := by decide +kernel
theorem dX5_pass_40 : decode cX5_pass 40 = .ok (.goto (-15), 3) := by decide +kernel
theorem dX5_pass_43 : decode cX5_pass 43 = .ok (.iload_n 2, 1) := by decide +kernel
theorem dX5_pass_44 : decode cX5_pass 44 = .ok (.ireturn, 1) := by decide +kernel
theorem dX5_today_0 : decode cX5_today 0 = .ok (.aload_n 0, 1) := by decide +kernel
theorem dX5_today_1 : decode cX5_today 1 = .ok (.getfield 44, 3) := by decide +kernel
theorem dX5_today_4 : decode cX5_today 4 = .ok (.ireturn, 1) := by decide +kernel
set_option maxRecDepth 20000 in
theorem ggX5_owes_X5_isHouse : GoodIn wsX5_owes wsX5_isHouse := goodIn_r _ [7] (by decide +kernel) (by decide +kernel)
set_option maxRecDepth 20000 in
theorem gX5_owes_X5_isHouse : GoodIn wsX5_owes (va_wsS RX5 47 yX5_isHouse wsX5_isHouse) := goodIn_app (goodIn_of _ (by decide +kernel)) ggX5_owes_X5_isHouse
set_option maxRecDepth 20000 in
theorem ggX5_owes_X0_balance : GoodIn wsX5_owes wsX0_balance := goodIn_r _ [12, 13, 5, 6, 7, 21, 22, 23] (by decide +kernel) (by decide +kernel)
set_option maxRecDepth 20000 in
theorem gX5_owes_X0_balance : GoodIn wsX5_owes (wsV RX5 181 RX0 yX0_balance wsX0_balance) := goodIn_app (goodIn_of _ (by decide +kernel)) ggX5_owes_X0_balance
theorem dX5_owes_0 : decode cX5_owes 0 = .ok (.iload_n 1, 1) := by decide +kernel
theorem dX5_owes_1 : decode cX5_owes 1 = .ok (.invokestatic 47, 3) := by decide +kernel
theorem dX5_owes_4 : decode cX5_owes 4 = .ok (.ifCond .eq 10, 3) := by decide +kernel
theorem dX5_owes_7 : decode cX5_owes 7 = .ok (.iload_n 2, 1) := by decide +kernel
theorem dX5_owes_8 : decode cX5_owes 8 = .ok (.invokestatic 47, 3) := by decide +kernel
theorem dX5_owes_11 : decode cX5_owes 11 = .ok (.ifCond .ne 13, 3) := by decide +kernel
theorem dX5_owes_14 : decode cX5_owes 14 = .ok (.new 54, 3) := by decide +kernel
theorem dX5_owes_17 : decode cX5_owes 17 = .ok (.dup, 1) := by decide +kernel
theorem dX5_owes_18 : decode cX5_owes 18 = .ok (.ldc 179, 2) := by decide +kernel
theorem dX5_owes_20 : decode cX5_owes 20 = .ok (.invokespecial 58, 3) := by decide +kernel
theorem dX5_owes_23 : decode cX5_owes 23 = .ok (.athrow, 1) := by decide +kernel
theorem dX5_owes_24 : decode cX5_owes 24 = .ok (.aload_n 0, 1) := by decide +kernel
theorem dX5_owes_25 : decode cX5_owes 25 = .ok (.getfield 33, 3) := by decide +kernel
theorem dX5_owes_28 : decode cX5_owes 28 = .ok (.iload_n 1, 1) := by decide +kernel
theorem dX5_owes_29 : decode cX5_owes 29 = .ok (.iload_n 2, 1) := by decide +kernel
theorem dX5_owes_30 : decode cX5_owes 30 = .ok (.invokevirtual 181, 3) := by decide +kernel
theorem dX5_owes_33 : decode cX5_owes 33 = .ok (.ireturn, 1) := by decide +kernel
set_option maxRecDepth 20000 in
theorem ggX5_settle_X0_clearDebts : GoodIn wsX5_settle wsX0_clearDebts := goodIn_r _ [6, 7, 8, 9, 10, 5, 11, 12, 13, 14, 22, 23, 24] (by decide +kernel) (by decide +kernel)
set_option maxRecDepth 20000 in
theorem gX5_settle_X0_clearDebts : GoodIn wsX5_settle (wsV RX5 184 RX0 yX0_clearDebts wsX0_clearDebts) := goodIn_app (goodIn_of _ (by decide +kernel)) ggX5_settle_X0_clearDebts
theorem dX5_settle_0 : decode cX5_settle 0 = .ok (.aload_n 0, 1) := by decide +kernel
theorem dX5_settle_1 : decode cX5_settle 1 = .ok (.getfield 33, 3) := by decide +kernel
theorem dX5_settle_4 : decode cX5_settle 4 = .ok (.invokevirtual 184, 3) := by decide +kernel
theorem dX5_settle_7 : decode cX5_settle 7 = .ok (.ireturn, 1) := by decide +kernel
set_option maxRecDepth 20000 in
theorem ggX5_quota_X5_isHouse : GoodIn wsX5_quota wsX5_isHouse := goodIn_r _ [7] (by decide +kernel) (by decide +kernel)
set_option maxRecDepth 20000 in
theorem gX5_quota_X5_isHouse : GoodIn wsX5_quota (va_wsS RX5 47 yX5_isHouse wsX5_isHouse) := goodIn_app (goodIn_of _ (by decide +kernel)) ggX5_quota_X5_isHouse
set_option maxRecDepth 20000 in
theorem ggX5_quota_X0_freeLoansOf : GoodIn wsX5_quota wsX0_freeLoansOf := goodIn_r _ [12, 13, 5, 6, 7, 21, 22, 23] (by decide +kernel) (by decide +kernel)
set_option maxRecDepth 20000 in
theorem gX5_quota_X0_freeLoansOf : GoodIn wsX5_quota (wsV RX5 189 RX0 yX0_freeLoansOf wsX0_freeLoansOf) := goodIn_app (goodIn_of _ (by decide +kernel)) ggX5_quota_X0_freeLoansOf
theorem dX5_quota_0 : decode cX5_quota 0 = .ok (.iload_n 1, 1) := by decide +kernel
theorem dX5_quota_1 : decode cX5_quota 1 = .ok (.invokestatic 47, 3) := by decide +kernel
theorem dX5_quota_4 : decode cX5_quota 4 = .ok (.ifCond .ne 13, 3) := by decide +kernel
theorem dX5_quota_7 : decode cX5_quota 7 = .ok (.new 54, 3) := by decide +kernel
theorem dX5_quota_10 : decode cX5_quota 10 = .ok (.dup, 1) := by decide +kernel
theorem dX5_quota_11 : decode cX5_quota 11 = .ok (.ldc 187, 2) := by decide +kernel
theorem dX5_quota_13 : decode cX5_quota 13 = .ok (.invokespecial 58, 3) := by decide +kernel
theorem dX5_quota_16 : decode cX5_quota 16 = .ok (.athrow, 1) := by decide +kernel
theorem dX5_quota_17 : decode cX5_quota 17 = .ok (.aload_n 0, 1) := by decide +kernel
theorem dX5_quota_18 : decode cX5_quota 18 = .ok (.getfield 33, 3) := by decide +kernel
theorem dX5_quota_21 : decode cX5_quota 21 = .ok (.iload_n 1, 1) := by decide +kernel
theorem dX5_quota_22 : decode cX5_quota 22 = .ok (.invokevirtual 189, 3) := by decide +kernel
theorem dX5_quota_25 : decode cX5_quota 25 = .ok (.ireturn, 1) := by decide +kernel
theorem dX5_isHouse_0 : decode cX5_isHouse 0 = .ok (.iload_n 0, 1) := by decide +kernel
theorem dX5_isHouse_1 : decode cX5_isHouse 1 = .ok (.ifCond .lt 13, 3) := by decide +kernel
theorem dX5_isHouse_4 : decode cX5_isHouse 4 = .ok (.iload_n 0, 1) := by decide +kernel
theorem dX5_isHouse_5 : decode cX5_isHouse 5 = .ok (.bipush 6, 2) := by decide +kernel
theorem dX5_isHouse_7 : decode cX5_isHouse 7 = .ok (.if_icmp .ge 7, 3) := by decide +kernel
theorem dX5_isHouse_10 : decode cX5_isHouse 10 = .ok (.iconst 1, 1) := by decide +kernel
theorem dX5_isHouse_11 : decode cX5_isHouse 11 = .ok (.goto 4, 3) := by decide +kernel
theorem dX5_isHouse_14 : decode cX5_isHouse 14 = .ok (.iconst 0, 1) := by decide +kernel
theorem dX5_isHouse_15 : decode cX5_isHouse 15 = .ok (.ireturn, 1) := by decide +kernel
theorem dX5_isTitle_0 : decode cX5_isTitle 0 = .ok (.iload_n 0, 1) := by decide +kernel
theorem dX5_isTitle_1 : decode cX5_isTitle 1 = .ok (.ifCond .lt 13, 3) := by decide +kernel
theorem dX5_isTitle_4 : decode cX5_isTitle 4 = .ok (.iload_n 0, 1) := by decide +kernel
theorem dX5_isTitle_5 : decode cX5_isTitle 5 = .ok (.bipush 8, 2) := by decide +kernel
theorem dX5_isTitle_7 : decode cX5_isTitle 7 = .ok (.if_icmp .ge 7, 3) := by decide +kernel
theorem dX5_isTitle_10 : decode cX5_isTitle 10 = .ok (.iconst 1, 1) := by decide +kernel
theorem dX5_isTitle_11 : decode cX5_isTitle 11 = .ok (.goto 4, 3) := by decide +kernel
theorem dX5_isTitle_14 : decode cX5_isTitle 14 = .ok (.iconst 0, 1) := by decide +kernel
theorem dX5_isTitle_15 : decode cX5_isTitle 15 = .ok (.ireturn, 1) := by decide +kernel
theorem dX5_copyNumbered_0 : decode cX5_copyNumbered 0 = .ok (.iload_n 1, 1) := by decide +kernel
theorem dX5_copyNumbered_1 : decode cX5_copyNumbered 1 = .ok (.ifCond .lt 21, 3) := by decide +kernel
theorem dX5_copyNumbered_4 : decode cX5_copyNumbered 4 = .ok (.iload_n 1, 1) := by decide +kernel
theorem dX5_copyNumbered_5 : decode cX5_copyNumbered 5 = .ok (.aload_n 0, 1) := by decide +kernel
theorem dX5_copyNumbered_6 : decode cX5_copyNumbered 6 = .ok (.getfield 11, 3) := by decide +kernel
theorem dX5_copyNumbered_9 : decode cX5_copyNumbered 9 = .ok (.arraylength, 1) := by decide +kernel
theorem dX5_copyNumbered_10 : decode cX5_copyNumbered 10 = .ok (.if_icmp .ge 12, 3) := by decide +kernel
theorem dX5_copyNumbered_13 : decode cX5_copyNumbered 13 = .ok (.aload_n 0, 1) := by decide +kernel
theorem dX5_copyNumbered_14 : decode cX5_copyNumbered 14 = .ok (.getfield 11, 3) := by decide +kernel
theorem dX5_copyNumbered_17 : decode cX5_copyNumbered 17 = .ok (.iload_n 1, 1) := by decide +kernel
theorem dX5_copyNumbered_18 : decode cX5_copyNumbered 18 = .ok (.aaload, 1) := by decide +kernel
theorem dX5_copyNumbered_19 : decode cX5_copyNumbered 19 = .ok (.goto 4, 3) := by decide +kernel
theorem dX5_copyNumbered_22 : decode cX5_copyNumbered 22 = .ok (.aconst_null, 1) := by decide +kernel
theorem dX5_copyNumbered_23 : decode cX5_copyNumbered 23 = .ok (.astore_n 2, 1) := by decide +kernel
theorem dX5_copyNumbered_24 : decode cX5_copyNumbered 24 = .ok (.aload_n 2, 1) := by decide +kernel
theorem dX5_copyNumbered_25 : decode cX5_copyNumbered 25 = .ok (.ifnonnull 13, 3) := by decide +kernel
theorem dX5_copyNumbered_28 : decode cX5_copyNumbered 28 = .ok (.new 193, 3) := by decide +kernel
theorem dX5_copyNumbered_31 : decode cX5_copyNumbered 31 = .ok (.dup, 1) := by decide +kernel
theorem dX5_copyNumbered_32 : decode cX5_copyNumbered 32 = .ok (.ldc 195, 2) := by decide +kernel
theorem dX5_copyNumbered_34 : decode cX5_copyNumbered 34 = .ok (.invokespecial 197, 3) := by decide +kernel
theorem dX5_copyNumbered_37 : decode cX5_copyNumbered 37 = .ok (.athrow, 1) := by decide +kernel
theorem dX5_copyNumbered_38 : decode cX5_copyNumbered 38 = .ok (.aload_n 2, 1) := by decide +kernel
theorem dX5_copyNumbered_39 : decode cX5_copyNumbered 39 = .ok (.areturn, 1) := by decide +kernel
theorem dX5_requestNumbered_0 : decode cX5_requestNumbered 0 = .ok (.iload_n 1, 1) := by decide +kernel
theorem dX5_requestNumbered_1 : decode cX5_requestNumbered 1 = .ok (.ifCond .lt 21, 3) := by decide +kernel
theorem dX5_requestNumbered_4 : decode cX5_requestNumbered 4 = .ok (.iload_n 1, 1) := by decide +kernel
theorem dX5_requestNumbered_5 : decode cX5_requestNumbered 5 = .ok (.aload_n 0, 1) := by decide +kernel
theorem dX5_requestNumbered_6 : decode cX5_requestNumbered 6 = .ok (.getfield 17, 3) := by decide +kernel
theorem dX5_requestNumbered_9 : decode cX5_requestNumbered 9 = .ok (.arraylength, 1) := by decide +kernel
theorem dX5_requestNumbered_10 : decode cX5_requestNumbered 10 = .ok (.if_icmp .ge 12, 3) := by decide +kernel
theorem dX5_requestNumbered_13 : decode cX5_requestNumbered 13 = .ok (.aload_n 0, 1) := by decide +kernel
theorem dX5_requestNumbered_14 : decode cX5_requestNumbered 14 = .ok (.getfield 17, 3) := by decide +kernel
theorem dX5_requestNumbered_17 : decode cX5_requestNumbered 17 = .ok (.iload_n 1, 1) := by decide +kernel
theorem dX5_requestNumbered_18 : decode cX5_requestNumbered 18 = .ok (.aaload, 1) := by decide +kernel
theorem dX5_requestNumbered_19 : decode cX5_requestNumbered 19 = .ok (.goto 4, 3) := by decide +kernel
theorem dX5_requestNumbered_22 : decode cX5_requestNumbered 22 = .ok (.aconst_null, 1) := by decide +kernel
theorem dX5_requestNumbered_23 : decode cX5_requestNumbered 23 = .ok (.astore_n 2, 1) := by decide +kernel
theorem dX5_requestNumbered_24 : decode cX5_requestNumbered 24 = .ok (.aload_n 2, 1) := by decide +kernel
theorem dX5_requestNumbered_25 : decode cX5_requestNumbered 25 = .ok (.ifnonnull 13, 3) := by decide +kernel
theorem dX5_requestNumbered_28 : decode cX5_requestNumbered 28 = .ok (.new 193, 3) := by decide +kernel
theorem dX5_requestNumbered_31 : decode cX5_requestNumbered 31 = .ok (.dup, 1) := by decide +kernel
theorem dX5_requestNumbered_32 : decode cX5_requestNumbered 32 = .ok (.ldc 198, 2) := by decide +kernel
theorem dX5_requestNumbered_34 : decode cX5_requestNumbered 34 = .ok (.invokespecial 197, 3) := by decide +kernel
theorem dX5_requestNumbered_37 : decode cX5_requestNumbered 37 = .ok (.athrow, 1) := by decide +kernel
theorem dX5_requestNumbered_38 : decode cX5_requestNumbered 38 = .ok (.aload_n 2, 1) := by decide +kernel
theorem dX5_requestNumbered_39 : decode cX5_requestNumbered 39 = .ok (.areturn, 1) := by decide +kernel
theorem dX5_way_0 : decode cX5_way 0 = .ok (.iload_n 0, 1) := by decide +kernel
theorem dX5_way_1 : decode cX5_way 1 = .ok (.iload_n 1, 1) := by decide +kernel
theorem dX5_way_2 : decode cX5_way 2 = .ok (.isub, 1) := by decide +kernel
theorem dX5_way_3 : decode cX5_way 3 = .ok (.invokestatic 200, 3) := by decide +kernel
theorem dX5_way_6 : decode cX5_way 6 = .ok (.iconst 1, 1) := by decide +kernel
theorem dX5_way_7 : decode cX5_way 7 = .ok (.iadd, 1) := by decide +kernel
theorem dX5_way_8 : decode cX5_way 8 = .ok (.ireturn, 1) := by decide +kernel
theorem dX5_wayToList_0 : decode cX5_wayToList 0 = .ok (.iload_n 0, 1) := by decide +kernel
theorem dX5_wayToList_1 : decode cX5_wayToList 1 = .ok (.iconst 1, 1) := by decide +kernel
theorem dX5_wayToList_2 : decode cX5_wayToList 2 = .ok (.iadd, 1) := by decide +kernel
theorem dX5_wayToList_3 : decode cX5_wayToList 3 = .ok (.ireturn, 1) := by decide +kernel
set_option maxRecDepth 20000 in
theorem ggX5_send_X4_init : GoodIn wsX5_send wsX4_init := goodIn_r _ [8, 9, 10, 11, 12, 13, 14, 15, 31, 32, 33, 34] (by decide +kernel) (by decide +kernel)
set_option maxRecDepth 20000 in
theorem gX5_send_X4_init : GoodIn wsX5_send (wsX4_init) := ggX5_send_X4_init
set_option maxRecDepth 20000 in
theorem ggX5_send_X2_put : GoodIn wsX5_send wsX2_put := goodIn_r _ [20, 21, 22, 23, 35, 36, 31, 32, 33, 34] (by decide +kernel) (by decide +kernel)
set_option maxRecDepth 20000 in
theorem gX5_send_X2_put : GoodIn wsX5_send (wsV RX5 208 RX2 yX2_put wsX2_put) := goodIn_app (goodIn_of _ (by decide +kernel)) ggX5_send_X2_put
theorem dX5_send_0 : decode cX5_send 0 = .ok (.aload_n 0, 1) := by decide +kernel
theorem dX5_send_1 : decode cX5_send 1 = .ok (.getfield 44, 3) := by decide +kernel
theorem dX5_send_4 : decode cX5_send 4 = .ok (.iload_n 2, 1) := by decide +kernel
theorem dX5_send_5 : decode cX5_send 5 = .ok (.iadd, 1) := by decide +kernel
theorem dX5_send_6 : decode cX5_send 6 = .ok (.istore 5, 2) := by decide +kernel
theorem dX5_send_8 : decode cX5_send 8 = .ok (.aload_n 0, 1) := by decide +kernel
theorem dX5_send_9 : decode cX5_send 9 = .ok (.getfield 26, 3) := by decide +kernel
theorem dX5_send_12 : decode cX5_send 12 = .ok (.new 203, 3) := by decide +kernel
theorem dX5_send_15 : decode cX5_send 15 = .ok (.dup, 1) := by decide +kernel
theorem dX5_send_16 : decode cX5_send 16 = .ok (.iload_n 1, 1) := by decide +kernel
theorem dX5_send_17 : decode cX5_send 17 = .ok (.iload 5, 2) := by decide +kernel
theorem dX5_send_19 : decode cX5_send 19 = .ok (.aload_n 3, 1) := by decide +kernel
theorem dX5_send_20 : decode cX5_send 20 = .ok (.aload 4, 2) := by decide +kernel
theorem dX5_send_22 : decode cX5_send 22 = .ok (.invokespecial 205, 3) := by decide +kernel
theorem dX5_send_25 : decode cX5_send 25 = .ok (.invokevirtual 208, 3) := by decide +kernel
theorem dX5_send_28 : decode cX5_send 28 = .ok (.iload 5, 2) := by decide +kernel
theorem dX5_send_30 : decode cX5_send 30 = .ok (.ireturn, 1) := by decide +kernel
set_option maxRecDepth 20000 in
theorem ggX5_sendNews_X5_wayToList : GoodIn wsX5_sendNews wsX5_wayToList := goodIn_r _ [5] (by decide +kernel) (by decide +kernel)
set_option maxRecDepth 20000 in
theorem gX5_sendNews_X5_wayToList : GoodIn wsX5_sendNews (va_wsS RX5 212 yX5_wayToList wsX5_wayToList) := goodIn_app (goodIn_of _ (by decide +kernel)) ggX5_sendNews_X5_wayToList
set_option maxRecDepth 20000 in
theorem ggX5_sendNews_X5_send : GoodIn wsX5_sendNews wsX5_send := goodIn_r _ [9, 10, 11, 12, 13, 14, 15, 16, 17, 18, 19, 20, 21, 22, 23, 24, 25, 26, 27, 28, 29, 30, 31, 32, 41, 42, 43, 44, 45, 46, 47, 48, 49, 50, 51, 52, 53] (by decide +kernel) (by decide +kernel)
set_option maxRecDepth 20000 in
theorem gX5_sendNews_X5_send : GoodIn wsX5_sendNews (wsV RX5 156 RX5 yX5_send wsX5_send) := goodIn_app (goodIn_of _ (by decide +kernel)) ggX5_sendNews_X5_send
theorem dX5_sendNews_0 : decode cX5_sendNews 0 = .ok (.aload_n 0, 1) := by decide +kernel
theorem dX5_sendNews_1 : decode cX5_sendNews 1 = .ok (.iload_n 1, 1) := by decide +kernel
theorem dX5_sendNews_2 : decode cX5_sendNews 2 = .ok (.aload_n 2, 1) := by decide +kernel
theorem dX5_sendNews_3 : decode cX5_sendNews 3 = .ok (.getfield 149, 3) := by decide +kernel
theorem dX5_sendNews_6 : decode cX5_sendNews 6 = .ok (.invokestatic 212, 3) := by decide +kernel
theorem dX5_sendNews_9 : decode cX5_sendNews 9 = .ok (.aload_n 2, 1) := by decide +kernel
theorem dX5_sendNews_10 : decode cX5_sendNews 10 = .ok (.aconst_null, 1) := by decide +kernel
theorem dX5_sendNews_11 : decode cX5_sendNews 11 = .ok (.invokevirtual 156, 3) := by decide +kernel
theorem dX5_sendNews_14 : decode cX5_sendNews 14 = .ok (.pop, 1) := by decide +kernel
theorem dX5_sendNews_15 : decode cX5_sendNews 15 = .ok (.return_, 1) := by decide +kernel
set_option maxRecDepth 20000 in
theorem ggX5_arrivalsOfNextDay_X0_beginQuarter : GoodIn wsX5_arrivalsOfNextDay wsX0_beginQuarter := goodIn_r _ [9, 10, 164, 165, 166] (by decide +kernel) (by decide +kernel)
set_option maxRecDepth 20000 in
theorem gX5_arrivalsOfNextDay_X0_beginQuarter : GoodIn wsX5_arrivalsOfNextDay (wsV RX5 215 RX0 yX0_beginQuarter wsX0_beginQuarter) := goodIn_app (goodIn_of _ (by decide +kernel)) ggX5_arrivalsOfNextDay_X0_beginQuarter
set_option maxRecDepth 20000 in
theorem ggX5_arrivalsOfNextDay_X2_takeArrived : GoodIn wsX5_arrivalsOfNextDay wsX2_takeArrived := goodIn_r _ [15, 16, 17, 18, 162, 163, 167, 168, 169, 170] (by decide +kernel) (by decide +kernel)
set_option maxRecDepth 20000 in
theorem gX5_arrivalsOfNextDay_X2_takeArrived : GoodIn wsX5_arrivalsOfNextDay (wsV RX5 221 RX2 yX2_takeArrived wsX2_takeArrived) := goodIn_app (goodIn_of _ (by decide +kernel)) ggX5_arrivalsOfNextDay_X2_takeArrived
set_option maxRecDepth 20000 in
theorem ggX5_arrivalsOfNextDay_X5_deliver : GoodIn wsX5_arrivalsOfNextDay wsX5_deliver := goodIn_r _ [23, 24, 25, 26, 27, 28, 29, 30, 22, 31, 32, 33, 34, 35, 36, 37, 38, 39, 40, 41, 42, 43, 44, 45, 46, 47, 48, 49, 50, 51, 52, 53, 54, 55, 56, 57, 58, 59, 60, 61, 62, 63, 64, 65, 66, 67, 68, 69, 70, 71, 72, 73, 74, 75, 76, 77, 78, 79, 80, 81, 82, 83, 84, 1, 3, 85, 86, 87, 88, 89, 90, 91, 92, 93, 94, 95, 96, 97, 98, 99, 100, 14, 101, 16, 17, 18, 102, 103, 104, 105, 106, 107, 108, 109, 110, 111, 112, 113, 114, 2, 115, 116, 117, 8, 118, 119, 10, 120, 121, 122, 123, 124, 125, 126, 127, 128, 129, 130, 131, 132, 133, 134, 135, 136, 137, 138, 139, 140, 141, 142, 143, 144, 145, 146, 147, 148, 149, 150, 151, 152, 153, 154, 167, 168, 169, 170, 171, 172, 173, 174, 175, 176, 177, 178, 179, 180, 181, 182, 183, 184, 185, 155, 156, 157, 158, 159, 160, 161, 162, 163, 164, 165, 166] (by decide +kernel) (by decide +kernel)
set_option maxRecDepth 20000 in
theorem gX5_arrivalsOfNextDay_X5_deliver : GoodIn wsX5_arrivalsOfNextDay (wsV RX5 225 RX5 yX5_deliver wsX5_deliver) := goodIn_app (goodIn_of _ (by decide +kernel)) ggX5_arrivalsOfNextDay_X5_deliver
theorem dX5_arrivalsOfNextDay_0 : decode cX5_arrivalsOfNextDay 0 = .ok (.aload_n 0, 1) := by decide +kernel
theorem dX5_arrivalsOfNextDay_1 : decode cX5_arrivalsOfNextDay 1 = .ok (.dup, 1) := by decide +kernel
theorem dX5_arrivalsOfNextDay_2 : decode cX5_arrivalsOfNextDay 2 = .ok (.getfield 44, 3) := by decide +kernel
theorem dX5_arrivalsOfNextDay_5 : decode cX5_arrivalsOfNextDay 5 = .ok (.iconst 1, 1) := by decide +kernel
theorem dX5_arrivalsOfNextDay_6 : decode cX5_arrivalsOfNextDay 6 = .ok (.iadd, 1) := by decide +kernel
theorem dX5_arrivalsOfNextDay_7 : decode cX5_arrivalsOfNextDay 7 = .ok (.putfield 44, 3) := by decide +kernel
theorem dX5_arrivalsOfNextDay_10 : decode cX5_arrivalsOfNextDay 10 = .ok (.aload_n 0, 1) := by decide +kernel
theorem dX5_arrivalsOfNextDay_11 : decode cX5_arrivalsOfNextDay 11 = .ok (.getfield 44, 3) := by decide +kernel
theorem dX5_arrivalsOfNextDay_14 : decode cX5_arrivalsOfNextDay 14 = .ok (.bipush 90, 2) := by decide +kernel
theorem dX5_arrivalsOfNextDay_16 : decode cX5_arrivalsOfNextDay 16 = .ok (.irem, 1) := by decide +kernel
theorem dX5_arrivalsOfNextDay_17 : decode cX5_arrivalsOfNextDay 17 = .ok (.ifCond .ne 10, 3) := by decide +kernel
theorem dX5_arrivalsOfNextDay_20 : decode cX5_arrivalsOfNextDay 20 = .ok (.aload_n 0, 1) := by decide +kernel
theorem dX5_arrivalsOfNextDay_21 : decode cX5_arrivalsOfNextDay 21 = .ok (.getfield 33, 3) := by decide +kernel
theorem dX5_arrivalsOfNextDay_24 : decode cX5_arrivalsOfNextDay 24 = .ok (.invokevirtual 215, 3) := by decide +kernel
theorem dX5_arrivalsOfNextDay_27 : decode cX5_arrivalsOfNextDay 27 = .ok (.aload_n 0, 1) := by decide +kernel
theorem dX5_arrivalsOfNextDay_28 : decode cX5_arrivalsOfNextDay 28 = .ok (.getfield 26, 3) := by decide +kernel
theorem dX5_arrivalsOfNextDay_31 : decode cX5_arrivalsOfNextDay 31 = .ok (.getfield 218, 3) := by decide +kernel
theorem dX5_arrivalsOfNextDay_34 : decode cX5_arrivalsOfNextDay 34 = .ok (.istore_n 1, 1) := by decide +kernel
theorem dX5_arrivalsOfNextDay_35 : decode cX5_arrivalsOfNextDay 35 = .ok (.iconst 0, 1) := by decide +kernel
theorem dX5_arrivalsOfNextDay_36 : decode cX5_arrivalsOfNextDay 36 = .ok (.istore_n 2, 1) := by decide +kernel
theorem dX5_arrivalsOfNextDay_37 : decode cX5_arrivalsOfNextDay 37 = .ok (.iconst 0, 1) := by decide +kernel
theorem dX5_arrivalsOfNextDay_38 : decode cX5_arrivalsOfNextDay 38 = .ok (.istore_n 3, 1) := by decide +kernel
theorem dX5_arrivalsOfNextDay_39 : decode cX5_arrivalsOfNextDay 39 = .ok (.iload_n 3, 1) := by decide +kernel
theorem dX5_arrivalsOfNextDay_40 : decode cX5_arrivalsOfNextDay 40 = .ok (.iload_n 1, 1) := by decide +kernel
theorem dX5_arrivalsOfNextDay_41 : decode cX5_arrivalsOfNextDay 41 = .ok (.if_icmp .ge 39, 3) := by decide +kernel
theorem dX5_arrivalsOfNextDay_44 : decode cX5_arrivalsOfNextDay 44 = .ok (.aload_n 0, 1) := by decide +kernel
theorem dX5_arrivalsOfNextDay_45 : decode cX5_arrivalsOfNextDay 45 = .ok (.getfield 26, 3) := by decide +kernel
theorem dX5_arrivalsOfNextDay_48 : decode cX5_arrivalsOfNextDay 48 = .ok (.aload_n 0, 1) := by decide +kernel
theorem dX5_arrivalsOfNextDay_49 : decode cX5_arrivalsOfNextDay 49 = .ok (.getfield 44, 3) := by decide +kernel
theorem dX5_arrivalsOfNextDay_52 : decode cX5_arrivalsOfNextDay 52 = .ok (.invokevirtual 221, 3) := by decide +kernel
theorem dX5_arrivalsOfNextDay_55 : decode cX5_arrivalsOfNextDay 55 = .ok (.astore 4, 2) := by decide +kernel
theorem dX5_arrivalsOfNextDay_57 : decode cX5_arrivalsOfNextDay 57 = .ok (.aload 4, 2) := by decide +kernel
theorem dX5_arrivalsOfNextDay_59 : decode cX5_arrivalsOfNextDay 59 = .ok (.ifnonnull 6, 3) := by decide +kernel
theorem dX5_arrivalsOfNextDay_62 : decode cX5_arrivalsOfNextDay 62 = .ok (.goto 18, 3) := by decide +kernel
theorem dX5_arrivalsOfNextDay_65 : decode cX5_arrivalsOfNextDay 65 = .ok (.aload_n 0, 1) := by decide +kernel
theorem dX5_arrivalsOfNextDay_66 : decode cX5_arrivalsOfNextDay 66 = .ok (.aload 4, 2) := by decide +kernel
theorem dX5_arrivalsOfNextDay_68 : decode cX5_arrivalsOfNextDay 68 = .ok (.invokevirtual 225, 3) := by decide +kernel
theorem dX5_arrivalsOfNextDay_71 : decode cX5_arrivalsOfNextDay 71 = .ok (.iinc 2 1, 3) := by decide +kernel
theorem dX5_arrivalsOfNextDay_74 : decode cX5_arrivalsOfNextDay 74 = .ok (.iinc 3 1, 3) := by decide +kernel
theorem dX5_arrivalsOfNextDay_77 : decode cX5_arrivalsOfNextDay 77 = .ok (.goto (-38), 3) := by decide +kernel
theorem dX5_arrivalsOfNextDay_80 : decode cX5_arrivalsOfNextDay 80 = .ok (.iload_n 2, 1) := by decide +kernel
theorem dX5_arrivalsOfNextDay_81 : decode cX5_arrivalsOfNextDay 81 = .ok (.ireturn, 1) := by decide +kernel
set_option maxRecDepth 20000 in
theorem ggX5_deliver_X5_answerQuestion : GoodIn wsX5_deliver wsX5_answerQuestion := goodIn_r _ [9, 10, 11, 12, 13, 14, 15, 16, 17, 18, 19, 20, 21, 22, 23, 24, 25, 26, 27, 28, 29, 8, 30, 31, 32, 33, 34, 35, 36, 37, 38, 39, 40, 41, 42, 43, 44, 45, 46, 47, 48, 49, 50, 51, 52, 53, 54, 55, 56, 57, 58, 59, 60, 61, 62, 63, 64, 65, 66, 67, 68, 69, 70, 71, 72, 73, 74, 75, 76, 77, 78, 79, 80, 81, 82, 83, 84, 85, 86, 87, 88, 89, 90, 91, 92, 154, 155, 156, 157, 158, 159, 160, 146, 147, 148, 149, 150, 151, 152, 153, 161, 162, 163, 164, 165, 166, 167, 142, 143, 144, 145, 168, 169] (by decide +kernel) (by decide +kernel)
set_option maxRecDepth 20000 in
theorem gX5_deliver_X5_answerQuestion : GoodIn wsX5_deliver (wsV RX5 236 RX5 yX5_answerQuestion wsX5_answerQuestion) := goodIn_app (goodIn_of _ (by decide +kernel)) ggX5_deliver_X5_answerQuestion
set_option maxRecDepth 20000 in
theorem ggX5_deliver_X5_beginLoan : GoodIn wsX5_deliver wsX5_beginLoan := goodIn_r _ [96, 12, 97, 11, 10, 63, 98, 99, 13, 100, 101, 102, 103, 104, 105, 106, 107, 8, 108, 109, 110, 111, 112, 113, 154, 155, 156, 157, 158, 159, 160, 146, 147, 148, 149, 150, 151, 152, 153, 161, 162, 163, 164, 165, 166, 167, 170, 171, 172] (by decide +kernel) (by decide +kernel)
set_option maxRecDepth 20000 in
theorem gX5_deliver_X5_beginLoan : GoodIn wsX5_deliver (wsV RX5 240 RX5 yX5_beginLoan wsX5_beginLoan) := goodIn_app (goodIn_of _ (by decide +kernel)) ggX5_deliver_X5_beginLoan
set_option maxRecDepth 20000 in
theorem ggX5_deliver_X5_comeHome : GoodIn wsX5_deliver wsX5_comeHome := goodIn_r _ [117, 13, 97, 11, 10, 118, 119, 120, 8, 121, 122, 123, 99, 124, 125, 126, 17, 127, 128, 129, 110, 111, 103, 112, 113, 107, 108, 14, 15, 16, 18, 19, 20, 21, 22, 23, 24, 25, 26, 86, 87, 88, 89, 90, 91, 92, 59, 60, 61, 62, 63, 64, 65, 66, 67, 68, 69, 70, 71, 72, 73, 74, 75, 76, 77, 78, 79, 80, 81, 82, 83, 84, 85, 146, 147, 148, 149, 150, 151, 152, 153, 154, 155, 156, 157, 158, 159, 160, 161, 162, 163, 164, 165, 166, 167, 170, 171, 172, 142, 143, 144, 145, 168, 169] (by decide +kernel) (by decide +kernel)
set_option maxRecDepth 20000 in
theorem gX5_deliver_X5_comeHome : GoodIn wsX5_deliver (wsV RX5 243 RX5 yX5_comeHome wsX5_comeHome) := goodIn_app (goodIn_of _ (by decide +kernel)) ggX5_deliver_X5_comeHome
set_option maxRecDepth 20000 in
theorem ggX5_deliver_X5_prolong : GoodIn wsX5_deliver wsX5_prolong := goodIn_r _ [133, 10, 134, 98, 154, 155, 156, 157, 158, 159, 160] (by decide +kernel) (by decide +kernel)
set_option maxRecDepth 20000 in
theorem gX5_deliver_X5_prolong : GoodIn wsX5_deliver (wsV RX5 246 RX5 yX5_prolong wsX5_prolong) := goodIn_app (goodIn_of _ (by decide +kernel)) ggX5_deliver_X5_prolong
set_option maxRecDepth 20000 in
theorem ggX5_deliver_X5_shorten : GoodIn wsX5_deliver wsX5_shorten := goodIn_r _ [138, 10, 98, 63, 139, 140, 53, 141, 154, 155, 156, 157, 158, 159, 160, 161, 162, 163, 164, 165, 166, 167] (by decide +kernel) (by decide +kernel)
set_option maxRecDepth 20000 in
theorem gX5_deliver_X5_shorten : GoodIn wsX5_deliver (wsV RX5 249 RX5 yX5_shorten wsX5_shorten) := goodIn_app (goodIn_of _ (by decide +kernel)) ggX5_deliver_X5_shorten
theorem dX5_deliver_0 : decode cX5_deliver 0 = .ok (.aload_n 1, 1) := by decide +kernel
theorem dX5_deliver_1 : decode cX5_deliver 1 = .ok (.getfield 228, 3) := by decide +kernel
theorem dX5_deliver_4 : decode cX5_deliver 4 = .ok (.astore_n 2, 1) := by decide +kernel
theorem dX5_deliver_5 : decode cX5_deliver 5 = .ok (.aload_n 2, 1) := by decide +kernel
theorem dX5_deliver_6 : decode cX5_deliver 6 = .ok (.ifnonnull 4, 3) := by decide +kernel
theorem dX5_deliver_9 : decode cX5_deliver 9 = .ok (.return_, 1) := by decide +kernel
theorem dX5_deliver_10 : decode cX5_deliver 10 = .ok (.aload_n 1, 1) := by decide +kernel
theorem dX5_deliver_11 : decode cX5_deliver 11 = .ok (.getfield 229, 3) := by decide +kernel
theorem dX5_deliver_14 : decode cX5_deliver 14 = .ok (.astore_n 3, 1) := by decide +kernel
theorem dX5_deliver_15 : decode cX5_deliver 15 = .ok (.aload_n 3, 1) := by decide +kernel
theorem dX5_deliver_16 : decode cX5_deliver 16 = .ok (.ifnonnull 20, 3) := by decide +kernel
theorem dX5_deliver_19 : decode cX5_deliver 19 = .ok (.aload_n 2, 1) := by decide +kernel
theorem dX5_deliver_20 : decode cX5_deliver 20 = .ok (.aload_n 1, 1) := by decide +kernel
theorem dX5_deliver_21 : decode cX5_deliver 21 = .ok (.getfield 233, 3) := by decide +kernel
theorem dX5_deliver_24 : decode cX5_deliver 24 = .ok (.ifCond .ne 7, 3) := by decide +kernel
theorem dX5_deliver_27 : decode cX5_deliver 27 = .ok (.iconst 1, 1) := by decide +kernel
theorem dX5_deliver_28 : decode cX5_deliver 28 = .ok (.goto 4, 3) := by decide +kernel
theorem dX5_deliver_31 : decode cX5_deliver 31 = .ok (.iconst 0, 1) := by decide +kernel
theorem dX5_deliver_32 : decode cX5_deliver 32 = .ok (.putfield 87, 3) := by decide +kernel
theorem dX5_deliver_35 : decode cX5_deliver 35 = .ok (.return_, 1) := by decide +kernel
theorem dX5_deliver_36 : decode cX5_deliver 36 = .ok (.aload_n 1, 1) := by decide +kernel
theorem dX5_deliver_37 : decode cX5_deliver 37 = .ok (.getfield 233, 3) := by decide +kernel
theorem dX5_deliver_40 : decode cX5_deliver 40 = .ok (.tableswitch 79 2 6 #[36, 45, 54, 63, 71], 36) := by decide +kernel
theorem dX5_deliver_76 : decode cX5_deliver 76 = .ok (.aload_n 0, 1) := by decide +kernel
theorem dX5_deliver_77 : decode cX5_deliver 77 = .ok (.aload_n 2, 1) := by decide +kernel
theorem dX5_deliver_78 : decode cX5_deliver 78 = .ok (.aload_n 3, 1) := by decide +kernel
theorem dX5_deliver_79 : decode cX5_deliver 79 = .ok (.invokevirtual 236, 3) := by decide +kernel
theorem dX5_deliver_82 : decode cX5_deliver 82 = .ok (.goto 37, 3) := by decide +kernel
theorem dX5_deliver_85 : decode cX5_deliver 85 = .ok (.aload_n 0, 1) := by decide +kernel
theorem dX5_deliver_86 : decode cX5_deliver 86 = .ok (.aload_n 2, 1) := by decide +kernel
theorem dX5_deliver_87 : decode cX5_deliver 87 = .ok (.aload_n 3, 1) := by decide +kernel
theorem dX5_deliver_88 : decode cX5_deliver 88 = .ok (.invokevirtual 240, 3) := by decide +kernel
theorem dX5_deliver_91 : decode cX5_deliver 91 = .ok (.goto 28, 3) := by decide +kernel
theorem dX5_deliver_94 : decode cX5_deliver 94 = .ok (.aload_n 0, 1) := by decide +kernel
theorem dX5_deliver_95 : decode cX5_deliver 95 = .ok (.aload_n 2, 1) := by decide +kernel
theorem dX5_deliver_96 : decode cX5_deliver 96 = .ok (.aload_n 3, 1) := by decide +kernel
theorem dX5_deliver_97 : decode cX5_deliver 97 = .ok (.invokevirtual 243, 3) := by decide +kernel
theorem dX5_deliver_100 : decode cX5_deliver 100 = .ok (.goto 19, 3) := by decide +kernel
theorem dX5_deliver_103 : decode cX5_deliver 103 = .ok (.aload_n 0, 1) := by decide +kernel
theorem dX5_deliver_104 : decode cX5_deliver 104 = .ok (.aload_n 3, 1) := by decide +kernel
theorem dX5_deliver_105 : decode cX5_deliver 105 = .ok (.invokevirtual 246, 3) := by decide +kernel
theorem dX5_deliver_108 : decode cX5_deliver 108 = .ok (.goto 11, 3) := by decide +kernel
theorem dX5_deliver_111 : decode cX5_deliver 111 = .ok (.aload_n 0, 1) := by decide +kernel
theorem dX5_deliver_112 : decode cX5_deliver 112 = .ok (.aload_n 3, 1) := by decide +kernel
theorem dX5_deliver_113 : decode cX5_deliver 113 = .ok (.invokevirtual 249, 3) := by decide +kernel
theorem dX5_deliver_116 : decode cX5_deliver 116 = .ok (.goto 3, 3) := by decide +kernel
theorem dX5_deliver_119 : decode cX5_deliver 119 = .ok (.return_, 1) := by decide +kernel
set_option maxRecDepth 20000 in
theorem ggX5_askNextHome_X5_nearestListedFree : GoodIn wsX5_askNextHome wsX5_nearestListedFree := goodIn_r _ [9, 10, 4, 3, 11, 12, 13, 14, 15, 16, 17, 18, 19, 20, 21, 22, 23, 8, 24, 25, 26, 27, 28, 75, 76, 77, 78, 79, 80, 81, 60, 61, 62, 63, 64, 65, 66, 67, 68, 69, 70, 71, 72, 73, 74] (by decide +kernel) (by decide +kernel)
set_option maxRecDepth 20000 in
theorem gX5_askNextHome_X5_nearestListedFree : GoodIn wsX5_askNextHome (wsV RX5 252 RX5 yX5_nearestListedFree wsX5_nearestListedFree) := goodIn_app (goodIn_of _ (by decide +kernel)) ggX5_askNextHome_X5_nearestListedFree
set_option maxRecDepth 20000 in
theorem ggX5_askNextHome_X3_markAsked : GoodIn wsX5_askNextHome wsX3_markAsked := goodIn_r _ [32, 16, 60, 61, 62, 63, 64, 65, 66] (by decide +kernel) (by decide +kernel)
set_option maxRecDepth 20000 in
theorem gX5_askNextHome_X3_markAsked : GoodIn wsX5_askNextHome (wsV RX5 256 RX3 yX3_markAsked wsX3_markAsked) := goodIn_app (goodIn_of _ (by decide +kernel)) ggX5_askNextHome_X3_markAsked
set_option maxRecDepth 20000 in
theorem ggX5_askNextHome_X5_way : GoodIn wsX5_askNextHome wsX5_way := goodIn_r _ [24, 25, 26, 27, 28] (by decide +kernel) (by decide +kernel)
set_option maxRecDepth 20000 in
theorem gX5_askNextHome_X5_way : GoodIn wsX5_askNextHome (va_wsS RX5 152 yX5_way wsX5_way) := goodIn_app (goodIn_of _ (by decide +kernel)) ggX5_askNextHome_X5_way
set_option maxRecDepth 20000 in
theorem ggX5_askNextHome_X5_send : GoodIn wsX5_askNextHome wsX5_send := goodIn_r _ [36, 37, 38, 39, 40, 41, 42, 43, 44, 45, 46, 47, 48, 49, 50, 51, 52, 53, 54, 55, 56, 57, 58, 59, 75, 76, 77, 78, 79, 80, 81, 82, 83, 84, 85, 86, 87] (by decide +kernel) (by decide +kernel)
set_option maxRecDepth 20000 in
theorem gX5_askNextHome_X5_send : GoodIn wsX5_askNextHome (wsV RX5 156 RX5 yX5_send wsX5_send) := goodIn_app (goodIn_of _ (by decide +kernel)) ggX5_askNextHome_X5_send
theorem dX5_askNextHome_0 : decode cX5_askNextHome 0 = .ok (.aload_n 0, 1) := by decide +kernel
theorem dX5_askNextHome_1 : decode cX5_askNextHome 1 = .ok (.aload_n 1, 1) := by decide +kernel
theorem dX5_askNextHome_2 : decode cX5_askNextHome 2 = .ok (.invokevirtual 252, 3) := by decide +kernel
theorem dX5_askNextHome_5 : decode cX5_askNextHome 5 = .ok (.astore_n 2, 1) := by decide +kernel
theorem dX5_askNextHome_6 : decode cX5_askNextHome 6 = .ok (.aload_n 1, 1) := by decide +kernel
theorem dX5_askNextHome_7 : decode cX5_askNextHome 7 = .ok (.aload_n 2, 1) := by decide +kernel
theorem dX5_askNextHome_8 : decode cX5_askNextHome 8 = .ok (.putfield 134, 3) := by decide +kernel
theorem dX5_askNextHome_11 : decode cX5_askNextHome 11 = .ok (.aload_n 2, 1) := by decide +kernel
theorem dX5_askNextHome_12 : decode cX5_askNextHome 12 = .ok (.ifnonnull 9, 3) := by decide +kernel
theorem dX5_askNextHome_15 : decode cX5_askNextHome 15 = .ok (.aload_n 1, 1) := by decide +kernel
theorem dX5_askNextHome_16 : decode cX5_askNextHome 16 = .ok (.iconst 5, 1) := by decide +kernel
theorem dX5_askNextHome_17 : decode cX5_askNextHome 17 = .ok (.putfield 131, 3) := by decide +kernel
theorem dX5_askNextHome_20 : decode cX5_askNextHome 20 = .ok (.return_, 1) := by decide +kernel
theorem dX5_askNextHome_21 : decode cX5_askNextHome 21 = .ok (.aload_n 1, 1) := by decide +kernel
theorem dX5_askNextHome_22 : decode cX5_askNextHome 22 = .ok (.aload_n 2, 1) := by decide +kernel
theorem dX5_askNextHome_23 : decode cX5_askNextHome 23 = .ok (.getfield 149, 3) := by decide +kernel
theorem dX5_askNextHome_26 : decode cX5_askNextHome 26 = .ok (.invokevirtual 256, 3) := by decide +kernel
theorem dX5_askNextHome_29 : decode cX5_askNextHome 29 = .ok (.aload_n 0, 1) := by decide +kernel
theorem dX5_askNextHome_30 : decode cX5_askNextHome 30 = .ok (.iconst 2, 1) := by decide +kernel
theorem dX5_askNextHome_31 : decode cX5_askNextHome 31 = .ok (.aload_n 1, 1) := by decide +kernel
theorem dX5_askNextHome_32 : decode cX5_askNextHome 32 = .ok (.getfield 146, 3) := by decide +kernel
theorem dX5_askNextHome_35 : decode cX5_askNextHome 35 = .ok (.aload_n 2, 1) := by decide +kernel
theorem dX5_askNextHome_36 : decode cX5_askNextHome 36 = .ok (.getfield 149, 3) := by decide +kernel
theorem dX5_askNextHome_39 : decode cX5_askNextHome 39 = .ok (.invokestatic 152, 3) := by decide +kernel
theorem dX5_askNextHome_42 : decode cX5_askNextHome 42 = .ok (.aload_n 2, 1) := by decide +kernel
theorem dX5_askNextHome_43 : decode cX5_askNextHome 43 = .ok (.aload_n 1, 1) := by decide +kernel
theorem dX5_askNextHome_44 : decode cX5_askNextHome 44 = .ok (.invokevirtual 156, 3) := by decide +kernel
theorem dX5_askNextHome_47 : decode cX5_askNextHome 47 = .ok (.pop, 1) := by decide +kernel
theorem dX5_askNextHome_48 : decode cX5_askNextHome 48 = .ok (.return_, 1) := by decide +kernel
set_option maxRecDepth 20000 in
theorem ggX5_nearestListedFree_X3_mayAskFor : GoodIn wsX5_nearestListedFree wsX3_mayAskFor := goodIn_r _ [8, 9, 10, 11, 12, 13, 14, 30, 31, 32, 33, 34, 35, 36, 37, 38, 39, 40, 41, 42, 43, 44] (by decide +kernel) (by decide +kernel)
set_option maxRecDepth 20000 in
theorem gX5_nearestListedFree_X3_mayAskFor : GoodIn wsX5_nearestListedFree (wsV RX5 259 RX3 yX3_mayAskFor wsX3_mayAskFor) := goodIn_app (goodIn_of _ (by decide +kernel)) ggX5_nearestListedFree_X3_mayAskFor
set_option maxRecDepth 20000 in
theorem ggX5_nearestListedFree_X5_way : GoodIn wsX5_nearestListedFree wsX5_way := goodIn_r _ [18, 19, 20, 21, 22] (by decide +kernel) (by decide +kernel)
set_option maxRecDepth 20000 in
theorem gX5_nearestListedFree_X5_way : GoodIn wsX5_nearestListedFree (va_wsS RX5 152 yX5_way wsX5_way) := goodIn_app (goodIn_of _ (by decide +kernel)) ggX5_nearestListedFree_X5_way
theorem dX5_nearestListedFree_0 : decode cX5_nearestListedFree 0 = .ok (.aconst_null, 1) := by decide +kernel
theorem dX5_nearestListedFree_1 : decode cX5_nearestListedFree 1 = .ok (.astore_n 2, 1) := by decide +kernel
theorem dX5_nearestListedFree_2 : decode cX5_nearestListedFree 2 = .ok (.iconst 0, 1) := by decide +kernel
theorem dX5_nearestListedFree_3 : decode cX5_nearestListedFree 3 = .ok (.istore_n 3, 1) := by decide +kernel
theorem dX5_nearestListedFree_4 : decode cX5_nearestListedFree 4 = .ok (.aload_n 0, 1) := by decide +kernel
theorem dX5_nearestListedFree_5 : decode cX5_nearestListedFree 5 = .ok (.getfield 11, 3) := by decide +kernel
theorem dX5_nearestListedFree_8 : decode cX5_nearestListedFree 8 = .ok (.astore 4, 2) := by decide +kernel
theorem dX5_nearestListedFree_10 : decode cX5_nearestListedFree 10 = .ok (.aload 4, 2) := by decide +kernel
theorem dX5_nearestListedFree_12 : decode cX5_nearestListedFree 12 = .ok (.arraylength, 1) := by decide +kernel
theorem dX5_nearestListedFree_13 : decode cX5_nearestListedFree 13 = .ok (.istore 5, 2) := by decide +kernel
theorem dX5_nearestListedFree_15 : decode cX5_nearestListedFree 15 = .ok (.iconst 0, 1) := by decide +kernel
theorem dX5_nearestListedFree_16 : decode cX5_nearestListedFree 16 = .ok (.istore 6, 2) := by decide +kernel
theorem dX5_nearestListedFree_18 : decode cX5_nearestListedFree 18 = .ok (.iload 6, 2) := by decide +kernel
theorem dX5_nearestListedFree_20 : decode cX5_nearestListedFree 20 = .ok (.iload 5, 2) := by decide +kernel
theorem dX5_nearestListedFree_22 : decode cX5_nearestListedFree 22 = .ok (.if_icmp .ge 63, 3) := by decide +kernel
theorem dX5_nearestListedFree_25 : decode cX5_nearestListedFree 25 = .ok (.aload 4, 2) := by decide +kernel
theorem dX5_nearestListedFree_27 : decode cX5_nearestListedFree 27 = .ok (.iload 6, 2) := by decide +kernel
theorem dX5_nearestListedFree_29 : decode cX5_nearestListedFree 29 = .ok (.aaload, 1) := by decide +kernel
theorem dX5_nearestListedFree_30 : decode cX5_nearestListedFree 30 = .ok (.astore 7, 2) := by decide +kernel
theorem dX5_nearestListedFree_32 : decode cX5_nearestListedFree 32 = .ok (.aload 7, 2) := by decide +kernel
theorem dX5_nearestListedFree_34 : decode cX5_nearestListedFree 34 = .ok (.ifnull 45, 3) := by decide +kernel
theorem dX5_nearestListedFree_37 : decode cX5_nearestListedFree 37 = .ok (.aload_n 1, 1) := by decide +kernel
theorem dX5_nearestListedFree_38 : decode cX5_nearestListedFree 38 = .ok (.aload 7, 2) := by decide +kernel
theorem dX5_nearestListedFree_40 : decode cX5_nearestListedFree 40 = .ok (.invokevirtual 259, 3) := by decide +kernel
theorem dX5_nearestListedFree_43 : decode cX5_nearestListedFree 43 = .ok (.ifCond .ne 6, 3) := by decide +kernel
theorem dX5_nearestListedFree_46 : decode cX5_nearestListedFree 46 = .ok (.goto 33, 3) := by decide +kernel
theorem dX5_nearestListedFree_49 : decode cX5_nearestListedFree 49 = .ok (.aload_n 1, 1) := by decide +kernel
theorem dX5_nearestListedFree_50 : decode cX5_nearestListedFree 50 = .ok (.getfield 146, 3) := by decide +kernel
theorem dX5_nearestListedFree_53 : decode cX5_nearestListedFree 53 = .ok (.aload 7, 2) := by decide +kernel
theorem dX5_nearestListedFree_55 : decode cX5_nearestListedFree 55 = .ok (.getfield 149, 3) := by decide +kernel
theorem dX5_nearestListedFree_58 : decode cX5_nearestListedFree 58 = .ok (.invokestatic 152, 3) := by decide +kernel
theorem dX5_nearestListedFree_61 : decode cX5_nearestListedFree 61 = .ok (.istore 8, 2) := by decide +kernel
theorem dX5_nearestListedFree_63 : decode cX5_nearestListedFree 63 = .ok (.aload_n 2, 1) := by decide +kernel
theorem dX5_nearestListedFree_64 : decode cX5_nearestListedFree 64 = .ok (.ifnull 9, 3) := by decide +kernel
theorem dX5_nearestListedFree_67 : decode cX5_nearestListedFree 67 = .ok (.iload 8, 2) := by decide +kernel
theorem dX5_nearestListedFree_69 : decode cX5_nearestListedFree 69 = .ok (.iload_n 3, 1) := by decide +kernel
theorem dX5_nearestListedFree_70 : decode cX5_nearestListedFree 70 = .ok (.if_icmp .ge 9, 3) := by decide +kernel
