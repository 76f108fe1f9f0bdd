theorem dX6_ask_135 : decode cX6_ask 135 = .ok (.iastore, 1) := by decide +kernel
theorem dX6_ask_136 : decode cX6_ask 136 = .ok (.aload_n 0, 1) := by decide +kernel
theorem dX6_ask_137 : decode cX6_ask 137 = .ok (.getfield 37, 3) := by decide +kernel
theorem dX6_ask_140 : decode cX6_ask 140 = .ok (.iload_n 1, 1) := by decide +kernel
theorem dX6_ask_141 : decode cX6_ask 141 = .ok (.iload_n 2, 1) := by decide +kernel
theorem dX6_ask_142 : decode cX6_ask 142 = .ok (.ifCond .ge 7, 3) := by decide +kernel
theorem dX6_ask_145 : decode cX6_ask 145 = .ok (.iconst 5, 1) := by decide +kernel
theorem dX6_ask_146 : decode cX6_ask 146 = .ok (.goto 4, 3) := by decide +kernel
theorem dX6_ask_149 : decode cX6_ask 149 = .ok (.iconst 0, 1) := by decide +kernel
theorem dX6_ask_150 : decode cX6_ask 150 = .ok (.iastore, 1) := by decide +kernel
theorem dX6_ask_151 : decode cX6_ask 151 = .ok (.iload_n 2, 1) := by decide +kernel
theorem dX6_ask_152 : decode cX6_ask 152 = .ok (.ifCond .lt 43, 3) := by decide +kernel
theorem dX6_ask_155 : decode cX6_ask 155 = .ok (.aload_n 0, 1) := by decide +kernel
theorem dX6_ask_156 : decode cX6_ask 156 = .ok (.getfield 46, 3) := by decide +kernel
theorem dX6_ask_159 : decode cX6_ask 159 = .ok (.iload_n 1, 1) := by decide +kernel
theorem dX6_ask_160 : decode cX6_ask 160 = .ok (.dup2, 1) := by decide +kernel
theorem dX6_ask_161 : decode cX6_ask 161 = .ok (.iaload, 1) := by decide +kernel
theorem dX6_ask_162 : decode cX6_ask 162 = .ok (.iconst 1, 1) := by decide +kernel
theorem dX6_ask_163 : decode cX6_ask 163 = .ok (.aload_n 0, 1) := by decide +kernel
theorem dX6_ask_164 : decode cX6_ask 164 = .ok (.getfield 7, 3) := by decide +kernel
theorem dX6_ask_167 : decode cX6_ask 167 = .ok (.iload_n 2, 1) := by decide +kernel
theorem dX6_ask_168 : decode cX6_ask 168 = .ok (.iaload, 1) := by decide +kernel
theorem dX6_ask_169 : decode cX6_ask 169 = .ok (.ishl, 1) := by decide +kernel
theorem dX6_ask_170 : decode cX6_ask 170 = .ok (.ior, 1) := by decide +kernel
theorem dX6_ask_171 : decode cX6_ask 171 = .ok (.iastore, 1) := by decide +kernel
theorem dX6_ask_172 : decode cX6_ask 172 = .ok (.aload_n 0, 1) := by decide +kernel
theorem dX6_ask_173 : decode cX6_ask 173 = .ok (.iconst 2, 1) := by decide +kernel
theorem dX6_ask_174 : decode cX6_ask 174 = .ok (.iload_n 1, 1) := by decide +kernel
theorem dX6_ask_175 : decode cX6_ask 175 = .ok (.aload_n 0, 1) := by decide +kernel
theorem dX6_ask_176 : decode cX6_ask 176 = .ok (.aload_n 0, 1) := by decide +kernel
theorem dX6_ask_177 : decode cX6_ask 177 = .ok (.getfield 7, 3) := by decide +kernel
theorem dX6_ask_180 : decode cX6_ask 180 = .ok (.iload_n 2, 1) := by decide +kernel
theorem dX6_ask_181 : decode cX6_ask 181 = .ok (.iaload, 1) := by decide +kernel
theorem dX6_ask_182 : decode cX6_ask 182 = .ok (.aload_n 0, 1) := by decide +kernel
theorem dX6_ask_183 : decode cX6_ask 183 = .ok (.getfield 31, 3) := by decide +kernel
theorem dX6_ask_186 : decode cX6_ask 186 = .ok (.iload_n 1, 1) := by decide +kernel
theorem dX6_ask_187 : decode cX6_ask 187 = .ok (.iaload, 1) := by decide +kernel
theorem dX6_ask_188 : decode cX6_ask 188 = .ok (.invokevirtual 116, 3) := by decide +kernel
theorem dX6_ask_191 : decode cX6_ask 191 = .ok (.invokevirtual 87, 3) := by decide +kernel
theorem dX6_ask_194 : decode cX6_ask 194 = .ok (.pop, 1) := by decide +kernel
theorem dX6_ask_195 : decode cX6_ask 195 = .ok (.return_, 1) := by decide +kernel
set_option maxRecDepth 20000 in
theorem ggX6_request_X6_isHouse : GoodIn wsX6_request wsX6_isHouse := goodIn_r _ [8, 9, 10, 11, 7, 12] (by decide +kernel) (by decide +kernel)
set_option maxRecDepth 20000 in
theorem gX6_request_X6_isHouse : GoodIn wsX6_request (wsV RX6 91 RX6 yX6_isHouse wsX6_isHouse) := goodIn_app (goodIn_of _ (by decide +kernel)) ggX6_request_X6_isHouse
set_option maxRecDepth 20000 in
theorem ggX6_request_X6_between : GoodIn wsX6_request wsX6_between := goodIn_r _ [12] (by decide +kernel) (by decide +kernel)
set_option maxRecDepth 20000 in
theorem gX6_request_X6_between : GoodIn wsX6_request (wsV RX6 71 RX6 yX6_between wsX6_between) := goodIn_app (goodIn_of _ (by decide +kernel)) ggX6_request_X6_between
set_option maxRecDepth 20000 in
theorem ggX6_request_X6_holds : GoodIn wsX6_request wsX6_holds := goodIn_r _ [16, 17, 42, 43, 44, 45, 46, 47, 48, 49, 50, 51, 52, 53, 54, 55, 56, 57, 58, 59, 60, 61, 62, 63, 64, 65] (by decide +kernel) (by decide +kernel)
set_option maxRecDepth 20000 in
theorem gX6_request_X6_holds : GoodIn wsX6_request (wsV RX6 95 RX6 yX6_holds wsX6_holds) := goodIn_app (goodIn_of _ (by decide +kernel)) ggX6_request_X6_holds
set_option maxRecDepth 20000 in
theorem ggX6_request_X6_ask : GoodIn wsX6_request wsX6_ask := goodIn_r _ [21, 22, 23, 3, 24, 25, 2, 26, 27, 28, 29, 30, 31, 7, 32, 33, 34, 35, 36, 37, 38, 39, 40, 41, 42, 43, 44, 45, 46, 47, 48, 49, 50, 51, 52, 53, 54, 55, 56, 57, 58, 59, 60, 61, 62, 63, 64, 65] (by decide +kernel) (by decide +kernel)
set_option maxRecDepth 20000 in
theorem gX6_request_X6_ask : GoodIn wsX6_request (wsV RX6 120 RX6 yX6_ask wsX6_ask) := goodIn_app (goodIn_of _ (by decide +kernel)) ggX6_request_X6_ask
theorem dX6_request_0 : decode cX6_request 0 = .ok (.aload_n 0, 1) := by decide +kernel
theorem dX6_request_1 : decode cX6_request 1 = .ok (.aload_n 0, 1) := by decide +kernel
theorem dX6_request_2 : decode cX6_request 2 = .ok (.iload_n 1, 1) := by decide +kernel
theorem dX6_request_3 : decode cX6_request 3 = .ok (.invokevirtual 91, 3) := by decide +kernel
theorem dX6_request_6 : decode cX6_request 6 = .ok (.ifCond .eq 14, 3) := by decide +kernel
theorem dX6_request_9 : decode cX6_request 9 = .ok (.aload_n 0, 1) := by decide +kernel
theorem dX6_request_10 : decode cX6_request 10 = .ok (.iload_n 2, 1) := by decide +kernel
theorem dX6_request_11 : decode cX6_request 11 = .ok (.iconst 0, 1) := by decide +kernel
theorem dX6_request_12 : decode cX6_request 12 = .ok (.bipush 7, 2) := by decide +kernel
theorem dX6_request_14 : decode cX6_request 14 = .ok (.invokevirtual 71, 3) := by decide +kernel
theorem dX6_request_17 : decode cX6_request 17 = .ok (.ifCond .ne 7, 3) := by decide +kernel
theorem dX6_request_20 : decode cX6_request 20 = .ok (.iconst 1, 1) := by decide +kernel
theorem dX6_request_21 : decode cX6_request 21 = .ok (.goto 17, 3) := by decide +kernel
theorem dX6_request_24 : decode cX6_request 24 = .ok (.aload_n 0, 1) := by decide +kernel
theorem dX6_request_25 : decode cX6_request 25 = .ok (.getfield 78, 3) := by decide +kernel
theorem dX6_request_28 : decode cX6_request 28 = .ok (.bipush 40, 2) := by decide +kernel
theorem dX6_request_30 : decode cX6_request 30 = .ok (.if_icmp .ne 7, 3) := by decide +kernel
theorem dX6_request_33 : decode cX6_request 33 = .ok (.iconst 2, 1) := by decide +kernel
theorem dX6_request_34 : decode cX6_request 34 = .ok (.goto 4, 3) := by decide +kernel
theorem dX6_request_37 : decode cX6_request 37 = .ok (.iconst 0, 1) := by decide +kernel
theorem dX6_request_38 : decode cX6_request 38 = .ok (.invokevirtual 95, 3) := by decide +kernel
theorem dX6_request_41 : decode cX6_request 41 = .ok (.ifCond .eq 5, 3) := by decide +kernel
theorem dX6_request_44 : decode cX6_request 44 = .ok (.iconst (-1), 1) := by decide +kernel
theorem dX6_request_45 : decode cX6_request 45 = .ok (.ireturn, 1) := by decide +kernel
theorem dX6_request_46 : decode cX6_request 46 = .ok (.aload_n 0, 1) := by decide +kernel
theorem dX6_request_47 : decode cX6_request 47 = .ok (.getfield 31, 3) := by decide +kernel
theorem dX6_request_50 : decode cX6_request 50 = .ok (.aload_n 0, 1) := by decide +kernel
theorem dX6_request_51 : decode cX6_request 51 = .ok (.getfield 78, 3) := by decide +kernel
theorem dX6_request_54 : decode cX6_request 54 = .ok (.iload_n 1, 1) := by decide +kernel
theorem dX6_request_55 : decode cX6_request 55 = .ok (.iastore, 1) := by decide +kernel
theorem dX6_request_56 : decode cX6_request 56 = .ok (.aload_n 0, 1) := by decide +kernel
theorem dX6_request_57 : decode cX6_request 57 = .ok (.getfield 34, 3) := by decide +kernel
theorem dX6_request_60 : decode cX6_request 60 = .ok (.aload_n 0, 1) := by decide +kernel
theorem dX6_request_61 : decode cX6_request 61 = .ok (.getfield 78, 3) := by decide +kernel
theorem dX6_request_64 : decode cX6_request 64 = .ok (.iload_n 2, 1) := by decide +kernel
theorem dX6_request_65 : decode cX6_request 65 = .ok (.iastore, 1) := by decide +kernel
theorem dX6_request_66 : decode cX6_request 66 = .ok (.aload_n 0, 1) := by decide +kernel
theorem dX6_request_67 : decode cX6_request 67 = .ok (.dup, 1) := by decide +kernel
theorem dX6_request_68 : decode cX6_request 68 = .ok (.getfield 78, 3) := by decide +kernel
theorem dX6_request_71 : decode cX6_request 71 = .ok (.iconst 1, 1) := by decide +kernel
theorem dX6_request_72 : decode cX6_request 72 = .ok (.iadd, 1) := by decide +kernel
theorem dX6_request_73 : decode cX6_request 73 = .ok (.putfield 78, 3) := by decide +kernel
theorem dX6_request_76 : decode cX6_request 76 = .ok (.aload_n 0, 1) := by decide +kernel
theorem dX6_request_77 : decode cX6_request 77 = .ok (.aload_n 0, 1) := by decide +kernel
theorem dX6_request_78 : decode cX6_request 78 = .ok (.getfield 78, 3) := by decide +kernel
theorem dX6_request_81 : decode cX6_request 81 = .ok (.iconst 1, 1) := by decide +kernel
theorem dX6_request_82 : decode cX6_request 82 = .ok (.isub, 1) := by decide +kernel
theorem dX6_request_83 : decode cX6_request 83 = .ok (.invokevirtual 120, 3) := by decide +kernel
theorem dX6_request_86 : decode cX6_request 86 = .ok (.aload_n 0, 1) := by decide +kernel
theorem dX6_request_87 : decode cX6_request 87 = .ok (.getfield 78, 3) := by decide +kernel
theorem dX6_request_90 : decode cX6_request 90 = .ok (.iconst 1, 1) := by decide +kernel
theorem dX6_request_91 : decode cX6_request 91 = .ok (.isub, 1) := by decide +kernel
theorem dX6_request_92 : decode cX6_request 92 = .ok (.ireturn, 1) := by decide +kernel
set_option maxRecDepth 20000 in
theorem ggX6_state_X6_isRequest : GoodIn wsX6_state wsX6_isRequest := goodIn_r _ [6, 7, 8, 9, 10, 5, 11, 17, 18, 19, 20, 21, 22, 23, 24, 25, 26, 27, 28, 29, 30, 31, 32, 33, 34, 35, 36, 37, 38, 39, 40] (by decide +kernel) (by decide +kernel)
set_option maxRecDepth 20000 in
theorem gX6_state_X6_isRequest : GoodIn wsX6_state (wsV RX6 124 RX6 yX6_isRequest wsX6_isRequest) := goodIn_app (goodIn_of _ (by decide +kernel)) ggX6_state_X6_isRequest
set_option maxRecDepth 20000 in
theorem ggX6_state_X6_holds : GoodIn wsX6_state wsX6_holds := goodIn_r _ [15, 16, 17, 18, 19, 20, 21, 22, 23, 24, 25, 26, 27, 28, 29, 30, 31, 32, 33, 34, 35, 36, 37, 38, 39, 40] (by decide +kernel) (by decide +kernel)
set_option maxRecDepth 20000 in
theorem gX6_state_X6_holds : GoodIn wsX6_state (wsV RX6 95 RX6 yX6_holds wsX6_holds) := goodIn_app (goodIn_of _ (by decide +kernel)) ggX6_state_X6_holds
theorem dX6_state_0 : decode cX6_state 0 = .ok (.aload_n 0, 1) := by decide +kernel
theorem dX6_state_1 : decode cX6_state 1 = .ok (.aload_n 0, 1) := by decide +kernel
theorem dX6_state_2 : decode cX6_state 2 = .ok (.iload_n 1, 1) := by decide +kernel
theorem dX6_state_3 : decode cX6_state 3 = .ok (.invokevirtual 124, 3) := by decide +kernel
theorem dX6_state_6 : decode cX6_state 6 = .ok (.ifCond .eq 7, 3) := by decide +kernel
theorem dX6_state_9 : decode cX6_state 9 = .ok (.iconst 0, 1) := by decide +kernel
theorem dX6_state_10 : decode cX6_state 10 = .ok (.goto 4, 3) := by decide +kernel
theorem dX6_state_13 : decode cX6_state 13 = .ok (.iconst 1, 1) := by decide +kernel
theorem dX6_state_14 : decode cX6_state 14 = .ok (.invokevirtual 95, 3) := by decide +kernel
theorem dX6_state_17 : decode cX6_state 17 = .ok (.ifCond .eq 7, 3) := by decide +kernel
theorem dX6_state_20 : decode cX6_state 20 = .ok (.iconst (-1), 1) := by decide +kernel
theorem dX6_state_21 : decode cX6_state 21 = .ok (.goto 9, 3) := by decide +kernel
theorem dX6_state_24 : decode cX6_state 24 = .ok (.aload_n 0, 1) := by decide +kernel
theorem dX6_state_25 : decode cX6_state 25 = .ok (.getfield 37, 3) := by decide +kernel
theorem dX6_state_28 : decode cX6_state 28 = .ok (.iload_n 1, 1) := by decide +kernel
theorem dX6_state_29 : decode cX6_state 29 = .ok (.iaload, 1) := by decide +kernel
theorem dX6_state_30 : decode cX6_state 30 = .ok (.ireturn, 1) := by decide +kernel
set_option maxRecDepth 20000 in
theorem ggX6_copyOf_X6_isRequest : GoodIn wsX6_copyOf wsX6_isRequest := goodIn_r _ [6, 7, 8, 9, 10, 5, 11, 17, 18, 19, 20, 21, 22, 23, 24, 25, 26, 27, 28, 29, 30, 31, 32, 33, 34, 35, 36, 37, 38, 39, 40] (by decide +kernel) (by decide +kernel)
set_option maxRecDepth 20000 in
theorem gX6_copyOf_X6_isRequest : GoodIn wsX6_copyOf (wsV RX6 124 RX6 yX6_isRequest wsX6_isRequest) := goodIn_app (goodIn_of _ (by decide +kernel)) ggX6_copyOf_X6_isRequest
set_option maxRecDepth 20000 in
theorem ggX6_copyOf_X6_holds : GoodIn wsX6_copyOf wsX6_holds := goodIn_r _ [15, 16, 17, 18, 19, 20, 21, 22, 23, 24, 25, 26, 27, 28, 29, 30, 31, 32, 33, 34, 35, 36, 37, 38, 39, 40] (by decide +kernel) (by decide +kernel)
set_option maxRecDepth 20000 in
theorem gX6_copyOf_X6_holds : GoodIn wsX6_copyOf (wsV RX6 95 RX6 yX6_holds wsX6_holds) := goodIn_app (goodIn_of _ (by decide +kernel)) ggX6_copyOf_X6_holds
theorem dX6_copyOf_0 : decode cX6_copyOf 0 = .ok (.aload_n 0, 1) := by decide +kernel
theorem dX6_copyOf_1 : decode cX6_copyOf 1 = .ok (.aload_n 0, 1) := by decide +kernel
theorem dX6_copyOf_2 : decode cX6_copyOf 2 = .ok (.iload_n 1, 1) := by decide +kernel
theorem dX6_copyOf_3 : decode cX6_copyOf 3 = .ok (.invokevirtual 124, 3) := by decide +kernel
theorem dX6_copyOf_6 : decode cX6_copyOf 6 = .ok (.ifCond .eq 7, 3) := by decide +kernel
theorem dX6_copyOf_9 : decode cX6_copyOf 9 = .ok (.iconst 0, 1) := by decide +kernel
theorem dX6_copyOf_10 : decode cX6_copyOf 10 = .ok (.goto 4, 3) := by decide +kernel
theorem dX6_copyOf_13 : decode cX6_copyOf 13 = .ok (.iconst 1, 1) := by decide +kernel
theorem dX6_copyOf_14 : decode cX6_copyOf 14 = .ok (.invokevirtual 95, 3) := by decide +kernel
theorem dX6_copyOf_17 : decode cX6_copyOf 17 = .ok (.ifCond .eq 7, 3) := by decide +kernel
theorem dX6_copyOf_20 : decode cX6_copyOf 20 = .ok (.iconst (-1), 1) := by decide +kernel
theorem dX6_copyOf_21 : decode cX6_copyOf 21 = .ok (.goto 9, 3) := by decide +kernel
theorem dX6_copyOf_24 : decode cX6_copyOf 24 = .ok (.aload_n 0, 1) := by decide +kernel
theorem dX6_copyOf_25 : decode cX6_copyOf 25 = .ok (.getfield 40, 3) := by decide +kernel
theorem dX6_copyOf_28 : decode cX6_copyOf 28 = .ok (.iload_n 1, 1) := by decide +kernel
theorem dX6_copyOf_29 : decode cX6_copyOf 29 = .ok (.iaload, 1) := by decide +kernel
theorem dX6_copyOf_30 : decode cX6_copyOf 30 = .ok (.ireturn, 1) := by decide +kernel
set_option maxRecDepth 20000 in
theorem ggX6_refuses_X6_isRequest : GoodIn wsX6_refuses wsX6_isRequest := goodIn_r _ [6, 7, 8, 9, 10, 5, 11, 12, 13, 14, 15, 16, 17, 18, 19, 20, 21, 22, 23, 24, 25, 26, 27, 28, 29, 30, 31, 32, 33, 34, 35] (by decide +kernel) (by decide +kernel)
set_option maxRecDepth 20000 in
theorem gX6_refuses_X6_isRequest : GoodIn wsX6_refuses (wsV RX6 124 RX6 yX6_isRequest wsX6_isRequest) := goodIn_app (goodIn_of _ (by decide +kernel)) ggX6_refuses_X6_isRequest
theorem dX6_refuses_0 : decode cX6_refuses 0 = .ok (.aload_n 0, 1) := by decide +kernel
theorem dX6_refuses_1 : decode cX6_refuses 1 = .ok (.iload_n 1, 1) := by decide +kernel
theorem dX6_refuses_2 : decode cX6_refuses 2 = .ok (.invokevirtual 124, 3) := by decide +kernel
theorem dX6_refuses_5 : decode cX6_refuses 5 = .ok (.ifCond .ne 7, 3) := by decide +kernel
theorem dX6_refuses_8 : decode cX6_refuses 8 = .ok (.iconst 1, 1) := by decide +kernel
theorem dX6_refuses_9 : decode cX6_refuses 9 = .ok (.goto 18, 3) := by decide +kernel
theorem dX6_refuses_12 : decode cX6_refuses 12 = .ok (.aload_n 0, 1) := by decide +kernel
theorem dX6_refuses_13 : decode cX6_refuses 13 = .ok (.getfield 37, 3) := by decide +kernel
theorem dX6_refuses_16 : decode cX6_refuses 16 = .ok (.iload_n 1, 1) := by decide +kernel
theorem dX6_refuses_17 : decode cX6_refuses 17 = .ok (.iaload, 1) := by decide +kernel
theorem dX6_refuses_18 : decode cX6_refuses 18 = .ok (.iconst 2, 1) := by decide +kernel
theorem dX6_refuses_19 : decode cX6_refuses 19 = .ok (.if_icmp .ne 7, 3) := by decide +kernel
theorem dX6_refuses_22 : decode cX6_refuses 22 = .ok (.iconst 0, 1) := by decide +kernel
theorem dX6_refuses_23 : decode cX6_refuses 23 = .ok (.goto 4, 3) := by decide +kernel
theorem dX6_refuses_26 : decode cX6_refuses 26 = .ok (.iconst 2, 1) := by decide +kernel
theorem dX6_refuses_27 : decode cX6_refuses 27 = .ok (.ireturn, 1) := by decide +kernel
set_option maxRecDepth 20000 in
theorem ggX6_due_X6_refuses : GoodIn wsX6_due wsX6_refuses := goodIn_r _ [6, 7, 8, 9, 10, 5, 11, 12, 13, 14, 15, 16, 22, 23, 24, 25, 26, 27, 28, 29, 30, 31, 32, 33, 34, 35, 36, 37, 38, 39, 40, 41, 42, 43, 44, 45] (by decide +kernel) (by decide +kernel)
set_option maxRecDepth 20000 in
theorem gX6_due_X6_refuses : GoodIn wsX6_due (wsV RX6 127 RX6 yX6_refuses wsX6_refuses) := goodIn_app (goodIn_of _ (by decide +kernel)) ggX6_due_X6_refuses
set_option maxRecDepth 20000 in
theorem ggX6_due_X6_holds : GoodIn wsX6_due wsX6_holds := goodIn_r _ [20, 21, 22, 23, 24, 25, 26, 27, 28, 29, 30, 31, 32, 33, 34, 35, 36, 37, 38, 39, 40, 41, 42, 43, 44, 45] (by decide +kernel) (by decide +kernel)
set_option maxRecDepth 20000 in
theorem gX6_due_X6_holds : GoodIn wsX6_due (wsV RX6 95 RX6 yX6_holds wsX6_holds) := goodIn_app (goodIn_of _ (by decide +kernel)) ggX6_due_X6_holds
theorem dX6_due_0 : decode cX6_due 0 = .ok (.aload_n 0, 1) := by decide +kernel
theorem dX6_due_1 : decode cX6_due 1 = .ok (.aload_n 0, 1) := by decide +kernel
theorem dX6_due_2 : decode cX6_due 2 = .ok (.iload_n 1, 1) := by decide +kernel
theorem dX6_due_3 : decode cX6_due 3 = .ok (.invokevirtual 127, 3) := by decide +kernel
theorem dX6_due_6 : decode cX6_due 6 = .ok (.invokevirtual 95, 3) := by decide +kernel
theorem dX6_due_9 : decode cX6_due 9 = .ok (.ifCond .eq 7, 3) := by decide +kernel
theorem dX6_due_12 : decode cX6_due 12 = .ok (.iconst (-1), 1) := by decide +kernel
theorem dX6_due_13 : decode cX6_due 13 = .ok (.goto 9, 3) := by decide +kernel
theorem dX6_due_16 : decode cX6_due 16 = .ok (.aload_n 0, 1) := by decide +kernel
theorem dX6_due_17 : decode cX6_due 17 = .ok (.getfield 43, 3) := by decide +kernel
theorem dX6_due_20 : decode cX6_due 20 = .ok (.iload_n 1, 1) := by decide +kernel
theorem dX6_due_21 : decode cX6_due 21 = .ok (.iaload, 1) := by decide +kernel
theorem dX6_due_22 : decode cX6_due 22 = .ok (.ireturn, 1) := by decide +kernel
set_option maxRecDepth 20000 in
theorem ggX6_length_X6_way : GoodIn wsX6_length wsX6_way := goodIn_r _ [8] (by decide +kernel) (by decide +kernel)
set_option maxRecDepth 20000 in
theorem gX6_length_X6_way : GoodIn wsX6_length (wsV RX6 116 RX6 yX6_way wsX6_way) := goodIn_app (goodIn_of _ (by decide +kernel)) ggX6_length_X6_way
theorem dX6_length_0 : decode cX6_length 0 = .ok (.aload_n 0, 1) := by decide +kernel
theorem dX6_length_1 : decode cX6_length 1 = .ok (.aload_n 0, 1) := by decide +kernel
theorem dX6_length_2 : decode cX6_length 2 = .ok (.getfield 31, 3) := by decide +kernel
theorem dX6_length_5 : decode cX6_length 5 = .ok (.iload_n 1, 1) := by decide +kernel
theorem dX6_length_6 : decode cX6_length 6 = .ok (.iaload, 1) := by decide +kernel
theorem dX6_length_7 : decode cX6_length 7 = .ok (.aload_n 0, 1) := by decide +kernel
theorem dX6_length_8 : decode cX6_length 8 = .ok (.getfield 7, 3) := by decide +kernel
theorem dX6_length_11 : decode cX6_length 11 = .ok (.aload_n 0, 1) := by decide +kernel
theorem dX6_length_12 : decode cX6_length 12 = .ok (.getfield 40, 3) := by decide +kernel
theorem dX6_length_15 : decode cX6_length 15 = .ok (.iload_n 1, 1) := by decide +kernel
theorem dX6_length_16 : decode cX6_length 16 = .ok (.iaload, 1) := by decide +kernel
theorem dX6_length_17 : decode cX6_length 17 = .ok (.iaload, 1) := by decide +kernel
theorem dX6_length_18 : decode cX6_length 18 = .ok (.invokevirtual 116, 3) := by decide +kernel
theorem dX6_length_21 : decode cX6_length 21 = .ok (.ireturn, 1) := by decide +kernel
set_option maxRecDepth 20000 in
theorem ggX6_renew_X6_refuses : GoodIn wsX6_renew wsX6_refuses := goodIn_r _ [5, 6, 7, 8, 9, 4, 10, 11, 12, 13, 14, 15, 41, 42, 43, 44, 45, 46, 47, 48, 49, 50, 51, 52, 53, 54, 55, 56, 57, 58, 59, 60, 61, 62, 63, 64] (by decide +kernel) (by decide +kernel)
set_option maxRecDepth 20000 in
theorem gX6_renew_X6_refuses : GoodIn wsX6_renew (wsV RX6 127 RX6 yX6_refuses wsX6_refuses) := goodIn_app (goodIn_of _ (by decide +kernel)) ggX6_renew_X6_refuses
set_option maxRecDepth 20000 in
theorem ggX6_renew_X6_holds : GoodIn wsX6_renew wsX6_holds := goodIn_r _ [19, 20, 41, 42, 43, 44, 45, 46, 47, 48, 49, 50, 51, 52, 53, 54, 55, 56, 57, 58, 59, 60, 61, 62, 63, 64] (by decide +kernel) (by decide +kernel)
set_option maxRecDepth 20000 in
theorem gX6_renew_X6_holds : GoodIn wsX6_renew (wsV RX6 95 RX6 yX6_holds wsX6_holds) := goodIn_app (goodIn_of _ (by decide +kernel)) ggX6_renew_X6_holds
set_option maxRecDepth 20000 in
theorem ggX6_renew_X6_length : GoodIn wsX6_renew wsX6_length := goodIn_r _ [24, 25, 26, 27, 28, 29, 30, 4, 31, 41, 42, 43, 44, 45, 46, 47, 48, 49, 50, 51, 52, 53, 54, 55, 56, 57, 58, 59, 60, 61, 62, 63, 64] (by decide +kernel) (by decide +kernel)
set_option maxRecDepth 20000 in
theorem gX6_renew_X6_length : GoodIn wsX6_renew (wsV RX6 130 RX6 yX6_length wsX6_length) := goodIn_app (goodIn_of _ (by decide +kernel)) ggX6_renew_X6_length
set_option maxRecDepth 20000 in
theorem ggX6_renew_X6_send : GoodIn wsX6_renew wsX6_send := goodIn_r _ [35, 36, 37, 38, 39, 40, 41, 42, 43, 44, 45, 46, 47, 48, 49, 50, 51, 52, 53, 54, 55, 56, 57, 58, 59, 60, 61, 62, 63, 64] (by decide +kernel) (by decide +kernel)
set_option maxRecDepth 20000 in
theorem gX6_renew_X6_send : GoodIn wsX6_renew (wsV RX6 87 RX6 yX6_send wsX6_send) := goodIn_app (goodIn_of _ (by decide +kernel)) ggX6_renew_X6_send
theorem dX6_renew_0 : decode cX6_renew 0 = .ok (.aload_n 0, 1) := by decide +kernel
theorem dX6_renew_1 : decode cX6_renew 1 = .ok (.aload_n 0, 1) := by decide +kernel
theorem dX6_renew_2 : decode cX6_renew 2 = .ok (.iload_n 1, 1) := by decide +kernel
theorem dX6_renew_3 : decode cX6_renew 3 = .ok (.invokevirtual 127, 3) := by decide +kernel
theorem dX6_renew_6 : decode cX6_renew 6 = .ok (.invokevirtual 95, 3) := by decide +kernel
theorem dX6_renew_9 : decode cX6_renew 9 = .ok (.ifCond .eq 7, 3) := by decide +kernel
theorem dX6_renew_12 : decode cX6_renew 12 = .ok (.iconst (-1), 1) := by decide +kernel
theorem dX6_renew_13 : decode cX6_renew 13 = .ok (.goto 14, 3) := by decide +kernel
theorem dX6_renew_16 : decode cX6_renew 16 = .ok (.aload_n 0, 1) := by decide +kernel
theorem dX6_renew_17 : decode cX6_renew 17 = .ok (.iconst 3, 1) := by decide +kernel
theorem dX6_renew_18 : decode cX6_renew 18 = .ok (.iload_n 1, 1) := by decide +kernel
theorem dX6_renew_19 : decode cX6_renew 19 = .ok (.aload_n 0, 1) := by decide +kernel
theorem dX6_renew_20 : decode cX6_renew 20 = .ok (.iload_n 1, 1) := by decide +kernel
theorem dX6_renew_21 : decode cX6_renew 21 = .ok (.invokevirtual 130, 3) := by decide +kernel
theorem dX6_renew_24 : decode cX6_renew 24 = .ok (.invokevirtual 87, 3) := by decide +kernel
theorem dX6_renew_27 : decode cX6_renew 27 = .ok (.ireturn, 1) := by decide +kernel
set_option maxRecDepth 20000 in
theorem ggX6_recall_X6_refuses : GoodIn wsX6_recall wsX6_refuses := goodIn_r _ [6, 7, 8, 9, 10, 5, 11, 12, 13, 14, 15, 16, 42, 43, 44, 45, 46, 47, 48, 49, 50, 51, 52, 53, 54, 55, 56, 57, 58, 59, 60, 61, 62, 63, 64, 65] (by decide +kernel) (by decide +kernel)
set_option maxRecDepth 20000 in
theorem gX6_recall_X6_refuses : GoodIn wsX6_recall (wsV RX6 127 RX6 yX6_refuses wsX6_refuses) := goodIn_app (goodIn_of _ (by decide +kernel)) ggX6_recall_X6_refuses
set_option maxRecDepth 20000 in
theorem ggX6_recall_X6_holds : GoodIn wsX6_recall wsX6_holds := goodIn_r _ [20, 21, 42, 43, 44, 45, 46, 47, 48, 49, 50, 51, 52, 53, 54, 55, 56, 57, 58, 59, 60, 61, 62, 63, 64, 65] (by decide +kernel) (by decide +kernel)
set_option maxRecDepth 20000 in
theorem gX6_recall_X6_holds : GoodIn wsX6_recall (wsV RX6 95 RX6 yX6_holds wsX6_holds) := goodIn_app (goodIn_of _ (by decide +kernel)) ggX6_recall_X6_holds
set_option maxRecDepth 20000 in
theorem ggX6_recall_X6_length : GoodIn wsX6_recall wsX6_length := goodIn_r _ [25, 26, 27, 28, 29, 30, 31, 5, 32, 42, 43, 44, 45, 46, 47, 48, 49, 50, 51, 52, 53, 54, 55, 56, 57, 58, 59, 60, 61, 62, 63, 64, 65] (by decide +kernel) (by decide +kernel)
set_option maxRecDepth 20000 in
theorem gX6_recall_X6_length : GoodIn wsX6_recall (wsV RX6 130 RX6 yX6_length wsX6_length) := goodIn_app (goodIn_of _ (by decide +kernel)) ggX6_recall_X6_length
set_option maxRecDepth 20000 in
theorem ggX6_recall_X6_send : GoodIn wsX6_recall wsX6_send := goodIn_r _ [36, 37, 38, 39, 40, 41, 42, 43, 44, 45, 46, 47, 48, 49, 50, 51, 52, 53, 54, 55, 56, 57, 58, 59, 60, 61, 62, 63, 64, 65] (by decide +kernel) (by decide +kernel)
set_option maxRecDepth 20000 in
theorem gX6_recall_X6_send : GoodIn wsX6_recall (wsV RX6 87 RX6 yX6_send wsX6_send) := goodIn_app (goodIn_of _ (by decide +kernel)) ggX6_recall_X6_send
theorem dX6_recall_0 : decode cX6_recall 0 = .ok (.aload_n 0, 1) := by decide +kernel
theorem dX6_recall_1 : decode cX6_recall 1 = .ok (.aload_n 0, 1) := by decide +kernel
theorem dX6_recall_2 : decode cX6_recall 2 = .ok (.iload_n 1, 1) := by decide +kernel
theorem dX6_recall_3 : decode cX6_recall 3 = .ok (.invokevirtual 127, 3) := by decide +kernel
theorem dX6_recall_6 : decode cX6_recall 6 = .ok (.ifCond .le 11, 3) := by decide +kernel
theorem dX6_recall_9 : decode cX6_recall 9 = .ok (.aload_n 0, 1) := by decide +kernel
theorem dX6_recall_10 : decode cX6_recall 10 = .ok (.iload_n 1, 1) := by decide +kernel
theorem dX6_recall_11 : decode cX6_recall 11 = .ok (.invokevirtual 127, 3) := by decide +kernel
theorem dX6_recall_14 : decode cX6_recall 14 = .ok (.goto 18, 3) := by decide +kernel
theorem dX6_recall_17 : decode cX6_recall 17 = .ok (.aload_n 0, 1) := by decide +kernel
theorem dX6_recall_18 : decode cX6_recall 18 = .ok (.getfield 49, 3) := by decide +kernel
theorem dX6_recall_21 : decode cX6_recall 21 = .ok (.iload_n 1, 1) := by decide +kernel
theorem dX6_recall_22 : decode cX6_recall 22 = .ok (.iaload, 1) := by decide +kernel
theorem dX6_recall_23 : decode cX6_recall 23 = .ok (.iconst 1, 1) := by decide +kernel
theorem dX6_recall_24 : decode cX6_recall 24 = .ok (.if_icmp .ne 7, 3) := by decide +kernel
theorem dX6_recall_27 : decode cX6_recall 27 = .ok (.iconst 2, 1) := by decide +kernel
theorem dX6_recall_28 : decode cX6_recall 28 = .ok (.goto 4, 3) := by decide +kernel
theorem dX6_recall_31 : decode cX6_recall 31 = .ok (.iconst 0, 1) := by decide +kernel
theorem dX6_recall_32 : decode cX6_recall 32 = .ok (.invokevirtual 95, 3) := by decide +kernel
theorem dX6_recall_35 : decode cX6_recall 35 = .ok (.ifCond .eq 5, 3) := by decide +kernel
theorem dX6_recall_38 : decode cX6_recall 38 = .ok (.iconst (-1), 1) := by decide +kernel
theorem dX6_recall_39 : decode cX6_recall 39 = .ok (.ireturn, 1) := by decide +kernel
theorem dX6_recall_40 : decode cX6_recall 40 = .ok (.aload_n 0, 1) := by decide +kernel
theorem dX6_recall_41 : decode cX6_recall 41 = .ok (.getfield 49, 3) := by decide +kernel
theorem dX6_recall_44 : decode cX6_recall 44 = .ok (.iload_n 1, 1) := by decide +kernel
theorem dX6_recall_45 : decode cX6_recall 45 = .ok (.iconst 1, 1) := by decide +kernel
theorem dX6_recall_46 : decode cX6_recall 46 = .ok (.iastore, 1) := by decide +kernel
theorem dX6_recall_47 : decode cX6_recall 47 = .ok (.aload_n 0, 1) := by decide +kernel
theorem dX6_recall_48 : decode cX6_recall 48 = .ok (.iconst 4, 1) := by decide +kernel
theorem dX6_recall_49 : decode cX6_recall 49 = .ok (.iload_n 1, 1) := by decide +kernel
theorem dX6_recall_50 : decode cX6_recall 50 = .ok (.aload_n 0, 1) := by decide +kernel
theorem dX6_recall_51 : decode cX6_recall 51 = .ok (.iload_n 1, 1) := by decide +kernel
theorem dX6_recall_52 : decode cX6_recall 52 = .ok (.invokevirtual 130, 3) := by decide +kernel
theorem dX6_recall_55 : decode cX6_recall 55 = .ok (.invokevirtual 87, 3) := by decide +kernel
theorem dX6_recall_58 : decode cX6_recall 58 = .ok (.ireturn, 1) := by decide +kernel
set_option maxRecDepth 20000 in
theorem ggX6_sendBack_X6_refuses : GoodIn wsX6_sendBack wsX6_refuses := goodIn_r _ [12, 6, 13, 14, 15, 11, 16, 17, 18, 19, 20, 21, 48, 49, 50, 51, 52, 53, 54, 55, 56, 57, 58, 59, 60, 61, 62, 63, 64, 65, 66, 67, 68, 69, 70, 71] (by decide +kernel) (by decide +kernel)
set_option maxRecDepth 20000 in
theorem gX6_sendBack_X6_refuses : GoodIn wsX6_sendBack (wsV RX6 127 RX6 yX6_refuses wsX6_refuses) := goodIn_app (goodIn_of _ (by decide +kernel)) ggX6_sendBack_X6_refuses
set_option maxRecDepth 20000 in
theorem ggX6_sendBack_X6_holds : GoodIn wsX6_sendBack wsX6_holds := goodIn_r _ [25, 26, 48, 49, 50, 51, 52, 53, 54, 55, 56, 57, 58, 59, 60, 61, 62, 63, 64, 65, 66, 67, 68, 69, 70, 71] (by decide +kernel) (by decide +kernel)
set_option maxRecDepth 20000 in
theorem gX6_sendBack_X6_holds : GoodIn wsX6_sendBack (wsV RX6 95 RX6 yX6_holds wsX6_holds) := goodIn_app (goodIn_of _ (by decide +kernel)) ggX6_sendBack_X6_holds
set_option maxRecDepth 20000 in
theorem ggX6_sendBack_X6_owe : GoodIn wsX6_sendBack wsX6_owe := goodIn_r _ [30, 31, 48, 49, 50, 51, 52, 53, 54, 55, 56, 57, 58, 59, 60, 61, 62, 63, 64, 65, 66, 67, 68, 69, 70, 71] (by decide +kernel) (by decide +kernel)
set_option maxRecDepth 20000 in
theorem gX6_sendBack_X6_owe : GoodIn wsX6_sendBack (wsV RX6 108 RX6 yX6_owe wsX6_owe) := goodIn_app (goodIn_of _ (by decide +kernel)) ggX6_sendBack_X6_owe
set_option maxRecDepth 20000 in
theorem ggX6_sendBack_X6_length : GoodIn wsX6_sendBack wsX6_length := goodIn_r _ [35, 4, 5, 3, 36, 37, 38, 11, 39, 48, 49, 50, 51, 52, 53, 54, 55, 56, 57, 58, 59, 60, 61, 62, 63, 64, 65, 66, 67, 68, 69, 70, 71] (by decide +kernel) (by decide +kernel)
set_option maxRecDepth 20000 in
theorem gX6_sendBack_X6_length : GoodIn wsX6_sendBack (wsV RX6 130 RX6 yX6_length wsX6_length) := goodIn_app (goodIn_of _ (by decide +kernel)) ggX6_sendBack_X6_length
set_option maxRecDepth 20000 in
theorem ggX6_sendBack_X6_send : GoodIn wsX6_sendBack wsX6_send := goodIn_r _ [43, 44, 45, 46, 47, 1, 48, 49, 50, 51, 52, 53, 54, 55, 56, 57, 58, 59, 60, 61, 62, 63, 64, 65, 66, 67, 68, 69, 70, 71] (by decide +kernel) (by decide +kernel)
set_option maxRecDepth 20000 in
theorem gX6_sendBack_X6_send : GoodIn wsX6_sendBack (wsV RX6 87 RX6 yX6_send wsX6_send) := goodIn_app (goodIn_of _ (by decide +kernel)) ggX6_sendBack_X6_send
theorem dX6_sendBack_0 : decode cX6_sendBack 0 = .ok (.aload_n 0, 1) := by decide +kernel
theorem dX6_sendBack_1 : decode cX6_sendBack 1 = .ok (.aload_n 0, 1) := by decide +kernel
theorem dX6_sendBack_2 : decode cX6_sendBack 2 = .ok (.iload_n 1, 1) := by decide +kernel
theorem dX6_sendBack_3 : decode cX6_sendBack 3 = .ok (.invokevirtual 127, 3) := by decide +kernel
theorem dX6_sendBack_6 : decode cX6_sendBack 6 = .ok (.invokevirtual 95, 3) := by decide +kernel
theorem dX6_sendBack_9 : decode cX6_sendBack 9 = .ok (.ifCond .eq 5, 3) := by decide +kernel
theorem dX6_sendBack_12 : decode cX6_sendBack 12 = .ok (.iconst (-1), 1) := by decide +kernel
theorem dX6_sendBack_13 : decode cX6_sendBack 13 = .ok (.ireturn, 1) := by decide +kernel
theorem dX6_sendBack_14 : decode cX6_sendBack 14 = .ok (.aload_n 0, 1) := by decide +kernel
theorem dX6_sendBack_15 : decode cX6_sendBack 15 = .ok (.getfield 84, 3) := by decide +kernel
theorem dX6_sendBack_18 : decode cX6_sendBack 18 = .ok (.aload_n 0, 1) := by decide +kernel
theorem dX6_sendBack_19 : decode cX6_sendBack 19 = .ok (.getfield 43, 3) := by decide +kernel
theorem dX6_sendBack_22 : decode cX6_sendBack 22 = .ok (.iload_n 1, 1) := by decide +kernel
theorem dX6_sendBack_23 : decode cX6_sendBack 23 = .ok (.iaload, 1) := by decide +kernel
theorem dX6_sendBack_24 : decode cX6_sendBack 24 = .ok (.if_icmp .le 17, 3) := by decide +kernel
theorem dX6_sendBack_27 : decode cX6_sendBack 27 = .ok (.aload_n 0, 1) := by decide +kernel
theorem dX6_sendBack_28 : decode cX6_sendBack 28 = .ok (.getfield 84, 3) := by decide +kernel
theorem dX6_sendBack_31 : decode cX6_sendBack 31 = .ok (.aload_n 0, 1) := by decide +kernel
theorem dX6_sendBack_32 : decode cX6_sendBack 32 = .ok (.getfield 43, 3) := by decide +kernel
theorem dX6_sendBack_35 : decode cX6_sendBack 35 = .ok (.iload_n 1, 1) := by decide +kernel
theorem dX6_sendBack_36 : decode cX6_sendBack 36 = .ok (.iaload, 1) := by decide +kernel
theorem dX6_sendBack_37 : decode cX6_sendBack 37 = .ok (.isub, 1) := by decide +kernel
theorem dX6_sendBack_38 : decode cX6_sendBack 38 = .ok (.goto 4, 3) := by decide +kernel
theorem dX6_sendBack_41 : decode cX6_sendBack 41 = .ok (.iconst 0, 1) := by decide +kernel
theorem dX6_sendBack_42 : decode cX6_sendBack 42 = .ok (.istore_n 2, 1) := by decide +kernel
theorem dX6_sendBack_43 : decode cX6_sendBack 43 = .ok (.aload_n 0, 1) := by decide +kernel
theorem dX6_sendBack_44 : decode cX6_sendBack 44 = .ok (.getfield 40, 3) := by decide +kernel
theorem dX6_sendBack_47 : decode cX6_sendBack 47 = .ok (.iload_n 1, 1) := by decide +kernel
theorem dX6_sendBack_48 : decode cX6_sendBack 48 = .ok (.iaload, 1) := by decide +kernel
theorem dX6_sendBack_49 : decode cX6_sendBack 49 = .ok (.istore_n 3, 1) := by decide +kernel
theorem dX6_sendBack_50 : decode cX6_sendBack 50 = .ok (.aload_n 0, 1) := by decide +kernel
theorem dX6_sendBack_51 : decode cX6_sendBack 51 = .ok (.aload_n 0, 1) := by decide +kernel
theorem dX6_sendBack_52 : decode cX6_sendBack 52 = .ok (.getfield 31, 3) := by decide +kernel
theorem dX6_sendBack_55 : decode cX6_sendBack 55 = .ok (.iload_n 1, 1) := by decide +kernel
theorem dX6_sendBack_56 : decode cX6_sendBack 56 = .ok (.iaload, 1) := by decide +kernel
theorem dX6_sendBack_57 : decode cX6_sendBack 57 = .ok (.aload_n 0, 1) := by decide +kernel
theorem dX6_sendBack_58 : decode cX6_sendBack 58 = .ok (.getfield 7, 3) := by decide +kernel
theorem dX6_sendBack_61 : decode cX6_sendBack 61 = .ok (.iload_n 3, 1) := by decide +kernel
theorem dX6_sendBack_62 : decode cX6_sendBack 62 = .ok (.iaload, 1) := by decide +kernel
theorem dX6_sendBack_63 : decode cX6_sendBack 63 = .ok (.iload_n 2, 1) := by decide +kernel
theorem dX6_sendBack_64 : decode cX6_sendBack 64 = .ok (.invokevirtual 108, 3) := by decide +kernel
theorem dX6_sendBack_67 : decode cX6_sendBack 67 = .ok (.aload_n 0, 1) := by decide +kernel
theorem dX6_sendBack_68 : decode cX6_sendBack 68 = .ok (.getfield 37, 3) := by decide +kernel
theorem dX6_sendBack_71 : decode cX6_sendBack 71 = .ok (.iload_n 1, 1) := by decide +kernel
theorem dX6_sendBack_72 : decode cX6_sendBack 72 = .ok (.iconst 3, 1) := by decide +kernel
theorem dX6_sendBack_73 : decode cX6_sendBack 73 = .ok (.iastore, 1) := by decide +kernel
theorem dX6_sendBack_74 : decode cX6_sendBack 74 = .ok (.aload_n 0, 1) := by decide +kernel
theorem dX6_sendBack_75 : decode cX6_sendBack 75 = .ok (.getfield 16, 3) := by decide +kernel
theorem dX6_sendBack_78 : decode cX6_sendBack 78 = .ok (.iload_n 3, 1) := by decide +kernel
theorem dX6_sendBack_79 : decode cX6_sendBack 79 = .ok (.iconst (-1), 1) := by decide +kernel
theorem dX6_sendBack_80 : decode cX6_sendBack 80 = .ok (.iastore, 1) := by decide +kernel
theorem dX6_sendBack_81 : decode cX6_sendBack 81 = .ok (.aload_n 0, 1) := by decide +kernel
theorem dX6_sendBack_82 : decode cX6_sendBack 82 = .ok (.iconst 5, 1) := by decide +kernel
theorem dX6_sendBack_83 : decode cX6_sendBack 83 = .ok (.iload_n 1, 1) := by decide +kernel
theorem dX6_sendBack_84 : decode cX6_sendBack 84 = .ok (.aload_n 0, 1) := by decide +kernel
theorem dX6_sendBack_85 : decode cX6_sendBack 85 = .ok (.iload_n 1, 1) := by decide +kernel
theorem dX6_sendBack_86 : decode cX6_sendBack 86 = .ok (.invokevirtual 130, 3) := by decide +kernel
theorem dX6_sendBack_89 : decode cX6_sendBack 89 = .ok (.invokevirtual 87, 3) := by decide +kernel
theorem dX6_sendBack_92 : decode cX6_sendBack 92 = .ok (.pop, 1) := by decide +kernel
theorem dX6_sendBack_93 : decode cX6_sendBack 93 = .ok (.iload_n 2, 1) := by decide +kernel
theorem dX6_sendBack_94 : decode cX6_sendBack 94 = .ok (.ireturn, 1) := by decide +kernel
theorem dX6_homes_0 : decode cX6_homes 0 = .ok (.iconst 0, 1) := by decide +kernel
theorem dX6_homes_1 : decode cX6_homes 1 = .ok (.istore_n 2, 1) := by decide +kernel
theorem dX6_homes_2 : decode cX6_homes 2 = .ok (.iconst 0, 1) := by decide +kernel
theorem dX6_homes_3 : decode cX6_homes 3 = .ok (.istore_n 3, 1) := by decide +kernel
theorem dX6_homes_4 : decode cX6_homes 4 = .ok (.iload_n 3, 1) := by decide +kernel
theorem dX6_homes_5 : decode cX6_homes 5 = .ok (.aload_n 0, 1) := by decide +kernel
theorem dX6_homes_6 : decode cX6_homes 6 = .ok (.getfield 75, 3) := by decide +kernel
theorem dX6_homes_9 : decode cX6_homes 9 = .ok (.if_icmp .ge 27, 3) := by decide +kernel
theorem dX6_homes_12 : decode cX6_homes 12 = .ok (.iload_n 2, 1) := by decide +kernel
theorem dX6_homes_13 : decode cX6_homes 13 = .ok (.aload_n 0, 1) := by decide +kernel
theorem dX6_homes_14 : decode cX6_homes 14 = .ok (.getfield 7, 3) := by decide +kernel
theorem dX6_homes_17 : decode cX6_homes 17 = .ok (.iload_n 3, 1) := by decide +kernel
theorem dX6_homes_18 : decode cX6_homes 18 = .ok (.iaload, 1) := by decide +kernel
theorem dX6_homes_19 : decode cX6_homes 19 = .ok (.iload_n 1, 1) := by decide +kernel
theorem dX6_homes_20 : decode cX6_homes 20 = .ok (.if_icmp .ne 7, 3) := by decide +kernel
theorem dX6_homes_23 : decode cX6_homes 23 = .ok (.iconst 1, 1) := by decide +kernel
theorem dX6_homes_24 : decode cX6_homes 24 = .ok (.goto 4, 3) := by decide +kernel
theorem dX6_homes_27 : decode cX6_homes 27 = .ok (.iconst 0, 1) := by decide +kernel
theorem dX6_homes_28 : decode cX6_homes 28 = .ok (.iadd, 1) := by decide +kernel
theorem dX6_homes_29 : decode cX6_homes 29 = .ok (.istore_n 2, 1) := by decide +kernel
theorem dX6_homes_30 : decode cX6_homes 30 = .ok (.iinc 3 1, 3) := by decide +kernel
theorem dX6_homes_33 : decode cX6_homes 33 = .ok (.goto (-29), 3) := by decide +kernel
theorem dX6_homes_36 : decode cX6_homes 36 = .ok (.iload_n 2, 1) := by decide +kernel
theorem dX6_homes_37 : decode cX6_homes 37 = .ok (.ireturn, 1) := by decide +kernel
set_option maxRecDepth 20000 in
theorem ggX6_answer_X6_free : GoodIn wsX6_answer wsX6_free := goodIn_r _ [8, 2, 9, 10, 42, 43, 44, 45, 46, 47, 48, 49, 50, 51, 52, 53, 54, 55, 56, 57, 58, 59, 60, 61, 62, 63, 64, 65] (by decide +kernel) (by decide +kernel)
set_option maxRecDepth 20000 in
theorem gX6_answer_X6_free : GoodIn wsX6_answer (wsV RX6 105 RX6 yX6_free wsX6_free) := goodIn_app (goodIn_of _ (by decide +kernel)) ggX6_answer_X6_free
set_option maxRecDepth 20000 in
theorem ggX6_answer_X6_ask : GoodIn wsX6_answer wsX6_ask := goodIn_r _ [14, 15, 16, 17, 18, 9, 19, 20, 1, 3, 21, 22, 23, 7, 24, 25, 26, 27, 28, 29, 30, 31, 32, 33, 42, 43, 44, 45, 46, 47, 48, 49, 50, 51, 52, 53, 54, 55, 56, 57, 58, 59, 60, 61, 62, 63, 64, 65] (by decide +kernel) (by decide +kernel)
set_option maxRecDepth 20000 in
theorem gX6_answer_X6_ask : GoodIn wsX6_answer (wsV RX6 120 RX6 yX6_ask wsX6_ask) := goodIn_app (goodIn_of _ (by decide +kernel)) ggX6_answer_X6_ask
set_option maxRecDepth 20000 in
theorem ggX6_answer_X6_length : GoodIn wsX6_answer wsX6_length := goodIn_r _ [37, 19, 9, 1, 21, 22, 23, 7, 24, 42, 43, 44, 45, 46, 47, 48, 49, 50, 51, 52, 53, 54, 55, 56, 57, 58, 59, 60, 61, 62, 63, 64, 65] (by decide +kernel) (by decide +kernel)
set_option maxRecDepth 20000 in
theorem gX6_answer_X6_length : GoodIn wsX6_answer (wsV RX6 130 RX6 yX6_length wsX6_length) := goodIn_app (goodIn_of _ (by decide +kernel)) ggX6_answer_X6_length
set_option maxRecDepth 20000 in
theorem ggX6_answer_X6_send : GoodIn wsX6_answer wsX6_send := goodIn_r _ [28, 29, 30, 31, 32, 33, 42, 43, 44, 45, 46, 47, 48, 49, 50, 51, 52, 53, 54, 55, 56, 57, 58, 59, 60, 61, 62, 63, 64, 65] (by decide +kernel) (by decide +kernel)
set_option maxRecDepth 20000 in
theorem gX6_answer_X6_send : GoodIn wsX6_answer (wsV RX6 87 RX6 yX6_send wsX6_send) := goodIn_app (goodIn_of _ (by decide +kernel)) ggX6_answer_X6_send
set_option maxRecDepth 20000 in
theorem ggX6_answer_X6_tell : GoodIn wsX6_answer wsX6_tell := goodIn_r _ [41, 9, 25, 26, 27, 7, 28, 29, 30, 31, 32, 33, 42, 43, 44, 45, 46, 47, 48, 49, 50, 51, 52, 53, 54, 55, 56, 57, 58, 59, 60, 61, 62, 63, 64, 65] (by decide +kernel) (by decide +kernel)
set_option maxRecDepth 20000 in
theorem gX6_answer_X6_tell : GoodIn wsX6_answer (wsV RX6 98 RX6 yX6_tell wsX6_tell) := goodIn_app (goodIn_of _ (by decide +kernel)) ggX6_answer_X6_tell
theorem dX6_answer_0 : decode cX6_answer 0 = .ok (.aload_n 0, 1) := by decide +kernel
theorem dX6_answer_1 : decode cX6_answer 1 = .ok (.getfield 40, 3) := by decide +kernel
theorem dX6_answer_4 : decode cX6_answer 4 = .ok (.iload_n 1, 1) := by decide +kernel
theorem dX6_answer_5 : decode cX6_answer 5 = .ok (.iaload, 1) := by decide +kernel
theorem dX6_answer_6 : decode cX6_answer 6 = .ok (.istore_n 2, 1) := by decide +kernel
theorem dX6_answer_7 : decode cX6_answer 7 = .ok (.aload_n 0, 1) := by decide +kernel
theorem dX6_answer_8 : decode cX6_answer 8 = .ok (.iload_n 2, 1) := by decide +kernel
theorem dX6_answer_9 : decode cX6_answer 9 = .ok (.invokevirtual 105, 3) := by decide +kernel
theorem dX6_answer_12 : decode cX6_answer 12 = .ok (.ifCond .ne 9, 3) := by decide +kernel
theorem dX6_answer_15 : decode cX6_answer 15 = .ok (.aload_n 0, 1) := by decide +kernel
theorem dX6_answer_16 : decode cX6_answer 16 = .ok (.iload_n 1, 1) := by decide +kernel
theorem dX6_answer_17 : decode cX6_answer 17 = .ok (.invokevirtual 120, 3) := by decide +kernel
theorem dX6_answer_20 : decode cX6_answer 20 = .ok (.return_, 1) := by decide +kernel
theorem dX6_answer_21 : decode cX6_answer 21 = .ok (.aload_n 0, 1) := by decide +kernel
theorem dX6_answer_22 : decode cX6_answer 22 = .ok (.getfield 16, 3) := by decide +kernel
theorem dX6_answer_25 : decode cX6_answer 25 = .ok (.iload_n 2, 1) := by decide +kernel
theorem dX6_answer_26 : decode cX6_answer 26 = .ok (.iconst (-1), 1) := by decide +kernel
theorem dX6_answer_27 : decode cX6_answer 27 = .ok (.iastore, 1) := by decide +kernel
theorem dX6_answer_28 : decode cX6_answer 28 = .ok (.aload_n 0, 1) := by decide +kernel
theorem dX6_answer_29 : decode cX6_answer 29 = .ok (.getfield 37, 3) := by decide +kernel
theorem dX6_answer_32 : decode cX6_answer 32 = .ok (.iload_n 1, 1) := by decide +kernel
theorem dX6_answer_33 : decode cX6_answer 33 = .ok (.iconst 1, 1) := by decide +kernel
theorem dX6_answer_34 : decode cX6_answer 34 = .ok (.iastore, 1) := by decide +kernel
theorem dX6_answer_35 : decode cX6_answer 35 = .ok (.aload_n 0, 1) := by decide +kernel
theorem dX6_answer_36 : decode cX6_answer 36 = .ok (.iconst 5, 1) := by decide +kernel
theorem dX6_answer_37 : decode cX6_answer 37 = .ok (.iload_n 1, 1) := by decide +kernel
theorem dX6_answer_38 : decode cX6_answer 38 = .ok (.aload_n 0, 1) := by decide +kernel
theorem dX6_answer_39 : decode cX6_answer 39 = .ok (.iload_n 1, 1) := by decide +kernel
theorem dX6_answer_40 : decode cX6_answer 40 = .ok (.invokevirtual 130, 3) := by decide +kernel
theorem dX6_answer_43 : decode cX6_answer 43 = .ok (.invokevirtual 87, 3) := by decide +kernel
theorem dX6_answer_46 : decode cX6_answer 46 = .ok (.pop, 1) := by decide +kernel
theorem dX6_answer_47 : decode cX6_answer 47 = .ok (.aload_n 0, 1) := by decide +kernel
theorem dX6_answer_48 : decode cX6_answer 48 = .ok (.iload_n 2, 1) := by decide +kernel
theorem dX6_answer_49 : decode cX6_answer 49 = .ok (.iconst 0, 1) := by decide +kernel
theorem dX6_answer_50 : decode cX6_answer 50 = .ok (.invokevirtual 98, 3) := by decide +kernel
theorem dX6_answer_53 : decode cX6_answer 53 = .ok (.return_, 1) := by decide +kernel
set_option maxRecDepth 20000 in
theorem ggX6_come_X6_homes : GoodIn wsX6_come wsX6_homes := goodIn_r _ [14, 15, 5, 43, 44, 45, 46, 47, 48, 49, 50, 51, 52, 53, 54, 55, 56, 57, 58, 59, 60, 61, 62, 63, 64, 65, 66] (by decide +kernel) (by decide +kernel)
set_option maxRecDepth 20000 in
theorem gX6_come_X6_homes : GoodIn wsX6_come (wsV RX6 133 RX6 yX6_homes wsX6_homes) := goodIn_app (goodIn_of _ (by decide +kernel)) ggX6_come_X6_homes
set_option maxRecDepth 20000 in
theorem ggX6_come_X6_owe : GoodIn wsX6_come wsX6_owe := goodIn_r _ [19, 20, 43, 44, 45, 46, 47, 48, 49, 50, 51, 52, 53, 54, 55, 56, 57, 58, 59, 60, 61, 62, 63, 64, 65, 66] (by decide +kernel) (by decide +kernel)
set_option maxRecDepth 20000 in
theorem gX6_come_X6_owe : GoodIn wsX6_come (wsV RX6 108 RX6 yX6_owe wsX6_owe) := goodIn_app (goodIn_of _ (by decide +kernel)) ggX6_come_X6_owe
set_option maxRecDepth 20000 in
theorem ggX6_come_X6_find : GoodIn wsX6_come wsX6_find := goodIn_r _ [24, 25, 26, 5, 16, 17, 18, 13, 19, 20, 43, 44, 45, 46, 47, 48, 49, 50, 51, 52, 53, 54, 55, 56, 57, 58, 59, 60, 61, 62, 63, 64, 65, 66] (by decide +kernel) (by decide +kernel)
set_option maxRecDepth 20000 in
theorem gX6_come_X6_find : GoodIn wsX6_come (wsV RX6 112 RX6 yX6_find wsX6_find) := goodIn_app (goodIn_of _ (by decide +kernel)) ggX6_come_X6_find
set_option maxRecDepth 20000 in
theorem ggX6_come_X6_free : GoodIn wsX6_come wsX6_free := goodIn_r _ [30, 6, 5, 26, 43, 44, 45, 46, 47, 48, 49, 50, 51, 52, 53, 54, 55, 56, 57, 58, 59, 60, 61, 62, 63, 64, 65, 66] (by decide +kernel) (by decide +kernel)
set_option maxRecDepth 20000 in
theorem gX6_come_X6_free : GoodIn wsX6_come (wsV RX6 105 RX6 yX6_free wsX6_free) := goodIn_app (goodIn_of _ (by decide +kernel)) ggX6_come_X6_free
set_option maxRecDepth 20000 in
theorem ggX6_come_X6_tell : GoodIn wsX6_come wsX6_tell := goodIn_r _ [34, 5, 35, 36, 37, 13, 38, 39, 40, 41, 42, 9, 43, 44, 45, 46, 47, 48, 49, 50, 51, 52, 53, 54, 55, 56, 57, 58, 59, 60, 61, 62, 63, 64, 65, 66] (by decide +kernel) (by decide +kernel)
set_option maxRecDepth 20000 in
theorem gX6_come_X6_tell : GoodIn wsX6_come (wsV RX6 98 RX6 yX6_tell wsX6_tell) := goodIn_app (goodIn_of _ (by decide +kernel)) ggX6_come_X6_tell
theorem dX6_come_0 : decode cX6_come 0 = .ok (.aload_n 0, 1) := by decide +kernel
theorem dX6_come_1 : decode cX6_come 1 = .ok (.getfield 40, 3) := by decide +kernel
theorem dX6_come_4 : decode cX6_come 4 = .ok (.iload_n 1, 1) := by decide +kernel
theorem dX6_come_5 : decode cX6_come 5 = .ok (.iaload, 1) := by decide +kernel
theorem dX6_come_6 : decode cX6_come 6 = .ok (.istore_n 2, 1) := by decide +kernel
theorem dX6_come_7 : decode cX6_come 7 = .ok (.aload_n 0, 1) := by decide +kernel
theorem dX6_come_8 : decode cX6_come 8 = .ok (.getfield 31, 3) := by decide +kernel
theorem dX6_come_11 : decode cX6_come 11 = .ok (.iload_n 1, 1) := by decide +kernel
theorem dX6_come_12 : decode cX6_come 12 = .ok (.iaload, 1) := by decide +kernel
theorem dX6_come_13 : decode cX6_come 13 = .ok (.istore_n 3, 1) := by decide +kernel
theorem dX6_come_14 : decode cX6_come 14 = .ok (.aload_n 0, 1) := by decide +kernel
theorem dX6_come_15 : decode cX6_come 15 = .ok (.getfield 37, 3) := by decide +kernel
theorem dX6_come_18 : decode cX6_come 18 = .ok (.iload_n 1, 1) := by decide +kernel
theorem dX6_come_19 : decode cX6_come 19 = .ok (.iaload, 1) := by decide +kernel
theorem dX6_come_20 : decode cX6_come 20 = .ok (.iconst 1, 1) := by decide +kernel
theorem dX6_come_21 : decode cX6_come 21 = .ok (.if_icmp .ne 105, 3) := by decide +kernel
theorem dX6_come_24 : decode cX6_come 24 = .ok (.aload_n 0, 1) := by decide +kernel
theorem dX6_come_25 : decode cX6_come 25 = .ok (.iload_n 3, 1) := by decide +kernel
theorem dX6_come_26 : decode cX6_come 26 = .ok (.invokevirtual 133, 3) := by decide +kernel
theorem dX6_come_29 : decode cX6_come 29 = .ok (.iconst 3, 1) := by decide +kernel
theorem dX6_come_30 : decode cX6_come 30 = .ok (.if_icmp .ge 17, 3) := by decide +kernel
theorem dX6_come_33 : decode cX6_come 33 = .ok (.aload_n 0, 1) := by decide +kernel
theorem dX6_come_34 : decode cX6_come 34 = .ok (.getfield 64, 3) := by decide +kernel
theorem dX6_come_37 : decode cX6_come 37 = .ok (.iload_n 3, 1) := by decide +kernel
theorem dX6_come_38 : decode cX6_come 38 = .ok (.iaload, 1) := by decide +kernel
theorem dX6_come_39 : decode cX6_come 39 = .ok (.iconst 2, 1) := by decide +kernel
theorem dX6_come_40 : decode cX6_come 40 = .ok (.if_icmp .ge 7, 3) := by decide +kernel
theorem dX6_come_43 : decode cX6_come 43 = .ok (.iconst 1, 1) := by decide +kernel
theorem dX6_come_44 : decode cX6_come 44 = .ok (.goto 4, 3) := by decide +kernel
theorem dX6_come_47 : decode cX6_come 47 = .ok (.iconst 0, 1) := by decide +kernel
theorem dX6_come_48 : decode cX6_come 48 = .ok (.istore 4, 2) := by decide +kernel
theorem dX6_come_50 : decode cX6_come 50 = .ok (.aload_n 0, 1) := by decide +kernel
theorem dX6_come_51 : decode cX6_come 51 = .ok (.getfield 64, 3) := by decide +kernel
theorem dX6_come_54 : decode cX6_come 54 = .ok (.iload_n 3, 1) := by decide +kernel
theorem dX6_come_55 : decode cX6_come 55 = .ok (.dup2, 1) := by decide +kernel
theorem dX6_come_56 : decode cX6_come 56 = .ok (.iaload, 1) := by decide +kernel
theorem dX6_come_57 : decode cX6_come 57 = .ok (.iload 4, 2) := by decide +kernel
theorem dX6_come_59 : decode cX6_come 59 = .ok (.ifCond .eq 7, 3) := by decide +kernel
theorem dX6_come_62 : decode cX6_come 62 = .ok (.iconst 1, 1) := by decide +kernel
theorem dX6_come_63 : decode cX6_come 63 = .ok (.goto 4, 3) := by decide +kernel
theorem dX6_come_66 : decode cX6_come 66 = .ok (.iconst 0, 1) := by decide +kernel
theorem dX6_come_67 : decode cX6_come 67 = .ok (.iadd, 1) := by decide +kernel
theorem dX6_come_68 : decode cX6_come 68 = .ok (.iastore, 1) := by decide +kernel
theorem dX6_come_69 : decode cX6_come 69 = .ok (.aload_n 0, 1) := by decide +kernel
theorem dX6_come_70 : decode cX6_come 70 = .ok (.iload_n 3, 1) := by decide +kernel
theorem dX6_come_71 : decode cX6_come 71 = .ok (.aload_n 0, 1) := by decide +kernel
theorem dX6_come_72 : decode cX6_come 72 = .ok (.getfield 7, 3) := by decide +kernel
theorem dX6_come_75 : decode cX6_come 75 = .ok (.iload_n 2, 1) := by decide +kernel
theorem dX6_come_76 : decode cX6_come 76 = .ok (.iaload, 1) := by decide +kernel
theorem dX6_come_77 : decode cX6_come 77 = .ok (.iload 4, 2) := by decide +kernel
theorem dX6_come_79 : decode cX6_come 79 = .ok (.ifCond .eq 7, 3) := by decide +kernel
theorem dX6_come_82 : decode cX6_come 82 = .ok (.iconst 0, 1) := by decide +kernel
theorem dX6_come_83 : decode cX6_come 83 = .ok (.goto 5, 3) := by decide +kernel
theorem dX6_come_86 : decode cX6_come 86 = .ok (.bipush 6, 2) := by decide +kernel
theorem dX6_come_88 : decode cX6_come 88 = .ok (.invokevirtual 108, 3) := by decide +kernel
theorem dX6_come_91 : decode cX6_come 91 = .ok (.aload_n 0, 1) := by decide +kernel
theorem dX6_come_92 : decode cX6_come 92 = .ok (.getfield 16, 3) := by decide +kernel
theorem dX6_come_95 : decode cX6_come 95 = .ok (.iload_n 2, 1) := by decide +kernel
theorem dX6_come_96 : decode cX6_come 96 = .ok (.iload_n 3, 1) := by decide +kernel
theorem dX6_come_97 : decode cX6_come 97 = .ok (.iastore, 1) := by decide +kernel
theorem dX6_come_98 : decode cX6_come 98 = .ok (.aload_n 0, 1) := by decide +kernel
theorem dX6_come_99 : decode cX6_come 99 = .ok (.getfield 19, 3) := by decide +kernel
theorem dX6_come_102 : decode cX6_come 102 = .ok (.iload_n 2, 1) := by decide +kernel
theorem dX6_come_103 : decode cX6_come 103 = .ok (.iload_n 3, 1) := by decide +kernel
theorem dX6_come_104 : decode cX6_come 104 = .ok (.iastore, 1) := by decide +kernel
theorem dX6_come_105 : decode cX6_come 105 = .ok (.aload_n 0, 1) := by decide +kernel
theorem dX6_come_106 : decode cX6_come 106 = .ok (.getfield 37, 3) := by decide +kernel
theorem dX6_come_109 : decode cX6_come 109 = .ok (.iload_n 1, 1) := by decide +kernel
theorem dX6_come_110 : decode cX6_come 110 = .ok (.iconst 2, 1) := by decide +kernel
theorem dX6_come_111 : decode cX6_come 111 = .ok (.iastore, 1) := by decide +kernel
theorem dX6_come_112 : decode cX6_come 112 = .ok (.aload_n 0, 1) := by decide +kernel
theorem dX6_come_113 : decode cX6_come 113 = .ok (.getfield 43, 3) := by decide +kernel
theorem dX6_come_116 : decode cX6_come 116 = .ok (.iload_n 1, 1) := by decide +kernel
theorem dX6_come_117 : decode cX6_come 117 = .ok (.aload_n 0, 1) := by decide +kernel
theorem dX6_come_118 : decode cX6_come 118 = .ok (.getfield 84, 3) := by decide +kernel
theorem dX6_come_121 : decode cX6_come 121 = .ok (.bipush 20, 2) := by decide +kernel
theorem dX6_come_123 : decode cX6_come 123 = .ok (.iadd, 1) := by decide +kernel
