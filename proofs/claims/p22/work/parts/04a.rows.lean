theorem dX0_init_0 : decode cX0_init 0 = .ok (.aload_n 0, 1) := by decide +kernel
theorem dX0_init_1 : decode cX0_init 1 = .ok (.invokespecial 3, 3) := by decide +kernel
theorem dX0_init_4 : decode cX0_init 4 = .ok (.aload_n 0, 1) := by decide +kernel
theorem dX0_init_5 : decode cX0_init 5 = .ok (.bipush 36, 2) := by decide +kernel
theorem dX0_init_7 : decode cX0_init 7 = .ok (.newarray .int, 2) := by decide +kernel
theorem dX0_init_9 : decode cX0_init 9 = .ok (.putfield 9, 3) := by decide +kernel
theorem dX0_init_12 : decode cX0_init 12 = .ok (.aload_n 0, 1) := by decide +kernel
theorem dX0_init_13 : decode cX0_init 13 = .ok (.bipush 6, 2) := by decide +kernel
theorem dX0_init_15 : decode cX0_init 15 = .ok (.newarray .int, 2) := by decide +kernel
theorem dX0_init_17 : decode cX0_init 17 = .ok (.putfield 15, 3) := by decide +kernel
theorem dX0_init_20 : decode cX0_init 20 = .ok (.aload_n 0, 1) := by decide +kernel
theorem dX0_init_21 : decode cX0_init 21 = .ok (.bipush 6, 2) := by decide +kernel
theorem dX0_init_23 : decode cX0_init 23 = .ok (.newarray .int, 2) := by decide +kernel
theorem dX0_init_25 : decode cX0_init 25 = .ok (.putfield 18, 3) := by decide +kernel
theorem dX0_init_28 : decode cX0_init 28 = .ok (.return_, 1) := by decide +kernel
set_option maxRecDepth 20000 in
theorem ggX0_countHomeCopy_X5_isHouse : GoodIn wsX0_countHomeCopy wsX5_isHouse := goodIn_r _ [4] (by decide +kernel) (by decide +kernel)
set_option maxRecDepth 20000 in
theorem gX0_countHomeCopy_X5_isHouse_n21 : GoodIn wsX0_countHomeCopy (wsX5_isHouse) := ggX0_countHomeCopy_X5_isHouse
theorem dX0_countHomeCopy_0 : decode cX0_countHomeCopy 0 = .ok (.iload_n 1, 1) := by decide +kernel
theorem dX0_countHomeCopy_1 : decode cX0_countHomeCopy 1 = .ok (.invokestatic 21, 3) := by decide +kernel
theorem dX0_countHomeCopy_4 : decode cX0_countHomeCopy 4 = .ok (.ifCond .eq 13, 3) := by decide +kernel
theorem dX0_countHomeCopy_7 : decode cX0_countHomeCopy 7 = .ok (.aload_n 0, 1) := by decide +kernel
theorem dX0_countHomeCopy_8 : decode cX0_countHomeCopy 8 = .ok (.getfield 15, 3) := by decide +kernel
theorem dX0_countHomeCopy_11 : decode cX0_countHomeCopy 11 = .ok (.iload_n 1, 1) := by decide +kernel
theorem dX0_countHomeCopy_12 : decode cX0_countHomeCopy 12 = .ok (.dup2, 1) := by decide +kernel
theorem dX0_countHomeCopy_13 : decode cX0_countHomeCopy 13 = .ok (.iaload, 1) := by decide +kernel
theorem dX0_countHomeCopy_14 : decode cX0_countHomeCopy 14 = .ok (.iconst 1, 1) := by decide +kernel
theorem dX0_countHomeCopy_15 : decode cX0_countHomeCopy 15 = .ok (.iadd, 1) := by decide +kernel
theorem dX0_countHomeCopy_16 : decode cX0_countHomeCopy 16 = .ok (.iastore, 1) := by decide +kernel
theorem dX0_countHomeCopy_17 : decode cX0_countHomeCopy 17 = .ok (.return_, 1) := by decide +kernel
theorem dX0_beginQuarter_0 : decode cX0_beginQuarter 0 = .ok (.iconst 0, 1) := by decide +kernel
theorem dX0_beginQuarter_1 : decode cX0_beginQuarter 1 = .ok (.istore_n 1, 1) := by decide +kernel
theorem dX0_beginQuarter_2 : decode cX0_beginQuarter 2 = .ok (.iload_n 1, 1) := by decide +kernel
theorem dX0_beginQuarter_3 : decode cX0_beginQuarter 3 = .ok (.aload_n 0, 1) := by decide +kernel
theorem dX0_beginQuarter_4 : decode cX0_beginQuarter 4 = .ok (.getfield 18, 3) := by decide +kernel
theorem dX0_beginQuarter_7 : decode cX0_beginQuarter 7 = .ok (.arraylength, 1) := by decide +kernel
theorem dX0_beginQuarter_8 : decode cX0_beginQuarter 8 = .ok (.if_icmp .ge 16, 3) := by decide +kernel
theorem dX0_beginQuarter_11 : decode cX0_beginQuarter 11 = .ok (.aload_n 0, 1) := by decide +kernel
theorem dX0_beginQuarter_12 : decode cX0_beginQuarter 12 = .ok (.getfield 18, 3) := by decide +kernel
theorem dX0_beginQuarter_15 : decode cX0_beginQuarter 15 = .ok (.iload_n 1, 1) := by decide +kernel
theorem dX0_beginQuarter_16 : decode cX0_beginQuarter 16 = .ok (.iconst 0, 1) := by decide +kernel
theorem dX0_beginQuarter_17 : decode cX0_beginQuarter 17 = .ok (.iastore, 1) := by decide +kernel
theorem dX0_beginQuarter_18 : decode cX0_beginQuarter 18 = .ok (.iinc 1 1, 3) := by decide +kernel
theorem dX0_beginQuarter_21 : decode cX0_beginQuarter 21 = .ok (.goto (-19), 3) := by decide +kernel
theorem dX0_beginQuarter_24 : decode cX0_beginQuarter 24 = .ok (.return_, 1) := by decide +kernel
set_option maxRecDepth 20000 in
theorem ggX0_freeLoansOf_X5_isHouse : GoodIn wsX0_freeLoansOf wsX5_isHouse := goodIn_r _ [4] (by decide +kernel) (by decide +kernel)
set_option maxRecDepth 20000 in
theorem gX0_freeLoansOf_X5_isHouse_n21 : GoodIn wsX0_freeLoansOf (wsX5_isHouse) := ggX0_freeLoansOf_X5_isHouse
theorem dX0_freeLoansOf_0 : decode cX0_freeLoansOf 0 = .ok (.iload_n 1, 1) := by decide +kernel
theorem dX0_freeLoansOf_1 : decode cX0_freeLoansOf 1 = .ok (.invokestatic 21, 3) := by decide +kernel
theorem dX0_freeLoansOf_4 : decode cX0_freeLoansOf 4 = .ok (.ifCond .eq 12, 3) := by decide +kernel
theorem dX0_freeLoansOf_7 : decode cX0_freeLoansOf 7 = .ok (.aload_n 0, 1) := by decide +kernel
theorem dX0_freeLoansOf_8 : decode cX0_freeLoansOf 8 = .ok (.getfield 18, 3) := by decide +kernel
theorem dX0_freeLoansOf_11 : decode cX0_freeLoansOf 11 = .ok (.iload_n 1, 1) := by decide +kernel
theorem dX0_freeLoansOf_12 : decode cX0_freeLoansOf 12 = .ok (.iaload, 1) := by decide +kernel
theorem dX0_freeLoansOf_13 : decode cX0_freeLoansOf 13 = .ok (.goto 4, 3) := by decide +kernel
theorem dX0_freeLoansOf_16 : decode cX0_freeLoansOf 16 = .ok (.iconst 0, 1) := by decide +kernel
theorem dX0_freeLoansOf_17 : decode cX0_freeLoansOf 17 = .ok (.ireturn, 1) := by decide +kernel
set_option maxRecDepth 20000 in
theorem ggX0_charge_X5_isHouse : GoodIn wsX0_charge wsX5_isHouse := goodIn_r _ [4] (by decide +kernel) (by decide +kernel)
set_option maxRecDepth 20000 in
theorem gX0_charge_X5_isHouse_n21 : GoodIn wsX0_charge (wsX5_isHouse) := ggX0_charge_X5_isHouse
theorem dX0_charge_0 : decode cX0_charge 0 = .ok (.iload_n 1, 1) := by decide +kernel
theorem dX0_charge_1 : decode cX0_charge 1 = .ok (.invokestatic 21, 3) := by decide +kernel
theorem dX0_charge_4 : decode cX0_charge 4 = .ok (.ifCond .eq 25, 3) := by decide +kernel
theorem dX0_charge_7 : decode cX0_charge 7 = .ok (.iload_n 2, 1) := by decide +kernel
theorem dX0_charge_8 : decode cX0_charge 8 = .ok (.invokestatic 21, 3) := by decide +kernel
theorem dX0_charge_11 : decode cX0_charge 11 = .ok (.ifCond .eq 18, 3) := by decide +kernel
theorem dX0_charge_14 : decode cX0_charge 14 = .ok (.aload_n 0, 1) := by decide +kernel
theorem dX0_charge_15 : decode cX0_charge 15 = .ok (.getfield 9, 3) := by decide +kernel
theorem dX0_charge_18 : decode cX0_charge 18 = .ok (.iload_n 1, 1) := by decide +kernel
theorem dX0_charge_19 : decode cX0_charge 19 = .ok (.bipush 6, 2) := by decide +kernel
theorem dX0_charge_21 : decode cX0_charge 21 = .ok (.imul, 1) := by decide +kernel
theorem dX0_charge_22 : decode cX0_charge 22 = .ok (.iload_n 2, 1) := by decide +kernel
theorem dX0_charge_23 : decode cX0_charge 23 = .ok (.iadd, 1) := by decide +kernel
theorem dX0_charge_24 : decode cX0_charge 24 = .ok (.dup2, 1) := by decide +kernel
theorem dX0_charge_25 : decode cX0_charge 25 = .ok (.iaload, 1) := by decide +kernel
theorem dX0_charge_26 : decode cX0_charge 26 = .ok (.iload_n 3, 1) := by decide +kernel
theorem dX0_charge_27 : decode cX0_charge 27 = .ok (.iadd, 1) := by decide +kernel
theorem dX0_charge_28 : decode cX0_charge 28 = .ok (.iastore, 1) := by decide +kernel
theorem dX0_charge_29 : decode cX0_charge 29 = .ok (.return_, 1) := by decide +kernel
set_option maxRecDepth 20000 in
theorem ggX0_chargeLoan_X5_isHouse : GoodIn wsX0_chargeLoan wsX5_isHouse := goodIn_r _ [5] (by decide +kernel) (by decide +kernel)
set_option maxRecDepth 20000 in
theorem gX0_chargeLoan_X5_isHouse_n21 : GoodIn wsX0_chargeLoan (wsX5_isHouse) := ggX0_chargeLoan_X5_isHouse
set_option maxRecDepth 20000 in
theorem ggX0_chargeLoan_X0_charge : GoodIn wsX0_chargeLoan wsX0_charge := goodIn_r _ [10, 11, 3, 4, 5, 12, 13, 14] (by decide +kernel) (by decide +kernel)
set_option maxRecDepth 20000 in
theorem gX0_chargeLoan_X0_charge : GoodIn wsX0_chargeLoan (wsV RX0 25 RX0 yX0_charge wsX0_charge) := goodIn_app (goodIn_of _ (by decide +kernel)) ggX0_chargeLoan_X0_charge
theorem dX0_chargeLoan_0 : decode cX0_chargeLoan 0 = .ok (.iload_n 1, 1) := by decide +kernel
theorem dX0_chargeLoan_1 : decode cX0_chargeLoan 1 = .ok (.invokestatic 21, 3) := by decide +kernel
theorem dX0_chargeLoan_4 : decode cX0_chargeLoan 4 = .ok (.ifCond .ne 4, 3) := by decide +kernel
theorem dX0_chargeLoan_7 : decode cX0_chargeLoan 7 = .ok (.return_, 1) := by decide +kernel
theorem dX0_chargeLoan_8 : decode cX0_chargeLoan 8 = .ok (.aload_n 0, 1) := by decide +kernel
theorem dX0_chargeLoan_9 : decode cX0_chargeLoan 9 = .ok (.getfield 15, 3) := by decide +kernel
theorem dX0_chargeLoan_12 : decode cX0_chargeLoan 12 = .ok (.iload_n 1, 1) := by decide +kernel
theorem dX0_chargeLoan_13 : decode cX0_chargeLoan 13 = .ok (.iaload, 1) := by decide +kernel
theorem dX0_chargeLoan_14 : decode cX0_chargeLoan 14 = .ok (.iconst 2, 1) := by decide +kernel
theorem dX0_chargeLoan_15 : decode cX0_chargeLoan 15 = .ok (.if_icmp .gt 26, 3) := by decide +kernel
theorem dX0_chargeLoan_18 : decode cX0_chargeLoan 18 = .ok (.aload_n 0, 1) := by decide +kernel
theorem dX0_chargeLoan_19 : decode cX0_chargeLoan 19 = .ok (.getfield 18, 3) := by decide +kernel
theorem dX0_chargeLoan_22 : decode cX0_chargeLoan 22 = .ok (.iload_n 1, 1) := by decide +kernel
theorem dX0_chargeLoan_23 : decode cX0_chargeLoan 23 = .ok (.iaload, 1) := by decide +kernel
theorem dX0_chargeLoan_24 : decode cX0_chargeLoan 24 = .ok (.iconst 2, 1) := by decide +kernel
theorem dX0_chargeLoan_25 : decode cX0_chargeLoan 25 = .ok (.if_icmp .ge 16, 3) := by decide +kernel
theorem dX0_chargeLoan_28 : decode cX0_chargeLoan 28 = .ok (.aload_n 0, 1) := by decide +kernel
theorem dX0_chargeLoan_29 : decode cX0_chargeLoan 29 = .ok (.getfield 18, 3) := by decide +kernel
theorem dX0_chargeLoan_32 : decode cX0_chargeLoan 32 = .ok (.iload_n 1, 1) := by decide +kernel
theorem dX0_chargeLoan_33 : decode cX0_chargeLoan 33 = .ok (.dup2, 1) := by decide +kernel
theorem dX0_chargeLoan_34 : decode cX0_chargeLoan 34 = .ok (.iaload, 1) := by decide +kernel
theorem dX0_chargeLoan_35 : decode cX0_chargeLoan 35 = .ok (.iconst 1, 1) := by decide +kernel
theorem dX0_chargeLoan_36 : decode cX0_chargeLoan 36 = .ok (.iadd, 1) := by decide +kernel
theorem dX0_chargeLoan_37 : decode cX0_chargeLoan 37 = .ok (.iastore, 1) := by decide +kernel
theorem dX0_chargeLoan_38 : decode cX0_chargeLoan 38 = .ok (.goto 11, 3) := by decide +kernel
theorem dX0_chargeLoan_41 : decode cX0_chargeLoan 41 = .ok (.aload_n 0, 1) := by decide +kernel
theorem dX0_chargeLoan_42 : decode cX0_chargeLoan 42 = .ok (.iload_n 1, 1) := by decide +kernel
theorem dX0_chargeLoan_43 : decode cX0_chargeLoan 43 = .ok (.iload_n 2, 1) := by decide +kernel
theorem dX0_chargeLoan_44 : decode cX0_chargeLoan 44 = .ok (.bipush 6, 2) := by decide +kernel
theorem dX0_chargeLoan_46 : decode cX0_chargeLoan 46 = .ok (.invokevirtual 25, 3) := by decide +kernel
theorem dX0_chargeLoan_49 : decode cX0_chargeLoan 49 = .ok (.return_, 1) := by decide +kernel
set_option maxRecDepth 20000 in
theorem ggX0_balance_X5_isHouse : GoodIn wsX0_balance wsX5_isHouse := goodIn_r _ [4] (by decide +kernel) (by decide +kernel)
set_option maxRecDepth 20000 in
theorem gX0_balance_X5_isHouse_n21 : GoodIn wsX0_balance (wsX5_isHouse) := ggX0_balance_X5_isHouse
theorem dX0_balance_0 : decode cX0_balance 0 = .ok (.iload_n 1, 1) := by decide +kernel
theorem dX0_balance_1 : decode cX0_balance 1 = .ok (.invokestatic 21, 3) := by decide +kernel
theorem dX0_balance_4 : decode cX0_balance 4 = .ok (.ifCond .eq 10, 3) := by decide +kernel
theorem dX0_balance_7 : decode cX0_balance 7 = .ok (.iload_n 2, 1) := by decide +kernel
theorem dX0_balance_8 : decode cX0_balance 8 = .ok (.invokestatic 21, 3) := by decide +kernel
theorem dX0_balance_11 : decode cX0_balance 11 = .ok (.ifCond .ne 5, 3) := by decide +kernel
theorem dX0_balance_14 : decode cX0_balance 14 = .ok (.iconst 0, 1) := by decide +kernel
theorem dX0_balance_15 : decode cX0_balance 15 = .ok (.ireturn, 1) := by decide +kernel
theorem dX0_balance_16 : decode cX0_balance 16 = .ok (.aload_n 0, 1) := by decide +kernel
theorem dX0_balance_17 : decode cX0_balance 17 = .ok (.getfield 9, 3) := by decide +kernel
theorem dX0_balance_20 : decode cX0_balance 20 = .ok (.iload_n 1, 1) := by decide +kernel
theorem dX0_balance_21 : decode cX0_balance 21 = .ok (.bipush 6, 2) := by decide +kernel
theorem dX0_balance_23 : decode cX0_balance 23 = .ok (.imul, 1) := by decide +kernel
theorem dX0_balance_24 : decode cX0_balance 24 = .ok (.iload_n 2, 1) := by decide +kernel
theorem dX0_balance_25 : decode cX0_balance 25 = .ok (.iadd, 1) := by decide +kernel
theorem dX0_balance_26 : decode cX0_balance 26 = .ok (.iaload, 1) := by decide +kernel
theorem dX0_balance_27 : decode cX0_balance 27 = .ok (.aload_n 0, 1) := by decide +kernel
theorem dX0_balance_28 : decode cX0_balance 28 = .ok (.getfield 9, 3) := by decide +kernel
theorem dX0_balance_31 : decode cX0_balance 31 = .ok (.iload_n 2, 1) := by decide +kernel
theorem dX0_balance_32 : decode cX0_balance 32 = .ok (.bipush 6, 2) := by decide +kernel
theorem dX0_balance_34 : decode cX0_balance 34 = .ok (.imul, 1) := by decide +kernel
theorem dX0_balance_35 : decode cX0_balance 35 = .ok (.iload_n 1, 1) := by decide +kernel
theorem dX0_balance_36 : decode cX0_balance 36 = .ok (.iadd, 1) := by decide +kernel
theorem dX0_balance_37 : decode cX0_balance 37 = .ok (.iaload, 1) := by decide +kernel
theorem dX0_balance_38 : decode cX0_balance 38 = .ok (.isub, 1) := by decide +kernel
theorem dX0_balance_39 : decode cX0_balance 39 = .ok (.ireturn, 1) := by decide +kernel
set_option maxRecDepth 20000 in
theorem ggX0_clearDebts_X0_balance : GoodIn wsX0_clearDebts wsX0_balance := goodIn_r _ [6, 1, 7, 8, 9, 10, 11, 12] (by decide +kernel) (by decide +kernel)
set_option maxRecDepth 20000 in
theorem gX0_clearDebts_X0_balance : GoodIn wsX0_clearDebts (wsV RX0 29 RX0 yX0_balance wsX0_balance) := goodIn_app (goodIn_of _ (by decide +kernel)) ggX0_clearDebts_X0_balance
theorem dX0_clearDebts_0 : decode cX0_clearDebts 0 = .ok (.iconst 0, 1) := by decide +kernel
theorem dX0_clearDebts_1 : decode cX0_clearDebts 1 = .ok (.istore_n 1, 1) := by decide +kernel
theorem dX0_clearDebts_2 : decode cX0_clearDebts 2 = .ok (.iconst 0, 1) := by decide +kernel
theorem dX0_clearDebts_3 : decode cX0_clearDebts 3 = .ok (.istore_n 2, 1) := by decide +kernel
theorem dX0_clearDebts_4 : decode cX0_clearDebts 4 = .ok (.iload_n 2, 1) := by decide +kernel
theorem dX0_clearDebts_5 : decode cX0_clearDebts 5 = .ok (.bipush 6, 2) := by decide +kernel
theorem dX0_clearDebts_7 : decode cX0_clearDebts 7 = .ok (.if_icmp .ge 37, 3) := by decide +kernel
theorem dX0_clearDebts_10 : decode cX0_clearDebts 10 = .ok (.iload_n 2, 1) := by decide +kernel
theorem dX0_clearDebts_11 : decode cX0_clearDebts 11 = .ok (.iconst 1, 1) := by decide +kernel
theorem dX0_clearDebts_12 : decode cX0_clearDebts 12 = .ok (.iadd, 1) := by decide +kernel
theorem dX0_clearDebts_13 : decode cX0_clearDebts 13 = .ok (.istore_n 3, 1) := by decide +kernel
theorem dX0_clearDebts_14 : decode cX0_clearDebts 14 = .ok (.iload_n 3, 1) := by decide +kernel
theorem dX0_clearDebts_15 : decode cX0_clearDebts 15 = .ok (.bipush 6, 2) := by decide +kernel
theorem dX0_clearDebts_17 : decode cX0_clearDebts 17 = .ok (.if_icmp .ge 21, 3) := by decide +kernel
theorem dX0_clearDebts_20 : decode cX0_clearDebts 20 = .ok (.aload_n 0, 1) := by decide +kernel
theorem dX0_clearDebts_21 : decode cX0_clearDebts 21 = .ok (.iload_n 2, 1) := by decide +kernel
theorem dX0_clearDebts_22 : decode cX0_clearDebts 22 = .ok (.iload_n 3, 1) := by decide +kernel
theorem dX0_clearDebts_23 : decode cX0_clearDebts 23 = .ok (.invokevirtual 29, 3) := by decide +kernel
theorem dX0_clearDebts_26 : decode cX0_clearDebts 26 = .ok (.ifCond .eq 6, 3) := by decide +kernel
theorem dX0_clearDebts_29 : decode cX0_clearDebts 29 = .ok (.iinc 1 1, 3) := by decide +kernel
theorem dX0_clearDebts_32 : decode cX0_clearDebts 32 = .ok (.iinc 3 1, 3) := by decide +kernel
theorem dX0_clearDebts_35 : decode cX0_clearDebts 35 = .ok (.goto (-21), 3) := by decide +kernel
theorem dX0_clearDebts_38 : decode cX0_clearDebts 38 = .ok (.iinc 2 1, 3) := by decide +kernel
theorem dX0_clearDebts_41 : decode cX0_clearDebts 41 = .ok (.goto (-37), 3) := by decide +kernel
theorem dX0_clearDebts_44 : decode cX0_clearDebts 44 = .ok (.iconst 0, 1) := by decide +kernel
theorem dX0_clearDebts_45 : decode cX0_clearDebts 45 = .ok (.istore_n 2, 1) := by decide +kernel
theorem dX0_clearDebts_46 : decode cX0_clearDebts 46 = .ok (.iload_n 2, 1) := by decide +kernel
theorem dX0_clearDebts_47 : decode cX0_clearDebts 47 = .ok (.aload_n 0, 1) := by decide +kernel
theorem dX0_clearDebts_48 : decode cX0_clearDebts 48 = .ok (.getfield 9, 3) := by decide +kernel
theorem dX0_clearDebts_51 : decode cX0_clearDebts 51 = .ok (.arraylength, 1) := by decide +kernel
theorem dX0_clearDebts_52 : decode cX0_clearDebts 52 = .ok (.if_icmp .ge 16, 3) := by decide +kernel
theorem dX0_clearDebts_55 : decode cX0_clearDebts 55 = .ok (.aload_n 0, 1) := by decide +kernel
theorem dX0_clearDebts_56 : decode cX0_clearDebts 56 = .ok (.getfield 9, 3) := by decide +kernel
theorem dX0_clearDebts_59 : decode cX0_clearDebts 59 = .ok (.iload_n 2, 1) := by decide +kernel
theorem dX0_clearDebts_60 : decode cX0_clearDebts 60 = .ok (.iconst 0, 1) := by decide +kernel
theorem dX0_clearDebts_61 : decode cX0_clearDebts 61 = .ok (.iastore, 1) := by decide +kernel
theorem dX0_clearDebts_62 : decode cX0_clearDebts 62 = .ok (.iinc 2 1, 3) := by decide +kernel
theorem dX0_clearDebts_65 : decode cX0_clearDebts 65 = .ok (.goto (-19), 3) := by decide +kernel
theorem dX0_clearDebts_68 : decode cX0_clearDebts 68 = .ok (.iload_n 1, 1) := by decide +kernel
theorem dX0_clearDebts_69 : decode cX0_clearDebts 69 = .ok (.ireturn, 1) := by decide +kernel
theorem dX1_init_0 : decode cX1_init 0 = .ok (.aload_n 0, 1) := by decide +kernel
theorem dX1_init_1 : decode cX1_init 1 = .ok (.invokespecial 3, 3) := by decide +kernel
theorem dX1_init_4 : decode cX1_init 4 = .ok (.aload_n 0, 1) := by decide +kernel
theorem dX1_init_5 : decode cX1_init 5 = .ok (.iload_n 1, 1) := by decide +kernel
theorem dX1_init_6 : decode cX1_init 6 = .ok (.putfield 9, 3) := by decide +kernel
theorem dX1_init_9 : decode cX1_init 9 = .ok (.aload_n 0, 1) := by decide +kernel
theorem dX1_init_10 : decode cX1_init 10 = .ok (.iload_n 2, 1) := by decide +kernel
theorem dX1_init_11 : decode cX1_init 11 = .ok (.putfield 15, 3) := by decide +kernel
theorem dX1_init_14 : decode cX1_init 14 = .ok (.aload_n 0, 1) := by decide +kernel
theorem dX1_init_15 : decode cX1_init 15 = .ok (.iload_n 3, 1) := by decide +kernel
theorem dX1_init_16 : decode cX1_init 16 = .ok (.putfield 18, 3) := by decide +kernel
theorem dX1_init_19 : decode cX1_init 19 = .ok (.aload_n 0, 1) := by decide +kernel
theorem dX1_init_20 : decode cX1_init 20 = .ok (.iload_n 2, 1) := by decide +kernel
theorem dX1_init_21 : decode cX1_init 21 = .ok (.putfield 21, 3) := by decide +kernel
theorem dX1_init_24 : decode cX1_init 24 = .ok (.aload_n 0, 1) := by decide +kernel
theorem dX1_init_25 : decode cX1_init 25 = .ok (.iconst 0, 1) := by decide +kernel
theorem dX1_init_26 : decode cX1_init 26 = .ok (.putfield 24, 3) := by decide +kernel
theorem dX1_init_29 : decode cX1_init 29 = .ok (.aload_n 0, 1) := by decide +kernel
theorem dX1_init_30 : decode cX1_init 30 = .ok (.iconst (-1), 1) := by decide +kernel
theorem dX1_init_31 : decode cX1_init 31 = .ok (.putfield 28, 3) := by decide +kernel
theorem dX1_init_34 : decode cX1_init 34 = .ok (.aload_n 0, 1) := by decide +kernel
theorem dX1_init_35 : decode cX1_init 35 = .ok (.iconst (-1), 1) := by decide +kernel
theorem dX1_init_36 : decode cX1_init 36 = .ok (.putfield 31, 3) := by decide +kernel
theorem dX1_init_39 : decode cX1_init 39 = .ok (.aload_n 0, 1) := by decide +kernel
theorem dX1_init_40 : decode cX1_init 40 = .ok (.iconst 0, 1) := by decide +kernel
theorem dX1_init_41 : decode cX1_init 41 = .ok (.putfield 34, 3) := by decide +kernel
theorem dX1_init_44 : decode cX1_init 44 = .ok (.return_, 1) := by decide +kernel
theorem dX1_isAtHome_0 : decode cX1_isAtHome 0 = .ok (.aload_n 0, 1) := by decide +kernel
theorem dX1_isAtHome_1 : decode cX1_isAtHome 1 = .ok (.getfield 21, 3) := by decide +kernel
theorem dX1_isAtHome_4 : decode cX1_isAtHome 4 = .ok (.aload_n 0, 1) := by decide +kernel
theorem dX1_isAtHome_5 : decode cX1_isAtHome 5 = .ok (.getfield 15, 3) := by decide +kernel
theorem dX1_isAtHome_8 : decode cX1_isAtHome 8 = .ok (.if_icmp .ne 14, 3) := by decide +kernel
theorem dX1_isAtHome_11 : decode cX1_isAtHome 11 = .ok (.aload_n 0, 1) := by decide +kernel
theorem dX1_isAtHome_12 : decode cX1_isAtHome 12 = .ok (.getfield 24, 3) := by decide +kernel
theorem dX1_isAtHome_15 : decode cX1_isAtHome 15 = .ok (.ifCond .ne 7, 3) := by decide +kernel
theorem dX1_isAtHome_18 : decode cX1_isAtHome 18 = .ok (.iconst 1, 1) := by decide +kernel
theorem dX1_isAtHome_19 : decode cX1_isAtHome 19 = .ok (.goto 4, 3) := by decide +kernel
theorem dX1_isAtHome_22 : decode cX1_isAtHome 22 = .ok (.iconst 0, 1) := by decide +kernel
theorem dX1_isAtHome_23 : decode cX1_isAtHome 23 = .ok (.ireturn, 1) := by decide +kernel
theorem dX1_isHarmed_0 : decode cX1_isHarmed 0 = .ok (.aload_n 0, 1) := by decide +kernel
theorem dX1_isHarmed_1 : decode cX1_isHarmed 1 = .ok (.getfield 31, 3) := by decide +kernel
theorem dX1_isHarmed_4 : decode cX1_isHarmed 4 = .ok (.iconst (-1), 1) := by decide +kernel
theorem dX1_isHarmed_5 : decode cX1_isHarmed 5 = .ok (.if_icmp .eq 7, 3) := by decide +kernel
theorem dX1_isHarmed_8 : decode cX1_isHarmed 8 = .ok (.iconst 1, 1) := by decide +kernel
theorem dX1_isHarmed_9 : decode cX1_isHarmed 9 = .ok (.goto 4, 3) := by decide +kernel
theorem dX1_isHarmed_12 : decode cX1_isHarmed 12 = .ok (.iconst 0, 1) := by decide +kernel
theorem dX1_isHarmed_13 : decode cX1_isHarmed 13 = .ok (.ireturn, 1) := by decide +kernel
set_option maxRecDepth 20000 in
theorem ggX1_canBeSent_X1_isAtHome : GoodIn wsX1_canBeSent wsX1_isAtHome := goodIn_r _ [6, 7, 8, 9, 10, 11, 12, 13, 14, 15, 16, 17] (by decide +kernel) (by decide +kernel)
set_option maxRecDepth 20000 in
theorem gX1_canBeSent_X1_isAtHome : GoodIn wsX1_canBeSent (wsV RX1 37 RX1 yX1_isAtHome wsX1_isAtHome) := goodIn_app (goodIn_of _ (by decide +kernel)) ggX1_canBeSent_X1_isAtHome
theorem dX1_canBeSent_0 : decode cX1_canBeSent 0 = .ok (.aload_n 0, 1) := by decide +kernel
theorem dX1_canBeSent_1 : decode cX1_canBeSent 1 = .ok (.invokevirtual 37, 3) := by decide +kernel
theorem dX1_canBeSent_4 : decode cX1_canBeSent 4 = .ok (.ifCond .eq 14, 3) := by decide +kernel
theorem dX1_canBeSent_7 : decode cX1_canBeSent 7 = .ok (.aload_n 0, 1) := by decide +kernel
theorem dX1_canBeSent_8 : decode cX1_canBeSent 8 = .ok (.getfield 34, 3) := by decide +kernel
theorem dX1_canBeSent_11 : decode cX1_canBeSent 11 = .ok (.ifCond .ne 7, 3) := by decide +kernel
theorem dX1_canBeSent_14 : decode cX1_canBeSent 14 = .ok (.iconst 1, 1) := by decide +kernel
theorem dX1_canBeSent_15 : decode cX1_canBeSent 15 = .ok (.goto 4, 3) := by decide +kernel
theorem dX1_canBeSent_18 : decode cX1_canBeSent 18 = .ok (.iconst 0, 1) := by decide +kernel
theorem dX1_canBeSent_19 : decode cX1_canBeSent 19 = .ok (.ireturn, 1) := by decide +kernel
theorem dX2_init_0 : decode cX2_init 0 = .ok (.aload_n 0, 1) := by decide +kernel
theorem dX2_init_1 : decode cX2_init 1 = .ok (.invokespecial 1, 3) := by decide +kernel
theorem dX2_init_4 : decode cX2_init 4 = .ok (.aload_n 0, 1) := by decide +kernel
theorem dX2_init_5 : decode cX2_init 5 = .ok (.iconst 0, 1) := by decide +kernel
theorem dX2_init_6 : decode cX2_init 6 = .ok (.iload_n 1, 1) := by decide +kernel
theorem dX2_init_7 : decode cX2_init 7 = .ok (.invokestatic 7, 3) := by decide +kernel
theorem dX2_init_10 : decode cX2_init 10 = .ok (.anewarray 13, 3) := by decide +kernel
theorem dX2_init_13 : decode cX2_init 13 = .ok (.putfield 15, 3) := by decide +kernel
theorem dX2_init_16 : decode cX2_init 16 = .ok (.aload_n 0, 1) := by decide +kernel
theorem dX2_init_17 : decode cX2_init 17 = .ok (.iconst 0, 1) := by decide +kernel
theorem dX2_init_18 : decode cX2_init 18 = .ok (.putfield 21, 3) := by decide +kernel
theorem dX2_init_21 : decode cX2_init 21 = .ok (.return_, 1) := by decide +kernel
theorem dX2_put_0 : decode cX2_put 0 = .ok (.aload_n 1, 1) := by decide +kernel
theorem dX2_put_1 : decode cX2_put 1 = .ok (.ifnull 22, 3) := by decide +kernel
theorem dX2_put_4 : decode cX2_put 4 = .ok (.aload_n 0, 1) := by decide +kernel
theorem dX2_put_5 : decode cX2_put 5 = .ok (.getfield 21, 3) := by decide +kernel
theorem dX2_put_8 : decode cX2_put 8 = .ok (.ifCond .lt 15, 3) := by decide +kernel
theorem dX2_put_11 : decode cX2_put 11 = .ok (.aload_n 0, 1) := by decide +kernel
theorem dX2_put_12 : decode cX2_put 12 = .ok (.getfield 21, 3) := by decide +kernel
theorem dX2_put_15 : decode cX2_put 15 = .ok (.aload_n 0, 1) := by decide +kernel
theorem dX2_put_16 : decode cX2_put 16 = .ok (.getfield 15, 3) := by decide +kernel
theorem dX2_put_19 : decode cX2_put 19 = .ok (.arraylength, 1) := by decide +kernel
theorem dX2_put_20 : decode cX2_put 20 = .ok (.if_icmp .lt 4, 3) := by decide +kernel
theorem dX2_put_23 : decode cX2_put 23 = .ok (.return_, 1) := by decide +kernel
theorem dX2_put_24 : decode cX2_put 24 = .ok (.aload_n 0, 1) := by decide +kernel
theorem dX2_put_25 : decode cX2_put 25 = .ok (.getfield 21, 3) := by decide +kernel
theorem dX2_put_28 : decode cX2_put 28 = .ok (.istore_n 2, 1) := by decide +kernel
theorem dX2_put_29 : decode cX2_put 29 = .ok (.iload_n 2, 1) := by decide +kernel
theorem dX2_put_30 : decode cX2_put 30 = .ok (.ifCond .le 43, 3) := by decide +kernel
theorem dX2_put_33 : decode cX2_put 33 = .ok (.aload_n 0, 1) := by decide +kernel
theorem dX2_put_34 : decode cX2_put 34 = .ok (.getfield 15, 3) := by decide +kernel
theorem dX2_put_37 : decode cX2_put 37 = .ok (.iload_n 2, 1) := by decide +kernel
theorem dX2_put_38 : decode cX2_put 38 = .ok (.iconst 1, 1) := by decide +kernel
theorem dX2_put_39 : decode cX2_put 39 = .ok (.isub, 1) := by decide +kernel
theorem dX2_put_40 : decode cX2_put 40 = .ok (.aaload, 1) := by decide +kernel
theorem dX2_put_41 : decode cX2_put 41 = .ok (.astore_n 3, 1) := by decide +kernel
theorem dX2_put_42 : decode cX2_put 42 = .ok (.aload_n 3, 1) := by decide +kernel
theorem dX2_put_43 : decode cX2_put 43 = .ok (.ifnull 30, 3) := by decide +kernel
theorem dX2_put_46 : decode cX2_put 46 = .ok (.aload_n 3, 1) := by decide +kernel
theorem dX2_put_47 : decode cX2_put 47 = .ok (.getfield 25, 3) := by decide +kernel
theorem dX2_put_50 : decode cX2_put 50 = .ok (.aload_n 1, 1) := by decide +kernel
theorem dX2_put_51 : decode cX2_put 51 = .ok (.getfield 25, 3) := by decide +kernel
theorem dX2_put_54 : decode cX2_put 54 = .ok (.if_icmp .gt 6, 3) := by decide +kernel
theorem dX2_put_57 : decode cX2_put 57 = .ok (.goto 16, 3) := by decide +kernel
theorem dX2_put_60 : decode cX2_put 60 = .ok (.aload_n 0, 1) := by decide +kernel
theorem dX2_put_61 : decode cX2_put 61 = .ok (.getfield 15, 3) := by decide +kernel
theorem dX2_put_64 : decode cX2_put 64 = .ok (.iload_n 2, 1) := by decide +kernel
theorem dX2_put_65 : decode cX2_put 65 = .ok (.aload_n 3, 1) := by decide +kernel
theorem dX2_put_66 : decode cX2_put 66 = .ok (.aastore, 1) := by decide +kernel
theorem dX2_put_67 : decode cX2_put 67 = .ok (.iinc 2 (-1), 3) := by decide +kernel
theorem dX2_put_70 : decode cX2_put 70 = .ok (.goto (-41), 3) := by decide +kernel
theorem dX2_put_73 : decode cX2_put 73 = .ok (.aload_n 0, 1) := by decide +kernel
theorem dX2_put_74 : decode cX2_put 74 = .ok (.getfield 15, 3) := by decide +kernel
theorem dX2_put_77 : decode cX2_put 77 = .ok (.iload_n 2, 1) := by decide +kernel
theorem dX2_put_78 : decode cX2_put 78 = .ok (.aload_n 1, 1) := by decide +kernel
theorem dX2_put_79 : decode cX2_put 79 = .ok (.aastore, 1) := by decide +kernel
theorem dX2_put_80 : decode cX2_put 80 = .ok (.aload_n 0, 1) := by decide +kernel
theorem dX2_put_81 : decode cX2_put 81 = .ok (.dup, 1) := by decide +kernel
theorem dX2_put_82 : decode cX2_put 82 = .ok (.getfield 21, 3) := by decide +kernel
theorem dX2_put_85 : decode cX2_put 85 = .ok (.iconst 1, 1) := by decide +kernel
theorem dX2_put_86 : decode cX2_put 86 = .ok (.iadd, 1) := by decide +kernel
theorem dX2_put_87 : decode cX2_put 87 = .ok (.putfield 21, 3) := by decide +kernel
theorem dX2_put_90 : decode cX2_put 90 = .ok (.return_, 1) := by decide +kernel
theorem dX2_takeArrived_0 : decode cX2_takeArrived 0 = .ok (.aload_n 0, 1) := by decide +kernel
theorem dX2_takeArrived_1 : decode cX2_takeArrived 1 = .ok (.getfield 21, 3) := by decide +kernel
theorem dX2_takeArrived_4 : decode cX2_takeArrived 4 = .ok (.iconst 1, 1) := by decide +kernel
theorem dX2_takeArrived_5 : decode cX2_takeArrived 5 = .ok (.if_icmp .lt 15, 3) := by decide +kernel
theorem dX2_takeArrived_8 : decode cX2_takeArrived 8 = .ok (.aload_n 0, 1) := by decide +kernel
theorem dX2_takeArrived_9 : decode cX2_takeArrived 9 = .ok (.getfield 21, 3) := by decide +kernel
theorem dX2_takeArrived_12 : decode cX2_takeArrived 12 = .ok (.aload_n 0, 1) := by decide +kernel
theorem dX2_takeArrived_13 : decode cX2_takeArrived 13 = .ok (.getfield 15, 3) := by decide +kernel
theorem dX2_takeArrived_16 : decode cX2_takeArrived 16 = .ok (.arraylength, 1) := by decide +kernel
theorem dX2_takeArrived_17 : decode cX2_takeArrived 17 = .ok (.if_icmp .le 5, 3) := by decide +kernel
theorem dX2_takeArrived_20 : decode cX2_takeArrived 20 = .ok (.aconst_null, 1) := by decide +kernel
theorem dX2_takeArrived_21 : decode cX2_takeArrived 21 = .ok (.areturn, 1) := by decide +kernel
theorem dX2_takeArrived_22 : decode cX2_takeArrived 22 = .ok (.aload_n 0, 1) := by decide +kernel
theorem dX2_takeArrived_23 : decode cX2_takeArrived 23 = .ok (.getfield 15, 3) := by decide +kernel
theorem dX2_takeArrived_26 : decode cX2_takeArrived 26 = .ok (.iconst 0, 1) := by decide +kernel
theorem dX2_takeArrived_27 : decode cX2_takeArrived 27 = .ok (.aaload, 1) := by decide +kernel
theorem dX2_takeArrived_28 : decode cX2_takeArrived 28 = .ok (.astore_n 2, 1) := by decide +kernel
theorem dX2_takeArrived_29 : decode cX2_takeArrived 29 = .ok (.aload_n 2, 1) := by decide +kernel
theorem dX2_takeArrived_30 : decode cX2_takeArrived 30 = .ok (.ifnull 11, 3) := by decide +kernel
theorem dX2_takeArrived_33 : decode cX2_takeArrived 33 = .ok (.aload_n 2, 1) := by decide +kernel
theorem dX2_takeArrived_34 : decode cX2_takeArrived 34 = .ok (.getfield 25, 3) := by decide +kernel
theorem dX2_takeArrived_37 : decode cX2_takeArrived 37 = .ok (.iload_n 1, 1) := by decide +kernel
theorem dX2_takeArrived_38 : decode cX2_takeArrived 38 = .ok (.if_icmp .le 5, 3) := by decide +kernel
theorem dX2_takeArrived_41 : decode cX2_takeArrived 41 = .ok (.aconst_null, 1) := by decide +kernel
theorem dX2_takeArrived_42 : decode cX2_takeArrived 42 = .ok (.areturn, 1) := by decide +kernel
theorem dX2_takeArrived_43 : decode cX2_takeArrived 43 = .ok (.aload_n 0, 1) := by decide +kernel
theorem dX2_takeArrived_44 : decode cX2_takeArrived 44 = .ok (.dup, 1) := by decide +kernel
theorem dX2_takeArrived_45 : decode cX2_takeArrived 45 = .ok (.getfield 21, 3) := by decide +kernel
theorem dX2_takeArrived_48 : decode cX2_takeArrived 48 = .ok (.iconst 1, 1) := by decide +kernel
theorem dX2_takeArrived_49 : decode cX2_takeArrived 49 = .ok (.isub, 1) := by decide +kernel
theorem dX2_takeArrived_50 : decode cX2_takeArrived 50 = .ok (.putfield 21, 3) := by decide +kernel
theorem dX2_takeArrived_53 : decode cX2_takeArrived 53 = .ok (.iconst 0, 1) := by decide +kernel
theorem dX2_takeArrived_54 : decode cX2_takeArrived 54 = .ok (.istore_n 3, 1) := by decide +kernel
theorem dX2_takeArrived_55 : decode cX2_takeArrived 55 = .ok (.iload_n 3, 1) := by decide +kernel
theorem dX2_takeArrived_56 : decode cX2_takeArrived 56 = .ok (.aload_n 0, 1) := by decide +kernel
theorem dX2_takeArrived_57 : decode cX2_takeArrived 57 = .ok (.getfield 21, 3) := by decide +kernel
theorem dX2_takeArrived_60 : decode cX2_takeArrived 60 = .ok (.if_icmp .ge 23, 3) := by decide +kernel
theorem dX2_takeArrived_63 : decode cX2_takeArrived 63 = .ok (.aload_n 0, 1) := by decide +kernel
theorem dX2_takeArrived_64 : decode cX2_takeArrived 64 = .ok (.getfield 15, 3) := by decide +kernel
theorem dX2_takeArrived_67 : decode cX2_takeArrived 67 = .ok (.iload_n 3, 1) := by decide +kernel
theorem dX2_takeArrived_68 : decode cX2_takeArrived 68 = .ok (.aload_n 0, 1) := by decide +kernel
theorem dX2_takeArrived_69 : decode cX2_takeArrived 69 = .ok (.getfield 15, 3) := by decide +kernel
theorem dX2_takeArrived_72 : decode cX2_takeArrived 72 = .ok (.iload_n 3, 1) := by decide +kernel
theorem dX2_takeArrived_73 : decode cX2_takeArrived 73 = .ok (.iconst 1, 1) := by decide +kernel
theorem dX2_takeArrived_74 : decode cX2_takeArrived 74 = .ok (.iadd, 1) := by decide +kernel
theorem dX2_takeArrived_75 : decode cX2_takeArrived 75 = .ok (.aaload, 1) := by decide +kernel
theorem dX2_takeArrived_76 : decode cX2_takeArrived 76 = .ok (.aastore, 1) := by decide +kernel
theorem dX2_takeArrived_77 : decode cX2_takeArrived 77 = .ok (.iinc 3 1, 3) := by decide +kernel
theorem dX2_takeArrived_80 : decode cX2_takeArrived 80 = .ok (.goto (-25), 3) := by decide +kernel
theorem dX2_takeArrived_83 : decode cX2_takeArrived 83 = .ok (.aload_n 0, 1) := by decide +kernel
theorem dX2_takeArrived_84 : decode cX2_takeArrived 84 = .ok (.getfield 15, 3) := by decide +kernel
theorem dX2_takeArrived_87 : decode cX2_takeArrived 87 = .ok (.aload_n 0, 1) := by decide +kernel
theorem dX2_takeArrived_88 : decode cX2_takeArrived 88 = .ok (.getfield 21, 3) := by decide +kernel
theorem dX2_takeArrived_91 : decode cX2_takeArrived 91 = .ok (.aconst_null, 1) := by decide +kernel
theorem dX2_takeArrived_92 : decode cX2_takeArrived 92 = .ok (.aastore, 1) := by decide +kernel
theorem dX2_takeArrived_93 : decode cX2_takeArrived 93 = .ok (.aload_n 2, 1) := by decide +kernel
theorem dX2_takeArrived_94 : decode cX2_takeArrived 94 = .ok (.areturn, 1) := by decide +kernel
theorem dX3_init_0 : decode cX3_init 0 = .ok (.aload_n 0, 1) := by decide +kernel
theorem dX3_init_1 : decode cX3_init 1 = .ok (.invokespecial 3, 3) := by decide +kernel
theorem dX3_init_4 : decode cX3_init 4 = .ok (.aload_n 0, 1) := by decide +kernel
theorem dX3_init_5 : decode cX3_init 5 = .ok (.iload_n 1, 1) := by decide +kernel
theorem dX3_init_6 : decode cX3_init 6 = .ok (.putfield 9, 3) := by decide +kernel
theorem dX3_init_9 : decode cX3_init 9 = .ok (.aload_n 0, 1) := by decide +kernel
theorem dX3_init_10 : decode cX3_init 10 = .ok (.iload_n 2, 1) := by decide +kernel
theorem dX3_init_11 : decode cX3_init 11 = .ok (.putfield 15, 3) := by decide +kernel
theorem dX3_init_14 : decode cX3_init 14 = .ok (.aload_n 0, 1) := by decide +kernel
theorem dX3_init_15 : decode cX3_init 15 = .ok (.aconst_null, 1) := by decide +kernel
theorem dX3_init_16 : decode cX3_init 16 = .ok (.putfield 18, 3) := by decide +kernel
theorem dX3_init_19 : decode cX3_init 19 = .ok (.aload_n 0, 1) := by decide +kernel
theorem dX3_init_20 : decode cX3_init 20 = .ok (.iconst 0, 1) := by decide +kernel
theorem dX3_init_21 : decode cX3_init 21 = .ok (.putfield 22, 3) := by decide +kernel
theorem dX3_init_24 : decode cX3_init 24 = .ok (.aload_n 0, 1) := by decide +kernel
theorem dX3_init_25 : decode cX3_init 25 = .ok (.iconst 0, 1) := by decide +kernel
theorem dX3_init_26 : decode cX3_init 26 = .ok (.putfield 25, 3) := by decide +kernel
theorem dX3_init_29 : decode cX3_init 29 = .ok (.aload_n 0, 1) := by decide +kernel
theorem dX3_init_30 : decode cX3_init 30 = .ok (.iconst 0, 1) := by decide +kernel
theorem dX3_init_31 : decode cX3_init 31 = .ok (.putfield 28, 3) := by decide +kernel
theorem dX3_init_34 : decode cX3_init 34 = .ok (.aload_n 0, 1) := by decide +kernel
theorem dX3_init_35 : decode cX3_init 35 = .ok (.iconst 0, 1) := by decide +kernel
theorem dX3_init_36 : decode cX3_init 36 = .ok (.putfield 32, 3) := by decide +kernel
theorem dX3_init_39 : decode cX3_init 39 = .ok (.return_, 1) := by decide +kernel
theorem dX3_markAsked_0 : decode cX3_markAsked 0 = .ok (.aload_n 0, 1) := by decide +kernel
theorem dX3_markAsked_1 : decode cX3_markAsked 1 = .ok (.dup, 1) := by decide +kernel
theorem dX3_markAsked_2 : decode cX3_markAsked 2 = .ok (.getfield 32, 3) := by decide +kernel
theorem dX3_markAsked_5 : decode cX3_markAsked 5 = .ok (.iconst 1, 1) := by decide +kernel
theorem dX3_markAsked_6 : decode cX3_markAsked 6 = .ok (.iload_n 1, 1) := by decide +kernel
theorem dX3_markAsked_7 : decode cX3_markAsked 7 = .ok (.ishl, 1) := by decide +kernel
theorem dX3_markAsked_8 : decode cX3_markAsked 8 = .ok (.ior, 1) := by decide +kernel
theorem dX3_markAsked_9 : decode cX3_markAsked 9 = .ok (.putfield 32, 3) := by decide +kernel
theorem dX3_markAsked_12 : decode cX3_markAsked 12 = .ok (.return_, 1) := by decide +kernel
theorem dX3_mayAskFor_0 : decode cX3_mayAskFor 0 = .ok (.aload_n 0, 1) := by decide +kernel
theorem dX3_mayAskFor_1 : decode cX3_mayAskFor 1 = .ok (.getfield 32, 3) := by decide +kernel
theorem dX3_mayAskFor_4 : decode cX3_mayAskFor 4 = .ok (.aload_n 1, 1) := by decide +kernel
theorem dX3_mayAskFor_5 : decode cX3_mayAskFor 5 = .ok (.getfield 35, 3) := by decide +kernel
theorem dX3_mayAskFor_8 : decode cX3_mayAskFor 8 = .ok (.ishr, 1) := by decide +kernel
theorem dX3_mayAskFor_9 : decode cX3_mayAskFor 9 = .ok (.iconst 1, 1) := by decide +kernel
theorem dX3_mayAskFor_10 : decode cX3_mayAskFor 10 = .ok (.iand, 1) := by decide +kernel
theorem dX3_mayAskFor_11 : decode cX3_mayAskFor 11 = .ok (.iconst 1, 1) := by decide +kernel
theorem dX3_mayAskFor_12 : decode cX3_mayAskFor 12 = .ok (.if_icmp .ne 7, 3) := by decide +kernel
theorem dX3_mayAskFor_15 : decode cX3_mayAskFor 15 = .ok (.iconst 1, 1) := by decide +kernel
theorem dX3_mayAskFor_16 : decode cX3_mayAskFor 16 = .ok (.goto 4, 3) := by decide +kernel
theorem dX3_mayAskFor_19 : decode cX3_mayAskFor 19 = .ok (.iconst 0, 1) := by decide +kernel
theorem dX3_mayAskFor_20 : decode cX3_mayAskFor 20 = .ok (.istore_n 2, 1) := by decide +kernel
theorem dX3_mayAskFor_21 : decode cX3_mayAskFor 21 = .ok (.aload_n 1, 1) := by decide +kernel
theorem dX3_mayAskFor_22 : decode cX3_mayAskFor 22 = .ok (.getfield 40, 3) := by decide +kernel
theorem dX3_mayAskFor_25 : decode cX3_mayAskFor 25 = .ok (.aload_n 0, 1) := by decide +kernel
theorem dX3_mayAskFor_26 : decode cX3_mayAskFor 26 = .ok (.getfield 15, 3) := by decide +kernel
theorem dX3_mayAskFor_29 : decode cX3_mayAskFor 29 = .ok (.if_icmp .ne 30, 3) := by decide +kernel
theorem dX3_mayAskFor_32 : decode cX3_mayAskFor 32 = .ok (.aload_n 1, 1) := by decide +kernel
theorem dX3_mayAskFor_33 : decode cX3_mayAskFor 33 = .ok (.getfield 41, 3) := by decide +kernel
theorem dX3_mayAskFor_36 : decode cX3_mayAskFor 36 = .ok (.iconst 1, 1) := by decide +kernel
theorem dX3_mayAskFor_37 : decode cX3_mayAskFor 37 = .ok (.if_icmp .ne 22, 3) := by decide +kernel
theorem dX3_mayAskFor_40 : decode cX3_mayAskFor 40 = .ok (.aload_n 1, 1) := by decide +kernel
theorem dX3_mayAskFor_41 : decode cX3_mayAskFor 41 = .ok (.getfield 35, 3) := by decide +kernel
theorem dX3_mayAskFor_44 : decode cX3_mayAskFor 44 = .ok (.aload_n 0, 1) := by decide +kernel
theorem dX3_mayAskFor_45 : decode cX3_mayAskFor 45 = .ok (.getfield 9, 3) := by decide +kernel
theorem dX3_mayAskFor_48 : decode cX3_mayAskFor 48 = .ok (.if_icmp .eq 11, 3) := by decide +kernel
theorem dX3_mayAskFor_51 : decode cX3_mayAskFor 51 = .ok (.iload_n 2, 1) := by decide +kernel
theorem dX3_mayAskFor_52 : decode cX3_mayAskFor 52 = .ok (.ifCond .ne 7, 3) := by decide +kernel
theorem dX3_mayAskFor_55 : decode cX3_mayAskFor 55 = .ok (.iconst 1, 1) := by decide +kernel
theorem dX3_mayAskFor_56 : decode cX3_mayAskFor 56 = .ok (.goto 4, 3) := by decide +kernel
theorem dX3_mayAskFor_59 : decode cX3_mayAskFor 59 = .ok (.iconst 0, 1) := by decide +kernel
theorem dX3_mayAskFor_60 : decode cX3_mayAskFor 60 = .ok (.ireturn, 1) := by decide +kernel
theorem dX4_init_0 : decode cX4_init 0 = .ok (.aload_n 0, 1) := by decide +kernel
theorem dX4_init_1 : decode cX4_init 1 = .ok (.invokespecial 1, 3) := by decide +kernel
theorem dX4_init_4 : decode cX4_init 4 = .ok (.aload_n 0, 1) := by decide +kernel
theorem dX4_init_5 : decode cX4_init 5 = .ok (.iload_n 1, 1) := by decide +kernel
theorem dX4_init_6 : decode cX4_init 6 = .ok (.putfield 7, 3) := by decide +kernel
theorem dX4_init_9 : decode cX4_init 9 = .ok (.aload_n 0, 1) := by decide +kernel
theorem dX4_init_10 : decode cX4_init 10 = .ok (.iload_n 2, 1) := by decide +kernel
theorem dX4_init_11 : decode cX4_init 11 = .ok (.putfield 13, 3) := by decide +kernel
theorem dX4_init_14 : decode cX4_init 14 = .ok (.aload_n 0, 1) := by decide +kernel
theorem dX4_init_15 : decode cX4_init 15 = .ok (.aload_n 3, 1) := by decide +kernel
theorem dX4_init_16 : decode cX4_init 16 = .ok (.putfield 16, 3) := by decide +kernel
theorem dX4_init_19 : decode cX4_init 19 = .ok (.aload_n 0, 1) := by decide +kernel
theorem dX4_init_20 : decode cX4_init 20 = .ok (.aload 4, 2) := by decide +kernel
theorem dX4_init_22 : decode cX4_init 22 = .ok (.putfield 20, 3) := by decide +kernel
theorem dX4_init_25 : decode cX4_init 25 = .ok (.return_, 1) := by decide +kernel
set_option maxRecDepth 20000 in
theorem ggX5_init_X2_init : GoodIn wsX5_init wsX2_init := goodIn_r _ [21, 22, 2, 3, 23, 24, 25, 26, 27, 28, 29, 45, 46] (by decide +kernel) (by decide +kernel)
set_option maxRecDepth 20000 in
theorem gX5_init_X2_init : GoodIn wsX5_init (wsX2_init) := ggX5_init_X2_init
set_option maxRecDepth 20000 in
theorem ggX5_init_X0_init : GoodIn wsX5_init wsX0_init := goodIn_r _ [32, 33, 2, 3, 34, 35, 36, 37, 47, 48, 49] (by decide +kernel) (by decide +kernel)
set_option maxRecDepth 20000 in
theorem gX5_init_X0_init : GoodIn wsX5_init (wsX0_init) := ggX5_init_X0_init
theorem dX5_init_0 : decode cX5_init 0 = .ok (.aload_n 0, 1) := by decide +kernel
theorem dX5_init_1 : decode cX5_init 1 = .ok (.invokespecial 1, 3) := by decide +kernel
theorem dX5_init_4 : decode cX5_init 4 = .ok (.aload_n 0, 1) := by decide +kernel
theorem dX5_init_5 : decode cX5_init 5 = .ok (.bipush 20, 2) := by decide +kernel
theorem dX5_init_7 : decode cX5_init 7 = .ok (.anewarray 9, 3) := by decide +kernel
theorem dX5_init_10 : decode cX5_init 10 = .ok (.putfield 11, 3) := by decide +kernel
theorem dX5_init_13 : decode cX5_init 13 = .ok (.aload_n 0, 1) := by decide +kernel
theorem dX5_init_14 : decode cX5_init 14 = .ok (.bipush 40, 2) := by decide +kernel
theorem dX5_init_16 : decode cX5_init 16 = .ok (.anewarray 15, 3) := by decide +kernel
theorem dX5_init_19 : decode cX5_init 19 = .ok (.putfield 17, 3) := by decide +kernel
theorem dX5_init_22 : decode cX5_init 22 = .ok (.aload_n 0, 1) := by decide +kernel
theorem dX5_init_23 : decode cX5_init 23 = .ok (.new 21, 3) := by decide +kernel
theorem dX5_init_26 : decode cX5_init 26 = .ok (.dup, 1) := by decide +kernel
theorem dX5_init_27 : decode cX5_init 27 = .ok (.sipush 552, 3) := by decide +kernel
theorem dX5_init_30 : decode cX5_init 30 = .ok (.invokespecial 23, 3) := by decide +kernel
theorem dX5_init_33 : decode cX5_init 33 = .ok (.putfield 26, 3) := by decide +kernel
theorem dX5_init_36 : decode cX5_init 36 = .ok (.aload_n 0, 1) := by decide +kernel
theorem dX5_init_37 : decode cX5_init 37 = .ok (.new 30, 3) := by decide +kernel
theorem dX5_init_40 : decode cX5_init 40 = .ok (.dup, 1) := by decide +kernel
theorem dX5_init_41 : decode cX5_init 41 = .ok (.invokespecial 32, 3) := by decide +kernel
theorem dX5_init_44 : decode cX5_init 44 = .ok (.putfield 33, 3) := by decide +kernel
theorem dX5_init_47 : decode cX5_init 47 = .ok (.aload_n 0, 1) := by decide +kernel
theorem dX5_init_48 : decode cX5_init 48 = .ok (.iconst 0, 1) := by decide +kernel
theorem dX5_init_49 : decode cX5_init 49 = .ok (.putfield 37, 3) := by decide +kernel
theorem dX5_init_52 : decode cX5_init 52 = .ok (.aload_n 0, 1) := by decide +kernel
theorem dX5_init_53 : decode cX5_init 53 = .ok (.iconst 0, 1) := by decide +kernel
theorem dX5_init_54 : decode cX5_init 54 = .ok (.putfield 41, 3) := by decide +kernel
theorem dX5_init_57 : decode cX5_init 57 = .ok (.aload_n 0, 1) := by decide +kernel
theorem dX5_init_58 : decode cX5_init 58 = .ok (.iconst 0, 1) := by decide +kernel
theorem dX5_init_59 : decode cX5_init 59 = .ok (.putfield 44, 3) := by decide +kernel
theorem dX5_init_62 : decode cX5_init 62 = .ok (.return_, 1) := by decide +kernel
set_option maxRecDepth 20000 in
theorem ggX5_addCopy_X5_isHouse : GoodIn wsX5_addCopy wsX5_isHouse := goodIn_r _ [14] (by decide +kernel) (by decide +kernel)
set_option maxRecDepth 20000 in
theorem gX5_addCopy_X5_isHouse : GoodIn wsX5_addCopy (va_wsS RX5 47 yX5_isHouse wsX5_isHouse) := goodIn_app (goodIn_of _ (by decide +kernel)) ggX5_addCopy_X5_isHouse
set_option maxRecDepth 20000 in
theorem ggX5_addCopy_X5_isTitle : GoodIn wsX5_addCopy wsX5_isTitle := goodIn_r _ [17] (by decide +kernel) (by decide +kernel)
set_option maxRecDepth 20000 in
theorem gX5_addCopy_X5_isTitle : GoodIn wsX5_addCopy (va_wsS RX5 51 yX5_isTitle wsX5_isTitle) := goodIn_app (goodIn_of _ (by decide +kernel)) ggX5_addCopy_X5_isTitle
set_option maxRecDepth 20000 in
theorem ggX5_addCopy_X1_init : GoodIn wsX5_addCopy wsX1_init := goodIn_r _ [20, 21, 22, 23, 24, 25, 26, 27, 28, 29, 30, 31, 78, 79, 80, 81, 82, 83, 84, 85] (by decide +kernel) (by decide +kernel)
set_option maxRecDepth 20000 in
theorem gX5_addCopy_X1_init : GoodIn wsX5_addCopy (wsX1_init) := ggX5_addCopy_X1_init
set_option maxRecDepth 20000 in
theorem ggX5_addCopy_X0_countHomeCopy : GoodIn wsX5_addCopy wsX0_countHomeCopy := goodIn_r _ [36, 37, 12, 13, 14, 86, 87, 88] (by decide +kernel) (by decide +kernel)
set_option maxRecDepth 20000 in
theorem gX5_addCopy_X0_countHomeCopy : GoodIn wsX5_addCopy (wsV RX5 69 RX0 yX0_countHomeCopy wsX0_countHomeCopy) := goodIn_app (goodIn_of _ (by decide +kernel)) ggX5_addCopy_X0_countHomeCopy
set_option maxRecDepth 20000 in
theorem ggX5_addCopy_X5_sendNews : GoodIn wsX5_addCopy wsX5_sendNews := goodIn_r _ [41, 42, 43, 44, 13, 45, 46, 47, 48, 49, 50, 51, 52, 53, 54, 55, 56, 57, 58, 22, 23, 59, 60, 61, 62, 63, 64, 65, 66, 67, 68, 69, 70, 78, 79, 80, 81, 82, 83, 84, 85, 71, 72, 73, 74, 75, 76, 77, 89, 90, 91, 92, 93, 94] (by decide +kernel) (by decide +kernel)
set_option maxRecDepth 20000 in
theorem gX5_addCopy_X5_sendNews : GoodIn wsX5_addCopy (wsV RX5 72 RX5 yX5_sendNews wsX5_sendNews) := goodIn_app (goodIn_of _ (by decide +kernel)) ggX5_addCopy_X5_sendNews
theorem dX5_addCopy_0 : decode cX5_addCopy 0 = .ok (.iload_n 1, 1) := by decide +kernel
theorem dX5_addCopy_1 : decode cX5_addCopy 1 = .ok (.invokestatic 47, 3) := by decide +kernel
theorem dX5_addCopy_4 : decode cX5_addCopy 4 = .ok (.ifCond .eq 10, 3) := by decide +kernel
theorem dX5_addCopy_7 : decode cX5_addCopy 7 = .ok (.iload_n 2, 1) := by decide +kernel
theorem dX5_addCopy_8 : decode cX5_addCopy 8 = .ok (.invokestatic 51, 3) := by decide +kernel
theorem dX5_addCopy_11 : decode cX5_addCopy 11 = .ok (.ifCond .ne 13, 3) := by decide +kernel
theorem dX5_addCopy_14 : decode cX5_addCopy 14 = .ok (.new 54, 3) := by decide +kernel
theorem dX5_addCopy_17 : decode cX5_addCopy 17 = .ok (.dup, 1) := by decide +kernel
theorem dX5_addCopy_18 : decode cX5_addCopy 18 = .ok (.ldc 56, 2) := by decide +kernel
theorem dX5_addCopy_20 : decode cX5_addCopy 20 = .ok (.invokespecial 58, 3) := by decide +kernel
theorem dX5_addCopy_23 : decode cX5_addCopy 23 = .ok (.athrow, 1) := by decide +kernel
theorem dX5_addCopy_24 : decode cX5_addCopy 24 = .ok (.aload_n 0, 1) := by decide +kernel
theorem dX5_addCopy_25 : decode cX5_addCopy 25 = .ok (.getfield 37, 3) := by decide +kernel
theorem dX5_addCopy_28 : decode cX5_addCopy 28 = .ok (.istore_n 3, 1) := by decide +kernel
theorem dX5_addCopy_29 : decode cX5_addCopy 29 = .ok (.iload_n 3, 1) := by decide +kernel
theorem dX5_addCopy_30 : decode cX5_addCopy 30 = .ok (.ifCond .lt 12, 3) := by decide +kernel
theorem dX5_addCopy_33 : decode cX5_addCopy 33 = .ok (.iload_n 3, 1) := by decide +kernel
theorem dX5_addCopy_34 : decode cX5_addCopy 34 = .ok (.aload_n 0, 1) := by decide +kernel
theorem dX5_addCopy_35 : decode cX5_addCopy 35 = .ok (.getfield 11, 3) := by decide +kernel
theorem dX5_addCopy_38 : decode cX5_addCopy 38 = .ok (.arraylength, 1) := by decide +kernel
theorem dX5_addCopy_39 : decode cX5_addCopy 39 = .ok (.if_icmp .lt 13, 3) := by decide +kernel
theorem dX5_addCopy_42 : decode cX5_addCopy 42 = .ok (.new 61, 3) := by decide +kernel
theorem dX5_addCopy_45 : decode cX5_addCopy 45 = .ok (.dup, 1) := by decide +kernel
theorem dX5_addCopy_46 : decode cX5_addCopy 46 = .ok (.ldc 63, 2) := by decide +kernel
theorem dX5_addCopy_48 : decode cX5_addCopy 48 = .ok (.invokespecial 65, 3) := by decide +kernel
theorem dX5_addCopy_51 : decode cX5_addCopy 51 = .ok (.athrow, 1) := by decide +kernel
theorem dX5_addCopy_52 : decode cX5_addCopy 52 = .ok (.new 9, 3) := by decide +kernel
theorem dX5_addCopy_55 : decode cX5_addCopy 55 = .ok (.dup, 1) := by decide +kernel
theorem dX5_addCopy_56 : decode cX5_addCopy 56 = .ok (.iload_n 3, 1) := by decide +kernel
theorem dX5_addCopy_57 : decode cX5_addCopy 57 = .ok (.iload_n 1, 1) := by decide +kernel
theorem dX5_addCopy_58 : decode cX5_addCopy 58 = .ok (.iload_n 2, 1) := by decide +kernel
theorem dX5_addCopy_59 : decode cX5_addCopy 59 = .ok (.invokespecial 66, 3) := by decide +kernel
theorem dX5_addCopy_62 : decode cX5_addCopy 62 = .ok (.astore 4, 2) := by decide +kernel
theorem dX5_addCopy_64 : decode cX5_addCopy 64 = .ok (.aload_n 0, 1) := by decide +kernel
theorem dX5_addCopy_65 : decode cX5_addCopy 65 = .ok (.getfield 11, 3) := by decide +kernel
theorem dX5_addCopy_68 : decode cX5_addCopy 68 = .ok (.iload_n 3, 1) := by decide +kernel
theorem dX5_addCopy_69 : decode cX5_addCopy 69 = .ok (.aload 4, 2) := by decide +kernel
theorem dX5_addCopy_71 : decode cX5_addCopy 71 = .ok (.aastore, 1) := by decide +kernel
theorem dX5_addCopy_72 : decode cX5_addCopy 72 = .ok (.aload_n 0, 1) := by decide +kernel
theorem dX5_addCopy_73 : decode cX5_addCopy 73 = .ok (.iload_n 3, 1) := by decide +kernel
theorem dX5_addCopy_74 : decode cX5_addCopy 74 = .ok (.iconst 1, 1) := by decide +kernel
theorem dX5_addCopy_75 : decode cX5_addCopy 75 = .ok (.iadd, 1) := by decide +kernel
theorem dX5_addCopy_76 : decode cX5_addCopy 76 = .ok (.putfield 37, 3) := by decide +kernel
theorem dX5_addCopy_79 : decode cX5_addCopy 79 = .ok (.aload_n 0, 1) := by decide +kernel
theorem dX5_addCopy_80 : decode cX5_addCopy 80 = .ok (.getfield 33, 3) := by decide +kernel
theorem dX5_addCopy_83 : decode cX5_addCopy 83 = .ok (.iload_n 1, 1) := by decide +kernel
theorem dX5_addCopy_84 : decode cX5_addCopy 84 = .ok (.invokevirtual 69, 3) := by decide +kernel
theorem dX5_addCopy_87 : decode cX5_addCopy 87 = .ok (.aload_n 0, 1) := by decide +kernel
theorem dX5_addCopy_88 : decode cX5_addCopy 88 = .ok (.iconst 0, 1) := by decide +kernel
theorem dX5_addCopy_89 : decode cX5_addCopy 89 = .ok (.aload 4, 2) := by decide +kernel
theorem dX5_addCopy_91 : decode cX5_addCopy 91 = .ok (.invokevirtual 72, 3) := by decide +kernel
theorem dX5_addCopy_94 : decode cX5_addCopy 94 = .ok (.iload_n 3, 1) := by decide +kernel
theorem dX5_addCopy_95 : decode cX5_addCopy 95 = .ok (.ireturn, 1) := by decide +kernel
set_option maxRecDepth 20000 in
theorem ggX5_inHandsOf_X5_copyNumbered : GoodIn wsX5_inHandsOf wsX5_copyNumbered := goodIn_ca (goodIn_r _ [6, 7, 8, 9, 18, 19, 20, 21, 22, 23, 24] (by decide +kernel) (by decide +kernel)) (goodIn_sub (fun _ h => List.mem_cons_of_mem _ (List.mem_append_right _ h)) (by decide +kernel))
set_option maxRecDepth 20000 in
theorem gX5_inHandsOf_X5_copyNumbered : GoodIn wsX5_inHandsOf (wsV RX5 76 RX5 yX5_copyNumbered wsX5_copyNumbered) := goodIn_app (goodIn_of _ (by decide +kernel)) ggX5_inHandsOf_X5_copyNumbered
theorem dX5_inHandsOf_0 : decode cX5_inHandsOf 0 = .ok (.aload_n 0, 1) := by decide +kernel
theorem dX5_inHandsOf_1 : decode cX5_inHandsOf 1 = .ok (.iload_n 1, 1) := by decide +kernel
theorem dX5_inHandsOf_2 : decode cX5_inHandsOf 2 = .ok (.invokevirtual 76, 3) := by decide +kernel
theorem dX5_inHandsOf_5 : decode cX5_inHandsOf 5 = .ok (.getfield 80, 3) := by decide +kernel
theorem dX5_inHandsOf_8 : decode cX5_inHandsOf 8 = .ok (.ireturn, 1) := by decide +kernel
set_option maxRecDepth 20000 in
theorem ggX5_isFree_X5_copyNumbered : GoodIn wsX5_isFree wsX5_copyNumbered := goodIn_ca (goodIn_r _ [5, 6, 7, 8, 22, 23, 24, 25, 26, 27, 28] (by decide +kernel) (by decide +kernel)) (goodIn_sub (fun _ h => List.mem_cons_of_mem _ (List.mem_append_right _ h)) (by decide +kernel))
set_option maxRecDepth 20000 in
theorem gX5_isFree_X5_copyNumbered : GoodIn wsX5_isFree (wsV RX5 76 RX5 yX5_copyNumbered wsX5_copyNumbered) := goodIn_app (goodIn_of _ (by decide +kernel)) ggX5_isFree_X5_copyNumbered
set_option maxRecDepth 20000 in
theorem ggX5_isFree_X1_canBeSent : GoodIn wsX5_isFree wsX1_canBeSent := goodIn_r _ [13, 14, 15, 16, 17, 12, 18, 19, 20, 21, 29, 30, 31, 32, 33, 34, 35, 36] (by decide +kernel) (by decide +kernel)
set_option maxRecDepth 20000 in
theorem gX5_isFree_X1_canBeSent : GoodIn wsX5_isFree (wsV RX5 83 RX1 yX1_canBeSent wsX1_canBeSent) := goodIn_app (goodIn_of _ (by decide +kernel)) ggX5_isFree_X1_canBeSent
theorem dX5_isFree_0 : decode cX5_isFree 0 = .ok (.aload_n 0, 1) := by decide +kernel
theorem dX5_isFree_1 : decode cX5_isFree 1 = .ok (.iload_n 1, 1) := by decide +kernel
theorem dX5_isFree_2 : decode cX5_isFree 2 = .ok (.invokevirtual 76, 3) := by decide +kernel
theorem dX5_isFree_5 : decode cX5_isFree 5 = .ok (.invokevirtual 83, 3) := by decide +kernel
theorem dX5_isFree_8 : decode cX5_isFree 8 = .ok (.ireturn, 1) := by decide +kernel
set_option maxRecDepth 20000 in
theorem ggX5_listed_X5_copyNumbered : GoodIn wsX5_listed wsX5_copyNumbered := goodIn_ca (goodIn_r _ [6, 7, 8, 9, 18, 19, 20, 21, 22, 23, 24] (by decide +kernel) (by decide +kernel)) (goodIn_sub (fun _ h => List.mem_cons_of_mem _ (List.mem_append_right _ h)) (by decide +kernel))
set_option maxRecDepth 20000 in
theorem gX5_listed_X5_copyNumbered : GoodIn wsX5_listed (wsV RX5 76 RX5 yX5_copyNumbered wsX5_copyNumbered) := goodIn_app (goodIn_of _ (by decide +kernel)) ggX5_listed_X5_copyNumbered
theorem dX5_listed_0 : decode cX5_listed 0 = .ok (.aload_n 0, 1) := by decide +kernel
theorem dX5_listed_1 : decode cX5_listed 1 = .ok (.iload_n 1, 1) := by decide +kernel
theorem dX5_listed_2 : decode cX5_listed 2 = .ok (.invokevirtual 76, 3) := by decide +kernel
theorem dX5_listed_5 : decode cX5_listed 5 = .ok (.getfield 87, 3) := by decide +kernel
theorem dX5_listed_8 : decode cX5_listed 8 = .ok (.ireturn, 1) := by decide +kernel
set_option maxRecDepth 20000 in
theorem ggX5_harm_X5_copyNumbered : GoodIn wsX5_harm wsX5_copyNumbered := goodIn_ca (goodIn_r _ [9, 10, 11, 12, 27, 28, 29, 30, 31, 32, 33] (by decide +kernel) (by decide +kernel)) (goodIn_sub (fun _ h => List.mem_cons_of_mem _ (List.mem_append_right _ h)) (by decide +kernel))
set_option maxRecDepth 20000 in
theorem gX5_harm_X5_copyNumbered : GoodIn wsX5_harm (wsV RX5 76 RX5 yX5_copyNumbered wsX5_copyNumbered) := goodIn_app (goodIn_of _ (by decide +kernel)) ggX5_harm_X5_copyNumbered
set_option maxRecDepth 20000 in
theorem ggX5_harm_X1_isHarmed : GoodIn wsX5_harm wsX1_isHarmed := goodIn_r _ [17, 18, 19, 20, 21, 22, 23, 24, 25, 26] (by decide +kernel) (by decide +kernel)
set_option maxRecDepth 20000 in
theorem gX5_harm_X1_isHarmed : GoodIn wsX5_harm (wsV RX5 90 RX1 yX1_isHarmed wsX1_isHarmed) := goodIn_app (goodIn_of _ (by decide +kernel)) ggX5_harm_X1_isHarmed
theorem dX5_harm_0 : decode cX5_harm 0 = .ok (.aload_n 0, 1) := by decide +kernel
theorem dX5_harm_1 : decode cX5_harm 1 = .ok (.iload_n 1, 1) := by decide +kernel
theorem dX5_harm_2 : decode cX5_harm 2 = .ok (.invokevirtual 76, 3) := by decide +kernel
theorem dX5_harm_5 : decode cX5_harm 5 = .ok (.astore_n 2, 1) := by decide +kernel
theorem dX5_harm_6 : decode cX5_harm 6 = .ok (.aload_n 2, 1) := by decide +kernel
theorem dX5_harm_7 : decode cX5_harm 7 = .ok (.invokevirtual 90, 3) := by decide +kernel
theorem dX5_harm_10 : decode cX5_harm 10 = .ok (.ifCond .eq 13, 3) := by decide +kernel
theorem dX5_harm_13 : decode cX5_harm 13 = .ok (.new 61, 3) := by decide +kernel
theorem dX5_harm_16 : decode cX5_harm 16 = .ok (.dup, 1) := by decide +kernel
theorem dX5_harm_17 : decode cX5_harm 17 = .ok (.ldc 93, 2) := by decide +kernel
theorem dX5_harm_19 : decode cX5_harm 19 = .ok (.invokespecial 65, 3) := by decide +kernel
theorem dX5_harm_22 : decode cX5_harm 22 = .ok (.athrow, 1) := by decide +kernel
theorem dX5_harm_23 : decode cX5_harm 23 = .ok (.aload_n 2, 1) := by decide +kernel
theorem dX5_harm_24 : decode cX5_harm 24 = .ok (.aload_n 2, 1) := by decide +kernel
theorem dX5_harm_25 : decode cX5_harm 25 = .ok (.getfield 80, 3) := by decide +kernel
theorem dX5_harm_28 : decode cX5_harm 28 = .ok (.putfield 95, 3) := by decide +kernel
theorem dX5_harm_31 : decode cX5_harm 31 = .ok (.aload_n 2, 1) := by decide +kernel
theorem dX5_harm_32 : decode cX5_harm 32 = .ok (.getfield 95, 3) := by decide +kernel
theorem dX5_harm_35 : decode cX5_harm 35 = .ok (.ireturn, 1) := by decide +kernel
set_option maxRecDepth 20000 in
theorem ggX5_look_X5_copyNumbered : GoodIn wsX5_look wsX5_copyNumbered := goodIn_ca (goodIn_r _ [8, 9, 10, 11, 42, 43, 44, 45, 46, 47, 48] (by decide +kernel) (by decide +kernel)) (goodIn_sub (fun _ h => List.mem_cons_of_mem _ (List.mem_append_right _ h)) (by decide +kernel))
set_option maxRecDepth 20000 in
theorem gX5_look_X5_copyNumbered : GoodIn wsX5_look (wsV RX5 76 RX5 yX5_copyNumbered wsX5_copyNumbered) := goodIn_app (goodIn_of _ (by decide +kernel)) ggX5_look_X5_copyNumbered
set_option maxRecDepth 20000 in
theorem ggX5_look_X5_examine : GoodIn wsX5_look wsX5_examine := goodIn_r _ [15, 16, 17, 18, 19, 20, 21, 22, 23, 24, 25, 26, 27, 28, 29, 30, 31, 32, 7, 33, 34, 35, 36, 37, 38, 39, 40, 41, 42, 43, 44, 45, 46, 47, 48, 49, 50, 51] (by decide +kernel) (by decide +kernel)
set_option maxRecDepth 20000 in
theorem gX5_look_X5_examine : GoodIn wsX5_look (wsV RX5 104 RX5 yX5_examine wsX5_examine) := goodIn_app (goodIn_of _ (by decide +kernel)) ggX5_look_X5_examine
theorem dX5_look_0 : decode cX5_look 0 = .ok (.aload_n 0, 1) := by decide +kernel
theorem dX5_look_1 : decode cX5_look 1 = .ok (.iload_n 1, 1) := by decide +kernel
theorem dX5_look_2 : decode cX5_look 2 = .ok (.invokevirtual 76, 3) := by decide +kernel
theorem dX5_look_5 : decode cX5_look 5 = .ok (.astore_n 2, 1) := by decide +kernel
theorem dX5_look_6 : decode cX5_look 6 = .ok (.aload_n 2, 1) := by decide +kernel
theorem dX5_look_7 : decode cX5_look 7 = .ok (.getfield 98, 3) := by decide +kernel
theorem dX5_look_10 : decode cX5_look 10 = .ok (.ifCond .eq 13, 3) := by decide +kernel
theorem dX5_look_13 : decode cX5_look 13 = .ok (.new 61, 3) := by decide +kernel
theorem dX5_look_16 : decode cX5_look 16 = .ok (.dup, 1) := by decide +kernel
theorem dX5_look_17 : decode cX5_look 17 = .ok (.ldc 102, 2) := by decide +kernel
theorem dX5_look_19 : decode cX5_look 19 = .ok (.invokespecial 65, 3) := by decide +kernel
theorem dX5_look_22 : decode cX5_look 22 = .ok (.athrow, 1) := by decide +kernel
theorem dX5_look_23 : decode cX5_look 23 = .ok (.aload_n 0, 1) := by decide +kernel
theorem dX5_look_24 : decode cX5_look 24 = .ok (.aload_n 2, 1) := by decide +kernel
theorem dX5_look_25 : decode cX5_look 25 = .ok (.invokevirtual 104, 3) := by decide +kernel
theorem dX5_look_28 : decode cX5_look 28 = .ok (.ireturn, 1) := by decide +kernel
set_option maxRecDepth 20000 in
theorem ggX5_mend_X5_copyNumbered : GoodIn wsX5_mend wsX5_copyNumbered := goodIn_ca (goodIn_r _ [9, 10, 11, 12, 64, 65, 66, 67, 68, 69, 70] (by decide +kernel) (by decide +kernel)) (goodIn_sub (fun _ h => List.mem_cons_of_mem _ (List.mem_append_right _ h)) (by decide +kernel))
set_option maxRecDepth 20000 in
theorem gX5_mend_X5_copyNumbered : GoodIn wsX5_mend (wsV RX5 76 RX5 yX5_copyNumbered wsX5_copyNumbered) := goodIn_app (goodIn_of _ (by decide +kernel)) ggX5_mend_X5_copyNumbered
set_option maxRecDepth 20000 in
theorem ggX5_mend_X1_isAtHome : GoodIn wsX5_mend wsX1_isAtHome := goodIn_r _ [17, 18, 19, 20, 56, 57, 58, 59, 60, 61, 62, 63] (by decide +kernel) (by decide +kernel)
set_option maxRecDepth 20000 in
theorem gX5_mend_X1_isAtHome : GoodIn wsX5_mend (wsV RX5 108 RX1 yX1_isAtHome wsX1_isAtHome) := goodIn_app (goodIn_of _ (by decide +kernel)) ggX5_mend_X1_isAtHome
set_option maxRecDepth 20000 in
theorem ggX5_mend_X5_sendNews : GoodIn wsX5_mend wsX5_sendNews := goodIn_r _ [24, 25, 26, 27, 8, 28, 29, 30, 31, 32, 33, 34, 35, 36, 37, 38, 39, 40, 41, 42, 43, 44, 45, 46, 47, 48, 49, 50, 51, 52, 53, 54, 55, 56, 57, 58, 59, 60, 61, 62, 63, 64, 65, 66, 67, 68, 69, 70, 71, 72, 73, 74, 75, 76] (by decide +kernel) (by decide +kernel)
set_option maxRecDepth 20000 in
theorem gX5_mend_X5_sendNews : GoodIn wsX5_mend (wsV RX5 72 RX5 yX5_sendNews wsX5_sendNews) := goodIn_app (goodIn_of _ (by decide +kernel)) ggX5_mend_X5_sendNews
theorem dX5_mend_0 : decode cX5_mend 0 = .ok (.aload_n 0, 1) := by decide +kernel
theorem dX5_mend_1 : decode cX5_mend 1 = .ok (.iload_n 1, 1) := by decide +kernel
theorem dX5_mend_2 : decode cX5_mend 2 = .ok (.invokevirtual 76, 3) := by decide +kernel
theorem dX5_mend_5 : decode cX5_mend 5 = .ok (.astore_n 2, 1) := by decide +kernel
theorem dX5_mend_6 : decode cX5_mend 6 = .ok (.aload_n 2, 1) := by decide +kernel
theorem dX5_mend_7 : decode cX5_mend 7 = .ok (.invokevirtual 108, 3) := by decide +kernel
theorem dX5_mend_10 : decode cX5_mend 10 = .ok (.ifCond .eq 10, 3) := by decide +kernel
theorem dX5_mend_13 : decode cX5_mend 13 = .ok (.aload_n 2, 1) := by decide +kernel
