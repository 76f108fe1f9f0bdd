theorem dX6_come_124 : decode cX6_come 124 = .ok (.iastore, 1) := by decide +kernel
theorem dX6_come_125 : decode cX6_come 125 = .ok (.return_, 1) := by decide +kernel
theorem dX6_come_126 : decode cX6_come 126 = .ok (.aload_n 0, 1) := by decide +kernel
theorem dX6_come_127 : decode cX6_come 127 = .ok (.getfield 16, 3) := by decide +kernel
theorem dX6_come_130 : decode cX6_come 130 = .ok (.iload_n 2, 1) := by decide +kernel
theorem dX6_come_131 : decode cX6_come 131 = .ok (.aload_n 0, 1) := by decide +kernel
theorem dX6_come_132 : decode cX6_come 132 = .ok (.getfield 7, 3) := by decide +kernel
theorem dX6_come_135 : decode cX6_come 135 = .ok (.iload_n 2, 1) := by decide +kernel
theorem dX6_come_136 : decode cX6_come 136 = .ok (.iaload, 1) := by decide +kernel
theorem dX6_come_137 : decode cX6_come 137 = .ok (.iastore, 1) := by decide +kernel
theorem dX6_come_138 : decode cX6_come 138 = .ok (.aload_n 0, 1) := by decide +kernel
theorem dX6_come_139 : decode cX6_come 139 = .ok (.getfield 19, 3) := by decide +kernel
theorem dX6_come_142 : decode cX6_come 142 = .ok (.iload_n 2, 1) := by decide +kernel
theorem dX6_come_143 : decode cX6_come 143 = .ok (.aload_n 0, 1) := by decide +kernel
theorem dX6_come_144 : decode cX6_come 144 = .ok (.getfield 7, 3) := by decide +kernel
theorem dX6_come_147 : decode cX6_come 147 = .ok (.iload_n 2, 1) := by decide +kernel
theorem dX6_come_148 : decode cX6_come 148 = .ok (.iaload, 1) := by decide +kernel
theorem dX6_come_149 : decode cX6_come 149 = .ok (.iastore, 1) := by decide +kernel
theorem dX6_come_150 : decode cX6_come 150 = .ok (.aload_n 0, 1) := by decide +kernel
theorem dX6_come_151 : decode cX6_come 151 = .ok (.getfield 37, 3) := by decide +kernel
theorem dX6_come_154 : decode cX6_come 154 = .ok (.iload_n 1, 1) := by decide +kernel
theorem dX6_come_155 : decode cX6_come 155 = .ok (.iconst 4, 1) := by decide +kernel
theorem dX6_come_156 : decode cX6_come 156 = .ok (.iastore, 1) := by decide +kernel
theorem dX6_come_157 : decode cX6_come 157 = .ok (.aload_n 0, 1) := by decide +kernel
theorem dX6_come_158 : decode cX6_come 158 = .ok (.iload_n 2, 1) := by decide +kernel
theorem dX6_come_159 : decode cX6_come 159 = .ok (.invokevirtual 112, 3) := by decide +kernel
theorem dX6_come_162 : decode cX6_come 162 = .ok (.pop, 1) := by decide +kernel
theorem dX6_come_163 : decode cX6_come 163 = .ok (.aload_n 0, 1) := by decide +kernel
theorem dX6_come_164 : decode cX6_come 164 = .ok (.iload_n 2, 1) := by decide +kernel
theorem dX6_come_165 : decode cX6_come 165 = .ok (.invokevirtual 105, 3) := by decide +kernel
theorem dX6_come_168 : decode cX6_come 168 = .ok (.ifCond .eq 9, 3) := by decide +kernel
theorem dX6_come_171 : decode cX6_come 171 = .ok (.aload_n 0, 1) := by decide +kernel
theorem dX6_come_172 : decode cX6_come 172 = .ok (.iload_n 2, 1) := by decide +kernel
theorem dX6_come_173 : decode cX6_come 173 = .ok (.iconst 1, 1) := by decide +kernel
theorem dX6_come_174 : decode cX6_come 174 = .ok (.invokevirtual 98, 3) := by decide +kernel
theorem dX6_come_177 : decode cX6_come 177 = .ok (.return_, 1) := by decide +kernel
set_option maxRecDepth 20000 in
theorem ggX6_arrive_X6_answer : GoodIn wsX6_arrive wsX6_answer := goodIn_r _ [10, 11, 12, 3, 13, 14, 15, 9, 16, 17, 18, 19, 20, 21, 22, 23, 24, 25, 1, 26, 27, 28, 29, 30, 31, 32, 33, 34, 35, 36, 37, 38, 39, 5, 40, 41, 42, 43, 44, 45, 46, 47, 68, 69, 70, 71, 72, 73, 74, 75, 76, 77, 78, 79, 80, 81, 82, 83, 84, 85, 86, 87, 88, 89, 90, 91] (by decide +kernel) (by decide +kernel)
set_option maxRecDepth 20000 in
theorem gX6_arrive_X6_answer : GoodIn wsX6_arrive (wsV RX6 136 RX6 yX6_answer wsX6_answer) := goodIn_app (goodIn_of _ (by decide +kernel)) ggX6_arrive_X6_answer
set_option maxRecDepth 20000 in
theorem ggX6_arrive_X6_come : GoodIn wsX6_arrive wsX6_come := goodIn_r _ [51, 11, 26, 3, 52, 17, 12, 53, 2, 5, 54, 55, 56, 9, 57, 23, 58, 59, 60, 61, 62, 63, 64, 65, 66, 67, 18, 13, 14, 15, 16, 44, 45, 46, 47, 32, 33, 34, 35, 36, 37, 38, 39, 68, 69, 70, 71, 72, 73, 74, 75, 76, 77, 78, 79, 80, 81, 82, 83, 84, 85, 86, 87, 88, 89, 90, 91] (by decide +kernel) (by decide +kernel)
set_option maxRecDepth 20000 in
theorem gX6_arrive_X6_come : GoodIn wsX6_arrive (wsV RX6 139 RX6 yX6_come wsX6_come) := goodIn_app (goodIn_of _ (by decide +kernel)) ggX6_arrive_X6_come
theorem dX6_arrive_0 : decode cX6_arrive 0 = .ok (.iload_n 1, 1) := by decide +kernel
theorem dX6_arrive_1 : decode cX6_arrive 1 = .ok (.iconst 2, 1) := by decide +kernel
theorem dX6_arrive_2 : decode cX6_arrive 2 = .ok (.if_icmp .ge 13, 3) := by decide +kernel
theorem dX6_arrive_5 : decode cX6_arrive 5 = .ok (.aload_n 0, 1) := by decide +kernel
theorem dX6_arrive_6 : decode cX6_arrive 6 = .ok (.getfield 22, 3) := by decide +kernel
theorem dX6_arrive_9 : decode cX6_arrive 9 = .ok (.iload_n 2, 1) := by decide +kernel
theorem dX6_arrive_10 : decode cX6_arrive 10 = .ok (.iload_n 1, 1) := by decide +kernel
theorem dX6_arrive_11 : decode cX6_arrive 11 = .ok (.iastore, 1) := by decide +kernel
theorem dX6_arrive_12 : decode cX6_arrive 12 = .ok (.goto 117, 3) := by decide +kernel
theorem dX6_arrive_15 : decode cX6_arrive 15 = .ok (.iload_n 1, 1) := by decide +kernel
theorem dX6_arrive_16 : decode cX6_arrive 16 = .ok (.iconst 2, 1) := by decide +kernel
theorem dX6_arrive_17 : decode cX6_arrive 17 = .ok (.if_icmp .ne 11, 3) := by decide +kernel
theorem dX6_arrive_20 : decode cX6_arrive 20 = .ok (.aload_n 0, 1) := by decide +kernel
theorem dX6_arrive_21 : decode cX6_arrive 21 = .ok (.iload_n 2, 1) := by decide +kernel
theorem dX6_arrive_22 : decode cX6_arrive 22 = .ok (.invokevirtual 136, 3) := by decide +kernel
theorem dX6_arrive_25 : decode cX6_arrive 25 = .ok (.goto 104, 3) := by decide +kernel
theorem dX6_arrive_28 : decode cX6_arrive 28 = .ok (.iload_n 1, 1) := by decide +kernel
theorem dX6_arrive_29 : decode cX6_arrive 29 = .ok (.iconst 3, 1) := by decide +kernel
theorem dX6_arrive_30 : decode cX6_arrive 30 = .ok (.if_icmp .ne 40, 3) := by decide +kernel
theorem dX6_arrive_33 : decode cX6_arrive 33 = .ok (.aload_n 0, 1) := by decide +kernel
theorem dX6_arrive_34 : decode cX6_arrive 34 = .ok (.getfield 43, 3) := by decide +kernel
theorem dX6_arrive_37 : decode cX6_arrive 37 = .ok (.iload_n 2, 1) := by decide +kernel
theorem dX6_arrive_38 : decode cX6_arrive 38 = .ok (.dup2, 1) := by decide +kernel
theorem dX6_arrive_39 : decode cX6_arrive 39 = .ok (.iaload, 1) := by decide +kernel
theorem dX6_arrive_40 : decode cX6_arrive 40 = .ok (.aload_n 0, 1) := by decide +kernel
theorem dX6_arrive_41 : decode cX6_arrive 41 = .ok (.getfield 37, 3) := by decide +kernel
theorem dX6_arrive_44 : decode cX6_arrive 44 = .ok (.iload_n 2, 1) := by decide +kernel
theorem dX6_arrive_45 : decode cX6_arrive 45 = .ok (.iaload, 1) := by decide +kernel
theorem dX6_arrive_46 : decode cX6_arrive 46 = .ok (.iconst 2, 1) := by decide +kernel
theorem dX6_arrive_47 : decode cX6_arrive 47 = .ok (.if_icmp .ne 17, 3) := by decide +kernel
theorem dX6_arrive_50 : decode cX6_arrive 50 = .ok (.aload_n 0, 1) := by decide +kernel
theorem dX6_arrive_51 : decode cX6_arrive 51 = .ok (.getfield 49, 3) := by decide +kernel
theorem dX6_arrive_54 : decode cX6_arrive 54 = .ok (.iload_n 2, 1) := by decide +kernel
theorem dX6_arrive_55 : decode cX6_arrive 55 = .ok (.iaload, 1) := by decide +kernel
theorem dX6_arrive_56 : decode cX6_arrive 56 = .ok (.ifCond .ne 8, 3) := by decide +kernel
theorem dX6_arrive_59 : decode cX6_arrive 59 = .ok (.bipush 20, 2) := by decide +kernel
theorem dX6_arrive_61 : decode cX6_arrive 61 = .ok (.goto 4, 3) := by decide +kernel
theorem dX6_arrive_64 : decode cX6_arrive 64 = .ok (.iconst 0, 1) := by decide +kernel
theorem dX6_arrive_65 : decode cX6_arrive 65 = .ok (.iadd, 1) := by decide +kernel
theorem dX6_arrive_66 : decode cX6_arrive 66 = .ok (.iastore, 1) := by decide +kernel
theorem dX6_arrive_67 : decode cX6_arrive 67 = .ok (.goto 62, 3) := by decide +kernel
theorem dX6_arrive_70 : decode cX6_arrive 70 = .ok (.iload_n 1, 1) := by decide +kernel
theorem dX6_arrive_71 : decode cX6_arrive 71 = .ok (.iconst 4, 1) := by decide +kernel
theorem dX6_arrive_72 : decode cX6_arrive 72 = .ok (.if_icmp .ne 52, 3) := by decide +kernel
theorem dX6_arrive_75 : decode cX6_arrive 75 = .ok (.aload_n 0, 1) := by decide +kernel
theorem dX6_arrive_76 : decode cX6_arrive 76 = .ok (.getfield 43, 3) := by decide +kernel
theorem dX6_arrive_79 : decode cX6_arrive 79 = .ok (.iload_n 2, 1) := by decide +kernel
theorem dX6_arrive_80 : decode cX6_arrive 80 = .ok (.aload_n 0, 1) := by decide +kernel
theorem dX6_arrive_81 : decode cX6_arrive 81 = .ok (.getfield 37, 3) := by decide +kernel
theorem dX6_arrive_84 : decode cX6_arrive 84 = .ok (.iload_n 2, 1) := by decide +kernel
theorem dX6_arrive_85 : decode cX6_arrive 85 = .ok (.iaload, 1) := by decide +kernel
theorem dX6_arrive_86 : decode cX6_arrive 86 = .ok (.iconst 2, 1) := by decide +kernel
theorem dX6_arrive_87 : decode cX6_arrive 87 = .ok (.if_icmp .ne 27, 3) := by decide +kernel
theorem dX6_arrive_90 : decode cX6_arrive 90 = .ok (.aload_n 0, 1) := by decide +kernel
theorem dX6_arrive_91 : decode cX6_arrive 91 = .ok (.getfield 43, 3) := by decide +kernel
theorem dX6_arrive_94 : decode cX6_arrive 94 = .ok (.iload_n 2, 1) := by decide +kernel
theorem dX6_arrive_95 : decode cX6_arrive 95 = .ok (.iaload, 1) := by decide +kernel
theorem dX6_arrive_96 : decode cX6_arrive 96 = .ok (.aload_n 0, 1) := by decide +kernel
theorem dX6_arrive_97 : decode cX6_arrive 97 = .ok (.getfield 84, 3) := by decide +kernel
theorem dX6_arrive_100 : decode cX6_arrive 100 = .ok (.iconst 5, 1) := by decide +kernel
theorem dX6_arrive_101 : decode cX6_arrive 101 = .ok (.iadd, 1) := by decide +kernel
theorem dX6_arrive_102 : decode cX6_arrive 102 = .ok (.if_icmp .le 12, 3) := by decide +kernel
theorem dX6_arrive_105 : decode cX6_arrive 105 = .ok (.aload_n 0, 1) := by decide +kernel
theorem dX6_arrive_106 : decode cX6_arrive 106 = .ok (.getfield 84, 3) := by decide +kernel
theorem dX6_arrive_109 : decode cX6_arrive 109 = .ok (.iconst 5, 1) := by decide +kernel
theorem dX6_arrive_110 : decode cX6_arrive 110 = .ok (.iadd, 1) := by decide +kernel
theorem dX6_arrive_111 : decode cX6_arrive 111 = .ok (.goto 9, 3) := by decide +kernel
theorem dX6_arrive_114 : decode cX6_arrive 114 = .ok (.aload_n 0, 1) := by decide +kernel
theorem dX6_arrive_115 : decode cX6_arrive 115 = .ok (.getfield 43, 3) := by decide +kernel
theorem dX6_arrive_118 : decode cX6_arrive 118 = .ok (.iload_n 2, 1) := by decide +kernel
theorem dX6_arrive_119 : decode cX6_arrive 119 = .ok (.iaload, 1) := by decide +kernel
theorem dX6_arrive_120 : decode cX6_arrive 120 = .ok (.iastore, 1) := by decide +kernel
theorem dX6_arrive_121 : decode cX6_arrive 121 = .ok (.goto 8, 3) := by decide +kernel
theorem dX6_arrive_124 : decode cX6_arrive 124 = .ok (.aload_n 0, 1) := by decide +kernel
theorem dX6_arrive_125 : decode cX6_arrive 125 = .ok (.iload_n 2, 1) := by decide +kernel
theorem dX6_arrive_126 : decode cX6_arrive 126 = .ok (.invokevirtual 139, 3) := by decide +kernel
theorem dX6_arrive_129 : decode cX6_arrive 129 = .ok (.return_, 1) := by decide +kernel
set_option maxRecDepth 20000 in
theorem ggX6_arriveAll_X6_arrive : GoodIn wsX6_arriveAll wsX6_arrive := goodIn_r _ [10, 11, 12, 13, 14, 3, 15, 16, 17, 9, 18, 19, 20, 21, 22, 23, 24, 25, 26, 27, 28, 29, 30, 31, 32, 33, 34, 35, 36, 37, 38, 39, 40, 41, 42, 43, 4, 1, 5, 2, 44, 45, 46, 47, 48, 49, 50, 51, 52, 53, 54, 55, 56, 57, 58, 59, 60, 61, 62, 63, 64, 65, 66, 67, 68, 69, 70, 71, 72, 73, 74, 75, 76, 77, 78, 79, 80, 81, 82, 83, 84, 85, 86, 87, 88, 89, 90, 91, 92, 93, 94, 95] (by decide +kernel) (by decide +kernel)
set_option maxRecDepth 20000 in
theorem gX6_arriveAll_X6_arrive : GoodIn wsX6_arriveAll (wsV RX6 142 RX6 yX6_arrive wsX6_arrive) := goodIn_app (goodIn_of _ (by decide +kernel)) ggX6_arriveAll_X6_arrive
theorem dX6_arriveAll_0 : decode cX6_arriveAll 0 = .ok (.iconst 0, 1) := by decide +kernel
theorem dX6_arriveAll_1 : decode cX6_arriveAll 1 = .ok (.istore_n 1, 1) := by decide +kernel
theorem dX6_arriveAll_2 : decode cX6_arriveAll 2 = .ok (.aload_n 0, 1) := by decide +kernel
theorem dX6_arriveAll_3 : decode cX6_arriveAll 3 = .ok (.getfield 81, 3) := by decide +kernel
theorem dX6_arriveAll_6 : decode cX6_arriveAll 6 = .ok (.istore_n 2, 1) := by decide +kernel
theorem dX6_arriveAll_7 : decode cX6_arriveAll 7 = .ok (.iconst 0, 1) := by decide +kernel
theorem dX6_arriveAll_8 : decode cX6_arriveAll 8 = .ok (.istore_n 3, 1) := by decide +kernel
theorem dX6_arriveAll_9 : decode cX6_arriveAll 9 = .ok (.iload_n 3, 1) := by decide +kernel
theorem dX6_arriveAll_10 : decode cX6_arriveAll 10 = .ok (.iload_n 2, 1) := by decide +kernel
theorem dX6_arriveAll_11 : decode cX6_arriveAll 11 = .ok (.if_icmp .ge 41, 3) := by decide +kernel
theorem dX6_arriveAll_14 : decode cX6_arriveAll 14 = .ok (.aload_n 0, 1) := by decide +kernel
theorem dX6_arriveAll_15 : decode cX6_arriveAll 15 = .ok (.getfield 58, 3) := by decide +kernel
theorem dX6_arriveAll_18 : decode cX6_arriveAll 18 = .ok (.iload_n 3, 1) := by decide +kernel
theorem dX6_arriveAll_19 : decode cX6_arriveAll 19 = .ok (.iaload, 1) := by decide +kernel
theorem dX6_arriveAll_20 : decode cX6_arriveAll 20 = .ok (.aload_n 0, 1) := by decide +kernel
theorem dX6_arriveAll_21 : decode cX6_arriveAll 21 = .ok (.getfield 84, 3) := by decide +kernel
theorem dX6_arriveAll_24 : decode cX6_arriveAll 24 = .ok (.if_icmp .ne 22, 3) := by decide +kernel
theorem dX6_arriveAll_27 : decode cX6_arriveAll 27 = .ok (.aload_n 0, 1) := by decide +kernel
theorem dX6_arriveAll_28 : decode cX6_arriveAll 28 = .ok (.aload_n 0, 1) := by decide +kernel
theorem dX6_arriveAll_29 : decode cX6_arriveAll 29 = .ok (.getfield 52, 3) := by decide +kernel
theorem dX6_arriveAll_32 : decode cX6_arriveAll 32 = .ok (.iload_n 3, 1) := by decide +kernel
theorem dX6_arriveAll_33 : decode cX6_arriveAll 33 = .ok (.iaload, 1) := by decide +kernel
theorem dX6_arriveAll_34 : decode cX6_arriveAll 34 = .ok (.aload_n 0, 1) := by decide +kernel
theorem dX6_arriveAll_35 : decode cX6_arriveAll 35 = .ok (.getfield 55, 3) := by decide +kernel
theorem dX6_arriveAll_38 : decode cX6_arriveAll 38 = .ok (.iload_n 3, 1) := by decide +kernel
theorem dX6_arriveAll_39 : decode cX6_arriveAll 39 = .ok (.iaload, 1) := by decide +kernel
theorem dX6_arriveAll_40 : decode cX6_arriveAll 40 = .ok (.invokevirtual 142, 3) := by decide +kernel
theorem dX6_arriveAll_43 : decode cX6_arriveAll 43 = .ok (.iinc 1 1, 3) := by decide +kernel
theorem dX6_arriveAll_46 : decode cX6_arriveAll 46 = .ok (.iinc 3 1, 3) := by decide +kernel
theorem dX6_arriveAll_49 : decode cX6_arriveAll 49 = .ok (.goto (-40), 3) := by decide +kernel
theorem dX6_arriveAll_52 : decode cX6_arriveAll 52 = .ok (.iconst 0, 1) := by decide +kernel
theorem dX6_arriveAll_53 : decode cX6_arriveAll 53 = .ok (.istore_n 3, 1) := by decide +kernel
theorem dX6_arriveAll_54 : decode cX6_arriveAll 54 = .ok (.iconst 0, 1) := by decide +kernel
theorem dX6_arriveAll_55 : decode cX6_arriveAll 55 = .ok (.istore 4, 2) := by decide +kernel
theorem dX6_arriveAll_57 : decode cX6_arriveAll 57 = .ok (.iload 4, 2) := by decide +kernel
theorem dX6_arriveAll_59 : decode cX6_arriveAll 59 = .ok (.aload_n 0, 1) := by decide +kernel
theorem dX6_arriveAll_60 : decode cX6_arriveAll 60 = .ok (.getfield 81, 3) := by decide +kernel
theorem dX6_arriveAll_63 : decode cX6_arriveAll 63 = .ok (.if_icmp .ge 65, 3) := by decide +kernel
theorem dX6_arriveAll_66 : decode cX6_arriveAll 66 = .ok (.aload_n 0, 1) := by decide +kernel
theorem dX6_arriveAll_67 : decode cX6_arriveAll 67 = .ok (.getfield 58, 3) := by decide +kernel
theorem dX6_arriveAll_70 : decode cX6_arriveAll 70 = .ok (.iload 4, 2) := by decide +kernel
theorem dX6_arriveAll_72 : decode cX6_arriveAll 72 = .ok (.iaload, 1) := by decide +kernel
theorem dX6_arriveAll_73 : decode cX6_arriveAll 73 = .ok (.aload_n 0, 1) := by decide +kernel
theorem dX6_arriveAll_74 : decode cX6_arriveAll 74 = .ok (.getfield 84, 3) := by decide +kernel
theorem dX6_arriveAll_77 : decode cX6_arriveAll 77 = .ok (.if_icmp .le 45, 3) := by decide +kernel
theorem dX6_arriveAll_80 : decode cX6_arriveAll 80 = .ok (.aload_n 0, 1) := by decide +kernel
theorem dX6_arriveAll_81 : decode cX6_arriveAll 81 = .ok (.getfield 52, 3) := by decide +kernel
theorem dX6_arriveAll_84 : decode cX6_arriveAll 84 = .ok (.iload_n 3, 1) := by decide +kernel
theorem dX6_arriveAll_85 : decode cX6_arriveAll 85 = .ok (.aload_n 0, 1) := by decide +kernel
theorem dX6_arriveAll_86 : decode cX6_arriveAll 86 = .ok (.getfield 52, 3) := by decide +kernel
theorem dX6_arriveAll_89 : decode cX6_arriveAll 89 = .ok (.iload 4, 2) := by decide +kernel
theorem dX6_arriveAll_91 : decode cX6_arriveAll 91 = .ok (.iaload, 1) := by decide +kernel
theorem dX6_arriveAll_92 : decode cX6_arriveAll 92 = .ok (.iastore, 1) := by decide +kernel
theorem dX6_arriveAll_93 : decode cX6_arriveAll 93 = .ok (.aload_n 0, 1) := by decide +kernel
theorem dX6_arriveAll_94 : decode cX6_arriveAll 94 = .ok (.getfield 55, 3) := by decide +kernel
theorem dX6_arriveAll_97 : decode cX6_arriveAll 97 = .ok (.iload_n 3, 1) := by decide +kernel
theorem dX6_arriveAll_98 : decode cX6_arriveAll 98 = .ok (.aload_n 0, 1) := by decide +kernel
theorem dX6_arriveAll_99 : decode cX6_arriveAll 99 = .ok (.getfield 55, 3) := by decide +kernel
theorem dX6_arriveAll_102 : decode cX6_arriveAll 102 = .ok (.iload 4, 2) := by decide +kernel
theorem dX6_arriveAll_104 : decode cX6_arriveAll 104 = .ok (.iaload, 1) := by decide +kernel
theorem dX6_arriveAll_105 : decode cX6_arriveAll 105 = .ok (.iastore, 1) := by decide +kernel
theorem dX6_arriveAll_106 : decode cX6_arriveAll 106 = .ok (.aload_n 0, 1) := by decide +kernel
theorem dX6_arriveAll_107 : decode cX6_arriveAll 107 = .ok (.getfield 58, 3) := by decide +kernel
theorem dX6_arriveAll_110 : decode cX6_arriveAll 110 = .ok (.iload_n 3, 1) := by decide +kernel
theorem dX6_arriveAll_111 : decode cX6_arriveAll 111 = .ok (.aload_n 0, 1) := by decide +kernel
theorem dX6_arriveAll_112 : decode cX6_arriveAll 112 = .ok (.getfield 58, 3) := by decide +kernel
theorem dX6_arriveAll_115 : decode cX6_arriveAll 115 = .ok (.iload 4, 2) := by decide +kernel
theorem dX6_arriveAll_117 : decode cX6_arriveAll 117 = .ok (.iaload, 1) := by decide +kernel
theorem dX6_arriveAll_118 : decode cX6_arriveAll 118 = .ok (.iastore, 1) := by decide +kernel
theorem dX6_arriveAll_119 : decode cX6_arriveAll 119 = .ok (.iinc 3 1, 3) := by decide +kernel
theorem dX6_arriveAll_122 : decode cX6_arriveAll 122 = .ok (.iinc 4 1, 3) := by decide +kernel
theorem dX6_arriveAll_125 : decode cX6_arriveAll 125 = .ok (.goto (-68), 3) := by decide +kernel
theorem dX6_arriveAll_128 : decode cX6_arriveAll 128 = .ok (.aload_n 0, 1) := by decide +kernel
theorem dX6_arriveAll_129 : decode cX6_arriveAll 129 = .ok (.iload_n 3, 1) := by decide +kernel
theorem dX6_arriveAll_130 : decode cX6_arriveAll 130 = .ok (.putfield 81, 3) := by decide +kernel
theorem dX6_arriveAll_133 : decode cX6_arriveAll 133 = .ok (.iload_n 1, 1) := by decide +kernel
theorem dX6_arriveAll_134 : decode cX6_arriveAll 134 = .ok (.ireturn, 1) := by decide +kernel
set_option maxRecDepth 20000 in
theorem ggX6_pass_X6_between : GoodIn wsX6_pass wsX6_between := goodIn_r _ [7] (by decide +kernel) (by decide +kernel)
set_option maxRecDepth 20000 in
theorem gX6_pass_X6_between : GoodIn wsX6_pass (wsV RX6 71 RX6 yX6_between wsX6_between) := goodIn_app (goodIn_of _ (by decide +kernel)) ggX6_pass_X6_between
set_option maxRecDepth 20000 in
theorem ggX6_pass_X6_holds : GoodIn wsX6_pass wsX6_holds := goodIn_r _ [11, 12, 85, 86, 87, 88, 89, 90, 91, 92, 93, 94, 95, 96, 97, 98, 99, 100, 101, 102, 103, 104, 105, 106, 107, 108] (by decide +kernel) (by decide +kernel)
set_option maxRecDepth 20000 in
theorem gX6_pass_X6_holds : GoodIn wsX6_pass (wsV RX6 95 RX6 yX6_holds wsX6_holds) := goodIn_app (goodIn_of _ (by decide +kernel)) ggX6_pass_X6_holds
set_option maxRecDepth 20000 in
theorem ggX6_pass_X6_arriveAll : GoodIn wsX6_pass wsX6_arriveAll := goodIn_r _ [16, 17, 18, 1, 19, 20, 21, 22, 23, 6, 24, 25, 26, 27, 28, 29, 30, 31, 32, 33, 34, 35, 36, 37, 38, 39, 40, 41, 42, 43, 44, 45, 46, 47, 48, 49, 50, 51, 52, 53, 54, 55, 56, 57, 58, 59, 60, 61, 62, 63, 64, 65, 66, 67, 68, 69, 2, 70, 71, 72, 73, 74, 75, 76, 77, 78, 79, 80, 81, 82, 83, 84, 85, 86, 87, 88, 89, 90, 91, 92, 93, 94, 95, 96, 97, 98, 99, 100, 101, 102, 103, 104, 105, 106, 107, 108] (by decide +kernel) (by decide +kernel)
set_option maxRecDepth 20000 in
theorem gX6_pass_X6_arriveAll : GoodIn wsX6_pass (wsV RX6 145 RX6 yX6_arriveAll wsX6_arriveAll) := goodIn_app (goodIn_of _ (by decide +kernel)) ggX6_pass_X6_arriveAll
theorem dX6_pass_0 : decode cX6_pass 0 = .ok (.aload_n 0, 1) := by decide +kernel
theorem dX6_pass_1 : decode cX6_pass 1 = .ok (.aload_n 0, 1) := by decide +kernel
theorem dX6_pass_2 : decode cX6_pass 2 = .ok (.iload_n 1, 1) := by decide +kernel
theorem dX6_pass_3 : decode cX6_pass 3 = .ok (.iconst 1, 1) := by decide +kernel
theorem dX6_pass_4 : decode cX6_pass 4 = .ok (.bipush 100, 2) := by decide +kernel
theorem dX6_pass_6 : decode cX6_pass 6 = .ok (.invokevirtual 71, 3) := by decide +kernel
theorem dX6_pass_9 : decode cX6_pass 9 = .ok (.ifCond .eq 7, 3) := by decide +kernel
theorem dX6_pass_12 : decode cX6_pass 12 = .ok (.iconst 0, 1) := by decide +kernel
theorem dX6_pass_13 : decode cX6_pass 13 = .ok (.goto 4, 3) := by decide +kernel
theorem dX6_pass_16 : decode cX6_pass 16 = .ok (.iconst 1, 1) := by decide +kernel
theorem dX6_pass_17 : decode cX6_pass 17 = .ok (.invokevirtual 95, 3) := by decide +kernel
theorem dX6_pass_20 : decode cX6_pass 20 = .ok (.ifCond .eq 5, 3) := by decide +kernel
theorem dX6_pass_23 : decode cX6_pass 23 = .ok (.iconst (-1), 1) := by decide +kernel
theorem dX6_pass_24 : decode cX6_pass 24 = .ok (.ireturn, 1) := by decide +kernel
theorem dX6_pass_25 : decode cX6_pass 25 = .ok (.iconst 0, 1) := by decide +kernel
theorem dX6_pass_26 : decode cX6_pass 26 = .ok (.istore_n 2, 1) := by decide +kernel
theorem dX6_pass_27 : decode cX6_pass 27 = .ok (.iconst 0, 1) := by decide +kernel
theorem dX6_pass_28 : decode cX6_pass 28 = .ok (.istore_n 3, 1) := by decide +kernel
theorem dX6_pass_29 : decode cX6_pass 29 = .ok (.iload_n 3, 1) := by decide +kernel
theorem dX6_pass_30 : decode cX6_pass 30 = .ok (.iload_n 1, 1) := by decide +kernel
theorem dX6_pass_31 : decode cX6_pass 31 = .ok (.if_icmp .ge 70, 3) := by decide +kernel
theorem dX6_pass_34 : decode cX6_pass 34 = .ok (.aload_n 0, 1) := by decide +kernel
theorem dX6_pass_35 : decode cX6_pass 35 = .ok (.dup, 1) := by decide +kernel
theorem dX6_pass_36 : decode cX6_pass 36 = .ok (.getfield 84, 3) := by decide +kernel
theorem dX6_pass_39 : decode cX6_pass 39 = .ok (.iconst 1, 1) := by decide +kernel
theorem dX6_pass_40 : decode cX6_pass 40 = .ok (.iadd, 1) := by decide +kernel
theorem dX6_pass_41 : decode cX6_pass 41 = .ok (.putfield 84, 3) := by decide +kernel
theorem dX6_pass_44 : decode cX6_pass 44 = .ok (.iconst 0, 1) := by decide +kernel
theorem dX6_pass_45 : decode cX6_pass 45 = .ok (.istore 4, 2) := by decide +kernel
theorem dX6_pass_47 : decode cX6_pass 47 = .ok (.iload 4, 2) := by decide +kernel
theorem dX6_pass_49 : decode cX6_pass 49 = .ok (.bipush 6, 2) := by decide +kernel
theorem dX6_pass_51 : decode cX6_pass 51 = .ok (.if_icmp .ge 37, 3) := by decide +kernel
theorem dX6_pass_54 : decode cX6_pass 54 = .ok (.aload_n 0, 1) := by decide +kernel
theorem dX6_pass_55 : decode cX6_pass 55 = .ok (.getfield 64, 3) := by decide +kernel
theorem dX6_pass_58 : decode cX6_pass 58 = .ok (.iload 4, 2) := by decide +kernel
theorem dX6_pass_60 : decode cX6_pass 60 = .ok (.aload_n 0, 1) := by decide +kernel
theorem dX6_pass_61 : decode cX6_pass 61 = .ok (.getfield 84, 3) := by decide +kernel
theorem dX6_pass_64 : decode cX6_pass 64 = .ok (.bipush 90, 2) := by decide +kernel
theorem dX6_pass_66 : decode cX6_pass 66 = .ok (.irem, 1) := by decide +kernel
theorem dX6_pass_67 : decode cX6_pass 67 = .ok (.ifCond .ne 7, 3) := by decide +kernel
theorem dX6_pass_70 : decode cX6_pass 70 = .ok (.iconst 0, 1) := by decide +kernel
theorem dX6_pass_71 : decode cX6_pass 71 = .ok (.goto 10, 3) := by decide +kernel
theorem dX6_pass_74 : decode cX6_pass 74 = .ok (.aload_n 0, 1) := by decide +kernel
theorem dX6_pass_75 : decode cX6_pass 75 = .ok (.getfield 64, 3) := by decide +kernel
theorem dX6_pass_78 : decode cX6_pass 78 = .ok (.iload 4, 2) := by decide +kernel
theorem dX6_pass_80 : decode cX6_pass 80 = .ok (.iaload, 1) := by decide +kernel
theorem dX6_pass_81 : decode cX6_pass 81 = .ok (.iastore, 1) := by decide +kernel
theorem dX6_pass_82 : decode cX6_pass 82 = .ok (.iinc 4 1, 3) := by decide +kernel
theorem dX6_pass_85 : decode cX6_pass 85 = .ok (.goto (-38), 3) := by decide +kernel
theorem dX6_pass_88 : decode cX6_pass 88 = .ok (.iload_n 2, 1) := by decide +kernel
theorem dX6_pass_89 : decode cX6_pass 89 = .ok (.aload_n 0, 1) := by decide +kernel
theorem dX6_pass_90 : decode cX6_pass 90 = .ok (.invokevirtual 145, 3) := by decide +kernel
theorem dX6_pass_93 : decode cX6_pass 93 = .ok (.iadd, 1) := by decide +kernel
theorem dX6_pass_94 : decode cX6_pass 94 = .ok (.istore_n 2, 1) := by decide +kernel
theorem dX6_pass_95 : decode cX6_pass 95 = .ok (.iinc 3 1, 3) := by decide +kernel
theorem dX6_pass_98 : decode cX6_pass 98 = .ok (.goto (-69), 3) := by decide +kernel
theorem dX6_pass_101 : decode cX6_pass 101 = .ok (.iload_n 2, 1) := by decide +kernel
theorem dX6_pass_102 : decode cX6_pass 102 = .ok (.ireturn, 1) := by decide +kernel
set_option maxRecDepth 20000 in
theorem ggX6_today_X6_plain : GoodIn wsX6_today wsX6_plain := goodIn_r _ [6, 7, 8, 9, 10, 11, 12, 13, 14, 15, 16, 17, 18, 19, 20, 21, 22, 23, 24, 25, 26, 27, 28, 29, 30, 31] (by decide +kernel) (by decide +kernel)
set_option maxRecDepth 20000 in
theorem gX6_today_X6_plain : GoodIn wsX6_today (wsV RX6 149 RX6 yX6_plain wsX6_plain) := goodIn_app (goodIn_of _ (by decide +kernel)) ggX6_today_X6_plain
theorem dX6_today_0 : decode cX6_today 0 = .ok (.aload_n 0, 1) := by decide +kernel
theorem dX6_today_1 : decode cX6_today 1 = .ok (.aload_n 0, 1) := by decide +kernel
theorem dX6_today_2 : decode cX6_today 2 = .ok (.getfield 84, 3) := by decide +kernel
theorem dX6_today_5 : decode cX6_today 5 = .ok (.invokevirtual 149, 3) := by decide +kernel
theorem dX6_today_8 : decode cX6_today 8 = .ok (.ireturn, 1) := by decide +kernel
set_option maxRecDepth 20000 in
theorem ggX6_owes_X6_isHouse : GoodIn wsX6_owes wsX6_isHouse := goodIn_r _ [6, 7, 8, 9, 5, 10] (by decide +kernel) (by decide +kernel)
set_option maxRecDepth 20000 in
theorem gX6_owes_X6_isHouse : GoodIn wsX6_owes (wsV RX6 91 RX6 yX6_isHouse wsX6_isHouse) := goodIn_app (goodIn_of _ (by decide +kernel)) ggX6_owes_X6_isHouse
set_option maxRecDepth 20000 in
theorem ggX6_owes_X6_holds : GoodIn wsX6_owes wsX6_holds := goodIn_r _ [14, 15, 16, 17, 18, 19, 20, 21, 22, 23, 24, 25, 26, 27, 28, 29, 30, 31, 32, 33, 34, 35, 36, 37, 38, 39] (by decide +kernel) (by decide +kernel)
set_option maxRecDepth 20000 in
theorem gX6_owes_X6_holds : GoodIn wsX6_owes (wsV RX6 95 RX6 yX6_holds wsX6_holds) := goodIn_app (goodIn_of _ (by decide +kernel)) ggX6_owes_X6_holds
theorem dX6_owes_0 : decode cX6_owes 0 = .ok (.aload_n 0, 1) := by decide +kernel
theorem dX6_owes_1 : decode cX6_owes 1 = .ok (.aload_n 0, 1) := by decide +kernel
theorem dX6_owes_2 : decode cX6_owes 2 = .ok (.iload_n 1, 1) := by decide +kernel
theorem dX6_owes_3 : decode cX6_owes 3 = .ok (.invokevirtual 91, 3) := by decide +kernel
theorem dX6_owes_6 : decode cX6_owes 6 = .ok (.ifCond .eq 15, 3) := by decide +kernel
theorem dX6_owes_9 : decode cX6_owes 9 = .ok (.aload_n 0, 1) := by decide +kernel
theorem dX6_owes_10 : decode cX6_owes 10 = .ok (.iload_n 2, 1) := by decide +kernel
theorem dX6_owes_11 : decode cX6_owes 11 = .ok (.invokevirtual 91, 3) := by decide +kernel
theorem dX6_owes_14 : decode cX6_owes 14 = .ok (.ifCond .eq 7, 3) := by decide +kernel
theorem dX6_owes_17 : decode cX6_owes 17 = .ok (.iconst 0, 1) := by decide +kernel
theorem dX6_owes_18 : decode cX6_owes 18 = .ok (.goto 4, 3) := by decide +kernel
theorem dX6_owes_21 : decode cX6_owes 21 = .ok (.iconst 1, 1) := by decide +kernel
theorem dX6_owes_22 : decode cX6_owes 22 = .ok (.invokevirtual 95, 3) := by decide +kernel
theorem dX6_owes_25 : decode cX6_owes 25 = .ok (.ifCond .eq 7, 3) := by decide +kernel
theorem dX6_owes_28 : decode cX6_owes 28 = .ok (.iconst (-1), 1) := by decide +kernel
theorem dX6_owes_29 : decode cX6_owes 29 = .ok (.goto 14, 3) := by decide +kernel
theorem dX6_owes_32 : decode cX6_owes 32 = .ok (.aload_n 0, 1) := by decide +kernel
theorem dX6_owes_33 : decode cX6_owes 33 = .ok (.getfield 61, 3) := by decide +kernel
theorem dX6_owes_36 : decode cX6_owes 36 = .ok (.bipush 6, 2) := by decide +kernel
theorem dX6_owes_38 : decode cX6_owes 38 = .ok (.iload_n 1, 1) := by decide +kernel
theorem dX6_owes_39 : decode cX6_owes 39 = .ok (.imul, 1) := by decide +kernel
theorem dX6_owes_40 : decode cX6_owes 40 = .ok (.iload_n 2, 1) := by decide +kernel
theorem dX6_owes_41 : decode cX6_owes 41 = .ok (.iadd, 1) := by decide +kernel
theorem dX6_owes_42 : decode cX6_owes 42 = .ok (.iaload, 1) := by decide +kernel
theorem dX6_owes_43 : decode cX6_owes 43 = .ok (.ireturn, 1) := by decide +kernel
set_option maxRecDepth 20000 in
theorem ggX6_settle_X6_plain : GoodIn wsX6_settle wsX6_plain := goodIn_r _ [6, 7, 8, 9, 10, 11, 12, 13, 14, 15, 16, 17, 18, 19, 20, 21, 22, 23, 24, 25, 26, 27, 28, 29, 30, 31] (by decide +kernel) (by decide +kernel)
set_option maxRecDepth 20000 in
theorem gX6_settle_X6_plain : GoodIn wsX6_settle (wsV RX6 149 RX6 yX6_plain wsX6_plain) := goodIn_app (goodIn_of _ (by decide +kernel)) ggX6_settle_X6_plain
theorem dX6_settle_0 : decode cX6_settle 0 = .ok (.iconst 0, 1) := by decide +kernel
theorem dX6_settle_1 : decode cX6_settle 1 = .ok (.istore_n 1, 1) := by decide +kernel
theorem dX6_settle_2 : decode cX6_settle 2 = .ok (.iconst 0, 1) := by decide +kernel
theorem dX6_settle_3 : decode cX6_settle 3 = .ok (.istore_n 2, 1) := by decide +kernel
theorem dX6_settle_4 : decode cX6_settle 4 = .ok (.iload_n 2, 1) := by decide +kernel
theorem dX6_settle_5 : decode cX6_settle 5 = .ok (.bipush 36, 2) := by decide +kernel
theorem dX6_settle_7 : decode cX6_settle 7 = .ok (.if_icmp .ge 33, 3) := by decide +kernel
theorem dX6_settle_10 : decode cX6_settle 10 = .ok (.iload_n 1, 1) := by decide +kernel
theorem dX6_settle_11 : decode cX6_settle 11 = .ok (.aload_n 0, 1) := by decide +kernel
theorem dX6_settle_12 : decode cX6_settle 12 = .ok (.getfield 61, 3) := by decide +kernel
theorem dX6_settle_15 : decode cX6_settle 15 = .ok (.iload_n 2, 1) := by decide +kernel
theorem dX6_settle_16 : decode cX6_settle 16 = .ok (.iaload, 1) := by decide +kernel
theorem dX6_settle_17 : decode cX6_settle 17 = .ok (.ifCond .le 7, 3) := by decide +kernel
theorem dX6_settle_20 : decode cX6_settle 20 = .ok (.iconst 1, 1) := by decide +kernel
theorem dX6_settle_21 : decode cX6_settle 21 = .ok (.goto 4, 3) := by decide +kernel
theorem dX6_settle_24 : decode cX6_settle 24 = .ok (.iconst 0, 1) := by decide +kernel
theorem dX6_settle_25 : decode cX6_settle 25 = .ok (.iadd, 1) := by decide +kernel
theorem dX6_settle_26 : decode cX6_settle 26 = .ok (.istore_n 1, 1) := by decide +kernel
theorem dX6_settle_27 : decode cX6_settle 27 = .ok (.aload_n 0, 1) := by decide +kernel
theorem dX6_settle_28 : decode cX6_settle 28 = .ok (.getfield 61, 3) := by decide +kernel
theorem dX6_settle_31 : decode cX6_settle 31 = .ok (.iload_n 2, 1) := by decide +kernel
theorem dX6_settle_32 : decode cX6_settle 32 = .ok (.iconst 0, 1) := by decide +kernel
theorem dX6_settle_33 : decode cX6_settle 33 = .ok (.iastore, 1) := by decide +kernel
theorem dX6_settle_34 : decode cX6_settle 34 = .ok (.iinc 2 1, 3) := by decide +kernel
theorem dX6_settle_37 : decode cX6_settle 37 = .ok (.goto (-33), 3) := by decide +kernel
theorem dX6_settle_40 : decode cX6_settle 40 = .ok (.aload_n 0, 1) := by decide +kernel
theorem dX6_settle_41 : decode cX6_settle 41 = .ok (.iload_n 1, 1) := by decide +kernel
theorem dX6_settle_42 : decode cX6_settle 42 = .ok (.invokevirtual 149, 3) := by decide +kernel
theorem dX6_settle_45 : decode cX6_settle 45 = .ok (.ireturn, 1) := by decide +kernel
set_option maxRecDepth 20000 in
theorem ggX6_quota_X6_isHouse : GoodIn wsX6_quota wsX6_isHouse := goodIn_r _ [6, 7, 8, 9, 5, 10] (by decide +kernel) (by decide +kernel)
set_option maxRecDepth 20000 in
theorem gX6_quota_X6_isHouse : GoodIn wsX6_quota (wsV RX6 91 RX6 yX6_isHouse wsX6_isHouse) := goodIn_app (goodIn_of _ (by decide +kernel)) ggX6_quota_X6_isHouse
set_option maxRecDepth 20000 in
theorem ggX6_quota_X6_holds : GoodIn wsX6_quota wsX6_holds := goodIn_r _ [14, 15, 16, 17, 18, 19, 20, 21, 22, 23, 24, 25, 26, 27, 28, 29, 30, 31, 32, 33, 34, 35, 36, 37, 38, 39] (by decide +kernel) (by decide +kernel)
set_option maxRecDepth 20000 in
theorem gX6_quota_X6_holds : GoodIn wsX6_quota (wsV RX6 95 RX6 yX6_holds wsX6_holds) := goodIn_app (goodIn_of _ (by decide +kernel)) ggX6_quota_X6_holds
theorem dX6_quota_0 : decode cX6_quota 0 = .ok (.aload_n 0, 1) := by decide +kernel
theorem dX6_quota_1 : decode cX6_quota 1 = .ok (.aload_n 0, 1) := by decide +kernel
theorem dX6_quota_2 : decode cX6_quota 2 = .ok (.iload_n 1, 1) := by decide +kernel
theorem dX6_quota_3 : decode cX6_quota 3 = .ok (.invokevirtual 91, 3) := by decide +kernel
theorem dX6_quota_6 : decode cX6_quota 6 = .ok (.ifCond .eq 7, 3) := by decide +kernel
theorem dX6_quota_9 : decode cX6_quota 9 = .ok (.iconst 0, 1) := by decide +kernel
theorem dX6_quota_10 : decode cX6_quota 10 = .ok (.goto 4, 3) := by decide +kernel
theorem dX6_quota_13 : decode cX6_quota 13 = .ok (.iconst 1, 1) := by decide +kernel
theorem dX6_quota_14 : decode cX6_quota 14 = .ok (.invokevirtual 95, 3) := by decide +kernel
theorem dX6_quota_17 : decode cX6_quota 17 = .ok (.ifCond .eq 7, 3) := by decide +kernel
theorem dX6_quota_20 : decode cX6_quota 20 = .ok (.iconst (-1), 1) := by decide +kernel
theorem dX6_quota_21 : decode cX6_quota 21 = .ok (.goto 9, 3) := by decide +kernel
theorem dX6_quota_24 : decode cX6_quota 24 = .ok (.aload_n 0, 1) := by decide +kernel
theorem dX6_quota_25 : decode cX6_quota 25 = .ok (.getfield 64, 3) := by decide +kernel
theorem dX6_quota_28 : decode cX6_quota 28 = .ok (.iload_n 1, 1) := by decide +kernel
theorem dX6_quota_29 : decode cX6_quota 29 = .ok (.iaload, 1) := by decide +kernel
theorem dX6_quota_30 : decode cX6_quota 30 = .ok (.ireturn, 1) := by decide +kernel
theorem dJ9_abs_0f7a4_0 : decode cJ9_abs_0f7a4 0 = .ok (.iload_n 0, 1) := by decide +kernel
theorem dJ9_abs_0f7a4_1 : decode cJ9_abs_0f7a4 1 = .ok (.ifCond .ge 8, 3) := by decide +kernel
theorem dJ9_abs_0f7a4_4 : decode cJ9_abs_0f7a4 4 = .ok (.iload_n 0, 1) := by decide +kernel
theorem dJ9_abs_0f7a4_5 : decode cJ9_abs_0f7a4 5 = .ok (.ineg, 1) := by decide +kernel
theorem dJ9_abs_0f7a4_6 : decode cJ9_abs_0f7a4 6 = .ok (.goto 4, 3) := by decide +kernel
theorem dJ9_abs_0f7a4_9 : decode cJ9_abs_0f7a4 9 = .ok (.iload_n 0, 1) := by decide +kernel
theorem dJ9_abs_0f7a4_10 : decode cJ9_abs_0f7a4 10 = .ok (.ireturn, 1) := by decide +kernel
theorem dJ9_max_7cf53_0 : decode cJ9_max_7cf53 0 = .ok (.iload_n 0, 1) := by decide +kernel
theorem dJ9_max_7cf53_1 : decode cJ9_max_7cf53 1 = .ok (.iload_n 1, 1) := by decide +kernel
theorem dJ9_max_7cf53_2 : decode cJ9_max_7cf53 2 = .ok (.if_icmp .lt 7, 3) := by decide +kernel
theorem dJ9_max_7cf53_5 : decode cJ9_max_7cf53 5 = .ok (.iload_n 0, 1) := by decide +kernel
theorem dJ9_max_7cf53_6 : decode cJ9_max_7cf53 6 = .ok (.goto 4, 3) := by decide +kernel
theorem dJ9_max_7cf53_9 : decode cJ9_max_7cf53 9 = .ok (.iload_n 1, 1) := by decide +kernel
theorem dJ9_max_7cf53_10 : decode cJ9_max_7cf53 10 = .ok (.ireturn, 1) := by decide +kernel
theorem dJ9_min_7cf53_0 : decode cJ9_min_7cf53 0 = .ok (.iload_n 0, 1) := by decide +kernel
theorem dJ9_min_7cf53_1 : decode cJ9_min_7cf53 1 = .ok (.iload_n 1, 1) := by decide +kernel
theorem dJ9_min_7cf53_2 : decode cJ9_min_7cf53 2 = .ok (.if_icmp .gt 7, 3) := by decide +kernel
theorem dJ9_min_7cf53_5 : decode cJ9_min_7cf53 5 = .ok (.iload_n 0, 1) := by decide +kernel
theorem dJ9_min_7cf53_6 : decode cJ9_min_7cf53 6 = .ok (.goto 4, 3) := by decide +kernel
theorem dJ9_min_7cf53_9 : decode cJ9_min_7cf53 9 = .ok (.iload_n 1, 1) := by decide +kernel
theorem dJ9_min_7cf53_10 : decode cJ9_min_7cf53 10 = .ok (.ireturn, 1) := by decide +kernel
set_option maxRecDepth 20000 in
theorem ggL_addCopy_X5_addCopy : GoodIn wsL_addCopy wsX5_addCopy := goodIn_ca (goodIn_ca (goodIn_r _ [7, 8, 9, 10, 11, 12, 13, 14, 15, 16, 17, 18, 19, 6, 20, 21, 22, 23, 24, 25, 26, 27, 28, 29, 30, 31, 32, 33, 34, 35, 36, 37, 38, 39, 40, 41, 42, 43, 44, 45, 46, 47, 48, 49, 50, 51, 52, 53, 54, 55, 56, 57, 58, 59, 60, 61, 62, 63, 64, 65, 66, 67, 68, 69, 70, 71, 72, 73, 74, 75, 76, 77, 78, 79, 80, 81, 82, 83, 84, 85, 86, 87, 88, 89, 90, 91, 92, 93, 94, 95, 96, 97, 98, 99, 100] (by decide +kernel) (by decide +kernel)) (goodIn_sub (fun _ h => List.mem_cons_of_mem _ (List.mem_append_left _ (List.mem_append_right _ h))) (by decide +kernel))) (goodIn_sub (fun _ h => List.mem_cons_of_mem _ (List.mem_append_right _ h)) (by decide +kernel))
set_option maxRecDepth 20000 in
theorem gL_addCopy_X5_addCopy : GoodIn wsL_addCopy (wsV RL 7 RX5 yX5_addCopy wsX5_addCopy) := goodIn_app (goodIn_of _ (by decide +kernel)) ggL_addCopy_X5_addCopy
theorem dL_addCopy_0 : decode cL_addCopy 0 = .ok (.aload_n 3, 1) := by decide +kernel
theorem dL_addCopy_1 : decode cL_addCopy 1 = .ok (.iconst 0, 1) := by decide +kernel
theorem dL_addCopy_2 : decode cL_addCopy 2 = .ok (.aload_n 0, 1) := by decide +kernel
theorem dL_addCopy_3 : decode cL_addCopy 3 = .ok (.iload_n 1, 1) := by decide +kernel
theorem dL_addCopy_4 : decode cL_addCopy 4 = .ok (.iload_n 2, 1) := by decide +kernel
theorem dL_addCopy_5 : decode cL_addCopy 5 = .ok (.invokevirtual 7, 3) := by decide +kernel
theorem dL_addCopy_8 : decode cL_addCopy 8 = .ok (.i2l, 1) := by decide +kernel
theorem dL_addCopy_9 : decode cL_addCopy 9 = .ok (.lastore, 1) := by decide +kernel
theorem dL_addCopy_10 : decode cL_addCopy 10 = .ok (.goto 11, 3) := by decide +kernel
theorem dL_addCopy_13 : decode cL_addCopy 13 = .ok (.astore 4, 2) := by decide +kernel
theorem dL_addCopy_15 : decode cL_addCopy 15 = .ok (.iconst 1, 1) := by decide +kernel
theorem dL_addCopy_16 : decode cL_addCopy 16 = .ok (.ireturn, 1) := by decide +kernel
theorem dL_addCopy_17 : decode cL_addCopy 17 = .ok (.astore 4, 2) := by decide +kernel
theorem dL_addCopy_19 : decode cL_addCopy 19 = .ok (.iconst 2, 1) := by decide +kernel
theorem dL_addCopy_20 : decode cL_addCopy 20 = .ok (.ireturn, 1) := by decide +kernel
theorem dL_addCopy_21 : decode cL_addCopy 21 = .ok (.iconst 0, 1) := by decide +kernel
theorem dL_addCopy_22 : decode cL_addCopy 22 = .ok (.ireturn, 1) := by decide +kernel
set_option maxRecDepth 20000 in
theorem ggL_inHandsOf_X5_inHandsOf : GoodIn wsL_inHandsOf wsX5_inHandsOf := goodIn_ca (goodIn_r _ [6, 7, 8, 9, 10, 5, 11, 12, 13, 14, 15, 16, 17, 18, 19, 20, 21, 22, 23, 24, 25, 26, 27, 28, 29] (by decide +kernel) (by decide +kernel)) (goodIn_sub (fun _ h => List.mem_cons_of_mem _ (List.mem_append_right _ h)) (by decide +kernel))
set_option maxRecDepth 20000 in
theorem gL_inHandsOf_X5_inHandsOf : GoodIn wsL_inHandsOf (wsV RL 17 RX5 yX5_inHandsOf wsX5_inHandsOf) := goodIn_app (goodIn_of _ (by decide +kernel)) ggL_inHandsOf_X5_inHandsOf
theorem dL_inHandsOf_0 : decode cL_inHandsOf 0 = .ok (.aload_n 2, 1) := by decide +kernel
theorem dL_inHandsOf_1 : decode cL_inHandsOf 1 = .ok (.iconst 0, 1) := by decide +kernel
theorem dL_inHandsOf_2 : decode cL_inHandsOf 2 = .ok (.aload_n 0, 1) := by decide +kernel
theorem dL_inHandsOf_3 : decode cL_inHandsOf 3 = .ok (.iload_n 1, 1) := by decide +kernel
theorem dL_inHandsOf_4 : decode cL_inHandsOf 4 = .ok (.invokevirtual 17, 3) := by decide +kernel
theorem dL_inHandsOf_7 : decode cL_inHandsOf 7 = .ok (.i2l, 1) := by decide +kernel
theorem dL_inHandsOf_8 : decode cL_inHandsOf 8 = .ok (.lastore, 1) := by decide +kernel
theorem dL_inHandsOf_9 : decode cL_inHandsOf 9 = .ok (.goto 6, 3) := by decide +kernel
theorem dL_inHandsOf_12 : decode cL_inHandsOf 12 = .ok (.astore_n 3, 1) := by decide +kernel
theorem dL_inHandsOf_13 : decode cL_inHandsOf 13 = .ok (.iconst 1, 1) := by decide +kernel
theorem dL_inHandsOf_14 : decode cL_inHandsOf 14 = .ok (.ireturn, 1) := by decide +kernel
theorem dL_inHandsOf_15 : decode cL_inHandsOf 15 = .ok (.iconst 0, 1) := by decide +kernel
theorem dL_inHandsOf_16 : decode cL_inHandsOf 16 = .ok (.ireturn, 1) := by decide +kernel
set_option maxRecDepth 20000 in
theorem ggL_isFree_X5_isFree : GoodIn wsL_isFree wsX5_isFree := goodIn_ca (goodIn_r _ [6, 7, 8, 9, 5, 10, 11, 12, 13, 14, 15, 16, 17, 18, 19, 20, 21, 22, 23, 24, 25, 26, 27, 28, 29, 30, 31, 32, 33, 34, 35, 36, 37, 38, 39, 40, 41] (by decide +kernel) (by decide +kernel)) (goodIn_sub (fun _ h => List.mem_cons_of_mem _ (List.mem_append_right _ h)) (by decide +kernel))
set_option maxRecDepth 20000 in
theorem gL_isFree_X5_isFree : GoodIn wsL_isFree (wsV RL 23 RX5 yX5_isFree wsX5_isFree) := goodIn_app (goodIn_of _ (by decide +kernel)) ggL_isFree_X5_isFree
theorem dL_isFree_0 : decode cL_isFree 0 = .ok (.aload_n 2, 1) := by decide +kernel
theorem dL_isFree_1 : decode cL_isFree 1 = .ok (.iconst 0, 1) := by decide +kernel
theorem dL_isFree_2 : decode cL_isFree 2 = .ok (.aload_n 0, 1) := by decide +kernel
theorem dL_isFree_3 : decode cL_isFree 3 = .ok (.iload_n 1, 1) := by decide +kernel
theorem dL_isFree_4 : decode cL_isFree 4 = .ok (.invokevirtual 23, 3) := by decide +kernel
theorem dL_isFree_7 : decode cL_isFree 7 = .ok (.ifCond .eq 7, 3) := by decide +kernel
theorem dL_isFree_10 : decode cL_isFree 10 = .ok (.lconst 1, 1) := by decide +kernel
theorem dL_isFree_11 : decode cL_isFree 11 = .ok (.goto 4, 3) := by decide +kernel
theorem dL_isFree_14 : decode cL_isFree 14 = .ok (.lconst 0, 1) := by decide +kernel
theorem dL_isFree_15 : decode cL_isFree 15 = .ok (.lastore, 1) := by decide +kernel
theorem dL_isFree_16 : decode cL_isFree 16 = .ok (.goto 6, 3) := by decide +kernel
theorem dL_isFree_19 : decode cL_isFree 19 = .ok (.astore_n 3, 1) := by decide +kernel
theorem dL_isFree_20 : decode cL_isFree 20 = .ok (.iconst 1, 1) := by decide +kernel
theorem dL_isFree_21 : decode cL_isFree 21 = .ok (.ireturn, 1) := by decide +kernel
theorem dL_isFree_22 : decode cL_isFree 22 = .ok (.iconst 0, 1) := by decide +kernel
theorem dL_isFree_23 : decode cL_isFree 23 = .ok (.ireturn, 1) := by decide +kernel
set_option maxRecDepth 20000 in
theorem ggL_listed_X5_listed : GoodIn wsL_listed wsX5_listed := goodIn_ca (goodIn_r _ [6, 7, 8, 9, 10, 5, 11, 12, 13, 14, 15, 16, 17, 18, 19, 20, 21, 22, 23, 24, 25, 26, 27, 28, 29] (by decide +kernel) (by decide +kernel)) (goodIn_sub (fun _ h => List.mem_cons_of_mem _ (List.mem_append_right _ h)) (by decide +kernel))
set_option maxRecDepth 20000 in
theorem gL_listed_X5_listed : GoodIn wsL_listed (wsV RL 27 RX5 yX5_listed wsX5_listed) := goodIn_app (goodIn_of _ (by decide +kernel)) ggL_listed_X5_listed
theorem dL_listed_0 : decode cL_listed 0 = .ok (.aload_n 2, 1) := by decide +kernel
theorem dL_listed_1 : decode cL_listed 1 = .ok (.iconst 0, 1) := by decide +kernel
theorem dL_listed_2 : decode cL_listed 2 = .ok (.aload_n 0, 1) := by decide +kernel
theorem dL_listed_3 : decode cL_listed 3 = .ok (.iload_n 1, 1) := by decide +kernel
theorem dL_listed_4 : decode cL_listed 4 = .ok (.invokevirtual 27, 3) := by decide +kernel
theorem dL_listed_7 : decode cL_listed 7 = .ok (.i2l, 1) := by decide +kernel
theorem dL_listed_8 : decode cL_listed 8 = .ok (.lastore, 1) := by decide +kernel
theorem dL_listed_9 : decode cL_listed 9 = .ok (.goto 6, 3) := by decide +kernel
theorem dL_listed_12 : decode cL_listed 12 = .ok (.astore_n 3, 1) := by decide +kernel
theorem dL_listed_13 : decode cL_listed 13 = .ok (.iconst 1, 1) := by decide +kernel
theorem dL_listed_14 : decode cL_listed 14 = .ok (.ireturn, 1) := by decide +kernel
theorem dL_listed_15 : decode cL_listed 15 = .ok (.iconst 0, 1) := by decide +kernel
theorem dL_listed_16 : decode cL_listed 16 = .ok (.ireturn, 1) := by decide +kernel
set_option maxRecDepth 20000 in
theorem ggL_harm_X5_harm : GoodIn wsL_harm wsX5_harm := goodIn_ca (goodIn_ca (goodIn_r _ [7, 8, 9, 10, 11, 12, 13, 14, 6, 15, 16, 17, 18, 19, 20, 21, 22, 23, 24, 25, 26, 27, 28, 29, 30, 31, 32, 33, 34, 35, 36, 37, 38, 39] (by decide +kernel) (by decide +kernel)) (goodIn_sub (fun _ h => List.mem_cons_of_mem _ (List.mem_append_left _ (List.mem_append_right _ h))) (by decide +kernel))) (goodIn_sub (fun _ h => List.mem_cons_of_mem _ (List.mem_append_right _ h)) (by decide +kernel))
set_option maxRecDepth 20000 in
theorem gL_harm_X5_harm : GoodIn wsL_harm (wsV RL 30 RX5 yX5_harm wsX5_harm) := goodIn_app (goodIn_of _ (by decide +kernel)) ggL_harm_X5_harm
theorem dL_harm_0 : decode cL_harm 0 = .ok (.aload_n 2, 1) := by decide +kernel
theorem dL_harm_1 : decode cL_harm 1 = .ok (.iconst 0, 1) := by decide +kernel
theorem dL_harm_2 : decode cL_harm 2 = .ok (.aload_n 0, 1) := by decide +kernel
theorem dL_harm_3 : decode cL_harm 3 = .ok (.iload_n 1, 1) := by decide +kernel
theorem dL_harm_4 : decode cL_harm 4 = .ok (.invokevirtual 30, 3) := by decide +kernel
theorem dL_harm_7 : decode cL_harm 7 = .ok (.i2l, 1) := by decide +kernel
theorem dL_harm_8 : decode cL_harm 8 = .ok (.lastore, 1) := by decide +kernel
theorem dL_harm_9 : decode cL_harm 9 = .ok (.goto 9, 3) := by decide +kernel
theorem dL_harm_12 : decode cL_harm 12 = .ok (.astore_n 3, 1) := by decide +kernel
theorem dL_harm_13 : decode cL_harm 13 = .ok (.iconst 1, 1) := by decide +kernel
theorem dL_harm_14 : decode cL_harm 14 = .ok (.ireturn, 1) := by decide +kernel
theorem dL_harm_15 : decode cL_harm 15 = .ok (.astore_n 3, 1) := by decide +kernel
theorem dL_harm_16 : decode cL_harm 16 = .ok (.iconst 2, 1) := by decide +kernel
theorem dL_harm_17 : decode cL_harm 17 = .ok (.ireturn, 1) := by decide +kernel
theorem dL_harm_18 : decode cL_harm 18 = .ok (.iconst 0, 1) := by decide +kernel
theorem dL_harm_19 : decode cL_harm 19 = .ok (.ireturn, 1) := by decide +kernel
set_option maxRecDepth 20000 in
theorem ggL_look_X5_look : GoodIn wsL_look wsX5_look := goodIn_ca (goodIn_ca (goodIn_r _ [7, 8, 9, 10, 11, 12, 13, 6, 14, 15, 16, 17, 18, 19, 20, 21, 22, 23, 24, 25, 26, 27, 28, 29, 30, 31, 32, 33, 34, 35, 36, 37, 38, 39, 40, 41, 42, 43, 44, 45, 46, 47, 48, 49, 50, 51, 52, 53, 54, 55, 56, 57] (by decide +kernel) (by decide +kernel)) (goodIn_sub (fun _ h => List.mem_cons_of_mem _ (List.mem_append_left _ (List.mem_append_right _ h))) (by decide +kernel))) (goodIn_sub (fun _ h => List.mem_cons_of_mem _ (List.mem_append_right _ h)) (by decide +kernel))
set_option maxRecDepth 20000 in
theorem gL_look_X5_look : GoodIn wsL_look (wsV RL 33 RX5 yX5_look wsX5_look) := goodIn_app (goodIn_of _ (by decide +kernel)) ggL_look_X5_look
theorem dL_look_0 : decode cL_look 0 = .ok (.aload_n 2, 1) := by decide +kernel
theorem dL_look_1 : decode cL_look 1 = .ok (.iconst 0, 1) := by decide +kernel
theorem dL_look_2 : decode cL_look 2 = .ok (.aload_n 0, 1) := by decide +kernel
theorem dL_look_3 : decode cL_look 3 = .ok (.iload_n 1, 1) := by decide +kernel
theorem dL_look_4 : decode cL_look 4 = .ok (.invokevirtual 33, 3) := by decide +kernel
theorem dL_look_7 : decode cL_look 7 = .ok (.i2l, 1) := by decide +kernel
theorem dL_look_8 : decode cL_look 8 = .ok (.lastore, 1) := by decide +kernel
theorem dL_look_9 : decode cL_look 9 = .ok (.goto 9, 3) := by decide +kernel
theorem dL_look_12 : decode cL_look 12 = .ok (.astore_n 3, 1) := by decide +kernel
theorem dL_look_13 : decode cL_look 13 = .ok (.iconst 1, 1) := by decide +kernel
theorem dL_look_14 : decode cL_look 14 = .ok (.ireturn, 1) := by decide +kernel
theorem dL_look_15 : decode cL_look 15 = .ok (.astore_n 3, 1) := by decide +kernel
theorem dL_look_16 : decode cL_look 16 = .ok (.iconst 2, 1) := by decide +kernel
theorem dL_look_17 : decode cL_look 17 = .ok (.ireturn, 1) := by decide +kernel
theorem dL_look_18 : decode cL_look 18 = .ok (.iconst 0, 1) := by decide +kernel
theorem dL_look_19 : decode cL_look 19 = .ok (.ireturn, 1) := by decide +kernel
set_option maxRecDepth 20000 in
theorem ggL_mend_X5_mend : GoodIn wsL_mend wsX5_mend := goodIn_ca (goodIn_ca (goodIn_r _ [7, 8, 9, 10, 11, 12, 13, 14, 6, 15, 16, 17, 18, 19, 20, 21, 22, 23, 24, 25, 26, 27, 28, 29, 30, 31, 32, 33, 34, 35, 36, 37, 38, 39, 40, 41, 42, 43, 44, 45, 46, 47, 48, 49, 50, 51, 52, 53, 54, 55, 56, 57, 58, 59, 60, 61, 62, 63, 64, 65, 66, 67, 68, 69, 70, 71, 72, 73, 74, 75, 76, 77, 78, 79, 80, 81, 82] (by decide +kernel) (by decide +kernel)) (goodIn_sub (fun _ h => List.mem_cons_of_mem _ (List.mem_append_left _ (List.mem_append_right _ h))) (by decide +kernel))) (goodIn_sub (fun _ h => List.mem_cons_of_mem _ (List.mem_append_right _ h)) (by decide +kernel))
set_option maxRecDepth 20000 in
theorem gL_mend_X5_mend : GoodIn wsL_mend (wsV RL 36 RX5 yX5_mend wsX5_mend) := goodIn_app (goodIn_of _ (by decide +kernel)) ggL_mend_X5_mend
theorem dL_mend_0 : decode cL_mend 0 = .ok (.aload_n 0, 1) := by decide +kernel
theorem dL_mend_1 : decode cL_mend 1 = .ok (.iload_n 1, 1) := by decide +kernel
theorem dL_mend_2 : decode cL_mend 2 = .ok (.invokevirtual 36, 3) := by decide +kernel
theorem dL_mend_5 : decode cL_mend 5 = .ok (.goto 9, 3) := by decide +kernel
theorem dL_mend_8 : decode cL_mend 8 = .ok (.astore_n 2, 1) := by decide +kernel
theorem dL_mend_9 : decode cL_mend 9 = .ok (.iconst 1, 1) := by decide +kernel
theorem dL_mend_10 : decode cL_mend 10 = .ok (.ireturn, 1) := by decide +kernel
theorem dL_mend_11 : decode cL_mend 11 = .ok (.astore_n 2, 1) := by decide +kernel
theorem dL_mend_12 : decode cL_mend 12 = .ok (.iconst 2, 1) := by decide +kernel
theorem dL_mend_13 : decode cL_mend 13 = .ok (.ireturn, 1) := by decide +kernel
theorem dL_mend_14 : decode cL_mend 14 = .ok (.iconst 0, 1) := by decide +kernel
theorem dL_mend_15 : decode cL_mend 15 = .ok (.ireturn, 1) := by decide +kernel
set_option maxRecDepth 20000 in
theorem ggL_request_X5_request : GoodIn wsL_request wsX5_request := goodIn_ca (goodIn_ca (goodIn_r _ [7, 8, 9, 10, 11, 12, 13, 14, 15, 16, 17, 18, 6, 19, 20, 21, 22, 23, 24, 25, 26, 27, 28, 29, 30, 31, 32, 33, 34, 35, 36, 37, 38, 39, 40, 41, 42, 43, 44, 45, 46, 47, 48, 49, 50, 51, 52, 53, 54, 55, 56, 57, 58, 59, 60, 61, 62, 63, 64, 65, 66, 67, 68, 69, 70, 71, 72, 73, 74, 75, 76, 77, 78, 79, 80, 81, 82, 83, 84, 85, 86, 87, 88, 89, 90, 91, 92, 93, 94, 95, 96, 97, 98, 99, 100, 101, 102, 103, 104, 105, 106, 107, 108, 109, 110, 111, 112, 113, 114, 115, 116, 117, 118, 119] (by decide +kernel) (by decide +kernel)) (goodIn_sub (fun _ h => List.mem_cons_of_mem _ (List.mem_append_left _ (List.mem_append_right _ h))) (by decide +kernel))) (goodIn_sub (fun _ h => List.mem_cons_of_mem _ (List.mem_append_right _ h)) (by decide +kernel))
set_option maxRecDepth 20000 in
theorem gL_request_X5_request : GoodIn wsL_request (wsV RL 40 RX5 yX5_request wsX5_request) := goodIn_app (goodIn_of _ (by decide +kernel)) ggL_request_X5_request
theorem dL_request_0 : decode cL_request 0 = .ok (.aload_n 3, 1) := by decide +kernel
theorem dL_request_1 : decode cL_request 1 = .ok (.iconst 0, 1) := by decide +kernel
theorem dL_request_2 : decode cL_request 2 = .ok (.aload_n 0, 1) := by decide +kernel
theorem dL_request_3 : decode cL_request 3 = .ok (.iload_n 1, 1) := by decide +kernel
theorem dL_request_4 : decode cL_request 4 = .ok (.iload_n 2, 1) := by decide +kernel
theorem dL_request_5 : decode cL_request 5 = .ok (.invokevirtual 40, 3) := by decide +kernel
theorem dL_request_8 : decode cL_request 8 = .ok (.i2l, 1) := by decide +kernel
theorem dL_request_9 : decode cL_request 9 = .ok (.lastore, 1) := by decide +kernel
theorem dL_request_10 : decode cL_request 10 = .ok (.goto 11, 3) := by decide +kernel
theorem dL_request_13 : decode cL_request 13 = .ok (.astore 4, 2) := by decide +kernel
theorem dL_request_15 : decode cL_request 15 = .ok (.iconst 1, 1) := by decide +kernel
theorem dL_request_16 : decode cL_request 16 = .ok (.ireturn, 1) := by decide +kernel
theorem dL_request_17 : decode cL_request 17 = .ok (.astore 4, 2) := by decide +kernel
theorem dL_request_19 : decode cL_request 19 = .ok (.iconst 2, 1) := by decide +kernel
theorem dL_request_20 : decode cL_request 20 = .ok (.ireturn, 1) := by decide +kernel
theorem dL_request_21 : decode cL_request 21 = .ok (.iconst 0, 1) := by decide +kernel
theorem dL_request_22 : decode cL_request 22 = .ok (.ireturn, 1) := by decide +kernel
set_option maxRecDepth 20000 in
theorem ggL_state_X5_state : GoodIn wsL_state wsX5_state := goodIn_ca (goodIn_r _ [6, 7, 8, 9, 10, 5, 11, 12, 13, 14, 15, 16, 17, 18, 19, 20, 21, 22, 23, 24, 25, 26, 27, 28] (by decide +kernel) (by decide +kernel)) (goodIn_sub (fun _ h => List.mem_cons_of_mem _ (List.mem_append_right _ h)) (by decide +kernel))
set_option maxRecDepth 20000 in
theorem gL_state_X5_state : GoodIn wsL_state (wsV RL 43 RX5 yX5_state wsX5_state) := goodIn_app (goodIn_of _ (by decide +kernel)) ggL_state_X5_state
theorem dL_state_0 : decode cL_state 0 = .ok (.aload_n 2, 1) := by decide +kernel
theorem dL_state_1 : decode cL_state 1 = .ok (.iconst 0, 1) := by decide +kernel
theorem dL_state_2 : decode cL_state 2 = .ok (.aload_n 0, 1) := by decide +kernel
theorem dL_state_3 : decode cL_state 3 = .ok (.iload_n 1, 1) := by decide +kernel
theorem dL_state_4 : decode cL_state 4 = .ok (.invokevirtual 43, 3) := by decide +kernel
theorem dL_state_7 : decode cL_state 7 = .ok (.i2l, 1) := by decide +kernel
theorem dL_state_8 : decode cL_state 8 = .ok (.lastore, 1) := by decide +kernel
theorem dL_state_9 : decode cL_state 9 = .ok (.goto 6, 3) := by decide +kernel
theorem dL_state_12 : decode cL_state 12 = .ok (.astore_n 3, 1) := by decide +kernel
theorem dL_state_13 : decode cL_state 13 = .ok (.iconst 1, 1) := by decide +kernel
theorem dL_state_14 : decode cL_state 14 = .ok (.ireturn, 1) := by decide +kernel
