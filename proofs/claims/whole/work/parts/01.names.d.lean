theorem dX8_findBest_10 : decode cX8_findBest 10 = .ok (.getfield 32, 3) := by decide +kernel
theorem dX8_findBest_13 : decode cX8_findBest 13 = .ok (.aload_n 1, 1) := by decide +kernel
theorem dX8_findBest_14 : decode cX8_findBest 14 = .ok (.getfield 232, 3) := by decide +kernel
theorem dX8_findBest_17 : decode cX8_findBest 17 = .ok (.aload_n 1, 1) := by decide +kernel
theorem dX8_findBest_18 : decode cX8_findBest 18 = .ok (.getfield 226, 3) := by decide +kernel
theorem dX8_findBest_21 : decode cX8_findBest 21 = .ok (.invokevirtual 237, 3) := by decide +kernel
theorem dX8_findBest_24 : decode cX8_findBest 24 = .ok (.return_, 1) := by decide +kernel
set_option maxRecDepth 20000 in
theorem ggX8_offWeeks_X1_houseAt : GoodIn wsX8_offWeeks wsX1_houseAt := goodIn_r _ [13] (by decide +kernel) (by decide +kernel)
set_option maxRecDepth 20000 in
theorem gX8_offWeeks_X1_houseAt : GoodIn wsX8_offWeeks (va_wsS RX8 140 yX1_houseAt wsX1_houseAt) := goodIn_app (goodIn_of _ (by decide +kernel)) ggX8_offWeeks_X1_houseAt
theorem dX8_offWeeks_0 : decode cX8_offWeeks 0 = .ok (.iload_n 1, 1) := by decide +kernel
theorem dX8_offWeeks_1 : decode cX8_offWeeks 1 = .ok (.iconst 1, 1) := by decide +kernel
theorem dX8_offWeeks_2 : decode cX8_offWeeks 2 = .ok (.invokestatic 262, 3) := by decide +kernel
theorem dX8_offWeeks_5 : decode cX8_offWeeks 5 = .ok (.bipush 7, 2) := by decide +kernel
theorem dX8_offWeeks_7 : decode cX8_offWeeks 7 = .ok (.imul, 1) := by decide +kernel
theorem dX8_offWeeks_8 : decode cX8_offWeeks 8 = .ok (.istore_n 2, 1) := by decide +kernel
theorem dX8_offWeeks_9 : decode cX8_offWeeks 9 = .ok (.iconst 0, 1) := by decide +kernel
theorem dX8_offWeeks_10 : decode cX8_offWeeks 10 = .ok (.istore_n 3, 1) := by decide +kernel
theorem dX8_offWeeks_11 : decode cX8_offWeeks 11 = .ok (.iconst 0, 1) := by decide +kernel
theorem dX8_offWeeks_12 : decode cX8_offWeeks 12 = .ok (.istore 4, 2) := by decide +kernel
theorem dX8_offWeeks_14 : decode cX8_offWeeks 14 = .ok (.iload 4, 2) := by decide +kernel
theorem dX8_offWeeks_16 : decode cX8_offWeeks 16 = .ok (.iload_n 2, 1) := by decide +kernel
theorem dX8_offWeeks_17 : decode cX8_offWeeks 17 = .ok (.if_icmp .ge 76, 3) := by decide +kernel
theorem dX8_offWeeks_20 : decode cX8_offWeeks 20 = .ok (.iload 4, 2) := by decide +kernel
theorem dX8_offWeeks_22 : decode cX8_offWeeks 22 = .ok (.bipush 56, 2) := by decide +kernel
theorem dX8_offWeeks_24 : decode cX8_offWeeks 24 = .ok (.if_icmp .ge 69, 3) := by decide +kernel
theorem dX8_offWeeks_27 : decode cX8_offWeeks 27 = .ok (.iconst 0, 1) := by decide +kernel
theorem dX8_offWeeks_28 : decode cX8_offWeeks 28 = .ok (.istore 5, 2) := by decide +kernel
theorem dX8_offWeeks_30 : decode cX8_offWeeks 30 = .ok (.iconst 0, 1) := by decide +kernel
theorem dX8_offWeeks_31 : decode cX8_offWeeks 31 = .ok (.istore 6, 2) := by decide +kernel
theorem dX8_offWeeks_33 : decode cX8_offWeeks 33 = .ok (.iload 4, 2) := by decide +kernel
theorem dX8_offWeeks_35 : decode cX8_offWeeks 35 = .ok (.istore 7, 2) := by decide +kernel
theorem dX8_offWeeks_37 : decode cX8_offWeeks 37 = .ok (.iload 7, 2) := by decide +kernel
theorem dX8_offWeeks_39 : decode cX8_offWeeks 39 = .ok (.bipush 56, 2) := by decide +kernel
theorem dX8_offWeeks_41 : decode cX8_offWeeks 41 = .ok (.if_icmp .ge 36, 3) := by decide +kernel
theorem dX8_offWeeks_44 : decode cX8_offWeeks 44 = .ok (.aload_n 0, 1) := by decide +kernel
theorem dX8_offWeeks_45 : decode cX8_offWeeks 45 = .ok (.getfield 19, 3) := by decide +kernel
theorem dX8_offWeeks_48 : decode cX8_offWeeks 48 = .ok (.getfield 136, 3) := by decide +kernel
theorem dX8_offWeeks_51 : decode cX8_offWeeks 51 = .ok (.iload 7, 2) := by decide +kernel
theorem dX8_offWeeks_53 : decode cX8_offWeeks 53 = .ok (.invokestatic 140, 3) := by decide +kernel
theorem dX8_offWeeks_56 : decode cX8_offWeeks 56 = .ok (.ifCond .ne 9, 3) := by decide +kernel
theorem dX8_offWeeks_59 : decode cX8_offWeeks 59 = .ok (.iinc 5 1, 3) := by decide +kernel
theorem dX8_offWeeks_62 : decode cX8_offWeeks 62 = .ok (.goto 6, 3) := by decide +kernel
theorem dX8_offWeeks_65 : decode cX8_offWeeks 65 = .ok (.iinc 6 1, 3) := by decide +kernel
theorem dX8_offWeeks_68 : decode cX8_offWeeks 68 = .ok (.iload 7, 2) := by decide +kernel
theorem dX8_offWeeks_70 : decode cX8_offWeeks 70 = .ok (.iload_n 2, 1) := by decide +kernel
theorem dX8_offWeeks_71 : decode cX8_offWeeks 71 = .ok (.iadd, 1) := by decide +kernel
theorem dX8_offWeeks_72 : decode cX8_offWeeks 72 = .ok (.istore 7, 2) := by decide +kernel
theorem dX8_offWeeks_74 : decode cX8_offWeeks 74 = .ok (.goto (-37), 3) := by decide +kernel
theorem dX8_offWeeks_77 : decode cX8_offWeeks 77 = .ok (.iload_n 3, 1) := by decide +kernel
theorem dX8_offWeeks_78 : decode cX8_offWeeks 78 = .ok (.iload 5, 2) := by decide +kernel
theorem dX8_offWeeks_80 : decode cX8_offWeeks 80 = .ok (.iload 6, 2) := by decide +kernel
theorem dX8_offWeeks_82 : decode cX8_offWeeks 82 = .ok (.invokestatic 267, 3) := by decide +kernel
theorem dX8_offWeeks_85 : decode cX8_offWeeks 85 = .ok (.iadd, 1) := by decide +kernel
theorem dX8_offWeeks_86 : decode cX8_offWeeks 86 = .ok (.istore_n 3, 1) := by decide +kernel
theorem dX8_offWeeks_87 : decode cX8_offWeeks 87 = .ok (.iinc 4 1, 3) := by decide +kernel
theorem dX8_offWeeks_90 : decode cX8_offWeeks 90 = .ok (.goto (-76), 3) := by decide +kernel
theorem dX8_offWeeks_93 : decode cX8_offWeeks 93 = .ok (.iload_n 3, 1) := by decide +kernel
theorem dX8_offWeeks_94 : decode cX8_offWeeks 94 = .ok (.ireturn, 1) := by decide +kernel
set_option maxRecDepth 20000 in
theorem ggX8_owedAmong_X8_readPaper : GoodIn wsX8_owedAmong wsX8_readPaper := goodIn_r _ [10, 2, 11, 12, 13, 14, 15, 16, 17, 18, 19, 20, 21, 22, 23, 24, 25, 26, 27, 28, 29, 30, 31, 32, 33, 34, 35, 36, 37, 38, 39, 40, 41, 42, 43, 44, 45, 46, 47, 58, 59, 60, 61, 62, 63, 64, 65, 66, 67, 68, 69, 70, 71, 72, 73, 74, 75, 76, 77, 78, 55, 56, 57] (by decide +kernel) (by decide +kernel)
set_option maxRecDepth 20000 in
theorem gX8_owedAmong_X8_readPaper : GoodIn wsX8_owedAmong (wsV RX8 92 RX8 yX8_readPaper wsX8_readPaper) := goodIn_app (goodIn_of _ (by decide +kernel)) ggX8_owedAmong_X8_readPaper
set_option maxRecDepth 20000 in
theorem ggX8_owedAmong_J13_bitCount_95d88 : GoodIn wsX8_owedAmong wsJ13_bitCount_95d88 := goodIn_r _ [51, 52, 53, 54] (by decide +kernel) (by decide +kernel)
set_option maxRecDepth 20000 in
theorem gX8_owedAmong_J13_bitCount_95d88 : GoodIn wsX8_owedAmong (va_wsS RX8 111 yJ13_bitCount_95d88 wsJ13_bitCount_95d88) := goodIn_app (goodIn_of _ (by decide +kernel)) ggX8_owedAmong_J13_bitCount_95d88
theorem dX8_owedAmong_0 : decode cX8_owedAmong 0 = .ok (.aload_n 0, 1) := by decide +kernel
theorem dX8_owedAmong_1 : decode cX8_owedAmong 1 = .ok (.invokevirtual 92, 3) := by decide +kernel
theorem dX8_owedAmong_4 : decode cX8_owedAmong 4 = .ok (.astore_n 3, 1) := by decide +kernel
theorem dX8_owedAmong_5 : decode cX8_owedAmong 5 = .ok (.aload_n 3, 1) := by decide +kernel
theorem dX8_owedAmong_6 : decode cX8_owedAmong 6 = .ok (.getfield 226, 3) := by decide +kernel
theorem dX8_owedAmong_9 : decode cX8_owedAmong 9 = .ok (.aload_n 0, 1) := by decide +kernel
theorem dX8_owedAmong_10 : decode cX8_owedAmong 10 = .ok (.getfield 19, 3) := by decide +kernel
theorem dX8_owedAmong_13 : decode cX8_owedAmong 13 = .ok (.getfield 136, 3) := by decide +kernel
theorem dX8_owedAmong_16 : decode cX8_owedAmong 16 = .ok (.ldc2_w 235, 3) := by decide +kernel
theorem dX8_owedAmong_19 : decode cX8_owedAmong 19 = .ok (.lxor, 1) := by decide +kernel
theorem dX8_owedAmong_20 : decode cX8_owedAmong 20 = .ok (.land, 1) := by decide +kernel
theorem dX8_owedAmong_21 : decode cX8_owedAmong 21 = .ok (.lload_n 1, 1) := by decide +kernel
theorem dX8_owedAmong_22 : decode cX8_owedAmong 22 = .ok (.land, 1) := by decide +kernel
theorem dX8_owedAmong_23 : decode cX8_owedAmong 23 = .ok (.invokestatic 111, 3) := by decide +kernel
theorem dX8_owedAmong_26 : decode cX8_owedAmong 26 = .ok (.istore 4, 2) := by decide +kernel
theorem dX8_owedAmong_28 : decode cX8_owedAmong 28 = .ok (.aload_n 3, 1) := by decide +kernel
theorem dX8_owedAmong_29 : decode cX8_owedAmong 29 = .ok (.getfield 232, 3) := by decide +kernel
theorem dX8_owedAmong_32 : decode cX8_owedAmong 32 = .ok (.aload_n 0, 1) := by decide +kernel
theorem dX8_owedAmong_33 : decode cX8_owedAmong 33 = .ok (.getfield 19, 3) := by decide +kernel
theorem dX8_owedAmong_36 : decode cX8_owedAmong 36 = .ok (.getfield 136, 3) := by decide +kernel
theorem dX8_owedAmong_39 : decode cX8_owedAmong 39 = .ok (.land, 1) := by decide +kernel
theorem dX8_owedAmong_40 : decode cX8_owedAmong 40 = .ok (.lload_n 1, 1) := by decide +kernel
theorem dX8_owedAmong_41 : decode cX8_owedAmong 41 = .ok (.land, 1) := by decide +kernel
theorem dX8_owedAmong_42 : decode cX8_owedAmong 42 = .ok (.invokestatic 111, 3) := by decide +kernel
theorem dX8_owedAmong_45 : decode cX8_owedAmong 45 = .ok (.istore 5, 2) := by decide +kernel
theorem dX8_owedAmong_47 : decode cX8_owedAmong 47 = .ok (.iload 4, 2) := by decide +kernel
theorem dX8_owedAmong_49 : decode cX8_owedAmong 49 = .ok (.iload 5, 2) := by decide +kernel
theorem dX8_owedAmong_51 : decode cX8_owedAmong 51 = .ok (.isub, 1) := by decide +kernel
theorem dX8_owedAmong_52 : decode cX8_owedAmong 52 = .ok (.ireturn, 1) := by decide +kernel
set_option maxRecDepth 20000 in
theorem ggX8_cheapestReturn_X1_houseAt : GoodIn wsX8_cheapestReturn wsX1_houseAt := goodIn_r _ [14] (by decide +kernel) (by decide +kernel)
set_option maxRecDepth 20000 in
theorem gX8_cheapestReturn_X1_houseAt : GoodIn wsX8_cheapestReturn (va_wsS RX8 140 yX1_houseAt wsX1_houseAt) := goodIn_app (goodIn_of _ (by decide +kernel)) ggX8_cheapestReturn_X1_houseAt
set_option maxRecDepth 20000 in
theorem ggX8_cheapestReturn_X1_turned : GoodIn wsX8_cheapestReturn wsX1_turned := goodIn_r _ [17] (by decide +kernel) (by decide +kernel)
set_option maxRecDepth 20000 in
theorem gX8_cheapestReturn_X1_turned : GoodIn wsX8_cheapestReturn (va_wsS RX8 195 yX1_turned wsX1_turned) := goodIn_app (goodIn_of _ (by decide +kernel)) ggX8_cheapestReturn_X1_turned
set_option maxRecDepth 20000 in
theorem ggX8_cheapestReturn_X7_costOf : GoodIn wsX8_cheapestReturn wsX7_costOf := goodIn_r _ [22, 23, 24, 25, 26, 27, 28, 13, 29, 30, 31, 32, 33, 34, 35, 36, 37, 38, 39, 40, 41, 42, 43, 44, 45, 12, 14, 46, 47, 48, 21, 49, 50, 66, 67, 68, 69, 70] (by decide +kernel) (by decide +kernel)
set_option maxRecDepth 20000 in
theorem gX8_cheapestReturn_X7_costOf : GoodIn wsX8_cheapestReturn (wsV RX8 180 RX7 yX7_costOf wsX7_costOf) := goodIn_app (goodIn_of _ (by decide +kernel)) ggX8_cheapestReturn_X7_costOf
theorem dX8_cheapestReturn_0 : decode cX8_cheapestReturn 0 = .ok (.iload_n 1, 1) := by decide +kernel
theorem dX8_cheapestReturn_1 : decode cX8_cheapestReturn 1 = .ok (.bipush 14, 2) := by decide +kernel
theorem dX8_cheapestReturn_3 : decode cX8_cheapestReturn 3 = .ok (.isub, 1) := by decide +kernel
theorem dX8_cheapestReturn_4 : decode cX8_cheapestReturn 4 = .ok (.iconst 0, 1) := by decide +kernel
theorem dX8_cheapestReturn_5 : decode cX8_cheapestReturn 5 = .ok (.invokestatic 262, 3) := by decide +kernel
theorem dX8_cheapestReturn_8 : decode cX8_cheapestReturn 8 = .ok (.istore_n 3, 1) := by decide +kernel
theorem dX8_cheapestReturn_9 : decode cX8_cheapestReturn 9 = .ok (.iload_n 1, 1) := by decide +kernel
theorem dX8_cheapestReturn_10 : decode cX8_cheapestReturn 10 = .ok (.bipush 14, 2) := by decide +kernel
theorem dX8_cheapestReturn_12 : decode cX8_cheapestReturn 12 = .ok (.iadd, 1) := by decide +kernel
theorem dX8_cheapestReturn_13 : decode cX8_cheapestReturn 13 = .ok (.bipush 55, 2) := by decide +kernel
theorem dX8_cheapestReturn_15 : decode cX8_cheapestReturn 15 = .ok (.invokestatic 267, 3) := by decide +kernel
theorem dX8_cheapestReturn_18 : decode cX8_cheapestReturn 18 = .ok (.istore 4, 2) := by decide +kernel
theorem dX8_cheapestReturn_20 : decode cX8_cheapestReturn 20 = .ok (.bipush (-9), 2) := by decide +kernel
theorem dX8_cheapestReturn_22 : decode cX8_cheapestReturn 22 = .ok (.istore 5, 2) := by decide +kernel
theorem dX8_cheapestReturn_24 : decode cX8_cheapestReturn 24 = .ok (.iconst 0, 1) := by decide +kernel
theorem dX8_cheapestReturn_25 : decode cX8_cheapestReturn 25 = .ok (.istore 6, 2) := by decide +kernel
theorem dX8_cheapestReturn_27 : decode cX8_cheapestReturn 27 = .ok (.iload_n 3, 1) := by decide +kernel
theorem dX8_cheapestReturn_28 : decode cX8_cheapestReturn 28 = .ok (.istore 7, 2) := by decide +kernel
theorem dX8_cheapestReturn_30 : decode cX8_cheapestReturn 30 = .ok (.iload 7, 2) := by decide +kernel
theorem dX8_cheapestReturn_32 : decode cX8_cheapestReturn 32 = .ok (.iload 4, 2) := by decide +kernel
theorem dX8_cheapestReturn_34 : decode cX8_cheapestReturn 34 = .ok (.if_icmp .gt 72, 3) := by decide +kernel
theorem dX8_cheapestReturn_37 : decode cX8_cheapestReturn 37 = .ok (.aload_n 0, 1) := by decide +kernel
theorem dX8_cheapestReturn_38 : decode cX8_cheapestReturn 38 = .ok (.getfield 19, 3) := by decide +kernel
theorem dX8_cheapestReturn_41 : decode cX8_cheapestReturn 41 = .ok (.getfield 136, 3) := by decide +kernel
theorem dX8_cheapestReturn_44 : decode cX8_cheapestReturn 44 = .ok (.iload 7, 2) := by decide +kernel
theorem dX8_cheapestReturn_46 : decode cX8_cheapestReturn 46 = .ok (.invokestatic 140, 3) := by decide +kernel
theorem dX8_cheapestReturn_49 : decode cX8_cheapestReturn 49 = .ok (.iload_n 2, 1) := by decide +kernel
theorem dX8_cheapestReturn_50 : decode cX8_cheapestReturn 50 = .ok (.if_icmp .eq 6, 3) := by decide +kernel
theorem dX8_cheapestReturn_53 : decode cX8_cheapestReturn 53 = .ok (.goto 47, 3) := by decide +kernel
theorem dX8_cheapestReturn_56 : decode cX8_cheapestReturn 56 = .ok (.aload_n 0, 1) := by decide +kernel
theorem dX8_cheapestReturn_57 : decode cX8_cheapestReturn 57 = .ok (.getfield 32, 3) := by decide +kernel
theorem dX8_cheapestReturn_60 : decode cX8_cheapestReturn 60 = .ok (.aload_n 0, 1) := by decide +kernel
theorem dX8_cheapestReturn_61 : decode cX8_cheapestReturn 61 = .ok (.getfield 19, 3) := by decide +kernel
theorem dX8_cheapestReturn_64 : decode cX8_cheapestReturn 64 = .ok (.getfield 136, 3) := by decide +kernel
theorem dX8_cheapestReturn_67 : decode cX8_cheapestReturn 67 = .ok (.iload_n 1, 1) := by decide +kernel
theorem dX8_cheapestReturn_68 : decode cX8_cheapestReturn 68 = .ok (.iload 7, 2) := by decide +kernel
theorem dX8_cheapestReturn_70 : decode cX8_cheapestReturn 70 = .ok (.invokestatic 195, 3) := by decide +kernel
theorem dX8_cheapestReturn_73 : decode cX8_cheapestReturn 73 = .ok (.invokevirtual 180, 3) := by decide +kernel
theorem dX8_cheapestReturn_76 : decode cX8_cheapestReturn 76 = .ok (.istore 8, 2) := by decide +kernel
theorem dX8_cheapestReturn_78 : decode cX8_cheapestReturn 78 = .ok (.iload 5, 2) := by decide +kernel
theorem dX8_cheapestReturn_80 : decode cX8_cheapestReturn 80 = .ok (.bipush (-9), 2) := by decide +kernel
theorem dX8_cheapestReturn_82 : decode cX8_cheapestReturn 82 = .ok (.if_icmp .eq 10, 3) := by decide +kernel
theorem dX8_cheapestReturn_85 : decode cX8_cheapestReturn 85 = .ok (.iload 8, 2) := by decide +kernel
theorem dX8_cheapestReturn_87 : decode cX8_cheapestReturn 87 = .ok (.iload 6, 2) := by decide +kernel
theorem dX8_cheapestReturn_89 : decode cX8_cheapestReturn 89 = .ok (.if_icmp .ge 11, 3) := by decide +kernel
theorem dX8_cheapestReturn_92 : decode cX8_cheapestReturn 92 = .ok (.iload 7, 2) := by decide +kernel
theorem dX8_cheapestReturn_94 : decode cX8_cheapestReturn 94 = .ok (.istore 5, 2) := by decide +kernel
theorem dX8_cheapestReturn_96 : decode cX8_cheapestReturn 96 = .ok (.iload 8, 2) := by decide +kernel
theorem dX8_cheapestReturn_98 : decode cX8_cheapestReturn 98 = .ok (.istore 6, 2) := by decide +kernel
theorem dX8_cheapestReturn_100 : decode cX8_cheapestReturn 100 = .ok (.iinc 7 1, 3) := by decide +kernel
theorem dX8_cheapestReturn_103 : decode cX8_cheapestReturn 103 = .ok (.goto (-73), 3) := by decide +kernel
theorem dX8_cheapestReturn_106 : decode cX8_cheapestReturn 106 = .ok (.iload 5, 2) := by decide +kernel
theorem dX8_cheapestReturn_108 : decode cX8_cheapestReturn 108 = .ok (.ireturn, 1) := by decide +kernel
set_option maxRecDepth 20000 in
theorem ggX8_loseNext_X8_readPaper : GoodIn wsX8_loseNext wsX8_readPaper := goodIn_r _ [7, 2, 8, 9, 10, 11, 12, 13, 14, 15, 16, 17, 18, 19, 20, 21, 22, 23, 24, 25, 26, 27, 28, 29, 30, 31, 32, 33, 34, 35, 36, 37, 38, 39, 40, 41, 42, 43, 44, 68, 69, 70, 71, 72, 73, 74, 75, 76, 77, 78, 79, 80, 81, 82, 83, 84, 85, 86, 87, 88, 89, 90, 91] (by decide +kernel) (by decide +kernel)
set_option maxRecDepth 20000 in
theorem gX8_loseNext_X8_readPaper : GoodIn wsX8_loseNext (wsV RX8 92 RX8 yX8_readPaper wsX8_readPaper) := goodIn_app (goodIn_of _ (by decide +kernel)) ggX8_loseNext_X8_readPaper
set_option maxRecDepth 20000 in
theorem ggX8_loseNext_X4_nightsThatAre : GoodIn wsX8_loseNext wsX4_nightsThatAre := goodIn_r _ [37, 26, 27, 38, 28, 33, 89, 90, 91] (by decide +kernel) (by decide +kernel)
set_option maxRecDepth 20000 in
theorem gX8_loseNext_X4_nightsThatAre : GoodIn wsX8_loseNext (wsV RX8 107 RX4 yX4_nightsThatAre wsX4_nightsThatAre) := goodIn_app (goodIn_of _ (by decide +kernel)) ggX8_loseNext_X4_nightsThatAre
set_option maxRecDepth 20000 in
theorem ggX8_loseNext_X1_upTo : GoodIn wsX8_loseNext wsX1_upTo := goodIn_r _ [49, 50] (by decide +kernel) (by decide +kernel)
set_option maxRecDepth 20000 in
theorem gX8_loseNext_X1_upTo : GoodIn wsX8_loseNext (va_wsS RX8 199 yX1_upTo wsX1_upTo) := goodIn_app (goodIn_of _ (by decide +kernel)) ggX8_loseNext_X1_upTo
set_option maxRecDepth 20000 in
theorem ggX8_loseNext_X1_pick : GoodIn wsX8_loseNext wsX1_pick := goodIn_r _ [53, 54, 55, 56, 57, 58, 59, 60] (by decide +kernel) (by decide +kernel)
set_option maxRecDepth 20000 in
theorem gX8_loseNext_X1_pick : GoodIn wsX8_loseNext (va_wsS RX8 117 yX1_pick wsX1_pick) := goodIn_app (goodIn_of _ (by decide +kernel)) ggX8_loseNext_X1_pick
set_option maxRecDepth 20000 in
theorem ggX8_loseNext_X5_place : GoodIn wsX8_loseNext wsX5_place := goodIn_r _ [65, 66, 67, 78, 79, 80, 81, 82] (by decide +kernel) (by decide +kernel)
set_option maxRecDepth 20000 in
theorem gX8_loseNext_X5_place : GoodIn wsX8_loseNext (wsV RX8 143 RX5 yX5_place wsX5_place) := goodIn_app (goodIn_of _ (by decide +kernel)) ggX8_loseNext_X5_place
theorem dX8_loseNext_0 : decode cX8_loseNext 0 = .ok (.aload_n 0, 1) := by decide +kernel
theorem dX8_loseNext_1 : decode cX8_loseNext 1 = .ok (.invokevirtual 92, 3) := by decide +kernel
theorem dX8_loseNext_4 : decode cX8_loseNext 4 = .ok (.astore_n 3, 1) := by decide +kernel
theorem dX8_loseNext_5 : decode cX8_loseNext 5 = .ok (.aload_n 3, 1) := by decide +kernel
theorem dX8_loseNext_6 : decode cX8_loseNext 6 = .ok (.iload_n 1, 1) := by decide +kernel
theorem dX8_loseNext_7 : decode cX8_loseNext 7 = .ok (.invokevirtual 107, 3) := by decide +kernel
theorem dX8_loseNext_10 : decode cX8_loseNext 10 = .ok (.iload_n 2, 1) := by decide +kernel
theorem dX8_loseNext_11 : decode cX8_loseNext 11 = .ok (.invokestatic 199, 3) := by decide +kernel
theorem dX8_loseNext_14 : decode cX8_loseNext 14 = .ok (.ldc2_w 235, 3) := by decide +kernel
theorem dX8_loseNext_17 : decode cX8_loseNext 17 = .ok (.lxor, 1) := by decide +kernel
theorem dX8_loseNext_18 : decode cX8_loseNext 18 = .ok (.land, 1) := by decide +kernel
theorem dX8_loseNext_19 : decode cX8_loseNext 19 = .ok (.lstore 4, 2) := by decide +kernel
theorem dX8_loseNext_21 : decode cX8_loseNext 21 = .ok (.lload 4, 2) := by decide +kernel
theorem dX8_loseNext_23 : decode cX8_loseNext 23 = .ok (.iconst 0, 1) := by decide +kernel
theorem dX8_loseNext_24 : decode cX8_loseNext 24 = .ok (.invokestatic 117, 3) := by decide +kernel
theorem dX8_loseNext_27 : decode cX8_loseNext 27 = .ok (.istore 6, 2) := by decide +kernel
theorem dX8_loseNext_29 : decode cX8_loseNext 29 = .ok (.iload 6, 2) := by decide +kernel
theorem dX8_loseNext_31 : decode cX8_loseNext 31 = .ok (.bipush (-9), 2) := by decide +kernel
theorem dX8_loseNext_33 : decode cX8_loseNext 33 = .ok (.if_icmp .eq 15, 3) := by decide +kernel
theorem dX8_loseNext_36 : decode cX8_loseNext 36 = .ok (.aload_n 0, 1) := by decide +kernel
theorem dX8_loseNext_37 : decode cX8_loseNext 37 = .ok (.getfield 19, 3) := by decide +kernel
theorem dX8_loseNext_40 : decode cX8_loseNext 40 = .ok (.iload 6, 2) := by decide +kernel
theorem dX8_loseNext_42 : decode cX8_loseNext 42 = .ok (.iconst 1, 1) := by decide +kernel
theorem dX8_loseNext_43 : decode cX8_loseNext 43 = .ok (.iload_n 1, 1) := by decide +kernel
theorem dX8_loseNext_44 : decode cX8_loseNext 44 = .ok (.isub, 1) := by decide +kernel
theorem dX8_loseNext_45 : decode cX8_loseNext 45 = .ok (.invokevirtual 143, 3) := by decide +kernel
theorem dX8_loseNext_48 : decode cX8_loseNext 48 = .ok (.iload 6, 2) := by decide +kernel
theorem dX8_loseNext_50 : decode cX8_loseNext 50 = .ok (.ireturn, 1) := by decide +kernel
theorem dX8_barredFromOne_0 : decode cX8_barredFromOne 0 = .ok (.iload_n 0, 1) := by decide +kernel
theorem dX8_barredFromOne_1 : decode cX8_barredFromOne 1 = .ok (.bipush 45, 2) := by decide +kernel
theorem dX8_barredFromOne_3 : decode cX8_barredFromOne 3 = .ok (.if_icmp .le 9, 3) := by decide +kernel
theorem dX8_barredFromOne_6 : decode cX8_barredFromOne 6 = .ok (.ldc2_w 270, 3) := by decide +kernel
theorem dX8_barredFromOne_9 : decode cX8_barredFromOne 9 = .ok (.goto 4, 3) := by decide +kernel
theorem dX8_barredFromOne_12 : decode cX8_barredFromOne 12 = .ok (.lconst 0, 1) := by decide +kernel
theorem dX8_barredFromOne_13 : decode cX8_barredFromOne 13 = .ok (.lreturn, 1) := by decide +kernel
set_option maxRecDepth 20000 in
theorem ggX8_zeroMoreThanOne_X2_readTo : GoodIn wsX8_zeroMoreThanOne wsX2_readTo := goodIn_r _ [10, 11, 12, 13, 14, 15, 16, 17, 18, 19, 20, 21, 22, 23, 24, 25, 26, 27, 28, 29, 30, 31, 32, 33, 34, 35, 36, 9, 37, 38, 39, 65, 66, 67, 68, 69, 70, 62, 63, 64] (by decide +kernel) (by decide +kernel)
set_option maxRecDepth 20000 in
theorem gX8_zeroMoreThanOne_X2_readTo : GoodIn wsX8_zeroMoreThanOne (wsV RX8 251 RX2 yX2_readTo wsX2_readTo) := goodIn_app (goodIn_of _ (by decide +kernel)) ggX8_zeroMoreThanOne_X2_readTo
set_option maxRecDepth 20000 in
theorem ggX8_zeroMoreThanOne_J13_bitCount_95d88 : GoodIn wsX8_zeroMoreThanOne wsJ13_bitCount_95d88 := goodIn_r _ [43, 44, 45, 46] (by decide +kernel) (by decide +kernel)
set_option maxRecDepth 20000 in
theorem gX8_zeroMoreThanOne_J13_bitCount_95d88 : GoodIn wsX8_zeroMoreThanOne (va_wsS RX8 111 yJ13_bitCount_95d88 wsJ13_bitCount_95d88) := goodIn_app (goodIn_of _ (by decide +kernel)) ggX8_zeroMoreThanOne_J13_bitCount_95d88
theorem dX8_zeroMoreThanOne_0 : decode cX8_zeroMoreThanOne 0 = .ok (.aload_n 0, 1) := by decide +kernel
theorem dX8_zeroMoreThanOne_1 : decode cX8_zeroMoreThanOne 1 = .ok (.getfield 19, 3) := by decide +kernel
theorem dX8_zeroMoreThanOne_4 : decode cX8_zeroMoreThanOne 4 = .ok (.getfield 75, 3) := by decide +kernel
theorem dX8_zeroMoreThanOne_7 : decode cX8_zeroMoreThanOne 7 = .ok (.aload_n 0, 1) := by decide +kernel
theorem dX8_zeroMoreThanOne_8 : decode cX8_zeroMoreThanOne 8 = .ok (.getfield 57, 3) := by decide +kernel
theorem dX8_zeroMoreThanOne_11 : decode cX8_zeroMoreThanOne 11 = .ok (.iload_n 1, 1) := by decide +kernel
theorem dX8_zeroMoreThanOne_12 : decode cX8_zeroMoreThanOne 12 = .ok (.iconst 0, 1) := by decide +kernel
theorem dX8_zeroMoreThanOne_13 : decode cX8_zeroMoreThanOne 13 = .ok (.invokevirtual 251, 3) := by decide +kernel
theorem dX8_zeroMoreThanOne_16 : decode cX8_zeroMoreThanOne 16 = .ok (.aload_n 0, 1) := by decide +kernel
theorem dX8_zeroMoreThanOne_17 : decode cX8_zeroMoreThanOne 17 = .ok (.getfield 57, 3) := by decide +kernel
theorem dX8_zeroMoreThanOne_20 : decode cX8_zeroMoreThanOne 20 = .ok (.getfield 232, 3) := by decide +kernel
theorem dX8_zeroMoreThanOne_23 : decode cX8_zeroMoreThanOne 23 = .ok (.invokestatic 111, 3) := by decide +kernel
theorem dX8_zeroMoreThanOne_26 : decode cX8_zeroMoreThanOne 26 = .ok (.aload_n 0, 1) := by decide +kernel
theorem dX8_zeroMoreThanOne_27 : decode cX8_zeroMoreThanOne 27 = .ok (.getfield 57, 3) := by decide +kernel
theorem dX8_zeroMoreThanOne_30 : decode cX8_zeroMoreThanOne 30 = .ok (.getfield 226, 3) := by decide +kernel
theorem dX8_zeroMoreThanOne_33 : decode cX8_zeroMoreThanOne 33 = .ok (.invokestatic 111, 3) := by decide +kernel
theorem dX8_zeroMoreThanOne_36 : decode cX8_zeroMoreThanOne 36 = .ok (.isub, 1) := by decide +kernel
theorem dX8_zeroMoreThanOne_37 : decode cX8_zeroMoreThanOne 37 = .ok (.ireturn, 1) := by decide +kernel
theorem dX9_init_0 : decode cX9_init 0 = .ok (.aload_n 0, 1) := by decide +kernel
theorem dX9_init_1 : decode cX9_init 1 = .ok (.invokespecial 1, 3) := by decide +kernel
theorem dX9_init_4 : decode cX9_init 4 = .ok (.aload_n 0, 1) := by decide +kernel
theorem dX9_init_5 : decode cX9_init 5 = .ok (.bipush 60, 2) := by decide +kernel
theorem dX9_init_7 : decode cX9_init 7 = .ok (.newarray .int, 2) := by decide +kernel
theorem dX9_init_9 : decode cX9_init 9 = .ok (.putfield 7, 3) := by decide +kernel
theorem dX9_init_12 : decode cX9_init 12 = .ok (.aload_n 0, 1) := by decide +kernel
theorem dX9_init_13 : decode cX9_init 13 = .ok (.sipush 180, 3) := by decide +kernel
theorem dX9_init_16 : decode cX9_init 16 = .ok (.newarray .int, 2) := by decide +kernel
theorem dX9_init_18 : decode cX9_init 18 = .ok (.putfield 13, 3) := by decide +kernel
theorem dX9_init_21 : decode cX9_init 21 = .ok (.aload_n 0, 1) := by decide +kernel
theorem dX9_init_22 : decode cX9_init 22 = .ok (.iconst 3, 1) := by decide +kernel
theorem dX9_init_23 : decode cX9_init 23 = .ok (.newarray .int, 2) := by decide +kernel
theorem dX9_init_25 : decode cX9_init 25 = .ok (.putfield 16, 3) := by decide +kernel
theorem dX9_init_28 : decode cX9_init 28 = .ok (.aload_n 0, 1) := by decide +kernel
theorem dX9_init_29 : decode cX9_init 29 = .ok (.bipush 64, 2) := by decide +kernel
theorem dX9_init_31 : decode cX9_init 31 = .ok (.newarray .int, 2) := by decide +kernel
theorem dX9_init_33 : decode cX9_init 33 = .ok (.putfield 19, 3) := by decide +kernel
theorem dX9_init_36 : decode cX9_init 36 = .ok (.aload_n 0, 1) := by decide +kernel
theorem dX9_init_37 : decode cX9_init 37 = .ok (.bipush 56, 2) := by decide +kernel
theorem dX9_init_39 : decode cX9_init 39 = .ok (.newarray .int, 2) := by decide +kernel
theorem dX9_init_41 : decode cX9_init 41 = .ok (.putfield 22, 3) := by decide +kernel
theorem dX9_init_44 : decode cX9_init 44 = .ok (.aload_n 0, 1) := by decide +kernel
theorem dX9_init_45 : decode cX9_init 45 = .ok (.bipush 56, 2) := by decide +kernel
theorem dX9_init_47 : decode cX9_init 47 = .ok (.newarray .int, 2) := by decide +kernel
theorem dX9_init_49 : decode cX9_init 49 = .ok (.putfield 25, 3) := by decide +kernel
theorem dX9_init_52 : decode cX9_init 52 = .ok (.aload_n 0, 1) := by decide +kernel
theorem dX9_init_53 : decode cX9_init 53 = .ok (.bipush 12, 2) := by decide +kernel
theorem dX9_init_55 : decode cX9_init 55 = .ok (.newarray .int, 2) := by decide +kernel
theorem dX9_init_57 : decode cX9_init 57 = .ok (.putfield 28, 3) := by decide +kernel
theorem dX9_init_60 : decode cX9_init 60 = .ok (.aload_n 0, 1) := by decide +kernel
theorem dX9_init_61 : decode cX9_init 61 = .ok (.bipush 12, 2) := by decide +kernel
theorem dX9_init_63 : decode cX9_init 63 = .ok (.newarray .int, 2) := by decide +kernel
theorem dX9_init_65 : decode cX9_init 65 = .ok (.putfield 31, 3) := by decide +kernel
theorem dX9_init_68 : decode cX9_init 68 = .ok (.aload_n 0, 1) := by decide +kernel
theorem dX9_init_69 : decode cX9_init 69 = .ok (.bipush 12, 2) := by decide +kernel
theorem dX9_init_71 : decode cX9_init 71 = .ok (.newarray .int, 2) := by decide +kernel
theorem dX9_init_73 : decode cX9_init 73 = .ok (.putfield 34, 3) := by decide +kernel
theorem dX9_init_76 : decode cX9_init 76 = .ok (.aload_n 0, 1) := by decide +kernel
theorem dX9_init_77 : decode cX9_init 77 = .ok (.sipush 1824, 3) := by decide +kernel
theorem dX9_init_80 : decode cX9_init 80 = .ok (.newarray .int, 2) := by decide +kernel
theorem dX9_init_82 : decode cX9_init 82 = .ok (.putfield 37, 3) := by decide +kernel
theorem dX9_init_85 : decode cX9_init 85 = .ok (.aload_n 0, 1) := by decide +kernel
theorem dX9_init_86 : decode cX9_init 86 = .ok (.bipush 56, 2) := by decide +kernel
theorem dX9_init_88 : decode cX9_init 88 = .ok (.newarray .int, 2) := by decide +kernel
theorem dX9_init_90 : decode cX9_init 90 = .ok (.putfield 40, 3) := by decide +kernel
theorem dX9_init_93 : decode cX9_init 93 = .ok (.aload_n 0, 1) := by decide +kernel
theorem dX9_init_94 : decode cX9_init 94 = .ok (.iconst 2, 1) := by decide +kernel
theorem dX9_init_95 : decode cX9_init 95 = .ok (.newarray .int, 2) := by decide +kernel
theorem dX9_init_97 : decode cX9_init 97 = .ok (.putfield 43, 3) := by decide +kernel
theorem dX9_init_100 : decode cX9_init 100 = .ok (.aload_n 0, 1) := by decide +kernel
theorem dX9_init_101 : decode cX9_init 101 = .ok (.iconst 2, 1) := by decide +kernel
theorem dX9_init_102 : decode cX9_init 102 = .ok (.newarray .int, 2) := by decide +kernel
theorem dX9_init_104 : decode cX9_init 104 = .ok (.putfield 46, 3) := by decide +kernel
theorem dX9_init_107 : decode cX9_init 107 = .ok (.aload_n 0, 1) := by decide +kernel
theorem dX9_init_108 : decode cX9_init 108 = .ok (.iconst 2, 1) := by decide +kernel
theorem dX9_init_109 : decode cX9_init 109 = .ok (.newarray .boolean, 2) := by decide +kernel
theorem dX9_init_111 : decode cX9_init 111 = .ok (.putfield 49, 3) := by decide +kernel
theorem dX9_init_114 : decode cX9_init 114 = .ok (.aload_n 0, 1) := by decide +kernel
theorem dX9_init_115 : decode cX9_init 115 = .ok (.bipush 112, 2) := by decide +kernel
theorem dX9_init_117 : decode cX9_init 117 = .ok (.newarray .int, 2) := by decide +kernel
theorem dX9_init_119 : decode cX9_init 119 = .ok (.putfield 53, 3) := by decide +kernel
theorem dX9_init_122 : decode cX9_init 122 = .ok (.aload_n 0, 1) := by decide +kernel
theorem dX9_init_123 : decode cX9_init 123 = .ok (.iconst 4, 1) := by decide +kernel
theorem dX9_init_124 : decode cX9_init 124 = .ok (.newarray .int, 2) := by decide +kernel
theorem dX9_init_126 : decode cX9_init 126 = .ok (.putfield 56, 3) := by decide +kernel
theorem dX9_init_129 : decode cX9_init 129 = .ok (.aload_n 0, 1) := by decide +kernel
theorem dX9_init_130 : decode cX9_init 130 = .ok (.iconst 4, 1) := by decide +kernel
theorem dX9_init_131 : decode cX9_init 131 = .ok (.newarray .int, 2) := by decide +kernel
theorem dX9_init_133 : decode cX9_init 133 = .ok (.putfield 59, 3) := by decide +kernel
theorem dX9_init_136 : decode cX9_init 136 = .ok (.aload_n 0, 1) := by decide +kernel
theorem dX9_init_137 : decode cX9_init 137 = .ok (.iconst 5, 1) := by decide +kernel
theorem dX9_init_138 : decode cX9_init 138 = .ok (.putfield 62, 3) := by decide +kernel
theorem dX9_init_141 : decode cX9_init 141 = .ok (.aload_n 0, 1) := by decide +kernel
theorem dX9_init_142 : decode cX9_init 142 = .ok (.iconst 1, 1) := by decide +kernel
theorem dX9_init_143 : decode cX9_init 143 = .ok (.putfield 66, 3) := by decide +kernel
theorem dX9_init_146 : decode cX9_init 146 = .ok (.aload_n 0, 1) := by decide +kernel
theorem dX9_init_147 : decode cX9_init 147 = .ok (.iconst 1, 1) := by decide +kernel
theorem dX9_init_148 : decode cX9_init 148 = .ok (.putfield 69, 3) := by decide +kernel
theorem dX9_init_151 : decode cX9_init 151 = .ok (.aload_n 0, 1) := by decide +kernel
theorem dX9_init_152 : decode cX9_init 152 = .ok (.iconst 1, 1) := by decide +kernel
theorem dX9_init_153 : decode cX9_init 153 = .ok (.putfield 72, 3) := by decide +kernel
theorem dX9_init_156 : decode cX9_init 156 = .ok (.return_, 1) := by decide +kernel
theorem dX9_in_0 : decode cX9_in 0 = .ok (.lload_n 0, 1) := by decide +kernel
theorem dX9_in_1 : decode cX9_in 1 = .ok (.lload_n 2, 1) := by decide +kernel
theorem dX9_in_2 : decode cX9_in 2 = .ok (.lcmp, 1) := by decide +kernel
theorem dX9_in_3 : decode cX9_in 3 = .ok (.ifCond .lt 14, 3) := by decide +kernel
theorem dX9_in_6 : decode cX9_in 6 = .ok (.lload_n 0, 1) := by decide +kernel
theorem dX9_in_7 : decode cX9_in 7 = .ok (.lload 4, 2) := by decide +kernel
theorem dX9_in_9 : decode cX9_in 9 = .ok (.lcmp, 1) := by decide +kernel
theorem dX9_in_10 : decode cX9_in 10 = .ok (.ifCond .gt 7, 3) := by decide +kernel
theorem dX9_in_13 : decode cX9_in 13 = .ok (.iconst 1, 1) := by decide +kernel
theorem dX9_in_14 : decode cX9_in 14 = .ok (.goto 4, 3) := by decide +kernel
theorem dX9_in_17 : decode cX9_in 17 = .ok (.iconst 0, 1) := by decide +kernel
theorem dX9_in_18 : decode cX9_in 18 = .ok (.ireturn, 1) := by decide +kernel
set_option maxRecDepth 20000 in
theorem ggX9_write_X9_in : GoodIn wsX9_write wsX9_in := goodIn_r _ [8] (by decide +kernel) (by decide +kernel)
set_option maxRecDepth 20000 in
theorem gX9_write_X9_in : GoodIn wsX9_write (va_wsS RX9 77 yX9_in wsX9_in) := goodIn_app (goodIn_of _ (by decide +kernel)) ggX9_write_X9_in
theorem dX9_write_0 : decode cX9_write 0 = .ok (.iload_n 1, 1) := by decide +kernel
theorem dX9_write_1 : decode cX9_write 1 = .ok (.i2l, 1) := by decide +kernel
theorem dX9_write_2 : decode cX9_write 2 = .ok (.lconst 1, 1) := by decide +kernel
theorem dX9_write_3 : decode cX9_write 3 = .ok (.ldc2_w 75, 3) := by decide +kernel
theorem dX9_write_6 : decode cX9_write 6 = .ok (.invokestatic 77, 3) := by decide +kernel
theorem dX9_write_9 : decode cX9_write 9 = .ok (.ifCond .ne 6, 3) := by decide +kernel
theorem dX9_write_12 : decode cX9_write 12 = .ok (.bipush (-2), 2) := by decide +kernel
theorem dX9_write_14 : decode cX9_write 14 = .ok (.ireturn, 1) := by decide +kernel
theorem dX9_write_15 : decode cX9_write 15 = .ok (.aload_n 0, 1) := by decide +kernel
theorem dX9_write_16 : decode cX9_write 16 = .ok (.getfield 81, 3) := by decide +kernel
theorem dX9_write_19 : decode cX9_write 19 = .ok (.iload_n 1, 1) := by decide +kernel
theorem dX9_write_20 : decode cX9_write 20 = .ok (.iadd, 1) := by decide +kernel
theorem dX9_write_21 : decode cX9_write 21 = .ok (.bipush 64, 2) := by decide +kernel
theorem dX9_write_23 : decode cX9_write 23 = .ok (.if_icmp .le 6, 3) := by decide +kernel
theorem dX9_write_26 : decode cX9_write 26 = .ok (.bipush (-4), 2) := by decide +kernel
theorem dX9_write_28 : decode cX9_write 28 = .ok (.ireturn, 1) := by decide +kernel
theorem dX9_write_29 : decode cX9_write 29 = .ok (.iload_n 1, 1) := by decide +kernel
theorem dX9_write_30 : decode cX9_write 30 = .ok (.iconst 1, 1) := by decide +kernel
theorem dX9_write_31 : decode cX9_write 31 = .ok (.isub, 1) := by decide +kernel
theorem dX9_write_32 : decode cX9_write 32 = .ok (.istore 4, 2) := by decide +kernel
theorem dX9_write_34 : decode cX9_write 34 = .ok (.iload 4, 2) := by decide +kernel
theorem dX9_write_36 : decode cX9_write 36 = .ok (.ifCond .lt 40, 3) := by decide +kernel
theorem dX9_write_39 : decode cX9_write 39 = .ok (.aload_n 0, 1) := by decide +kernel
theorem dX9_write_40 : decode cX9_write 40 = .ok (.getfield 19, 3) := by decide +kernel
theorem dX9_write_43 : decode cX9_write 43 = .ok (.aload_n 0, 1) := by decide +kernel
theorem dX9_write_44 : decode cX9_write 44 = .ok (.getfield 81, 3) := by decide +kernel
theorem dX9_write_47 : decode cX9_write 47 = .ok (.lload_n 2, 1) := by decide +kernel
theorem dX9_write_48 : decode cX9_write 48 = .ok (.bipush 8, 2) := by decide +kernel
theorem dX9_write_50 : decode cX9_write 50 = .ok (.iload 4, 2) := by decide +kernel
theorem dX9_write_52 : decode cX9_write 52 = .ok (.imul, 1) := by decide +kernel
theorem dX9_write_53 : decode cX9_write 53 = .ok (.lshr, 1) := by decide +kernel
theorem dX9_write_54 : decode cX9_write 54 = .ok (.ldc2_w 84, 3) := by decide +kernel
theorem dX9_write_57 : decode cX9_write 57 = .ok (.land, 1) := by decide +kernel
theorem dX9_write_58 : decode cX9_write 58 = .ok (.l2i, 1) := by decide +kernel
theorem dX9_write_59 : decode cX9_write 59 = .ok (.iastore, 1) := by decide +kernel
theorem dX9_write_60 : decode cX9_write 60 = .ok (.aload_n 0, 1) := by decide +kernel
theorem dX9_write_61 : decode cX9_write 61 = .ok (.dup, 1) := by decide +kernel
theorem dX9_write_62 : decode cX9_write 62 = .ok (.getfield 81, 3) := by decide +kernel
theorem dX9_write_65 : decode cX9_write 65 = .ok (.iconst 1, 1) := by decide +kernel
theorem dX9_write_66 : decode cX9_write 66 = .ok (.iadd, 1) := by decide +kernel
theorem dX9_write_67 : decode cX9_write 67 = .ok (.putfield 81, 3) := by decide +kernel
theorem dX9_write_70 : decode cX9_write 70 = .ok (.iinc 4 (-1), 3) := by decide +kernel
theorem dX9_write_73 : decode cX9_write 73 = .ok (.goto (-39), 3) := by decide +kernel
theorem dX9_write_76 : decode cX9_write 76 = .ok (.aload_n 0, 1) := by decide +kernel
theorem dX9_write_77 : decode cX9_write 77 = .ok (.getfield 81, 3) := by decide +kernel
theorem dX9_write_80 : decode cX9_write 80 = .ok (.ireturn, 1) := by decide +kernel
theorem dX9_wipe_0 : decode cX9_wipe 0 = .ok (.aload_n 0, 1) := by decide +kernel
theorem dX9_wipe_1 : decode cX9_wipe 1 = .ok (.getfield 81, 3) := by decide +kernel
theorem dX9_wipe_4 : decode cX9_wipe 4 = .ok (.istore_n 1, 1) := by decide +kernel
theorem dX9_wipe_5 : decode cX9_wipe 5 = .ok (.aload_n 0, 1) := by decide +kernel
theorem dX9_wipe_6 : decode cX9_wipe 6 = .ok (.iconst 0, 1) := by decide +kernel
theorem dX9_wipe_7 : decode cX9_wipe 7 = .ok (.putfield 81, 3) := by decide +kernel
theorem dX9_wipe_10 : decode cX9_wipe 10 = .ok (.iload_n 1, 1) := by decide +kernel
theorem dX9_wipe_11 : decode cX9_wipe 11 = .ok (.ireturn, 1) := by decide +kernel
theorem dX9_fail_0 : decode cX9_fail 0 = .ok (.aload_n 0, 1) := by decide +kernel
theorem dX9_fail_1 : decode cX9_fail 1 = .ok (.aload_n 0, 1) := by decide +kernel
theorem dX9_fail_2 : decode cX9_fail 2 = .ok (.getfield 86, 3) := by decide +kernel
theorem dX9_fail_5 : decode cX9_fail 5 = .ok (.bipush (-9), 2) := by decide +kernel
theorem dX9_fail_7 : decode cX9_fail 7 = .ok (.if_icmp .ne 10, 3) := by decide +kernel
theorem dX9_fail_10 : decode cX9_fail 10 = .ok (.aload_n 0, 1) := by decide +kernel
theorem dX9_fail_11 : decode cX9_fail 11 = .ok (.getfield 89, 3) := by decide +kernel
theorem dX9_fail_14 : decode cX9_fail 14 = .ok (.goto 7, 3) := by decide +kernel
theorem dX9_fail_17 : decode cX9_fail 17 = .ok (.aload_n 0, 1) := by decide +kernel
theorem dX9_fail_18 : decode cX9_fail 18 = .ok (.getfield 86, 3) := by decide +kernel
theorem dX9_fail_21 : decode cX9_fail 21 = .ok (.putfield 86, 3) := by decide +kernel
theorem dX9_fail_24 : decode cX9_fail 24 = .ok (.return_, 1) := by decide +kernel
set_option maxRecDepth 20000 in
theorem ggX9_figure_X9_in : GoodIn wsX9_figure wsX9_in := goodIn_r _ [8] (by decide +kernel) (by decide +kernel)
set_option maxRecDepth 20000 in
theorem gX9_figure_X9_in : GoodIn wsX9_figure (va_wsS RX9 77 yX9_in wsX9_in) := goodIn_app (goodIn_of _ (by decide +kernel)) ggX9_figure_X9_in
set_option maxRecDepth 20000 in
theorem ggX9_figure_X9_fail : GoodIn wsX9_figure wsX9_fail := goodIn_r _ [12, 1, 2, 13, 14, 15, 16, 17, 18, 19, 20, 21, 22, 23, 24, 25, 26, 27, 28, 29, 30, 31, 32, 33, 34, 35, 36, 37, 38, 39, 40] (by decide +kernel) (by decide +kernel)
set_option maxRecDepth 20000 in
theorem gX9_figure_X9_fail : GoodIn wsX9_figure (wsV RX9 92 RX9 yX9_fail wsX9_fail) := goodIn_app (goodIn_of _ (by decide +kernel)) ggX9_figure_X9_fail
theorem dX9_figure_0 : decode cX9_figure 0 = .ok (.aload_n 0, 1) := by decide +kernel
theorem dX9_figure_1 : decode cX9_figure 1 = .ok (.getfield 86, 3) := by decide +kernel
theorem dX9_figure_4 : decode cX9_figure 4 = .ok (.bipush (-9), 2) := by decide +kernel
theorem dX9_figure_6 : decode cX9_figure 6 = .ok (.if_icmp .ne 29, 3) := by decide +kernel
theorem dX9_figure_9 : decode cX9_figure 9 = .ok (.aload_n 0, 1) := by decide +kernel
theorem dX9_figure_10 : decode cX9_figure 10 = .ok (.getfield 89, 3) := by decide +kernel
theorem dX9_figure_13 : decode cX9_figure 13 = .ok (.aload_n 0, 1) := by decide +kernel
theorem dX9_figure_14 : decode cX9_figure 14 = .ok (.getfield 81, 3) := by decide +kernel
theorem dX9_figure_17 : decode cX9_figure 17 = .ok (.if_icmp .ge 18, 3) := by decide +kernel
theorem dX9_figure_20 : decode cX9_figure 20 = .ok (.aload_n 0, 1) := by decide +kernel
theorem dX9_figure_21 : decode cX9_figure 21 = .ok (.getfield 19, 3) := by decide +kernel
theorem dX9_figure_24 : decode cX9_figure 24 = .ok (.aload_n 0, 1) := by decide +kernel
theorem dX9_figure_25 : decode cX9_figure 25 = .ok (.getfield 89, 3) := by decide +kernel
theorem dX9_figure_28 : decode cX9_figure 28 = .ok (.iaload, 1) := by decide +kernel
theorem dX9_figure_29 : decode cX9_figure 29 = .ok (.bipush 48, 2) := by decide +kernel
theorem dX9_figure_31 : decode cX9_figure 31 = .ok (.isub, 1) := by decide +kernel
theorem dX9_figure_32 : decode cX9_figure 32 = .ok (.goto 4, 3) := by decide +kernel
theorem dX9_figure_35 : decode cX9_figure 35 = .ok (.iconst (-1), 1) := by decide +kernel
theorem dX9_figure_36 : decode cX9_figure 36 = .ok (.istore_n 3, 1) := by decide +kernel
theorem dX9_figure_37 : decode cX9_figure 37 = .ok (.iload_n 3, 1) := by decide +kernel
theorem dX9_figure_38 : decode cX9_figure 38 = .ok (.i2l, 1) := by decide +kernel
theorem dX9_figure_39 : decode cX9_figure 39 = .ok (.iload_n 1, 1) := by decide +kernel
theorem dX9_figure_40 : decode cX9_figure 40 = .ok (.i2l, 1) := by decide +kernel
theorem dX9_figure_41 : decode cX9_figure 41 = .ok (.iload_n 2, 1) := by decide +kernel
theorem dX9_figure_42 : decode cX9_figure 42 = .ok (.i2l, 1) := by decide +kernel
theorem dX9_figure_43 : decode cX9_figure 43 = .ok (.invokestatic 77, 3) := by decide +kernel
theorem dX9_figure_46 : decode cX9_figure 46 = .ok (.ifCond .ne 9, 3) := by decide +kernel
theorem dX9_figure_49 : decode cX9_figure 49 = .ok (.aload_n 0, 1) := by decide +kernel
theorem dX9_figure_50 : decode cX9_figure 50 = .ok (.invokevirtual 92, 3) := by decide +kernel
theorem dX9_figure_53 : decode cX9_figure 53 = .ok (.iload_n 1, 1) := by decide +kernel
theorem dX9_figure_54 : decode cX9_figure 54 = .ok (.ireturn, 1) := by decide +kernel
theorem dX9_figure_55 : decode cX9_figure 55 = .ok (.aload_n 0, 1) := by decide +kernel
theorem dX9_figure_56 : decode cX9_figure 56 = .ok (.dup, 1) := by decide +kernel
theorem dX9_figure_57 : decode cX9_figure 57 = .ok (.getfield 89, 3) := by decide +kernel
theorem dX9_figure_60 : decode cX9_figure 60 = .ok (.iconst 1, 1) := by decide +kernel
theorem dX9_figure_61 : decode cX9_figure 61 = .ok (.iadd, 1) := by decide +kernel
theorem dX9_figure_62 : decode cX9_figure 62 = .ok (.putfield 89, 3) := by decide +kernel
theorem dX9_figure_65 : decode cX9_figure 65 = .ok (.iload_n 3, 1) := by decide +kernel
theorem dX9_figure_66 : decode cX9_figure 66 = .ok (.ireturn, 1) := by decide +kernel
set_option maxRecDepth 20000 in
theorem ggX9_readNight_X9_figure : GoodIn wsX9_readNight wsX9_figure := goodIn_r _ [5, 6, 7, 8, 9, 10, 11, 4, 12, 13, 14, 15, 16, 17, 18, 19, 20, 21, 22, 23, 24, 25, 26, 27, 28, 29, 30, 31, 32, 33, 34, 35, 36, 37, 38, 39, 40, 41, 42, 43, 44] (by decide +kernel) (by decide +kernel)
set_option maxRecDepth 20000 in
theorem gX9_readNight_X9_figure : GoodIn wsX9_readNight (wsV RX9 95 RX9 yX9_figure wsX9_figure) := goodIn_app (goodIn_of _ (by decide +kernel)) ggX9_readNight_X9_figure
theorem dX9_readNight_0 : decode cX9_readNight 0 = .ok (.aload_n 0, 1) := by decide +kernel
theorem dX9_readNight_1 : decode cX9_readNight 1 = .ok (.iload_n 1, 1) := by decide +kernel
theorem dX9_readNight_2 : decode cX9_readNight 2 = .ok (.bipush 10, 2) := by decide +kernel
theorem dX9_readNight_4 : decode cX9_readNight 4 = .ok (.idiv, 1) := by decide +kernel
theorem dX9_readNight_5 : decode cX9_readNight 5 = .ok (.iconst 5, 1) := by decide +kernel
theorem dX9_readNight_6 : decode cX9_readNight 6 = .ok (.invokevirtual 95, 3) := by decide +kernel
theorem dX9_readNight_9 : decode cX9_readNight 9 = .ok (.istore_n 2, 1) := by decide +kernel
theorem dX9_readNight_10 : decode cX9_readNight 10 = .ok (.iload_n 2, 1) := by decide +kernel
theorem dX9_readNight_11 : decode cX9_readNight 11 = .ok (.iload_n 1, 1) := by decide +kernel
theorem dX9_readNight_12 : decode cX9_readNight 12 = .ok (.bipush 10, 2) := by decide +kernel
theorem dX9_readNight_14 : decode cX9_readNight 14 = .ok (.idiv, 1) := by decide +kernel
theorem dX9_readNight_15 : decode cX9_readNight 15 = .ok (.if_icmp .ne 10, 3) := by decide +kernel
theorem dX9_readNight_18 : decode cX9_readNight 18 = .ok (.iload_n 1, 1) := by decide +kernel
theorem dX9_readNight_19 : decode cX9_readNight 19 = .ok (.bipush 10, 2) := by decide +kernel
theorem dX9_readNight_21 : decode cX9_readNight 21 = .ok (.irem, 1) := by decide +kernel
theorem dX9_readNight_22 : decode cX9_readNight 22 = .ok (.goto 4, 3) := by decide +kernel
theorem dX9_readNight_25 : decode cX9_readNight 25 = .ok (.iconst 0, 1) := by decide +kernel
theorem dX9_readNight_26 : decode cX9_readNight 26 = .ok (.istore_n 3, 1) := by decide +kernel
theorem dX9_readNight_27 : decode cX9_readNight 27 = .ok (.bipush 10, 2) := by decide +kernel
theorem dX9_readNight_29 : decode cX9_readNight 29 = .ok (.iload_n 2, 1) := by decide +kernel
theorem dX9_readNight_30 : decode cX9_readNight 30 = .ok (.imul, 1) := by decide +kernel
theorem dX9_readNight_31 : decode cX9_readNight 31 = .ok (.aload_n 0, 1) := by decide +kernel
theorem dX9_readNight_32 : decode cX9_readNight 32 = .ok (.iload_n 3, 1) := by decide +kernel
theorem dX9_readNight_33 : decode cX9_readNight 33 = .ok (.iload_n 2, 1) := by decide +kernel
theorem dX9_readNight_34 : decode cX9_readNight 34 = .ok (.iconst 5, 1) := by decide +kernel
theorem dX9_readNight_35 : decode cX9_readNight 35 = .ok (.if_icmp .ne 7, 3) := by decide +kernel
theorem dX9_readNight_38 : decode cX9_readNight 38 = .ok (.iconst 5, 1) := by decide +kernel
theorem dX9_readNight_39 : decode cX9_readNight 39 = .ok (.goto 5, 3) := by decide +kernel
theorem dX9_readNight_42 : decode cX9_readNight 42 = .ok (.bipush 9, 2) := by decide +kernel
theorem dX9_readNight_44 : decode cX9_readNight 44 = .ok (.invokevirtual 95, 3) := by decide +kernel
theorem dX9_readNight_47 : decode cX9_readNight 47 = .ok (.iadd, 1) := by decide +kernel
theorem dX9_readNight_48 : decode cX9_readNight 48 = .ok (.ireturn, 1) := by decide +kernel
set_option maxRecDepth 20000 in
theorem ggX9_readText_X9_fail : GoodIn wsX9_readText wsX9_fail := goodIn_r _ [10, 2, 1, 27, 28, 29, 30, 31, 32, 33, 34, 35, 36, 37, 38, 39, 40, 41, 42, 43, 44, 45, 46, 47, 48, 49, 50, 51, 52, 53, 54] (by decide +kernel) (by decide +kernel)
set_option maxRecDepth 20000 in
theorem gX9_readText_X9_fail : GoodIn wsX9_readText (wsV RX9 92 RX9 yX9_fail wsX9_fail) := goodIn_app (goodIn_of _ (by decide +kernel)) ggX9_readText_X9_fail
set_option maxRecDepth 20000 in
theorem ggX9_readText_X9_readRule : GoodIn wsX9_readText wsX9_readRule := goodIn_r _ [14, 15, 16, 17, 18, 9, 19, 2, 1, 4, 5, 20, 21, 22, 6, 7, 8, 10, 23, 24, 25, 26, 27, 28, 29, 30, 31, 32, 33, 34, 35, 36, 37, 38, 39, 40, 41, 42, 43, 44, 45, 46, 47, 48, 49, 50, 51, 52, 53, 54] (by decide +kernel) (by decide +kernel)
set_option maxRecDepth 20000 in
theorem gX9_readText_X9_readRule : GoodIn wsX9_readText (wsV RX9 102 RX9 yX9_readRule wsX9_readRule) := goodIn_app (goodIn_of _ (by decide +kernel)) ggX9_readText_X9_readRule
theorem dX9_readText_0 : decode cX9_readText 0 = .ok (.aload_n 0, 1) := by decide +kernel
theorem dX9_readText_1 : decode cX9_readText 1 = .ok (.iconst 0, 1) := by decide +kernel
theorem dX9_readText_2 : decode cX9_readText 2 = .ok (.putfield 89, 3) := by decide +kernel
theorem dX9_readText_5 : decode cX9_readText 5 = .ok (.aload_n 0, 1) := by decide +kernel
theorem dX9_readText_6 : decode cX9_readText 6 = .ok (.bipush (-9), 2) := by decide +kernel
theorem dX9_readText_8 : decode cX9_readText 8 = .ok (.putfield 86, 3) := by decide +kernel
theorem dX9_readText_11 : decode cX9_readText 11 = .ok (.aload_n 0, 1) := by decide +kernel
theorem dX9_readText_12 : decode cX9_readText 12 = .ok (.iconst 0, 1) := by decide +kernel
theorem dX9_readText_13 : decode cX9_readText 13 = .ok (.putfield 99, 3) := by decide +kernel
theorem dX9_readText_16 : decode cX9_readText 16 = .ok (.aload_n 0, 1) := by decide +kernel
theorem dX9_readText_17 : decode cX9_readText 17 = .ok (.getfield 86, 3) := by decide +kernel
theorem dX9_readText_20 : decode cX9_readText 20 = .ok (.bipush (-9), 2) := by decide +kernel
theorem dX9_readText_22 : decode cX9_readText 22 = .ok (.if_icmp .ne 115, 3) := by decide +kernel
theorem dX9_readText_25 : decode cX9_readText 25 = .ok (.aload_n 0, 1) := by decide +kernel
theorem dX9_readText_26 : decode cX9_readText 26 = .ok (.getfield 89, 3) := by decide +kernel
theorem dX9_readText_29 : decode cX9_readText 29 = .ok (.aload_n 0, 1) := by decide +kernel
theorem dX9_readText_30 : decode cX9_readText 30 = .ok (.getfield 81, 3) := by decide +kernel
theorem dX9_readText_33 : decode cX9_readText 33 = .ok (.if_icmp .ge 104, 3) := by decide +kernel
theorem dX9_readText_36 : decode cX9_readText 36 = .ok (.aload_n 0, 1) := by decide +kernel
theorem dX9_readText_37 : decode cX9_readText 37 = .ok (.getfield 19, 3) := by decide +kernel
theorem dX9_readText_40 : decode cX9_readText 40 = .ok (.aload_n 0, 1) := by decide +kernel
theorem dX9_readText_41 : decode cX9_readText 41 = .ok (.getfield 89, 3) := by decide +kernel
theorem dX9_readText_44 : decode cX9_readText 44 = .ok (.iaload, 1) := by decide +kernel
theorem dX9_readText_45 : decode cX9_readText 45 = .ok (.istore_n 1, 1) := by decide +kernel
theorem dX9_readText_46 : decode cX9_readText 46 = .ok (.iload_n 1, 1) := by decide +kernel
theorem dX9_readText_47 : decode cX9_readText 47 = .ok (.bipush 87, 2) := by decide +kernel
theorem dX9_readText_49 : decode cX9_readText 49 = .ok (.if_icmp .eq 27, 3) := by decide +kernel
theorem dX9_readText_52 : decode cX9_readText 52 = .ok (.iload_n 1, 1) := by decide +kernel
theorem dX9_readText_53 : decode cX9_readText 53 = .ok (.bipush 70, 2) := by decide +kernel
theorem dX9_readText_55 : decode cX9_readText 55 = .ok (.if_icmp .eq 21, 3) := by decide +kernel
theorem dX9_readText_58 : decode cX9_readText 58 = .ok (.iload_n 1, 1) := by decide +kernel
theorem dX9_readText_59 : decode cX9_readText 59 = .ok (.bipush 72, 2) := by decide +kernel
theorem dX9_readText_61 : decode cX9_readText 61 = .ok (.if_icmp .eq 15, 3) := by decide +kernel
theorem dX9_readText_64 : decode cX9_readText 64 = .ok (.iload_n 1, 1) := by decide +kernel
theorem dX9_readText_65 : decode cX9_readText 65 = .ok (.bipush 89, 2) := by decide +kernel
theorem dX9_readText_67 : decode cX9_readText 67 = .ok (.if_icmp .eq 9, 3) := by decide +kernel
theorem dX9_readText_70 : decode cX9_readText 70 = .ok (.iload_n 1, 1) := by decide +kernel
theorem dX9_readText_71 : decode cX9_readText 71 = .ok (.bipush 69, 2) := by decide +kernel
theorem dX9_readText_73 : decode cX9_readText 73 = .ok (.if_icmp .ne 7, 3) := by decide +kernel
theorem dX9_readText_76 : decode cX9_readText 76 = .ok (.iconst 1, 1) := by decide +kernel
theorem dX9_readText_77 : decode cX9_readText 77 = .ok (.goto 4, 3) := by decide +kernel
theorem dX9_readText_80 : decode cX9_readText 80 = .ok (.iconst 0, 1) := by decide +kernel
theorem dX9_readText_81 : decode cX9_readText 81 = .ok (.istore_n 2, 1) := by decide +kernel
theorem dX9_readText_82 : decode cX9_readText 82 = .ok (.iload_n 2, 1) := by decide +kernel
theorem dX9_readText_83 : decode cX9_readText 83 = .ok (.ifCond .eq 12, 3) := by decide +kernel
theorem dX9_readText_86 : decode cX9_readText 86 = .ok (.aload_n 0, 1) := by decide +kernel
theorem dX9_readText_87 : decode cX9_readText 87 = .ok (.getfield 99, 3) := by decide +kernel
theorem dX9_readText_90 : decode cX9_readText 90 = .ok (.bipush 10, 2) := by decide +kernel
theorem dX9_readText_92 : decode cX9_readText 92 = .ok (.if_icmp .ne 10, 3) := by decide +kernel
theorem dX9_readText_95 : decode cX9_readText 95 = .ok (.aload_n 0, 1) := by decide +kernel
theorem dX9_readText_96 : decode cX9_readText 96 = .ok (.invokevirtual 92, 3) := by decide +kernel
theorem dX9_readText_99 : decode cX9_readText 99 = .ok (.goto 35, 3) := by decide +kernel
theorem dX9_readText_102 : decode cX9_readText 102 = .ok (.aload_n 0, 1) := by decide +kernel
theorem dX9_readText_103 : decode cX9_readText 103 = .ok (.dup, 1) := by decide +kernel
theorem dX9_readText_104 : decode cX9_readText 104 = .ok (.getfield 89, 3) := by decide +kernel
theorem dX9_readText_107 : decode cX9_readText 107 = .ok (.iconst 1, 1) := by decide +kernel
theorem dX9_readText_108 : decode cX9_readText 108 = .ok (.iadd, 1) := by decide +kernel
theorem dX9_readText_109 : decode cX9_readText 109 = .ok (.putfield 89, 3) := by decide +kernel
theorem dX9_readText_112 : decode cX9_readText 112 = .ok (.aload_n 0, 1) := by decide +kernel
theorem dX9_readText_113 : decode cX9_readText 113 = .ok (.iload_n 1, 1) := by decide +kernel
theorem dX9_readText_114 : decode cX9_readText 114 = .ok (.bipush 6, 2) := by decide +kernel
theorem dX9_readText_116 : decode cX9_readText 116 = .ok (.aload_n 0, 1) := by decide +kernel
theorem dX9_readText_117 : decode cX9_readText 117 = .ok (.getfield 99, 3) := by decide +kernel
theorem dX9_readText_120 : decode cX9_readText 120 = .ok (.imul, 1) := by decide +kernel
theorem dX9_readText_121 : decode cX9_readText 121 = .ok (.invokevirtual 102, 3) := by decide +kernel
theorem dX9_readText_124 : decode cX9_readText 124 = .ok (.aload_n 0, 1) := by decide +kernel
theorem dX9_readText_125 : decode cX9_readText 125 = .ok (.dup, 1) := by decide +kernel
theorem dX9_readText_126 : decode cX9_readText 126 = .ok (.getfield 99, 3) := by decide +kernel
theorem dX9_readText_129 : decode cX9_readText 129 = .ok (.iconst 1, 1) := by decide +kernel
theorem dX9_readText_130 : decode cX9_readText 130 = .ok (.iadd, 1) := by decide +kernel
theorem dX9_readText_131 : decode cX9_readText 131 = .ok (.putfield 99, 3) := by decide +kernel
theorem dX9_readText_134 : decode cX9_readText 134 = .ok (.goto (-118), 3) := by decide +kernel
theorem dX9_readText_137 : decode cX9_readText 137 = .ok (.aload_n 0, 1) := by decide +kernel
theorem dX9_readText_138 : decode cX9_readText 138 = .ok (.getfield 86, 3) := by decide +kernel
theorem dX9_readText_141 : decode cX9_readText 141 = .ok (.ireturn, 1) := by decide +kernel
set_option maxRecDepth 20000 in
theorem ggX9_readRule_X9_figure : GoodIn wsX9_readRule wsX9_figure := goodIn_r _ [6, 7, 8, 9, 10, 11, 12, 5, 13, 14, 15, 16, 17, 22, 23, 24, 25, 26, 27, 28, 29, 30, 31, 32, 33, 34, 35, 36, 37, 38, 39, 40, 41, 42, 43, 44, 45, 46, 47, 48, 49] (by decide +kernel) (by decide +kernel)
set_option maxRecDepth 20000 in
theorem gX9_readRule_X9_figure : GoodIn wsX9_readRule (wsV RX9 95 RX9 yX9_figure wsX9_figure) := goodIn_app (goodIn_of _ (by decide +kernel)) ggX9_readRule_X9_figure
set_option maxRecDepth 20000 in
theorem ggX9_readRule_X9_readNight : GoodIn wsX9_readRule wsX9_readNight := goodIn_r _ [21, 2, 3, 4, 5, 6, 7, 8, 9, 10, 11, 12, 13, 14, 15, 16, 17, 22, 23, 24, 25, 26, 27, 28, 29, 30, 31, 32, 33, 34, 35, 36, 37, 38, 39, 40, 41, 42, 43, 44, 45, 46, 47, 48, 49] (by decide +kernel) (by decide +kernel)
set_option maxRecDepth 20000 in
theorem gX9_readRule_X9_readNight : GoodIn wsX9_readRule (wsV RX9 106 RX9 yX9_readNight wsX9_readNight) := goodIn_app (goodIn_of _ (by decide +kernel)) ggX9_readRule_X9_readNight
theorem dX9_readRule_0 : decode cX9_readRule 0 = .ok (.aload_n 0, 1) := by decide +kernel
theorem dX9_readRule_1 : decode cX9_readRule 1 = .ok (.getfield 7, 3) := by decide +kernel
theorem dX9_readRule_4 : decode cX9_readRule 4 = .ok (.iload_n 2, 1) := by decide +kernel
theorem dX9_readRule_5 : decode cX9_readRule 5 = .ok (.iload_n 1, 1) := by decide +kernel
theorem dX9_readRule_6 : decode cX9_readRule 6 = .ok (.iastore, 1) := by decide +kernel
theorem dX9_readRule_7 : decode cX9_readRule 7 = .ok (.aload_n 0, 1) := by decide +kernel
theorem dX9_readRule_8 : decode cX9_readRule 8 = .ok (.getfield 7, 3) := by decide +kernel
theorem dX9_readRule_11 : decode cX9_readRule 11 = .ok (.iload_n 2, 1) := by decide +kernel
theorem dX9_readRule_12 : decode cX9_readRule 12 = .ok (.iconst 1, 1) := by decide +kernel
theorem dX9_readRule_13 : decode cX9_readRule 13 = .ok (.iadd, 1) := by decide +kernel
theorem dX9_readRule_14 : decode cX9_readRule 14 = .ok (.aload_n 0, 1) := by decide +kernel
theorem dX9_readRule_15 : decode cX9_readRule 15 = .ok (.iconst 0, 1) := by decide +kernel
theorem dX9_readRule_16 : decode cX9_readRule 16 = .ok (.bipush 9, 2) := by decide +kernel
theorem dX9_readRule_18 : decode cX9_readRule 18 = .ok (.invokevirtual 95, 3) := by decide +kernel
theorem dX9_readRule_21 : decode cX9_readRule 21 = .ok (.iastore, 1) := by decide +kernel
theorem dX9_readRule_22 : decode cX9_readRule 22 = .ok (.iload_n 1, 1) := by decide +kernel
theorem dX9_readRule_23 : decode cX9_readRule 23 = .ok (.bipush 87, 2) := by decide +kernel
theorem dX9_readRule_25 : decode cX9_readRule 25 = .ok (.if_icmp .ne 58, 3) := by decide +kernel
theorem dX9_readRule_28 : decode cX9_readRule 28 = .ok (.aload_n 0, 1) := by decide +kernel
theorem dX9_readRule_29 : decode cX9_readRule 29 = .ok (.getfield 7, 3) := by decide +kernel
theorem dX9_readRule_32 : decode cX9_readRule 32 = .ok (.iload_n 2, 1) := by decide +kernel
theorem dX9_readRule_33 : decode cX9_readRule 33 = .ok (.iconst 2, 1) := by decide +kernel
theorem dX9_readRule_34 : decode cX9_readRule 34 = .ok (.iadd, 1) := by decide +kernel
theorem dX9_readRule_35 : decode cX9_readRule 35 = .ok (.aload_n 0, 1) := by decide +kernel
theorem dX9_readRule_36 : decode cX9_readRule 36 = .ok (.iconst 0, 1) := by decide +kernel
theorem dX9_readRule_37 : decode cX9_readRule 37 = .ok (.bipush 6, 2) := by decide +kernel
theorem dX9_readRule_39 : decode cX9_readRule 39 = .ok (.invokevirtual 95, 3) := by decide +kernel
theorem dX9_readRule_42 : decode cX9_readRule 42 = .ok (.iastore, 1) := by decide +kernel
theorem dX9_readRule_43 : decode cX9_readRule 43 = .ok (.aload_n 0, 1) := by decide +kernel
theorem dX9_readRule_44 : decode cX9_readRule 44 = .ok (.getfield 7, 3) := by decide +kernel
theorem dX9_readRule_47 : decode cX9_readRule 47 = .ok (.iload_n 2, 1) := by decide +kernel
theorem dX9_readRule_48 : decode cX9_readRule 48 = .ok (.iconst 3, 1) := by decide +kernel
theorem dX9_readRule_49 : decode cX9_readRule 49 = .ok (.iadd, 1) := by decide +kernel
theorem dX9_readRule_50 : decode cX9_readRule 50 = .ok (.aload_n 0, 1) := by decide +kernel
theorem dX9_readRule_51 : decode cX9_readRule 51 = .ok (.iconst 1, 1) := by decide +kernel
theorem dX9_readRule_52 : decode cX9_readRule 52 = .ok (.iconst 4, 1) := by decide +kernel
theorem dX9_readRule_53 : decode cX9_readRule 53 = .ok (.invokevirtual 95, 3) := by decide +kernel
theorem dX9_readRule_56 : decode cX9_readRule 56 = .ok (.iastore, 1) := by decide +kernel
theorem dX9_readRule_57 : decode cX9_readRule 57 = .ok (.aload_n 0, 1) := by decide +kernel
theorem dX9_readRule_58 : decode cX9_readRule 58 = .ok (.getfield 7, 3) := by decide +kernel
theorem dX9_readRule_61 : decode cX9_readRule 61 = .ok (.iload_n 2, 1) := by decide +kernel
theorem dX9_readRule_62 : decode cX9_readRule 62 = .ok (.iconst 4, 1) := by decide +kernel
theorem dX9_readRule_63 : decode cX9_readRule 63 = .ok (.iadd, 1) := by decide +kernel
theorem dX9_readRule_64 : decode cX9_readRule 64 = .ok (.aload_n 0, 1) := by decide +kernel
theorem dX9_readRule_65 : decode cX9_readRule 65 = .ok (.iconst 0, 1) := by decide +kernel
theorem dX9_readRule_66 : decode cX9_readRule 66 = .ok (.aload_n 0, 1) := by decide +kernel
theorem dX9_readRule_67 : decode cX9_readRule 67 = .ok (.getfield 7, 3) := by decide +kernel
theorem dX9_readRule_70 : decode cX9_readRule 70 = .ok (.iload_n 2, 1) := by decide +kernel
theorem dX9_readRule_71 : decode cX9_readRule 71 = .ok (.iconst 3, 1) := by decide +kernel
theorem dX9_readRule_72 : decode cX9_readRule 72 = .ok (.iadd, 1) := by decide +kernel
theorem dX9_readRule_73 : decode cX9_readRule 73 = .ok (.iaload, 1) := by decide +kernel
theorem dX9_readRule_74 : decode cX9_readRule 74 = .ok (.iconst 1, 1) := by decide +kernel
theorem dX9_readRule_75 : decode cX9_readRule 75 = .ok (.isub, 1) := by decide +kernel
theorem dX9_readRule_76 : decode cX9_readRule 76 = .ok (.invokevirtual 95, 3) := by decide +kernel
theorem dX9_readRule_79 : decode cX9_readRule 79 = .ok (.iastore, 1) := by decide +kernel
theorem dX9_readRule_80 : decode cX9_readRule 80 = .ok (.goto 64, 3) := by decide +kernel
theorem dX9_readRule_83 : decode cX9_readRule 83 = .ok (.iload_n 1, 1) := by decide +kernel
theorem dX9_readRule_84 : decode cX9_readRule 84 = .ok (.bipush 69, 2) := by decide +kernel
theorem dX9_readRule_86 : decode cX9_readRule 86 = .ok (.if_icmp .ne 25, 3) := by decide +kernel
theorem dX9_readRule_89 : decode cX9_readRule 89 = .ok (.aload_n 0, 1) := by decide +kernel
theorem dX9_readRule_90 : decode cX9_readRule 90 = .ok (.getfield 7, 3) := by decide +kernel
theorem dX9_readRule_93 : decode cX9_readRule 93 = .ok (.iload_n 2, 1) := by decide +kernel
theorem dX9_readRule_94 : decode cX9_readRule 94 = .ok (.iconst 2, 1) := by decide +kernel
theorem dX9_readRule_95 : decode cX9_readRule 95 = .ok (.iadd, 1) := by decide +kernel
theorem dX9_readRule_96 : decode cX9_readRule 96 = .ok (.iconst 0, 1) := by decide +kernel
theorem dX9_readRule_97 : decode cX9_readRule 97 = .ok (.iastore, 1) := by decide +kernel
theorem dX9_readRule_98 : decode cX9_readRule 98 = .ok (.aload_n 0, 1) := by decide +kernel
theorem dX9_readRule_99 : decode cX9_readRule 99 = .ok (.getfield 7, 3) := by decide +kernel
theorem dX9_readRule_102 : decode cX9_readRule 102 = .ok (.iload_n 2, 1) := by decide +kernel
theorem dX9_readRule_103 : decode cX9_readRule 103 = .ok (.iconst 3, 1) := by decide +kernel
theorem dX9_readRule_104 : decode cX9_readRule 104 = .ok (.iadd, 1) := by decide +kernel
theorem dX9_readRule_105 : decode cX9_readRule 105 = .ok (.bipush 55, 2) := by decide +kernel
theorem dX9_readRule_107 : decode cX9_readRule 107 = .ok (.iastore, 1) := by decide +kernel
theorem dX9_readRule_108 : decode cX9_readRule 108 = .ok (.goto 36, 3) := by decide +kernel
theorem dX9_readRule_111 : decode cX9_readRule 111 = .ok (.aload_n 0, 1) := by decide +kernel
theorem dX9_readRule_112 : decode cX9_readRule 112 = .ok (.getfield 7, 3) := by decide +kernel
theorem dX9_readRule_115 : decode cX9_readRule 115 = .ok (.iload_n 2, 1) := by decide +kernel
theorem dX9_readRule_116 : decode cX9_readRule 116 = .ok (.iconst 2, 1) := by decide +kernel
theorem dX9_readRule_117 : decode cX9_readRule 117 = .ok (.iadd, 1) := by decide +kernel
theorem dX9_readRule_118 : decode cX9_readRule 118 = .ok (.aload_n 0, 1) := by decide +kernel
theorem dX9_readRule_119 : decode cX9_readRule 119 = .ok (.iconst 0, 1) := by decide +kernel
theorem dX9_readRule_120 : decode cX9_readRule 120 = .ok (.invokevirtual 106, 3) := by decide +kernel
theorem dX9_readRule_123 : decode cX9_readRule 123 = .ok (.iastore, 1) := by decide +kernel
theorem dX9_readRule_124 : decode cX9_readRule 124 = .ok (.aload_n 0, 1) := by decide +kernel
theorem dX9_readRule_125 : decode cX9_readRule 125 = .ok (.getfield 7, 3) := by decide +kernel
theorem dX9_readRule_128 : decode cX9_readRule 128 = .ok (.iload_n 2, 1) := by decide +kernel
theorem dX9_readRule_129 : decode cX9_readRule 129 = .ok (.iconst 3, 1) := by decide +kernel
theorem dX9_readRule_130 : decode cX9_readRule 130 = .ok (.iadd, 1) := by decide +kernel
theorem dX9_readRule_131 : decode cX9_readRule 131 = .ok (.aload_n 0, 1) := by decide +kernel
theorem dX9_readRule_132 : decode cX9_readRule 132 = .ok (.aload_n 0, 1) := by decide +kernel
theorem dX9_readRule_133 : decode cX9_readRule 133 = .ok (.getfield 7, 3) := by decide +kernel
theorem dX9_readRule_136 : decode cX9_readRule 136 = .ok (.iload_n 2, 1) := by decide +kernel
theorem dX9_readRule_137 : decode cX9_readRule 137 = .ok (.iconst 2, 1) := by decide +kernel
theorem dX9_readRule_138 : decode cX9_readRule 138 = .ok (.iadd, 1) := by decide +kernel
theorem dX9_readRule_139 : decode cX9_readRule 139 = .ok (.iaload, 1) := by decide +kernel
theorem dX9_readRule_140 : decode cX9_readRule 140 = .ok (.invokevirtual 106, 3) := by decide +kernel
theorem dX9_readRule_143 : decode cX9_readRule 143 = .ok (.iastore, 1) := by decide +kernel
theorem dX9_readRule_144 : decode cX9_readRule 144 = .ok (.aload_n 0, 1) := by decide +kernel
theorem dX9_readRule_145 : decode cX9_readRule 145 = .ok (.getfield 7, 3) := by decide +kernel
theorem dX9_readRule_148 : decode cX9_readRule 148 = .ok (.iload_n 2, 1) := by decide +kernel
theorem dX9_readRule_149 : decode cX9_readRule 149 = .ok (.iconst 5, 1) := by decide +kernel
theorem dX9_readRule_150 : decode cX9_readRule 150 = .ok (.iadd, 1) := by decide +kernel
theorem dX9_readRule_151 : decode cX9_readRule 151 = .ok (.aload_n 0, 1) := by decide +kernel
theorem dX9_readRule_152 : decode cX9_readRule 152 = .ok (.iconst 0, 1) := by decide +kernel
theorem dX9_readRule_153 : decode cX9_readRule 153 = .ok (.iconst 1, 1) := by decide +kernel
theorem dX9_readRule_154 : decode cX9_readRule 154 = .ok (.invokevirtual 95, 3) := by decide +kernel
theorem dX9_readRule_157 : decode cX9_readRule 157 = .ok (.iastore, 1) := by decide +kernel
theorem dX9_readRule_158 : decode cX9_readRule 158 = .ok (.return_, 1) := by decide +kernel
set_option maxRecDepth 20000 in
theorem ggX9_fault_X9_readText : GoodIn wsX9_fault wsX9_readText := goodIn_r _ [5, 6, 7, 8, 9, 10, 11, 12, 13, 4, 14, 15, 16, 17, 18, 19, 20, 21, 22, 23, 24, 25, 26, 27, 28, 29, 30, 31, 32, 33, 34, 35, 36, 37, 38, 39, 40, 41, 42, 43, 44, 45, 46, 47, 48, 49, 50, 51, 52, 53, 54, 55, 56, 57, 58] (by decide +kernel) (by decide +kernel)
set_option maxRecDepth 20000 in
theorem gX9_fault_X9_readText : GoodIn wsX9_fault (wsV RX9 110 RX9 yX9_readText wsX9_readText) := goodIn_app (goodIn_of _ (by decide +kernel)) ggX9_fault_X9_readText
theorem dX9_fault_0 : decode cX9_fault 0 = .ok (.aload_n 0, 1) := by decide +kernel
theorem dX9_fault_1 : decode cX9_fault 1 = .ok (.invokevirtual 110, 3) := by decide +kernel
theorem dX9_fault_4 : decode cX9_fault 4 = .ok (.ireturn, 1) := by decide +kernel
set_option maxRecDepth 20000 in
theorem ggX9_paper_X9_readText : GoodIn wsX9_paper wsX9_readText := goodIn_r _ [9, 10, 11, 4, 12, 13, 14, 15, 16, 8, 17, 18, 19, 20, 21, 2, 22, 23, 24, 25, 26, 27, 28, 29, 30, 31, 32, 33, 34, 35, 36, 37, 38, 39, 40, 41, 42, 43, 44, 45, 46, 47, 48, 49, 50, 51, 52, 53, 54, 55, 56, 57, 58, 59, 60] (by decide +kernel) (by decide +kernel)
set_option maxRecDepth 20000 in
theorem gX9_paper_X9_readText : GoodIn wsX9_paper (wsV RX9 110 RX9 yX9_readText wsX9_readText) := goodIn_app (goodIn_of _ (by decide +kernel)) ggX9_paper_X9_readText
theorem dX9_paper_0 : decode cX9_paper 0 = .ok (.aload_n 0, 1) := by decide +kernel
theorem dX9_paper_1 : decode cX9_paper 1 = .ok (.invokevirtual 110, 3) := by decide +kernel
theorem dX9_paper_4 : decode cX9_paper 4 = .ok (.bipush (-9), 2) := by decide +kernel
theorem dX9_paper_6 : decode cX9_paper 6 = .ok (.if_icmp .eq 6, 3) := by decide +kernel
theorem dX9_paper_9 : decode cX9_paper 9 = .ok (.bipush (-3), 2) := by decide +kernel
theorem dX9_paper_11 : decode cX9_paper 11 = .ok (.ireturn, 1) := by decide +kernel
theorem dX9_paper_12 : decode cX9_paper 12 = .ok (.iconst 0, 1) := by decide +kernel
theorem dX9_paper_13 : decode cX9_paper 13 = .ok (.istore_n 1, 1) := by decide +kernel
theorem dX9_paper_14 : decode cX9_paper 14 = .ok (.iload_n 1, 1) := by decide +kernel
theorem dX9_paper_15 : decode cX9_paper 15 = .ok (.bipush 60, 2) := by decide +kernel
theorem dX9_paper_17 : decode cX9_paper 17 = .ok (.if_icmp .ge 21, 3) := by decide +kernel
theorem dX9_paper_20 : decode cX9_paper 20 = .ok (.aload_n 0, 1) := by decide +kernel
theorem dX9_paper_21 : decode cX9_paper 21 = .ok (.getfield 13, 3) := by decide +kernel
theorem dX9_paper_24 : decode cX9_paper 24 = .ok (.iload_n 1, 1) := by decide +kernel
theorem dX9_paper_25 : decode cX9_paper 25 = .ok (.aload_n 0, 1) := by decide +kernel
theorem dX9_paper_26 : decode cX9_paper 26 = .ok (.getfield 7, 3) := by decide +kernel
theorem dX9_paper_29 : decode cX9_paper 29 = .ok (.iload_n 1, 1) := by decide +kernel
theorem dX9_paper_30 : decode cX9_paper 30 = .ok (.iaload, 1) := by decide +kernel
theorem dX9_paper_31 : decode cX9_paper 31 = .ok (.iastore, 1) := by decide +kernel
theorem dX9_paper_32 : decode cX9_paper 32 = .ok (.iinc 1 1, 3) := by decide +kernel
theorem dX9_paper_35 : decode cX9_paper 35 = .ok (.goto (-21), 3) := by decide +kernel
theorem dX9_paper_38 : decode cX9_paper 38 = .ok (.aload_n 0, 1) := by decide +kernel
theorem dX9_paper_39 : decode cX9_paper 39 = .ok (.getfield 16, 3) := by decide +kernel
theorem dX9_paper_42 : decode cX9_paper 42 = .ok (.iconst 0, 1) := by decide +kernel
theorem dX9_paper_43 : decode cX9_paper 43 = .ok (.aload_n 0, 1) := by decide +kernel
theorem dX9_paper_44 : decode cX9_paper 44 = .ok (.getfield 99, 3) := by decide +kernel
theorem dX9_paper_47 : decode cX9_paper 47 = .ok (.iastore, 1) := by decide +kernel
theorem dX9_paper_48 : decode cX9_paper 48 = .ok (.aload_n 0, 1) := by decide +kernel
theorem dX9_paper_49 : decode cX9_paper 49 = .ok (.getfield 99, 3) := by decide +kernel
theorem dX9_paper_52 : decode cX9_paper 52 = .ok (.ireturn, 1) := by decide +kernel
set_option maxRecDepth 20000 in
theorem ggX9_year_X9_in : GoodIn wsX9_year wsX9_in := goodIn_r _ [6] (by decide +kernel) (by decide +kernel)
set_option maxRecDepth 20000 in
theorem gX9_year_X9_in : GoodIn wsX9_year (va_wsS RX9 77 yX9_in wsX9_in) := goodIn_app (goodIn_of _ (by decide +kernel)) ggX9_year_X9_in
theorem dX9_year_0 : decode cX9_year 0 = .ok (.iload_n 1, 1) := by decide +kernel
theorem dX9_year_1 : decode cX9_year 1 = .ok (.i2l, 1) := by decide +kernel
theorem dX9_year_2 : decode cX9_year 2 = .ok (.lconst 0, 1) := by decide +kernel
theorem dX9_year_3 : decode cX9_year 3 = .ok (.ldc2_w 114, 3) := by decide +kernel
theorem dX9_year_6 : decode cX9_year 6 = .ok (.invokestatic 77, 3) := by decide +kernel
theorem dX9_year_9 : decode cX9_year 9 = .ok (.ifCond .ne 6, 3) := by decide +kernel
theorem dX9_year_12 : decode cX9_year 12 = .ok (.bipush (-2), 2) := by decide +kernel
theorem dX9_year_14 : decode cX9_year 14 = .ok (.ireturn, 1) := by decide +kernel
theorem dX9_year_15 : decode cX9_year 15 = .ok (.aload_n 0, 1) := by decide +kernel
theorem dX9_year_16 : decode cX9_year 16 = .ok (.getfield 72, 3) := by decide +kernel
theorem dX9_year_19 : decode cX9_year 19 = .ok (.istore_n 2, 1) := by decide +kernel
theorem dX9_year_20 : decode cX9_year 20 = .ok (.aload_n 0, 1) := by decide +kernel
theorem dX9_year_21 : decode cX9_year 21 = .ok (.iload_n 1, 1) := by decide +kernel
theorem dX9_year_22 : decode cX9_year 22 = .ok (.putfield 72, 3) := by decide +kernel
theorem dX9_year_25 : decode cX9_year 25 = .ok (.iload_n 2, 1) := by decide +kernel
theorem dX9_year_26 : decode cX9_year 26 = .ok (.ireturn, 1) := by decide +kernel
set_option maxRecDepth 20000 in
theorem ggX9_isNight_X9_in : GoodIn wsX9_isNight wsX9_in := goodIn_r _ [5] (by decide +kernel) (by decide +kernel)
set_option maxRecDepth 20000 in
theorem gX9_isNight_X9_in : GoodIn wsX9_isNight (va_wsS RX9 77 yX9_in wsX9_in) := goodIn_app (goodIn_of _ (by decide +kernel)) ggX9_isNight_X9_in
theorem dX9_isNight_0 : decode cX9_isNight 0 = .ok (.iload_n 0, 1) := by decide +kernel
theorem dX9_isNight_1 : decode cX9_isNight 1 = .ok (.i2l, 1) := by decide +kernel
theorem dX9_isNight_2 : decode cX9_isNight 2 = .ok (.lconst 0, 1) := by decide +kernel
theorem dX9_isNight_3 : decode cX9_isNight 3 = .ok (.ldc2_w 116, 3) := by decide +kernel
theorem dX9_isNight_6 : decode cX9_isNight 6 = .ok (.invokestatic 77, 3) := by decide +kernel
theorem dX9_isNight_9 : decode cX9_isNight 9 = .ok (.ireturn, 1) := by decide +kernel
set_option maxRecDepth 20000 in
theorem ggX9_isHouse_X9_in : GoodIn wsX9_isHouse wsX9_in := goodIn_r _ [4] (by decide +kernel) (by decide +kernel)
set_option maxRecDepth 20000 in
theorem gX9_isHouse_X9_in : GoodIn wsX9_isHouse (va_wsS RX9 77 yX9_in wsX9_in) := goodIn_app (goodIn_of _ (by decide +kernel)) ggX9_isHouse_X9_in
theorem dX9_isHouse_0 : decode cX9_isHouse 0 = .ok (.iload_n 0, 1) := by decide +kernel
theorem dX9_isHouse_1 : decode cX9_isHouse 1 = .ok (.i2l, 1) := by decide +kernel
theorem dX9_isHouse_2 : decode cX9_isHouse 2 = .ok (.lconst 0, 1) := by decide +kernel
theorem dX9_isHouse_3 : decode cX9_isHouse 3 = .ok (.lconst 1, 1) := by decide +kernel
theorem dX9_isHouse_4 : decode cX9_isHouse 4 = .ok (.invokestatic 77, 3) := by decide +kernel
theorem dX9_isHouse_7 : decode cX9_isHouse 7 = .ok (.ireturn, 1) := by decide +kernel
set_option maxRecDepth 20000 in
theorem ggX9_saysOf_X9_in : GoodIn wsX9_saysOf wsX9_in := goodIn_r _ [5] (by decide +kernel) (by decide +kernel)
set_option maxRecDepth 20000 in
theorem gX9_saysOf_X9_in : GoodIn wsX9_saysOf (va_wsS RX9 77 yX9_in wsX9_in) := goodIn_app (goodIn_of _ (by decide +kernel)) ggX9_saysOf_X9_in
theorem dX9_saysOf_0 : decode cX9_saysOf 0 = .ok (.bipush 60, 2) := by decide +kernel
theorem dX9_saysOf_2 : decode cX9_saysOf 2 = .ok (.iload_n 1, 1) := by decide +kernel
theorem dX9_saysOf_3 : decode cX9_saysOf 3 = .ok (.imul, 1) := by decide +kernel
theorem dX9_saysOf_4 : decode cX9_saysOf 4 = .ok (.bipush 6, 2) := by decide +kernel
theorem dX9_saysOf_6 : decode cX9_saysOf 6 = .ok (.iload_n 2, 1) := by decide +kernel
theorem dX9_saysOf_7 : decode cX9_saysOf 7 = .ok (.imul, 1) := by decide +kernel
theorem dX9_saysOf_8 : decode cX9_saysOf 8 = .ok (.iadd, 1) := by decide +kernel
theorem dX9_saysOf_9 : decode cX9_saysOf 9 = .ok (.istore 5, 2) := by decide +kernel
theorem dX9_saysOf_11 : decode cX9_saysOf 11 = .ok (.aload_n 0, 1) := by decide +kernel
theorem dX9_saysOf_12 : decode cX9_saysOf 12 = .ok (.getfield 13, 3) := by decide +kernel
theorem dX9_saysOf_15 : decode cX9_saysOf 15 = .ok (.iload 5, 2) := by decide +kernel
theorem dX9_saysOf_17 : decode cX9_saysOf 17 = .ok (.iconst 5, 1) := by decide +kernel
theorem dX9_saysOf_18 : decode cX9_saysOf 18 = .ok (.iadd, 1) := by decide +kernel
theorem dX9_saysOf_19 : decode cX9_saysOf 19 = .ok (.iaload, 1) := by decide +kernel
theorem dX9_saysOf_20 : decode cX9_saysOf 20 = .ok (.istore 6, 2) := by decide +kernel
theorem dX9_saysOf_22 : decode cX9_saysOf 22 = .ok (.aload_n 0, 1) := by decide +kernel
theorem dX9_saysOf_23 : decode cX9_saysOf 23 = .ok (.getfield 13, 3) := by decide +kernel
theorem dX9_saysOf_26 : decode cX9_saysOf 26 = .ok (.iload 5, 2) := by decide +kernel
theorem dX9_saysOf_28 : decode cX9_saysOf 28 = .ok (.iaload, 1) := by decide +kernel
theorem dX9_saysOf_29 : decode cX9_saysOf 29 = .ok (.bipush 87, 2) := by decide +kernel
theorem dX9_saysOf_31 : decode cX9_saysOf 31 = .ok (.if_icmp .ne 53, 3) := by decide +kernel
theorem dX9_saysOf_34 : decode cX9_saysOf 34 = .ok (.iload_n 3, 1) := by decide +kernel
theorem dX9_saysOf_35 : decode cX9_saysOf 35 = .ok (.bipush 7, 2) := by decide +kernel
theorem dX9_saysOf_37 : decode cX9_saysOf 37 = .ok (.irem, 1) := by decide +kernel
theorem dX9_saysOf_38 : decode cX9_saysOf 38 = .ok (.aload_n 0, 1) := by decide +kernel
theorem dX9_saysOf_39 : decode cX9_saysOf 39 = .ok (.getfield 13, 3) := by decide +kernel
theorem dX9_saysOf_42 : decode cX9_saysOf 42 = .ok (.iload 5, 2) := by decide +kernel
theorem dX9_saysOf_44 : decode cX9_saysOf 44 = .ok (.iconst 2, 1) := by decide +kernel
theorem dX9_saysOf_45 : decode cX9_saysOf 45 = .ok (.iadd, 1) := by decide +kernel
theorem dX9_saysOf_46 : decode cX9_saysOf 46 = .ok (.iaload, 1) := by decide +kernel
theorem dX9_saysOf_47 : decode cX9_saysOf 47 = .ok (.if_icmp .ne 34, 3) := by decide +kernel
theorem dX9_saysOf_50 : decode cX9_saysOf 50 = .ok (.iload_n 3, 1) := by decide +kernel
theorem dX9_saysOf_51 : decode cX9_saysOf 51 = .ok (.bipush 7, 2) := by decide +kernel
theorem dX9_saysOf_53 : decode cX9_saysOf 53 = .ok (.idiv, 1) := by decide +kernel
theorem dX9_saysOf_54 : decode cX9_saysOf 54 = .ok (.aload_n 0, 1) := by decide +kernel
theorem dX9_saysOf_55 : decode cX9_saysOf 55 = .ok (.getfield 13, 3) := by decide +kernel
theorem dX9_saysOf_58 : decode cX9_saysOf 58 = .ok (.iload 5, 2) := by decide +kernel
theorem dX9_saysOf_60 : decode cX9_saysOf 60 = .ok (.iconst 3, 1) := by decide +kernel
theorem dX9_saysOf_61 : decode cX9_saysOf 61 = .ok (.iadd, 1) := by decide +kernel
theorem dX9_saysOf_62 : decode cX9_saysOf 62 = .ok (.iaload, 1) := by decide +kernel
theorem dX9_saysOf_63 : decode cX9_saysOf 63 = .ok (.irem, 1) := by decide +kernel
theorem dX9_saysOf_64 : decode cX9_saysOf 64 = .ok (.aload_n 0, 1) := by decide +kernel
theorem dX9_saysOf_65 : decode cX9_saysOf 65 = .ok (.getfield 13, 3) := by decide +kernel
theorem dX9_saysOf_68 : decode cX9_saysOf 68 = .ok (.iload 5, 2) := by decide +kernel
theorem dX9_saysOf_70 : decode cX9_saysOf 70 = .ok (.iconst 4, 1) := by decide +kernel
theorem dX9_saysOf_71 : decode cX9_saysOf 71 = .ok (.iadd, 1) := by decide +kernel
theorem dX9_saysOf_72 : decode cX9_saysOf 72 = .ok (.iaload, 1) := by decide +kernel
theorem dX9_saysOf_73 : decode cX9_saysOf 73 = .ok (.if_icmp .ne 8, 3) := by decide +kernel
theorem dX9_saysOf_76 : decode cX9_saysOf 76 = .ok (.iload 6, 2) := by decide +kernel
theorem dX9_saysOf_78 : decode cX9_saysOf 78 = .ok (.goto 5, 3) := by decide +kernel
theorem dX9_saysOf_81 : decode cX9_saysOf 81 = .ok (.bipush (-9), 2) := by decide +kernel
theorem dX9_saysOf_83 : decode cX9_saysOf 83 = .ok (.ireturn, 1) := by decide +kernel
theorem dX9_saysOf_84 : decode cX9_saysOf 84 = .ok (.aload_n 0, 1) := by decide +kernel
theorem dX9_saysOf_85 : decode cX9_saysOf 85 = .ok (.getfield 13, 3) := by decide +kernel
theorem dX9_saysOf_88 : decode cX9_saysOf 88 = .ok (.iload 5, 2) := by decide +kernel
theorem dX9_saysOf_90 : decode cX9_saysOf 90 = .ok (.iconst 2, 1) := by decide +kernel
theorem dX9_saysOf_91 : decode cX9_saysOf 91 = .ok (.iadd, 1) := by decide +kernel
theorem dX9_saysOf_92 : decode cX9_saysOf 92 = .ok (.iaload, 1) := by decide +kernel
theorem dX9_saysOf_93 : decode cX9_saysOf 93 = .ok (.istore 7, 2) := by decide +kernel
theorem dX9_saysOf_95 : decode cX9_saysOf 95 = .ok (.aload_n 0, 1) := by decide +kernel
theorem dX9_saysOf_96 : decode cX9_saysOf 96 = .ok (.getfield 13, 3) := by decide +kernel
theorem dX9_saysOf_99 : decode cX9_saysOf 99 = .ok (.iload 5, 2) := by decide +kernel
theorem dX9_saysOf_101 : decode cX9_saysOf 101 = .ok (.iconst 3, 1) := by decide +kernel
theorem dX9_saysOf_102 : decode cX9_saysOf 102 = .ok (.iadd, 1) := by decide +kernel
theorem dX9_saysOf_103 : decode cX9_saysOf 103 = .ok (.iaload, 1) := by decide +kernel
theorem dX9_saysOf_104 : decode cX9_saysOf 104 = .ok (.istore 8, 2) := by decide +kernel
theorem dX9_saysOf_106 : decode cX9_saysOf 106 = .ok (.iload_n 3, 1) := by decide +kernel
theorem dX9_saysOf_107 : decode cX9_saysOf 107 = .ok (.i2l, 1) := by decide +kernel
theorem dX9_saysOf_108 : decode cX9_saysOf 108 = .ok (.iload 7, 2) := by decide +kernel
theorem dX9_saysOf_110 : decode cX9_saysOf 110 = .ok (.i2l, 1) := by decide +kernel
theorem dX9_saysOf_111 : decode cX9_saysOf 111 = .ok (.iload 8, 2) := by decide +kernel
theorem dX9_saysOf_113 : decode cX9_saysOf 113 = .ok (.i2l, 1) := by decide +kernel
theorem dX9_saysOf_114 : decode cX9_saysOf 114 = .ok (.invokestatic 77, 3) := by decide +kernel
theorem dX9_saysOf_117 : decode cX9_saysOf 117 = .ok (.ifCond .ne 6, 3) := by decide +kernel
theorem dX9_saysOf_120 : decode cX9_saysOf 120 = .ok (.bipush (-9), 2) := by decide +kernel
theorem dX9_saysOf_122 : decode cX9_saysOf 122 = .ok (.ireturn, 1) := by decide +kernel
theorem dX9_saysOf_123 : decode cX9_saysOf 123 = .ok (.aload_n 0, 1) := by decide +kernel
theorem dX9_saysOf_124 : decode cX9_saysOf 124 = .ok (.getfield 13, 3) := by decide +kernel
theorem dX9_saysOf_127 : decode cX9_saysOf 127 = .ok (.iload 5, 2) := by decide +kernel
theorem dX9_saysOf_129 : decode cX9_saysOf 129 = .ok (.iaload, 1) := by decide +kernel
theorem dX9_saysOf_130 : decode cX9_saysOf 130 = .ok (.bipush 72, 2) := by decide +kernel
theorem dX9_saysOf_132 : decode cX9_saysOf 132 = .ok (.if_icmp .ne 19, 3) := by decide +kernel
theorem dX9_saysOf_135 : decode cX9_saysOf 135 = .ok (.iload_n 3, 1) := by decide +kernel
theorem dX9_saysOf_136 : decode cX9_saysOf 136 = .ok (.iload 7, 2) := by decide +kernel
theorem dX9_saysOf_138 : decode cX9_saysOf 138 = .ok (.iload 8, 2) := by decide +kernel
theorem dX9_saysOf_140 : decode cX9_saysOf 140 = .ok (.iload 7, 2) := by decide +kernel
theorem dX9_saysOf_142 : decode cX9_saysOf 142 = .ok (.isub, 1) := by decide +kernel
theorem dX9_saysOf_143 : decode cX9_saysOf 143 = .ok (.iconst 2, 1) := by decide +kernel
theorem dX9_saysOf_144 : decode cX9_saysOf 144 = .ok (.iadd, 1) := by decide +kernel
theorem dX9_saysOf_145 : decode cX9_saysOf 145 = .ok (.iconst 2, 1) := by decide +kernel
theorem dX9_saysOf_146 : decode cX9_saysOf 146 = .ok (.idiv, 1) := by decide +kernel
theorem dX9_saysOf_147 : decode cX9_saysOf 147 = .ok (.iadd, 1) := by decide +kernel
theorem dX9_saysOf_148 : decode cX9_saysOf 148 = .ok (.if_icmp .ge 22, 3) := by decide +kernel
theorem dX9_saysOf_151 : decode cX9_saysOf 151 = .ok (.aload_n 0, 1) := by decide +kernel
theorem dX9_saysOf_152 : decode cX9_saysOf 152 = .ok (.getfield 13, 3) := by decide +kernel
theorem dX9_saysOf_155 : decode cX9_saysOf 155 = .ok (.iload 5, 2) := by decide +kernel
theorem dX9_saysOf_157 : decode cX9_saysOf 157 = .ok (.iaload, 1) := by decide +kernel
theorem dX9_saysOf_158 : decode cX9_saysOf 158 = .ok (.bipush 89, 2) := by decide +kernel
theorem dX9_saysOf_160 : decode cX9_saysOf 160 = .ok (.if_icmp .ne 14, 3) := by decide +kernel
theorem dX9_saysOf_163 : decode cX9_saysOf 163 = .ok (.iload 4, 2) := by decide +kernel
theorem dX9_saysOf_165 : decode cX9_saysOf 165 = .ok (.iconst 2, 1) := by decide +kernel
theorem dX9_saysOf_166 : decode cX9_saysOf 166 = .ok (.irem, 1) := by decide +kernel
theorem dX9_saysOf_167 : decode cX9_saysOf 167 = .ok (.ifCond .ne 7, 3) := by decide +kernel
theorem dX9_saysOf_170 : decode cX9_saysOf 170 = .ok (.iconst 1, 1) := by decide +kernel
theorem dX9_saysOf_171 : decode cX9_saysOf 171 = .ok (.goto 4, 3) := by decide +kernel
theorem dX9_saysOf_174 : decode cX9_saysOf 174 = .ok (.iconst 0, 1) := by decide +kernel
theorem dX9_saysOf_175 : decode cX9_saysOf 175 = .ok (.istore 9, 2) := by decide +kernel
theorem dX9_saysOf_177 : decode cX9_saysOf 177 = .ok (.iload 9, 2) := by decide +kernel
theorem dX9_saysOf_179 : decode cX9_saysOf 179 = .ok (.ifCond .eq 10, 3) := by decide +kernel
theorem dX9_saysOf_182 : decode cX9_saysOf 182 = .ok (.iconst 1, 1) := by decide +kernel
theorem dX9_saysOf_183 : decode cX9_saysOf 183 = .ok (.iload 6, 2) := by decide +kernel
theorem dX9_saysOf_185 : decode cX9_saysOf 185 = .ok (.isub, 1) := by decide +kernel
theorem dX9_saysOf_186 : decode cX9_saysOf 186 = .ok (.goto 5, 3) := by decide +kernel
theorem dX9_saysOf_189 : decode cX9_saysOf 189 = .ok (.iload 6, 2) := by decide +kernel
theorem dX9_saysOf_191 : decode cX9_saysOf 191 = .ok (.ireturn, 1) := by decide +kernel
set_option maxRecDepth 20000 in
theorem ggX9_whoseOf_X9_saysOf : GoodIn wsX9_whoseOf wsX9_saysOf := goodIn_r _ [8, 3, 9, 10, 7, 11, 12, 13, 14, 15, 16, 17, 18, 19, 20, 21, 22, 23, 24, 25, 26, 27, 28, 29, 30, 31, 32, 33, 34, 35, 36, 37, 38, 39] (by decide +kernel) (by decide +kernel)
set_option maxRecDepth 20000 in
theorem gX9_whoseOf_X9_saysOf : GoodIn wsX9_whoseOf (wsV RX9 121 RX9 yX9_saysOf wsX9_saysOf) := goodIn_app (goodIn_of _ (by decide +kernel)) ggX9_whoseOf_X9_saysOf
theorem dX9_whoseOf_0 : decode cX9_whoseOf 0 = .ok (.bipush 10, 2) := by decide +kernel
theorem dX9_whoseOf_2 : decode cX9_whoseOf 2 = .ok (.istore 5, 2) := by decide +kernel
theorem dX9_whoseOf_4 : decode cX9_whoseOf 4 = .ok (.iconst 0, 1) := by decide +kernel
theorem dX9_whoseOf_5 : decode cX9_whoseOf 5 = .ok (.istore 6, 2) := by decide +kernel
theorem dX9_whoseOf_7 : decode cX9_whoseOf 7 = .ok (.aload_n 0, 1) := by decide +kernel
theorem dX9_whoseOf_8 : decode cX9_whoseOf 8 = .ok (.iconst 0, 1) := by decide +kernel
theorem dX9_whoseOf_9 : decode cX9_whoseOf 9 = .ok (.putfield 118, 3) := by decide +kernel
theorem dX9_whoseOf_12 : decode cX9_whoseOf 12 = .ok (.iconst 0, 1) := by decide +kernel
theorem dX9_whoseOf_13 : decode cX9_whoseOf 13 = .ok (.istore 7, 2) := by decide +kernel
theorem dX9_whoseOf_15 : decode cX9_whoseOf 15 = .ok (.iload 7, 2) := by decide +kernel
theorem dX9_whoseOf_17 : decode cX9_whoseOf 17 = .ok (.aload_n 0, 1) := by decide +kernel
theorem dX9_whoseOf_18 : decode cX9_whoseOf 18 = .ok (.getfield 16, 3) := by decide +kernel
theorem dX9_whoseOf_21 : decode cX9_whoseOf 21 = .ok (.iload_n 1, 1) := by decide +kernel
theorem dX9_whoseOf_22 : decode cX9_whoseOf 22 = .ok (.iaload, 1) := by decide +kernel
theorem dX9_whoseOf_23 : decode cX9_whoseOf 23 = .ok (.if_icmp .ge 117, 3) := by decide +kernel
theorem dX9_whoseOf_26 : decode cX9_whoseOf 26 = .ok (.iload 4, 2) := by decide +kernel
theorem dX9_whoseOf_28 : decode cX9_whoseOf 28 = .ok (.iload 7, 2) := by decide +kernel
theorem dX9_whoseOf_30 : decode cX9_whoseOf 30 = .ok (.ishr, 1) := by decide +kernel
theorem dX9_whoseOf_31 : decode cX9_whoseOf 31 = .ok (.iconst 1, 1) := by decide +kernel
theorem dX9_whoseOf_32 : decode cX9_whoseOf 32 = .ok (.iand, 1) := by decide +kernel
theorem dX9_whoseOf_33 : decode cX9_whoseOf 33 = .ok (.iconst 1, 1) := by decide +kernel
theorem dX9_whoseOf_34 : decode cX9_whoseOf 34 = .ok (.if_icmp .ne 8, 3) := by decide +kernel
theorem dX9_whoseOf_37 : decode cX9_whoseOf 37 = .ok (.bipush (-9), 2) := by decide +kernel
theorem dX9_whoseOf_39 : decode cX9_whoseOf 39 = .ok (.goto 12, 3) := by decide +kernel
theorem dX9_whoseOf_42 : decode cX9_whoseOf 42 = .ok (.aload_n 0, 1) := by decide +kernel
theorem dX9_whoseOf_43 : decode cX9_whoseOf 43 = .ok (.iload_n 1, 1) := by decide +kernel
theorem dX9_whoseOf_44 : decode cX9_whoseOf 44 = .ok (.iload 7, 2) := by decide +kernel
theorem dX9_whoseOf_46 : decode cX9_whoseOf 46 = .ok (.iload_n 2, 1) := by decide +kernel
theorem dX9_whoseOf_47 : decode cX9_whoseOf 47 = .ok (.iload_n 3, 1) := by decide +kernel
theorem dX9_whoseOf_48 : decode cX9_whoseOf 48 = .ok (.invokevirtual 121, 3) := by decide +kernel
theorem dX9_whoseOf_51 : decode cX9_whoseOf 51 = .ok (.istore 8, 2) := by decide +kernel
theorem dX9_whoseOf_53 : decode cX9_whoseOf 53 = .ok (.aload_n 0, 1) := by decide +kernel
theorem dX9_whoseOf_54 : decode cX9_whoseOf 54 = .ok (.getfield 13, 3) := by decide +kernel
theorem dX9_whoseOf_57 : decode cX9_whoseOf 57 = .ok (.bipush 60, 2) := by decide +kernel
theorem dX9_whoseOf_59 : decode cX9_whoseOf 59 = .ok (.iload_n 1, 1) := by decide +kernel
theorem dX9_whoseOf_60 : decode cX9_whoseOf 60 = .ok (.imul, 1) := by decide +kernel
theorem dX9_whoseOf_61 : decode cX9_whoseOf 61 = .ok (.bipush 6, 2) := by decide +kernel
theorem dX9_whoseOf_63 : decode cX9_whoseOf 63 = .ok (.iload 7, 2) := by decide +kernel
theorem dX9_whoseOf_65 : decode cX9_whoseOf 65 = .ok (.imul, 1) := by decide +kernel
theorem dX9_whoseOf_66 : decode cX9_whoseOf 66 = .ok (.iadd, 1) := by decide +kernel
theorem dX9_whoseOf_67 : decode cX9_whoseOf 67 = .ok (.iconst 1, 1) := by decide +kernel
theorem dX9_whoseOf_68 : decode cX9_whoseOf 68 = .ok (.iadd, 1) := by decide +kernel
theorem dX9_whoseOf_69 : decode cX9_whoseOf 69 = .ok (.iaload, 1) := by decide +kernel
theorem dX9_whoseOf_70 : decode cX9_whoseOf 70 = .ok (.istore 9, 2) := by decide +kernel
theorem dX9_whoseOf_72 : decode cX9_whoseOf 72 = .ok (.iload 8, 2) := by decide +kernel
theorem dX9_whoseOf_74 : decode cX9_whoseOf 74 = .ok (.bipush (-9), 2) := by decide +kernel
theorem dX9_whoseOf_76 : decode cX9_whoseOf 76 = .ok (.if_icmp .eq 58, 3) := by decide +kernel
theorem dX9_whoseOf_79 : decode cX9_whoseOf 79 = .ok (.iload 9, 2) := by decide +kernel
theorem dX9_whoseOf_81 : decode cX9_whoseOf 81 = .ok (.iload 5, 2) := by decide +kernel
theorem dX9_whoseOf_83 : decode cX9_whoseOf 83 = .ok (.if_icmp .gt 51, 3) := by decide +kernel
theorem dX9_whoseOf_86 : decode cX9_whoseOf 86 = .ok (.iload 9, 2) := by decide +kernel
theorem dX9_whoseOf_88 : decode cX9_whoseOf 88 = .ok (.iload 5, 2) := by decide +kernel
theorem dX9_whoseOf_90 : decode cX9_whoseOf 90 = .ok (.if_icmp .ge 7, 3) := by decide +kernel
theorem dX9_whoseOf_93 : decode cX9_whoseOf 93 = .ok (.iconst 0, 1) := by decide +kernel
theorem dX9_whoseOf_94 : decode cX9_whoseOf 94 = .ok (.goto 5, 3) := by decide +kernel
theorem dX9_whoseOf_97 : decode cX9_whoseOf 97 = .ok (.iload 6, 2) := by decide +kernel
theorem dX9_whoseOf_99 : decode cX9_whoseOf 99 = .ok (.iconst 1, 1) := by decide +kernel
theorem dX9_whoseOf_100 : decode cX9_whoseOf 100 = .ok (.iload 8, 2) := by decide +kernel
theorem dX9_whoseOf_102 : decode cX9_whoseOf 102 = .ok (.ishl, 1) := by decide +kernel
theorem dX9_whoseOf_103 : decode cX9_whoseOf 103 = .ok (.ior, 1) := by decide +kernel
theorem dX9_whoseOf_104 : decode cX9_whoseOf 104 = .ok (.istore 6, 2) := by decide +kernel
theorem dX9_whoseOf_106 : decode cX9_whoseOf 106 = .ok (.aload_n 0, 1) := by decide +kernel
theorem dX9_whoseOf_107 : decode cX9_whoseOf 107 = .ok (.iload 9, 2) := by decide +kernel
theorem dX9_whoseOf_109 : decode cX9_whoseOf 109 = .ok (.iload 5, 2) := by decide +kernel
theorem dX9_whoseOf_111 : decode cX9_whoseOf 111 = .ok (.if_icmp .ge 7, 3) := by decide +kernel
theorem dX9_whoseOf_114 : decode cX9_whoseOf 114 = .ok (.iconst 0, 1) := by decide +kernel
theorem dX9_whoseOf_115 : decode cX9_whoseOf 115 = .ok (.goto 7, 3) := by decide +kernel
theorem dX9_whoseOf_118 : decode cX9_whoseOf 118 = .ok (.aload_n 0, 1) := by decide +kernel
theorem dX9_whoseOf_119 : decode cX9_whoseOf 119 = .ok (.getfield 118, 3) := by decide +kernel
theorem dX9_whoseOf_122 : decode cX9_whoseOf 122 = .ok (.iconst 1, 1) := by decide +kernel
theorem dX9_whoseOf_123 : decode cX9_whoseOf 123 = .ok (.iload 7, 2) := by decide +kernel
theorem dX9_whoseOf_125 : decode cX9_whoseOf 125 = .ok (.ishl, 1) := by decide +kernel
theorem dX9_whoseOf_126 : decode cX9_whoseOf 126 = .ok (.ior, 1) := by decide +kernel
theorem dX9_whoseOf_127 : decode cX9_whoseOf 127 = .ok (.putfield 118, 3) := by decide +kernel
theorem dX9_whoseOf_130 : decode cX9_whoseOf 130 = .ok (.iload 9, 2) := by decide +kernel
theorem dX9_whoseOf_132 : decode cX9_whoseOf 132 = .ok (.istore 5, 2) := by decide +kernel
theorem dX9_whoseOf_134 : decode cX9_whoseOf 134 = .ok (.iinc 7 1, 3) := by decide +kernel
theorem dX9_whoseOf_137 : decode cX9_whoseOf 137 = .ok (.goto (-122), 3) := by decide +kernel
theorem dX9_whoseOf_140 : decode cX9_whoseOf 140 = .ok (.iload 6, 2) := by decide +kernel
theorem dX9_whoseOf_142 : decode cX9_whoseOf 142 = .ok (.ifCond .ne 7, 3) := by decide +kernel
theorem dX9_whoseOf_145 : decode cX9_whoseOf 145 = .ok (.iconst 2, 1) := by decide +kernel
theorem dX9_whoseOf_146 : decode cX9_whoseOf 146 = .ok (.goto 17, 3) := by decide +kernel
theorem dX9_whoseOf_149 : decode cX9_whoseOf 149 = .ok (.iload 6, 2) := by decide +kernel
theorem dX9_whoseOf_151 : decode cX9_whoseOf 151 = .ok (.iconst 3, 1) := by decide +kernel
theorem dX9_whoseOf_152 : decode cX9_whoseOf 152 = .ok (.if_icmp .ne 7, 3) := by decide +kernel
theorem dX9_whoseOf_155 : decode cX9_whoseOf 155 = .ok (.iconst 3, 1) := by decide +kernel
theorem dX9_whoseOf_156 : decode cX9_whoseOf 156 = .ok (.goto 7, 3) := by decide +kernel
theorem dX9_whoseOf_159 : decode cX9_whoseOf 159 = .ok (.iload 6, 2) := by decide +kernel
theorem dX9_whoseOf_161 : decode cX9_whoseOf 161 = .ok (.iconst 1, 1) := by decide +kernel
theorem dX9_whoseOf_162 : decode cX9_whoseOf 162 = .ok (.isub, 1) := by decide +kernel
theorem dX9_whoseOf_163 : decode cX9_whoseOf 163 = .ok (.ireturn, 1) := by decide +kernel
set_option maxRecDepth 20000 in
theorem ggX9_layWhose_X9_whoseOf : GoodIn wsX9_layWhose wsX9_whoseOf := goodIn_r _ [7, 8, 9, 10, 11, 12, 13, 6, 14, 15, 16, 17, 18, 19, 20, 21, 22, 23, 24, 25, 26, 27, 28, 29, 30, 31, 32, 33, 34, 35, 36, 37, 38, 39, 40, 41, 42, 43, 44, 45] (by decide +kernel) (by decide +kernel)
set_option maxRecDepth 20000 in
theorem gX9_layWhose_X9_whoseOf : GoodIn wsX9_layWhose (wsV RX9 125 RX9 yX9_whoseOf wsX9_whoseOf) := goodIn_app (goodIn_of _ (by decide +kernel)) ggX9_layWhose_X9_whoseOf
theorem dX9_layWhose_0 : decode cX9_layWhose 0 = .ok (.iconst 0, 1) := by decide +kernel
theorem dX9_layWhose_1 : decode cX9_layWhose 1 = .ok (.istore_n 1, 1) := by decide +kernel
theorem dX9_layWhose_2 : decode cX9_layWhose 2 = .ok (.iload_n 1, 1) := by decide +kernel
theorem dX9_layWhose_3 : decode cX9_layWhose 3 = .ok (.bipush 56, 2) := by decide +kernel
theorem dX9_layWhose_5 : decode cX9_layWhose 5 = .ok (.if_icmp .ge 26, 3) := by decide +kernel
theorem dX9_layWhose_8 : decode cX9_layWhose 8 = .ok (.aload_n 0, 1) := by decide +kernel
theorem dX9_layWhose_9 : decode cX9_layWhose 9 = .ok (.getfield 22, 3) := by decide +kernel
theorem dX9_layWhose_12 : decode cX9_layWhose 12 = .ok (.iload_n 1, 1) := by decide +kernel
theorem dX9_layWhose_13 : decode cX9_layWhose 13 = .ok (.aload_n 0, 1) := by decide +kernel
theorem dX9_layWhose_14 : decode cX9_layWhose 14 = .ok (.iconst 0, 1) := by decide +kernel
theorem dX9_layWhose_15 : decode cX9_layWhose 15 = .ok (.iload_n 1, 1) := by decide +kernel
theorem dX9_layWhose_16 : decode cX9_layWhose 16 = .ok (.aload_n 0, 1) := by decide +kernel
theorem dX9_layWhose_17 : decode cX9_layWhose 17 = .ok (.getfield 72, 3) := by decide +kernel
theorem dX9_layWhose_20 : decode cX9_layWhose 20 = .ok (.iconst 0, 1) := by decide +kernel
theorem dX9_layWhose_21 : decode cX9_layWhose 21 = .ok (.invokevirtual 125, 3) := by decide +kernel
theorem dX9_layWhose_24 : decode cX9_layWhose 24 = .ok (.iastore, 1) := by decide +kernel
theorem dX9_layWhose_25 : decode cX9_layWhose 25 = .ok (.iinc 1 1, 3) := by decide +kernel
theorem dX9_layWhose_28 : decode cX9_layWhose 28 = .ok (.goto (-26), 3) := by decide +kernel
theorem dX9_layWhose_31 : decode cX9_layWhose 31 = .ok (.return_, 1) := by decide +kernel
set_option maxRecDepth 20000 in
theorem ggX9_whose_X9_isNight : GoodIn wsX9_whose wsX9_isNight := goodIn_r _ [5, 6, 7, 8, 4, 9] (by decide +kernel) (by decide +kernel)
set_option maxRecDepth 20000 in
theorem gX9_whose_X9_isNight : GoodIn wsX9_whose (va_wsS RX9 128 yX9_isNight wsX9_isNight) := goodIn_app (goodIn_of _ (by decide +kernel)) ggX9_whose_X9_isNight
set_option maxRecDepth 20000 in
theorem ggX9_whose_X9_whoseOf : GoodIn wsX9_whose wsX9_whoseOf := goodIn_r _ [13, 14, 15, 16, 17, 18, 19, 4, 20, 7, 8, 9, 21, 22, 23, 24, 25, 26, 27, 28, 29, 30, 31, 32, 33, 34, 35, 36, 37, 38, 39, 40, 41, 42, 43, 44, 45, 46, 47, 48] (by decide +kernel) (by decide +kernel)
set_option maxRecDepth 20000 in
theorem gX9_whose_X9_whoseOf : GoodIn wsX9_whose (wsV RX9 125 RX9 yX9_whoseOf wsX9_whoseOf) := goodIn_app (goodIn_of _ (by decide +kernel)) ggX9_whose_X9_whoseOf
theorem dX9_whose_0 : decode cX9_whose 0 = .ok (.iload_n 1, 1) := by decide +kernel
theorem dX9_whose_1 : decode cX9_whose 1 = .ok (.invokestatic 128, 3) := by decide +kernel
theorem dX9_whose_4 : decode cX9_whose 4 = .ok (.ifCond .eq 17, 3) := by decide +kernel
theorem dX9_whose_7 : decode cX9_whose 7 = .ok (.aload_n 0, 1) := by decide +kernel
theorem dX9_whose_8 : decode cX9_whose 8 = .ok (.iconst 0, 1) := by decide +kernel
theorem dX9_whose_9 : decode cX9_whose 9 = .ok (.iload_n 1, 1) := by decide +kernel
theorem dX9_whose_10 : decode cX9_whose 10 = .ok (.aload_n 0, 1) := by decide +kernel
theorem dX9_whose_11 : decode cX9_whose 11 = .ok (.getfield 72, 3) := by decide +kernel
theorem dX9_whose_14 : decode cX9_whose 14 = .ok (.iconst 0, 1) := by decide +kernel
theorem dX9_whose_15 : decode cX9_whose 15 = .ok (.invokevirtual 125, 3) := by decide +kernel
theorem dX9_whose_18 : decode cX9_whose 18 = .ok (.goto 4, 3) := by decide +kernel
theorem dX9_whose_21 : decode cX9_whose 21 = .ok (.iconst (-1), 1) := by decide +kernel
theorem dX9_whose_22 : decode cX9_whose 22 = .ok (.ireturn, 1) := by decide +kernel
set_option maxRecDepth 20000 in
theorem ggX9_words_X9_isNight : GoodIn wsX9_words wsX9_isNight := goodIn_r _ [6, 7, 8, 9, 5, 10] (by decide +kernel) (by decide +kernel)
set_option maxRecDepth 20000 in
theorem gX9_words_X9_isNight : GoodIn wsX9_words (va_wsS RX9 128 yX9_isNight wsX9_isNight) := goodIn_app (goodIn_of _ (by decide +kernel)) ggX9_words_X9_isNight
set_option maxRecDepth 20000 in
theorem ggX9_words_X9_whoseOf : GoodIn wsX9_words wsX9_whoseOf := goodIn_r _ [14, 2, 15, 16, 17, 18, 19, 5, 20, 8, 9, 10, 21, 22, 23, 24, 25, 26, 27, 28, 29, 30, 31, 32, 33, 34, 35, 36, 37, 38, 39, 40, 41, 42, 43, 44, 45, 46, 47, 48] (by decide +kernel) (by decide +kernel)
set_option maxRecDepth 20000 in
theorem gX9_words_X9_whoseOf : GoodIn wsX9_words (wsV RX9 125 RX9 yX9_whoseOf wsX9_whoseOf) := goodIn_app (goodIn_of _ (by decide +kernel)) ggX9_words_X9_whoseOf
theorem dX9_words_0 : decode cX9_words 0 = .ok (.iload_n 1, 1) := by decide +kernel
theorem dX9_words_1 : decode cX9_words 1 = .ok (.invokestatic 128, 3) := by decide +kernel
theorem dX9_words_4 : decode cX9_words 4 = .ok (.ifCond .ne 5, 3) := by decide +kernel
theorem dX9_words_7 : decode cX9_words 7 = .ok (.iconst (-1), 1) := by decide +kernel
theorem dX9_words_8 : decode cX9_words 8 = .ok (.ireturn, 1) := by decide +kernel
theorem dX9_words_9 : decode cX9_words 9 = .ok (.aload_n 0, 1) := by decide +kernel
theorem dX9_words_10 : decode cX9_words 10 = .ok (.iconst 0, 1) := by decide +kernel
theorem dX9_words_11 : decode cX9_words 11 = .ok (.iload_n 1, 1) := by decide +kernel
theorem dX9_words_12 : decode cX9_words 12 = .ok (.aload_n 0, 1) := by decide +kernel
theorem dX9_words_13 : decode cX9_words 13 = .ok (.getfield 72, 3) := by decide +kernel
theorem dX9_words_16 : decode cX9_words 16 = .ok (.iconst 0, 1) := by decide +kernel
theorem dX9_words_17 : decode cX9_words 17 = .ok (.invokevirtual 125, 3) := by decide +kernel
theorem dX9_words_20 : decode cX9_words 20 = .ok (.pop, 1) := by decide +kernel
theorem dX9_words_21 : decode cX9_words 21 = .ok (.aload_n 0, 1) := by decide +kernel
theorem dX9_words_22 : decode cX9_words 22 = .ok (.getfield 118, 3) := by decide +kernel
theorem dX9_words_25 : decode cX9_words 25 = .ok (.ireturn, 1) := by decide +kernel
set_option maxRecDepth 20000 in
theorem ggX9_says_X9_in : GoodIn wsX9_says wsX9_in := goodIn_r _ [6] (by decide +kernel) (by decide +kernel)
set_option maxRecDepth 20000 in
theorem gX9_says_X9_in : GoodIn wsX9_says (va_wsS RX9 77 yX9_in wsX9_in) := goodIn_app (goodIn_of _ (by decide +kernel)) ggX9_says_X9_in
set_option maxRecDepth 20000 in
theorem ggX9_says_X9_isNight : GoodIn wsX9_says wsX9_isNight := goodIn_r _ [9, 10, 3, 4, 5, 6] (by decide +kernel) (by decide +kernel)
set_option maxRecDepth 20000 in
theorem gX9_says_X9_isNight : GoodIn wsX9_says (va_wsS RX9 128 yX9_isNight wsX9_isNight) := goodIn_app (goodIn_of _ (by decide +kernel)) ggX9_says_X9_isNight
set_option maxRecDepth 20000 in
theorem ggX9_says_X9_saysOf : GoodIn wsX9_says wsX9_saysOf := goodIn_r _ [14, 15, 3, 4, 5, 6, 16, 17, 18, 19, 20, 21, 22, 23, 24, 25, 26, 27, 28, 29, 30, 31, 32, 33, 34, 35, 36, 37, 38, 39, 40, 41, 42, 43] (by decide +kernel) (by decide +kernel)
set_option maxRecDepth 20000 in
theorem gX9_says_X9_saysOf : GoodIn wsX9_says (wsV RX9 121 RX9 yX9_saysOf wsX9_saysOf) := goodIn_app (goodIn_of _ (by decide +kernel)) ggX9_says_X9_saysOf
theorem dX9_says_0 : decode cX9_says 0 = .ok (.iload_n 1, 1) := by decide +kernel
theorem dX9_says_1 : decode cX9_says 1 = .ok (.i2l, 1) := by decide +kernel
theorem dX9_says_2 : decode cX9_says 2 = .ok (.lconst 0, 1) := by decide +kernel
theorem dX9_says_3 : decode cX9_says 3 = .ok (.aload_n 0, 1) := by decide +kernel
theorem dX9_says_4 : decode cX9_says 4 = .ok (.getfield 16, 3) := by decide +kernel
theorem dX9_says_7 : decode cX9_says 7 = .ok (.iconst 0, 1) := by decide +kernel
theorem dX9_says_8 : decode cX9_says 8 = .ok (.iaload, 1) := by decide +kernel
theorem dX9_says_9 : decode cX9_says 9 = .ok (.iconst 1, 1) := by decide +kernel
theorem dX9_says_10 : decode cX9_says 10 = .ok (.isub, 1) := by decide +kernel
theorem dX9_says_11 : decode cX9_says 11 = .ok (.i2l, 1) := by decide +kernel
theorem dX9_says_12 : decode cX9_says 12 = .ok (.invokestatic 77, 3) := by decide +kernel
theorem dX9_says_15 : decode cX9_says 15 = .ok (.ifCond .eq 24, 3) := by decide +kernel
theorem dX9_says_18 : decode cX9_says 18 = .ok (.iload_n 2, 1) := by decide +kernel
theorem dX9_says_19 : decode cX9_says 19 = .ok (.invokestatic 128, 3) := by decide +kernel
theorem dX9_says_22 : decode cX9_says 22 = .ok (.ifCond .eq 17, 3) := by decide +kernel
theorem dX9_says_25 : decode cX9_says 25 = .ok (.aload_n 0, 1) := by decide +kernel
theorem dX9_says_26 : decode cX9_says 26 = .ok (.iconst 0, 1) := by decide +kernel
theorem dX9_says_27 : decode cX9_says 27 = .ok (.iload_n 1, 1) := by decide +kernel
theorem dX9_says_28 : decode cX9_says 28 = .ok (.iload_n 2, 1) := by decide +kernel
theorem dX9_says_29 : decode cX9_says 29 = .ok (.aload_n 0, 1) := by decide +kernel
theorem dX9_says_30 : decode cX9_says 30 = .ok (.getfield 72, 3) := by decide +kernel
theorem dX9_says_33 : decode cX9_says 33 = .ok (.invokevirtual 121, 3) := by decide +kernel
theorem dX9_says_36 : decode cX9_says 36 = .ok (.goto 4, 3) := by decide +kernel
theorem dX9_says_39 : decode cX9_says 39 = .ok (.iconst (-1), 1) := by decide +kernel
theorem dX9_says_40 : decode cX9_says 40 = .ok (.ireturn, 1) := by decide +kernel
set_option maxRecDepth 20000 in
theorem ggX9_nights_X9_in : GoodIn wsX9_nights wsX9_in := goodIn_r _ [6] (by decide +kernel) (by decide +kernel)
set_option maxRecDepth 20000 in
theorem gX9_nights_X9_in : GoodIn wsX9_nights (va_wsS RX9 77 yX9_in wsX9_in) := goodIn_app (goodIn_of _ (by decide +kernel)) ggX9_nights_X9_in
set_option maxRecDepth 20000 in
theorem ggX9_nights_X9_layWhose : GoodIn wsX9_nights wsX9_layWhose := goodIn_r _ [10, 2, 11, 12, 13, 14, 5, 15, 16, 17, 18, 19, 20, 21, 22, 3, 4, 6, 23, 24, 25, 26, 27, 28, 29, 30, 31, 32, 33, 34, 35, 36, 37, 38, 39, 40, 41, 42, 43, 44, 45, 46, 47, 48, 49, 50] (by decide +kernel) (by decide +kernel)
set_option maxRecDepth 20000 in
theorem gX9_nights_X9_layWhose : GoodIn wsX9_nights (wsV RX9 134 RX9 yX9_layWhose wsX9_layWhose) := goodIn_app (goodIn_of _ (by decide +kernel)) ggX9_nights_X9_layWhose
theorem dX9_nights_0 : decode cX9_nights 0 = .ok (.iload_n 1, 1) := by decide +kernel
theorem dX9_nights_1 : decode cX9_nights 1 = .ok (.i2l, 1) := by decide +kernel
theorem dX9_nights_2 : decode cX9_nights 2 = .ok (.lconst 0, 1) := by decide +kernel
theorem dX9_nights_3 : decode cX9_nights 3 = .ok (.ldc2_w 132, 3) := by decide +kernel
theorem dX9_nights_6 : decode cX9_nights 6 = .ok (.invokestatic 77, 3) := by decide +kernel
theorem dX9_nights_9 : decode cX9_nights 9 = .ok (.ifCond .ne 6, 3) := by decide +kernel
theorem dX9_nights_12 : decode cX9_nights 12 = .ok (.bipush (-2), 2) := by decide +kernel
theorem dX9_nights_14 : decode cX9_nights 14 = .ok (.ireturn, 1) := by decide +kernel
theorem dX9_nights_15 : decode cX9_nights 15 = .ok (.aload_n 0, 1) := by decide +kernel
theorem dX9_nights_16 : decode cX9_nights 16 = .ok (.invokevirtual 134, 3) := by decide +kernel
theorem dX9_nights_19 : decode cX9_nights 19 = .ok (.iconst 0, 1) := by decide +kernel
theorem dX9_nights_20 : decode cX9_nights 20 = .ok (.istore_n 2, 1) := by decide +kernel
theorem dX9_nights_21 : decode cX9_nights 21 = .ok (.iconst 0, 1) := by decide +kernel
theorem dX9_nights_22 : decode cX9_nights 22 = .ok (.istore_n 3, 1) := by decide +kernel
theorem dX9_nights_23 : decode cX9_nights 23 = .ok (.iload_n 3, 1) := by decide +kernel
theorem dX9_nights_24 : decode cX9_nights 24 = .ok (.bipush 56, 2) := by decide +kernel
theorem dX9_nights_26 : decode cX9_nights 26 = .ok (.if_icmp .ge 27, 3) := by decide +kernel
theorem dX9_nights_29 : decode cX9_nights 29 = .ok (.iload_n 2, 1) := by decide +kernel
theorem dX9_nights_30 : decode cX9_nights 30 = .ok (.aload_n 0, 1) := by decide +kernel
theorem dX9_nights_31 : decode cX9_nights 31 = .ok (.getfield 22, 3) := by decide +kernel
theorem dX9_nights_34 : decode cX9_nights 34 = .ok (.iload_n 3, 1) := by decide +kernel
theorem dX9_nights_35 : decode cX9_nights 35 = .ok (.iaload, 1) := by decide +kernel
theorem dX9_nights_36 : decode cX9_nights 36 = .ok (.iload_n 1, 1) := by decide +kernel
theorem dX9_nights_37 : decode cX9_nights 37 = .ok (.if_icmp .ne 7, 3) := by decide +kernel
theorem dX9_nights_40 : decode cX9_nights 40 = .ok (.iconst 1, 1) := by decide +kernel
theorem dX9_nights_41 : decode cX9_nights 41 = .ok (.goto 4, 3) := by decide +kernel
theorem dX9_nights_44 : decode cX9_nights 44 = .ok (.iconst 0, 1) := by decide +kernel
theorem dX9_nights_45 : decode cX9_nights 45 = .ok (.iadd, 1) := by decide +kernel
theorem dX9_nights_46 : decode cX9_nights 46 = .ok (.istore_n 2, 1) := by decide +kernel
theorem dX9_nights_47 : decode cX9_nights 47 = .ok (.iinc 3 1, 3) := by decide +kernel
theorem dX9_nights_50 : decode cX9_nights 50 = .ok (.goto (-27), 3) := by decide +kernel
theorem dX9_nights_53 : decode cX9_nights 53 = .ok (.iload_n 2, 1) := by decide +kernel
theorem dX9_nights_54 : decode cX9_nights 54 = .ok (.ireturn, 1) := by decide +kernel
set_option maxRecDepth 20000 in
theorem ggX9_night_X9_in : GoodIn wsX9_night wsX9_in := goodIn_r _ [6] (by decide +kernel) (by decide +kernel)
set_option maxRecDepth 20000 in
theorem gX9_night_X9_in : GoodIn wsX9_night (va_wsS RX9 77 yX9_in wsX9_in) := goodIn_app (goodIn_of _ (by decide +kernel)) ggX9_night_X9_in
set_option maxRecDepth 20000 in
theorem ggX9_night_X9_layWhose : GoodIn wsX9_night wsX9_layWhose := goodIn_r _ [10, 2, 11, 12, 13, 14, 5, 15, 16, 17, 18, 19, 20, 21, 22, 3, 4, 6, 23, 24, 25, 26, 27, 28, 29, 30, 31, 32, 33, 34, 35, 36, 37, 38, 39, 40, 41, 42, 43, 44, 45, 46, 47, 48, 49, 50] (by decide +kernel) (by decide +kernel)
set_option maxRecDepth 20000 in
theorem gX9_night_X9_layWhose : GoodIn wsX9_night (wsV RX9 134 RX9 yX9_layWhose wsX9_layWhose) := goodIn_app (goodIn_of _ (by decide +kernel)) ggX9_night_X9_layWhose
theorem dX9_night_0 : decode cX9_night 0 = .ok (.iload_n 1, 1) := by decide +kernel
theorem dX9_night_1 : decode cX9_night 1 = .ok (.i2l, 1) := by decide +kernel
theorem dX9_night_2 : decode cX9_night 2 = .ok (.lconst 0, 1) := by decide +kernel
theorem dX9_night_3 : decode cX9_night 3 = .ok (.ldc2_w 132, 3) := by decide +kernel
theorem dX9_night_6 : decode cX9_night 6 = .ok (.invokestatic 77, 3) := by decide +kernel
theorem dX9_night_9 : decode cX9_night 9 = .ok (.ifCond .ne 6, 3) := by decide +kernel
theorem dX9_night_12 : decode cX9_night 12 = .ok (.bipush (-2), 2) := by decide +kernel
theorem dX9_night_14 : decode cX9_night 14 = .ok (.ireturn, 1) := by decide +kernel
theorem dX9_night_15 : decode cX9_night 15 = .ok (.aload_n 0, 1) := by decide +kernel
theorem dX9_night_16 : decode cX9_night 16 = .ok (.invokevirtual 134, 3) := by decide +kernel
theorem dX9_night_19 : decode cX9_night 19 = .ok (.iconst 0, 1) := by decide +kernel
theorem dX9_night_20 : decode cX9_night 20 = .ok (.istore_n 3, 1) := by decide +kernel
theorem dX9_night_21 : decode cX9_night 21 = .ok (.iconst 0, 1) := by decide +kernel
theorem dX9_night_22 : decode cX9_night 22 = .ok (.istore 4, 2) := by decide +kernel
theorem dX9_night_24 : decode cX9_night 24 = .ok (.iload 4, 2) := by decide +kernel
theorem dX9_night_26 : decode cX9_night 26 = .ok (.bipush 56, 2) := by decide +kernel
theorem dX9_night_28 : decode cX9_night 28 = .ok (.if_icmp .ge 31, 3) := by decide +kernel
theorem dX9_night_31 : decode cX9_night 31 = .ok (.aload_n 0, 1) := by decide +kernel
theorem dX9_night_32 : decode cX9_night 32 = .ok (.getfield 22, 3) := by decide +kernel
theorem dX9_night_35 : decode cX9_night 35 = .ok (.iload 4, 2) := by decide +kernel
theorem dX9_night_37 : decode cX9_night 37 = .ok (.iaload, 1) := by decide +kernel
theorem dX9_night_38 : decode cX9_night 38 = .ok (.iload_n 1, 1) := by decide +kernel
theorem dX9_night_39 : decode cX9_night 39 = .ok (.if_icmp .ne 14, 3) := by decide +kernel
theorem dX9_night_42 : decode cX9_night 42 = .ok (.iload_n 3, 1) := by decide +kernel
theorem dX9_night_43 : decode cX9_night 43 = .ok (.iload_n 2, 1) := by decide +kernel
theorem dX9_night_44 : decode cX9_night 44 = .ok (.if_icmp .ne 6, 3) := by decide +kernel
theorem dX9_night_47 : decode cX9_night 47 = .ok (.iload 4, 2) := by decide +kernel
theorem dX9_night_49 : decode cX9_night 49 = .ok (.ireturn, 1) := by decide +kernel
theorem dX9_night_50 : decode cX9_night 50 = .ok (.iinc 3 1, 3) := by decide +kernel
theorem dX9_night_53 : decode cX9_night 53 = .ok (.iinc 4 1, 3) := by decide +kernel
theorem dX9_night_56 : decode cX9_night 56 = .ok (.goto (-32), 3) := by decide +kernel
theorem dX9_night_59 : decode cX9_night 59 = .ok (.bipush (-9), 2) := by decide +kernel
theorem dX9_night_61 : decode cX9_night 61 = .ok (.ireturn, 1) := by decide +kernel
theorem dX9_ones_0 : decode cX9_ones 0 = .ok (.iconst 0, 1) := by decide +kernel
theorem dX9_ones_1 : decode cX9_ones 1 = .ok (.istore_n 1, 1) := by decide +kernel
theorem dX9_ones_2 : decode cX9_ones 2 = .ok (.iconst 0, 1) := by decide +kernel
theorem dX9_ones_3 : decode cX9_ones 3 = .ok (.istore_n 2, 1) := by decide +kernel
theorem dX9_ones_4 : decode cX9_ones 4 = .ok (.iload_n 2, 1) := by decide +kernel
theorem dX9_ones_5 : decode cX9_ones 5 = .ok (.bipush 10, 2) := by decide +kernel
theorem dX9_ones_7 : decode cX9_ones 7 = .ok (.if_icmp .ge 17, 3) := by decide +kernel
theorem dX9_ones_10 : decode cX9_ones 10 = .ok (.iload_n 1, 1) := by decide +kernel
theorem dX9_ones_11 : decode cX9_ones 11 = .ok (.iload_n 0, 1) := by decide +kernel
theorem dX9_ones_12 : decode cX9_ones 12 = .ok (.iload_n 2, 1) := by decide +kernel
theorem dX9_ones_13 : decode cX9_ones 13 = .ok (.ishr, 1) := by decide +kernel
theorem dX9_ones_14 : decode cX9_ones 14 = .ok (.iconst 1, 1) := by decide +kernel
theorem dX9_ones_15 : decode cX9_ones 15 = .ok (.iand, 1) := by decide +kernel
theorem dX9_ones_16 : decode cX9_ones 16 = .ok (.iadd, 1) := by decide +kernel
theorem dX9_ones_17 : decode cX9_ones 17 = .ok (.istore_n 1, 1) := by decide +kernel
theorem dX9_ones_18 : decode cX9_ones 18 = .ok (.iinc 2 1, 3) := by decide +kernel
theorem dX9_ones_21 : decode cX9_ones 21 = .ok (.goto (-17), 3) := by decide +kernel
theorem dX9_ones_24 : decode cX9_ones 24 = .ok (.iload_n 1, 1) := by decide +kernel
theorem dX9_ones_25 : decode cX9_ones 25 = .ok (.ireturn, 1) := by decide +kernel
set_option maxRecDepth 20000 in
theorem ggX9_layMend_X9_layWhose : GoodIn wsX9_layMend wsX9_layWhose := goodIn_r _ [9, 3, 4, 10, 11, 12, 8, 13, 14, 2, 15, 16, 17, 18, 19, 20, 21, 22, 26, 27, 28, 29, 30, 31, 32, 33, 34, 35, 36, 37, 38, 39, 40, 41, 42, 43, 44, 45, 46, 47, 48, 49, 50, 51, 52, 53] (by decide +kernel) (by decide +kernel)
set_option maxRecDepth 20000 in
theorem gX9_layMend_X9_layWhose : GoodIn wsX9_layMend (wsV RX9 134 RX9 yX9_layWhose wsX9_layWhose) := goodIn_app (goodIn_of _ (by decide +kernel)) ggX9_layMend_X9_layWhose
set_option maxRecDepth 20000 in
theorem ggX9_layMend_X9_ones : GoodIn wsX9_layMend wsX9_ones := goodIn_r _ [25] (by decide +kernel) (by decide +kernel)
set_option maxRecDepth 20000 in
theorem gX9_layMend_X9_ones : GoodIn wsX9_layMend (va_wsS RX9 140 yX9_ones wsX9_ones) := goodIn_app (goodIn_of _ (by decide +kernel)) ggX9_layMend_X9_ones
set_option maxRecDepth 20000 in
theorem ggX9_layMend_X9_whoseOf : GoodIn wsX9_layMend wsX9_whoseOf := goodIn_r _ [13, 14, 2, 15, 16, 17, 18, 8, 19, 20, 21, 22, 26, 27, 28, 29, 30, 31, 32, 33, 34, 35, 36, 37, 38, 39, 40, 41, 42, 43, 44, 45, 46, 47, 48, 49, 50, 51, 52, 53] (by decide +kernel) (by decide +kernel)
set_option maxRecDepth 20000 in
theorem gX9_layMend_X9_whoseOf : GoodIn wsX9_layMend (wsV RX9 125 RX9 yX9_whoseOf wsX9_whoseOf) := goodIn_app (goodIn_of _ (by decide +kernel)) ggX9_layMend_X9_whoseOf
theorem dX9_layMend_0 : decode cX9_layMend 0 = .ok (.aload_n 0, 1) := by decide +kernel
theorem dX9_layMend_1 : decode cX9_layMend 1 = .ok (.invokevirtual 134, 3) := by decide +kernel
theorem dX9_layMend_4 : decode cX9_layMend 4 = .ok (.iconst 0, 1) := by decide +kernel
theorem dX9_layMend_5 : decode cX9_layMend 5 = .ok (.istore_n 1, 1) := by decide +kernel
theorem dX9_layMend_6 : decode cX9_layMend 6 = .ok (.bipush 11, 2) := by decide +kernel
theorem dX9_layMend_8 : decode cX9_layMend 8 = .ok (.istore_n 2, 1) := by decide +kernel
theorem dX9_layMend_9 : decode cX9_layMend 9 = .ok (.aload_n 0, 1) := by decide +kernel
theorem dX9_layMend_10 : decode cX9_layMend 10 = .ok (.iconst 0, 1) := by decide +kernel
theorem dX9_layMend_11 : decode cX9_layMend 11 = .ok (.putfield 137, 3) := by decide +kernel
theorem dX9_layMend_14 : decode cX9_layMend 14 = .ok (.iconst 0, 1) := by decide +kernel
theorem dX9_layMend_15 : decode cX9_layMend 15 = .ok (.istore_n 3, 1) := by decide +kernel
theorem dX9_layMend_16 : decode cX9_layMend 16 = .ok (.iload_n 3, 1) := by decide +kernel
theorem dX9_layMend_17 : decode cX9_layMend 17 = .ok (.iconst 1, 1) := by decide +kernel
theorem dX9_layMend_18 : decode cX9_layMend 18 = .ok (.aload_n 0, 1) := by decide +kernel
theorem dX9_layMend_19 : decode cX9_layMend 19 = .ok (.getfield 16, 3) := by decide +kernel
theorem dX9_layMend_22 : decode cX9_layMend 22 = .ok (.iconst 0, 1) := by decide +kernel
theorem dX9_layMend_23 : decode cX9_layMend 23 = .ok (.iaload, 1) := by decide +kernel
theorem dX9_layMend_24 : decode cX9_layMend 24 = .ok (.ishl, 1) := by decide +kernel
theorem dX9_layMend_25 : decode cX9_layMend 25 = .ok (.if_icmp .ge 153, 3) := by decide +kernel
theorem dX9_layMend_28 : decode cX9_layMend 28 = .ok (.iload_n 3, 1) := by decide +kernel
theorem dX9_layMend_29 : decode cX9_layMend 29 = .ok (.invokestatic 140, 3) := by decide +kernel
theorem dX9_layMend_32 : decode cX9_layMend 32 = .ok (.iload_n 2, 1) := by decide +kernel
theorem dX9_layMend_33 : decode cX9_layMend 33 = .ok (.if_icmp .gt 139, 3) := by decide +kernel
theorem dX9_layMend_36 : decode cX9_layMend 36 = .ok (.iconst 0, 1) := by decide +kernel
theorem dX9_layMend_37 : decode cX9_layMend 37 = .ok (.istore 4, 2) := by decide +kernel
theorem dX9_layMend_39 : decode cX9_layMend 39 = .ok (.iconst 0, 1) := by decide +kernel
theorem dX9_layMend_40 : decode cX9_layMend 40 = .ok (.istore 5, 2) := by decide +kernel
theorem dX9_layMend_42 : decode cX9_layMend 42 = .ok (.iconst 0, 1) := by decide +kernel
theorem dX9_layMend_43 : decode cX9_layMend 43 = .ok (.istore 6, 2) := by decide +kernel
theorem dX9_layMend_45 : decode cX9_layMend 45 = .ok (.iload 6, 2) := by decide +kernel
theorem dX9_layMend_47 : decode cX9_layMend 47 = .ok (.bipush 56, 2) := by decide +kernel
theorem dX9_layMend_49 : decode cX9_layMend 49 = .ok (.if_icmp .ge 88, 3) := by decide +kernel
theorem dX9_layMend_52 : decode cX9_layMend 52 = .ok (.iload 5, 2) := by decide +kernel
theorem dX9_layMend_54 : decode cX9_layMend 54 = .ok (.ifCond .ne 83, 3) := by decide +kernel
theorem dX9_layMend_57 : decode cX9_layMend 57 = .ok (.iload_n 3, 1) := by decide +kernel
theorem dX9_layMend_58 : decode cX9_layMend 58 = .ok (.ifCond .ne 13, 3) := by decide +kernel
theorem dX9_layMend_61 : decode cX9_layMend 61 = .ok (.aload_n 0, 1) := by decide +kernel
theorem dX9_layMend_62 : decode cX9_layMend 62 = .ok (.getfield 22, 3) := by decide +kernel
theorem dX9_layMend_65 : decode cX9_layMend 65 = .ok (.iload 6, 2) := by decide +kernel
theorem dX9_layMend_67 : decode cX9_layMend 67 = .ok (.iaload, 1) := by decide +kernel
theorem dX9_layMend_68 : decode cX9_layMend 68 = .ok (.goto 15, 3) := by decide +kernel
theorem dX9_layMend_71 : decode cX9_layMend 71 = .ok (.aload_n 0, 1) := by decide +kernel
theorem dX9_layMend_72 : decode cX9_layMend 72 = .ok (.iconst 0, 1) := by decide +kernel
theorem dX9_layMend_73 : decode cX9_layMend 73 = .ok (.iload 6, 2) := by decide +kernel
theorem dX9_layMend_75 : decode cX9_layMend 75 = .ok (.aload_n 0, 1) := by decide +kernel
theorem dX9_layMend_76 : decode cX9_layMend 76 = .ok (.getfield 72, 3) := by decide +kernel
theorem dX9_layMend_79 : decode cX9_layMend 79 = .ok (.iload_n 3, 1) := by decide +kernel
theorem dX9_layMend_80 : decode cX9_layMend 80 = .ok (.invokevirtual 125, 3) := by decide +kernel
theorem dX9_layMend_83 : decode cX9_layMend 83 = .ok (.istore 7, 2) := by decide +kernel
theorem dX9_layMend_85 : decode cX9_layMend 85 = .ok (.iload 7, 2) := by decide +kernel
theorem dX9_layMend_87 : decode cX9_layMend 87 = .ok (.iconst 3, 1) := by decide +kernel
theorem dX9_layMend_88 : decode cX9_layMend 88 = .ok (.if_icmp .ne 7, 3) := by decide +kernel
theorem dX9_layMend_91 : decode cX9_layMend 91 = .ok (.iconst 1, 1) := by decide +kernel
theorem dX9_layMend_92 : decode cX9_layMend 92 = .ok (.goto 4, 3) := by decide +kernel
theorem dX9_layMend_95 : decode cX9_layMend 95 = .ok (.iconst 0, 1) := by decide +kernel
theorem dX9_layMend_96 : decode cX9_layMend 96 = .ok (.istore 5, 2) := by decide +kernel
theorem dX9_layMend_98 : decode cX9_layMend 98 = .ok (.iload 4, 2) := by decide +kernel
theorem dX9_layMend_100 : decode cX9_layMend 100 = .ok (.aload_n 0, 1) := by decide +kernel
theorem dX9_layMend_101 : decode cX9_layMend 101 = .ok (.getfield 22, 3) := by decide +kernel
theorem dX9_layMend_104 : decode cX9_layMend 104 = .ok (.iload 6, 2) := by decide +kernel
theorem dX9_layMend_106 : decode cX9_layMend 106 = .ok (.iaload, 1) := by decide +kernel
theorem dX9_layMend_107 : decode cX9_layMend 107 = .ok (.iconst 3, 1) := by decide +kernel
theorem dX9_layMend_108 : decode cX9_layMend 108 = .ok (.if_icmp .eq 19, 3) := by decide +kernel
theorem dX9_layMend_111 : decode cX9_layMend 111 = .ok (.iload 7, 2) := by decide +kernel
theorem dX9_layMend_113 : decode cX9_layMend 113 = .ok (.aload_n 0, 1) := by decide +kernel
theorem dX9_layMend_114 : decode cX9_layMend 114 = .ok (.getfield 22, 3) := by decide +kernel
theorem dX9_layMend_117 : decode cX9_layMend 117 = .ok (.iload 6, 2) := by decide +kernel
theorem dX9_layMend_119 : decode cX9_layMend 119 = .ok (.iaload, 1) := by decide +kernel
theorem dX9_layMend_120 : decode cX9_layMend 120 = .ok (.if_icmp .eq 7, 3) := by decide +kernel
theorem dX9_layMend_123 : decode cX9_layMend 123 = .ok (.iconst 1, 1) := by decide +kernel
theorem dX9_layMend_124 : decode cX9_layMend 124 = .ok (.goto 4, 3) := by decide +kernel
theorem dX9_layMend_127 : decode cX9_layMend 127 = .ok (.iconst 0, 1) := by decide +kernel
theorem dX9_layMend_128 : decode cX9_layMend 128 = .ok (.iadd, 1) := by decide +kernel
theorem dX9_layMend_129 : decode cX9_layMend 129 = .ok (.istore 4, 2) := by decide +kernel
theorem dX9_layMend_131 : decode cX9_layMend 131 = .ok (.iinc 6 1, 3) := by decide +kernel
theorem dX9_layMend_134 : decode cX9_layMend 134 = .ok (.goto (-89), 3) := by decide +kernel
theorem dX9_layMend_137 : decode cX9_layMend 137 = .ok (.iload 5, 2) := by decide +kernel
theorem dX9_layMend_139 : decode cX9_layMend 139 = .ok (.ifCond .ne 33, 3) := by decide +kernel
theorem dX9_layMend_142 : decode cX9_layMend 142 = .ok (.iload_n 3, 1) := by decide +kernel
theorem dX9_layMend_143 : decode cX9_layMend 143 = .ok (.invokestatic 140, 3) := by decide +kernel
theorem dX9_layMend_146 : decode cX9_layMend 146 = .ok (.iload_n 2, 1) := by decide +kernel
theorem dX9_layMend_147 : decode cX9_layMend 147 = .ok (.if_icmp .lt 12, 3) := by decide +kernel
theorem dX9_layMend_150 : decode cX9_layMend 150 = .ok (.iload 4, 2) := by decide +kernel
theorem dX9_layMend_152 : decode cX9_layMend 152 = .ok (.aload_n 0, 1) := by decide +kernel
theorem dX9_layMend_153 : decode cX9_layMend 153 = .ok (.getfield 137, 3) := by decide +kernel
theorem dX9_layMend_156 : decode cX9_layMend 156 = .ok (.if_icmp .ge 16, 3) := by decide +kernel
theorem dX9_layMend_159 : decode cX9_layMend 159 = .ok (.iload_n 3, 1) := by decide +kernel
theorem dX9_layMend_160 : decode cX9_layMend 160 = .ok (.istore_n 1, 1) := by decide +kernel
theorem dX9_layMend_161 : decode cX9_layMend 161 = .ok (.iload_n 3, 1) := by decide +kernel
theorem dX9_layMend_162 : decode cX9_layMend 162 = .ok (.invokestatic 140, 3) := by decide +kernel
theorem dX9_layMend_165 : decode cX9_layMend 165 = .ok (.istore_n 2, 1) := by decide +kernel
theorem dX9_layMend_166 : decode cX9_layMend 166 = .ok (.aload_n 0, 1) := by decide +kernel
theorem dX9_layMend_167 : decode cX9_layMend 167 = .ok (.iload 4, 2) := by decide +kernel
theorem dX9_layMend_169 : decode cX9_layMend 169 = .ok (.putfield 137, 3) := by decide +kernel
theorem dX9_layMend_172 : decode cX9_layMend 172 = .ok (.iinc 3 1, 3) := by decide +kernel
theorem dX9_layMend_175 : decode cX9_layMend 175 = .ok (.goto (-159), 3) := by decide +kernel
theorem dX9_layMend_178 : decode cX9_layMend 178 = .ok (.iload_n 1, 1) := by decide +kernel
theorem dX9_layMend_179 : decode cX9_layMend 179 = .ok (.ireturn, 1) := by decide +kernel
set_option maxRecDepth 20000 in
theorem ggX9_mend_X9_layMend : GoodIn wsX9_mend wsX9_layMend := goodIn_r _ [5, 6, 7, 8, 9, 10, 11, 12, 4, 13, 14, 15, 16, 17, 18, 19, 20, 21, 22, 23, 24, 25, 26, 27, 28, 29, 30, 31, 32, 33, 34, 35, 36, 37, 38, 39, 40, 41, 42, 43, 44, 45, 46, 47, 48, 49, 50, 51, 52, 53, 54, 55, 56, 57] (by decide +kernel) (by decide +kernel)
set_option maxRecDepth 20000 in
theorem gX9_mend_X9_layMend : GoodIn wsX9_mend (wsV RX9 143 RX9 yX9_layMend wsX9_layMend) := goodIn_app (goodIn_of _ (by decide +kernel)) ggX9_mend_X9_layMend
theorem dX9_mend_0 : decode cX9_mend 0 = .ok (.aload_n 0, 1) := by decide +kernel
theorem dX9_mend_1 : decode cX9_mend 1 = .ok (.invokevirtual 143, 3) := by decide +kernel
theorem dX9_mend_4 : decode cX9_mend 4 = .ok (.ireturn, 1) := by decide +kernel
set_option maxRecDepth 20000 in
theorem ggX9_changes_X9_layMend : GoodIn wsX9_changes wsX9_layMend := goodIn_r _ [6, 1, 7, 8, 9, 10, 11, 12, 5, 13, 14, 15, 16, 17, 18, 19, 20, 21, 22, 23, 24, 25, 26, 27, 28, 29, 30, 31, 32, 33, 34, 35, 36, 37, 38, 39, 40, 41, 42, 43, 44, 45, 46, 47, 48, 49, 50, 51, 52, 53, 54, 55, 56, 57] (by decide +kernel) (by decide +kernel)
set_option maxRecDepth 20000 in
theorem gX9_changes_X9_layMend : GoodIn wsX9_changes (wsV RX9 143 RX9 yX9_layMend wsX9_layMend) := goodIn_app (goodIn_of _ (by decide +kernel)) ggX9_changes_X9_layMend
theorem dX9_changes_0 : decode cX9_changes 0 = .ok (.aload_n 0, 1) := by decide +kernel
theorem dX9_changes_1 : decode cX9_changes 1 = .ok (.invokevirtual 143, 3) := by decide +kernel
theorem dX9_changes_4 : decode cX9_changes 4 = .ok (.pop, 1) := by decide +kernel
theorem dX9_changes_5 : decode cX9_changes 5 = .ok (.aload_n 0, 1) := by decide +kernel
theorem dX9_changes_6 : decode cX9_changes 6 = .ok (.getfield 137, 3) := by decide +kernel
theorem dX9_changes_9 : decode cX9_changes 9 = .ok (.ireturn, 1) := by decide +kernel
set_option maxRecDepth 20000 in
theorem ggX9_put_X9_isNight : GoodIn wsX9_put wsX9_isNight := goodIn_r _ [5, 6, 7, 8, 4, 9] (by decide +kernel) (by decide +kernel)
set_option maxRecDepth 20000 in
theorem gX9_put_X9_isNight : GoodIn wsX9_put (va_wsS RX9 128 yX9_isNight wsX9_isNight) := goodIn_app (goodIn_of _ (by decide +kernel)) ggX9_put_X9_isNight
set_option maxRecDepth 20000 in
theorem ggX9_put_X9_isHouse : GoodIn wsX9_put wsX9_isHouse := goodIn_r _ [12, 7, 8, 4, 9] (by decide +kernel) (by decide +kernel)
set_option maxRecDepth 20000 in
theorem gX9_put_X9_isHouse : GoodIn wsX9_put (va_wsS RX9 146 yX9_isHouse wsX9_isHouse) := goodIn_app (goodIn_of _ (by decide +kernel)) ggX9_put_X9_isHouse
theorem dX9_put_0 : decode cX9_put 0 = .ok (.iload_n 1, 1) := by decide +kernel
theorem dX9_put_1 : decode cX9_put 1 = .ok (.invokestatic 128, 3) := by decide +kernel
theorem dX9_put_4 : decode cX9_put 4 = .ok (.ifCond .eq 10, 3) := by decide +kernel
theorem dX9_put_7 : decode cX9_put 7 = .ok (.iload_n 2, 1) := by decide +kernel
theorem dX9_put_8 : decode cX9_put 8 = .ok (.invokestatic 146, 3) := by decide +kernel
theorem dX9_put_11 : decode cX9_put 11 = .ok (.ifCond .ne 5, 3) := by decide +kernel
theorem dX9_put_14 : decode cX9_put 14 = .ok (.iconst (-1), 1) := by decide +kernel
theorem dX9_put_15 : decode cX9_put 15 = .ok (.ireturn, 1) := by decide +kernel
theorem dX9_put_16 : decode cX9_put 16 = .ok (.aload_n 0, 1) := by decide +kernel
theorem dX9_put_17 : decode cX9_put 17 = .ok (.getfield 25, 3) := by decide +kernel
theorem dX9_put_20 : decode cX9_put 20 = .ok (.iload_n 1, 1) := by decide +kernel
theorem dX9_put_21 : decode cX9_put 21 = .ok (.iaload, 1) := by decide +kernel
theorem dX9_put_22 : decode cX9_put 22 = .ok (.istore_n 3, 1) := by decide +kernel
theorem dX9_put_23 : decode cX9_put 23 = .ok (.aload_n 0, 1) := by decide +kernel
theorem dX9_put_24 : decode cX9_put 24 = .ok (.getfield 25, 3) := by decide +kernel
theorem dX9_put_27 : decode cX9_put 27 = .ok (.iload_n 1, 1) := by decide +kernel
theorem dX9_put_28 : decode cX9_put 28 = .ok (.iload_n 2, 1) := by decide +kernel
theorem dX9_put_29 : decode cX9_put 29 = .ok (.iastore, 1) := by decide +kernel
theorem dX9_put_30 : decode cX9_put 30 = .ok (.iload_n 3, 1) := by decide +kernel
theorem dX9_put_31 : decode cX9_put 31 = .ok (.ireturn, 1) := by decide +kernel
set_option maxRecDepth 20000 in
theorem ggX9_at_X9_isNight : GoodIn wsX9_at wsX9_isNight := goodIn_r _ [5, 6, 7, 8, 4, 9] (by decide +kernel) (by decide +kernel)
set_option maxRecDepth 20000 in
theorem gX9_at_X9_isNight : GoodIn wsX9_at (va_wsS RX9 128 yX9_isNight wsX9_isNight) := goodIn_app (goodIn_of _ (by decide +kernel)) ggX9_at_X9_isNight
theorem dX9_at_0 : decode cX9_at 0 = .ok (.iload_n 1, 1) := by decide +kernel
theorem dX9_at_1 : decode cX9_at 1 = .ok (.invokestatic 128, 3) := by decide +kernel
theorem dX9_at_4 : decode cX9_at 4 = .ok (.ifCond .eq 12, 3) := by decide +kernel
theorem dX9_at_7 : decode cX9_at 7 = .ok (.aload_n 0, 1) := by decide +kernel
theorem dX9_at_8 : decode cX9_at 8 = .ok (.getfield 25, 3) := by decide +kernel
theorem dX9_at_11 : decode cX9_at 11 = .ok (.iload_n 1, 1) := by decide +kernel
theorem dX9_at_12 : decode cX9_at 12 = .ok (.iaload, 1) := by decide +kernel
theorem dX9_at_13 : decode cX9_at 13 = .ok (.goto 4, 3) := by decide +kernel
theorem dX9_at_16 : decode cX9_at 16 = .ok (.iconst (-1), 1) := by decide +kernel
theorem dX9_at_17 : decode cX9_at 17 = .ok (.ireturn, 1) := by decide +kernel
set_option maxRecDepth 20000 in
theorem ggX9_judge_X9_layWhose : GoodIn wsX9_judge wsX9_layWhose := goodIn_r _ [7, 1, 8, 9, 10, 11, 6, 12, 13, 14, 15, 16, 17, 18, 19, 20, 21, 22, 23, 24, 25, 26, 27, 28, 29, 30, 31, 32, 33, 34, 35, 36, 37, 38, 39, 40, 41, 42, 43, 44, 45, 46, 47, 48, 49, 50] (by decide +kernel) (by decide +kernel)
set_option maxRecDepth 20000 in
theorem gX9_judge_X9_layWhose : GoodIn wsX9_judge (wsV RX9 134 RX9 yX9_layWhose wsX9_layWhose) := goodIn_app (goodIn_of _ (by decide +kernel)) ggX9_judge_X9_layWhose
theorem dX9_judge_0 : decode cX9_judge 0 = .ok (.aload_n 0, 1) := by decide +kernel
theorem dX9_judge_1 : decode cX9_judge 1 = .ok (.invokevirtual 134, 3) := by decide +kernel
theorem dX9_judge_4 : decode cX9_judge 4 = .ok (.iconst 0, 1) := by decide +kernel
theorem dX9_judge_5 : decode cX9_judge 5 = .ok (.istore_n 1, 1) := by decide +kernel
theorem dX9_judge_6 : decode cX9_judge 6 = .ok (.iload_n 1, 1) := by decide +kernel
theorem dX9_judge_7 : decode cX9_judge 7 = .ok (.bipush 56, 2) := by decide +kernel
theorem dX9_judge_9 : decode cX9_judge 9 = .ok (.if_icmp .ge 36, 3) := by decide +kernel
theorem dX9_judge_12 : decode cX9_judge 12 = .ok (.aload_n 0, 1) := by decide +kernel
theorem dX9_judge_13 : decode cX9_judge 13 = .ok (.getfield 22, 3) := by decide +kernel
theorem dX9_judge_16 : decode cX9_judge 16 = .ok (.iload_n 1, 1) := by decide +kernel
theorem dX9_judge_17 : decode cX9_judge 17 = .ok (.iaload, 1) := by decide +kernel
theorem dX9_judge_18 : decode cX9_judge 18 = .ok (.iconst 2, 1) := by decide +kernel
theorem dX9_judge_19 : decode cX9_judge 19 = .ok (.if_icmp .ge 20, 3) := by decide +kernel
theorem dX9_judge_22 : decode cX9_judge 22 = .ok (.aload_n 0, 1) := by decide +kernel
theorem dX9_judge_23 : decode cX9_judge 23 = .ok (.getfield 22, 3) := by decide +kernel
theorem dX9_judge_26 : decode cX9_judge 26 = .ok (.iload_n 1, 1) := by decide +kernel
theorem dX9_judge_27 : decode cX9_judge 27 = .ok (.iaload, 1) := by decide +kernel
theorem dX9_judge_28 : decode cX9_judge 28 = .ok (.aload_n 0, 1) := by decide +kernel
theorem dX9_judge_29 : decode cX9_judge 29 = .ok (.getfield 25, 3) := by decide +kernel
theorem dX9_judge_32 : decode cX9_judge 32 = .ok (.iload_n 1, 1) := by decide +kernel
theorem dX9_judge_33 : decode cX9_judge 33 = .ok (.iaload, 1) := by decide +kernel
theorem dX9_judge_34 : decode cX9_judge 34 = .ok (.if_icmp .eq 5, 3) := by decide +kernel
theorem dX9_judge_37 : decode cX9_judge 37 = .ok (.iload_n 1, 1) := by decide +kernel
theorem dX9_judge_38 : decode cX9_judge 38 = .ok (.ireturn, 1) := by decide +kernel
theorem dX9_judge_39 : decode cX9_judge 39 = .ok (.iinc 1 1, 3) := by decide +kernel
theorem dX9_judge_42 : decode cX9_judge 42 = .ok (.goto (-36), 3) := by decide +kernel
theorem dX9_judge_45 : decode cX9_judge 45 = .ok (.bipush (-9), 2) := by decide +kernel
theorem dX9_judge_47 : decode cX9_judge 47 = .ok (.ireturn, 1) := by decide +kernel
theorem dX9_counts_0 : decode cX9_counts 0 = .ok (.iconst 0, 1) := by decide +kernel
theorem dX9_counts_1 : decode cX9_counts 1 = .ok (.istore_n 2, 1) := by decide +kernel
theorem dX9_counts_2 : decode cX9_counts 2 = .ok (.iconst 0, 1) := by decide +kernel
theorem dX9_counts_3 : decode cX9_counts 3 = .ok (.istore_n 3, 1) := by decide +kernel
theorem dX9_counts_4 : decode cX9_counts 4 = .ok (.iconst 0, 1) := by decide +kernel
theorem dX9_counts_5 : decode cX9_counts 5 = .ok (.istore 4, 2) := by decide +kernel
theorem dX9_counts_7 : decode cX9_counts 7 = .ok (.iconst 0, 1) := by decide +kernel
theorem dX9_counts_8 : decode cX9_counts 8 = .ok (.istore 5, 2) := by decide +kernel
theorem dX9_counts_10 : decode cX9_counts 10 = .ok (.iconst 0, 1) := by decide +kernel
theorem dX9_counts_11 : decode cX9_counts 11 = .ok (.istore 6, 2) := by decide +kernel
theorem dX9_counts_13 : decode cX9_counts 13 = .ok (.iconst 0, 1) := by decide +kernel
theorem dX9_counts_14 : decode cX9_counts 14 = .ok (.istore 7, 2) := by decide +kernel
theorem dX9_counts_16 : decode cX9_counts 16 = .ok (.iload 7, 2) := by decide +kernel
theorem dX9_counts_18 : decode cX9_counts 18 = .ok (.bipush 56, 2) := by decide +kernel
theorem dX9_counts_20 : decode cX9_counts 20 = .ok (.if_icmp .ge 131, 3) := by decide +kernel
theorem dX9_counts_23 : decode cX9_counts 23 = .ok (.iload_n 2, 1) := by decide +kernel
theorem dX9_counts_24 : decode cX9_counts 24 = .ok (.aload_n 0, 1) := by decide +kernel
theorem dX9_counts_25 : decode cX9_counts 25 = .ok (.getfield 25, 3) := by decide +kernel
theorem dX9_counts_28 : decode cX9_counts 28 = .ok (.iload 7, 2) := by decide +kernel
theorem dX9_counts_30 : decode cX9_counts 30 = .ok (.iaload, 1) := by decide +kernel
theorem dX9_counts_31 : decode cX9_counts 31 = .ok (.iadd, 1) := by decide +kernel
theorem dX9_counts_32 : decode cX9_counts 32 = .ok (.istore_n 2, 1) := by decide +kernel
theorem dX9_counts_33 : decode cX9_counts 33 = .ok (.iload 7, 2) := by decide +kernel
theorem dX9_counts_35 : decode cX9_counts 35 = .ok (.ifCond .le 26, 3) := by decide +kernel
theorem dX9_counts_38 : decode cX9_counts 38 = .ok (.aload_n 0, 1) := by decide +kernel
theorem dX9_counts_39 : decode cX9_counts 39 = .ok (.getfield 25, 3) := by decide +kernel
theorem dX9_counts_42 : decode cX9_counts 42 = .ok (.iload 7, 2) := by decide +kernel
theorem dX9_counts_44 : decode cX9_counts 44 = .ok (.iaload, 1) := by decide +kernel
theorem dX9_counts_45 : decode cX9_counts 45 = .ok (.aload_n 0, 1) := by decide +kernel
theorem dX9_counts_46 : decode cX9_counts 46 = .ok (.getfield 25, 3) := by decide +kernel
theorem dX9_counts_49 : decode cX9_counts 49 = .ok (.iload 7, 2) := by decide +kernel
theorem dX9_counts_51 : decode cX9_counts 51 = .ok (.iconst 1, 1) := by decide +kernel
theorem dX9_counts_52 : decode cX9_counts 52 = .ok (.isub, 1) := by decide +kernel
theorem dX9_counts_53 : decode cX9_counts 53 = .ok (.iaload, 1) := by decide +kernel
theorem dX9_counts_54 : decode cX9_counts 54 = .ok (.if_icmp .eq 7, 3) := by decide +kernel
theorem dX9_counts_57 : decode cX9_counts 57 = .ok (.iconst 1, 1) := by decide +kernel
theorem dX9_counts_58 : decode cX9_counts 58 = .ok (.goto 4, 3) := by decide +kernel
theorem dX9_counts_61 : decode cX9_counts 61 = .ok (.iconst 0, 1) := by decide +kernel
theorem dX9_counts_62 : decode cX9_counts 62 = .ok (.istore 8, 2) := by decide +kernel
theorem dX9_counts_64 : decode cX9_counts 64 = .ok (.iload_n 3, 1) := by decide +kernel
theorem dX9_counts_65 : decode cX9_counts 65 = .ok (.iload 8, 2) := by decide +kernel
theorem dX9_counts_67 : decode cX9_counts 67 = .ok (.ifCond .eq 7, 3) := by decide +kernel
theorem dX9_counts_70 : decode cX9_counts 70 = .ok (.iconst 1, 1) := by decide +kernel
theorem dX9_counts_71 : decode cX9_counts 71 = .ok (.goto 4, 3) := by decide +kernel
theorem dX9_counts_74 : decode cX9_counts 74 = .ok (.iconst 0, 1) := by decide +kernel
theorem dX9_counts_75 : decode cX9_counts 75 = .ok (.iadd, 1) := by decide +kernel
theorem dX9_counts_76 : decode cX9_counts 76 = .ok (.istore_n 3, 1) := by decide +kernel
theorem dX9_counts_77 : decode cX9_counts 77 = .ok (.iload 8, 2) := by decide +kernel
theorem dX9_counts_79 : decode cX9_counts 79 = .ok (.ifCond .eq 7, 3) := by decide +kernel
theorem dX9_counts_82 : decode cX9_counts 82 = .ok (.iconst 1, 1) := by decide +kernel
theorem dX9_counts_83 : decode cX9_counts 83 = .ok (.goto 7, 3) := by decide +kernel
theorem dX9_counts_86 : decode cX9_counts 86 = .ok (.iload 4, 2) := by decide +kernel
theorem dX9_counts_88 : decode cX9_counts 88 = .ok (.iconst 1, 1) := by decide +kernel
theorem dX9_counts_89 : decode cX9_counts 89 = .ok (.iadd, 1) := by decide +kernel
theorem dX9_counts_90 : decode cX9_counts 90 = .ok (.istore 4, 2) := by decide +kernel
theorem dX9_counts_92 : decode cX9_counts 92 = .ok (.aload_n 0, 1) := by decide +kernel
theorem dX9_counts_93 : decode cX9_counts 93 = .ok (.getfield 25, 3) := by decide +kernel
theorem dX9_counts_96 : decode cX9_counts 96 = .ok (.iload 7, 2) := by decide +kernel
theorem dX9_counts_98 : decode cX9_counts 98 = .ok (.iaload, 1) := by decide +kernel
theorem dX9_counts_99 : decode cX9_counts 99 = .ok (.ifCond .ne 15, 3) := by decide +kernel
theorem dX9_counts_102 : decode cX9_counts 102 = .ok (.iload 4, 2) := by decide +kernel
theorem dX9_counts_104 : decode cX9_counts 104 = .ok (.iload 5, 2) := by decide +kernel
theorem dX9_counts_106 : decode cX9_counts 106 = .ok (.if_icmp .le 8, 3) := by decide +kernel
theorem dX9_counts_109 : decode cX9_counts 109 = .ok (.iload 4, 2) := by decide +kernel
theorem dX9_counts_111 : decode cX9_counts 111 = .ok (.goto 5, 3) := by decide +kernel
theorem dX9_counts_114 : decode cX9_counts 114 = .ok (.iload 5, 2) := by decide +kernel
theorem dX9_counts_116 : decode cX9_counts 116 = .ok (.istore 5, 2) := by decide +kernel
theorem dX9_counts_118 : decode cX9_counts 118 = .ok (.aload_n 0, 1) := by decide +kernel
theorem dX9_counts_119 : decode cX9_counts 119 = .ok (.getfield 25, 3) := by decide +kernel
theorem dX9_counts_122 : decode cX9_counts 122 = .ok (.iload 7, 2) := by decide +kernel
theorem dX9_counts_124 : decode cX9_counts 124 = .ok (.iaload, 1) := by decide +kernel
theorem dX9_counts_125 : decode cX9_counts 125 = .ok (.iconst 1, 1) := by decide +kernel
theorem dX9_counts_126 : decode cX9_counts 126 = .ok (.if_icmp .ne 15, 3) := by decide +kernel
theorem dX9_counts_129 : decode cX9_counts 129 = .ok (.iload 4, 2) := by decide +kernel
theorem dX9_counts_131 : decode cX9_counts 131 = .ok (.iload 6, 2) := by decide +kernel
theorem dX9_counts_133 : decode cX9_counts 133 = .ok (.if_icmp .le 8, 3) := by decide +kernel
theorem dX9_counts_136 : decode cX9_counts 136 = .ok (.iload 4, 2) := by decide +kernel
theorem dX9_counts_138 : decode cX9_counts 138 = .ok (.goto 5, 3) := by decide +kernel
theorem dX9_counts_141 : decode cX9_counts 141 = .ok (.iload 6, 2) := by decide +kernel
theorem dX9_counts_143 : decode cX9_counts 143 = .ok (.istore 6, 2) := by decide +kernel
theorem dX9_counts_145 : decode cX9_counts 145 = .ok (.iinc 7 1, 3) := by decide +kernel
theorem dX9_counts_148 : decode cX9_counts 148 = .ok (.goto (-132), 3) := by decide +kernel
theorem dX9_counts_151 : decode cX9_counts 151 = .ok (.iload_n 1, 1) := by decide +kernel
theorem dX9_counts_152 : decode cX9_counts 152 = .ok (.tableswitch 51 0 4 #[36, 41, 43, 45, 48], 36) := by decide +kernel
theorem dX9_counts_188 : decode cX9_counts 188 = .ok (.bipush 56, 2) := by decide +kernel
theorem dX9_counts_190 : decode cX9_counts 190 = .ok (.iload_n 2, 1) := by decide +kernel
theorem dX9_counts_191 : decode cX9_counts 191 = .ok (.isub, 1) := by decide +kernel
theorem dX9_counts_192 : decode cX9_counts 192 = .ok (.ireturn, 1) := by decide +kernel
theorem dX9_counts_193 : decode cX9_counts 193 = .ok (.iload_n 2, 1) := by decide +kernel
theorem dX9_counts_194 : decode cX9_counts 194 = .ok (.ireturn, 1) := by decide +kernel
theorem dX9_counts_195 : decode cX9_counts 195 = .ok (.iload_n 3, 1) := by decide +kernel
theorem dX9_counts_196 : decode cX9_counts 196 = .ok (.ireturn, 1) := by decide +kernel
theorem dX9_counts_197 : decode cX9_counts 197 = .ok (.iload 5, 2) := by decide +kernel
theorem dX9_counts_199 : decode cX9_counts 199 = .ok (.ireturn, 1) := by decide +kernel
theorem dX9_counts_200 : decode cX9_counts 200 = .ok (.iload 6, 2) := by decide +kernel
theorem dX9_counts_202 : decode cX9_counts 202 = .ok (.ireturn, 1) := by decide +kernel
theorem dX9_counts_203 : decode cX9_counts 203 = .ok (.bipush (-2), 2) := by decide +kernel
theorem dX9_counts_205 : decode cX9_counts 205 = .ok (.ireturn, 1) := by decide +kernel
set_option maxRecDepth 20000 in
theorem ggX9_wish_X9_in : GoodIn wsX9_wish wsX9_in := goodIn_r _ [9] (by decide +kernel) (by decide +kernel)
set_option maxRecDepth 20000 in
theorem gX9_wish_X9_in : GoodIn wsX9_wish (va_wsS RX9 77 yX9_in wsX9_in) := goodIn_app (goodIn_of _ (by decide +kernel)) ggX9_wish_X9_in
theorem dX9_wish_0 : decode cX9_wish 0 = .ok (.iload_n 1, 1) := by decide +kernel
theorem dX9_wish_1 : decode cX9_wish 1 = .ok (.i2l, 1) := by decide +kernel
theorem dX9_wish_2 : decode cX9_wish 2 = .ok (.lconst 1, 1) := by decide +kernel
theorem dX9_wish_3 : decode cX9_wish 3 = .ok (.ldc2_w 149, 3) := by decide +kernel
theorem dX9_wish_6 : decode cX9_wish 6 = .ok (.invokestatic 77, 3) := by decide +kernel
theorem dX9_wish_9 : decode cX9_wish 9 = .ok (.ifCond .eq 27, 3) := by decide +kernel
