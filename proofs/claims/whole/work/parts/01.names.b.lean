theorem dX1_upTo_3 : decode cX1_upTo 3 = .ok (.iload_n 0, 1) := by decide +kernel
theorem dX1_upTo_4 : decode cX1_upTo 4 = .ok (.lshl, 1) := by decide +kernel
theorem dX1_upTo_5 : decode cX1_upTo 5 = .ok (.lconst 1, 1) := by decide +kernel
theorem dX1_upTo_6 : decode cX1_upTo 6 = .ok (.lsub, 1) := by decide +kernel
theorem dX1_upTo_7 : decode cX1_upTo 7 = .ok (.lreturn, 1) := by decide +kernel
set_option maxRecDepth 20000 in
theorem ggX1_span_X1_upTo : GoodIn wsX1_span wsX1_upTo := goodIn_r _ [5, 6] (by decide +kernel) (by decide +kernel)
set_option maxRecDepth 20000 in
theorem gX1_span_X1_upTo : GoodIn wsX1_span (va_wsS RX1 15 yX1_upTo wsX1_upTo) := goodIn_app (goodIn_of _ (by decide +kernel)) ggX1_span_X1_upTo
theorem dX1_span_0 : decode cX1_span 0 = .ok (.iload_n 1, 1) := by decide +kernel
theorem dX1_span_1 : decode cX1_span 1 = .ok (.invokestatic 15, 3) := by decide +kernel
theorem dX1_span_4 : decode cX1_span 4 = .ok (.ldc2_w 9, 3) := by decide +kernel
theorem dX1_span_7 : decode cX1_span 7 = .ok (.iload_n 0, 1) := by decide +kernel
theorem dX1_span_8 : decode cX1_span 8 = .ok (.lshl, 1) := by decide +kernel
theorem dX1_span_9 : decode cX1_span 9 = .ok (.land, 1) := by decide +kernel
theorem dX1_span_10 : decode cX1_span 10 = .ok (.lreturn, 1) := by decide +kernel
theorem dX1_turned_0 : decode cX1_turned 0 = .ok (.lload_n 0, 1) := by decide +kernel
theorem dX1_turned_1 : decode cX1_turned 1 = .ok (.lconst 1, 1) := by decide +kernel
theorem dX1_turned_2 : decode cX1_turned 2 = .ok (.iload_n 2, 1) := by decide +kernel
theorem dX1_turned_3 : decode cX1_turned 3 = .ok (.lshl, 1) := by decide +kernel
theorem dX1_turned_4 : decode cX1_turned 4 = .ok (.lxor, 1) := by decide +kernel
theorem dX1_turned_5 : decode cX1_turned 5 = .ok (.lconst 1, 1) := by decide +kernel
theorem dX1_turned_6 : decode cX1_turned 6 = .ok (.iload_n 3, 1) := by decide +kernel
theorem dX1_turned_7 : decode cX1_turned 7 = .ok (.lshl, 1) := by decide +kernel
theorem dX1_turned_8 : decode cX1_turned 8 = .ok (.lxor, 1) := by decide +kernel
theorem dX1_turned_9 : decode cX1_turned 9 = .ok (.lreturn, 1) := by decide +kernel
theorem dX1_handings_0 : decode cX1_handings 0 = .ok (.lload_n 0, 1) := by decide +kernel
theorem dX1_handings_1 : decode cX1_handings 1 = .ok (.lload_n 0, 1) := by decide +kernel
theorem dX1_handings_2 : decode cX1_handings 2 = .ok (.iconst 1, 1) := by decide +kernel
theorem dX1_handings_3 : decode cX1_handings 3 = .ok (.lshl, 1) := by decide +kernel
theorem dX1_handings_4 : decode cX1_handings 4 = .ok (.lxor, 1) := by decide +kernel
theorem dX1_handings_5 : decode cX1_handings 5 = .ok (.ldc2_w 9, 3) := by decide +kernel
theorem dX1_handings_8 : decode cX1_handings 8 = .ok (.land, 1) := by decide +kernel
theorem dX1_handings_9 : decode cX1_handings 9 = .ok (.ldc2_w 21, 3) := by decide +kernel
theorem dX1_handings_12 : decode cX1_handings 12 = .ok (.land, 1) := by decide +kernel
theorem dX1_handings_13 : decode cX1_handings 13 = .ok (.lreturn, 1) := by decide +kernel
set_option maxRecDepth 20000 in
theorem ggX1_pick_J13_bitCount_95d88 : GoodIn wsX1_pick wsJ13_bitCount_95d88 := goodIn_r _ [4, 5, 6, 7] (by decide +kernel) (by decide +kernel)
set_option maxRecDepth 20000 in
theorem gX1_pick_J13_bitCount_95d88 : GoodIn wsX1_pick (va_wsS RX1 23 yJ13_bitCount_95d88 wsJ13_bitCount_95d88) := goodIn_app (goodIn_of _ (by decide +kernel)) ggX1_pick_J13_bitCount_95d88
theorem dX1_pick_0 : decode cX1_pick 0 = .ok (.iload_n 2, 1) := by decide +kernel
theorem dX1_pick_1 : decode cX1_pick 1 = .ok (.ifCond .lt 11, 3) := by decide +kernel
theorem dX1_pick_4 : decode cX1_pick 4 = .ok (.iload_n 2, 1) := by decide +kernel
theorem dX1_pick_5 : decode cX1_pick 5 = .ok (.lload_n 0, 1) := by decide +kernel
theorem dX1_pick_6 : decode cX1_pick 6 = .ok (.invokestatic 23, 3) := by decide +kernel
theorem dX1_pick_9 : decode cX1_pick 9 = .ok (.if_icmp .lt 6, 3) := by decide +kernel
theorem dX1_pick_12 : decode cX1_pick 12 = .ok (.bipush (-9), 2) := by decide +kernel
theorem dX1_pick_14 : decode cX1_pick 14 = .ok (.ireturn, 1) := by decide +kernel
theorem dX1_pick_15 : decode cX1_pick 15 = .ok (.lload_n 0, 1) := by decide +kernel
theorem dX1_pick_16 : decode cX1_pick 16 = .ok (.lstore_n 3, 1) := by decide +kernel
theorem dX1_pick_17 : decode cX1_pick 17 = .ok (.iconst 0, 1) := by decide +kernel
theorem dX1_pick_18 : decode cX1_pick 18 = .ok (.istore 5, 2) := by decide +kernel
theorem dX1_pick_20 : decode cX1_pick 20 = .ok (.iload 5, 2) := by decide +kernel
theorem dX1_pick_22 : decode cX1_pick 22 = .ok (.iload_n 2, 1) := by decide +kernel
theorem dX1_pick_23 : decode cX1_pick 23 = .ok (.if_icmp .ge 15, 3) := by decide +kernel
theorem dX1_pick_26 : decode cX1_pick 26 = .ok (.lload_n 3, 1) := by decide +kernel
theorem dX1_pick_27 : decode cX1_pick 27 = .ok (.lload_n 3, 1) := by decide +kernel
theorem dX1_pick_28 : decode cX1_pick 28 = .ok (.lconst 1, 1) := by decide +kernel
theorem dX1_pick_29 : decode cX1_pick 29 = .ok (.lsub, 1) := by decide +kernel
theorem dX1_pick_30 : decode cX1_pick 30 = .ok (.land, 1) := by decide +kernel
theorem dX1_pick_31 : decode cX1_pick 31 = .ok (.lstore_n 3, 1) := by decide +kernel
theorem dX1_pick_32 : decode cX1_pick 32 = .ok (.iinc 5 1, 3) := by decide +kernel
theorem dX1_pick_35 : decode cX1_pick 35 = .ok (.goto (-15), 3) := by decide +kernel
theorem dX1_pick_38 : decode cX1_pick 38 = .ok (.lload_n 3, 1) := by decide +kernel
theorem dX1_pick_39 : decode cX1_pick 39 = .ok (.lload_n 3, 1) := by decide +kernel
theorem dX1_pick_40 : decode cX1_pick 40 = .ok (.lneg, 1) := by decide +kernel
theorem dX1_pick_41 : decode cX1_pick 41 = .ok (.land, 1) := by decide +kernel
theorem dX1_pick_42 : decode cX1_pick 42 = .ok (.lconst 1, 1) := by decide +kernel
theorem dX1_pick_43 : decode cX1_pick 43 = .ok (.lsub, 1) := by decide +kernel
theorem dX1_pick_44 : decode cX1_pick 44 = .ok (.invokestatic 23, 3) := by decide +kernel
theorem dX1_pick_47 : decode cX1_pick 47 = .ok (.ireturn, 1) := by decide +kernel
theorem dX1_longestRow_0 : decode cX1_longestRow 0 = .ok (.lload_n 0, 1) := by decide +kernel
theorem dX1_longestRow_1 : decode cX1_longestRow 1 = .ok (.lstore_n 2, 1) := by decide +kernel
theorem dX1_longestRow_2 : decode cX1_longestRow 2 = .ok (.iconst 0, 1) := by decide +kernel
theorem dX1_longestRow_3 : decode cX1_longestRow 3 = .ok (.istore 4, 2) := by decide +kernel
theorem dX1_longestRow_5 : decode cX1_longestRow 5 = .ok (.iload 4, 2) := by decide +kernel
theorem dX1_longestRow_7 : decode cX1_longestRow 7 = .ok (.bipush 56, 2) := by decide +kernel
theorem dX1_longestRow_9 : decode cX1_longestRow 9 = .ok (.if_icmp .ge 21, 3) := by decide +kernel
theorem dX1_longestRow_12 : decode cX1_longestRow 12 = .ok (.lload_n 2, 1) := by decide +kernel
theorem dX1_longestRow_13 : decode cX1_longestRow 13 = .ok (.lconst 0, 1) := by decide +kernel
theorem dX1_longestRow_14 : decode cX1_longestRow 14 = .ok (.lcmp, 1) := by decide +kernel
theorem dX1_longestRow_15 : decode cX1_longestRow 15 = .ok (.ifCond .eq 15, 3) := by decide +kernel
theorem dX1_longestRow_18 : decode cX1_longestRow 18 = .ok (.iinc 4 1, 3) := by decide +kernel
theorem dX1_longestRow_21 : decode cX1_longestRow 21 = .ok (.lload_n 2, 1) := by decide +kernel
theorem dX1_longestRow_22 : decode cX1_longestRow 22 = .ok (.lload_n 2, 1) := by decide +kernel
theorem dX1_longestRow_23 : decode cX1_longestRow 23 = .ok (.iconst 1, 1) := by decide +kernel
theorem dX1_longestRow_24 : decode cX1_longestRow 24 = .ok (.lshl, 1) := by decide +kernel
theorem dX1_longestRow_25 : decode cX1_longestRow 25 = .ok (.land, 1) := by decide +kernel
theorem dX1_longestRow_26 : decode cX1_longestRow 26 = .ok (.lstore_n 2, 1) := by decide +kernel
theorem dX1_longestRow_27 : decode cX1_longestRow 27 = .ok (.goto (-22), 3) := by decide +kernel
theorem dX1_longestRow_30 : decode cX1_longestRow 30 = .ok (.iload 4, 2) := by decide +kernel
theorem dX1_longestRow_32 : decode cX1_longestRow 32 = .ok (.ireturn, 1) := by decide +kernel
set_option maxRecDepth 20000 in
theorem ggX1_behindLongRuns_X1_handings : GoodIn wsX1_behindLongRuns wsX1_handings := goodIn_r _ [6, 7, 8] (by decide +kernel) (by decide +kernel)
set_option maxRecDepth 20000 in
theorem gX1_behindLongRuns_X1_handings : GoodIn wsX1_behindLongRuns (va_wsS RX1 31 yX1_handings wsX1_handings) := goodIn_app (goodIn_of _ (by decide +kernel)) ggX1_behindLongRuns_X1_handings
theorem dX1_behindLongRuns_0 : decode cX1_behindLongRuns 0 = .ok (.ldc2_w 29, 3) := by decide +kernel
theorem dX1_behindLongRuns_3 : decode cX1_behindLongRuns 3 = .ok (.lload_n 0, 1) := by decide +kernel
theorem dX1_behindLongRuns_4 : decode cX1_behindLongRuns 4 = .ok (.invokestatic 31, 3) := by decide +kernel
theorem dX1_behindLongRuns_7 : decode cX1_behindLongRuns 7 = .ok (.ldc2_w 11, 3) := by decide +kernel
theorem dX1_behindLongRuns_10 : decode cX1_behindLongRuns 10 = .ok (.lxor, 1) := by decide +kernel
theorem dX1_behindLongRuns_11 : decode cX1_behindLongRuns 11 = .ok (.land, 1) := by decide +kernel
theorem dX1_behindLongRuns_12 : decode cX1_behindLongRuns 12 = .ok (.lstore_n 3, 1) := by decide +kernel
theorem dX1_behindLongRuns_13 : decode cX1_behindLongRuns 13 = .ok (.lload_n 3, 1) := by decide +kernel
theorem dX1_behindLongRuns_14 : decode cX1_behindLongRuns 14 = .ok (.lstore 5, 2) := by decide +kernel
theorem dX1_behindLongRuns_16 : decode cX1_behindLongRuns 16 = .ok (.iconst 1, 1) := by decide +kernel
theorem dX1_behindLongRuns_17 : decode cX1_behindLongRuns 17 = .ok (.istore 7, 2) := by decide +kernel
theorem dX1_behindLongRuns_19 : decode cX1_behindLongRuns 19 = .ok (.iload 7, 2) := by decide +kernel
theorem dX1_behindLongRuns_21 : decode cX1_behindLongRuns 21 = .ok (.iload_n 2, 1) := by decide +kernel
theorem dX1_behindLongRuns_22 : decode cX1_behindLongRuns 22 = .ok (.if_icmp .ge 18, 3) := by decide +kernel
theorem dX1_behindLongRuns_25 : decode cX1_behindLongRuns 25 = .ok (.lload 5, 2) := by decide +kernel
theorem dX1_behindLongRuns_27 : decode cX1_behindLongRuns 27 = .ok (.lload_n 3, 1) := by decide +kernel
theorem dX1_behindLongRuns_28 : decode cX1_behindLongRuns 28 = .ok (.iload 7, 2) := by decide +kernel
theorem dX1_behindLongRuns_30 : decode cX1_behindLongRuns 30 = .ok (.lshl, 1) := by decide +kernel
theorem dX1_behindLongRuns_31 : decode cX1_behindLongRuns 31 = .ok (.land, 1) := by decide +kernel
theorem dX1_behindLongRuns_32 : decode cX1_behindLongRuns 32 = .ok (.lstore 5, 2) := by decide +kernel
theorem dX1_behindLongRuns_34 : decode cX1_behindLongRuns 34 = .ok (.iinc 7 1, 3) := by decide +kernel
theorem dX1_behindLongRuns_37 : decode cX1_behindLongRuns 37 = .ok (.goto (-18), 3) := by decide +kernel
theorem dX1_behindLongRuns_40 : decode cX1_behindLongRuns 40 = .ok (.lload 5, 2) := by decide +kernel
theorem dX1_behindLongRuns_42 : decode cX1_behindLongRuns 42 = .ok (.lreturn, 1) := by decide +kernel
theorem dX2_init_0 : decode cX2_init 0 = .ok (.aload_n 0, 1) := by decide +kernel
theorem dX2_init_1 : decode cX2_init 1 = .ok (.invokespecial 3, 3) := by decide +kernel
theorem dX2_init_4 : decode cX2_init 4 = .ok (.aload_n 0, 1) := by decide +kernel
theorem dX2_init_5 : decode cX2_init 5 = .ok (.bipush 10, 2) := by decide +kernel
theorem dX2_init_7 : decode cX2_init 7 = .ok (.newarray .int, 2) := by decide +kernel
theorem dX2_init_9 : decode cX2_init 9 = .ok (.putfield 9, 3) := by decide +kernel
theorem dX2_init_12 : decode cX2_init 12 = .ok (.aload_n 0, 1) := by decide +kernel
theorem dX2_init_13 : decode cX2_init 13 = .ok (.bipush 10, 2) := by decide +kernel
theorem dX2_init_15 : decode cX2_init 15 = .ok (.newarray .int, 2) := by decide +kernel
theorem dX2_init_17 : decode cX2_init 17 = .ok (.putfield 15, 3) := by decide +kernel
theorem dX2_init_20 : decode cX2_init 20 = .ok (.aload_n 0, 1) := by decide +kernel
theorem dX2_init_21 : decode cX2_init 21 = .ok (.bipush 10, 2) := by decide +kernel
theorem dX2_init_23 : decode cX2_init 23 = .ok (.newarray .long, 2) := by decide +kernel
theorem dX2_init_25 : decode cX2_init 25 = .ok (.putfield 18, 3) := by decide +kernel
theorem dX2_init_28 : decode cX2_init 28 = .ok (.aload_n 0, 1) := by decide +kernel
theorem dX2_init_29 : decode cX2_init 29 = .ok (.bipush 10, 2) := by decide +kernel
theorem dX2_init_31 : decode cX2_init 31 = .ok (.newarray .long, 2) := by decide +kernel
theorem dX2_init_33 : decode cX2_init 33 = .ok (.putfield 22, 3) := by decide +kernel
theorem dX2_init_36 : decode cX2_init 36 = .ok (.aload_n 0, 1) := by decide +kernel
theorem dX2_init_37 : decode cX2_init 37 = .ok (.bipush 10, 2) := by decide +kernel
theorem dX2_init_39 : decode cX2_init 39 = .ok (.newarray .boolean, 2) := by decide +kernel
theorem dX2_init_41 : decode cX2_init 41 = .ok (.putfield 25, 3) := by decide +kernel
theorem dX2_init_44 : decode cX2_init 44 = .ok (.return_, 1) := by decide +kernel
set_option maxRecDepth 20000 in
theorem ggX2_addRule_X2_copyRule : GoodIn wsX2_addRule wsX2_copyRule := goodIn_r _ [11, 3, 2, 4, 5, 6, 12, 13, 14, 15, 16, 17] (by decide +kernel) (by decide +kernel)
set_option maxRecDepth 20000 in
theorem gX2_addRule_X2_copyRule : GoodIn wsX2_addRule (wsV RX2 33 RX2 yX2_copyRule wsX2_copyRule) := goodIn_app (goodIn_of _ (by decide +kernel)) ggX2_addRule_X2_copyRule
theorem dX2_addRule_0 : decode cX2_addRule 0 = .ok (.aload_n 0, 1) := by decide +kernel
theorem dX2_addRule_1 : decode cX2_addRule 1 = .ok (.getfield 29, 3) := by decide +kernel
theorem dX2_addRule_4 : decode cX2_addRule 4 = .ok (.ifCond .lt 12, 3) := by decide +kernel
theorem dX2_addRule_7 : decode cX2_addRule 7 = .ok (.aload_n 0, 1) := by decide +kernel
theorem dX2_addRule_8 : decode cX2_addRule 8 = .ok (.getfield 29, 3) := by decide +kernel
theorem dX2_addRule_11 : decode cX2_addRule 11 = .ok (.bipush 10, 2) := by decide +kernel
theorem dX2_addRule_13 : decode cX2_addRule 13 = .ok (.if_icmp .lt 4, 3) := by decide +kernel
theorem dX2_addRule_16 : decode cX2_addRule 16 = .ok (.return_, 1) := by decide +kernel
theorem dX2_addRule_17 : decode cX2_addRule 17 = .ok (.aload_n 0, 1) := by decide +kernel
theorem dX2_addRule_18 : decode cX2_addRule 18 = .ok (.getfield 29, 3) := by decide +kernel
theorem dX2_addRule_21 : decode cX2_addRule 21 = .ok (.istore 7, 2) := by decide +kernel
theorem dX2_addRule_23 : decode cX2_addRule 23 = .ok (.iload 7, 2) := by decide +kernel
theorem dX2_addRule_25 : decode cX2_addRule 25 = .ok (.ifCond .le 33, 3) := by decide +kernel
theorem dX2_addRule_28 : decode cX2_addRule 28 = .ok (.aload_n 0, 1) := by decide +kernel
theorem dX2_addRule_29 : decode cX2_addRule 29 = .ok (.getfield 15, 3) := by decide +kernel
theorem dX2_addRule_32 : decode cX2_addRule 32 = .ok (.iload 7, 2) := by decide +kernel
theorem dX2_addRule_34 : decode cX2_addRule 34 = .ok (.iconst 1, 1) := by decide +kernel
theorem dX2_addRule_35 : decode cX2_addRule 35 = .ok (.isub, 1) := by decide +kernel
theorem dX2_addRule_36 : decode cX2_addRule 36 = .ok (.iaload, 1) := by decide +kernel
theorem dX2_addRule_37 : decode cX2_addRule 37 = .ok (.iload_n 1, 1) := by decide +kernel
theorem dX2_addRule_38 : decode cX2_addRule 38 = .ok (.if_icmp .le 20, 3) := by decide +kernel
theorem dX2_addRule_41 : decode cX2_addRule 41 = .ok (.aload_n 0, 1) := by decide +kernel
theorem dX2_addRule_42 : decode cX2_addRule 42 = .ok (.aload_n 0, 1) := by decide +kernel
theorem dX2_addRule_43 : decode cX2_addRule 43 = .ok (.iload 7, 2) := by decide +kernel
theorem dX2_addRule_45 : decode cX2_addRule 45 = .ok (.iconst 1, 1) := by decide +kernel
theorem dX2_addRule_46 : decode cX2_addRule 46 = .ok (.isub, 1) := by decide +kernel
theorem dX2_addRule_47 : decode cX2_addRule 47 = .ok (.iload 7, 2) := by decide +kernel
theorem dX2_addRule_49 : decode cX2_addRule 49 = .ok (.invokevirtual 33, 3) := by decide +kernel
theorem dX2_addRule_52 : decode cX2_addRule 52 = .ok (.iinc 7 (-1), 3) := by decide +kernel
theorem dX2_addRule_55 : decode cX2_addRule 55 = .ok (.goto (-32), 3) := by decide +kernel
theorem dX2_addRule_58 : decode cX2_addRule 58 = .ok (.aload_n 0, 1) := by decide +kernel
theorem dX2_addRule_59 : decode cX2_addRule 59 = .ok (.getfield 9, 3) := by decide +kernel
theorem dX2_addRule_62 : decode cX2_addRule 62 = .ok (.iload 7, 2) := by decide +kernel
theorem dX2_addRule_64 : decode cX2_addRule 64 = .ok (.aload_n 0, 1) := by decide +kernel
theorem dX2_addRule_65 : decode cX2_addRule 65 = .ok (.getfield 29, 3) := by decide +kernel
theorem dX2_addRule_68 : decode cX2_addRule 68 = .ok (.iastore, 1) := by decide +kernel
theorem dX2_addRule_69 : decode cX2_addRule 69 = .ok (.aload_n 0, 1) := by decide +kernel
theorem dX2_addRule_70 : decode cX2_addRule 70 = .ok (.getfield 15, 3) := by decide +kernel
theorem dX2_addRule_73 : decode cX2_addRule 73 = .ok (.iload 7, 2) := by decide +kernel
theorem dX2_addRule_75 : decode cX2_addRule 75 = .ok (.iload_n 1, 1) := by decide +kernel
theorem dX2_addRule_76 : decode cX2_addRule 76 = .ok (.iastore, 1) := by decide +kernel
theorem dX2_addRule_77 : decode cX2_addRule 77 = .ok (.aload_n 0, 1) := by decide +kernel
theorem dX2_addRule_78 : decode cX2_addRule 78 = .ok (.getfield 18, 3) := by decide +kernel
theorem dX2_addRule_81 : decode cX2_addRule 81 = .ok (.iload 7, 2) := by decide +kernel
theorem dX2_addRule_83 : decode cX2_addRule 83 = .ok (.lload_n 2, 1) := by decide +kernel
theorem dX2_addRule_84 : decode cX2_addRule 84 = .ok (.lastore, 1) := by decide +kernel
theorem dX2_addRule_85 : decode cX2_addRule 85 = .ok (.aload_n 0, 1) := by decide +kernel
theorem dX2_addRule_86 : decode cX2_addRule 86 = .ok (.getfield 22, 3) := by decide +kernel
theorem dX2_addRule_89 : decode cX2_addRule 89 = .ok (.iload 7, 2) := by decide +kernel
theorem dX2_addRule_91 : decode cX2_addRule 91 = .ok (.lload 4, 2) := by decide +kernel
theorem dX2_addRule_93 : decode cX2_addRule 93 = .ok (.lastore, 1) := by decide +kernel
theorem dX2_addRule_94 : decode cX2_addRule 94 = .ok (.aload_n 0, 1) := by decide +kernel
theorem dX2_addRule_95 : decode cX2_addRule 95 = .ok (.getfield 25, 3) := by decide +kernel
theorem dX2_addRule_98 : decode cX2_addRule 98 = .ok (.iload 7, 2) := by decide +kernel
theorem dX2_addRule_100 : decode cX2_addRule 100 = .ok (.iload 6, 2) := by decide +kernel
theorem dX2_addRule_102 : decode cX2_addRule 102 = .ok (.bastore, 1) := by decide +kernel
theorem dX2_addRule_103 : decode cX2_addRule 103 = .ok (.aload_n 0, 1) := by decide +kernel
theorem dX2_addRule_104 : decode cX2_addRule 104 = .ok (.dup, 1) := by decide +kernel
theorem dX2_addRule_105 : decode cX2_addRule 105 = .ok (.getfield 29, 3) := by decide +kernel
theorem dX2_addRule_108 : decode cX2_addRule 108 = .ok (.iconst 1, 1) := by decide +kernel
theorem dX2_addRule_109 : decode cX2_addRule 109 = .ok (.iadd, 1) := by decide +kernel
theorem dX2_addRule_110 : decode cX2_addRule 110 = .ok (.putfield 29, 3) := by decide +kernel
theorem dX2_addRule_113 : decode cX2_addRule 113 = .ok (.return_, 1) := by decide +kernel
set_option maxRecDepth 20000 in
theorem ggX2_copyOf_X2_copyRule : GoodIn wsX2_copyOf wsX2_copyRule := goodIn_r _ [6, 7, 8, 9, 10, 11, 12, 13, 14, 15, 16, 17] (by decide +kernel) (by decide +kernel)
set_option maxRecDepth 20000 in
theorem gX2_copyOf_X2_copyRule : GoodIn wsX2_copyOf (wsV RX2 33 RX2 yX2_copyRule wsX2_copyRule) := goodIn_app (goodIn_of _ (by decide +kernel)) ggX2_copyOf_X2_copyRule
theorem dX2_copyOf_0 : decode cX2_copyOf 0 = .ok (.iconst 0, 1) := by decide +kernel
theorem dX2_copyOf_1 : decode cX2_copyOf 1 = .ok (.istore_n 2, 1) := by decide +kernel
theorem dX2_copyOf_2 : decode cX2_copyOf 2 = .ok (.iload_n 2, 1) := by decide +kernel
theorem dX2_copyOf_3 : decode cX2_copyOf 3 = .ok (.bipush 10, 2) := by decide +kernel
theorem dX2_copyOf_5 : decode cX2_copyOf 5 = .ok (.if_icmp .ge 16, 3) := by decide +kernel
theorem dX2_copyOf_8 : decode cX2_copyOf 8 = .ok (.aload_n 0, 1) := by decide +kernel
theorem dX2_copyOf_9 : decode cX2_copyOf 9 = .ok (.aload_n 1, 1) := by decide +kernel
theorem dX2_copyOf_10 : decode cX2_copyOf 10 = .ok (.iload_n 2, 1) := by decide +kernel
theorem dX2_copyOf_11 : decode cX2_copyOf 11 = .ok (.iload_n 2, 1) := by decide +kernel
theorem dX2_copyOf_12 : decode cX2_copyOf 12 = .ok (.invokevirtual 33, 3) := by decide +kernel
theorem dX2_copyOf_15 : decode cX2_copyOf 15 = .ok (.iinc 2 1, 3) := by decide +kernel
theorem dX2_copyOf_18 : decode cX2_copyOf 18 = .ok (.goto (-16), 3) := by decide +kernel
theorem dX2_copyOf_21 : decode cX2_copyOf 21 = .ok (.aload_n 0, 1) := by decide +kernel
theorem dX2_copyOf_22 : decode cX2_copyOf 22 = .ok (.aload_n 1, 1) := by decide +kernel
theorem dX2_copyOf_23 : decode cX2_copyOf 23 = .ok (.getfield 29, 3) := by decide +kernel
theorem dX2_copyOf_26 : decode cX2_copyOf 26 = .ok (.putfield 29, 3) := by decide +kernel
theorem dX2_copyOf_29 : decode cX2_copyOf 29 = .ok (.return_, 1) := by decide +kernel
theorem dX2_copyRule_0 : decode cX2_copyRule 0 = .ok (.iload_n 2, 1) := by decide +kernel
theorem dX2_copyRule_1 : decode cX2_copyRule 1 = .ok (.ifCond .lt 19, 3) := by decide +kernel
theorem dX2_copyRule_4 : decode cX2_copyRule 4 = .ok (.iload_n 2, 1) := by decide +kernel
theorem dX2_copyRule_5 : decode cX2_copyRule 5 = .ok (.bipush 10, 2) := by decide +kernel
theorem dX2_copyRule_7 : decode cX2_copyRule 7 = .ok (.if_icmp .ge 13, 3) := by decide +kernel
theorem dX2_copyRule_10 : decode cX2_copyRule 10 = .ok (.iload_n 3, 1) := by decide +kernel
theorem dX2_copyRule_11 : decode cX2_copyRule 11 = .ok (.ifCond .lt 9, 3) := by decide +kernel
theorem dX2_copyRule_14 : decode cX2_copyRule 14 = .ok (.iload_n 3, 1) := by decide +kernel
theorem dX2_copyRule_15 : decode cX2_copyRule 15 = .ok (.bipush 10, 2) := by decide +kernel
theorem dX2_copyRule_17 : decode cX2_copyRule 17 = .ok (.if_icmp .lt 4, 3) := by decide +kernel
theorem dX2_copyRule_20 : decode cX2_copyRule 20 = .ok (.return_, 1) := by decide +kernel
theorem dX2_copyRule_21 : decode cX2_copyRule 21 = .ok (.aload_n 0, 1) := by decide +kernel
theorem dX2_copyRule_22 : decode cX2_copyRule 22 = .ok (.getfield 9, 3) := by decide +kernel
theorem dX2_copyRule_25 : decode cX2_copyRule 25 = .ok (.iload_n 3, 1) := by decide +kernel
theorem dX2_copyRule_26 : decode cX2_copyRule 26 = .ok (.aload_n 1, 1) := by decide +kernel
theorem dX2_copyRule_27 : decode cX2_copyRule 27 = .ok (.getfield 9, 3) := by decide +kernel
theorem dX2_copyRule_30 : decode cX2_copyRule 30 = .ok (.iload_n 2, 1) := by decide +kernel
theorem dX2_copyRule_31 : decode cX2_copyRule 31 = .ok (.iaload, 1) := by decide +kernel
theorem dX2_copyRule_32 : decode cX2_copyRule 32 = .ok (.iastore, 1) := by decide +kernel
theorem dX2_copyRule_33 : decode cX2_copyRule 33 = .ok (.aload_n 0, 1) := by decide +kernel
theorem dX2_copyRule_34 : decode cX2_copyRule 34 = .ok (.getfield 15, 3) := by decide +kernel
theorem dX2_copyRule_37 : decode cX2_copyRule 37 = .ok (.iload_n 3, 1) := by decide +kernel
theorem dX2_copyRule_38 : decode cX2_copyRule 38 = .ok (.aload_n 1, 1) := by decide +kernel
theorem dX2_copyRule_39 : decode cX2_copyRule 39 = .ok (.getfield 15, 3) := by decide +kernel
theorem dX2_copyRule_42 : decode cX2_copyRule 42 = .ok (.iload_n 2, 1) := by decide +kernel
theorem dX2_copyRule_43 : decode cX2_copyRule 43 = .ok (.iaload, 1) := by decide +kernel
theorem dX2_copyRule_44 : decode cX2_copyRule 44 = .ok (.iastore, 1) := by decide +kernel
theorem dX2_copyRule_45 : decode cX2_copyRule 45 = .ok (.aload_n 0, 1) := by decide +kernel
theorem dX2_copyRule_46 : decode cX2_copyRule 46 = .ok (.getfield 18, 3) := by decide +kernel
theorem dX2_copyRule_49 : decode cX2_copyRule 49 = .ok (.iload_n 3, 1) := by decide +kernel
theorem dX2_copyRule_50 : decode cX2_copyRule 50 = .ok (.aload_n 1, 1) := by decide +kernel
theorem dX2_copyRule_51 : decode cX2_copyRule 51 = .ok (.getfield 18, 3) := by decide +kernel
theorem dX2_copyRule_54 : decode cX2_copyRule 54 = .ok (.iload_n 2, 1) := by decide +kernel
theorem dX2_copyRule_55 : decode cX2_copyRule 55 = .ok (.laload, 1) := by decide +kernel
theorem dX2_copyRule_56 : decode cX2_copyRule 56 = .ok (.lastore, 1) := by decide +kernel
theorem dX2_copyRule_57 : decode cX2_copyRule 57 = .ok (.aload_n 0, 1) := by decide +kernel
theorem dX2_copyRule_58 : decode cX2_copyRule 58 = .ok (.getfield 22, 3) := by decide +kernel
theorem dX2_copyRule_61 : decode cX2_copyRule 61 = .ok (.iload_n 3, 1) := by decide +kernel
theorem dX2_copyRule_62 : decode cX2_copyRule 62 = .ok (.aload_n 1, 1) := by decide +kernel
theorem dX2_copyRule_63 : decode cX2_copyRule 63 = .ok (.getfield 22, 3) := by decide +kernel
theorem dX2_copyRule_66 : decode cX2_copyRule 66 = .ok (.iload_n 2, 1) := by decide +kernel
theorem dX2_copyRule_67 : decode cX2_copyRule 67 = .ok (.laload, 1) := by decide +kernel
theorem dX2_copyRule_68 : decode cX2_copyRule 68 = .ok (.lastore, 1) := by decide +kernel
theorem dX2_copyRule_69 : decode cX2_copyRule 69 = .ok (.aload_n 0, 1) := by decide +kernel
theorem dX2_copyRule_70 : decode cX2_copyRule 70 = .ok (.getfield 25, 3) := by decide +kernel
theorem dX2_copyRule_73 : decode cX2_copyRule 73 = .ok (.iload_n 3, 1) := by decide +kernel
theorem dX2_copyRule_74 : decode cX2_copyRule 74 = .ok (.aload_n 1, 1) := by decide +kernel
theorem dX2_copyRule_75 : decode cX2_copyRule 75 = .ok (.getfield 25, 3) := by decide +kernel
theorem dX2_copyRule_78 : decode cX2_copyRule 78 = .ok (.iload_n 2, 1) := by decide +kernel
theorem dX2_copyRule_79 : decode cX2_copyRule 79 = .ok (.baload, 1) := by decide +kernel
theorem dX2_copyRule_80 : decode cX2_copyRule 80 = .ok (.bastore, 1) := by decide +kernel
theorem dX2_copyRule_81 : decode cX2_copyRule 81 = .ok (.return_, 1) := by decide +kernel
theorem dX2_nightsOfOne_0 : decode cX2_nightsOfOne 0 = .ok (.iload_n 1, 1) := by decide +kernel
theorem dX2_nightsOfOne_1 : decode cX2_nightsOfOne 1 = .ok (.ifCond .lt 9, 3) := by decide +kernel
theorem dX2_nightsOfOne_4 : decode cX2_nightsOfOne 4 = .ok (.iload_n 1, 1) := by decide +kernel
theorem dX2_nightsOfOne_5 : decode cX2_nightsOfOne 5 = .ok (.bipush 10, 2) := by decide +kernel
theorem dX2_nightsOfOne_7 : decode cX2_nightsOfOne 7 = .ok (.if_icmp .lt 5, 3) := by decide +kernel
theorem dX2_nightsOfOne_10 : decode cX2_nightsOfOne 10 = .ok (.lconst 0, 1) := by decide +kernel
theorem dX2_nightsOfOne_11 : decode cX2_nightsOfOne 11 = .ok (.lreturn, 1) := by decide +kernel
theorem dX2_nightsOfOne_12 : decode cX2_nightsOfOne 12 = .ok (.aload_n 0, 1) := by decide +kernel
theorem dX2_nightsOfOne_13 : decode cX2_nightsOfOne 13 = .ok (.getfield 25, 3) := by decide +kernel
theorem dX2_nightsOfOne_16 : decode cX2_nightsOfOne 16 = .ok (.iload_n 1, 1) := by decide +kernel
theorem dX2_nightsOfOne_17 : decode cX2_nightsOfOne 17 = .ok (.baload, 1) := by decide +kernel
theorem dX2_nightsOfOne_18 : decode cX2_nightsOfOne 18 = .ok (.ifCond .eq 13, 3) := by decide +kernel
theorem dX2_nightsOfOne_21 : decode cX2_nightsOfOne 21 = .ok (.iload_n 2, 1) := by decide +kernel
theorem dX2_nightsOfOne_22 : decode cX2_nightsOfOne 22 = .ok (.iconst 1, 1) := by decide +kernel
theorem dX2_nightsOfOne_23 : decode cX2_nightsOfOne 23 = .ok (.iand, 1) := by decide +kernel
theorem dX2_nightsOfOne_24 : decode cX2_nightsOfOne 24 = .ok (.ifCond .ne 7, 3) := by decide +kernel
theorem dX2_nightsOfOne_27 : decode cX2_nightsOfOne 27 = .ok (.iconst 1, 1) := by decide +kernel
theorem dX2_nightsOfOne_28 : decode cX2_nightsOfOne 28 = .ok (.goto 4, 3) := by decide +kernel
theorem dX2_nightsOfOne_31 : decode cX2_nightsOfOne 31 = .ok (.iconst 0, 1) := by decide +kernel
theorem dX2_nightsOfOne_32 : decode cX2_nightsOfOne 32 = .ok (.istore_n 3, 1) := by decide +kernel
theorem dX2_nightsOfOne_33 : decode cX2_nightsOfOne 33 = .ok (.iload_n 3, 1) := by decide +kernel
theorem dX2_nightsOfOne_34 : decode cX2_nightsOfOne 34 = .ok (.ifCond .eq 23, 3) := by decide +kernel
theorem dX2_nightsOfOne_37 : decode cX2_nightsOfOne 37 = .ok (.aload_n 0, 1) := by decide +kernel
theorem dX2_nightsOfOne_38 : decode cX2_nightsOfOne 38 = .ok (.getfield 18, 3) := by decide +kernel
theorem dX2_nightsOfOne_41 : decode cX2_nightsOfOne 41 = .ok (.iload_n 1, 1) := by decide +kernel
theorem dX2_nightsOfOne_42 : decode cX2_nightsOfOne 42 = .ok (.laload, 1) := by decide +kernel
theorem dX2_nightsOfOne_43 : decode cX2_nightsOfOne 43 = .ok (.aload_n 0, 1) := by decide +kernel
theorem dX2_nightsOfOne_44 : decode cX2_nightsOfOne 44 = .ok (.getfield 22, 3) := by decide +kernel
theorem dX2_nightsOfOne_47 : decode cX2_nightsOfOne 47 = .ok (.iload_n 1, 1) := by decide +kernel
theorem dX2_nightsOfOne_48 : decode cX2_nightsOfOne 48 = .ok (.laload, 1) := by decide +kernel
theorem dX2_nightsOfOne_49 : decode cX2_nightsOfOne 49 = .ok (.ldc2_w 37, 3) := by decide +kernel
theorem dX2_nightsOfOne_52 : decode cX2_nightsOfOne 52 = .ok (.lxor, 1) := by decide +kernel
theorem dX2_nightsOfOne_53 : decode cX2_nightsOfOne 53 = .ok (.land, 1) := by decide +kernel
theorem dX2_nightsOfOne_54 : decode cX2_nightsOfOne 54 = .ok (.goto 9, 3) := by decide +kernel
theorem dX2_nightsOfOne_57 : decode cX2_nightsOfOne 57 = .ok (.aload_n 0, 1) := by decide +kernel
theorem dX2_nightsOfOne_58 : decode cX2_nightsOfOne 58 = .ok (.getfield 22, 3) := by decide +kernel
theorem dX2_nightsOfOne_61 : decode cX2_nightsOfOne 61 = .ok (.iload_n 1, 1) := by decide +kernel
theorem dX2_nightsOfOne_62 : decode cX2_nightsOfOne 62 = .ok (.laload, 1) := by decide +kernel
theorem dX2_nightsOfOne_63 : decode cX2_nightsOfOne 63 = .ok (.lreturn, 1) := by decide +kernel
set_option maxRecDepth 20000 in
theorem ggX2_tells_X1_holds : GoodIn wsX2_tells wsX1_holds := goodIn_r _ [7] (by decide +kernel) (by decide +kernel)
set_option maxRecDepth 20000 in
theorem gX2_tells_X1_holds : GoodIn wsX2_tells (va_wsS RX2 39 yX1_holds wsX1_holds) := goodIn_app (goodIn_of _ (by decide +kernel)) ggX2_tells_X1_holds
set_option maxRecDepth 20000 in
theorem ggX2_tells_X2_nightsOfOne : GoodIn wsX2_tells wsX2_nightsOfOne := goodIn_r _ [12, 13, 3, 14, 15, 19, 20, 21, 22, 23, 24] (by decide +kernel) (by decide +kernel)
set_option maxRecDepth 20000 in
theorem gX2_tells_X2_nightsOfOne : GoodIn wsX2_tells (wsV RX2 45 RX2 yX2_nightsOfOne wsX2_nightsOfOne) := goodIn_app (goodIn_of _ (by decide +kernel)) ggX2_tells_X2_nightsOfOne
set_option maxRecDepth 20000 in
theorem ggX2_tells_X1_houseAt : GoodIn wsX2_tells wsX1_houseAt := goodIn_r _ [18] (by decide +kernel) (by decide +kernel)
set_option maxRecDepth 20000 in
theorem gX2_tells_X1_houseAt : GoodIn wsX2_tells (va_wsS RX2 49 yX1_houseAt wsX1_houseAt) := goodIn_app (goodIn_of _ (by decide +kernel)) ggX2_tells_X1_houseAt
theorem dX2_tells_0 : decode cX2_tells 0 = .ok (.iconst 0, 1) := by decide +kernel
theorem dX2_tells_1 : decode cX2_tells 1 = .ok (.istore 4, 2) := by decide +kernel
theorem dX2_tells_3 : decode cX2_tells 3 = .ok (.iload 4, 2) := by decide +kernel
theorem dX2_tells_5 : decode cX2_tells 5 = .ok (.aload_n 0, 1) := by decide +kernel
theorem dX2_tells_6 : decode cX2_tells 6 = .ok (.getfield 29, 3) := by decide +kernel
theorem dX2_tells_9 : decode cX2_tells 9 = .ok (.if_icmp .ge 53, 3) := by decide +kernel
theorem dX2_tells_12 : decode cX2_tells 12 = .ok (.iload 4, 2) := by decide +kernel
theorem dX2_tells_14 : decode cX2_tells 14 = .ok (.bipush 10, 2) := by decide +kernel
theorem dX2_tells_16 : decode cX2_tells 16 = .ok (.if_icmp .ge 46, 3) := by decide +kernel
theorem dX2_tells_19 : decode cX2_tells 19 = .ok (.aload_n 0, 1) := by decide +kernel
theorem dX2_tells_20 : decode cX2_tells 20 = .ok (.getfield 9, 3) := by decide +kernel
theorem dX2_tells_23 : decode cX2_tells 23 = .ok (.iload 4, 2) := by decide +kernel
theorem dX2_tells_25 : decode cX2_tells 25 = .ok (.iaload, 1) := by decide +kernel
theorem dX2_tells_26 : decode cX2_tells 26 = .ok (.iload_n 1, 1) := by decide +kernel
theorem dX2_tells_27 : decode cX2_tells 27 = .ok (.if_icmp .ne 29, 3) := by decide +kernel
theorem dX2_tells_30 : decode cX2_tells 30 = .ok (.aload_n 0, 1) := by decide +kernel
theorem dX2_tells_31 : decode cX2_tells 31 = .ok (.getfield 18, 3) := by decide +kernel
theorem dX2_tells_34 : decode cX2_tells 34 = .ok (.iload 4, 2) := by decide +kernel
theorem dX2_tells_36 : decode cX2_tells 36 = .ok (.laload, 1) := by decide +kernel
theorem dX2_tells_37 : decode cX2_tells 37 = .ok (.iload_n 2, 1) := by decide +kernel
theorem dX2_tells_38 : decode cX2_tells 38 = .ok (.invokestatic 39, 3) := by decide +kernel
theorem dX2_tells_41 : decode cX2_tells 41 = .ok (.ifCond .eq 15, 3) := by decide +kernel
theorem dX2_tells_44 : decode cX2_tells 44 = .ok (.aload_n 0, 1) := by decide +kernel
theorem dX2_tells_45 : decode cX2_tells 45 = .ok (.iload 4, 2) := by decide +kernel
theorem dX2_tells_47 : decode cX2_tells 47 = .ok (.iload_n 3, 1) := by decide +kernel
theorem dX2_tells_48 : decode cX2_tells 48 = .ok (.invokevirtual 45, 3) := by decide +kernel
theorem dX2_tells_51 : decode cX2_tells 51 = .ok (.iload_n 2, 1) := by decide +kernel
theorem dX2_tells_52 : decode cX2_tells 52 = .ok (.invokestatic 49, 3) := by decide +kernel
theorem dX2_tells_55 : decode cX2_tells 55 = .ok (.ireturn, 1) := by decide +kernel
theorem dX2_tells_56 : decode cX2_tells 56 = .ok (.iinc 4 1, 3) := by decide +kernel
theorem dX2_tells_59 : decode cX2_tells 59 = .ok (.goto (-56), 3) := by decide +kernel
theorem dX2_tells_62 : decode cX2_tells 62 = .ok (.bipush (-9), 2) := by decide +kernel
theorem dX2_tells_64 : decode cX2_tells 64 = .ok (.ireturn, 1) := by decide +kernel
set_option maxRecDepth 20000 in
theorem ggX2_foremost_X1_holds : GoodIn wsX2_foremost wsX1_holds := goodIn_r _ [8] (by decide +kernel) (by decide +kernel)
set_option maxRecDepth 20000 in
theorem gX2_foremost_X1_holds : GoodIn wsX2_foremost (va_wsS RX2 39 yX1_holds wsX1_holds) := goodIn_app (goodIn_of _ (by decide +kernel)) ggX2_foremost_X1_holds
theorem dX2_foremost_0 : decode cX2_foremost 0 = .ok (.iconst 0, 1) := by decide +kernel
theorem dX2_foremost_1 : decode cX2_foremost 1 = .ok (.istore_n 2, 1) := by decide +kernel
theorem dX2_foremost_2 : decode cX2_foremost 2 = .ok (.bipush (-9), 2) := by decide +kernel
theorem dX2_foremost_4 : decode cX2_foremost 4 = .ok (.istore_n 3, 1) := by decide +kernel
theorem dX2_foremost_5 : decode cX2_foremost 5 = .ok (.iconst 0, 1) := by decide +kernel
theorem dX2_foremost_6 : decode cX2_foremost 6 = .ok (.istore 4, 2) := by decide +kernel
theorem dX2_foremost_8 : decode cX2_foremost 8 = .ok (.iload 4, 2) := by decide +kernel
theorem dX2_foremost_10 : decode cX2_foremost 10 = .ok (.aload_n 0, 1) := by decide +kernel
theorem dX2_foremost_11 : decode cX2_foremost 11 = .ok (.getfield 29, 3) := by decide +kernel
theorem dX2_foremost_14 : decode cX2_foremost 14 = .ok (.if_icmp .ge 70, 3) := by decide +kernel
theorem dX2_foremost_17 : decode cX2_foremost 17 = .ok (.iload 4, 2) := by decide +kernel
theorem dX2_foremost_19 : decode cX2_foremost 19 = .ok (.bipush 10, 2) := by decide +kernel
theorem dX2_foremost_21 : decode cX2_foremost 21 = .ok (.if_icmp .ge 63, 3) := by decide +kernel
theorem dX2_foremost_24 : decode cX2_foremost 24 = .ok (.aload_n 0, 1) := by decide +kernel
theorem dX2_foremost_25 : decode cX2_foremost 25 = .ok (.getfield 18, 3) := by decide +kernel
theorem dX2_foremost_28 : decode cX2_foremost 28 = .ok (.iload 4, 2) := by decide +kernel
theorem dX2_foremost_30 : decode cX2_foremost 30 = .ok (.laload, 1) := by decide +kernel
theorem dX2_foremost_31 : decode cX2_foremost 31 = .ok (.iload_n 1, 1) := by decide +kernel
theorem dX2_foremost_32 : decode cX2_foremost 32 = .ok (.invokestatic 39, 3) := by decide +kernel
theorem dX2_foremost_35 : decode cX2_foremost 35 = .ok (.ifCond .ne 6, 3) := by decide +kernel
theorem dX2_foremost_38 : decode cX2_foremost 38 = .ok (.goto 40, 3) := by decide +kernel
theorem dX2_foremost_41 : decode cX2_foremost 41 = .ok (.iload_n 3, 1) := by decide +kernel
theorem dX2_foremost_42 : decode cX2_foremost 42 = .ok (.bipush (-9), 2) := by decide +kernel
theorem dX2_foremost_44 : decode cX2_foremost 44 = .ok (.if_icmp .ne 11, 3) := by decide +kernel
theorem dX2_foremost_47 : decode cX2_foremost 47 = .ok (.aload_n 0, 1) := by decide +kernel
theorem dX2_foremost_48 : decode cX2_foremost 48 = .ok (.getfield 15, 3) := by decide +kernel
theorem dX2_foremost_51 : decode cX2_foremost 51 = .ok (.iload 4, 2) := by decide +kernel
theorem dX2_foremost_53 : decode cX2_foremost 53 = .ok (.iaload, 1) := by decide +kernel
theorem dX2_foremost_54 : decode cX2_foremost 54 = .ok (.istore_n 3, 1) := by decide +kernel
theorem dX2_foremost_55 : decode cX2_foremost 55 = .ok (.aload_n 0, 1) := by decide +kernel
theorem dX2_foremost_56 : decode cX2_foremost 56 = .ok (.getfield 15, 3) := by decide +kernel
theorem dX2_foremost_59 : decode cX2_foremost 59 = .ok (.iload 4, 2) := by decide +kernel
theorem dX2_foremost_61 : decode cX2_foremost 61 = .ok (.iaload, 1) := by decide +kernel
theorem dX2_foremost_62 : decode cX2_foremost 62 = .ok (.iload_n 3, 1) := by decide +kernel
theorem dX2_foremost_63 : decode cX2_foremost 63 = .ok (.if_icmp .ne 15, 3) := by decide +kernel
theorem dX2_foremost_66 : decode cX2_foremost 66 = .ok (.iload_n 2, 1) := by decide +kernel
theorem dX2_foremost_67 : decode cX2_foremost 67 = .ok (.iconst 1, 1) := by decide +kernel
theorem dX2_foremost_68 : decode cX2_foremost 68 = .ok (.aload_n 0, 1) := by decide +kernel
theorem dX2_foremost_69 : decode cX2_foremost 69 = .ok (.getfield 9, 3) := by decide +kernel
theorem dX2_foremost_72 : decode cX2_foremost 72 = .ok (.iload 4, 2) := by decide +kernel
theorem dX2_foremost_74 : decode cX2_foremost 74 = .ok (.iaload, 1) := by decide +kernel
theorem dX2_foremost_75 : decode cX2_foremost 75 = .ok (.ishl, 1) := by decide +kernel
theorem dX2_foremost_76 : decode cX2_foremost 76 = .ok (.ior, 1) := by decide +kernel
theorem dX2_foremost_77 : decode cX2_foremost 77 = .ok (.istore_n 2, 1) := by decide +kernel
theorem dX2_foremost_78 : decode cX2_foremost 78 = .ok (.iinc 4 1, 3) := by decide +kernel
theorem dX2_foremost_81 : decode cX2_foremost 81 = .ok (.goto (-73), 3) := by decide +kernel
theorem dX2_foremost_84 : decode cX2_foremost 84 = .ok (.iload_n 2, 1) := by decide +kernel
theorem dX2_foremost_85 : decode cX2_foremost 85 = .ok (.ireturn, 1) := by decide +kernel
set_option maxRecDepth 20000 in
theorem ggX2_readTo_X4_clear : GoodIn wsX2_readTo wsX4_clear := goodIn_r _ [10, 11, 12, 13, 37, 38, 39] (by decide +kernel) (by decide +kernel)
set_option maxRecDepth 20000 in
theorem gX2_readTo_X4_clear : GoodIn wsX2_readTo (wsV RX2 53 RX4 yX4_clear wsX4_clear) := goodIn_app (goodIn_of _ (by decide +kernel)) ggX2_readTo_X4_clear
set_option maxRecDepth 20000 in
theorem ggX2_readTo_X4_settle : GoodIn wsX2_readTo wsX4_settle := goodIn_r _ [17, 13, 11, 18, 12, 19, 20, 21, 9, 22, 23, 37, 38, 39] (by decide +kernel) (by decide +kernel)
set_option maxRecDepth 20000 in
theorem gX2_readTo_X4_settle : GoodIn wsX2_readTo (wsV RX2 58 RX4 yX4_settle wsX4_settle) := goodIn_app (goodIn_of _ (by decide +kernel)) ggX2_readTo_X4_settle
set_option maxRecDepth 20000 in
theorem ggX2_readTo_X2_nightsOfOne : GoodIn wsX2_readTo wsX2_nightsOfOne := goodIn_r _ [28, 29, 4, 30, 5, 31, 32, 33, 34, 35, 36] (by decide +kernel) (by decide +kernel)
set_option maxRecDepth 20000 in
theorem gX2_readTo_X2_nightsOfOne : GoodIn wsX2_readTo (wsV RX2 45 RX2 yX2_nightsOfOne wsX2_nightsOfOne) := goodIn_app (goodIn_of _ (by decide +kernel)) ggX2_readTo_X2_nightsOfOne
theorem dX2_readTo_0 : decode cX2_readTo 0 = .ok (.aload_n 1, 1) := by decide +kernel
theorem dX2_readTo_1 : decode cX2_readTo 1 = .ok (.invokevirtual 53, 3) := by decide +kernel
theorem dX2_readTo_4 : decode cX2_readTo 4 = .ok (.lconst 0, 1) := by decide +kernel
theorem dX2_readTo_5 : decode cX2_readTo 5 = .ok (.lstore 4, 2) := by decide +kernel
theorem dX2_readTo_7 : decode cX2_readTo 7 = .ok (.lconst 0, 1) := by decide +kernel
theorem dX2_readTo_8 : decode cX2_readTo 8 = .ok (.lstore 6, 2) := by decide +kernel
theorem dX2_readTo_10 : decode cX2_readTo 10 = .ok (.bipush (-9), 2) := by decide +kernel
theorem dX2_readTo_12 : decode cX2_readTo 12 = .ok (.istore 8, 2) := by decide +kernel
theorem dX2_readTo_14 : decode cX2_readTo 14 = .ok (.iconst 0, 1) := by decide +kernel
theorem dX2_readTo_15 : decode cX2_readTo 15 = .ok (.istore 9, 2) := by decide +kernel
theorem dX2_readTo_17 : decode cX2_readTo 17 = .ok (.iload 9, 2) := by decide +kernel
theorem dX2_readTo_19 : decode cX2_readTo 19 = .ok (.aload_n 0, 1) := by decide +kernel
theorem dX2_readTo_20 : decode cX2_readTo 20 = .ok (.getfield 29, 3) := by decide +kernel
theorem dX2_readTo_23 : decode cX2_readTo 23 = .ok (.if_icmp .ge 103, 3) := by decide +kernel
theorem dX2_readTo_26 : decode cX2_readTo 26 = .ok (.iload 9, 2) := by decide +kernel
theorem dX2_readTo_28 : decode cX2_readTo 28 = .ok (.bipush 10, 2) := by decide +kernel
theorem dX2_readTo_30 : decode cX2_readTo 30 = .ok (.if_icmp .ge 96, 3) := by decide +kernel
theorem dX2_readTo_33 : decode cX2_readTo 33 = .ok (.iload_n 3, 1) := by decide +kernel
theorem dX2_readTo_34 : decode cX2_readTo 34 = .ok (.aload_n 0, 1) := by decide +kernel
theorem dX2_readTo_35 : decode cX2_readTo 35 = .ok (.getfield 9, 3) := by decide +kernel
theorem dX2_readTo_38 : decode cX2_readTo 38 = .ok (.iload 9, 2) := by decide +kernel
theorem dX2_readTo_40 : decode cX2_readTo 40 = .ok (.iaload, 1) := by decide +kernel
theorem dX2_readTo_41 : decode cX2_readTo 41 = .ok (.ishr, 1) := by decide +kernel
theorem dX2_readTo_42 : decode cX2_readTo 42 = .ok (.iconst 1, 1) := by decide +kernel
theorem dX2_readTo_43 : decode cX2_readTo 43 = .ok (.iand, 1) := by decide +kernel
theorem dX2_readTo_44 : decode cX2_readTo 44 = .ok (.ifCond .eq 6, 3) := by decide +kernel
theorem dX2_readTo_47 : decode cX2_readTo 47 = .ok (.goto 73, 3) := by decide +kernel
theorem dX2_readTo_50 : decode cX2_readTo 50 = .ok (.aload_n 0, 1) := by decide +kernel
theorem dX2_readTo_51 : decode cX2_readTo 51 = .ok (.getfield 15, 3) := by decide +kernel
theorem dX2_readTo_54 : decode cX2_readTo 54 = .ok (.iload 9, 2) := by decide +kernel
theorem dX2_readTo_56 : decode cX2_readTo 56 = .ok (.iaload, 1) := by decide +kernel
theorem dX2_readTo_57 : decode cX2_readTo 57 = .ok (.iload 8, 2) := by decide +kernel
theorem dX2_readTo_59 : decode cX2_readTo 59 = .ok (.if_icmp .eq 26, 3) := by decide +kernel
theorem dX2_readTo_62 : decode cX2_readTo 62 = .ok (.aload_n 1, 1) := by decide +kernel
theorem dX2_readTo_63 : decode cX2_readTo 63 = .ok (.lload 4, 2) := by decide +kernel
theorem dX2_readTo_65 : decode cX2_readTo 65 = .ok (.lload 6, 2) := by decide +kernel
theorem dX2_readTo_67 : decode cX2_readTo 67 = .ok (.invokevirtual 58, 3) := by decide +kernel
theorem dX2_readTo_70 : decode cX2_readTo 70 = .ok (.lconst 0, 1) := by decide +kernel
theorem dX2_readTo_71 : decode cX2_readTo 71 = .ok (.lstore 4, 2) := by decide +kernel
theorem dX2_readTo_73 : decode cX2_readTo 73 = .ok (.lconst 0, 1) := by decide +kernel
theorem dX2_readTo_74 : decode cX2_readTo 74 = .ok (.lstore 6, 2) := by decide +kernel
theorem dX2_readTo_76 : decode cX2_readTo 76 = .ok (.aload_n 0, 1) := by decide +kernel
theorem dX2_readTo_77 : decode cX2_readTo 77 = .ok (.getfield 15, 3) := by decide +kernel
theorem dX2_readTo_80 : decode cX2_readTo 80 = .ok (.iload 9, 2) := by decide +kernel
theorem dX2_readTo_82 : decode cX2_readTo 82 = .ok (.iaload, 1) := by decide +kernel
theorem dX2_readTo_83 : decode cX2_readTo 83 = .ok (.istore 8, 2) := by decide +kernel
theorem dX2_readTo_85 : decode cX2_readTo 85 = .ok (.aload_n 0, 1) := by decide +kernel
theorem dX2_readTo_86 : decode cX2_readTo 86 = .ok (.iload 9, 2) := by decide +kernel
theorem dX2_readTo_88 : decode cX2_readTo 88 = .ok (.iload_n 2, 1) := by decide +kernel
theorem dX2_readTo_89 : decode cX2_readTo 89 = .ok (.invokevirtual 45, 3) := by decide +kernel
theorem dX2_readTo_92 : decode cX2_readTo 92 = .ok (.lstore 10, 2) := by decide +kernel
theorem dX2_readTo_94 : decode cX2_readTo 94 = .ok (.lload 6, 2) := by decide +kernel
theorem dX2_readTo_96 : decode cX2_readTo 96 = .ok (.lload 10, 2) := by decide +kernel
theorem dX2_readTo_98 : decode cX2_readTo 98 = .ok (.lor, 1) := by decide +kernel
theorem dX2_readTo_99 : decode cX2_readTo 99 = .ok (.lstore 6, 2) := by decide +kernel
theorem dX2_readTo_101 : decode cX2_readTo 101 = .ok (.lload 4, 2) := by decide +kernel
theorem dX2_readTo_103 : decode cX2_readTo 103 = .ok (.aload_n 0, 1) := by decide +kernel
theorem dX2_readTo_104 : decode cX2_readTo 104 = .ok (.getfield 18, 3) := by decide +kernel
theorem dX2_readTo_107 : decode cX2_readTo 107 = .ok (.iload 9, 2) := by decide +kernel
theorem dX2_readTo_109 : decode cX2_readTo 109 = .ok (.laload, 1) := by decide +kernel
theorem dX2_readTo_110 : decode cX2_readTo 110 = .ok (.lload 10, 2) := by decide +kernel
theorem dX2_readTo_112 : decode cX2_readTo 112 = .ok (.ldc2_w 37, 3) := by decide +kernel
theorem dX2_readTo_115 : decode cX2_readTo 115 = .ok (.lxor, 1) := by decide +kernel
theorem dX2_readTo_116 : decode cX2_readTo 116 = .ok (.land, 1) := by decide +kernel
theorem dX2_readTo_117 : decode cX2_readTo 117 = .ok (.lor, 1) := by decide +kernel
theorem dX2_readTo_118 : decode cX2_readTo 118 = .ok (.lstore 4, 2) := by decide +kernel
theorem dX2_readTo_120 : decode cX2_readTo 120 = .ok (.iinc 9 1, 3) := by decide +kernel
theorem dX2_readTo_123 : decode cX2_readTo 123 = .ok (.goto (-106), 3) := by decide +kernel
theorem dX2_readTo_126 : decode cX2_readTo 126 = .ok (.aload_n 1, 1) := by decide +kernel
theorem dX2_readTo_127 : decode cX2_readTo 127 = .ok (.lload 4, 2) := by decide +kernel
theorem dX2_readTo_129 : decode cX2_readTo 129 = .ok (.lload 6, 2) := by decide +kernel
theorem dX2_readTo_131 : decode cX2_readTo 131 = .ok (.invokevirtual 58, 3) := by decide +kernel
theorem dX2_readTo_134 : decode cX2_readTo 134 = .ok (.return_, 1) := by decide +kernel
theorem dX3_init_0 : decode cX3_init 0 = .ok (.aload_n 0, 1) := by decide +kernel
theorem dX3_init_1 : decode cX3_init 1 = .ok (.invokespecial 3, 3) := by decide +kernel
theorem dX3_init_4 : decode cX3_init 4 = .ok (.aload_n 0, 1) := by decide +kernel
theorem dX3_init_5 : decode cX3_init 5 = .ok (.bipush 30, 2) := by decide +kernel
theorem dX3_init_7 : decode cX3_init 7 = .ok (.newarray .int, 2) := by decide +kernel
theorem dX3_init_9 : decode cX3_init 9 = .ok (.putfield 11, 3) := by decide +kernel
theorem dX3_init_12 : decode cX3_init 12 = .ok (.aload_n 0, 1) := by decide +kernel
theorem dX3_init_13 : decode cX3_init 13 = .ok (.bipush 30, 2) := by decide +kernel
theorem dX3_init_15 : decode cX3_init 15 = .ok (.newarray .long, 2) := by decide +kernel
theorem dX3_init_17 : decode cX3_init 17 = .ok (.putfield 15, 3) := by decide +kernel
theorem dX3_init_20 : decode cX3_init 20 = .ok (.return_, 1) := by decide +kernel
set_option maxRecDepth 20000 in
theorem ggX3_find_X3_priceWithin : GoodIn wsX3_find wsX3_priceWithin := goodIn_r _ [12, 13, 14, 15, 16, 17, 18, 19, 20, 21, 22, 23, 41, 42, 43, 44, 45] (by decide +kernel) (by decide +kernel)
set_option maxRecDepth 20000 in
theorem gX3_find_X3_priceWithin : GoodIn wsX3_find (va_wsS RX3 19 yX3_priceWithin wsX3_priceWithin) := goodIn_app (goodIn_of _ (by decide +kernel)) ggX3_find_X3_priceWithin
set_option maxRecDepth 20000 in
theorem ggX3_find_X3_stepAhead : GoodIn wsX3_find wsX3_stepAhead := goodIn_r _ [27, 1, 2, 28, 3, 4, 5, 6, 29, 30, 31, 32, 33, 34, 35, 11, 36, 37, 38, 39, 40, 41, 42, 43, 44, 45] (by decide +kernel) (by decide +kernel)
set_option maxRecDepth 20000 in
theorem gX3_find_X3_stepAhead : GoodIn wsX3_find (wsV RX3 23 RX3 yX3_stepAhead wsX3_stepAhead) := goodIn_app (goodIn_of _ (by decide +kernel)) ggX3_find_X3_stepAhead
set_option maxRecDepth 20000 in
theorem ggX3_find_X3_placeOf : GoodIn wsX3_find wsX3_placeOf := goodIn_r _ [36] (by decide +kernel) (by decide +kernel)
set_option maxRecDepth 20000 in
theorem gX3_find_X3_placeOf : GoodIn wsX3_find (va_wsS RX3 27 yX3_placeOf wsX3_placeOf) := goodIn_app (goodIn_of _ (by decide +kernel)) ggX3_find_X3_placeOf
theorem dX3_find_0 : decode cX3_find 0 = .ok (.iconst 0, 1) := by decide +kernel
theorem dX3_find_1 : decode cX3_find 1 = .ok (.istore 6, 2) := by decide +kernel
theorem dX3_find_3 : decode cX3_find 3 = .ok (.iload 6, 2) := by decide +kernel
theorem dX3_find_5 : decode cX3_find 5 = .ok (.aload_n 0, 1) := by decide +kernel
theorem dX3_find_6 : decode cX3_find 6 = .ok (.getfield 11, 3) := by decide +kernel
theorem dX3_find_9 : decode cX3_find 9 = .ok (.arraylength, 1) := by decide +kernel
theorem dX3_find_10 : decode cX3_find 10 = .ok (.if_icmp .ge 25, 3) := by decide +kernel
theorem dX3_find_13 : decode cX3_find 13 = .ok (.aload_n 0, 1) := by decide +kernel
theorem dX3_find_14 : decode cX3_find 14 = .ok (.getfield 11, 3) := by decide +kernel
theorem dX3_find_17 : decode cX3_find 17 = .ok (.iload 6, 2) := by decide +kernel
theorem dX3_find_19 : decode cX3_find 19 = .ok (.iconst 0, 1) := by decide +kernel
theorem dX3_find_20 : decode cX3_find 20 = .ok (.iastore, 1) := by decide +kernel
theorem dX3_find_21 : decode cX3_find 21 = .ok (.aload_n 0, 1) := by decide +kernel
theorem dX3_find_22 : decode cX3_find 22 = .ok (.getfield 15, 3) := by decide +kernel
theorem dX3_find_25 : decode cX3_find 25 = .ok (.iload 6, 2) := by decide +kernel
theorem dX3_find_27 : decode cX3_find 27 = .ok (.lconst 0, 1) := by decide +kernel
theorem dX3_find_28 : decode cX3_find 28 = .ok (.lastore, 1) := by decide +kernel
theorem dX3_find_29 : decode cX3_find 29 = .ok (.iinc 6 1, 3) := by decide +kernel
theorem dX3_find_32 : decode cX3_find 32 = .ok (.goto (-29), 3) := by decide +kernel
theorem dX3_find_35 : decode cX3_find 35 = .ok (.bipush 55, 2) := by decide +kernel
theorem dX3_find_37 : decode cX3_find 37 = .ok (.istore 6, 2) := by decide +kernel
theorem dX3_find_39 : decode cX3_find 39 = .ok (.iload 6, 2) := by decide +kernel
theorem dX3_find_41 : decode cX3_find 41 = .ok (.ifCond .le 41, 3) := by decide +kernel
theorem dX3_find_44 : decode cX3_find 44 = .ok (.aload_n 1, 1) := by decide +kernel
theorem dX3_find_45 : decode cX3_find 45 = .ok (.iload 6, 2) := by decide +kernel
theorem dX3_find_47 : decode cX3_find 47 = .ok (.iconst 0, 1) := by decide +kernel
theorem dX3_find_48 : decode cX3_find 48 = .ok (.lload 4, 2) := by decide +kernel
theorem dX3_find_50 : decode cX3_find 50 = .ok (.invokestatic 19, 3) := by decide +kernel
theorem dX3_find_53 : decode cX3_find 53 = .ok (.istore 7, 2) := by decide +kernel
theorem dX3_find_55 : decode cX3_find 55 = .ok (.aload_n 1, 1) := by decide +kernel
theorem dX3_find_56 : decode cX3_find 56 = .ok (.iload 6, 2) := by decide +kernel
theorem dX3_find_58 : decode cX3_find 58 = .ok (.iconst 1, 1) := by decide +kernel
theorem dX3_find_59 : decode cX3_find 59 = .ok (.lload_n 2, 1) := by decide +kernel
theorem dX3_find_60 : decode cX3_find 60 = .ok (.invokestatic 19, 3) := by decide +kernel
theorem dX3_find_63 : decode cX3_find 63 = .ok (.istore 8, 2) := by decide +kernel
theorem dX3_find_65 : decode cX3_find 65 = .ok (.aload_n 0, 1) := by decide +kernel
theorem dX3_find_66 : decode cX3_find 66 = .ok (.aload_n 1, 1) := by decide +kernel
theorem dX3_find_67 : decode cX3_find 67 = .ok (.iload 6, 2) := by decide +kernel
theorem dX3_find_69 : decode cX3_find 69 = .ok (.iload 7, 2) := by decide +kernel
theorem dX3_find_71 : decode cX3_find 71 = .ok (.iload 8, 2) := by decide +kernel
theorem dX3_find_73 : decode cX3_find 73 = .ok (.invokevirtual 23, 3) := by decide +kernel
theorem dX3_find_76 : decode cX3_find 76 = .ok (.iinc 6 (-1), 3) := by decide +kernel
theorem dX3_find_79 : decode cX3_find 79 = .ok (.goto (-40), 3) := by decide +kernel
theorem dX3_find_82 : decode cX3_find 82 = .ok (.aload_n 1, 1) := by decide +kernel
theorem dX3_find_83 : decode cX3_find 83 = .ok (.iconst 0, 1) := by decide +kernel
theorem dX3_find_84 : decode cX3_find 84 = .ok (.iconst 0, 1) := by decide +kernel
theorem dX3_find_85 : decode cX3_find 85 = .ok (.lload 4, 2) := by decide +kernel
theorem dX3_find_87 : decode cX3_find 87 = .ok (.invokestatic 19, 3) := by decide +kernel
theorem dX3_find_90 : decode cX3_find 90 = .ok (.aload_n 0, 1) := by decide +kernel
theorem dX3_find_91 : decode cX3_find 91 = .ok (.getfield 11, 3) := by decide +kernel
theorem dX3_find_94 : decode cX3_find 94 = .ok (.iconst 0, 1) := by decide +kernel
theorem dX3_find_95 : decode cX3_find 95 = .ok (.iconst 1, 1) := by decide +kernel
theorem dX3_find_96 : decode cX3_find 96 = .ok (.invokestatic 27, 3) := by decide +kernel
theorem dX3_find_99 : decode cX3_find 99 = .ok (.iaload, 1) := by decide +kernel
theorem dX3_find_100 : decode cX3_find 100 = .ok (.iadd, 1) := by decide +kernel
theorem dX3_find_101 : decode cX3_find 101 = .ok (.istore 6, 2) := by decide +kernel
theorem dX3_find_103 : decode cX3_find 103 = .ok (.aload_n 1, 1) := by decide +kernel
theorem dX3_find_104 : decode cX3_find 104 = .ok (.iconst 0, 1) := by decide +kernel
theorem dX3_find_105 : decode cX3_find 105 = .ok (.iconst 1, 1) := by decide +kernel
theorem dX3_find_106 : decode cX3_find 106 = .ok (.lload_n 2, 1) := by decide +kernel
theorem dX3_find_107 : decode cX3_find 107 = .ok (.invokestatic 19, 3) := by decide +kernel
theorem dX3_find_110 : decode cX3_find 110 = .ok (.aload_n 0, 1) := by decide +kernel
theorem dX3_find_111 : decode cX3_find 111 = .ok (.getfield 11, 3) := by decide +kernel
theorem dX3_find_114 : decode cX3_find 114 = .ok (.iconst 1, 1) := by decide +kernel
theorem dX3_find_115 : decode cX3_find 115 = .ok (.iconst 1, 1) := by decide +kernel
theorem dX3_find_116 : decode cX3_find 116 = .ok (.invokestatic 27, 3) := by decide +kernel
theorem dX3_find_119 : decode cX3_find 119 = .ok (.iaload, 1) := by decide +kernel
theorem dX3_find_120 : decode cX3_find 120 = .ok (.iadd, 1) := by decide +kernel
theorem dX3_find_121 : decode cX3_find 121 = .ok (.istore 7, 2) := by decide +kernel
theorem dX3_find_123 : decode cX3_find 123 = .ok (.aload_n 0, 1) := by decide +kernel
theorem dX3_find_124 : decode cX3_find 124 = .ok (.iload 6, 2) := by decide +kernel
theorem dX3_find_126 : decode cX3_find 126 = .ok (.iload 7, 2) := by decide +kernel
theorem dX3_find_128 : decode cX3_find 128 = .ok (.invokestatic 31, 3) := by decide +kernel
theorem dX3_find_131 : decode cX3_find 131 = .ok (.putfield 36, 3) := by decide +kernel
theorem dX3_find_134 : decode cX3_find 134 = .ok (.aload_n 0, 1) := by decide +kernel
theorem dX3_find_135 : decode cX3_find 135 = .ok (.iload 6, 2) := by decide +kernel
theorem dX3_find_137 : decode cX3_find 137 = .ok (.iload 7, 2) := by decide +kernel
theorem dX3_find_139 : decode cX3_find 139 = .ok (.if_icmp .gt 16, 3) := by decide +kernel
theorem dX3_find_142 : decode cX3_find 142 = .ok (.aload_n 0, 1) := by decide +kernel
theorem dX3_find_143 : decode cX3_find 143 = .ok (.getfield 15, 3) := by decide +kernel
theorem dX3_find_146 : decode cX3_find 146 = .ok (.iconst 0, 1) := by decide +kernel
theorem dX3_find_147 : decode cX3_find 147 = .ok (.iconst 1, 1) := by decide +kernel
theorem dX3_find_148 : decode cX3_find 148 = .ok (.invokestatic 27, 3) := by decide +kernel
theorem dX3_find_151 : decode cX3_find 151 = .ok (.laload, 1) := by decide +kernel
theorem dX3_find_152 : decode cX3_find 152 = .ok (.goto 15, 3) := by decide +kernel
theorem dX3_find_155 : decode cX3_find 155 = .ok (.aload_n 0, 1) := by decide +kernel
theorem dX3_find_156 : decode cX3_find 156 = .ok (.getfield 15, 3) := by decide +kernel
theorem dX3_find_159 : decode cX3_find 159 = .ok (.iconst 1, 1) := by decide +kernel
theorem dX3_find_160 : decode cX3_find 160 = .ok (.iconst 1, 1) := by decide +kernel
theorem dX3_find_161 : decode cX3_find 161 = .ok (.invokestatic 27, 3) := by decide +kernel
theorem dX3_find_164 : decode cX3_find 164 = .ok (.laload, 1) := by decide +kernel
theorem dX3_find_165 : decode cX3_find 165 = .ok (.lconst 1, 1) := by decide +kernel
theorem dX3_find_166 : decode cX3_find 166 = .ok (.lor, 1) := by decide +kernel
theorem dX3_find_167 : decode cX3_find 167 = .ok (.putfield 40, 3) := by decide +kernel
theorem dX3_find_170 : decode cX3_find 170 = .ok (.return_, 1) := by decide +kernel
theorem dX3_placeOf_0 : decode cX3_placeOf 0 = .ok (.iload_n 0, 1) := by decide +kernel
theorem dX3_placeOf_1 : decode cX3_placeOf 1 = .ok (.bipush 15, 2) := by decide +kernel
theorem dX3_placeOf_3 : decode cX3_placeOf 3 = .ok (.imul, 1) := by decide +kernel
theorem dX3_placeOf_4 : decode cX3_placeOf 4 = .ok (.iload_n 1, 1) := by decide +kernel
theorem dX3_placeOf_5 : decode cX3_placeOf 5 = .ok (.iadd, 1) := by decide +kernel
theorem dX3_placeOf_6 : decode cX3_placeOf 6 = .ok (.ireturn, 1) := by decide +kernel
set_option maxRecDepth 20000 in
theorem ggX3_priceWithin_X1_holds : GoodIn wsX3_priceWithin wsX1_holds := goodIn_r _ [5] (by decide +kernel) (by decide +kernel)
set_option maxRecDepth 20000 in
theorem gX3_priceWithin_X1_holds : GoodIn wsX3_priceWithin (va_wsS RX3 44 yX1_holds wsX1_holds) := goodIn_app (goodIn_of _ (by decide +kernel)) ggX3_priceWithin_X1_holds
set_option maxRecDepth 20000 in
theorem ggX3_priceWithin_X7_priceOf : GoodIn wsX3_priceWithin wsX7_priceOf := goodIn_r _ [10, 11, 12, 13, 14, 15, 16] (by decide +kernel) (by decide +kernel)
set_option maxRecDepth 20000 in
theorem gX3_priceWithin_X7_priceOf : GoodIn wsX3_priceWithin (wsV RX3 51 RX7 yX7_priceOf wsX7_priceOf) := goodIn_app (goodIn_of _ (by decide +kernel)) ggX3_priceWithin_X7_priceOf
theorem dX3_priceWithin_0 : decode cX3_priceWithin 0 = .ok (.lload_n 3, 1) := by decide +kernel
theorem dX3_priceWithin_1 : decode cX3_priceWithin 1 = .ok (.iload_n 1, 1) := by decide +kernel
theorem dX3_priceWithin_2 : decode cX3_priceWithin 2 = .ok (.invokestatic 44, 3) := by decide +kernel
theorem dX3_priceWithin_5 : decode cX3_priceWithin 5 = .ok (.ifCond .eq 8, 3) := by decide +kernel
theorem dX3_priceWithin_8 : decode cX3_priceWithin 8 = .ok (.ldc 50, 2) := by decide +kernel
theorem dX3_priceWithin_10 : decode cX3_priceWithin 10 = .ok (.goto 9, 3) := by decide +kernel
theorem dX3_priceWithin_13 : decode cX3_priceWithin 13 = .ok (.aload_n 0, 1) := by decide +kernel
theorem dX3_priceWithin_14 : decode cX3_priceWithin 14 = .ok (.iload_n 1, 1) := by decide +kernel
theorem dX3_priceWithin_15 : decode cX3_priceWithin 15 = .ok (.iload_n 2, 1) := by decide +kernel
theorem dX3_priceWithin_16 : decode cX3_priceWithin 16 = .ok (.invokevirtual 51, 3) := by decide +kernel
theorem dX3_priceWithin_19 : decode cX3_priceWithin 19 = .ok (.ireturn, 1) := by decide +kernel
set_option maxRecDepth 20000 in
theorem ggX3_stepAhead_X3_placeOf : GoodIn wsX3_stepAhead wsX3_placeOf := goodIn_r _ [16] (by decide +kernel) (by decide +kernel)
set_option maxRecDepth 20000 in
theorem gX3_stepAhead_X3_placeOf : GoodIn wsX3_stepAhead (va_wsS RX3 27 yX3_placeOf wsX3_placeOf) := goodIn_app (goodIn_of _ (by decide +kernel)) ggX3_stepAhead_X3_placeOf
theorem dX3_stepAhead_0 : decode cX3_stepAhead 0 = .ok (.iload_n 3, 1) := by decide +kernel
theorem dX3_stepAhead_1 : decode cX3_stepAhead 1 = .ok (.aload_n 0, 1) := by decide +kernel
theorem dX3_stepAhead_2 : decode cX3_stepAhead 2 = .ok (.getfield 11, 3) := by decide +kernel
theorem dX3_stepAhead_5 : decode cX3_stepAhead 5 = .ok (.iconst 0, 1) := by decide +kernel
theorem dX3_stepAhead_6 : decode cX3_stepAhead 6 = .ok (.iconst 1, 1) := by decide +kernel
theorem dX3_stepAhead_7 : decode cX3_stepAhead 7 = .ok (.invokestatic 27, 3) := by decide +kernel
theorem dX3_stepAhead_10 : decode cX3_stepAhead 10 = .ok (.iaload, 1) := by decide +kernel
theorem dX3_stepAhead_11 : decode cX3_stepAhead 11 = .ok (.iadd, 1) := by decide +kernel
theorem dX3_stepAhead_12 : decode cX3_stepAhead 12 = .ok (.istore 5, 2) := by decide +kernel
theorem dX3_stepAhead_14 : decode cX3_stepAhead 14 = .ok (.iload 4, 2) := by decide +kernel
theorem dX3_stepAhead_16 : decode cX3_stepAhead 16 = .ok (.aload_n 0, 1) := by decide +kernel
theorem dX3_stepAhead_17 : decode cX3_stepAhead 17 = .ok (.getfield 11, 3) := by decide +kernel
theorem dX3_stepAhead_20 : decode cX3_stepAhead 20 = .ok (.iconst 1, 1) := by decide +kernel
theorem dX3_stepAhead_21 : decode cX3_stepAhead 21 = .ok (.iconst 1, 1) := by decide +kernel
theorem dX3_stepAhead_22 : decode cX3_stepAhead 22 = .ok (.invokestatic 27, 3) := by decide +kernel
theorem dX3_stepAhead_25 : decode cX3_stepAhead 25 = .ok (.iaload, 1) := by decide +kernel
theorem dX3_stepAhead_26 : decode cX3_stepAhead 26 = .ok (.iadd, 1) := by decide +kernel
theorem dX3_stepAhead_27 : decode cX3_stepAhead 27 = .ok (.istore 6, 2) := by decide +kernel
theorem dX3_stepAhead_29 : decode cX3_stepAhead 29 = .ok (.aload_n 0, 1) := by decide +kernel
theorem dX3_stepAhead_30 : decode cX3_stepAhead 30 = .ok (.getfield 15, 3) := by decide +kernel
theorem dX3_stepAhead_33 : decode cX3_stepAhead 33 = .ok (.iconst 0, 1) := by decide +kernel
theorem dX3_stepAhead_34 : decode cX3_stepAhead 34 = .ok (.iconst 1, 1) := by decide +kernel
theorem dX3_stepAhead_35 : decode cX3_stepAhead 35 = .ok (.invokestatic 27, 3) := by decide +kernel
theorem dX3_stepAhead_38 : decode cX3_stepAhead 38 = .ok (.laload, 1) := by decide +kernel
theorem dX3_stepAhead_39 : decode cX3_stepAhead 39 = .ok (.lstore 7, 2) := by decide +kernel
theorem dX3_stepAhead_41 : decode cX3_stepAhead 41 = .ok (.aload_n 0, 1) := by decide +kernel
theorem dX3_stepAhead_42 : decode cX3_stepAhead 42 = .ok (.getfield 15, 3) := by decide +kernel
theorem dX3_stepAhead_45 : decode cX3_stepAhead 45 = .ok (.iconst 1, 1) := by decide +kernel
theorem dX3_stepAhead_46 : decode cX3_stepAhead 46 = .ok (.iconst 1, 1) := by decide +kernel
theorem dX3_stepAhead_47 : decode cX3_stepAhead 47 = .ok (.invokestatic 27, 3) := by decide +kernel
theorem dX3_stepAhead_50 : decode cX3_stepAhead 50 = .ok (.laload, 1) := by decide +kernel
theorem dX3_stepAhead_51 : decode cX3_stepAhead 51 = .ok (.lconst 1, 1) := by decide +kernel
theorem dX3_stepAhead_52 : decode cX3_stepAhead 52 = .ok (.iload_n 2, 1) := by decide +kernel
theorem dX3_stepAhead_53 : decode cX3_stepAhead 53 = .ok (.lshl, 1) := by decide +kernel
theorem dX3_stepAhead_54 : decode cX3_stepAhead 54 = .ok (.lor, 1) := by decide +kernel
theorem dX3_stepAhead_55 : decode cX3_stepAhead 55 = .ok (.lstore 9, 2) := by decide +kernel
theorem dX3_stepAhead_57 : decode cX3_stepAhead 57 = .ok (.iconst 1, 1) := by decide +kernel
theorem dX3_stepAhead_58 : decode cX3_stepAhead 58 = .ok (.aload_n 1, 1) := by decide +kernel
theorem dX3_stepAhead_59 : decode cX3_stepAhead 59 = .ok (.getfield 56, 3) := by decide +kernel
theorem dX3_stepAhead_62 : decode cX3_stepAhead 62 = .ok (.bipush 14, 2) := by decide +kernel
theorem dX3_stepAhead_64 : decode cX3_stepAhead 64 = .ok (.invokestatic 31, 3) := by decide +kernel
theorem dX3_stepAhead_67 : decode cX3_stepAhead 67 = .ok (.invokestatic 59, 3) := by decide +kernel
theorem dX3_stepAhead_70 : decode cX3_stepAhead 70 = .ok (.istore 11, 2) := by decide +kernel
theorem dX3_stepAhead_72 : decode cX3_stepAhead 72 = .ok (.iconst 1, 1) := by decide +kernel
theorem dX3_stepAhead_73 : decode cX3_stepAhead 73 = .ok (.istore 12, 2) := by decide +kernel
theorem dX3_stepAhead_75 : decode cX3_stepAhead 75 = .ok (.iload 12, 2) := by decide +kernel
theorem dX3_stepAhead_77 : decode cX3_stepAhead 77 = .ok (.iload 11, 2) := by decide +kernel
theorem dX3_stepAhead_79 : decode cX3_stepAhead 79 = .ok (.if_icmp .gt 240, 3) := by decide +kernel
theorem dX3_stepAhead_82 : decode cX3_stepAhead 82 = .ok (.iload 12, 2) := by decide +kernel
theorem dX3_stepAhead_84 : decode cX3_stepAhead 84 = .ok (.iconst 1, 1) := by decide +kernel
theorem dX3_stepAhead_85 : decode cX3_stepAhead 85 = .ok (.iadd, 1) := by decide +kernel
theorem dX3_stepAhead_86 : decode cX3_stepAhead 86 = .ok (.iload 11, 2) := by decide +kernel
theorem dX3_stepAhead_88 : decode cX3_stepAhead 88 = .ok (.invokestatic 31, 3) := by decide +kernel
theorem dX3_stepAhead_91 : decode cX3_stepAhead 91 = .ok (.istore 13, 2) := by decide +kernel
theorem dX3_stepAhead_93 : decode cX3_stepAhead 93 = .ok (.iload 12, 2) := by decide +kernel
theorem dX3_stepAhead_95 : decode cX3_stepAhead 95 = .ok (.iload 11, 2) := by decide +kernel
theorem dX3_stepAhead_97 : decode cX3_stepAhead 97 = .ok (.if_icmp .ne 10, 3) := by decide +kernel
theorem dX3_stepAhead_100 : decode cX3_stepAhead 100 = .ok (.aload_n 1, 1) := by decide +kernel
theorem dX3_stepAhead_101 : decode cX3_stepAhead 101 = .ok (.getfield 62, 3) := by decide +kernel
theorem dX3_stepAhead_104 : decode cX3_stepAhead 104 = .ok (.goto 4, 3) := by decide +kernel
theorem dX3_stepAhead_107 : decode cX3_stepAhead 107 = .ok (.iconst 0, 1) := by decide +kernel
theorem dX3_stepAhead_108 : decode cX3_stepAhead 108 = .ok (.istore 14, 2) := by decide +kernel
theorem dX3_stepAhead_110 : decode cX3_stepAhead 110 = .ok (.iconst 0, 1) := by decide +kernel
theorem dX3_stepAhead_111 : decode cX3_stepAhead 111 = .ok (.iload 12, 2) := by decide +kernel
theorem dX3_stepAhead_113 : decode cX3_stepAhead 113 = .ok (.invokestatic 27, 3) := by decide +kernel
theorem dX3_stepAhead_116 : decode cX3_stepAhead 116 = .ok (.istore 15, 2) := by decide +kernel
theorem dX3_stepAhead_118 : decode cX3_stepAhead 118 = .ok (.iconst 1, 1) := by decide +kernel
theorem dX3_stepAhead_119 : decode cX3_stepAhead 119 = .ok (.iload 12, 2) := by decide +kernel
theorem dX3_stepAhead_121 : decode cX3_stepAhead 121 = .ok (.invokestatic 27, 3) := by decide +kernel
theorem dX3_stepAhead_124 : decode cX3_stepAhead 124 = .ok (.istore 16, 2) := by decide +kernel
theorem dX3_stepAhead_126 : decode cX3_stepAhead 126 = .ok (.iload_n 3, 1) := by decide +kernel
theorem dX3_stepAhead_127 : decode cX3_stepAhead 127 = .ok (.iload 14, 2) := by decide +kernel
theorem dX3_stepAhead_129 : decode cX3_stepAhead 129 = .ok (.iadd, 1) := by decide +kernel
theorem dX3_stepAhead_130 : decode cX3_stepAhead 130 = .ok (.aload_n 0, 1) := by decide +kernel
theorem dX3_stepAhead_131 : decode cX3_stepAhead 131 = .ok (.getfield 11, 3) := by decide +kernel
theorem dX3_stepAhead_134 : decode cX3_stepAhead 134 = .ok (.iconst 0, 1) := by decide +kernel
theorem dX3_stepAhead_135 : decode cX3_stepAhead 135 = .ok (.iload 13, 2) := by decide +kernel
theorem dX3_stepAhead_137 : decode cX3_stepAhead 137 = .ok (.invokestatic 27, 3) := by decide +kernel
theorem dX3_stepAhead_140 : decode cX3_stepAhead 140 = .ok (.iaload, 1) := by decide +kernel
theorem dX3_stepAhead_141 : decode cX3_stepAhead 141 = .ok (.iadd, 1) := by decide +kernel
theorem dX3_stepAhead_142 : decode cX3_stepAhead 142 = .ok (.istore 17, 2) := by decide +kernel
theorem dX3_stepAhead_144 : decode cX3_stepAhead 144 = .ok (.iload 4, 2) := by decide +kernel
theorem dX3_stepAhead_146 : decode cX3_stepAhead 146 = .ok (.iload 14, 2) := by decide +kernel
theorem dX3_stepAhead_148 : decode cX3_stepAhead 148 = .ok (.iadd, 1) := by decide +kernel
theorem dX3_stepAhead_149 : decode cX3_stepAhead 149 = .ok (.aload_n 0, 1) := by decide +kernel
theorem dX3_stepAhead_150 : decode cX3_stepAhead 150 = .ok (.getfield 11, 3) := by decide +kernel
theorem dX3_stepAhead_153 : decode cX3_stepAhead 153 = .ok (.iconst 1, 1) := by decide +kernel
theorem dX3_stepAhead_154 : decode cX3_stepAhead 154 = .ok (.iload 13, 2) := by decide +kernel
theorem dX3_stepAhead_156 : decode cX3_stepAhead 156 = .ok (.invokestatic 27, 3) := by decide +kernel
theorem dX3_stepAhead_159 : decode cX3_stepAhead 159 = .ok (.iaload, 1) := by decide +kernel
theorem dX3_stepAhead_160 : decode cX3_stepAhead 160 = .ok (.iadd, 1) := by decide +kernel
theorem dX3_stepAhead_161 : decode cX3_stepAhead 161 = .ok (.istore 18, 2) := by decide +kernel
theorem dX3_stepAhead_163 : decode cX3_stepAhead 163 = .ok (.aload_n 0, 1) := by decide +kernel
theorem dX3_stepAhead_164 : decode cX3_stepAhead 164 = .ok (.getfield 15, 3) := by decide +kernel
theorem dX3_stepAhead_167 : decode cX3_stepAhead 167 = .ok (.iconst 1, 1) := by decide +kernel
theorem dX3_stepAhead_168 : decode cX3_stepAhead 168 = .ok (.iload 13, 2) := by decide +kernel
theorem dX3_stepAhead_170 : decode cX3_stepAhead 170 = .ok (.invokestatic 27, 3) := by decide +kernel
theorem dX3_stepAhead_173 : decode cX3_stepAhead 173 = .ok (.laload, 1) := by decide +kernel
theorem dX3_stepAhead_174 : decode cX3_stepAhead 174 = .ok (.lconst 1, 1) := by decide +kernel
theorem dX3_stepAhead_175 : decode cX3_stepAhead 175 = .ok (.iload_n 2, 1) := by decide +kernel
theorem dX3_stepAhead_176 : decode cX3_stepAhead 176 = .ok (.lshl, 1) := by decide +kernel
theorem dX3_stepAhead_177 : decode cX3_stepAhead 177 = .ok (.lor, 1) := by decide +kernel
theorem dX3_stepAhead_178 : decode cX3_stepAhead 178 = .ok (.lstore 19, 2) := by decide +kernel
theorem dX3_stepAhead_180 : decode cX3_stepAhead 180 = .ok (.iload 17, 2) := by decide +kernel
theorem dX3_stepAhead_182 : decode cX3_stepAhead 182 = .ok (.iload 6, 2) := by decide +kernel
theorem dX3_stepAhead_184 : decode cX3_stepAhead 184 = .ok (.aload_n 1, 1) := by decide +kernel
theorem dX3_stepAhead_185 : decode cX3_stepAhead 185 = .ok (.getfield 65, 3) := by decide +kernel
theorem dX3_stepAhead_188 : decode cX3_stepAhead 188 = .ok (.iadd, 1) := by decide +kernel
theorem dX3_stepAhead_189 : decode cX3_stepAhead 189 = .ok (.if_icmp .gt 7, 3) := by decide +kernel
theorem dX3_stepAhead_192 : decode cX3_stepAhead 192 = .ok (.iconst 1, 1) := by decide +kernel
theorem dX3_stepAhead_193 : decode cX3_stepAhead 193 = .ok (.goto 4, 3) := by decide +kernel
theorem dX3_stepAhead_196 : decode cX3_stepAhead 196 = .ok (.iconst 0, 1) := by decide +kernel
theorem dX3_stepAhead_197 : decode cX3_stepAhead 197 = .ok (.istore 21, 2) := by decide +kernel
theorem dX3_stepAhead_199 : decode cX3_stepAhead 199 = .ok (.aload_n 0, 1) := by decide +kernel
theorem dX3_stepAhead_200 : decode cX3_stepAhead 200 = .ok (.getfield 11, 3) := by decide +kernel
theorem dX3_stepAhead_203 : decode cX3_stepAhead 203 = .ok (.iload 15, 2) := by decide +kernel
theorem dX3_stepAhead_205 : decode cX3_stepAhead 205 = .ok (.iload 21, 2) := by decide +kernel
theorem dX3_stepAhead_207 : decode cX3_stepAhead 207 = .ok (.ifCond .eq 8, 3) := by decide +kernel
theorem dX3_stepAhead_210 : decode cX3_stepAhead 210 = .ok (.iload 17, 2) := by decide +kernel
theorem dX3_stepAhead_212 : decode cX3_stepAhead 212 = .ok (.goto 10, 3) := by decide +kernel
theorem dX3_stepAhead_215 : decode cX3_stepAhead 215 = .ok (.iload 6, 2) := by decide +kernel
theorem dX3_stepAhead_217 : decode cX3_stepAhead 217 = .ok (.aload_n 1, 1) := by decide +kernel
theorem dX3_stepAhead_218 : decode cX3_stepAhead 218 = .ok (.getfield 65, 3) := by decide +kernel
theorem dX3_stepAhead_221 : decode cX3_stepAhead 221 = .ok (.iadd, 1) := by decide +kernel
theorem dX3_stepAhead_222 : decode cX3_stepAhead 222 = .ok (.iastore, 1) := by decide +kernel
theorem dX3_stepAhead_223 : decode cX3_stepAhead 223 = .ok (.aload_n 0, 1) := by decide +kernel
theorem dX3_stepAhead_224 : decode cX3_stepAhead 224 = .ok (.getfield 15, 3) := by decide +kernel
theorem dX3_stepAhead_227 : decode cX3_stepAhead 227 = .ok (.iload 15, 2) := by decide +kernel
theorem dX3_stepAhead_229 : decode cX3_stepAhead 229 = .ok (.iload 21, 2) := by decide +kernel
theorem dX3_stepAhead_231 : decode cX3_stepAhead 231 = .ok (.ifCond .eq 17, 3) := by decide +kernel
theorem dX3_stepAhead_234 : decode cX3_stepAhead 234 = .ok (.aload_n 0, 1) := by decide +kernel
theorem dX3_stepAhead_235 : decode cX3_stepAhead 235 = .ok (.getfield 15, 3) := by decide +kernel
theorem dX3_stepAhead_238 : decode cX3_stepAhead 238 = .ok (.iconst 0, 1) := by decide +kernel
theorem dX3_stepAhead_239 : decode cX3_stepAhead 239 = .ok (.iload 13, 2) := by decide +kernel
theorem dX3_stepAhead_241 : decode cX3_stepAhead 241 = .ok (.invokestatic 27, 3) := by decide +kernel
theorem dX3_stepAhead_244 : decode cX3_stepAhead 244 = .ok (.laload, 1) := by decide +kernel
theorem dX3_stepAhead_245 : decode cX3_stepAhead 245 = .ok (.goto 5, 3) := by decide +kernel
theorem dX3_stepAhead_248 : decode cX3_stepAhead 248 = .ok (.lload 9, 2) := by decide +kernel
theorem dX3_stepAhead_250 : decode cX3_stepAhead 250 = .ok (.lastore, 1) := by decide +kernel
theorem dX3_stepAhead_251 : decode cX3_stepAhead 251 = .ok (.iload 5, 2) := by decide +kernel
theorem dX3_stepAhead_253 : decode cX3_stepAhead 253 = .ok (.aload_n 1, 1) := by decide +kernel
theorem dX3_stepAhead_254 : decode cX3_stepAhead 254 = .ok (.getfield 65, 3) := by decide +kernel
theorem dX3_stepAhead_257 : decode cX3_stepAhead 257 = .ok (.iadd, 1) := by decide +kernel
theorem dX3_stepAhead_258 : decode cX3_stepAhead 258 = .ok (.iload 18, 2) := by decide +kernel
theorem dX3_stepAhead_260 : decode cX3_stepAhead 260 = .ok (.if_icmp .gt 7, 3) := by decide +kernel
theorem dX3_stepAhead_263 : decode cX3_stepAhead 263 = .ok (.iconst 1, 1) := by decide +kernel
theorem dX3_stepAhead_264 : decode cX3_stepAhead 264 = .ok (.goto 4, 3) := by decide +kernel
theorem dX3_stepAhead_267 : decode cX3_stepAhead 267 = .ok (.iconst 0, 1) := by decide +kernel
theorem dX3_stepAhead_268 : decode cX3_stepAhead 268 = .ok (.istore 22, 2) := by decide +kernel
theorem dX3_stepAhead_270 : decode cX3_stepAhead 270 = .ok (.aload_n 0, 1) := by decide +kernel
theorem dX3_stepAhead_271 : decode cX3_stepAhead 271 = .ok (.getfield 11, 3) := by decide +kernel
theorem dX3_stepAhead_274 : decode cX3_stepAhead 274 = .ok (.iload 16, 2) := by decide +kernel
theorem dX3_stepAhead_276 : decode cX3_stepAhead 276 = .ok (.iload 22, 2) := by decide +kernel
theorem dX3_stepAhead_278 : decode cX3_stepAhead 278 = .ok (.ifCond .eq 13, 3) := by decide +kernel
theorem dX3_stepAhead_281 : decode cX3_stepAhead 281 = .ok (.iload 5, 2) := by decide +kernel
theorem dX3_stepAhead_283 : decode cX3_stepAhead 283 = .ok (.aload_n 1, 1) := by decide +kernel
theorem dX3_stepAhead_284 : decode cX3_stepAhead 284 = .ok (.getfield 65, 3) := by decide +kernel
theorem dX3_stepAhead_287 : decode cX3_stepAhead 287 = .ok (.iadd, 1) := by decide +kernel
theorem dX3_stepAhead_288 : decode cX3_stepAhead 288 = .ok (.goto 5, 3) := by decide +kernel
theorem dX3_stepAhead_291 : decode cX3_stepAhead 291 = .ok (.iload 18, 2) := by decide +kernel
theorem dX3_stepAhead_293 : decode cX3_stepAhead 293 = .ok (.iastore, 1) := by decide +kernel
theorem dX3_stepAhead_294 : decode cX3_stepAhead 294 = .ok (.aload_n 0, 1) := by decide +kernel
theorem dX3_stepAhead_295 : decode cX3_stepAhead 295 = .ok (.getfield 15, 3) := by decide +kernel
theorem dX3_stepAhead_298 : decode cX3_stepAhead 298 = .ok (.iload 16, 2) := by decide +kernel
theorem dX3_stepAhead_300 : decode cX3_stepAhead 300 = .ok (.iload 22, 2) := by decide +kernel
theorem dX3_stepAhead_302 : decode cX3_stepAhead 302 = .ok (.ifCond .eq 8, 3) := by decide +kernel
theorem dX3_stepAhead_305 : decode cX3_stepAhead 305 = .ok (.lload 7, 2) := by decide +kernel
theorem dX3_stepAhead_307 : decode cX3_stepAhead 307 = .ok (.goto 5, 3) := by decide +kernel
theorem dX3_stepAhead_310 : decode cX3_stepAhead 310 = .ok (.lload 19, 2) := by decide +kernel
theorem dX3_stepAhead_312 : decode cX3_stepAhead 312 = .ok (.lastore, 1) := by decide +kernel
theorem dX3_stepAhead_313 : decode cX3_stepAhead 313 = .ok (.iinc 12 1, 3) := by decide +kernel
theorem dX3_stepAhead_316 : decode cX3_stepAhead 316 = .ok (.goto (-241), 3) := by decide +kernel
theorem dX3_stepAhead_319 : decode cX3_stepAhead 319 = .ok (.return_, 1) := by decide +kernel
theorem dX4_init_0 : decode cX4_init 0 = .ok (.aload_n 0, 1) := by decide +kernel
theorem dX4_init_1 : decode cX4_init 1 = .ok (.invokespecial 3, 3) := by decide +kernel
theorem dX4_init_4 : decode cX4_init 4 = .ok (.return_, 1) := by decide +kernel
theorem dX4_clear_0 : decode cX4_clear 0 = .ok (.aload_n 0, 1) := by decide +kernel
theorem dX4_clear_1 : decode cX4_clear 1 = .ok (.lconst 0, 1) := by decide +kernel
theorem dX4_clear_2 : decode cX4_clear 2 = .ok (.putfield 9, 3) := by decide +kernel
theorem dX4_clear_5 : decode cX4_clear 5 = .ok (.aload_n 0, 1) := by decide +kernel
theorem dX4_clear_6 : decode cX4_clear 6 = .ok (.lconst 0, 1) := by decide +kernel
theorem dX4_clear_7 : decode cX4_clear 7 = .ok (.putfield 15, 3) := by decide +kernel
theorem dX4_clear_10 : decode cX4_clear 10 = .ok (.aload_n 0, 1) := by decide +kernel
theorem dX4_clear_11 : decode cX4_clear 11 = .ok (.lconst 0, 1) := by decide +kernel
theorem dX4_clear_12 : decode cX4_clear 12 = .ok (.putfield 18, 3) := by decide +kernel
theorem dX4_clear_15 : decode cX4_clear 15 = .ok (.return_, 1) := by decide +kernel
set_option maxRecDepth 20000 in
theorem ggX4_settle_X4_nightsThatAre : GoodIn wsX4_settle wsX4_nightsThatAre := goodIn_r _ [9, 2, 4, 10, 1, 3, 11, 12, 13] (by decide +kernel) (by decide +kernel)
set_option maxRecDepth 20000 in
theorem gX4_settle_X4_nightsThatAre : GoodIn wsX4_settle (wsV RX4 21 RX4 yX4_nightsThatAre wsX4_nightsThatAre) := goodIn_app (goodIn_of _ (by decide +kernel)) ggX4_settle_X4_nightsThatAre
theorem dX4_settle_0 : decode cX4_settle 0 = .ok (.aload_n 0, 1) := by decide +kernel
theorem dX4_settle_1 : decode cX4_settle 1 = .ok (.iconst 2, 1) := by decide +kernel
theorem dX4_settle_2 : decode cX4_settle 2 = .ok (.invokevirtual 21, 3) := by decide +kernel
theorem dX4_settle_5 : decode cX4_settle 5 = .ok (.lstore 5, 2) := by decide +kernel
theorem dX4_settle_7 : decode cX4_settle 7 = .ok (.aload_n 0, 1) := by decide +kernel
theorem dX4_settle_8 : decode cX4_settle 8 = .ok (.dup, 1) := by decide +kernel
theorem dX4_settle_9 : decode cX4_settle 9 = .ok (.getfield 18, 3) := by decide +kernel
theorem dX4_settle_12 : decode cX4_settle 12 = .ok (.lload_n 1, 1) := by decide +kernel
theorem dX4_settle_13 : decode cX4_settle 13 = .ok (.lload_n 3, 1) := by decide +kernel
theorem dX4_settle_14 : decode cX4_settle 14 = .ok (.land, 1) := by decide +kernel
theorem dX4_settle_15 : decode cX4_settle 15 = .ok (.lload 5, 2) := by decide +kernel
theorem dX4_settle_17 : decode cX4_settle 17 = .ok (.land, 1) := by decide +kernel
theorem dX4_settle_18 : decode cX4_settle 18 = .ok (.lor, 1) := by decide +kernel
theorem dX4_settle_19 : decode cX4_settle 19 = .ok (.putfield 18, 3) := by decide +kernel
theorem dX4_settle_22 : decode cX4_settle 22 = .ok (.aload_n 0, 1) := by decide +kernel
theorem dX4_settle_23 : decode cX4_settle 23 = .ok (.dup, 1) := by decide +kernel
theorem dX4_settle_24 : decode cX4_settle 24 = .ok (.getfield 9, 3) := by decide +kernel
theorem dX4_settle_27 : decode cX4_settle 27 = .ok (.lload_n 1, 1) := by decide +kernel
theorem dX4_settle_28 : decode cX4_settle 28 = .ok (.lload_n 3, 1) := by decide +kernel
theorem dX4_settle_29 : decode cX4_settle 29 = .ok (.ldc2_w 25, 3) := by decide +kernel
theorem dX4_settle_32 : decode cX4_settle 32 = .ok (.lxor, 1) := by decide +kernel
theorem dX4_settle_33 : decode cX4_settle 33 = .ok (.land, 1) := by decide +kernel
theorem dX4_settle_34 : decode cX4_settle 34 = .ok (.lload 5, 2) := by decide +kernel
theorem dX4_settle_36 : decode cX4_settle 36 = .ok (.land, 1) := by decide +kernel
theorem dX4_settle_37 : decode cX4_settle 37 = .ok (.lor, 1) := by decide +kernel
theorem dX4_settle_38 : decode cX4_settle 38 = .ok (.putfield 9, 3) := by decide +kernel
theorem dX4_settle_41 : decode cX4_settle 41 = .ok (.aload_n 0, 1) := by decide +kernel
theorem dX4_settle_42 : decode cX4_settle 42 = .ok (.dup, 1) := by decide +kernel
theorem dX4_settle_43 : decode cX4_settle 43 = .ok (.getfield 15, 3) := by decide +kernel
theorem dX4_settle_46 : decode cX4_settle 46 = .ok (.lload_n 3, 1) := by decide +kernel
theorem dX4_settle_47 : decode cX4_settle 47 = .ok (.lload_n 1, 1) := by decide +kernel
theorem dX4_settle_48 : decode cX4_settle 48 = .ok (.ldc2_w 25, 3) := by decide +kernel
theorem dX4_settle_51 : decode cX4_settle 51 = .ok (.lxor, 1) := by decide +kernel
theorem dX4_settle_52 : decode cX4_settle 52 = .ok (.land, 1) := by decide +kernel
theorem dX4_settle_53 : decode cX4_settle 53 = .ok (.lload 5, 2) := by decide +kernel
theorem dX4_settle_55 : decode cX4_settle 55 = .ok (.land, 1) := by decide +kernel
theorem dX4_settle_56 : decode cX4_settle 56 = .ok (.lor, 1) := by decide +kernel
theorem dX4_settle_57 : decode cX4_settle 57 = .ok (.putfield 15, 3) := by decide +kernel
theorem dX4_settle_60 : decode cX4_settle 60 = .ok (.return_, 1) := by decide +kernel
theorem dX4_nightsThatAre_0 : decode cX4_nightsThatAre 0 = .ok (.iload_n 1, 1) := by decide +kernel
theorem dX4_nightsThatAre_1 : decode cX4_nightsThatAre 1 = .ok (.tableswitch 60 0 2 #[27, 32, 37], 27) := by decide +kernel
theorem dX4_nightsThatAre_28 : decode cX4_nightsThatAre 28 = .ok (.aload_n 0, 1) := by decide +kernel
theorem dX4_nightsThatAre_29 : decode cX4_nightsThatAre 29 = .ok (.getfield 9, 3) := by decide +kernel
theorem dX4_nightsThatAre_32 : decode cX4_nightsThatAre 32 = .ok (.lreturn, 1) := by decide +kernel
theorem dX4_nightsThatAre_33 : decode cX4_nightsThatAre 33 = .ok (.aload_n 0, 1) := by decide +kernel
theorem dX4_nightsThatAre_34 : decode cX4_nightsThatAre 34 = .ok (.getfield 15, 3) := by decide +kernel
theorem dX4_nightsThatAre_37 : decode cX4_nightsThatAre 37 = .ok (.lreturn, 1) := by decide +kernel
theorem dX4_nightsThatAre_38 : decode cX4_nightsThatAre 38 = .ok (.ldc2_w 27, 3) := by decide +kernel
theorem dX4_nightsThatAre_41 : decode cX4_nightsThatAre 41 = .ok (.aload_n 0, 1) := by decide +kernel
theorem dX4_nightsThatAre_42 : decode cX4_nightsThatAre 42 = .ok (.getfield 9, 3) := by decide +kernel
theorem dX4_nightsThatAre_45 : decode cX4_nightsThatAre 45 = .ok (.aload_n 0, 1) := by decide +kernel
theorem dX4_nightsThatAre_46 : decode cX4_nightsThatAre 46 = .ok (.getfield 15, 3) := by decide +kernel
theorem dX4_nightsThatAre_49 : decode cX4_nightsThatAre 49 = .ok (.lor, 1) := by decide +kernel
theorem dX4_nightsThatAre_50 : decode cX4_nightsThatAre 50 = .ok (.aload_n 0, 1) := by decide +kernel
theorem dX4_nightsThatAre_51 : decode cX4_nightsThatAre 51 = .ok (.getfield 18, 3) := by decide +kernel
theorem dX4_nightsThatAre_54 : decode cX4_nightsThatAre 54 = .ok (.lor, 1) := by decide +kernel
theorem dX4_nightsThatAre_55 : decode cX4_nightsThatAre 55 = .ok (.ldc2_w 25, 3) := by decide +kernel
theorem dX4_nightsThatAre_58 : decode cX4_nightsThatAre 58 = .ok (.lxor, 1) := by decide +kernel
theorem dX4_nightsThatAre_59 : decode cX4_nightsThatAre 59 = .ok (.land, 1) := by decide +kernel
theorem dX4_nightsThatAre_60 : decode cX4_nightsThatAre 60 = .ok (.lreturn, 1) := by decide +kernel
theorem dX4_nightsThatAre_61 : decode cX4_nightsThatAre 61 = .ok (.aload_n 0, 1) := by decide +kernel
theorem dX4_nightsThatAre_62 : decode cX4_nightsThatAre 62 = .ok (.getfield 18, 3) := by decide +kernel
theorem dX4_nightsThatAre_65 : decode cX4_nightsThatAre 65 = .ok (.lreturn, 1) := by decide +kernel
set_option maxRecDepth 20000 in
theorem ggX4_whoseIs_X4_nightsThatAre : GoodIn wsX4_whoseIs wsX4_nightsThatAre := goodIn_r _ [5, 6, 7, 8, 9, 10, 15, 16, 17] (by decide +kernel) (by decide +kernel)
set_option maxRecDepth 20000 in
theorem gX4_whoseIs_X4_nightsThatAre : GoodIn wsX4_whoseIs (wsV RX4 21 RX4 yX4_nightsThatAre wsX4_nightsThatAre) := goodIn_app (goodIn_of _ (by decide +kernel)) ggX4_whoseIs_X4_nightsThatAre
set_option maxRecDepth 20000 in
theorem ggX4_whoseIs_X1_holds : GoodIn wsX4_whoseIs wsX1_holds := goodIn_r _ [14] (by decide +kernel) (by decide +kernel)
set_option maxRecDepth 20000 in
theorem gX4_whoseIs_X1_holds : GoodIn wsX4_whoseIs (va_wsS RX4 29 yX1_holds wsX1_holds) := goodIn_app (goodIn_of _ (by decide +kernel)) ggX4_whoseIs_X1_holds
theorem dX4_whoseIs_0 : decode cX4_whoseIs 0 = .ok (.iconst 0, 1) := by decide +kernel
theorem dX4_whoseIs_1 : decode cX4_whoseIs 1 = .ok (.istore_n 2, 1) := by decide +kernel
theorem dX4_whoseIs_2 : decode cX4_whoseIs 2 = .ok (.iload_n 2, 1) := by decide +kernel
theorem dX4_whoseIs_3 : decode cX4_whoseIs 3 = .ok (.iconst 3, 1) := by decide +kernel
theorem dX4_whoseIs_4 : decode cX4_whoseIs 4 = .ok (.if_icmp .ge 21, 3) := by decide +kernel
theorem dX4_whoseIs_7 : decode cX4_whoseIs 7 = .ok (.aload_n 0, 1) := by decide +kernel
theorem dX4_whoseIs_8 : decode cX4_whoseIs 8 = .ok (.iload_n 2, 1) := by decide +kernel
theorem dX4_whoseIs_9 : decode cX4_whoseIs 9 = .ok (.invokevirtual 21, 3) := by decide +kernel
theorem dX4_whoseIs_12 : decode cX4_whoseIs 12 = .ok (.iload_n 1, 1) := by decide +kernel
theorem dX4_whoseIs_13 : decode cX4_whoseIs 13 = .ok (.invokestatic 29, 3) := by decide +kernel
theorem dX4_whoseIs_16 : decode cX4_whoseIs 16 = .ok (.ifCond .ne 9, 3) := by decide +kernel
theorem dX4_whoseIs_19 : decode cX4_whoseIs 19 = .ok (.iinc 2 1, 3) := by decide +kernel
theorem dX4_whoseIs_22 : decode cX4_whoseIs 22 = .ok (.goto (-20), 3) := by decide +kernel
theorem dX4_whoseIs_25 : decode cX4_whoseIs 25 = .ok (.iload_n 2, 1) := by decide +kernel
theorem dX4_whoseIs_26 : decode cX4_whoseIs 26 = .ok (.ireturn, 1) := by decide +kernel
theorem dX4_toldOtherwise_0 : decode cX4_toldOtherwise 0 = .ok (.aload_n 0, 1) := by decide +kernel
theorem dX4_toldOtherwise_1 : decode cX4_toldOtherwise 1 = .ok (.getfield 9, 3) := by decide +kernel
theorem dX4_toldOtherwise_4 : decode cX4_toldOtherwise 4 = .ok (.aload_n 1, 1) := by decide +kernel
theorem dX4_toldOtherwise_5 : decode cX4_toldOtherwise 5 = .ok (.getfield 9, 3) := by decide +kernel
theorem dX4_toldOtherwise_8 : decode cX4_toldOtherwise 8 = .ok (.lxor, 1) := by decide +kernel
theorem dX4_toldOtherwise_9 : decode cX4_toldOtherwise 9 = .ok (.aload_n 0, 1) := by decide +kernel
theorem dX4_toldOtherwise_10 : decode cX4_toldOtherwise 10 = .ok (.getfield 15, 3) := by decide +kernel
theorem dX4_toldOtherwise_13 : decode cX4_toldOtherwise 13 = .ok (.aload_n 1, 1) := by decide +kernel
theorem dX4_toldOtherwise_14 : decode cX4_toldOtherwise 14 = .ok (.getfield 15, 3) := by decide +kernel
theorem dX4_toldOtherwise_17 : decode cX4_toldOtherwise 17 = .ok (.lxor, 1) := by decide +kernel
theorem dX4_toldOtherwise_18 : decode cX4_toldOtherwise 18 = .ok (.lor, 1) := by decide +kernel
theorem dX4_toldOtherwise_19 : decode cX4_toldOtherwise 19 = .ok (.aload_n 0, 1) := by decide +kernel
theorem dX4_toldOtherwise_20 : decode cX4_toldOtherwise 20 = .ok (.getfield 18, 3) := by decide +kernel
theorem dX4_toldOtherwise_23 : decode cX4_toldOtherwise 23 = .ok (.ldc2_w 25, 3) := by decide +kernel
theorem dX4_toldOtherwise_26 : decode cX4_toldOtherwise 26 = .ok (.lxor, 1) := by decide +kernel
theorem dX4_toldOtherwise_27 : decode cX4_toldOtherwise 27 = .ok (.land, 1) := by decide +kernel
theorem dX4_toldOtherwise_28 : decode cX4_toldOtherwise 28 = .ok (.lreturn, 1) := by decide +kernel
set_option maxRecDepth 20000 in
theorem ggX5_init_X2_init : GoodIn wsX5_init wsX2_init := goodIn_r _ [13, 14, 2, 3, 8, 15, 16, 17, 18, 19, 20, 21, 22, 23, 24, 25, 26, 27] (by decide +kernel) (by decide +kernel)
set_option maxRecDepth 20000 in
theorem gX5_init_X2_init : GoodIn wsX5_init (wsX2_init) := ggX5_init_X2_init
theorem dX5_init_0 : decode cX5_init 0 = .ok (.aload_n 0, 1) := by decide +kernel
theorem dX5_init_1 : decode cX5_init 1 = .ok (.invokespecial 3, 3) := by decide +kernel
theorem dX5_init_4 : decode cX5_init 4 = .ok (.aload_n 0, 1) := by decide +kernel
theorem dX5_init_5 : decode cX5_init 5 = .ok (.new 9, 3) := by decide +kernel
theorem dX5_init_8 : decode cX5_init 8 = .ok (.dup, 1) := by decide +kernel
theorem dX5_init_9 : decode cX5_init 9 = .ok (.invokespecial 11, 3) := by decide +kernel
theorem dX5_init_12 : decode cX5_init 12 = .ok (.putfield 12, 3) := by decide +kernel
theorem dX5_init_15 : decode cX5_init 15 = .ok (.aload_n 0, 1) := by decide +kernel
theorem dX5_init_16 : decode cX5_init 16 = .ok (.iconst 2, 1) := by decide +kernel
theorem dX5_init_17 : decode cX5_init 17 = .ok (.newarray .int, 2) := by decide +kernel
theorem dX5_init_19 : decode cX5_init 19 = .ok (.putfield 18, 3) := by decide +kernel
theorem dX5_init_22 : decode cX5_init 22 = .ok (.aload_n 0, 1) := by decide +kernel
theorem dX5_init_23 : decode cX5_init 23 = .ok (.iconst 2, 1) := by decide +kernel
theorem dX5_init_24 : decode cX5_init 24 = .ok (.newarray .int, 2) := by decide +kernel
theorem dX5_init_26 : decode cX5_init 26 = .ok (.putfield 22, 3) := by decide +kernel
theorem dX5_init_29 : decode cX5_init 29 = .ok (.return_, 1) := by decide +kernel
theorem dX5_place_0 : decode cX5_place 0 = .ok (.lconst 1, 1) := by decide +kernel
theorem dX5_place_1 : decode cX5_place 1 = .ok (.iload_n 1, 1) := by decide +kernel
theorem dX5_place_2 : decode cX5_place 2 = .ok (.lshl, 1) := by decide +kernel
theorem dX5_place_3 : decode cX5_place 3 = .ok (.lstore_n 3, 1) := by decide +kernel
theorem dX5_place_4 : decode cX5_place 4 = .ok (.aload_n 0, 1) := by decide +kernel
theorem dX5_place_5 : decode cX5_place 5 = .ok (.iload_n 2, 1) := by decide +kernel
theorem dX5_place_6 : decode cX5_place 6 = .ok (.ifCond .ne 16, 3) := by decide +kernel
theorem dX5_place_9 : decode cX5_place 9 = .ok (.aload_n 0, 1) := by decide +kernel
theorem dX5_place_10 : decode cX5_place 10 = .ok (.getfield 25, 3) := by decide +kernel
theorem dX5_place_13 : decode cX5_place 13 = .ok (.lload_n 3, 1) := by decide +kernel
theorem dX5_place_14 : decode cX5_place 14 = .ok (.ldc2_w 29, 3) := by decide +kernel
theorem dX5_place_17 : decode cX5_place 17 = .ok (.lxor, 1) := by decide +kernel
theorem dX5_place_18 : decode cX5_place 18 = .ok (.land, 1) := by decide +kernel
theorem dX5_place_19 : decode cX5_place 19 = .ok (.goto 9, 3) := by decide +kernel
theorem dX5_place_22 : decode cX5_place 22 = .ok (.aload_n 0, 1) := by decide +kernel
theorem dX5_place_23 : decode cX5_place 23 = .ok (.getfield 25, 3) := by decide +kernel
theorem dX5_place_26 : decode cX5_place 26 = .ok (.lload_n 3, 1) := by decide +kernel
theorem dX5_place_27 : decode cX5_place 27 = .ok (.lor, 1) := by decide +kernel
theorem dX5_place_28 : decode cX5_place 28 = .ok (.putfield 25, 3) := by decide +kernel
theorem dX5_place_31 : decode cX5_place 31 = .ok (.return_, 1) := by decide +kernel
theorem dX5_fine_0 : decode cX5_fine 0 = .ok (.iload_n 1, 1) := by decide +kernel
theorem dX5_fine_1 : decode cX5_fine 1 = .ok (.ifCond .lt 8, 3) := by decide +kernel
theorem dX5_fine_4 : decode cX5_fine 4 = .ok (.iload_n 1, 1) := by decide +kernel
theorem dX5_fine_5 : decode cX5_fine 5 = .ok (.iconst 2, 1) := by decide +kernel
theorem dX5_fine_6 : decode cX5_fine 6 = .ok (.if_icmp .lt 5, 3) := by decide +kernel
theorem dX5_fine_9 : decode cX5_fine 9 = .ok (.iconst 0, 1) := by decide +kernel
theorem dX5_fine_10 : decode cX5_fine 10 = .ok (.ireturn, 1) := by decide +kernel
theorem dX5_fine_11 : decode cX5_fine 11 = .ok (.aload_n 0, 1) := by decide +kernel
theorem dX5_fine_12 : decode cX5_fine 12 = .ok (.getfield 18, 3) := by decide +kernel
theorem dX5_fine_15 : decode cX5_fine 15 = .ok (.iload_n 1, 1) := by decide +kernel
theorem dX5_fine_16 : decode cX5_fine 16 = .ok (.dup2, 1) := by decide +kernel
theorem dX5_fine_17 : decode cX5_fine 17 = .ok (.iaload, 1) := by decide +kernel
theorem dX5_fine_18 : decode cX5_fine 18 = .ok (.iconst 1, 1) := by decide +kernel
theorem dX5_fine_19 : decode cX5_fine 19 = .ok (.iadd, 1) := by decide +kernel
theorem dX5_fine_20 : decode cX5_fine 20 = .ok (.iastore, 1) := by decide +kernel
theorem dX5_fine_21 : decode cX5_fine 21 = .ok (.aload_n 0, 1) := by decide +kernel
theorem dX5_fine_22 : decode cX5_fine 22 = .ok (.getfield 22, 3) := by decide +kernel
theorem dX5_fine_25 : decode cX5_fine 25 = .ok (.iload_n 1, 1) := by decide +kernel
theorem dX5_fine_26 : decode cX5_fine 26 = .ok (.dup2, 1) := by decide +kernel
theorem dX5_fine_27 : decode cX5_fine 27 = .ok (.iaload, 1) := by decide +kernel
theorem dX5_fine_28 : decode cX5_fine 28 = .ok (.iload_n 2, 1) := by decide +kernel
theorem dX5_fine_29 : decode cX5_fine 29 = .ok (.iadd, 1) := by decide +kernel
theorem dX5_fine_30 : decode cX5_fine 30 = .ok (.iastore, 1) := by decide +kernel
theorem dX5_fine_31 : decode cX5_fine 31 = .ok (.aload_n 0, 1) := by decide +kernel
theorem dX5_fine_32 : decode cX5_fine 32 = .ok (.getfield 18, 3) := by decide +kernel
theorem dX5_fine_35 : decode cX5_fine 35 = .ok (.iload_n 1, 1) := by decide +kernel
theorem dX5_fine_36 : decode cX5_fine 36 = .ok (.iaload, 1) := by decide +kernel
theorem dX5_fine_37 : decode cX5_fine 37 = .ok (.ireturn, 1) := by decide +kernel
set_option maxRecDepth 20000 in
theorem ggX5_copyOf_X2_copyOf : GoodIn wsX5_copyOf wsX2_copyOf := goodIn_r _ [9, 10, 11, 12, 13, 8, 14, 15, 16, 17, 18, 19, 25, 26, 27, 28, 29, 30] (by decide +kernel) (by decide +kernel)
set_option maxRecDepth 20000 in
theorem gX5_copyOf_X2_copyOf : GoodIn wsX5_copyOf (wsV RX5 31 RX2 yX2_copyOf wsX2_copyOf) := goodIn_app (goodIn_of _ (by decide +kernel)) ggX5_copyOf_X2_copyOf
theorem dX5_copyOf_0 : decode cX5_copyOf 0 = .ok (.aload_n 0, 1) := by decide +kernel
theorem dX5_copyOf_1 : decode cX5_copyOf 1 = .ok (.getfield 12, 3) := by decide +kernel
theorem dX5_copyOf_4 : decode cX5_copyOf 4 = .ok (.aload_n 1, 1) := by decide +kernel
theorem dX5_copyOf_5 : decode cX5_copyOf 5 = .ok (.getfield 12, 3) := by decide +kernel
theorem dX5_copyOf_8 : decode cX5_copyOf 8 = .ok (.invokevirtual 31, 3) := by decide +kernel
theorem dX5_copyOf_11 : decode cX5_copyOf 11 = .ok (.aload_n 0, 1) := by decide +kernel
theorem dX5_copyOf_12 : decode cX5_copyOf 12 = .ok (.aload_n 1, 1) := by decide +kernel
theorem dX5_copyOf_13 : decode cX5_copyOf 13 = .ok (.getfield 25, 3) := by decide +kernel
theorem dX5_copyOf_16 : decode cX5_copyOf 16 = .ok (.putfield 25, 3) := by decide +kernel
theorem dX5_copyOf_19 : decode cX5_copyOf 19 = .ok (.iconst 0, 1) := by decide +kernel
theorem dX5_copyOf_20 : decode cX5_copyOf 20 = .ok (.istore_n 2, 1) := by decide +kernel
theorem dX5_copyOf_21 : decode cX5_copyOf 21 = .ok (.iload_n 2, 1) := by decide +kernel
theorem dX5_copyOf_22 : decode cX5_copyOf 22 = .ok (.iconst 2, 1) := by decide +kernel
theorem dX5_copyOf_23 : decode cX5_copyOf 23 = .ok (.if_icmp .ge 33, 3) := by decide +kernel
theorem dX5_copyOf_26 : decode cX5_copyOf 26 = .ok (.aload_n 0, 1) := by decide +kernel
theorem dX5_copyOf_27 : decode cX5_copyOf 27 = .ok (.getfield 18, 3) := by decide +kernel
theorem dX5_copyOf_30 : decode cX5_copyOf 30 = .ok (.iload_n 2, 1) := by decide +kernel
theorem dX5_copyOf_31 : decode cX5_copyOf 31 = .ok (.aload_n 1, 1) := by decide +kernel
theorem dX5_copyOf_32 : decode cX5_copyOf 32 = .ok (.getfield 18, 3) := by decide +kernel
theorem dX5_copyOf_35 : decode cX5_copyOf 35 = .ok (.iload_n 2, 1) := by decide +kernel
theorem dX5_copyOf_36 : decode cX5_copyOf 36 = .ok (.iaload, 1) := by decide +kernel
theorem dX5_copyOf_37 : decode cX5_copyOf 37 = .ok (.iastore, 1) := by decide +kernel
theorem dX5_copyOf_38 : decode cX5_copyOf 38 = .ok (.aload_n 0, 1) := by decide +kernel
theorem dX5_copyOf_39 : decode cX5_copyOf 39 = .ok (.getfield 22, 3) := by decide +kernel
theorem dX5_copyOf_42 : decode cX5_copyOf 42 = .ok (.iload_n 2, 1) := by decide +kernel
theorem dX5_copyOf_43 : decode cX5_copyOf 43 = .ok (.aload_n 1, 1) := by decide +kernel
theorem dX5_copyOf_44 : decode cX5_copyOf 44 = .ok (.getfield 22, 3) := by decide +kernel
theorem dX5_copyOf_47 : decode cX5_copyOf 47 = .ok (.iload_n 2, 1) := by decide +kernel
theorem dX5_copyOf_48 : decode cX5_copyOf 48 = .ok (.iaload, 1) := by decide +kernel
theorem dX5_copyOf_49 : decode cX5_copyOf 49 = .ok (.iastore, 1) := by decide +kernel
theorem dX5_copyOf_50 : decode cX5_copyOf 50 = .ok (.iinc 2 1, 3) := by decide +kernel
theorem dX5_copyOf_53 : decode cX5_copyOf 53 = .ok (.goto (-32), 3) := by decide +kernel
theorem dX5_copyOf_56 : decode cX5_copyOf 56 = .ok (.return_, 1) := by decide +kernel
theorem dX6_init_0 : decode cX6_init 0 = .ok (.aload_n 0, 1) := by decide +kernel
theorem dX6_init_1 : decode cX6_init 1 = .ok (.invokespecial 3, 3) := by decide +kernel
theorem dX6_init_4 : decode cX6_init 4 = .ok (.aload_n 0, 1) := by decide +kernel
theorem dX6_init_5 : decode cX6_init 5 = .ok (.bipush 64, 2) := by decide +kernel
theorem dX6_init_7 : decode cX6_init 7 = .ok (.newarray .byte, 2) := by decide +kernel
theorem dX6_init_9 : decode cX6_init 9 = .ok (.putfield 9, 3) := by decide +kernel
theorem dX6_init_12 : decode cX6_init 12 = .ok (.return_, 1) := by decide +kernel
theorem dX6_append_0 : decode cX6_append 0 = .ok (.iload_n 1, 1) := by decide +kernel
theorem dX6_append_1 : decode cX6_append 1 = .ok (.ifCond .lt 17, 3) := by decide +kernel
theorem dX6_append_4 : decode cX6_append 4 = .ok (.iload_n 1, 1) := by decide +kernel
theorem dX6_append_5 : decode cX6_append 5 = .ok (.aload_n 0, 1) := by decide +kernel
theorem dX6_append_6 : decode cX6_append 6 = .ok (.getfield 9, 3) := by decide +kernel
theorem dX6_append_9 : decode cX6_append 9 = .ok (.arraylength, 1) := by decide +kernel
theorem dX6_append_10 : decode cX6_append 10 = .ok (.aload_n 0, 1) := by decide +kernel
theorem dX6_append_11 : decode cX6_append 11 = .ok (.getfield 15, 3) := by decide +kernel
theorem dX6_append_14 : decode cX6_append 14 = .ok (.isub, 1) := by decide +kernel
theorem dX6_append_15 : decode cX6_append 15 = .ok (.if_icmp .le 5, 3) := by decide +kernel
theorem dX6_append_18 : decode cX6_append 18 = .ok (.iconst 0, 1) := by decide +kernel
theorem dX6_append_19 : decode cX6_append 19 = .ok (.ireturn, 1) := by decide +kernel
theorem dX6_append_20 : decode cX6_append 20 = .ok (.iload_n 1, 1) := by decide +kernel
theorem dX6_append_21 : decode cX6_append 21 = .ok (.iconst 1, 1) := by decide +kernel
theorem dX6_append_22 : decode cX6_append 22 = .ok (.isub, 1) := by decide +kernel
theorem dX6_append_23 : decode cX6_append 23 = .ok (.istore 4, 2) := by decide +kernel
theorem dX6_append_25 : decode cX6_append 25 = .ok (.iload 4, 2) := by decide +kernel
theorem dX6_append_27 : decode cX6_append 27 = .ok (.ifCond .lt 37, 3) := by decide +kernel
theorem dX6_append_30 : decode cX6_append 30 = .ok (.aload_n 0, 1) := by decide +kernel
theorem dX6_append_31 : decode cX6_append 31 = .ok (.getfield 9, 3) := by decide +kernel
theorem dX6_append_34 : decode cX6_append 34 = .ok (.aload_n 0, 1) := by decide +kernel
theorem dX6_append_35 : decode cX6_append 35 = .ok (.getfield 15, 3) := by decide +kernel
theorem dX6_append_38 : decode cX6_append 38 = .ok (.lload_n 2, 1) := by decide +kernel
theorem dX6_append_39 : decode cX6_append 39 = .ok (.bipush 8, 2) := by decide +kernel
theorem dX6_append_41 : decode cX6_append 41 = .ok (.iload 4, 2) := by decide +kernel
theorem dX6_append_43 : decode cX6_append 43 = .ok (.imul, 1) := by decide +kernel
theorem dX6_append_44 : decode cX6_append 44 = .ok (.lshr, 1) := by decide +kernel
theorem dX6_append_45 : decode cX6_append 45 = .ok (.l2i, 1) := by decide +kernel
theorem dX6_append_46 : decode cX6_append 46 = .ok (.i2b, 1) := by decide +kernel
theorem dX6_append_47 : decode cX6_append 47 = .ok (.bastore, 1) := by decide +kernel
theorem dX6_append_48 : decode cX6_append 48 = .ok (.aload_n 0, 1) := by decide +kernel
theorem dX6_append_49 : decode cX6_append 49 = .ok (.dup, 1) := by decide +kernel
theorem dX6_append_50 : decode cX6_append 50 = .ok (.getfield 15, 3) := by decide +kernel
theorem dX6_append_53 : decode cX6_append 53 = .ok (.iconst 1, 1) := by decide +kernel
theorem dX6_append_54 : decode cX6_append 54 = .ok (.iadd, 1) := by decide +kernel
theorem dX6_append_55 : decode cX6_append 55 = .ok (.putfield 15, 3) := by decide +kernel
theorem dX6_append_58 : decode cX6_append 58 = .ok (.iinc 4 (-1), 3) := by decide +kernel
theorem dX6_append_61 : decode cX6_append 61 = .ok (.goto (-36), 3) := by decide +kernel
theorem dX6_append_64 : decode cX6_append 64 = .ok (.iconst 1, 1) := by decide +kernel
theorem dX6_append_65 : decode cX6_append 65 = .ok (.ireturn, 1) := by decide +kernel
theorem dX6_signAt_0 : decode cX6_signAt 0 = .ok (.iload_n 1, 1) := by decide +kernel
theorem dX6_signAt_1 : decode cX6_signAt 1 = .ok (.ifCond .lt 20, 3) := by decide +kernel
theorem dX6_signAt_4 : decode cX6_signAt 4 = .ok (.iload_n 1, 1) := by decide +kernel
theorem dX6_signAt_5 : decode cX6_signAt 5 = .ok (.aload_n 0, 1) := by decide +kernel
theorem dX6_signAt_6 : decode cX6_signAt 6 = .ok (.getfield 15, 3) := by decide +kernel
theorem dX6_signAt_9 : decode cX6_signAt 9 = .ok (.if_icmp .ge 12, 3) := by decide +kernel
theorem dX6_signAt_12 : decode cX6_signAt 12 = .ok (.aload_n 0, 1) := by decide +kernel
theorem dX6_signAt_13 : decode cX6_signAt 13 = .ok (.getfield 9, 3) := by decide +kernel
theorem dX6_signAt_16 : decode cX6_signAt 16 = .ok (.iload_n 1, 1) := by decide +kernel
theorem dX6_signAt_17 : decode cX6_signAt 17 = .ok (.baload, 1) := by decide +kernel
theorem dX6_signAt_18 : decode cX6_signAt 18 = .ok (.goto 4, 3) := by decide +kernel
theorem dX6_signAt_21 : decode cX6_signAt 21 = .ok (.iconst 0, 1) := by decide +kernel
theorem dX6_signAt_22 : decode cX6_signAt 22 = .ok (.ireturn, 1) := by decide +kernel
set_option maxRecDepth 20000 in
theorem ggX6_figureAt_X6_signAt : GoodIn wsX6_figureAt wsX6_signAt := goodIn_r _ [5, 6, 7, 8, 9] (by decide +kernel) (by decide +kernel)
set_option maxRecDepth 20000 in
theorem gX6_figureAt_X6_signAt : GoodIn wsX6_figureAt (wsV RX6 19 RX6 yX6_signAt wsX6_signAt) := goodIn_app (goodIn_of _ (by decide +kernel)) ggX6_figureAt_X6_signAt
theorem dX6_figureAt_0 : decode cX6_figureAt 0 = .ok (.aload_n 0, 1) := by decide +kernel
theorem dX6_figureAt_1 : decode cX6_figureAt 1 = .ok (.iload_n 1, 1) := by decide +kernel
theorem dX6_figureAt_2 : decode cX6_figureAt 2 = .ok (.invokevirtual 19, 3) := by decide +kernel
theorem dX6_figureAt_5 : decode cX6_figureAt 5 = .ok (.bipush 48, 2) := by decide +kernel
theorem dX6_figureAt_7 : decode cX6_figureAt 7 = .ok (.isub, 1) := by decide +kernel
theorem dX6_figureAt_8 : decode cX6_figureAt 8 = .ok (.ireturn, 1) := by decide +kernel
set_option maxRecDepth 20000 in
theorem ggX6_firstFault_X6_sizeOfRule : GoodIn wsX6_firstFault wsX6_sizeOfRule := goodIn_r _ [6, 7, 8, 9, 5, 10, 1, 11, 32, 33] (by decide +kernel) (by decide +kernel)
set_option maxRecDepth 20000 in
theorem gX6_firstFault_X6_sizeOfRule : GoodIn wsX6_firstFault (wsV RX6 23 RX6 yX6_sizeOfRule wsX6_sizeOfRule) := goodIn_app (goodIn_of _ (by decide +kernel)) ggX6_firstFault_X6_sizeOfRule
set_option maxRecDepth 20000 in
theorem ggX6_firstFault_X6_fits : GoodIn wsX6_firstFault wsX6_fits := goodIn_r _ [15, 16, 17, 18, 5, 19, 7, 8, 9, 10, 1, 11, 2, 3, 4, 6, 20, 21, 22, 23, 24, 25, 26, 27, 28, 29, 30, 31, 32, 33] (by decide +kernel) (by decide +kernel)
set_option maxRecDepth 20000 in
theorem gX6_firstFault_X6_fits : GoodIn wsX6_firstFault (wsV RX6 26 RX6 yX6_fits wsX6_fits) := goodIn_app (goodIn_of _ (by decide +kernel)) ggX6_firstFault_X6_fits
theorem dX6_firstFault_0 : decode cX6_firstFault 0 = .ok (.iconst 0, 1) := by decide +kernel
theorem dX6_firstFault_1 : decode cX6_firstFault 1 = .ok (.istore_n 1, 1) := by decide +kernel
theorem dX6_firstFault_2 : decode cX6_firstFault 2 = .ok (.iconst 0, 1) := by decide +kernel
theorem dX6_firstFault_3 : decode cX6_firstFault 3 = .ok (.istore_n 2, 1) := by decide +kernel
theorem dX6_firstFault_4 : decode cX6_firstFault 4 = .ok (.iload_n 2, 1) := by decide +kernel
theorem dX6_firstFault_5 : decode cX6_firstFault 5 = .ok (.bipush 10, 2) := by decide +kernel
theorem dX6_firstFault_7 : decode cX6_firstFault 7 = .ok (.if_icmp .ge 91, 3) := by decide +kernel
theorem dX6_firstFault_10 : decode cX6_firstFault 10 = .ok (.iload_n 1, 1) := by decide +kernel
theorem dX6_firstFault_11 : decode cX6_firstFault 11 = .ok (.aload_n 0, 1) := by decide +kernel
theorem dX6_firstFault_12 : decode cX6_firstFault 12 = .ok (.getfield 15, 3) := by decide +kernel
theorem dX6_firstFault_15 : decode cX6_firstFault 15 = .ok (.if_icmp .ge 83, 3) := by decide +kernel
theorem dX6_firstFault_18 : decode cX6_firstFault 18 = .ok (.aload_n 0, 1) := by decide +kernel
theorem dX6_firstFault_19 : decode cX6_firstFault 19 = .ok (.iload_n 1, 1) := by decide +kernel
theorem dX6_firstFault_20 : decode cX6_firstFault 20 = .ok (.invokevirtual 23, 3) := by decide +kernel
theorem dX6_firstFault_23 : decode cX6_firstFault 23 = .ok (.istore_n 3, 1) := by decide +kernel
theorem dX6_firstFault_24 : decode cX6_firstFault 24 = .ok (.iload_n 3, 1) := by decide +kernel
theorem dX6_firstFault_25 : decode cX6_firstFault 25 = .ok (.ifCond .ne 5, 3) := by decide +kernel
theorem dX6_firstFault_28 : decode cX6_firstFault 28 = .ok (.iload_n 1, 1) := by decide +kernel
theorem dX6_firstFault_29 : decode cX6_firstFault 29 = .ok (.ireturn, 1) := by decide +kernel
theorem dX6_firstFault_30 : decode cX6_firstFault 30 = .ok (.iload_n 1, 1) := by decide +kernel
theorem dX6_firstFault_31 : decode cX6_firstFault 31 = .ok (.iload_n 3, 1) := by decide +kernel
theorem dX6_firstFault_32 : decode cX6_firstFault 32 = .ok (.iadd, 1) := by decide +kernel
theorem dX6_firstFault_33 : decode cX6_firstFault 33 = .ok (.istore 4, 2) := by decide +kernel
theorem dX6_firstFault_35 : decode cX6_firstFault 35 = .ok (.iload_n 1, 1) := by decide +kernel
theorem dX6_firstFault_36 : decode cX6_firstFault 36 = .ok (.iconst 1, 1) := by decide +kernel
theorem dX6_firstFault_37 : decode cX6_firstFault 37 = .ok (.iadd, 1) := by decide +kernel
theorem dX6_firstFault_38 : decode cX6_firstFault 38 = .ok (.istore 5, 2) := by decide +kernel
theorem dX6_firstFault_40 : decode cX6_firstFault 40 = .ok (.iload 5, 2) := by decide +kernel
theorem dX6_firstFault_42 : decode cX6_firstFault 42 = .ok (.iload 4, 2) := by decide +kernel
theorem dX6_firstFault_44 : decode cX6_firstFault 44 = .ok (.if_icmp .ge 31, 3) := by decide +kernel
theorem dX6_firstFault_47 : decode cX6_firstFault 47 = .ok (.iload 5, 2) := by decide +kernel
theorem dX6_firstFault_49 : decode cX6_firstFault 49 = .ok (.aload_n 0, 1) := by decide +kernel
theorem dX6_firstFault_50 : decode cX6_firstFault 50 = .ok (.getfield 15, 3) := by decide +kernel
theorem dX6_firstFault_53 : decode cX6_firstFault 53 = .ok (.if_icmp .ge 22, 3) := by decide +kernel
theorem dX6_firstFault_56 : decode cX6_firstFault 56 = .ok (.aload_n 0, 1) := by decide +kernel
theorem dX6_firstFault_57 : decode cX6_firstFault 57 = .ok (.iload_n 1, 1) := by decide +kernel
theorem dX6_firstFault_58 : decode cX6_firstFault 58 = .ok (.iload 5, 2) := by decide +kernel
theorem dX6_firstFault_60 : decode cX6_firstFault 60 = .ok (.invokevirtual 26, 3) := by decide +kernel
theorem dX6_firstFault_63 : decode cX6_firstFault 63 = .ok (.ifCond .ne 6, 3) := by decide +kernel
theorem dX6_firstFault_66 : decode cX6_firstFault 66 = .ok (.iload 5, 2) := by decide +kernel
theorem dX6_firstFault_68 : decode cX6_firstFault 68 = .ok (.ireturn, 1) := by decide +kernel
theorem dX6_firstFault_69 : decode cX6_firstFault 69 = .ok (.iinc 5 1, 3) := by decide +kernel
theorem dX6_firstFault_72 : decode cX6_firstFault 72 = .ok (.goto (-32), 3) := by decide +kernel
theorem dX6_firstFault_75 : decode cX6_firstFault 75 = .ok (.iload 4, 2) := by decide +kernel
theorem dX6_firstFault_77 : decode cX6_firstFault 77 = .ok (.aload_n 0, 1) := by decide +kernel
theorem dX6_firstFault_78 : decode cX6_firstFault 78 = .ok (.getfield 15, 3) := by decide +kernel
theorem dX6_firstFault_81 : decode cX6_firstFault 81 = .ok (.if_icmp .le 8, 3) := by decide +kernel
theorem dX6_firstFault_84 : decode cX6_firstFault 84 = .ok (.aload_n 0, 1) := by decide +kernel
theorem dX6_firstFault_85 : decode cX6_firstFault 85 = .ok (.getfield 15, 3) := by decide +kernel
theorem dX6_firstFault_88 : decode cX6_firstFault 88 = .ok (.ireturn, 1) := by decide +kernel
theorem dX6_firstFault_89 : decode cX6_firstFault 89 = .ok (.iload 4, 2) := by decide +kernel
theorem dX6_firstFault_91 : decode cX6_firstFault 91 = .ok (.istore_n 1, 1) := by decide +kernel
theorem dX6_firstFault_92 : decode cX6_firstFault 92 = .ok (.iinc 2 1, 3) := by decide +kernel
theorem dX6_firstFault_95 : decode cX6_firstFault 95 = .ok (.goto (-91), 3) := by decide +kernel
theorem dX6_firstFault_98 : decode cX6_firstFault 98 = .ok (.iload_n 1, 1) := by decide +kernel
theorem dX6_firstFault_99 : decode cX6_firstFault 99 = .ok (.aload_n 0, 1) := by decide +kernel
theorem dX6_firstFault_100 : decode cX6_firstFault 100 = .ok (.getfield 15, 3) := by decide +kernel
theorem dX6_firstFault_103 : decode cX6_firstFault 103 = .ok (.if_icmp .ge 7, 3) := by decide +kernel
theorem dX6_firstFault_106 : decode cX6_firstFault 106 = .ok (.iload_n 1, 1) := by decide +kernel
theorem dX6_firstFault_107 : decode cX6_firstFault 107 = .ok (.goto 5, 3) := by decide +kernel
theorem dX6_firstFault_110 : decode cX6_firstFault 110 = .ok (.bipush (-9), 2) := by decide +kernel
theorem dX6_firstFault_112 : decode cX6_firstFault 112 = .ok (.ireturn, 1) := by decide +kernel
set_option maxRecDepth 20000 in
theorem ggX6_sizeOfRule_X6_signAt : GoodIn wsX6_sizeOfRule wsX6_signAt := goodIn_r _ [5, 6, 7, 8, 9] (by decide +kernel) (by decide +kernel)
set_option maxRecDepth 20000 in
theorem gX6_sizeOfRule_X6_signAt : GoodIn wsX6_sizeOfRule (wsV RX6 19 RX6 yX6_signAt wsX6_signAt) := goodIn_app (goodIn_of _ (by decide +kernel)) ggX6_sizeOfRule_X6_signAt
theorem dX6_sizeOfRule_0 : decode cX6_sizeOfRule 0 = .ok (.aload_n 0, 1) := by decide +kernel
theorem dX6_sizeOfRule_1 : decode cX6_sizeOfRule 1 = .ok (.iload_n 1, 1) := by decide +kernel
theorem dX6_sizeOfRule_2 : decode cX6_sizeOfRule 2 = .ok (.invokevirtual 19, 3) := by decide +kernel
theorem dX6_sizeOfRule_5 : decode cX6_sizeOfRule 5 = .ok (.lookupswitch 59 #[(69, 57), (70, 54), (72, 54), (87, 51), (89, 54)], 51) := by decide +kernel
theorem dX6_sizeOfRule_56 : decode cX6_sizeOfRule 56 = .ok (.bipush 6, 2) := by decide +kernel
theorem dX6_sizeOfRule_58 : decode cX6_sizeOfRule 58 = .ok (.ireturn, 1) := by decide +kernel
theorem dX6_sizeOfRule_59 : decode cX6_sizeOfRule 59 = .ok (.bipush 7, 2) := by decide +kernel
theorem dX6_sizeOfRule_61 : decode cX6_sizeOfRule 61 = .ok (.ireturn, 1) := by decide +kernel
theorem dX6_sizeOfRule_62 : decode cX6_sizeOfRule 62 = .ok (.iconst 3, 1) := by decide +kernel
theorem dX6_sizeOfRule_63 : decode cX6_sizeOfRule 63 = .ok (.ireturn, 1) := by decide +kernel
theorem dX6_sizeOfRule_64 : decode cX6_sizeOfRule 64 = .ok (.iconst 0, 1) := by decide +kernel
theorem dX6_sizeOfRule_65 : decode cX6_sizeOfRule 65 = .ok (.ireturn, 1) := by decide +kernel
set_option maxRecDepth 20000 in
theorem ggX6_fits_X6_figureAt : GoodIn wsX6_fits wsX6_figureAt := goodIn_r _ [5, 6, 7, 8, 4, 9, 10, 11, 28, 29] (by decide +kernel) (by decide +kernel)
set_option maxRecDepth 20000 in
theorem gX6_fits_X6_figureAt : GoodIn wsX6_fits (wsV RX6 30 RX6 yX6_figureAt wsX6_figureAt) := goodIn_app (goodIn_of _ (by decide +kernel)) ggX6_fits_X6_figureAt
set_option maxRecDepth 20000 in
theorem ggX6_fits_X6_sizeOfRule : GoodIn wsX6_fits wsX6_sizeOfRule := goodIn_r _ [15, 6, 7, 8, 4, 9, 10, 11, 28, 29] (by decide +kernel) (by decide +kernel)
set_option maxRecDepth 20000 in
theorem gX6_fits_X6_sizeOfRule : GoodIn wsX6_fits (wsV RX6 23 RX6 yX6_sizeOfRule wsX6_sizeOfRule) := goodIn_app (goodIn_of _ (by decide +kernel)) ggX6_fits_X6_sizeOfRule
set_option maxRecDepth 20000 in
theorem ggX6_fits_X6_signAt : GoodIn wsX6_fits wsX6_signAt := goodIn_r _ [9, 10, 11, 28, 29] (by decide +kernel) (by decide +kernel)
set_option maxRecDepth 20000 in
theorem gX6_fits_X6_signAt : GoodIn wsX6_fits (wsV RX6 19 RX6 yX6_signAt wsX6_signAt) := goodIn_app (goodIn_of _ (by decide +kernel)) ggX6_fits_X6_signAt
set_option maxRecDepth 20000 in
theorem ggX6_fits_X6_fitsWeekday : GoodIn wsX6_fits wsX6_fitsWeekday := goodIn_r _ [19, 1, 2, 3, 4, 5, 6, 7, 8, 9, 10, 11, 28, 29] (by decide +kernel) (by decide +kernel)
set_option maxRecDepth 20000 in
theorem gX6_fits_X6_fitsWeekday : GoodIn wsX6_fits (wsV RX6 33 RX6 yX6_fitsWeekday wsX6_fitsWeekday) := goodIn_app (goodIn_of _ (by decide +kernel)) ggX6_fits_X6_fitsWeekday
set_option maxRecDepth 20000 in
theorem ggX6_fits_X6_fitsSpan : GoodIn wsX6_fits wsX6_fitsSpan := goodIn_r _ [23, 1, 2, 3, 4, 5, 6, 7, 8, 9, 10, 11, 24, 25, 26, 27, 28, 29] (by decide +kernel) (by decide +kernel)
set_option maxRecDepth 20000 in
theorem gX6_fits_X6_fitsSpan : GoodIn wsX6_fits (wsV RX6 37 RX6 yX6_fitsSpan wsX6_fitsSpan) := goodIn_app (goodIn_of _ (by decide +kernel)) ggX6_fits_X6_fitsSpan
theorem dX6_fits_0 : decode cX6_fits 0 = .ok (.aload_n 0, 1) := by decide +kernel
theorem dX6_fits_1 : decode cX6_fits 1 = .ok (.iload_n 2, 1) := by decide +kernel
theorem dX6_fits_2 : decode cX6_fits 2 = .ok (.invokevirtual 30, 3) := by decide +kernel
theorem dX6_fits_5 : decode cX6_fits 5 = .ok (.istore_n 3, 1) := by decide +kernel
theorem dX6_fits_6 : decode cX6_fits 6 = .ok (.iload_n 2, 1) := by decide +kernel
theorem dX6_fits_7 : decode cX6_fits 7 = .ok (.iload_n 1, 1) := by decide +kernel
theorem dX6_fits_8 : decode cX6_fits 8 = .ok (.isub, 1) := by decide +kernel
theorem dX6_fits_9 : decode cX6_fits 9 = .ok (.istore 4, 2) := by decide +kernel
theorem dX6_fits_11 : decode cX6_fits 11 = .ok (.iload_n 3, 1) := by decide +kernel
theorem dX6_fits_12 : decode cX6_fits 12 = .ok (.ifCond .lt 9, 3) := by decide +kernel
theorem dX6_fits_15 : decode cX6_fits 15 = .ok (.iload_n 3, 1) := by decide +kernel
theorem dX6_fits_16 : decode cX6_fits 16 = .ok (.bipush 9, 2) := by decide +kernel
theorem dX6_fits_18 : decode cX6_fits 18 = .ok (.if_icmp .le 5, 3) := by decide +kernel
theorem dX6_fits_21 : decode cX6_fits 21 = .ok (.iconst 0, 1) := by decide +kernel
theorem dX6_fits_22 : decode cX6_fits 22 = .ok (.ireturn, 1) := by decide +kernel
theorem dX6_fits_23 : decode cX6_fits 23 = .ok (.iload 4, 2) := by decide +kernel
theorem dX6_fits_25 : decode cX6_fits 25 = .ok (.iconst 1, 1) := by decide +kernel
theorem dX6_fits_26 : decode cX6_fits 26 = .ok (.if_icmp .ne 5, 3) := by decide +kernel
theorem dX6_fits_29 : decode cX6_fits 29 = .ok (.iconst 1, 1) := by decide +kernel
theorem dX6_fits_30 : decode cX6_fits 30 = .ok (.ireturn, 1) := by decide +kernel
theorem dX6_fits_31 : decode cX6_fits 31 = .ok (.iload 4, 2) := by decide +kernel
theorem dX6_fits_33 : decode cX6_fits 33 = .ok (.aload_n 0, 1) := by decide +kernel
theorem dX6_fits_34 : decode cX6_fits 34 = .ok (.iload_n 1, 1) := by decide +kernel
theorem dX6_fits_35 : decode cX6_fits 35 = .ok (.invokevirtual 23, 3) := by decide +kernel
theorem dX6_fits_38 : decode cX6_fits 38 = .ok (.iconst 1, 1) := by decide +kernel
theorem dX6_fits_39 : decode cX6_fits 39 = .ok (.isub, 1) := by decide +kernel
theorem dX6_fits_40 : decode cX6_fits 40 = .ok (.if_icmp .ne 14, 3) := by decide +kernel
theorem dX6_fits_43 : decode cX6_fits 43 = .ok (.iload_n 3, 1) := by decide +kernel
theorem dX6_fits_44 : decode cX6_fits 44 = .ok (.iconst 2, 1) := by decide +kernel
theorem dX6_fits_45 : decode cX6_fits 45 = .ok (.if_icmp .ge 7, 3) := by decide +kernel
theorem dX6_fits_48 : decode cX6_fits 48 = .ok (.iconst 1, 1) := by decide +kernel
theorem dX6_fits_49 : decode cX6_fits 49 = .ok (.goto 4, 3) := by decide +kernel
theorem dX6_fits_52 : decode cX6_fits 52 = .ok (.iconst 0, 1) := by decide +kernel
theorem dX6_fits_53 : decode cX6_fits 53 = .ok (.ireturn, 1) := by decide +kernel
theorem dX6_fits_54 : decode cX6_fits 54 = .ok (.aload_n 0, 1) := by decide +kernel
theorem dX6_fits_55 : decode cX6_fits 55 = .ok (.iload_n 1, 1) := by decide +kernel
theorem dX6_fits_56 : decode cX6_fits 56 = .ok (.invokevirtual 19, 3) := by decide +kernel
theorem dX6_fits_59 : decode cX6_fits 59 = .ok (.bipush 87, 2) := by decide +kernel
theorem dX6_fits_61 : decode cX6_fits 61 = .ok (.if_icmp .ne 14, 3) := by decide +kernel
theorem dX6_fits_64 : decode cX6_fits 64 = .ok (.aload_n 0, 1) := by decide +kernel
theorem dX6_fits_65 : decode cX6_fits 65 = .ok (.iload_n 1, 1) := by decide +kernel
theorem dX6_fits_66 : decode cX6_fits 66 = .ok (.iload 4, 2) := by decide +kernel
theorem dX6_fits_68 : decode cX6_fits 68 = .ok (.iload_n 3, 1) := by decide +kernel
theorem dX6_fits_69 : decode cX6_fits 69 = .ok (.invokevirtual 33, 3) := by decide +kernel
theorem dX6_fits_72 : decode cX6_fits 72 = .ok (.goto 11, 3) := by decide +kernel
theorem dX6_fits_75 : decode cX6_fits 75 = .ok (.aload_n 0, 1) := by decide +kernel
theorem dX6_fits_76 : decode cX6_fits 76 = .ok (.iload_n 1, 1) := by decide +kernel
theorem dX6_fits_77 : decode cX6_fits 77 = .ok (.iload 4, 2) := by decide +kernel
theorem dX6_fits_79 : decode cX6_fits 79 = .ok (.iload_n 3, 1) := by decide +kernel
theorem dX6_fits_80 : decode cX6_fits 80 = .ok (.invokevirtual 37, 3) := by decide +kernel
theorem dX6_fits_83 : decode cX6_fits 83 = .ok (.ireturn, 1) := by decide +kernel
set_option maxRecDepth 20000 in
theorem ggX6_fitsWeekday_X6_figureAt : GoodIn wsX6_fitsWeekday wsX6_figureAt := goodIn_r _ [5, 6, 7, 8, 4, 9, 10, 11, 12, 13] (by decide +kernel) (by decide +kernel)
set_option maxRecDepth 20000 in
theorem gX6_fitsWeekday_X6_figureAt : GoodIn wsX6_fitsWeekday (wsV RX6 30 RX6 yX6_figureAt wsX6_figureAt) := goodIn_app (goodIn_of _ (by decide +kernel)) ggX6_fitsWeekday_X6_figureAt
theorem dX6_fitsWeekday_0 : decode cX6_fitsWeekday 0 = .ok (.iload_n 2, 1) := by decide +kernel
theorem dX6_fitsWeekday_1 : decode cX6_fitsWeekday 1 = .ok (.lookupswitch 55 #[(2, 27), (3, 39)], 27) := by decide +kernel
theorem dX6_fitsWeekday_28 : decode cX6_fitsWeekday 28 = .ok (.iload_n 3, 1) := by decide +kernel
theorem dX6_fitsWeekday_29 : decode cX6_fitsWeekday 29 = .ok (.bipush 7, 2) := by decide +kernel
theorem dX6_fitsWeekday_31 : decode cX6_fitsWeekday 31 = .ok (.if_icmp .ge 7, 3) := by decide +kernel
theorem dX6_fitsWeekday_34 : decode cX6_fitsWeekday 34 = .ok (.iconst 1, 1) := by decide +kernel
theorem dX6_fitsWeekday_35 : decode cX6_fitsWeekday 35 = .ok (.goto 4, 3) := by decide +kernel
theorem dX6_fitsWeekday_38 : decode cX6_fitsWeekday 38 = .ok (.iconst 0, 1) := by decide +kernel
theorem dX6_fitsWeekday_39 : decode cX6_fitsWeekday 39 = .ok (.ireturn, 1) := by decide +kernel
theorem dX6_fitsWeekday_40 : decode cX6_fitsWeekday 40 = .ok (.iload_n 3, 1) := by decide +kernel
theorem dX6_fitsWeekday_41 : decode cX6_fitsWeekday 41 = .ok (.iconst 1, 1) := by decide +kernel
theorem dX6_fitsWeekday_42 : decode cX6_fitsWeekday 42 = .ok (.if_icmp .lt 12, 3) := by decide +kernel
theorem dX6_fitsWeekday_45 : decode cX6_fitsWeekday 45 = .ok (.iload_n 3, 1) := by decide +kernel
theorem dX6_fitsWeekday_46 : decode cX6_fitsWeekday 46 = .ok (.iconst 4, 1) := by decide +kernel
theorem dX6_fitsWeekday_47 : decode cX6_fitsWeekday 47 = .ok (.if_icmp .gt 7, 3) := by decide +kernel
theorem dX6_fitsWeekday_50 : decode cX6_fitsWeekday 50 = .ok (.iconst 1, 1) := by decide +kernel
theorem dX6_fitsWeekday_51 : decode cX6_fitsWeekday 51 = .ok (.goto 4, 3) := by decide +kernel
theorem dX6_fitsWeekday_54 : decode cX6_fitsWeekday 54 = .ok (.iconst 0, 1) := by decide +kernel
theorem dX6_fitsWeekday_55 : decode cX6_fitsWeekday 55 = .ok (.ireturn, 1) := by decide +kernel
theorem dX6_fitsWeekday_56 : decode cX6_fitsWeekday 56 = .ok (.iload_n 3, 1) := by decide +kernel
theorem dX6_fitsWeekday_57 : decode cX6_fitsWeekday 57 = .ok (.aload_n 0, 1) := by decide +kernel
theorem dX6_fitsWeekday_58 : decode cX6_fitsWeekday 58 = .ok (.iload_n 1, 1) := by decide +kernel
theorem dX6_fitsWeekday_59 : decode cX6_fitsWeekday 59 = .ok (.iconst 3, 1) := by decide +kernel
theorem dX6_fitsWeekday_60 : decode cX6_fitsWeekday 60 = .ok (.iadd, 1) := by decide +kernel
theorem dX6_fitsWeekday_61 : decode cX6_fitsWeekday 61 = .ok (.invokevirtual 30, 3) := by decide +kernel
theorem dX6_fitsWeekday_64 : decode cX6_fitsWeekday 64 = .ok (.if_icmp .ge 7, 3) := by decide +kernel
theorem dX6_fitsWeekday_67 : decode cX6_fitsWeekday 67 = .ok (.iconst 1, 1) := by decide +kernel
theorem dX6_fitsWeekday_68 : decode cX6_fitsWeekday 68 = .ok (.goto 4, 3) := by decide +kernel
theorem dX6_fitsWeekday_71 : decode cX6_fitsWeekday 71 = .ok (.iconst 0, 1) := by decide +kernel
theorem dX6_fitsWeekday_72 : decode cX6_fitsWeekday 72 = .ok (.ireturn, 1) := by decide +kernel
set_option maxRecDepth 20000 in
theorem ggX6_fitsSpan_X6_figureAt : GoodIn wsX6_fitsSpan wsX6_figureAt := goodIn_r _ [5, 6, 7, 8, 4, 9, 10, 11, 16, 17] (by decide +kernel) (by decide +kernel)
set_option maxRecDepth 20000 in
theorem gX6_fitsSpan_X6_figureAt : GoodIn wsX6_fitsSpan (wsV RX6 30 RX6 yX6_figureAt wsX6_figureAt) := goodIn_app (goodIn_of _ (by decide +kernel)) ggX6_fitsSpan_X6_figureAt
set_option maxRecDepth 20000 in
theorem ggX6_fitsSpan_X6_nightAt : GoodIn wsX6_fitsSpan wsX6_nightAt := goodIn_r _ [15, 1, 2, 3, 4, 5, 6, 7, 8, 9, 10, 11, 16, 17] (by decide +kernel) (by decide +kernel)
set_option maxRecDepth 20000 in
theorem gX6_fitsSpan_X6_nightAt : GoodIn wsX6_fitsSpan (wsV RX6 40 RX6 yX6_nightAt wsX6_nightAt) := goodIn_app (goodIn_of _ (by decide +kernel)) ggX6_fitsSpan_X6_nightAt
theorem dX6_fitsSpan_0 : decode cX6_fitsSpan 0 = .ok (.aload_n 0, 1) := by decide +kernel
theorem dX6_fitsSpan_1 : decode cX6_fitsSpan 1 = .ok (.iload_n 1, 1) := by decide +kernel
theorem dX6_fitsSpan_2 : decode cX6_fitsSpan 2 = .ok (.iconst 2, 1) := by decide +kernel
theorem dX6_fitsSpan_3 : decode cX6_fitsSpan 3 = .ok (.iadd, 1) := by decide +kernel
theorem dX6_fitsSpan_4 : decode cX6_fitsSpan 4 = .ok (.invokevirtual 30, 3) := by decide +kernel
theorem dX6_fitsSpan_7 : decode cX6_fitsSpan 7 = .ok (.istore 4, 2) := by decide +kernel
theorem dX6_fitsSpan_9 : decode cX6_fitsSpan 9 = .ok (.iload_n 2, 1) := by decide +kernel
theorem dX6_fitsSpan_10 : decode cX6_fitsSpan 10 = .ok (.tableswitch 72 2 4 #[26, 37, 55], 26) := by decide +kernel
theorem dX6_fitsSpan_36 : decode cX6_fitsSpan 36 = .ok (.iload_n 3, 1) := by decide +kernel
theorem dX6_fitsSpan_37 : decode cX6_fitsSpan 37 = .ok (.iconst 5, 1) := by decide +kernel
theorem dX6_fitsSpan_38 : decode cX6_fitsSpan 38 = .ok (.if_icmp .gt 7, 3) := by decide +kernel
theorem dX6_fitsSpan_41 : decode cX6_fitsSpan 41 = .ok (.iconst 1, 1) := by decide +kernel
theorem dX6_fitsSpan_42 : decode cX6_fitsSpan 42 = .ok (.goto 4, 3) := by decide +kernel
theorem dX6_fitsSpan_45 : decode cX6_fitsSpan 45 = .ok (.iconst 0, 1) := by decide +kernel
theorem dX6_fitsSpan_46 : decode cX6_fitsSpan 46 = .ok (.ireturn, 1) := by decide +kernel
theorem dX6_fitsSpan_47 : decode cX6_fitsSpan 47 = .ok (.iload 4, 2) := by decide +kernel
theorem dX6_fitsSpan_49 : decode cX6_fitsSpan 49 = .ok (.bipush 10, 2) := by decide +kernel
theorem dX6_fitsSpan_51 : decode cX6_fitsSpan 51 = .ok (.imul, 1) := by decide +kernel
theorem dX6_fitsSpan_52 : decode cX6_fitsSpan 52 = .ok (.iload_n 3, 1) := by decide +kernel
theorem dX6_fitsSpan_53 : decode cX6_fitsSpan 53 = .ok (.iadd, 1) := by decide +kernel
theorem dX6_fitsSpan_54 : decode cX6_fitsSpan 54 = .ok (.bipush 56, 2) := by decide +kernel
theorem dX6_fitsSpan_56 : decode cX6_fitsSpan 56 = .ok (.if_icmp .ge 7, 3) := by decide +kernel
theorem dX6_fitsSpan_59 : decode cX6_fitsSpan 59 = .ok (.iconst 1, 1) := by decide +kernel
theorem dX6_fitsSpan_60 : decode cX6_fitsSpan 60 = .ok (.goto 4, 3) := by decide +kernel
theorem dX6_fitsSpan_63 : decode cX6_fitsSpan 63 = .ok (.iconst 0, 1) := by decide +kernel
theorem dX6_fitsSpan_64 : decode cX6_fitsSpan 64 = .ok (.ireturn, 1) := by decide +kernel
theorem dX6_fitsSpan_65 : decode cX6_fitsSpan 65 = .ok (.iload_n 3, 1) := by decide +kernel
theorem dX6_fitsSpan_66 : decode cX6_fitsSpan 66 = .ok (.iload 4, 2) := by decide +kernel
theorem dX6_fitsSpan_68 : decode cX6_fitsSpan 68 = .ok (.if_icmp .lt 12, 3) := by decide +kernel
theorem dX6_fitsSpan_71 : decode cX6_fitsSpan 71 = .ok (.iload_n 3, 1) := by decide +kernel
theorem dX6_fitsSpan_72 : decode cX6_fitsSpan 72 = .ok (.iconst 5, 1) := by decide +kernel
theorem dX6_fitsSpan_73 : decode cX6_fitsSpan 73 = .ok (.if_icmp .gt 7, 3) := by decide +kernel
theorem dX6_fitsSpan_76 : decode cX6_fitsSpan 76 = .ok (.iconst 1, 1) := by decide +kernel
theorem dX6_fitsSpan_77 : decode cX6_fitsSpan 77 = .ok (.goto 4, 3) := by decide +kernel
theorem dX6_fitsSpan_80 : decode cX6_fitsSpan 80 = .ok (.iconst 0, 1) := by decide +kernel
theorem dX6_fitsSpan_81 : decode cX6_fitsSpan 81 = .ok (.ireturn, 1) := by decide +kernel
theorem dX6_fitsSpan_82 : decode cX6_fitsSpan 82 = .ok (.aload_n 0, 1) := by decide +kernel
theorem dX6_fitsSpan_83 : decode cX6_fitsSpan 83 = .ok (.iload_n 1, 1) := by decide +kernel
theorem dX6_fitsSpan_84 : decode cX6_fitsSpan 84 = .ok (.iconst 4, 1) := by decide +kernel
theorem dX6_fitsSpan_85 : decode cX6_fitsSpan 85 = .ok (.iadd, 1) := by decide +kernel
theorem dX6_fitsSpan_86 : decode cX6_fitsSpan 86 = .ok (.invokevirtual 30, 3) := by decide +kernel
theorem dX6_fitsSpan_89 : decode cX6_fitsSpan 89 = .ok (.bipush 10, 2) := by decide +kernel
theorem dX6_fitsSpan_91 : decode cX6_fitsSpan 91 = .ok (.imul, 1) := by decide +kernel
theorem dX6_fitsSpan_92 : decode cX6_fitsSpan 92 = .ok (.iload_n 3, 1) := by decide +kernel
theorem dX6_fitsSpan_93 : decode cX6_fitsSpan 93 = .ok (.iadd, 1) := by decide +kernel
theorem dX6_fitsSpan_94 : decode cX6_fitsSpan 94 = .ok (.istore 5, 2) := by decide +kernel
theorem dX6_fitsSpan_96 : decode cX6_fitsSpan 96 = .ok (.iload 5, 2) := by decide +kernel
theorem dX6_fitsSpan_98 : decode cX6_fitsSpan 98 = .ok (.aload_n 0, 1) := by decide +kernel
theorem dX6_fitsSpan_99 : decode cX6_fitsSpan 99 = .ok (.iload_n 1, 1) := by decide +kernel
theorem dX6_fitsSpan_100 : decode cX6_fitsSpan 100 = .ok (.iconst 2, 1) := by decide +kernel
theorem dX6_fitsSpan_101 : decode cX6_fitsSpan 101 = .ok (.iadd, 1) := by decide +kernel
theorem dX6_fitsSpan_102 : decode cX6_fitsSpan 102 = .ok (.invokevirtual 40, 3) := by decide +kernel
theorem dX6_fitsSpan_105 : decode cX6_fitsSpan 105 = .ok (.if_icmp .lt 14, 3) := by decide +kernel
theorem dX6_fitsSpan_108 : decode cX6_fitsSpan 108 = .ok (.iload 5, 2) := by decide +kernel
theorem dX6_fitsSpan_110 : decode cX6_fitsSpan 110 = .ok (.bipush 56, 2) := by decide +kernel
theorem dX6_fitsSpan_112 : decode cX6_fitsSpan 112 = .ok (.if_icmp .ge 7, 3) := by decide +kernel
theorem dX6_fitsSpan_115 : decode cX6_fitsSpan 115 = .ok (.iconst 1, 1) := by decide +kernel
theorem dX6_fitsSpan_116 : decode cX6_fitsSpan 116 = .ok (.goto 4, 3) := by decide +kernel
theorem dX6_fitsSpan_119 : decode cX6_fitsSpan 119 = .ok (.iconst 0, 1) := by decide +kernel
theorem dX6_fitsSpan_120 : decode cX6_fitsSpan 120 = .ok (.ireturn, 1) := by decide +kernel
set_option maxRecDepth 20000 in
theorem ggX6_nightAt_X6_figureAt : GoodIn wsX6_nightAt wsX6_figureAt := goodIn_r _ [5, 6, 7, 8, 4, 9, 10, 11, 12, 13] (by decide +kernel) (by decide +kernel)
set_option maxRecDepth 20000 in
theorem gX6_nightAt_X6_figureAt : GoodIn wsX6_nightAt (wsV RX6 30 RX6 yX6_figureAt wsX6_figureAt) := goodIn_app (goodIn_of _ (by decide +kernel)) ggX6_nightAt_X6_figureAt
theorem dX6_nightAt_0 : decode cX6_nightAt 0 = .ok (.aload_n 0, 1) := by decide +kernel
theorem dX6_nightAt_1 : decode cX6_nightAt 1 = .ok (.iload_n 1, 1) := by decide +kernel
theorem dX6_nightAt_2 : decode cX6_nightAt 2 = .ok (.invokevirtual 30, 3) := by decide +kernel
theorem dX6_nightAt_5 : decode cX6_nightAt 5 = .ok (.bipush 10, 2) := by decide +kernel
theorem dX6_nightAt_7 : decode cX6_nightAt 7 = .ok (.imul, 1) := by decide +kernel
theorem dX6_nightAt_8 : decode cX6_nightAt 8 = .ok (.aload_n 0, 1) := by decide +kernel
theorem dX6_nightAt_9 : decode cX6_nightAt 9 = .ok (.iload_n 1, 1) := by decide +kernel
theorem dX6_nightAt_10 : decode cX6_nightAt 10 = .ok (.iconst 1, 1) := by decide +kernel
theorem dX6_nightAt_11 : decode cX6_nightAt 11 = .ok (.iadd, 1) := by decide +kernel
theorem dX6_nightAt_12 : decode cX6_nightAt 12 = .ok (.invokevirtual 30, 3) := by decide +kernel
theorem dX6_nightAt_15 : decode cX6_nightAt 15 = .ok (.iadd, 1) := by decide +kernel
theorem dX6_nightAt_16 : decode cX6_nightAt 16 = .ok (.ireturn, 1) := by decide +kernel
set_option maxRecDepth 20000 in
theorem ggX6_tellTo_X6_tellRule : GoodIn wsX6_tellTo wsX6_tellRule := goodIn_r _ [7, 8, 9, 10, 11, 12, 6, 13, 2, 14, 15, 16, 17, 18, 19, 20, 21, 22, 23, 24, 25, 26, 27, 28, 29, 30, 31, 32, 33, 34, 35, 36, 37, 38, 39, 40, 41, 42, 43, 44, 45, 46, 47, 48, 49, 50, 51, 52, 53, 60, 61, 54, 55, 56, 57, 58, 59] (by decide +kernel) (by decide +kernel)
set_option maxRecDepth 20000 in
theorem gX6_tellTo_X6_tellRule : GoodIn wsX6_tellTo (wsV RX6 48 RX6 yX6_tellRule wsX6_tellRule) := goodIn_app (goodIn_of _ (by decide +kernel)) ggX6_tellTo_X6_tellRule
set_option maxRecDepth 20000 in
theorem ggX6_tellTo_X6_sizeOfRule : GoodIn wsX6_tellTo wsX6_sizeOfRule := goodIn_r _ [22, 10, 11, 12, 6, 13, 2, 14, 60, 61] (by decide +kernel) (by decide +kernel)
set_option maxRecDepth 20000 in
theorem gX6_tellTo_X6_sizeOfRule : GoodIn wsX6_tellTo (wsV RX6 23 RX6 yX6_sizeOfRule wsX6_sizeOfRule) := goodIn_app (goodIn_of _ (by decide +kernel)) ggX6_tellTo_X6_sizeOfRule
theorem dX6_tellTo_0 : decode cX6_tellTo 0 = .ok (.aload_n 1, 1) := by decide +kernel
theorem dX6_tellTo_1 : decode cX6_tellTo 1 = .ok (.iconst 0, 1) := by decide +kernel
theorem dX6_tellTo_2 : decode cX6_tellTo 2 = .ok (.putfield 43, 3) := by decide +kernel
theorem dX6_tellTo_5 : decode cX6_tellTo 5 = .ok (.iconst 0, 1) := by decide +kernel
theorem dX6_tellTo_6 : decode cX6_tellTo 6 = .ok (.istore_n 2, 1) := by decide +kernel
theorem dX6_tellTo_7 : decode cX6_tellTo 7 = .ok (.iconst 0, 1) := by decide +kernel
theorem dX6_tellTo_8 : decode cX6_tellTo 8 = .ok (.istore_n 3, 1) := by decide +kernel
theorem dX6_tellTo_9 : decode cX6_tellTo 9 = .ok (.iload_n 3, 1) := by decide +kernel
theorem dX6_tellTo_10 : decode cX6_tellTo 10 = .ok (.bipush 10, 2) := by decide +kernel
theorem dX6_tellTo_12 : decode cX6_tellTo 12 = .ok (.if_icmp .ge 31, 3) := by decide +kernel
theorem dX6_tellTo_15 : decode cX6_tellTo 15 = .ok (.iload_n 2, 1) := by decide +kernel
theorem dX6_tellTo_16 : decode cX6_tellTo 16 = .ok (.aload_n 0, 1) := by decide +kernel
theorem dX6_tellTo_17 : decode cX6_tellTo 17 = .ok (.getfield 15, 3) := by decide +kernel
theorem dX6_tellTo_20 : decode cX6_tellTo 20 = .ok (.if_icmp .ge 23, 3) := by decide +kernel
theorem dX6_tellTo_23 : decode cX6_tellTo 23 = .ok (.aload_n 0, 1) := by decide +kernel
theorem dX6_tellTo_24 : decode cX6_tellTo 24 = .ok (.aload_n 1, 1) := by decide +kernel
theorem dX6_tellTo_25 : decode cX6_tellTo 25 = .ok (.iload_n 2, 1) := by decide +kernel
theorem dX6_tellTo_26 : decode cX6_tellTo 26 = .ok (.invokevirtual 48, 3) := by decide +kernel
theorem dX6_tellTo_29 : decode cX6_tellTo 29 = .ok (.iload_n 2, 1) := by decide +kernel
theorem dX6_tellTo_30 : decode cX6_tellTo 30 = .ok (.aload_n 0, 1) := by decide +kernel
theorem dX6_tellTo_31 : decode cX6_tellTo 31 = .ok (.iload_n 2, 1) := by decide +kernel
theorem dX6_tellTo_32 : decode cX6_tellTo 32 = .ok (.invokevirtual 23, 3) := by decide +kernel
theorem dX6_tellTo_35 : decode cX6_tellTo 35 = .ok (.iadd, 1) := by decide +kernel
theorem dX6_tellTo_36 : decode cX6_tellTo 36 = .ok (.istore_n 2, 1) := by decide +kernel
theorem dX6_tellTo_37 : decode cX6_tellTo 37 = .ok (.iinc 3 1, 3) := by decide +kernel
theorem dX6_tellTo_40 : decode cX6_tellTo 40 = .ok (.goto (-31), 3) := by decide +kernel
theorem dX6_tellTo_43 : decode cX6_tellTo 43 = .ok (.return_, 1) := by decide +kernel
set_option maxRecDepth 20000 in
theorem ggX6_tellRule_X6_signAt : GoodIn wsX6_tellRule wsX6_signAt := goodIn_r _ [7, 8, 9, 49, 50] (by decide +kernel) (by decide +kernel)
set_option maxRecDepth 20000 in
theorem gX6_tellRule_X6_signAt : GoodIn wsX6_tellRule (wsV RX6 19 RX6 yX6_signAt wsX6_signAt) := goodIn_app (goodIn_of _ (by decide +kernel)) ggX6_tellRule_X6_signAt
set_option maxRecDepth 20000 in
theorem ggX6_tellRule_X6_figureAt : GoodIn wsX6_tellRule wsX6_figureAt := goodIn_r _ [13, 3, 4, 5, 6, 7, 8, 9, 49, 50] (by decide +kernel) (by decide +kernel)
set_option maxRecDepth 20000 in
theorem gX6_tellRule_X6_figureAt : GoodIn wsX6_tellRule (wsV RX6 30 RX6 yX6_figureAt wsX6_figureAt) := goodIn_app (goodIn_of _ (by decide +kernel)) ggX6_tellRule_X6_figureAt
set_option maxRecDepth 20000 in
theorem ggX6_tellRule_X6_sizeOfRule : GoodIn wsX6_tellRule wsX6_sizeOfRule := goodIn_r _ [17, 3, 4, 5, 6, 7, 8, 9, 49, 50] (by decide +kernel) (by decide +kernel)
set_option maxRecDepth 20000 in
theorem gX6_tellRule_X6_sizeOfRule : GoodIn wsX6_tellRule (wsV RX6 23 RX6 yX6_sizeOfRule wsX6_sizeOfRule) := goodIn_app (goodIn_of _ (by decide +kernel)) ggX6_tellRule_X6_sizeOfRule
set_option maxRecDepth 20000 in
theorem ggX6_tellRule_X6_inWeeks : GoodIn wsX6_tellRule wsX6_inWeeks := goodIn_r _ [20] (by decide +kernel) (by decide +kernel)
set_option maxRecDepth 20000 in
theorem gX6_tellRule_X6_inWeeks : GoodIn wsX6_tellRule (va_wsS RX6 54 yX6_inWeeks wsX6_inWeeks) := goodIn_app (goodIn_of _ (by decide +kernel)) ggX6_tellRule_X6_inWeeks
set_option maxRecDepth 20000 in
theorem ggX6_tellRule_X6_nightAt : GoodIn wsX6_tellRule wsX6_nightAt := goodIn_r _ [24, 10, 11, 12, 6, 13, 3, 4, 5, 7, 8, 9, 49, 50] (by decide +kernel) (by decide +kernel)
set_option maxRecDepth 20000 in
theorem gX6_tellRule_X6_nightAt : GoodIn wsX6_tellRule (wsV RX6 40 RX6 yX6_nightAt wsX6_nightAt) := goodIn_app (goodIn_of _ (by decide +kernel)) ggX6_tellRule_X6_nightAt
set_option maxRecDepth 20000 in
theorem ggX6_tellRule_X1_span : GoodIn wsX6_tellRule wsX1_span := goodIn_r _ [28, 29, 30, 31, 27, 32, 33] (by decide +kernel) (by decide +kernel)
set_option maxRecDepth 20000 in
theorem gX6_tellRule_X1_span : GoodIn wsX6_tellRule (va_wsS RX6 58 yX1_span wsX1_span) := goodIn_app (goodIn_of _ (by decide +kernel)) ggX6_tellRule_X1_span
set_option maxRecDepth 20000 in
theorem ggX6_tellRule_X2_addRule : GoodIn wsX6_tellRule wsX2_addRule := goodIn_r _ [38, 39, 40, 41, 42, 43, 44, 45, 46, 47, 37, 48, 51, 52, 53, 54, 55, 56] (by decide +kernel) (by decide +kernel)
set_option maxRecDepth 20000 in
theorem gX6_tellRule_X2_addRule : GoodIn wsX6_tellRule (wsV RX6 66 RX2 yX2_addRule wsX2_addRule) := goodIn_app (goodIn_of _ (by decide +kernel)) ggX6_tellRule_X2_addRule
theorem dX6_tellRule_0 : decode cX6_tellRule 0 = .ok (.aload_n 0, 1) := by decide +kernel
theorem dX6_tellRule_1 : decode cX6_tellRule 1 = .ok (.iload_n 2, 1) := by decide +kernel
theorem dX6_tellRule_2 : decode cX6_tellRule 2 = .ok (.invokevirtual 19, 3) := by decide +kernel
theorem dX6_tellRule_5 : decode cX6_tellRule 5 = .ok (.istore_n 3, 1) := by decide +kernel
theorem dX6_tellRule_6 : decode cX6_tellRule 6 = .ok (.aload_n 0, 1) := by decide +kernel
theorem dX6_tellRule_7 : decode cX6_tellRule 7 = .ok (.iload_n 2, 1) := by decide +kernel
theorem dX6_tellRule_8 : decode cX6_tellRule 8 = .ok (.iconst 1, 1) := by decide +kernel
theorem dX6_tellRule_9 : decode cX6_tellRule 9 = .ok (.iadd, 1) := by decide +kernel
theorem dX6_tellRule_10 : decode cX6_tellRule 10 = .ok (.invokevirtual 30, 3) := by decide +kernel
theorem dX6_tellRule_13 : decode cX6_tellRule 13 = .ok (.istore 4, 2) := by decide +kernel
theorem dX6_tellRule_15 : decode cX6_tellRule 15 = .ok (.aload_n 0, 1) := by decide +kernel
theorem dX6_tellRule_16 : decode cX6_tellRule 16 = .ok (.iload_n 2, 1) := by decide +kernel
theorem dX6_tellRule_17 : decode cX6_tellRule 17 = .ok (.aload_n 0, 1) := by decide +kernel
theorem dX6_tellRule_18 : decode cX6_tellRule 18 = .ok (.iload_n 2, 1) := by decide +kernel
theorem dX6_tellRule_19 : decode cX6_tellRule 19 = .ok (.invokevirtual 23, 3) := by decide +kernel
theorem dX6_tellRule_22 : decode cX6_tellRule 22 = .ok (.iadd, 1) := by decide +kernel
theorem dX6_tellRule_23 : decode cX6_tellRule 23 = .ok (.iconst 1, 1) := by decide +kernel
theorem dX6_tellRule_24 : decode cX6_tellRule 24 = .ok (.isub, 1) := by decide +kernel
theorem dX6_tellRule_25 : decode cX6_tellRule 25 = .ok (.invokevirtual 30, 3) := by decide +kernel
theorem dX6_tellRule_28 : decode cX6_tellRule 28 = .ok (.istore 5, 2) := by decide +kernel
theorem dX6_tellRule_30 : decode cX6_tellRule 30 = .ok (.ldc2_w 52, 3) := by decide +kernel
theorem dX6_tellRule_33 : decode cX6_tellRule 33 = .ok (.lstore 6, 2) := by decide +kernel
theorem dX6_tellRule_35 : decode cX6_tellRule 35 = .ok (.iload_n 3, 1) := by decide +kernel
theorem dX6_tellRule_36 : decode cX6_tellRule 36 = .ok (.bipush 87, 2) := by decide +kernel
theorem dX6_tellRule_38 : decode cX6_tellRule 38 = .ok (.if_icmp .ne 32, 3) := by decide +kernel
theorem dX6_tellRule_41 : decode cX6_tellRule 41 = .ok (.aload_n 0, 1) := by decide +kernel
theorem dX6_tellRule_42 : decode cX6_tellRule 42 = .ok (.iload_n 2, 1) := by decide +kernel
theorem dX6_tellRule_43 : decode cX6_tellRule 43 = .ok (.iconst 2, 1) := by decide +kernel
theorem dX6_tellRule_44 : decode cX6_tellRule 44 = .ok (.iadd, 1) := by decide +kernel
theorem dX6_tellRule_45 : decode cX6_tellRule 45 = .ok (.invokevirtual 30, 3) := by decide +kernel
theorem dX6_tellRule_48 : decode cX6_tellRule 48 = .ok (.aload_n 0, 1) := by decide +kernel
theorem dX6_tellRule_49 : decode cX6_tellRule 49 = .ok (.iload_n 2, 1) := by decide +kernel
theorem dX6_tellRule_50 : decode cX6_tellRule 50 = .ok (.iconst 3, 1) := by decide +kernel
theorem dX6_tellRule_51 : decode cX6_tellRule 51 = .ok (.iadd, 1) := by decide +kernel
theorem dX6_tellRule_52 : decode cX6_tellRule 52 = .ok (.invokevirtual 30, 3) := by decide +kernel
theorem dX6_tellRule_55 : decode cX6_tellRule 55 = .ok (.aload_n 0, 1) := by decide +kernel
theorem dX6_tellRule_56 : decode cX6_tellRule 56 = .ok (.iload_n 2, 1) := by decide +kernel
theorem dX6_tellRule_57 : decode cX6_tellRule 57 = .ok (.iconst 4, 1) := by decide +kernel
theorem dX6_tellRule_58 : decode cX6_tellRule 58 = .ok (.iadd, 1) := by decide +kernel
theorem dX6_tellRule_59 : decode cX6_tellRule 59 = .ok (.invokevirtual 30, 3) := by decide +kernel
theorem dX6_tellRule_62 : decode cX6_tellRule 62 = .ok (.invokestatic 54, 3) := by decide +kernel
theorem dX6_tellRule_65 : decode cX6_tellRule 65 = .ok (.lstore 6, 2) := by decide +kernel
theorem dX6_tellRule_67 : decode cX6_tellRule 67 = .ok (.goto 28, 3) := by decide +kernel
