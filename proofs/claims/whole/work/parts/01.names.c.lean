theorem dX6_tellRule_70 : decode cX6_tellRule 70 = .ok (.iload_n 3, 1) := by decide +kernel
theorem dX6_tellRule_71 : decode cX6_tellRule 71 = .ok (.bipush 69, 2) := by decide +kernel
theorem dX6_tellRule_73 : decode cX6_tellRule 73 = .ok (.if_icmp .eq 22, 3) := by decide +kernel
theorem dX6_tellRule_76 : decode cX6_tellRule 76 = .ok (.aload_n 0, 1) := by decide +kernel
theorem dX6_tellRule_77 : decode cX6_tellRule 77 = .ok (.iload_n 2, 1) := by decide +kernel
theorem dX6_tellRule_78 : decode cX6_tellRule 78 = .ok (.iconst 2, 1) := by decide +kernel
theorem dX6_tellRule_79 : decode cX6_tellRule 79 = .ok (.iadd, 1) := by decide +kernel
theorem dX6_tellRule_80 : decode cX6_tellRule 80 = .ok (.invokevirtual 40, 3) := by decide +kernel
theorem dX6_tellRule_83 : decode cX6_tellRule 83 = .ok (.aload_n 0, 1) := by decide +kernel
theorem dX6_tellRule_84 : decode cX6_tellRule 84 = .ok (.iload_n 2, 1) := by decide +kernel
theorem dX6_tellRule_85 : decode cX6_tellRule 85 = .ok (.iconst 4, 1) := by decide +kernel
theorem dX6_tellRule_86 : decode cX6_tellRule 86 = .ok (.iadd, 1) := by decide +kernel
theorem dX6_tellRule_87 : decode cX6_tellRule 87 = .ok (.invokevirtual 40, 3) := by decide +kernel
theorem dX6_tellRule_90 : decode cX6_tellRule 90 = .ok (.invokestatic 58, 3) := by decide +kernel
theorem dX6_tellRule_93 : decode cX6_tellRule 93 = .ok (.lstore 6, 2) := by decide +kernel
theorem dX6_tellRule_95 : decode cX6_tellRule 95 = .ok (.lload 6, 2) := by decide +kernel
theorem dX6_tellRule_97 : decode cX6_tellRule 97 = .ok (.lstore 8, 2) := by decide +kernel
theorem dX6_tellRule_99 : decode cX6_tellRule 99 = .ok (.iload_n 3, 1) := by decide +kernel
theorem dX6_tellRule_100 : decode cX6_tellRule 100 = .ok (.bipush 72, 2) := by decide +kernel
theorem dX6_tellRule_102 : decode cX6_tellRule 102 = .ok (.if_icmp .ne 34, 3) := by decide +kernel
theorem dX6_tellRule_105 : decode cX6_tellRule 105 = .ok (.aload_n 0, 1) := by decide +kernel
theorem dX6_tellRule_106 : decode cX6_tellRule 106 = .ok (.iload_n 2, 1) := by decide +kernel
theorem dX6_tellRule_107 : decode cX6_tellRule 107 = .ok (.iconst 2, 1) := by decide +kernel
theorem dX6_tellRule_108 : decode cX6_tellRule 108 = .ok (.iadd, 1) := by decide +kernel
theorem dX6_tellRule_109 : decode cX6_tellRule 109 = .ok (.invokevirtual 40, 3) := by decide +kernel
theorem dX6_tellRule_112 : decode cX6_tellRule 112 = .ok (.istore 10, 2) := by decide +kernel
theorem dX6_tellRule_114 : decode cX6_tellRule 114 = .ok (.iload 10, 2) := by decide +kernel
theorem dX6_tellRule_116 : decode cX6_tellRule 116 = .ok (.iload 10, 2) := by decide +kernel
theorem dX6_tellRule_118 : decode cX6_tellRule 118 = .ok (.aload_n 0, 1) := by decide +kernel
theorem dX6_tellRule_119 : decode cX6_tellRule 119 = .ok (.iload_n 2, 1) := by decide +kernel
theorem dX6_tellRule_120 : decode cX6_tellRule 120 = .ok (.iconst 4, 1) := by decide +kernel
theorem dX6_tellRule_121 : decode cX6_tellRule 121 = .ok (.iadd, 1) := by decide +kernel
theorem dX6_tellRule_122 : decode cX6_tellRule 122 = .ok (.invokevirtual 40, 3) := by decide +kernel
theorem dX6_tellRule_125 : decode cX6_tellRule 125 = .ok (.iload 10, 2) := by decide +kernel
theorem dX6_tellRule_127 : decode cX6_tellRule 127 = .ok (.isub, 1) := by decide +kernel
theorem dX6_tellRule_128 : decode cX6_tellRule 128 = .ok (.iconst 2, 1) := by decide +kernel
theorem dX6_tellRule_129 : decode cX6_tellRule 129 = .ok (.idiv, 1) := by decide +kernel
theorem dX6_tellRule_130 : decode cX6_tellRule 130 = .ok (.iadd, 1) := by decide +kernel
theorem dX6_tellRule_131 : decode cX6_tellRule 131 = .ok (.invokestatic 58, 3) := by decide +kernel
theorem dX6_tellRule_134 : decode cX6_tellRule 134 = .ok (.lstore 8, 2) := by decide +kernel
theorem dX6_tellRule_136 : decode cX6_tellRule 136 = .ok (.aload_n 1, 1) := by decide +kernel
theorem dX6_tellRule_137 : decode cX6_tellRule 137 = .ok (.iload 4, 2) := by decide +kernel
theorem dX6_tellRule_139 : decode cX6_tellRule 139 = .ok (.lload 6, 2) := by decide +kernel
theorem dX6_tellRule_141 : decode cX6_tellRule 141 = .ok (.iload 5, 2) := by decide +kernel
theorem dX6_tellRule_143 : decode cX6_tellRule 143 = .ok (.iconst 1, 1) := by decide +kernel
theorem dX6_tellRule_144 : decode cX6_tellRule 144 = .ok (.if_icmp .ne 8, 3) := by decide +kernel
theorem dX6_tellRule_147 : decode cX6_tellRule 147 = .ok (.lload 8, 2) := by decide +kernel
theorem dX6_tellRule_149 : decode cX6_tellRule 149 = .ok (.goto 12, 3) := by decide +kernel
theorem dX6_tellRule_152 : decode cX6_tellRule 152 = .ok (.lload 6, 2) := by decide +kernel
theorem dX6_tellRule_154 : decode cX6_tellRule 154 = .ok (.lload 8, 2) := by decide +kernel
theorem dX6_tellRule_156 : decode cX6_tellRule 156 = .ok (.ldc2_w 64, 3) := by decide +kernel
theorem dX6_tellRule_159 : decode cX6_tellRule 159 = .ok (.lxor, 1) := by decide +kernel
theorem dX6_tellRule_160 : decode cX6_tellRule 160 = .ok (.land, 1) := by decide +kernel
theorem dX6_tellRule_161 : decode cX6_tellRule 161 = .ok (.iload_n 3, 1) := by decide +kernel
theorem dX6_tellRule_162 : decode cX6_tellRule 162 = .ok (.bipush 89, 2) := by decide +kernel
theorem dX6_tellRule_164 : decode cX6_tellRule 164 = .ok (.if_icmp .ne 7, 3) := by decide +kernel
theorem dX6_tellRule_167 : decode cX6_tellRule 167 = .ok (.iconst 1, 1) := by decide +kernel
theorem dX6_tellRule_168 : decode cX6_tellRule 168 = .ok (.goto 4, 3) := by decide +kernel
theorem dX6_tellRule_171 : decode cX6_tellRule 171 = .ok (.iconst 0, 1) := by decide +kernel
theorem dX6_tellRule_172 : decode cX6_tellRule 172 = .ok (.invokevirtual 66, 3) := by decide +kernel
theorem dX6_tellRule_175 : decode cX6_tellRule 175 = .ok (.return_, 1) := by decide +kernel
theorem dX6_inWeeks_0 : decode cX6_inWeeks 0 = .ok (.lconst 0, 1) := by decide +kernel
theorem dX6_inWeeks_1 : decode cX6_inWeeks 1 = .ok (.lstore_n 3, 1) := by decide +kernel
theorem dX6_inWeeks_2 : decode cX6_inWeeks 2 = .ok (.iconst 0, 1) := by decide +kernel
theorem dX6_inWeeks_3 : decode cX6_inWeeks 3 = .ok (.istore 5, 2) := by decide +kernel
theorem dX6_inWeeks_5 : decode cX6_inWeeks 5 = .ok (.iload 5, 2) := by decide +kernel
theorem dX6_inWeeks_7 : decode cX6_inWeeks 7 = .ok (.bipush 8, 2) := by decide +kernel
theorem dX6_inWeeks_9 : decode cX6_inWeeks 9 = .ok (.if_icmp .ge 33, 3) := by decide +kernel
theorem dX6_inWeeks_12 : decode cX6_inWeeks 12 = .ok (.iload_n 1, 1) := by decide +kernel
theorem dX6_inWeeks_13 : decode cX6_inWeeks 13 = .ok (.ifCond .le 29, 3) := by decide +kernel
theorem dX6_inWeeks_16 : decode cX6_inWeeks 16 = .ok (.iload 5, 2) := by decide +kernel
theorem dX6_inWeeks_18 : decode cX6_inWeeks 18 = .ok (.iload_n 1, 1) := by decide +kernel
theorem dX6_inWeeks_19 : decode cX6_inWeeks 19 = .ok (.irem, 1) := by decide +kernel
theorem dX6_inWeeks_20 : decode cX6_inWeeks 20 = .ok (.iload_n 2, 1) := by decide +kernel
theorem dX6_inWeeks_21 : decode cX6_inWeeks 21 = .ok (.if_icmp .ne 15, 3) := by decide +kernel
theorem dX6_inWeeks_24 : decode cX6_inWeeks 24 = .ok (.lload_n 3, 1) := by decide +kernel
theorem dX6_inWeeks_25 : decode cX6_inWeeks 25 = .ok (.lconst 1, 1) := by decide +kernel
theorem dX6_inWeeks_26 : decode cX6_inWeeks 26 = .ok (.iload 5, 2) := by decide +kernel
theorem dX6_inWeeks_28 : decode cX6_inWeeks 28 = .ok (.bipush 7, 2) := by decide +kernel
theorem dX6_inWeeks_30 : decode cX6_inWeeks 30 = .ok (.imul, 1) := by decide +kernel
theorem dX6_inWeeks_31 : decode cX6_inWeeks 31 = .ok (.iload_n 0, 1) := by decide +kernel
theorem dX6_inWeeks_32 : decode cX6_inWeeks 32 = .ok (.iadd, 1) := by decide +kernel
theorem dX6_inWeeks_33 : decode cX6_inWeeks 33 = .ok (.lshl, 1) := by decide +kernel
theorem dX6_inWeeks_34 : decode cX6_inWeeks 34 = .ok (.lor, 1) := by decide +kernel
theorem dX6_inWeeks_35 : decode cX6_inWeeks 35 = .ok (.lstore_n 3, 1) := by decide +kernel
theorem dX6_inWeeks_36 : decode cX6_inWeeks 36 = .ok (.iinc 5 1, 3) := by decide +kernel
theorem dX6_inWeeks_39 : decode cX6_inWeeks 39 = .ok (.goto (-34), 3) := by decide +kernel
theorem dX6_inWeeks_42 : decode cX6_inWeeks 42 = .ok (.lload_n 3, 1) := by decide +kernel
theorem dX6_inWeeks_43 : decode cX6_inWeeks 43 = .ok (.lreturn, 1) := by decide +kernel
theorem dX7_init_0 : decode cX7_init 0 = .ok (.aload_n 0, 1) := by decide +kernel
theorem dX7_init_1 : decode cX7_init 1 = .ok (.invokespecial 3, 3) := by decide +kernel
theorem dX7_init_4 : decode cX7_init 4 = .ok (.aload_n 0, 1) := by decide +kernel
theorem dX7_init_5 : decode cX7_init 5 = .ok (.iconst 5, 1) := by decide +kernel
theorem dX7_init_6 : decode cX7_init 6 = .ok (.putfield 9, 3) := by decide +kernel
theorem dX7_init_9 : decode cX7_init 9 = .ok (.aload_n 0, 1) := by decide +kernel
theorem dX7_init_10 : decode cX7_init 10 = .ok (.iconst 1, 1) := by decide +kernel
theorem dX7_init_11 : decode cX7_init 11 = .ok (.putfield 15, 3) := by decide +kernel
theorem dX7_init_14 : decode cX7_init 14 = .ok (.aload_n 0, 1) := by decide +kernel
theorem dX7_init_15 : decode cX7_init 15 = .ok (.iconst 1, 1) := by decide +kernel
theorem dX7_init_16 : decode cX7_init 16 = .ok (.putfield 18, 3) := by decide +kernel
theorem dX7_init_19 : decode cX7_init 19 = .ok (.aload_n 0, 1) := by decide +kernel
theorem dX7_init_20 : decode cX7_init 20 = .ok (.bipush 112, 2) := by decide +kernel
theorem dX7_init_22 : decode cX7_init 22 = .ok (.newarray .int, 2) := by decide +kernel
theorem dX7_init_24 : decode cX7_init 24 = .ok (.putfield 21, 3) := by decide +kernel
theorem dX7_init_27 : decode cX7_init 27 = .ok (.return_, 1) := by decide +kernel
theorem dX7_addWant_0 : decode cX7_addWant 0 = .ok (.iconst 1, 1) := by decide +kernel
theorem dX7_addWant_1 : decode cX7_addWant 1 = .ok (.iload_n 2, 1) := by decide +kernel
theorem dX7_addWant_2 : decode cX7_addWant 2 = .ok (.isub, 1) := by decide +kernel
theorem dX7_addWant_3 : decode cX7_addWant 3 = .ok (.bipush 56, 2) := by decide +kernel
theorem dX7_addWant_5 : decode cX7_addWant 5 = .ok (.imul, 1) := by decide +kernel
theorem dX7_addWant_6 : decode cX7_addWant 6 = .ok (.iload_n 1, 1) := by decide +kernel
theorem dX7_addWant_7 : decode cX7_addWant 7 = .ok (.iadd, 1) := by decide +kernel
theorem dX7_addWant_8 : decode cX7_addWant 8 = .ok (.istore 4, 2) := by decide +kernel
theorem dX7_addWant_10 : decode cX7_addWant 10 = .ok (.iload 4, 2) := by decide +kernel
theorem dX7_addWant_12 : decode cX7_addWant 12 = .ok (.ifCond .lt 24, 3) := by decide +kernel
theorem dX7_addWant_15 : decode cX7_addWant 15 = .ok (.iload 4, 2) := by decide +kernel
theorem dX7_addWant_17 : decode cX7_addWant 17 = .ok (.aload_n 0, 1) := by decide +kernel
theorem dX7_addWant_18 : decode cX7_addWant 18 = .ok (.getfield 21, 3) := by decide +kernel
theorem dX7_addWant_21 : decode cX7_addWant 21 = .ok (.arraylength, 1) := by decide +kernel
theorem dX7_addWant_22 : decode cX7_addWant 22 = .ok (.if_icmp .ge 14, 3) := by decide +kernel
theorem dX7_addWant_25 : decode cX7_addWant 25 = .ok (.aload_n 0, 1) := by decide +kernel
theorem dX7_addWant_26 : decode cX7_addWant 26 = .ok (.getfield 21, 3) := by decide +kernel
theorem dX7_addWant_29 : decode cX7_addWant 29 = .ok (.iload 4, 2) := by decide +kernel
theorem dX7_addWant_31 : decode cX7_addWant 31 = .ok (.dup2, 1) := by decide +kernel
theorem dX7_addWant_32 : decode cX7_addWant 32 = .ok (.iaload, 1) := by decide +kernel
theorem dX7_addWant_33 : decode cX7_addWant 33 = .ok (.iload_n 3, 1) := by decide +kernel
theorem dX7_addWant_34 : decode cX7_addWant 34 = .ok (.iadd, 1) := by decide +kernel
theorem dX7_addWant_35 : decode cX7_addWant 35 = .ok (.iastore, 1) := by decide +kernel
theorem dX7_addWant_36 : decode cX7_addWant 36 = .ok (.aload_n 0, 1) := by decide +kernel
theorem dX7_addWant_37 : decode cX7_addWant 37 = .ok (.getfield 25, 3) := by decide +kernel
theorem dX7_addWant_40 : decode cX7_addWant 40 = .ok (.istore 5, 2) := by decide +kernel
theorem dX7_addWant_42 : decode cX7_addWant 42 = .ok (.aload_n 0, 1) := by decide +kernel
theorem dX7_addWant_43 : decode cX7_addWant 43 = .ok (.dup, 1) := by decide +kernel
theorem dX7_addWant_44 : decode cX7_addWant 44 = .ok (.getfield 25, 3) := by decide +kernel
theorem dX7_addWant_47 : decode cX7_addWant 47 = .ok (.iconst 1, 1) := by decide +kernel
theorem dX7_addWant_48 : decode cX7_addWant 48 = .ok (.iadd, 1) := by decide +kernel
theorem dX7_addWant_49 : decode cX7_addWant 49 = .ok (.putfield 25, 3) := by decide +kernel
theorem dX7_addWant_52 : decode cX7_addWant 52 = .ok (.iload 5, 2) := by decide +kernel
theorem dX7_addWant_54 : decode cX7_addWant 54 = .ok (.ireturn, 1) := by decide +kernel
theorem dX7_dropWants_0 : decode cX7_dropWants 0 = .ok (.aload_n 0, 1) := by decide +kernel
theorem dX7_dropWants_1 : decode cX7_dropWants 1 = .ok (.iconst 0, 1) := by decide +kernel
theorem dX7_dropWants_2 : decode cX7_dropWants 2 = .ok (.putfield 25, 3) := by decide +kernel
theorem dX7_dropWants_5 : decode cX7_dropWants 5 = .ok (.iconst 0, 1) := by decide +kernel
theorem dX7_dropWants_6 : decode cX7_dropWants 6 = .ok (.istore_n 1, 1) := by decide +kernel
theorem dX7_dropWants_7 : decode cX7_dropWants 7 = .ok (.iload_n 1, 1) := by decide +kernel
theorem dX7_dropWants_8 : decode cX7_dropWants 8 = .ok (.aload_n 0, 1) := by decide +kernel
theorem dX7_dropWants_9 : decode cX7_dropWants 9 = .ok (.getfield 21, 3) := by decide +kernel
theorem dX7_dropWants_12 : decode cX7_dropWants 12 = .ok (.arraylength, 1) := by decide +kernel
theorem dX7_dropWants_13 : decode cX7_dropWants 13 = .ok (.if_icmp .ge 16, 3) := by decide +kernel
theorem dX7_dropWants_16 : decode cX7_dropWants 16 = .ok (.aload_n 0, 1) := by decide +kernel
theorem dX7_dropWants_17 : decode cX7_dropWants 17 = .ok (.getfield 21, 3) := by decide +kernel
theorem dX7_dropWants_20 : decode cX7_dropWants 20 = .ok (.iload_n 1, 1) := by decide +kernel
theorem dX7_dropWants_21 : decode cX7_dropWants 21 = .ok (.iconst 0, 1) := by decide +kernel
theorem dX7_dropWants_22 : decode cX7_dropWants 22 = .ok (.iastore, 1) := by decide +kernel
theorem dX7_dropWants_23 : decode cX7_dropWants 23 = .ok (.iinc 1 1, 3) := by decide +kernel
theorem dX7_dropWants_26 : decode cX7_dropWants 26 = .ok (.goto (-19), 3) := by decide +kernel
theorem dX7_dropWants_29 : decode cX7_dropWants 29 = .ok (.return_, 1) := by decide +kernel
theorem dX7_priceOf_0 : decode cX7_priceOf 0 = .ok (.iload_n 2, 1) := by decide +kernel
theorem dX7_priceOf_1 : decode cX7_priceOf 1 = .ok (.bipush 56, 2) := by decide +kernel
theorem dX7_priceOf_3 : decode cX7_priceOf 3 = .ok (.imul, 1) := by decide +kernel
theorem dX7_priceOf_4 : decode cX7_priceOf 4 = .ok (.iload_n 1, 1) := by decide +kernel
theorem dX7_priceOf_5 : decode cX7_priceOf 5 = .ok (.iadd, 1) := by decide +kernel
theorem dX7_priceOf_6 : decode cX7_priceOf 6 = .ok (.istore_n 3, 1) := by decide +kernel
theorem dX7_priceOf_7 : decode cX7_priceOf 7 = .ok (.iload_n 3, 1) := by decide +kernel
theorem dX7_priceOf_8 : decode cX7_priceOf 8 = .ok (.ifCond .lt 21, 3) := by decide +kernel
theorem dX7_priceOf_11 : decode cX7_priceOf 11 = .ok (.iload_n 3, 1) := by decide +kernel
theorem dX7_priceOf_12 : decode cX7_priceOf 12 = .ok (.aload_n 0, 1) := by decide +kernel
theorem dX7_priceOf_13 : decode cX7_priceOf 13 = .ok (.getfield 21, 3) := by decide +kernel
theorem dX7_priceOf_16 : decode cX7_priceOf 16 = .ok (.arraylength, 1) := by decide +kernel
theorem dX7_priceOf_17 : decode cX7_priceOf 17 = .ok (.if_icmp .ge 12, 3) := by decide +kernel
theorem dX7_priceOf_20 : decode cX7_priceOf 20 = .ok (.aload_n 0, 1) := by decide +kernel
theorem dX7_priceOf_21 : decode cX7_priceOf 21 = .ok (.getfield 21, 3) := by decide +kernel
theorem dX7_priceOf_24 : decode cX7_priceOf 24 = .ok (.iload_n 3, 1) := by decide +kernel
theorem dX7_priceOf_25 : decode cX7_priceOf 25 = .ok (.iaload, 1) := by decide +kernel
theorem dX7_priceOf_26 : decode cX7_priceOf 26 = .ok (.goto 4, 3) := by decide +kernel
theorem dX7_priceOf_29 : decode cX7_priceOf 29 = .ok (.iconst 0, 1) := by decide +kernel
theorem dX7_priceOf_30 : decode cX7_priceOf 30 = .ok (.ireturn, 1) := by decide +kernel
set_option maxRecDepth 20000 in
theorem ggX7_costOf_X1_handings : GoodIn wsX7_costOf wsX1_handings := goodIn_r _ [8, 9, 10] (by decide +kernel) (by decide +kernel)
set_option maxRecDepth 20000 in
theorem gX7_costOf_X1_handings : GoodIn wsX7_costOf (va_wsS RX7 28 yX1_handings wsX1_handings) := goodIn_app (goodIn_of _ (by decide +kernel)) ggX7_costOf_X1_handings
set_option maxRecDepth 20000 in
theorem ggX7_costOf_J13_bitCount_95d88 : GoodIn wsX7_costOf wsJ13_bitCount_95d88 := goodIn_r _ [14, 15, 16, 17] (by decide +kernel) (by decide +kernel)
set_option maxRecDepth 20000 in
theorem gX7_costOf_J13_bitCount_95d88 : GoodIn wsX7_costOf (va_wsS RX7 34 yJ13_bitCount_95d88 wsJ13_bitCount_95d88) := goodIn_app (goodIn_of _ (by decide +kernel)) ggX7_costOf_J13_bitCount_95d88
set_option maxRecDepth 20000 in
theorem ggX7_costOf_X1_behindLongRuns : GoodIn wsX7_costOf wsX1_behindLongRuns := goodIn_r _ [20, 21, 22, 23, 6, 7, 8, 9, 10] (by decide +kernel) (by decide +kernel)
set_option maxRecDepth 20000 in
theorem gX7_costOf_X1_behindLongRuns : GoodIn wsX7_costOf (va_wsS RX7 40 yX1_behindLongRuns wsX1_behindLongRuns) := goodIn_app (goodIn_of _ (by decide +kernel)) ggX7_costOf_X1_behindLongRuns
set_option maxRecDepth 20000 in
theorem ggX7_costOf_X1_houseAt : GoodIn wsX7_costOf wsX1_houseAt := goodIn_r _ [26] (by decide +kernel) (by decide +kernel)
set_option maxRecDepth 20000 in
theorem gX7_costOf_X1_houseAt : GoodIn wsX7_costOf (va_wsS RX7 44 yX1_houseAt wsX1_houseAt) := goodIn_app (goodIn_of _ (by decide +kernel)) ggX7_costOf_X1_houseAt
set_option maxRecDepth 20000 in
theorem ggX7_costOf_X7_priceOf : GoodIn wsX7_costOf wsX7_priceOf := goodIn_r _ [31, 32, 33, 34, 35, 36, 37] (by decide +kernel) (by decide +kernel)
set_option maxRecDepth 20000 in
theorem gX7_costOf_X7_priceOf : GoodIn wsX7_costOf (wsV RX7 48 RX7 yX7_priceOf wsX7_priceOf) := goodIn_app (goodIn_of _ (by decide +kernel)) ggX7_costOf_X7_priceOf
theorem dX7_costOf_0 : decode cX7_costOf 0 = .ok (.aload_n 0, 1) := by decide +kernel
theorem dX7_costOf_1 : decode cX7_costOf 1 = .ok (.getfield 18, 3) := by decide +kernel
theorem dX7_costOf_4 : decode cX7_costOf 4 = .ok (.lload_n 1, 1) := by decide +kernel
theorem dX7_costOf_5 : decode cX7_costOf 5 = .ok (.invokestatic 28, 3) := by decide +kernel
theorem dX7_costOf_8 : decode cX7_costOf 8 = .ok (.invokestatic 34, 3) := by decide +kernel
theorem dX7_costOf_11 : decode cX7_costOf 11 = .ok (.imul, 1) := by decide +kernel
theorem dX7_costOf_12 : decode cX7_costOf 12 = .ok (.aload_n 0, 1) := by decide +kernel
theorem dX7_costOf_13 : decode cX7_costOf 13 = .ok (.getfield 15, 3) := by decide +kernel
theorem dX7_costOf_16 : decode cX7_costOf 16 = .ok (.lload_n 1, 1) := by decide +kernel
theorem dX7_costOf_17 : decode cX7_costOf 17 = .ok (.aload_n 0, 1) := by decide +kernel
theorem dX7_costOf_18 : decode cX7_costOf 18 = .ok (.getfield 9, 3) := by decide +kernel
theorem dX7_costOf_21 : decode cX7_costOf 21 = .ok (.invokestatic 40, 3) := by decide +kernel
theorem dX7_costOf_24 : decode cX7_costOf 24 = .ok (.invokestatic 34, 3) := by decide +kernel
theorem dX7_costOf_27 : decode cX7_costOf 27 = .ok (.imul, 1) := by decide +kernel
theorem dX7_costOf_28 : decode cX7_costOf 28 = .ok (.iadd, 1) := by decide +kernel
theorem dX7_costOf_29 : decode cX7_costOf 29 = .ok (.istore_n 3, 1) := by decide +kernel
theorem dX7_costOf_30 : decode cX7_costOf 30 = .ok (.aload_n 0, 1) := by decide +kernel
theorem dX7_costOf_31 : decode cX7_costOf 31 = .ok (.getfield 25, 3) := by decide +kernel
theorem dX7_costOf_34 : decode cX7_costOf 34 = .ok (.ifCond .ne 5, 3) := by decide +kernel
theorem dX7_costOf_37 : decode cX7_costOf 37 = .ok (.iload_n 3, 1) := by decide +kernel
theorem dX7_costOf_38 : decode cX7_costOf 38 = .ok (.ireturn, 1) := by decide +kernel
theorem dX7_costOf_39 : decode cX7_costOf 39 = .ok (.iconst 0, 1) := by decide +kernel
theorem dX7_costOf_40 : decode cX7_costOf 40 = .ok (.istore 4, 2) := by decide +kernel
theorem dX7_costOf_42 : decode cX7_costOf 42 = .ok (.iload 4, 2) := by decide +kernel
theorem dX7_costOf_44 : decode cX7_costOf 44 = .ok (.bipush 56, 2) := by decide +kernel
theorem dX7_costOf_46 : decode cX7_costOf 46 = .ok (.if_icmp .ge 24, 3) := by decide +kernel
theorem dX7_costOf_49 : decode cX7_costOf 49 = .ok (.iload_n 3, 1) := by decide +kernel
theorem dX7_costOf_50 : decode cX7_costOf 50 = .ok (.aload_n 0, 1) := by decide +kernel
theorem dX7_costOf_51 : decode cX7_costOf 51 = .ok (.iload 4, 2) := by decide +kernel
theorem dX7_costOf_53 : decode cX7_costOf 53 = .ok (.lload_n 1, 1) := by decide +kernel
theorem dX7_costOf_54 : decode cX7_costOf 54 = .ok (.iload 4, 2) := by decide +kernel
theorem dX7_costOf_56 : decode cX7_costOf 56 = .ok (.invokestatic 44, 3) := by decide +kernel
theorem dX7_costOf_59 : decode cX7_costOf 59 = .ok (.invokevirtual 48, 3) := by decide +kernel
theorem dX7_costOf_62 : decode cX7_costOf 62 = .ok (.iadd, 1) := by decide +kernel
theorem dX7_costOf_63 : decode cX7_costOf 63 = .ok (.istore_n 3, 1) := by decide +kernel
theorem dX7_costOf_64 : decode cX7_costOf 64 = .ok (.iinc 4 1, 3) := by decide +kernel
theorem dX7_costOf_67 : decode cX7_costOf 67 = .ok (.goto (-25), 3) := by decide +kernel
theorem dX7_costOf_70 : decode cX7_costOf 70 = .ok (.iload_n 3, 1) := by decide +kernel
theorem dX7_costOf_71 : decode cX7_costOf 71 = .ok (.ireturn, 1) := by decide +kernel
set_option maxRecDepth 20000 in
theorem ggX8_init_X6_init : GoodIn wsX8_init wsX6_init := goodIn_r _ [34, 35, 2, 3, 36, 37, 82, 83] (by decide +kernel) (by decide +kernel)
set_option maxRecDepth 20000 in
theorem gX8_init_X6_init : GoodIn wsX8_init (wsX6_init) := ggX8_init_X6_init
set_option maxRecDepth 20000 in
theorem ggX8_init_X5_init : GoodIn wsX8_init wsX5_init := goodIn_r _ [40, 41, 2, 3, 42, 43, 44, 45, 46, 47, 48, 49, 50, 51, 52, 53, 54, 55, 56, 57, 58, 59, 113, 114, 115, 116, 117, 118, 94, 95, 96, 97, 98] (by decide +kernel) (by decide +kernel)
set_option maxRecDepth 20000 in
theorem gX8_init_X5_init : GoodIn wsX8_init (wsX5_init) := ggX8_init_X5_init
set_option maxRecDepth 20000 in
theorem ggX8_init_X7_init : GoodIn wsX8_init wsX7_init := goodIn_r _ [62, 63, 2, 3, 64, 65, 66, 46, 67, 99, 100, 101, 102, 103] (by decide +kernel) (by decide +kernel)
set_option maxRecDepth 20000 in
theorem gX8_init_X7_init : GoodIn wsX8_init (wsX7_init) := ggX8_init_X7_init
set_option maxRecDepth 20000 in
theorem ggX8_init_X3_init : GoodIn wsX8_init wsX3_init := goodIn_r _ [70, 71, 2, 3, 46, 72, 55, 73, 104, 105, 106, 107] (by decide +kernel) (by decide +kernel)
set_option maxRecDepth 20000 in
theorem gX8_init_X3_init : GoodIn wsX8_init (wsX3_init) := ggX8_init_X3_init
set_option maxRecDepth 20000 in
theorem ggX8_init_X0_init : GoodIn wsX8_init wsX0_init := goodIn_r _ [76, 77, 2, 3] (by decide +kernel) (by decide +kernel)
set_option maxRecDepth 20000 in
theorem gX8_init_X0_init : GoodIn wsX8_init (wsX0_init) := ggX8_init_X0_init
set_option maxRecDepth 20000 in
theorem ggX8_init_X4_init : GoodIn wsX8_init wsX4_init := goodIn_r _ [80, 81, 2, 3] (by decide +kernel) (by decide +kernel)
set_option maxRecDepth 20000 in
theorem gX8_init_X4_init : GoodIn wsX8_init (wsX4_init) := ggX8_init_X4_init
theorem dX8_init_0 : decode cX8_init 0 = .ok (.aload_n 0, 1) := by decide +kernel
theorem dX8_init_1 : decode cX8_init 1 = .ok (.invokespecial 3, 3) := by decide +kernel
theorem dX8_init_4 : decode cX8_init 4 = .ok (.aload_n 0, 1) := by decide +kernel
theorem dX8_init_5 : decode cX8_init 5 = .ok (.new 9, 3) := by decide +kernel
theorem dX8_init_8 : decode cX8_init 8 = .ok (.dup, 1) := by decide +kernel
theorem dX8_init_9 : decode cX8_init 9 = .ok (.invokespecial 11, 3) := by decide +kernel
theorem dX8_init_12 : decode cX8_init 12 = .ok (.putfield 12, 3) := by decide +kernel
theorem dX8_init_15 : decode cX8_init 15 = .ok (.aload_n 0, 1) := by decide +kernel
theorem dX8_init_16 : decode cX8_init 16 = .ok (.new 16, 3) := by decide +kernel
theorem dX8_init_19 : decode cX8_init 19 = .ok (.dup, 1) := by decide +kernel
theorem dX8_init_20 : decode cX8_init 20 = .ok (.invokespecial 18, 3) := by decide +kernel
theorem dX8_init_23 : decode cX8_init 23 = .ok (.putfield 19, 3) := by decide +kernel
theorem dX8_init_26 : decode cX8_init 26 = .ok (.aload_n 0, 1) := by decide +kernel
theorem dX8_init_27 : decode cX8_init 27 = .ok (.new 16, 3) := by decide +kernel
theorem dX8_init_30 : decode cX8_init 30 = .ok (.dup, 1) := by decide +kernel
theorem dX8_init_31 : decode cX8_init 31 = .ok (.invokespecial 18, 3) := by decide +kernel
theorem dX8_init_34 : decode cX8_init 34 = .ok (.putfield 23, 3) := by decide +kernel
theorem dX8_init_37 : decode cX8_init 37 = .ok (.aload_n 0, 1) := by decide +kernel
theorem dX8_init_38 : decode cX8_init 38 = .ok (.new 16, 3) := by decide +kernel
theorem dX8_init_41 : decode cX8_init 41 = .ok (.dup, 1) := by decide +kernel
theorem dX8_init_42 : decode cX8_init 42 = .ok (.invokespecial 18, 3) := by decide +kernel
theorem dX8_init_45 : decode cX8_init 45 = .ok (.putfield 26, 3) := by decide +kernel
theorem dX8_init_48 : decode cX8_init 48 = .ok (.aload_n 0, 1) := by decide +kernel
theorem dX8_init_49 : decode cX8_init 49 = .ok (.new 29, 3) := by decide +kernel
theorem dX8_init_52 : decode cX8_init 52 = .ok (.dup, 1) := by decide +kernel
theorem dX8_init_53 : decode cX8_init 53 = .ok (.invokespecial 31, 3) := by decide +kernel
theorem dX8_init_56 : decode cX8_init 56 = .ok (.putfield 32, 3) := by decide +kernel
theorem dX8_init_59 : decode cX8_init 59 = .ok (.aload_n 0, 1) := by decide +kernel
theorem dX8_init_60 : decode cX8_init 60 = .ok (.new 36, 3) := by decide +kernel
theorem dX8_init_63 : decode cX8_init 63 = .ok (.dup, 1) := by decide +kernel
theorem dX8_init_64 : decode cX8_init 64 = .ok (.invokespecial 38, 3) := by decide +kernel
theorem dX8_init_67 : decode cX8_init 67 = .ok (.putfield 39, 3) := by decide +kernel
theorem dX8_init_70 : decode cX8_init 70 = .ok (.aload_n 0, 1) := by decide +kernel
theorem dX8_init_71 : decode cX8_init 71 = .ok (.new 43, 3) := by decide +kernel
theorem dX8_init_74 : decode cX8_init 74 = .ok (.dup, 1) := by decide +kernel
theorem dX8_init_75 : decode cX8_init 75 = .ok (.invokespecial 45, 3) := by decide +kernel
theorem dX8_init_78 : decode cX8_init 78 = .ok (.putfield 46, 3) := by decide +kernel
theorem dX8_init_81 : decode cX8_init 81 = .ok (.aload_n 0, 1) := by decide +kernel
theorem dX8_init_82 : decode cX8_init 82 = .ok (.new 50, 3) := by decide +kernel
theorem dX8_init_85 : decode cX8_init 85 = .ok (.dup, 1) := by decide +kernel
theorem dX8_init_86 : decode cX8_init 86 = .ok (.invokespecial 52, 3) := by decide +kernel
theorem dX8_init_89 : decode cX8_init 89 = .ok (.putfield 53, 3) := by decide +kernel
theorem dX8_init_92 : decode cX8_init 92 = .ok (.aload_n 0, 1) := by decide +kernel
theorem dX8_init_93 : decode cX8_init 93 = .ok (.new 50, 3) := by decide +kernel
theorem dX8_init_96 : decode cX8_init 96 = .ok (.dup, 1) := by decide +kernel
theorem dX8_init_97 : decode cX8_init 97 = .ok (.invokespecial 52, 3) := by decide +kernel
theorem dX8_init_100 : decode cX8_init 100 = .ok (.putfield 57, 3) := by decide +kernel
theorem dX8_init_103 : decode cX8_init 103 = .ok (.aload_n 0, 1) := by decide +kernel
theorem dX8_init_104 : decode cX8_init 104 = .ok (.iconst 1, 1) := by decide +kernel
theorem dX8_init_105 : decode cX8_init 105 = .ok (.putfield 60, 3) := by decide +kernel
theorem dX8_init_108 : decode cX8_init 108 = .ok (.return_, 1) := by decide +kernel
set_option maxRecDepth 20000 in
theorem ggX8_write_X6_append : GoodIn wsX8_write wsX6_append := goodIn_r _ [7, 8, 9, 20, 21] (by decide +kernel) (by decide +kernel)
set_option maxRecDepth 20000 in
theorem gX8_write_X6_append : GoodIn wsX8_write (wsV RX8 64 RX6 yX6_append wsX6_append) := goodIn_app (goodIn_of _ (by decide +kernel)) ggX8_write_X6_append
theorem dX8_write_0 : decode cX8_write 0 = .ok (.iload_n 1, 1) := by decide +kernel
theorem dX8_write_1 : decode cX8_write 1 = .ok (.iconst 1, 1) := by decide +kernel
theorem dX8_write_2 : decode cX8_write 2 = .ok (.if_icmp .lt 9, 3) := by decide +kernel
theorem dX8_write_5 : decode cX8_write 5 = .ok (.iload_n 1, 1) := by decide +kernel
theorem dX8_write_6 : decode cX8_write 6 = .ok (.bipush 8, 2) := by decide +kernel
theorem dX8_write_8 : decode cX8_write 8 = .ok (.if_icmp .le 6, 3) := by decide +kernel
theorem dX8_write_11 : decode cX8_write 11 = .ok (.bipush (-2), 2) := by decide +kernel
theorem dX8_write_13 : decode cX8_write 13 = .ok (.ireturn, 1) := by decide +kernel
theorem dX8_write_14 : decode cX8_write 14 = .ok (.aload_n 0, 1) := by decide +kernel
theorem dX8_write_15 : decode cX8_write 15 = .ok (.getfield 12, 3) := by decide +kernel
theorem dX8_write_18 : decode cX8_write 18 = .ok (.iload_n 1, 1) := by decide +kernel
theorem dX8_write_19 : decode cX8_write 19 = .ok (.lload_n 2, 1) := by decide +kernel
theorem dX8_write_20 : decode cX8_write 20 = .ok (.invokevirtual 64, 3) := by decide +kernel
theorem dX8_write_23 : decode cX8_write 23 = .ok (.ifCond .eq 13, 3) := by decide +kernel
theorem dX8_write_26 : decode cX8_write 26 = .ok (.aload_n 0, 1) := by decide +kernel
theorem dX8_write_27 : decode cX8_write 27 = .ok (.getfield 12, 3) := by decide +kernel
theorem dX8_write_30 : decode cX8_write 30 = .ok (.getfield 68, 3) := by decide +kernel
theorem dX8_write_33 : decode cX8_write 33 = .ok (.goto 5, 3) := by decide +kernel
theorem dX8_write_36 : decode cX8_write 36 = .ok (.bipush (-4), 2) := by decide +kernel
theorem dX8_write_38 : decode cX8_write 38 = .ok (.ireturn, 1) := by decide +kernel
theorem dX8_wipe_0 : decode cX8_wipe 0 = .ok (.aload_n 0, 1) := by decide +kernel
theorem dX8_wipe_1 : decode cX8_wipe 1 = .ok (.getfield 12, 3) := by decide +kernel
theorem dX8_wipe_4 : decode cX8_wipe 4 = .ok (.getfield 68, 3) := by decide +kernel
theorem dX8_wipe_7 : decode cX8_wipe 7 = .ok (.istore_n 1, 1) := by decide +kernel
theorem dX8_wipe_8 : decode cX8_wipe 8 = .ok (.aload_n 0, 1) := by decide +kernel
theorem dX8_wipe_9 : decode cX8_wipe 9 = .ok (.getfield 12, 3) := by decide +kernel
theorem dX8_wipe_12 : decode cX8_wipe 12 = .ok (.iconst 0, 1) := by decide +kernel
theorem dX8_wipe_13 : decode cX8_wipe 13 = .ok (.putfield 68, 3) := by decide +kernel
theorem dX8_wipe_16 : decode cX8_wipe 16 = .ok (.iload_n 1, 1) := by decide +kernel
theorem dX8_wipe_17 : decode cX8_wipe 17 = .ok (.ireturn, 1) := by decide +kernel
set_option maxRecDepth 20000 in
theorem ggX8_fault_X6_firstFault : GoodIn wsX8_fault wsX6_firstFault := goodIn_r _ [6, 7, 8, 9, 10, 5, 11, 12, 13, 14, 15, 16, 17, 18, 19, 20, 21, 22, 23, 24, 25, 26, 27, 28, 29, 30, 31, 32, 33, 34, 35, 36, 47, 48] (by decide +kernel) (by decide +kernel)
set_option maxRecDepth 20000 in
theorem gX8_fault_X6_firstFault : GoodIn wsX8_fault (wsV RX8 71 RX6 yX6_firstFault wsX6_firstFault) := goodIn_app (goodIn_of _ (by decide +kernel)) ggX8_fault_X6_firstFault
theorem dX8_fault_0 : decode cX8_fault 0 = .ok (.aload_n 0, 1) := by decide +kernel
theorem dX8_fault_1 : decode cX8_fault 1 = .ok (.getfield 12, 3) := by decide +kernel
theorem dX8_fault_4 : decode cX8_fault 4 = .ok (.invokevirtual 71, 3) := by decide +kernel
theorem dX8_fault_7 : decode cX8_fault 7 = .ok (.ireturn, 1) := by decide +kernel
set_option maxRecDepth 20000 in
theorem ggX8_paper_X6_firstFault : GoodIn wsX8_paper wsX6_firstFault := goodIn_r _ [9, 10, 11, 12, 13, 8, 14, 15, 16, 17, 18, 19, 20, 21, 22, 23, 24, 25, 26, 27, 28, 29, 30, 31, 32, 33, 34, 35, 36, 37, 38, 39, 99, 100] (by decide +kernel) (by decide +kernel)
set_option maxRecDepth 20000 in
theorem gX8_paper_X6_firstFault : GoodIn wsX8_paper (wsV RX8 71 RX6 yX6_firstFault wsX6_firstFault) := goodIn_app (goodIn_of _ (by decide +kernel)) ggX8_paper_X6_firstFault
set_option maxRecDepth 20000 in
theorem ggX8_paper_X6_tellTo : GoodIn wsX8_paper wsX6_tellTo := goodIn_r _ [43, 44, 10, 45, 46, 47, 8, 48, 49, 50, 15, 16, 17, 18, 19, 24, 25, 26, 27, 11, 12, 13, 14, 51, 52, 53, 36, 37, 38, 39, 54, 55, 56, 57, 58, 59, 60, 61, 62, 63, 64, 65, 66, 67, 68, 69, 70, 71, 72, 73, 74, 75, 76, 77, 93, 94, 95, 96, 97, 98, 99, 100] (by decide +kernel) (by decide +kernel)
set_option maxRecDepth 20000 in
theorem gX8_paper_X6_tellTo : GoodIn wsX8_paper (wsV RX8 79 RX6 yX6_tellTo wsX6_tellTo) := goodIn_app (goodIn_of _ (by decide +kernel)) ggX8_paper_X6_tellTo
theorem dX8_paper_0 : decode cX8_paper 0 = .ok (.aload_n 0, 1) := by decide +kernel
theorem dX8_paper_1 : decode cX8_paper 1 = .ok (.getfield 12, 3) := by decide +kernel
theorem dX8_paper_4 : decode cX8_paper 4 = .ok (.invokevirtual 71, 3) := by decide +kernel
theorem dX8_paper_7 : decode cX8_paper 7 = .ok (.bipush (-9), 2) := by decide +kernel
theorem dX8_paper_9 : decode cX8_paper 9 = .ok (.if_icmp .eq 6, 3) := by decide +kernel
theorem dX8_paper_12 : decode cX8_paper 12 = .ok (.bipush (-3), 2) := by decide +kernel
theorem dX8_paper_14 : decode cX8_paper 14 = .ok (.ireturn, 1) := by decide +kernel
theorem dX8_paper_15 : decode cX8_paper 15 = .ok (.aload_n 0, 1) := by decide +kernel
theorem dX8_paper_16 : decode cX8_paper 16 = .ok (.getfield 12, 3) := by decide +kernel
theorem dX8_paper_19 : decode cX8_paper 19 = .ok (.aload_n 0, 1) := by decide +kernel
theorem dX8_paper_20 : decode cX8_paper 20 = .ok (.getfield 19, 3) := by decide +kernel
theorem dX8_paper_23 : decode cX8_paper 23 = .ok (.getfield 75, 3) := by decide +kernel
theorem dX8_paper_26 : decode cX8_paper 26 = .ok (.invokevirtual 79, 3) := by decide +kernel
theorem dX8_paper_29 : decode cX8_paper 29 = .ok (.aload_n 0, 1) := by decide +kernel
theorem dX8_paper_30 : decode cX8_paper 30 = .ok (.getfield 19, 3) := by decide +kernel
theorem dX8_paper_33 : decode cX8_paper 33 = .ok (.getfield 75, 3) := by decide +kernel
theorem dX8_paper_36 : decode cX8_paper 36 = .ok (.getfield 83, 3) := by decide +kernel
theorem dX8_paper_39 : decode cX8_paper 39 = .ok (.ireturn, 1) := by decide +kernel
theorem dX8_year_0 : decode cX8_year 0 = .ok (.iload_n 1, 1) := by decide +kernel
theorem dX8_year_1 : decode cX8_year 1 = .ok (.ifCond .lt 9, 3) := by decide +kernel
theorem dX8_year_4 : decode cX8_year 4 = .ok (.iload_n 1, 1) := by decide +kernel
theorem dX8_year_5 : decode cX8_year 5 = .ok (.bipush 99, 2) := by decide +kernel
theorem dX8_year_7 : decode cX8_year 7 = .ok (.if_icmp .le 6, 3) := by decide +kernel
theorem dX8_year_10 : decode cX8_year 10 = .ok (.bipush (-2), 2) := by decide +kernel
theorem dX8_year_12 : decode cX8_year 12 = .ok (.ireturn, 1) := by decide +kernel
theorem dX8_year_13 : decode cX8_year 13 = .ok (.aload_n 0, 1) := by decide +kernel
theorem dX8_year_14 : decode cX8_year 14 = .ok (.getfield 60, 3) := by decide +kernel
theorem dX8_year_17 : decode cX8_year 17 = .ok (.istore_n 2, 1) := by decide +kernel
theorem dX8_year_18 : decode cX8_year 18 = .ok (.aload_n 0, 1) := by decide +kernel
theorem dX8_year_19 : decode cX8_year 19 = .ok (.iload_n 1, 1) := by decide +kernel
theorem dX8_year_20 : decode cX8_year 20 = .ok (.putfield 60, 3) := by decide +kernel
theorem dX8_year_23 : decode cX8_year 23 = .ok (.iload_n 2, 1) := by decide +kernel
theorem dX8_year_24 : decode cX8_year 24 = .ok (.ireturn, 1) := by decide +kernel
set_option maxRecDepth 20000 in
theorem ggX8_whose_X8_isNight : GoodIn wsX8_whose wsX8_isNight := goodIn_r _ [4] (by decide +kernel) (by decide +kernel)
set_option maxRecDepth 20000 in
theorem gX8_whose_X8_isNight : GoodIn wsX8_whose (va_wsS RX8 88 yX8_isNight wsX8_isNight) := goodIn_app (goodIn_of _ (by decide +kernel)) ggX8_whose_X8_isNight
set_option maxRecDepth 20000 in
theorem ggX8_whose_X8_readPaper : GoodIn wsX8_whose wsX8_readPaper := goodIn_r _ [8, 9, 10, 11, 12, 13, 14, 15, 16, 17, 18, 19, 20, 21, 22, 23, 24, 25, 26, 27, 28, 29, 30, 31, 32, 33, 34, 35, 36, 37, 38, 39, 40, 41, 42, 43, 44, 45, 46, 55, 56, 57, 58, 59, 60, 61, 62, 63, 64, 65, 66, 67, 68, 69, 70, 71, 72, 73, 74, 75, 76, 77, 78] (by decide +kernel) (by decide +kernel)
set_option maxRecDepth 20000 in
theorem gX8_whose_X8_readPaper : GoodIn wsX8_whose (wsV RX8 92 RX8 yX8_readPaper wsX8_readPaper) := goodIn_app (goodIn_of _ (by decide +kernel)) ggX8_whose_X8_readPaper
set_option maxRecDepth 20000 in
theorem ggX8_whose_X4_whoseIs : GoodIn wsX8_whose wsX4_whoseIs := goodIn_r _ [50, 36, 37, 38, 26, 39, 28, 29, 40, 30, 35, 51, 52, 53, 54, 76, 77, 78] (by decide +kernel) (by decide +kernel)
set_option maxRecDepth 20000 in
theorem gX8_whose_X4_whoseIs : GoodIn wsX8_whose (wsV RX8 96 RX4 yX4_whoseIs wsX4_whoseIs) := goodIn_app (goodIn_of _ (by decide +kernel)) ggX8_whose_X4_whoseIs
theorem dX8_whose_0 : decode cX8_whose 0 = .ok (.iload_n 1, 1) := by decide +kernel
theorem dX8_whose_1 : decode cX8_whose 1 = .ok (.invokestatic 88, 3) := by decide +kernel
theorem dX8_whose_4 : decode cX8_whose 4 = .ok (.ifCond .eq 14, 3) := by decide +kernel
theorem dX8_whose_7 : decode cX8_whose 7 = .ok (.aload_n 0, 1) := by decide +kernel
theorem dX8_whose_8 : decode cX8_whose 8 = .ok (.invokevirtual 92, 3) := by decide +kernel
theorem dX8_whose_11 : decode cX8_whose 11 = .ok (.iload_n 1, 1) := by decide +kernel
theorem dX8_whose_12 : decode cX8_whose 12 = .ok (.invokevirtual 96, 3) := by decide +kernel
theorem dX8_whose_15 : decode cX8_whose 15 = .ok (.goto 4, 3) := by decide +kernel
theorem dX8_whose_18 : decode cX8_whose 18 = .ok (.iconst (-1), 1) := by decide +kernel
theorem dX8_whose_19 : decode cX8_whose 19 = .ok (.ireturn, 1) := by decide +kernel
set_option maxRecDepth 20000 in
theorem ggX8_words_X8_isNight : GoodIn wsX8_words wsX8_isNight := goodIn_r _ [6] (by decide +kernel) (by decide +kernel)
set_option maxRecDepth 20000 in
theorem gX8_words_X8_isNight : GoodIn wsX8_words (va_wsS RX8 88 yX8_isNight wsX8_isNight) := goodIn_app (goodIn_of _ (by decide +kernel)) ggX8_words_X8_isNight
set_option maxRecDepth 20000 in
theorem ggX8_words_X2_foremost : GoodIn wsX8_words wsX2_foremost := goodIn_r _ [11, 12, 13, 14, 15, 16, 17, 18, 19, 35, 36, 37, 38, 39, 40] (by decide +kernel) (by decide +kernel)
set_option maxRecDepth 20000 in
theorem gX8_words_X2_foremost : GoodIn wsX8_words (wsV RX8 100 RX2 yX2_foremost wsX2_foremost) := goodIn_app (goodIn_of _ (by decide +kernel)) ggX8_words_X2_foremost
theorem dX8_words_0 : decode cX8_words 0 = .ok (.iload_n 1, 1) := by decide +kernel
theorem dX8_words_1 : decode cX8_words 1 = .ok (.invokestatic 88, 3) := by decide +kernel
theorem dX8_words_4 : decode cX8_words 4 = .ok (.ifCond .eq 17, 3) := by decide +kernel
theorem dX8_words_7 : decode cX8_words 7 = .ok (.aload_n 0, 1) := by decide +kernel
theorem dX8_words_8 : decode cX8_words 8 = .ok (.getfield 19, 3) := by decide +kernel
theorem dX8_words_11 : decode cX8_words 11 = .ok (.getfield 75, 3) := by decide +kernel
theorem dX8_words_14 : decode cX8_words 14 = .ok (.iload_n 1, 1) := by decide +kernel
theorem dX8_words_15 : decode cX8_words 15 = .ok (.invokevirtual 100, 3) := by decide +kernel
theorem dX8_words_18 : decode cX8_words 18 = .ok (.goto 4, 3) := by decide +kernel
theorem dX8_words_21 : decode cX8_words 21 = .ok (.iconst (-1), 1) := by decide +kernel
theorem dX8_words_22 : decode cX8_words 22 = .ok (.ireturn, 1) := by decide +kernel
set_option maxRecDepth 20000 in
theorem ggX8_says_X8_isNight : GoodIn wsX8_says wsX8_isNight := goodIn_r _ [8] (by decide +kernel) (by decide +kernel)
set_option maxRecDepth 20000 in
theorem gX8_says_X8_isNight : GoodIn wsX8_says (va_wsS RX8 88 yX8_isNight wsX8_isNight) := goodIn_app (goodIn_of _ (by decide +kernel)) ggX8_says_X8_isNight
set_option maxRecDepth 20000 in
theorem ggX8_says_X2_tells : GoodIn wsX8_says wsX2_tells := goodIn_r _ [13, 14, 15, 16, 17, 18, 19, 20, 21, 22, 23, 12, 24, 25, 26, 27, 28, 29, 30, 46, 47, 48, 49, 50, 51] (by decide +kernel) (by decide +kernel)
set_option maxRecDepth 20000 in
theorem gX8_says_X2_tells : GoodIn wsX8_says (wsV RX8 103 RX2 yX2_tells wsX2_tells) := goodIn_app (goodIn_of _ (by decide +kernel)) ggX8_says_X2_tells
theorem dX8_says_0 : decode cX8_says 0 = .ok (.iload_n 1, 1) := by decide +kernel
theorem dX8_says_1 : decode cX8_says 1 = .ok (.ifCond .lt 24, 3) := by decide +kernel
theorem dX8_says_4 : decode cX8_says 4 = .ok (.iload_n 1, 1) := by decide +kernel
theorem dX8_says_5 : decode cX8_says 5 = .ok (.aload_n 0, 1) := by decide +kernel
theorem dX8_says_6 : decode cX8_says 6 = .ok (.getfield 19, 3) := by decide +kernel
theorem dX8_says_9 : decode cX8_says 9 = .ok (.getfield 75, 3) := by decide +kernel
theorem dX8_says_12 : decode cX8_says 12 = .ok (.getfield 83, 3) := by decide +kernel
theorem dX8_says_15 : decode cX8_says 15 = .ok (.if_icmp .ge 10, 3) := by decide +kernel
theorem dX8_says_18 : decode cX8_says 18 = .ok (.iload_n 2, 1) := by decide +kernel
theorem dX8_says_19 : decode cX8_says 19 = .ok (.invokestatic 88, 3) := by decide +kernel
theorem dX8_says_22 : decode cX8_says 22 = .ok (.ifCond .ne 5, 3) := by decide +kernel
theorem dX8_says_25 : decode cX8_says 25 = .ok (.iconst (-1), 1) := by decide +kernel
theorem dX8_says_26 : decode cX8_says 26 = .ok (.ireturn, 1) := by decide +kernel
theorem dX8_says_27 : decode cX8_says 27 = .ok (.aload_n 0, 1) := by decide +kernel
theorem dX8_says_28 : decode cX8_says 28 = .ok (.getfield 19, 3) := by decide +kernel
theorem dX8_says_31 : decode cX8_says 31 = .ok (.getfield 75, 3) := by decide +kernel
theorem dX8_says_34 : decode cX8_says 34 = .ok (.iload_n 1, 1) := by decide +kernel
theorem dX8_says_35 : decode cX8_says 35 = .ok (.iload_n 2, 1) := by decide +kernel
theorem dX8_says_36 : decode cX8_says 36 = .ok (.aload_n 0, 1) := by decide +kernel
theorem dX8_says_37 : decode cX8_says 37 = .ok (.getfield 60, 3) := by decide +kernel
theorem dX8_says_40 : decode cX8_says 40 = .ok (.invokevirtual 103, 3) := by decide +kernel
theorem dX8_says_43 : decode cX8_says 43 = .ok (.ireturn, 1) := by decide +kernel
set_option maxRecDepth 20000 in
theorem ggX8_nights_X8_readPaper : GoodIn wsX8_nights wsX8_readPaper := goodIn_r _ [5, 6, 7, 8, 9, 10, 11, 12, 13, 14, 15, 16, 17, 18, 19, 20, 21, 22, 23, 24, 25, 26, 27, 28, 29, 30, 31, 32, 33, 34, 35, 36, 37, 38, 39, 40, 41, 42, 43, 52, 53, 54, 55, 56, 57, 58, 59, 60, 61, 62, 63, 64, 65, 66, 67, 68, 69, 70, 71, 72, 73, 74, 75] (by decide +kernel) (by decide +kernel)
set_option maxRecDepth 20000 in
theorem gX8_nights_X8_readPaper : GoodIn wsX8_nights (wsV RX8 92 RX8 yX8_readPaper wsX8_readPaper) := goodIn_app (goodIn_of _ (by decide +kernel)) ggX8_nights_X8_readPaper
set_option maxRecDepth 20000 in
theorem ggX8_nights_X4_nightsThatAre : GoodIn wsX8_nights wsX4_nightsThatAre := goodIn_r _ [36, 25, 26, 37, 27, 32, 73, 74, 75] (by decide +kernel) (by decide +kernel)
set_option maxRecDepth 20000 in
theorem gX8_nights_X4_nightsThatAre : GoodIn wsX8_nights (wsV RX8 107 RX4 yX4_nightsThatAre wsX4_nightsThatAre) := goodIn_app (goodIn_of _ (by decide +kernel)) ggX8_nights_X4_nightsThatAre
set_option maxRecDepth 20000 in
theorem ggX8_nights_J13_bitCount_95d88 : GoodIn wsX8_nights wsJ13_bitCount_95d88 := goodIn_r _ [48, 49, 50, 51] (by decide +kernel) (by decide +kernel)
set_option maxRecDepth 20000 in
theorem gX8_nights_J13_bitCount_95d88 : GoodIn wsX8_nights (va_wsS RX8 111 yJ13_bitCount_95d88 wsJ13_bitCount_95d88) := goodIn_app (goodIn_of _ (by decide +kernel)) ggX8_nights_J13_bitCount_95d88
theorem dX8_nights_0 : decode cX8_nights 0 = .ok (.iload_n 1, 1) := by decide +kernel
theorem dX8_nights_1 : decode cX8_nights 1 = .ok (.ifCond .lt 8, 3) := by decide +kernel
theorem dX8_nights_4 : decode cX8_nights 4 = .ok (.iload_n 1, 1) := by decide +kernel
theorem dX8_nights_5 : decode cX8_nights 5 = .ok (.iconst 3, 1) := by decide +kernel
theorem dX8_nights_6 : decode cX8_nights 6 = .ok (.if_icmp .le 6, 3) := by decide +kernel
theorem dX8_nights_9 : decode cX8_nights 9 = .ok (.bipush (-2), 2) := by decide +kernel
theorem dX8_nights_11 : decode cX8_nights 11 = .ok (.ireturn, 1) := by decide +kernel
theorem dX8_nights_12 : decode cX8_nights 12 = .ok (.aload_n 0, 1) := by decide +kernel
theorem dX8_nights_13 : decode cX8_nights 13 = .ok (.invokevirtual 92, 3) := by decide +kernel
theorem dX8_nights_16 : decode cX8_nights 16 = .ok (.iload_n 1, 1) := by decide +kernel
theorem dX8_nights_17 : decode cX8_nights 17 = .ok (.invokevirtual 107, 3) := by decide +kernel
theorem dX8_nights_20 : decode cX8_nights 20 = .ok (.invokestatic 111, 3) := by decide +kernel
theorem dX8_nights_23 : decode cX8_nights 23 = .ok (.ireturn, 1) := by decide +kernel
set_option maxRecDepth 20000 in
theorem ggX8_night_X8_readPaper : GoodIn wsX8_night wsX8_readPaper := goodIn_r _ [5, 6, 7, 8, 9, 10, 11, 12, 13, 14, 15, 16, 17, 18, 19, 20, 21, 22, 23, 24, 25, 26, 27, 28, 29, 30, 31, 32, 33, 34, 35, 36, 37, 38, 39, 40, 41, 42, 43, 56, 57, 58, 59, 60, 61, 62, 63, 64, 65, 66, 67, 68, 69, 70, 71, 72, 73, 74, 75, 76, 77, 78, 79] (by decide +kernel) (by decide +kernel)
set_option maxRecDepth 20000 in
theorem gX8_night_X8_readPaper : GoodIn wsX8_night (wsV RX8 92 RX8 yX8_readPaper wsX8_readPaper) := goodIn_app (goodIn_of _ (by decide +kernel)) ggX8_night_X8_readPaper
set_option maxRecDepth 20000 in
theorem ggX8_night_X4_nightsThatAre : GoodIn wsX8_night wsX4_nightsThatAre := goodIn_r _ [36, 25, 26, 37, 27, 32, 77, 78, 79] (by decide +kernel) (by decide +kernel)
set_option maxRecDepth 20000 in
theorem gX8_night_X4_nightsThatAre : GoodIn wsX8_night (wsV RX8 107 RX4 yX4_nightsThatAre wsX4_nightsThatAre) := goodIn_app (goodIn_of _ (by decide +kernel)) ggX8_night_X4_nightsThatAre
set_option maxRecDepth 20000 in
theorem ggX8_night_X1_pick : GoodIn wsX8_night wsX1_pick := goodIn_r _ [48, 49, 50, 51, 52, 53, 54, 55] (by decide +kernel) (by decide +kernel)
set_option maxRecDepth 20000 in
theorem gX8_night_X1_pick : GoodIn wsX8_night (va_wsS RX8 117 yX1_pick wsX1_pick) := goodIn_app (goodIn_of _ (by decide +kernel)) ggX8_night_X1_pick
theorem dX8_night_0 : decode cX8_night 0 = .ok (.iload_n 1, 1) := by decide +kernel
theorem dX8_night_1 : decode cX8_night 1 = .ok (.ifCond .lt 8, 3) := by decide +kernel
theorem dX8_night_4 : decode cX8_night 4 = .ok (.iload_n 1, 1) := by decide +kernel
theorem dX8_night_5 : decode cX8_night 5 = .ok (.iconst 3, 1) := by decide +kernel
theorem dX8_night_6 : decode cX8_night 6 = .ok (.if_icmp .le 6, 3) := by decide +kernel
theorem dX8_night_9 : decode cX8_night 9 = .ok (.bipush (-2), 2) := by decide +kernel
theorem dX8_night_11 : decode cX8_night 11 = .ok (.ireturn, 1) := by decide +kernel
theorem dX8_night_12 : decode cX8_night 12 = .ok (.aload_n 0, 1) := by decide +kernel
theorem dX8_night_13 : decode cX8_night 13 = .ok (.invokevirtual 92, 3) := by decide +kernel
theorem dX8_night_16 : decode cX8_night 16 = .ok (.iload_n 1, 1) := by decide +kernel
theorem dX8_night_17 : decode cX8_night 17 = .ok (.invokevirtual 107, 3) := by decide +kernel
theorem dX8_night_20 : decode cX8_night 20 = .ok (.iload_n 2, 1) := by decide +kernel
theorem dX8_night_21 : decode cX8_night 21 = .ok (.invokestatic 117, 3) := by decide +kernel
theorem dX8_night_24 : decode cX8_night 24 = .ok (.ireturn, 1) := by decide +kernel
set_option maxRecDepth 20000 in
theorem ggX8_mend_X8_readPaper : GoodIn wsX8_mend wsX8_readPaper := goodIn_r _ [11, 2, 3, 12, 4, 13, 14, 15, 16, 17, 18, 19, 20, 21, 22, 23, 24, 25, 26, 27, 28, 29, 30, 31, 32, 33, 34, 35, 36, 37, 38, 39, 40, 41, 42, 43, 44, 45, 46, 75, 76, 77, 78, 79, 80, 81, 82, 83, 84, 85, 86, 87, 88, 89, 92, 93, 94, 95, 96, 97, 98, 99, 100] (by decide +kernel) (by decide +kernel)
set_option maxRecDepth 20000 in
theorem gX8_mend_X8_readPaper : GoodIn wsX8_mend (wsV RX8 92 RX8 yX8_readPaper wsX8_readPaper) := goodIn_app (goodIn_of _ (by decide +kernel)) ggX8_mend_X8_readPaper
set_option maxRecDepth 20000 in
theorem ggX8_mend_X0_find : GoodIn wsX8_mend wsX0_find := goodIn_r _ [51, 52, 53, 54, 55, 56, 57, 58, 59, 60, 61, 62, 63, 14, 15, 16, 17, 18, 19, 20, 21, 22, 23, 24, 25, 26, 27, 28, 29, 30, 31, 32, 33, 34, 35, 36, 37, 38, 39, 40, 41, 42, 43, 44, 45, 46, 64, 65, 66, 67, 68, 69, 70, 71, 72, 73, 74, 90, 91, 92, 93, 94, 95, 96, 97, 98, 99, 100] (by decide +kernel) (by decide +kernel)
set_option maxRecDepth 20000 in
theorem gX8_mend_X0_find : GoodIn wsX8_mend (wsV RX8 123 RX0 yX0_find wsX0_find) := goodIn_app (goodIn_of _ (by decide +kernel)) ggX8_mend_X0_find
theorem dX8_mend_0 : decode cX8_mend 0 = .ok (.aload_n 0, 1) := by decide +kernel
theorem dX8_mend_1 : decode cX8_mend 1 = .ok (.getfield 46, 3) := by decide +kernel
theorem dX8_mend_4 : decode cX8_mend 4 = .ok (.aload_n 0, 1) := by decide +kernel
theorem dX8_mend_5 : decode cX8_mend 5 = .ok (.getfield 19, 3) := by decide +kernel
theorem dX8_mend_8 : decode cX8_mend 8 = .ok (.getfield 75, 3) := by decide +kernel
theorem dX8_mend_11 : decode cX8_mend 11 = .ok (.aload_n 0, 1) := by decide +kernel
theorem dX8_mend_12 : decode cX8_mend 12 = .ok (.getfield 60, 3) := by decide +kernel
theorem dX8_mend_15 : decode cX8_mend 15 = .ok (.aload_n 0, 1) := by decide +kernel
theorem dX8_mend_16 : decode cX8_mend 16 = .ok (.invokevirtual 92, 3) := by decide +kernel
theorem dX8_mend_19 : decode cX8_mend 19 = .ok (.aload_n 0, 1) := by decide +kernel
theorem dX8_mend_20 : decode cX8_mend 20 = .ok (.getfield 57, 3) := by decide +kernel
theorem dX8_mend_23 : decode cX8_mend 23 = .ok (.invokevirtual 123, 3) := by decide +kernel
theorem dX8_mend_26 : decode cX8_mend 26 = .ok (.aload_n 0, 1) := by decide +kernel
theorem dX8_mend_27 : decode cX8_mend 27 = .ok (.getfield 46, 3) := by decide +kernel
theorem dX8_mend_30 : decode cX8_mend 30 = .ok (.getfield 127, 3) := by decide +kernel
theorem dX8_mend_33 : decode cX8_mend 33 = .ok (.ireturn, 1) := by decide +kernel
set_option maxRecDepth 20000 in
theorem ggX8_changes_X8_readPaper : GoodIn wsX8_changes wsX8_readPaper := goodIn_r _ [11, 2, 3, 12, 4, 13, 14, 15, 16, 17, 18, 19, 20, 21, 22, 23, 24, 25, 26, 27, 28, 29, 30, 31, 32, 33, 34, 35, 36, 37, 38, 39, 40, 41, 42, 43, 44, 45, 46, 75, 76, 77, 78, 79, 80, 81, 82, 83, 84, 85, 86, 87, 88, 89, 92, 93, 94, 95, 96, 97, 98, 99, 100] (by decide +kernel) (by decide +kernel)
set_option maxRecDepth 20000 in
theorem gX8_changes_X8_readPaper : GoodIn wsX8_changes (wsV RX8 92 RX8 yX8_readPaper wsX8_readPaper) := goodIn_app (goodIn_of _ (by decide +kernel)) ggX8_changes_X8_readPaper
set_option maxRecDepth 20000 in
theorem ggX8_changes_X0_find : GoodIn wsX8_changes wsX0_find := goodIn_r _ [51, 52, 53, 54, 55, 56, 57, 58, 59, 60, 61, 62, 63, 14, 15, 16, 17, 18, 19, 20, 21, 22, 23, 24, 25, 26, 27, 28, 29, 30, 31, 32, 33, 34, 35, 36, 37, 38, 39, 40, 41, 42, 43, 44, 45, 46, 64, 65, 66, 67, 68, 69, 70, 71, 72, 73, 74, 90, 91, 92, 93, 94, 95, 96, 97, 98, 99, 100] (by decide +kernel) (by decide +kernel)
set_option maxRecDepth 20000 in
theorem gX8_changes_X0_find : GoodIn wsX8_changes (wsV RX8 123 RX0 yX0_find wsX0_find) := goodIn_app (goodIn_of _ (by decide +kernel)) ggX8_changes_X0_find
theorem dX8_changes_0 : decode cX8_changes 0 = .ok (.aload_n 0, 1) := by decide +kernel
theorem dX8_changes_1 : decode cX8_changes 1 = .ok (.getfield 46, 3) := by decide +kernel
theorem dX8_changes_4 : decode cX8_changes 4 = .ok (.aload_n 0, 1) := by decide +kernel
theorem dX8_changes_5 : decode cX8_changes 5 = .ok (.getfield 19, 3) := by decide +kernel
theorem dX8_changes_8 : decode cX8_changes 8 = .ok (.getfield 75, 3) := by decide +kernel
theorem dX8_changes_11 : decode cX8_changes 11 = .ok (.aload_n 0, 1) := by decide +kernel
theorem dX8_changes_12 : decode cX8_changes 12 = .ok (.getfield 60, 3) := by decide +kernel
theorem dX8_changes_15 : decode cX8_changes 15 = .ok (.aload_n 0, 1) := by decide +kernel
theorem dX8_changes_16 : decode cX8_changes 16 = .ok (.invokevirtual 92, 3) := by decide +kernel
theorem dX8_changes_19 : decode cX8_changes 19 = .ok (.aload_n 0, 1) := by decide +kernel
theorem dX8_changes_20 : decode cX8_changes 20 = .ok (.getfield 57, 3) := by decide +kernel
theorem dX8_changes_23 : decode cX8_changes 23 = .ok (.invokevirtual 123, 3) := by decide +kernel
theorem dX8_changes_26 : decode cX8_changes 26 = .ok (.aload_n 0, 1) := by decide +kernel
theorem dX8_changes_27 : decode cX8_changes 27 = .ok (.getfield 46, 3) := by decide +kernel
theorem dX8_changes_30 : decode cX8_changes 30 = .ok (.getfield 130, 3) := by decide +kernel
theorem dX8_changes_33 : decode cX8_changes 33 = .ok (.ireturn, 1) := by decide +kernel
set_option maxRecDepth 20000 in
theorem ggX8_put_X8_isNight : GoodIn wsX8_put wsX8_isNight := goodIn_r _ [6] (by decide +kernel) (by decide +kernel)
set_option maxRecDepth 20000 in
theorem gX8_put_X8_isNight : GoodIn wsX8_put (va_wsS RX8 88 yX8_isNight wsX8_isNight) := goodIn_app (goodIn_of _ (by decide +kernel)) ggX8_put_X8_isNight
set_option maxRecDepth 20000 in
theorem ggX8_put_X8_isHouse : GoodIn wsX8_put wsX8_isHouse := goodIn_r _ [9] (by decide +kernel) (by decide +kernel)
set_option maxRecDepth 20000 in
theorem gX8_put_X8_isHouse : GoodIn wsX8_put (va_wsS RX8 133 yX8_isHouse wsX8_isHouse) := goodIn_app (goodIn_of _ (by decide +kernel)) ggX8_put_X8_isHouse
set_option maxRecDepth 20000 in
theorem ggX8_put_X1_houseAt : GoodIn wsX8_put wsX1_houseAt := goodIn_r _ [13] (by decide +kernel) (by decide +kernel)
set_option maxRecDepth 20000 in
theorem gX8_put_X1_houseAt : GoodIn wsX8_put (va_wsS RX8 140 yX1_houseAt wsX1_houseAt) := goodIn_app (goodIn_of _ (by decide +kernel)) ggX8_put_X1_houseAt
set_option maxRecDepth 20000 in
theorem ggX8_put_X5_place : GoodIn wsX8_put wsX5_place := goodIn_r _ [18, 19, 20, 31, 32, 33, 34, 35] (by decide +kernel) (by decide +kernel)
set_option maxRecDepth 20000 in
theorem gX8_put_X5_place : GoodIn wsX8_put (wsV RX8 143 RX5 yX5_place wsX5_place) := goodIn_app (goodIn_of _ (by decide +kernel)) ggX8_put_X5_place
theorem dX8_put_0 : decode cX8_put 0 = .ok (.iload_n 1, 1) := by decide +kernel
theorem dX8_put_1 : decode cX8_put 1 = .ok (.invokestatic 88, 3) := by decide +kernel
theorem dX8_put_4 : decode cX8_put 4 = .ok (.ifCond .eq 10, 3) := by decide +kernel
theorem dX8_put_7 : decode cX8_put 7 = .ok (.iload_n 2, 1) := by decide +kernel
theorem dX8_put_8 : decode cX8_put 8 = .ok (.invokestatic 133, 3) := by decide +kernel
theorem dX8_put_11 : decode cX8_put 11 = .ok (.ifCond .ne 5, 3) := by decide +kernel
theorem dX8_put_14 : decode cX8_put 14 = .ok (.iconst (-1), 1) := by decide +kernel
theorem dX8_put_15 : decode cX8_put 15 = .ok (.ireturn, 1) := by decide +kernel
theorem dX8_put_16 : decode cX8_put 16 = .ok (.aload_n 0, 1) := by decide +kernel
theorem dX8_put_17 : decode cX8_put 17 = .ok (.getfield 19, 3) := by decide +kernel
theorem dX8_put_20 : decode cX8_put 20 = .ok (.getfield 136, 3) := by decide +kernel
theorem dX8_put_23 : decode cX8_put 23 = .ok (.iload_n 1, 1) := by decide +kernel
theorem dX8_put_24 : decode cX8_put 24 = .ok (.invokestatic 140, 3) := by decide +kernel
theorem dX8_put_27 : decode cX8_put 27 = .ok (.istore_n 3, 1) := by decide +kernel
theorem dX8_put_28 : decode cX8_put 28 = .ok (.aload_n 0, 1) := by decide +kernel
theorem dX8_put_29 : decode cX8_put 29 = .ok (.getfield 19, 3) := by decide +kernel
theorem dX8_put_32 : decode cX8_put 32 = .ok (.iload_n 1, 1) := by decide +kernel
theorem dX8_put_33 : decode cX8_put 33 = .ok (.iload_n 2, 1) := by decide +kernel
theorem dX8_put_34 : decode cX8_put 34 = .ok (.invokevirtual 143, 3) := by decide +kernel
theorem dX8_put_37 : decode cX8_put 37 = .ok (.iload_n 3, 1) := by decide +kernel
theorem dX8_put_38 : decode cX8_put 38 = .ok (.ireturn, 1) := by decide +kernel
set_option maxRecDepth 20000 in
theorem ggX8_at_X8_isNight : GoodIn wsX8_at wsX8_isNight := goodIn_r _ [6] (by decide +kernel) (by decide +kernel)
set_option maxRecDepth 20000 in
theorem gX8_at_X8_isNight : GoodIn wsX8_at (va_wsS RX8 88 yX8_isNight wsX8_isNight) := goodIn_app (goodIn_of _ (by decide +kernel)) ggX8_at_X8_isNight
set_option maxRecDepth 20000 in
theorem ggX8_at_X1_houseAt : GoodIn wsX8_at wsX1_houseAt := goodIn_r _ [10] (by decide +kernel) (by decide +kernel)
set_option maxRecDepth 20000 in
theorem gX8_at_X1_houseAt : GoodIn wsX8_at (va_wsS RX8 140 yX1_houseAt wsX1_houseAt) := goodIn_app (goodIn_of _ (by decide +kernel)) ggX8_at_X1_houseAt
theorem dX8_at_0 : decode cX8_at 0 = .ok (.iload_n 1, 1) := by decide +kernel
theorem dX8_at_1 : decode cX8_at 1 = .ok (.invokestatic 88, 3) := by decide +kernel
theorem dX8_at_4 : decode cX8_at 4 = .ok (.ifCond .eq 17, 3) := by decide +kernel
theorem dX8_at_7 : decode cX8_at 7 = .ok (.aload_n 0, 1) := by decide +kernel
theorem dX8_at_8 : decode cX8_at 8 = .ok (.getfield 19, 3) := by decide +kernel
theorem dX8_at_11 : decode cX8_at 11 = .ok (.getfield 136, 3) := by decide +kernel
theorem dX8_at_14 : decode cX8_at 14 = .ok (.iload_n 1, 1) := by decide +kernel
theorem dX8_at_15 : decode cX8_at 15 = .ok (.invokestatic 140, 3) := by decide +kernel
theorem dX8_at_18 : decode cX8_at 18 = .ok (.goto 4, 3) := by decide +kernel
theorem dX8_at_21 : decode cX8_at 21 = .ok (.iconst (-1), 1) := by decide +kernel
theorem dX8_at_22 : decode cX8_at 22 = .ok (.ireturn, 1) := by decide +kernel
set_option maxRecDepth 20000 in
theorem ggX8_judge_X8_notAsDecided : GoodIn wsX8_judge wsX8_notAsDecided := goodIn_r _ [5, 6, 7, 8, 9, 10, 11, 12, 13, 4, 14, 15, 16, 17, 18, 19, 20, 21, 22, 23, 24, 25, 26, 27, 28, 29, 30, 31, 32, 33, 34, 35, 36, 37, 38, 39, 40, 41, 42, 43, 44, 45, 46, 47, 48, 49, 50, 51, 63, 64, 65, 66, 67, 68, 69, 70, 71, 72, 73, 74, 75, 76, 77, 78, 79, 80, 81, 82, 83, 84, 85, 86] (by decide +kernel) (by decide +kernel)
set_option maxRecDepth 20000 in
theorem gX8_judge_X8_notAsDecided : GoodIn wsX8_judge (wsV RX8 147 RX8 yX8_notAsDecided wsX8_notAsDecided) := goodIn_app (goodIn_of _ (by decide +kernel)) ggX8_judge_X8_notAsDecided
set_option maxRecDepth 20000 in
theorem ggX8_judge_X1_pick : GoodIn wsX8_judge wsX1_pick := goodIn_r _ [55, 56, 57, 58, 59, 60, 61, 62] (by decide +kernel) (by decide +kernel)
set_option maxRecDepth 20000 in
theorem gX8_judge_X1_pick : GoodIn wsX8_judge (va_wsS RX8 117 yX1_pick wsX1_pick) := goodIn_app (goodIn_of _ (by decide +kernel)) ggX8_judge_X1_pick
theorem dX8_judge_0 : decode cX8_judge 0 = .ok (.aload_n 0, 1) := by decide +kernel
theorem dX8_judge_1 : decode cX8_judge 1 = .ok (.invokevirtual 147, 3) := by decide +kernel
theorem dX8_judge_4 : decode cX8_judge 4 = .ok (.iconst 0, 1) := by decide +kernel
theorem dX8_judge_5 : decode cX8_judge 5 = .ok (.invokestatic 117, 3) := by decide +kernel
theorem dX8_judge_8 : decode cX8_judge 8 = .ok (.ireturn, 1) := by decide +kernel
set_option maxRecDepth 20000 in
theorem ggX8_counts_X1_atHouse : GoodIn wsX8_counts wsX1_atHouse := goodIn_r _ [6, 7, 8] (by decide +kernel) (by decide +kernel)
set_option maxRecDepth 20000 in
theorem gX8_counts_X1_atHouse : GoodIn wsX8_counts (va_wsS RX8 151 yX1_atHouse wsX1_atHouse) := goodIn_app (goodIn_of _ (by decide +kernel)) ggX8_counts_X1_atHouse
set_option maxRecDepth 20000 in
theorem ggX8_counts_J13_bitCount_95d88 : GoodIn wsX8_counts wsJ13_bitCount_95d88 := goodIn_r _ [12, 13, 14, 15] (by decide +kernel) (by decide +kernel)
set_option maxRecDepth 20000 in
theorem gX8_counts_J13_bitCount_95d88 : GoodIn wsX8_counts (va_wsS RX8 111 yJ13_bitCount_95d88 wsJ13_bitCount_95d88) := goodIn_app (goodIn_of _ (by decide +kernel)) ggX8_counts_J13_bitCount_95d88
set_option maxRecDepth 20000 in
theorem ggX8_counts_X1_handings : GoodIn wsX8_counts wsX1_handings := goodIn_r _ [18, 7, 19] (by decide +kernel) (by decide +kernel)
set_option maxRecDepth 20000 in
theorem gX8_counts_X1_handings : GoodIn wsX8_counts (va_wsS RX8 155 yX1_handings wsX1_handings) := goodIn_app (goodIn_of _ (by decide +kernel)) ggX8_counts_X1_handings
set_option maxRecDepth 20000 in
theorem ggX8_counts_X1_longestRow : GoodIn wsX8_counts wsX1_longestRow := goodIn_r _ [22] (by decide +kernel) (by decide +kernel)
set_option maxRecDepth 20000 in
theorem gX8_counts_X1_longestRow : GoodIn wsX8_counts (va_wsS RX8 159 yX1_longestRow wsX1_longestRow) := goodIn_app (goodIn_of _ (by decide +kernel)) ggX8_counts_X1_longestRow
theorem dX8_counts_0 : decode cX8_counts 0 = .ok (.iload_n 1, 1) := by decide +kernel
theorem dX8_counts_1 : decode cX8_counts 1 = .ok (.tableswitch 109 0 4 #[35, 50, 65, 79, 94], 35) := by decide +kernel
theorem dX8_counts_36 : decode cX8_counts 36 = .ok (.aload_n 0, 1) := by decide +kernel
theorem dX8_counts_37 : decode cX8_counts 37 = .ok (.getfield 19, 3) := by decide +kernel
theorem dX8_counts_40 : decode cX8_counts 40 = .ok (.getfield 136, 3) := by decide +kernel
theorem dX8_counts_43 : decode cX8_counts 43 = .ok (.iconst 0, 1) := by decide +kernel
theorem dX8_counts_44 : decode cX8_counts 44 = .ok (.invokestatic 151, 3) := by decide +kernel
theorem dX8_counts_47 : decode cX8_counts 47 = .ok (.invokestatic 111, 3) := by decide +kernel
theorem dX8_counts_50 : decode cX8_counts 50 = .ok (.ireturn, 1) := by decide +kernel
theorem dX8_counts_51 : decode cX8_counts 51 = .ok (.aload_n 0, 1) := by decide +kernel
theorem dX8_counts_52 : decode cX8_counts 52 = .ok (.getfield 19, 3) := by decide +kernel
theorem dX8_counts_55 : decode cX8_counts 55 = .ok (.getfield 136, 3) := by decide +kernel
theorem dX8_counts_58 : decode cX8_counts 58 = .ok (.iconst 1, 1) := by decide +kernel
theorem dX8_counts_59 : decode cX8_counts 59 = .ok (.invokestatic 151, 3) := by decide +kernel
theorem dX8_counts_62 : decode cX8_counts 62 = .ok (.invokestatic 111, 3) := by decide +kernel
theorem dX8_counts_65 : decode cX8_counts 65 = .ok (.ireturn, 1) := by decide +kernel
theorem dX8_counts_66 : decode cX8_counts 66 = .ok (.aload_n 0, 1) := by decide +kernel
theorem dX8_counts_67 : decode cX8_counts 67 = .ok (.getfield 19, 3) := by decide +kernel
theorem dX8_counts_70 : decode cX8_counts 70 = .ok (.getfield 136, 3) := by decide +kernel
theorem dX8_counts_73 : decode cX8_counts 73 = .ok (.invokestatic 155, 3) := by decide +kernel
theorem dX8_counts_76 : decode cX8_counts 76 = .ok (.invokestatic 111, 3) := by decide +kernel
theorem dX8_counts_79 : decode cX8_counts 79 = .ok (.ireturn, 1) := by decide +kernel
theorem dX8_counts_80 : decode cX8_counts 80 = .ok (.aload_n 0, 1) := by decide +kernel
theorem dX8_counts_81 : decode cX8_counts 81 = .ok (.getfield 19, 3) := by decide +kernel
theorem dX8_counts_84 : decode cX8_counts 84 = .ok (.getfield 136, 3) := by decide +kernel
theorem dX8_counts_87 : decode cX8_counts 87 = .ok (.iconst 0, 1) := by decide +kernel
theorem dX8_counts_88 : decode cX8_counts 88 = .ok (.invokestatic 151, 3) := by decide +kernel
theorem dX8_counts_91 : decode cX8_counts 91 = .ok (.invokestatic 159, 3) := by decide +kernel
theorem dX8_counts_94 : decode cX8_counts 94 = .ok (.ireturn, 1) := by decide +kernel
theorem dX8_counts_95 : decode cX8_counts 95 = .ok (.aload_n 0, 1) := by decide +kernel
theorem dX8_counts_96 : decode cX8_counts 96 = .ok (.getfield 19, 3) := by decide +kernel
theorem dX8_counts_99 : decode cX8_counts 99 = .ok (.getfield 136, 3) := by decide +kernel
theorem dX8_counts_102 : decode cX8_counts 102 = .ok (.iconst 1, 1) := by decide +kernel
theorem dX8_counts_103 : decode cX8_counts 103 = .ok (.invokestatic 151, 3) := by decide +kernel
theorem dX8_counts_106 : decode cX8_counts 106 = .ok (.invokestatic 159, 3) := by decide +kernel
theorem dX8_counts_109 : decode cX8_counts 109 = .ok (.ireturn, 1) := by decide +kernel
theorem dX8_counts_110 : decode cX8_counts 110 = .ok (.bipush (-2), 2) := by decide +kernel
theorem dX8_counts_112 : decode cX8_counts 112 = .ok (.ireturn, 1) := by decide +kernel
theorem dX8_wish_0 : decode cX8_wish 0 = .ok (.iload_n 1, 1) := by decide +kernel
theorem dX8_wish_1 : decode cX8_wish 1 = .ok (.iconst 1, 1) := by decide +kernel
theorem dX8_wish_2 : decode cX8_wish 2 = .ok (.if_icmp .lt 29, 3) := by decide +kernel
theorem dX8_wish_5 : decode cX8_wish 5 = .ok (.iload_n 1, 1) := by decide +kernel
theorem dX8_wish_6 : decode cX8_wish 6 = .ok (.bipush 14, 2) := by decide +kernel
theorem dX8_wish_8 : decode cX8_wish 8 = .ok (.if_icmp .gt 23, 3) := by decide +kernel
theorem dX8_wish_11 : decode cX8_wish 11 = .ok (.iload_n 2, 1) := by decide +kernel
theorem dX8_wish_12 : decode cX8_wish 12 = .ok (.ifCond .lt 19, 3) := by decide +kernel
theorem dX8_wish_15 : decode cX8_wish 15 = .ok (.iload_n 2, 1) := by decide +kernel
theorem dX8_wish_16 : decode cX8_wish 16 = .ok (.bipush 9, 2) := by decide +kernel
theorem dX8_wish_18 : decode cX8_wish 18 = .ok (.if_icmp .gt 13, 3) := by decide +kernel
theorem dX8_wish_21 : decode cX8_wish 21 = .ok (.iload_n 3, 1) := by decide +kernel
theorem dX8_wish_22 : decode cX8_wish 22 = .ok (.ifCond .lt 9, 3) := by decide +kernel
theorem dX8_wish_25 : decode cX8_wish 25 = .ok (.iload_n 3, 1) := by decide +kernel
theorem dX8_wish_26 : decode cX8_wish 26 = .ok (.bipush 9, 2) := by decide +kernel
theorem dX8_wish_28 : decode cX8_wish 28 = .ok (.if_icmp .le 6, 3) := by decide +kernel
theorem dX8_wish_31 : decode cX8_wish 31 = .ok (.bipush (-2), 2) := by decide +kernel
theorem dX8_wish_33 : decode cX8_wish 33 = .ok (.ireturn, 1) := by decide +kernel
theorem dX8_wish_34 : decode cX8_wish 34 = .ok (.sipush 1000, 3) := by decide +kernel
theorem dX8_wish_37 : decode cX8_wish 37 = .ok (.aload_n 0, 1) := by decide +kernel
theorem dX8_wish_38 : decode cX8_wish 38 = .ok (.getfield 32, 3) := by decide +kernel
theorem dX8_wish_41 : decode cX8_wish 41 = .ok (.getfield 162, 3) := by decide +kernel
theorem dX8_wish_44 : decode cX8_wish 44 = .ok (.imul, 1) := by decide +kernel
theorem dX8_wish_45 : decode cX8_wish 45 = .ok (.bipush 10, 2) := by decide +kernel
theorem dX8_wish_47 : decode cX8_wish 47 = .ok (.aload_n 0, 1) := by decide +kernel
theorem dX8_wish_48 : decode cX8_wish 48 = .ok (.getfield 32, 3) := by decide +kernel
theorem dX8_wish_51 : decode cX8_wish 51 = .ok (.getfield 165, 3) := by decide +kernel
theorem dX8_wish_54 : decode cX8_wish 54 = .ok (.imul, 1) := by decide +kernel
theorem dX8_wish_55 : decode cX8_wish 55 = .ok (.iadd, 1) := by decide +kernel
theorem dX8_wish_56 : decode cX8_wish 56 = .ok (.aload_n 0, 1) := by decide +kernel
theorem dX8_wish_57 : decode cX8_wish 57 = .ok (.getfield 32, 3) := by decide +kernel
theorem dX8_wish_60 : decode cX8_wish 60 = .ok (.getfield 168, 3) := by decide +kernel
theorem dX8_wish_63 : decode cX8_wish 63 = .ok (.iadd, 1) := by decide +kernel
theorem dX8_wish_64 : decode cX8_wish 64 = .ok (.istore 4, 2) := by decide +kernel
theorem dX8_wish_66 : decode cX8_wish 66 = .ok (.aload_n 0, 1) := by decide +kernel
theorem dX8_wish_67 : decode cX8_wish 67 = .ok (.getfield 32, 3) := by decide +kernel
theorem dX8_wish_70 : decode cX8_wish 70 = .ok (.iload_n 1, 1) := by decide +kernel
theorem dX8_wish_71 : decode cX8_wish 71 = .ok (.putfield 162, 3) := by decide +kernel
theorem dX8_wish_74 : decode cX8_wish 74 = .ok (.aload_n 0, 1) := by decide +kernel
theorem dX8_wish_75 : decode cX8_wish 75 = .ok (.getfield 32, 3) := by decide +kernel
theorem dX8_wish_78 : decode cX8_wish 78 = .ok (.iload_n 2, 1) := by decide +kernel
theorem dX8_wish_79 : decode cX8_wish 79 = .ok (.putfield 165, 3) := by decide +kernel
theorem dX8_wish_82 : decode cX8_wish 82 = .ok (.aload_n 0, 1) := by decide +kernel
theorem dX8_wish_83 : decode cX8_wish 83 = .ok (.getfield 32, 3) := by decide +kernel
theorem dX8_wish_86 : decode cX8_wish 86 = .ok (.iload_n 3, 1) := by decide +kernel
theorem dX8_wish_87 : decode cX8_wish 87 = .ok (.putfield 168, 3) := by decide +kernel
theorem dX8_wish_90 : decode cX8_wish 90 = .ok (.iload 4, 2) := by decide +kernel
theorem dX8_wish_92 : decode cX8_wish 92 = .ok (.ireturn, 1) := by decide +kernel
set_option maxRecDepth 20000 in
theorem ggX8_want_X8_isNight : GoodIn wsX8_want wsX8_isNight := goodIn_r _ [6] (by decide +kernel) (by decide +kernel)
set_option maxRecDepth 20000 in
theorem gX8_want_X8_isNight : GoodIn wsX8_want (va_wsS RX8 88 yX8_isNight wsX8_isNight) := goodIn_app (goodIn_of _ (by decide +kernel)) ggX8_want_X8_isNight
set_option maxRecDepth 20000 in
theorem ggX8_want_X8_isHouse : GoodIn wsX8_want wsX8_isHouse := goodIn_r _ [9] (by decide +kernel) (by decide +kernel)
set_option maxRecDepth 20000 in
theorem gX8_want_X8_isHouse : GoodIn wsX8_want (va_wsS RX8 133 yX8_isHouse wsX8_isHouse) := goodIn_app (goodIn_of _ (by decide +kernel)) ggX8_want_X8_isHouse
set_option maxRecDepth 20000 in
theorem ggX8_want_X7_addWant : GoodIn wsX8_want wsX7_addWant := goodIn_r _ [14, 15, 16, 27, 28, 29, 30, 31] (by decide +kernel) (by decide +kernel)
set_option maxRecDepth 20000 in
theorem gX8_want_X7_addWant : GoodIn wsX8_want (wsV RX8 174 RX7 yX7_addWant wsX7_addWant) := goodIn_app (goodIn_of _ (by decide +kernel)) ggX8_want_X7_addWant
theorem dX8_want_0 : decode cX8_want 0 = .ok (.iload_n 1, 1) := by decide +kernel
theorem dX8_want_1 : decode cX8_want 1 = .ok (.invokestatic 88, 3) := by decide +kernel
theorem dX8_want_4 : decode cX8_want 4 = .ok (.ifCond .eq 10, 3) := by decide +kernel
theorem dX8_want_7 : decode cX8_want 7 = .ok (.iload_n 2, 1) := by decide +kernel
theorem dX8_want_8 : decode cX8_want 8 = .ok (.invokestatic 133, 3) := by decide +kernel
theorem dX8_want_11 : decode cX8_want 11 = .ok (.ifCond .ne 5, 3) := by decide +kernel
theorem dX8_want_14 : decode cX8_want 14 = .ok (.iconst (-1), 1) := by decide +kernel
theorem dX8_want_15 : decode cX8_want 15 = .ok (.ireturn, 1) := by decide +kernel
theorem dX8_want_16 : decode cX8_want 16 = .ok (.iload_n 3, 1) := by decide +kernel
theorem dX8_want_17 : decode cX8_want 17 = .ok (.iconst 1, 1) := by decide +kernel
theorem dX8_want_18 : decode cX8_want 18 = .ok (.if_icmp .lt 9, 3) := by decide +kernel
theorem dX8_want_21 : decode cX8_want 21 = .ok (.iload_n 3, 1) := by decide +kernel
theorem dX8_want_22 : decode cX8_want 22 = .ok (.bipush 9, 2) := by decide +kernel
theorem dX8_want_24 : decode cX8_want 24 = .ok (.if_icmp .le 6, 3) := by decide +kernel
theorem dX8_want_27 : decode cX8_want 27 = .ok (.bipush (-2), 2) := by decide +kernel
theorem dX8_want_29 : decode cX8_want 29 = .ok (.ireturn, 1) := by decide +kernel
theorem dX8_want_30 : decode cX8_want 30 = .ok (.aload_n 0, 1) := by decide +kernel
theorem dX8_want_31 : decode cX8_want 31 = .ok (.getfield 32, 3) := by decide +kernel
theorem dX8_want_34 : decode cX8_want 34 = .ok (.getfield 171, 3) := by decide +kernel
theorem dX8_want_37 : decode cX8_want 37 = .ok (.bipush 12, 2) := by decide +kernel
theorem dX8_want_39 : decode cX8_want 39 = .ok (.if_icmp .lt 6, 3) := by decide +kernel
theorem dX8_want_42 : decode cX8_want 42 = .ok (.bipush (-4), 2) := by decide +kernel
theorem dX8_want_44 : decode cX8_want 44 = .ok (.ireturn, 1) := by decide +kernel
theorem dX8_want_45 : decode cX8_want 45 = .ok (.aload_n 0, 1) := by decide +kernel
theorem dX8_want_46 : decode cX8_want 46 = .ok (.getfield 32, 3) := by decide +kernel
theorem dX8_want_49 : decode cX8_want 49 = .ok (.iload_n 1, 1) := by decide +kernel
theorem dX8_want_50 : decode cX8_want 50 = .ok (.iload_n 2, 1) := by decide +kernel
theorem dX8_want_51 : decode cX8_want 51 = .ok (.iload_n 3, 1) := by decide +kernel
theorem dX8_want_52 : decode cX8_want 52 = .ok (.invokevirtual 174, 3) := by decide +kernel
theorem dX8_want_55 : decode cX8_want 55 = .ok (.ireturn, 1) := by decide +kernel
set_option maxRecDepth 20000 in
theorem ggX8_unwant_X7_dropWants : GoodIn wsX8_unwant wsX7_dropWants := goodIn_r _ [7, 8, 9, 20, 21, 22, 23, 24] (by decide +kernel) (by decide +kernel)
set_option maxRecDepth 20000 in
theorem gX8_unwant_X7_dropWants : GoodIn wsX8_unwant (wsV RX8 177 RX7 yX7_dropWants wsX7_dropWants) := goodIn_app (goodIn_of _ (by decide +kernel)) ggX8_unwant_X7_dropWants
theorem dX8_unwant_0 : decode cX8_unwant 0 = .ok (.aload_n 0, 1) := by decide +kernel
theorem dX8_unwant_1 : decode cX8_unwant 1 = .ok (.getfield 32, 3) := by decide +kernel
theorem dX8_unwant_4 : decode cX8_unwant 4 = .ok (.getfield 171, 3) := by decide +kernel
theorem dX8_unwant_7 : decode cX8_unwant 7 = .ok (.istore_n 1, 1) := by decide +kernel
theorem dX8_unwant_8 : decode cX8_unwant 8 = .ok (.aload_n 0, 1) := by decide +kernel
theorem dX8_unwant_9 : decode cX8_unwant 9 = .ok (.getfield 32, 3) := by decide +kernel
theorem dX8_unwant_12 : decode cX8_unwant 12 = .ok (.invokevirtual 177, 3) := by decide +kernel
theorem dX8_unwant_15 : decode cX8_unwant 15 = .ok (.iload_n 1, 1) := by decide +kernel
theorem dX8_unwant_16 : decode cX8_unwant 16 = .ok (.ireturn, 1) := by decide +kernel
set_option maxRecDepth 20000 in
theorem ggX8_cost_X7_costOf : GoodIn wsX8_cost wsX7_costOf := goodIn_r _ [8, 9, 10, 11, 12, 13, 14, 15, 16, 17, 18, 19, 20, 21, 22, 23, 24, 25, 26, 27, 28, 29, 30, 31, 32, 33, 34, 35, 36, 37, 7, 38, 39, 55, 56, 57, 58, 59] (by decide +kernel) (by decide +kernel)
set_option maxRecDepth 20000 in
theorem gX8_cost_X7_costOf : GoodIn wsX8_cost (wsV RX8 180 RX7 yX7_costOf wsX7_costOf) := goodIn_app (goodIn_of _ (by decide +kernel)) ggX8_cost_X7_costOf
theorem dX8_cost_0 : decode cX8_cost 0 = .ok (.aload_n 0, 1) := by decide +kernel
theorem dX8_cost_1 : decode cX8_cost 1 = .ok (.getfield 32, 3) := by decide +kernel
theorem dX8_cost_4 : decode cX8_cost 4 = .ok (.aload_n 0, 1) := by decide +kernel
theorem dX8_cost_5 : decode cX8_cost 5 = .ok (.getfield 19, 3) := by decide +kernel
theorem dX8_cost_8 : decode cX8_cost 8 = .ok (.getfield 136, 3) := by decide +kernel
theorem dX8_cost_11 : decode cX8_cost 11 = .ok (.invokevirtual 180, 3) := by decide +kernel
theorem dX8_cost_14 : decode cX8_cost 14 = .ok (.ireturn, 1) := by decide +kernel
set_option maxRecDepth 20000 in
theorem ggX8_best_X8_findBest : GoodIn wsX8_best wsX8_findBest := goodIn_r _ [7, 1, 8, 9, 10, 11, 12, 13, 6, 14, 15, 16, 17, 18, 19, 20, 21, 22, 23, 24, 25, 26, 27, 28, 29, 30, 31, 32, 33, 34, 35, 36, 37, 38, 39, 40, 41, 42, 43, 44, 45, 46, 47, 48, 49, 50, 51, 52, 53, 54, 55, 56, 57, 58, 59, 60, 61, 62, 63, 64, 65, 66, 67, 68, 69, 70, 71, 72, 73, 74, 75, 76, 77, 78, 79, 80, 81, 82, 83, 84, 85, 86, 87, 88, 89, 90, 91, 92, 93, 94, 95, 96, 97, 98, 99, 100, 101, 102, 107, 108, 109, 110, 111, 112, 113, 114, 115, 116, 117, 118, 119, 120, 103, 104, 105, 106, 121, 122, 123, 124, 125] (by decide +kernel) (by decide +kernel)
set_option maxRecDepth 20000 in
theorem gX8_best_X8_findBest : GoodIn wsX8_best (wsV RX8 183 RX8 yX8_findBest wsX8_findBest) := goodIn_app (goodIn_of _ (by decide +kernel)) ggX8_best_X8_findBest
theorem dX8_best_0 : decode cX8_best 0 = .ok (.aload_n 0, 1) := by decide +kernel
theorem dX8_best_1 : decode cX8_best 1 = .ok (.invokevirtual 183, 3) := by decide +kernel
theorem dX8_best_4 : decode cX8_best 4 = .ok (.aload_n 0, 1) := by decide +kernel
theorem dX8_best_5 : decode cX8_best 5 = .ok (.getfield 39, 3) := by decide +kernel
theorem dX8_best_8 : decode cX8_best 8 = .ok (.getfield 186, 3) := by decide +kernel
theorem dX8_best_11 : decode cX8_best 11 = .ok (.ireturn, 1) := by decide +kernel
set_option maxRecDepth 20000 in
theorem ggX8_bestAt_X8_isNight : GoodIn wsX8_bestAt wsX8_isNight := goodIn_r _ [6] (by decide +kernel) (by decide +kernel)
set_option maxRecDepth 20000 in
theorem gX8_bestAt_X8_isNight : GoodIn wsX8_bestAt (va_wsS RX8 88 yX8_isNight wsX8_isNight) := goodIn_app (goodIn_of _ (by decide +kernel)) ggX8_bestAt_X8_isNight
set_option maxRecDepth 20000 in
theorem ggX8_bestAt_X8_findBest : GoodIn wsX8_bestAt wsX8_findBest := goodIn_r _ [10, 1, 11, 12, 13, 14, 15, 16, 5, 17, 18, 19, 20, 21, 22, 23, 24, 25, 26, 27, 28, 29, 30, 31, 32, 33, 34, 35, 36, 37, 38, 39, 40, 41, 42, 43, 44, 45, 46, 47, 48, 49, 50, 51, 52, 53, 54, 55, 56, 57, 58, 59, 60, 61, 62, 63, 64, 65, 66, 67, 68, 69, 70, 71, 72, 73, 74, 75, 76, 77, 78, 79, 80, 81, 82, 83, 84, 85, 86, 87, 88, 89, 90, 91, 92, 93, 94, 95, 99, 100, 101, 102, 103, 104, 105, 106, 107, 108, 113, 114, 115, 116, 117, 118, 119, 120, 121, 122, 123, 124, 125, 126, 109, 110, 111, 112, 127, 128, 129, 130, 131] (by decide +kernel) (by decide +kernel)
set_option maxRecDepth 20000 in
theorem gX8_bestAt_X8_findBest : GoodIn wsX8_bestAt (wsV RX8 183 RX8 yX8_findBest wsX8_findBest) := goodIn_app (goodIn_of _ (by decide +kernel)) ggX8_bestAt_X8_findBest
set_option maxRecDepth 20000 in
theorem ggX8_bestAt_X1_houseAt : GoodIn wsX8_bestAt wsX1_houseAt := goodIn_r _ [98] (by decide +kernel) (by decide +kernel)
set_option maxRecDepth 20000 in
theorem gX8_bestAt_X1_houseAt : GoodIn wsX8_bestAt (va_wsS RX8 140 yX1_houseAt wsX1_houseAt) := goodIn_app (goodIn_of _ (by decide +kernel)) ggX8_bestAt_X1_houseAt
theorem dX8_bestAt_0 : decode cX8_bestAt 0 = .ok (.iload_n 1, 1) := by decide +kernel
theorem dX8_bestAt_1 : decode cX8_bestAt 1 = .ok (.invokestatic 88, 3) := by decide +kernel
theorem dX8_bestAt_4 : decode cX8_bestAt 4 = .ok (.ifCond .ne 5, 3) := by decide +kernel
theorem dX8_bestAt_7 : decode cX8_bestAt 7 = .ok (.iconst (-1), 1) := by decide +kernel
theorem dX8_bestAt_8 : decode cX8_bestAt 8 = .ok (.ireturn, 1) := by decide +kernel
theorem dX8_bestAt_9 : decode cX8_bestAt 9 = .ok (.aload_n 0, 1) := by decide +kernel
theorem dX8_bestAt_10 : decode cX8_bestAt 10 = .ok (.invokevirtual 183, 3) := by decide +kernel
theorem dX8_bestAt_13 : decode cX8_bestAt 13 = .ok (.aload_n 0, 1) := by decide +kernel
theorem dX8_bestAt_14 : decode cX8_bestAt 14 = .ok (.getfield 39, 3) := by decide +kernel
theorem dX8_bestAt_17 : decode cX8_bestAt 17 = .ok (.getfield 189, 3) := by decide +kernel
theorem dX8_bestAt_20 : decode cX8_bestAt 20 = .ok (.iload_n 1, 1) := by decide +kernel
theorem dX8_bestAt_21 : decode cX8_bestAt 21 = .ok (.invokestatic 140, 3) := by decide +kernel
theorem dX8_bestAt_24 : decode cX8_bestAt 24 = .ok (.ireturn, 1) := by decide +kernel
set_option maxRecDepth 20000 in
theorem ggX8_take_X8_findBest : GoodIn wsX8_take wsX8_findBest := goodIn_r _ [9, 3, 10, 11, 12, 13, 14, 15, 8, 16, 1, 17, 18, 19, 20, 21, 22, 23, 24, 25, 26, 27, 28, 29, 30, 31, 32, 33, 34, 35, 36, 37, 38, 39, 40, 41, 42, 43, 44, 45, 46, 47, 48, 49, 50, 51, 52, 53, 54, 55, 56, 57, 58, 59, 60, 61, 62, 63, 64, 65, 66, 67, 68, 69, 70, 71, 72, 73, 74, 75, 76, 77, 78, 79, 80, 81, 82, 83, 84, 85, 86, 87, 88, 89, 90, 91, 92, 93, 101, 102, 103, 104, 105, 106, 107, 108, 109, 110, 120, 121, 122, 111, 112, 113, 114, 115, 123, 124, 125, 126, 127, 128, 116, 117, 118, 119, 129, 130, 131, 132, 133] (by decide +kernel) (by decide +kernel)
set_option maxRecDepth 20000 in
theorem gX8_take_X8_findBest : GoodIn wsX8_take (wsV RX8 183 RX8 yX8_findBest wsX8_findBest) := goodIn_app (goodIn_of _ (by decide +kernel)) ggX8_take_X8_findBest
set_option maxRecDepth 20000 in
theorem ggX8_take_J13_bitCount_95d88 : GoodIn wsX8_take wsJ13_bitCount_95d88 := goodIn_r _ [97, 98, 99, 100] (by decide +kernel) (by decide +kernel)
set_option maxRecDepth 20000 in
theorem gX8_take_J13_bitCount_95d88 : GoodIn wsX8_take (va_wsS RX8 111 yJ13_bitCount_95d88 wsJ13_bitCount_95d88) := goodIn_app (goodIn_of _ (by decide +kernel)) ggX8_take_J13_bitCount_95d88
theorem dX8_take_0 : decode cX8_take 0 = .ok (.aload_n 0, 1) := by decide +kernel
theorem dX8_take_1 : decode cX8_take 1 = .ok (.invokevirtual 183, 3) := by decide +kernel
theorem dX8_take_4 : decode cX8_take 4 = .ok (.aload_n 0, 1) := by decide +kernel
theorem dX8_take_5 : decode cX8_take 5 = .ok (.getfield 19, 3) := by decide +kernel
theorem dX8_take_8 : decode cX8_take 8 = .ok (.getfield 136, 3) := by decide +kernel
theorem dX8_take_11 : decode cX8_take 11 = .ok (.aload_n 0, 1) := by decide +kernel
theorem dX8_take_12 : decode cX8_take 12 = .ok (.getfield 39, 3) := by decide +kernel
theorem dX8_take_15 : decode cX8_take 15 = .ok (.getfield 189, 3) := by decide +kernel
theorem dX8_take_18 : decode cX8_take 18 = .ok (.lxor, 1) := by decide +kernel
theorem dX8_take_19 : decode cX8_take 19 = .ok (.invokestatic 111, 3) := by decide +kernel
theorem dX8_take_22 : decode cX8_take 22 = .ok (.istore_n 1, 1) := by decide +kernel
theorem dX8_take_23 : decode cX8_take 23 = .ok (.aload_n 0, 1) := by decide +kernel
theorem dX8_take_24 : decode cX8_take 24 = .ok (.getfield 19, 3) := by decide +kernel
theorem dX8_take_27 : decode cX8_take 27 = .ok (.aload_n 0, 1) := by decide +kernel
theorem dX8_take_28 : decode cX8_take 28 = .ok (.getfield 39, 3) := by decide +kernel
theorem dX8_take_31 : decode cX8_take 31 = .ok (.getfield 189, 3) := by decide +kernel
theorem dX8_take_34 : decode cX8_take 34 = .ok (.putfield 136, 3) := by decide +kernel
theorem dX8_take_37 : decode cX8_take 37 = .ok (.iload_n 1, 1) := by decide +kernel
theorem dX8_take_38 : decode cX8_take 38 = .ok (.ireturn, 1) := by decide +kernel
set_option maxRecDepth 20000 in
theorem ggX8_near_X8_offWeeks : GoodIn wsX8_near wsX8_offWeeks := goodIn_r _ [5, 6, 7, 8, 9, 10, 11, 12, 13, 14, 15, 16, 17, 18, 19, 20, 21, 22, 23, 24, 25, 26, 27, 28, 29, 30, 31, 32, 33] (by decide +kernel) (by decide +kernel)
set_option maxRecDepth 20000 in
theorem gX8_near_X8_offWeeks : GoodIn wsX8_near (wsV RX8 192 RX8 yX8_offWeeks wsX8_offWeeks) := goodIn_app (goodIn_of _ (by decide +kernel)) ggX8_near_X8_offWeeks
theorem dX8_near_0 : decode cX8_near 0 = .ok (.iload_n 1, 1) := by decide +kernel
theorem dX8_near_1 : decode cX8_near 1 = .ok (.iconst 1, 1) := by decide +kernel
theorem dX8_near_2 : decode cX8_near 2 = .ok (.if_icmp .lt 9, 3) := by decide +kernel
theorem dX8_near_5 : decode cX8_near 5 = .ok (.iload_n 1, 1) := by decide +kernel
theorem dX8_near_6 : decode cX8_near 6 = .ok (.bipush 8, 2) := by decide +kernel
theorem dX8_near_8 : decode cX8_near 8 = .ok (.if_icmp .le 8, 3) := by decide +kernel
theorem dX8_near_11 : decode cX8_near 11 = .ok (.bipush (-2), 2) := by decide +kernel
theorem dX8_near_13 : decode cX8_near 13 = .ok (.goto 8, 3) := by decide +kernel
theorem dX8_near_16 : decode cX8_near 16 = .ok (.aload_n 0, 1) := by decide +kernel
theorem dX8_near_17 : decode cX8_near 17 = .ok (.iload_n 1, 1) := by decide +kernel
theorem dX8_near_18 : decode cX8_near 18 = .ok (.invokevirtual 192, 3) := by decide +kernel
theorem dX8_near_21 : decode cX8_near 21 = .ok (.ireturn, 1) := by decide +kernel
set_option maxRecDepth 20000 in
theorem ggX8_brief_X8_offWeeks : GoodIn wsX8_brief wsX8_offWeeks := goodIn_r _ [5, 6, 7, 8, 9, 10, 11, 12, 13, 14, 15, 16, 17, 18, 19, 20, 21, 22, 23, 24, 25, 26, 27, 28, 29, 30, 31, 32, 33] (by decide +kernel) (by decide +kernel)
set_option maxRecDepth 20000 in
theorem gX8_brief_X8_offWeeks : GoodIn wsX8_brief (wsV RX8 192 RX8 yX8_offWeeks wsX8_offWeeks) := goodIn_app (goodIn_of _ (by decide +kernel)) ggX8_brief_X8_offWeeks
theorem dX8_brief_0 : decode cX8_brief 0 = .ok (.iload_n 1, 1) := by decide +kernel
theorem dX8_brief_1 : decode cX8_brief 1 = .ok (.ifCond .lt 9, 3) := by decide +kernel
theorem dX8_brief_4 : decode cX8_brief 4 = .ok (.iload_n 1, 1) := by decide +kernel
theorem dX8_brief_5 : decode cX8_brief 5 = .ok (.bipush 56, 2) := by decide +kernel
theorem dX8_brief_7 : decode cX8_brief 7 = .ok (.if_icmp .le 6, 3) := by decide +kernel
theorem dX8_brief_10 : decode cX8_brief 10 = .ok (.bipush (-2), 2) := by decide +kernel
theorem dX8_brief_12 : decode cX8_brief 12 = .ok (.ireturn, 1) := by decide +kernel
theorem dX8_brief_13 : decode cX8_brief 13 = .ok (.iconst 1, 1) := by decide +kernel
theorem dX8_brief_14 : decode cX8_brief 14 = .ok (.istore_n 2, 1) := by decide +kernel
theorem dX8_brief_15 : decode cX8_brief 15 = .ok (.iload_n 2, 1) := by decide +kernel
theorem dX8_brief_16 : decode cX8_brief 16 = .ok (.bipush 8, 2) := by decide +kernel
theorem dX8_brief_18 : decode cX8_brief 18 = .ok (.if_icmp .ge 18, 3) := by decide +kernel
theorem dX8_brief_21 : decode cX8_brief 21 = .ok (.aload_n 0, 1) := by decide +kernel
theorem dX8_brief_22 : decode cX8_brief 22 = .ok (.iload_n 2, 1) := by decide +kernel
theorem dX8_brief_23 : decode cX8_brief 23 = .ok (.invokevirtual 192, 3) := by decide +kernel
theorem dX8_brief_26 : decode cX8_brief 26 = .ok (.iload_n 1, 1) := by decide +kernel
theorem dX8_brief_27 : decode cX8_brief 27 = .ok (.if_icmp .le 9, 3) := by decide +kernel
theorem dX8_brief_30 : decode cX8_brief 30 = .ok (.iinc 2 1, 3) := by decide +kernel
theorem dX8_brief_33 : decode cX8_brief 33 = .ok (.goto (-18), 3) := by decide +kernel
theorem dX8_brief_36 : decode cX8_brief 36 = .ok (.iload_n 2, 1) := by decide +kernel
theorem dX8_brief_37 : decode cX8_brief 37 = .ok (.ireturn, 1) := by decide +kernel
set_option maxRecDepth 20000 in
theorem ggX8_swap_X8_isNight : GoodIn wsX8_swap wsX8_isNight := goodIn_r _ [7] (by decide +kernel) (by decide +kernel)
set_option maxRecDepth 20000 in
theorem gX8_swap_X8_isNight : GoodIn wsX8_swap (va_wsS RX8 88 yX8_isNight wsX8_isNight) := goodIn_app (goodIn_of _ (by decide +kernel)) ggX8_swap_X8_isNight
set_option maxRecDepth 20000 in
theorem ggX8_swap_X1_houseAt : GoodIn wsX8_swap wsX1_houseAt := goodIn_r _ [11] (by decide +kernel) (by decide +kernel)
set_option maxRecDepth 20000 in
theorem gX8_swap_X1_houseAt : GoodIn wsX8_swap (va_wsS RX8 140 yX1_houseAt wsX1_houseAt) := goodIn_app (goodIn_of _ (by decide +kernel)) ggX8_swap_X1_houseAt
set_option maxRecDepth 20000 in
theorem ggX8_swap_X7_costOf : GoodIn wsX8_swap wsX7_costOf := goodIn_r _ [16, 17, 18, 19, 20, 21, 22, 10, 23, 24, 25, 26, 27, 28, 29, 30, 31, 32, 33, 34, 35, 36, 37, 38, 39, 9, 11, 40, 41, 42, 15, 43, 44, 63, 64, 65, 66, 67] (by decide +kernel) (by decide +kernel)
set_option maxRecDepth 20000 in
theorem gX8_swap_X7_costOf : GoodIn wsX8_swap (wsV RX8 180 RX7 yX7_costOf wsX7_costOf) := goodIn_app (goodIn_of _ (by decide +kernel)) ggX8_swap_X7_costOf
set_option maxRecDepth 20000 in
theorem ggX8_swap_X1_turned : GoodIn wsX8_swap wsX1_turned := goodIn_r _ [47] (by decide +kernel) (by decide +kernel)
set_option maxRecDepth 20000 in
theorem gX8_swap_X1_turned : GoodIn wsX8_swap (va_wsS RX8 195 yX1_turned wsX1_turned) := goodIn_app (goodIn_of _ (by decide +kernel)) ggX8_swap_X1_turned
theorem dX8_swap_0 : decode cX8_swap 0 = .ok (.iload_n 1, 1) := by decide +kernel
theorem dX8_swap_1 : decode cX8_swap 1 = .ok (.invokestatic 88, 3) := by decide +kernel
theorem dX8_swap_4 : decode cX8_swap 4 = .ok (.ifCond .eq 10, 3) := by decide +kernel
theorem dX8_swap_7 : decode cX8_swap 7 = .ok (.iload_n 2, 1) := by decide +kernel
theorem dX8_swap_8 : decode cX8_swap 8 = .ok (.invokestatic 88, 3) := by decide +kernel
theorem dX8_swap_11 : decode cX8_swap 11 = .ok (.ifCond .ne 5, 3) := by decide +kernel
theorem dX8_swap_14 : decode cX8_swap 14 = .ok (.iconst (-1), 1) := by decide +kernel
theorem dX8_swap_15 : decode cX8_swap 15 = .ok (.ireturn, 1) := by decide +kernel
theorem dX8_swap_16 : decode cX8_swap 16 = .ok (.aload_n 0, 1) := by decide +kernel
theorem dX8_swap_17 : decode cX8_swap 17 = .ok (.getfield 19, 3) := by decide +kernel
theorem dX8_swap_20 : decode cX8_swap 20 = .ok (.getfield 136, 3) := by decide +kernel
theorem dX8_swap_23 : decode cX8_swap 23 = .ok (.iload_n 1, 1) := by decide +kernel
theorem dX8_swap_24 : decode cX8_swap 24 = .ok (.invokestatic 140, 3) := by decide +kernel
theorem dX8_swap_27 : decode cX8_swap 27 = .ok (.aload_n 0, 1) := by decide +kernel
theorem dX8_swap_28 : decode cX8_swap 28 = .ok (.getfield 19, 3) := by decide +kernel
theorem dX8_swap_31 : decode cX8_swap 31 = .ok (.getfield 136, 3) := by decide +kernel
theorem dX8_swap_34 : decode cX8_swap 34 = .ok (.iload_n 2, 1) := by decide +kernel
theorem dX8_swap_35 : decode cX8_swap 35 = .ok (.invokestatic 140, 3) := by decide +kernel
theorem dX8_swap_38 : decode cX8_swap 38 = .ok (.if_icmp .ne 6, 3) := by decide +kernel
theorem dX8_swap_41 : decode cX8_swap 41 = .ok (.bipush (-3), 2) := by decide +kernel
theorem dX8_swap_43 : decode cX8_swap 43 = .ok (.ireturn, 1) := by decide +kernel
theorem dX8_swap_44 : decode cX8_swap 44 = .ok (.aload_n 0, 1) := by decide +kernel
theorem dX8_swap_45 : decode cX8_swap 45 = .ok (.getfield 32, 3) := by decide +kernel
theorem dX8_swap_48 : decode cX8_swap 48 = .ok (.aload_n 0, 1) := by decide +kernel
theorem dX8_swap_49 : decode cX8_swap 49 = .ok (.getfield 19, 3) := by decide +kernel
theorem dX8_swap_52 : decode cX8_swap 52 = .ok (.getfield 136, 3) := by decide +kernel
theorem dX8_swap_55 : decode cX8_swap 55 = .ok (.invokevirtual 180, 3) := by decide +kernel
theorem dX8_swap_58 : decode cX8_swap 58 = .ok (.istore_n 3, 1) := by decide +kernel
theorem dX8_swap_59 : decode cX8_swap 59 = .ok (.aload_n 0, 1) := by decide +kernel
theorem dX8_swap_60 : decode cX8_swap 60 = .ok (.getfield 19, 3) := by decide +kernel
theorem dX8_swap_63 : decode cX8_swap 63 = .ok (.aload_n 0, 1) := by decide +kernel
theorem dX8_swap_64 : decode cX8_swap 64 = .ok (.getfield 19, 3) := by decide +kernel
theorem dX8_swap_67 : decode cX8_swap 67 = .ok (.getfield 136, 3) := by decide +kernel
theorem dX8_swap_70 : decode cX8_swap 70 = .ok (.iload_n 1, 1) := by decide +kernel
theorem dX8_swap_71 : decode cX8_swap 71 = .ok (.iload_n 2, 1) := by decide +kernel
theorem dX8_swap_72 : decode cX8_swap 72 = .ok (.invokestatic 195, 3) := by decide +kernel
theorem dX8_swap_75 : decode cX8_swap 75 = .ok (.putfield 136, 3) := by decide +kernel
theorem dX8_swap_78 : decode cX8_swap 78 = .ok (.aload_n 0, 1) := by decide +kernel
theorem dX8_swap_79 : decode cX8_swap 79 = .ok (.getfield 32, 3) := by decide +kernel
theorem dX8_swap_82 : decode cX8_swap 82 = .ok (.aload_n 0, 1) := by decide +kernel
theorem dX8_swap_83 : decode cX8_swap 83 = .ok (.getfield 19, 3) := by decide +kernel
theorem dX8_swap_86 : decode cX8_swap 86 = .ok (.getfield 136, 3) := by decide +kernel
theorem dX8_swap_89 : decode cX8_swap 89 = .ok (.invokevirtual 180, 3) := by decide +kernel
theorem dX8_swap_92 : decode cX8_swap 92 = .ok (.iload_n 3, 1) := by decide +kernel
theorem dX8_swap_93 : decode cX8_swap 93 = .ok (.isub, 1) := by decide +kernel
theorem dX8_swap_94 : decode cX8_swap 94 = .ok (.sipush 1000, 3) := by decide +kernel
theorem dX8_swap_97 : decode cX8_swap 97 = .ok (.iadd, 1) := by decide +kernel
theorem dX8_swap_98 : decode cX8_swap 98 = .ok (.ireturn, 1) := by decide +kernel
set_option maxRecDepth 20000 in
theorem ggX8_owed_X8_isNight : GoodIn wsX8_owed wsX8_isNight := goodIn_r _ [4] (by decide +kernel) (by decide +kernel)
set_option maxRecDepth 20000 in
theorem gX8_owed_X8_isNight : GoodIn wsX8_owed (va_wsS RX8 88 yX8_isNight wsX8_isNight) := goodIn_app (goodIn_of _ (by decide +kernel)) ggX8_owed_X8_isNight
set_option maxRecDepth 20000 in
theorem ggX8_owed_X1_upTo : GoodIn wsX8_owed wsX1_upTo := goodIn_r _ [8, 9] (by decide +kernel) (by decide +kernel)
set_option maxRecDepth 20000 in
theorem gX8_owed_X1_upTo : GoodIn wsX8_owed (va_wsS RX8 199 yX1_upTo wsX1_upTo) := goodIn_app (goodIn_of _ (by decide +kernel)) ggX8_owed_X1_upTo
set_option maxRecDepth 20000 in
theorem ggX8_owed_X8_owedAmong : GoodIn wsX8_owed wsX8_owedAmong := goodIn_r _ [13, 14, 15, 16, 17, 18, 19, 20, 21, 3, 22, 23, 24, 25, 26, 27, 28, 29, 30, 31, 32, 33, 34, 35, 36, 37, 38, 39, 40, 41, 42, 43, 44, 45, 46, 47, 48, 49, 50, 51, 52, 53, 54, 55, 56, 57, 58, 59, 60, 61, 62, 63, 64, 65, 66, 67, 68, 69, 70, 71, 72, 73, 74, 75, 76, 77, 78, 79, 80, 81, 82, 83, 84, 85, 86, 87, 88, 89, 90] (by decide +kernel) (by decide +kernel)
set_option maxRecDepth 20000 in
theorem gX8_owed_X8_owedAmong : GoodIn wsX8_owed (wsV RX8 202 RX8 yX8_owedAmong wsX8_owedAmong) := goodIn_app (goodIn_of _ (by decide +kernel)) ggX8_owed_X8_owedAmong
theorem dX8_owed_0 : decode cX8_owed 0 = .ok (.iload_n 1, 1) := by decide +kernel
theorem dX8_owed_1 : decode cX8_owed 1 = .ok (.invokestatic 88, 3) := by decide +kernel
theorem dX8_owed_4 : decode cX8_owed 4 = .ok (.ifCond .eq 17, 3) := by decide +kernel
theorem dX8_owed_7 : decode cX8_owed 7 = .ok (.aload_n 0, 1) := by decide +kernel
theorem dX8_owed_8 : decode cX8_owed 8 = .ok (.iload_n 1, 1) := by decide +kernel
theorem dX8_owed_9 : decode cX8_owed 9 = .ok (.invokestatic 199, 3) := by decide +kernel
theorem dX8_owed_12 : decode cX8_owed 12 = .ok (.invokevirtual 202, 3) := by decide +kernel
theorem dX8_owed_15 : decode cX8_owed 15 = .ok (.bipush 100, 2) := by decide +kernel
theorem dX8_owed_17 : decode cX8_owed 17 = .ok (.iadd, 1) := by decide +kernel
theorem dX8_owed_18 : decode cX8_owed 18 = .ok (.goto 4, 3) := by decide +kernel
theorem dX8_owed_21 : decode cX8_owed 21 = .ok (.iconst (-1), 1) := by decide +kernel
theorem dX8_owed_22 : decode cX8_owed 22 = .ok (.ireturn, 1) := by decide +kernel
set_option maxRecDepth 20000 in
theorem ggX8_even_X1_upTo : GoodIn wsX8_even wsX1_upTo := goodIn_r _ [4, 5] (by decide +kernel) (by decide +kernel)
set_option maxRecDepth 20000 in
theorem gX8_even_X1_upTo : GoodIn wsX8_even (va_wsS RX8 199 yX1_upTo wsX1_upTo) := goodIn_app (goodIn_of _ (by decide +kernel)) ggX8_even_X1_upTo
set_option maxRecDepth 20000 in
theorem ggX8_even_X8_owedAmong : GoodIn wsX8_even wsX8_owedAmong := goodIn_r _ [10, 11, 12, 13, 14, 15, 16, 17, 18, 9, 19, 20, 21, 22, 23, 24, 25, 26, 27, 28, 29, 30, 31, 32, 33, 34, 35, 36, 37, 38, 39, 40, 41, 42, 43, 44, 45, 46, 47, 48, 49, 50, 51, 52, 53, 54, 55, 56, 57, 58, 59, 60, 61, 62, 63, 64, 65, 66, 67, 68, 69, 70, 71, 72, 73, 74, 75, 76, 77, 78, 79, 80, 81, 82, 83, 84, 85, 86, 87] (by decide +kernel) (by decide +kernel)
set_option maxRecDepth 20000 in
theorem gX8_even_X8_owedAmong : GoodIn wsX8_even (wsV RX8 202 RX8 yX8_owedAmong wsX8_owedAmong) := goodIn_app (goodIn_of _ (by decide +kernel)) ggX8_even_X8_owedAmong
theorem dX8_even_0 : decode cX8_even 0 = .ok (.bipush (-9), 2) := by decide +kernel
theorem dX8_even_2 : decode cX8_even 2 = .ok (.istore_n 1, 1) := by decide +kernel
theorem dX8_even_3 : decode cX8_even 3 = .ok (.bipush 55, 2) := by decide +kernel
theorem dX8_even_5 : decode cX8_even 5 = .ok (.istore_n 2, 1) := by decide +kernel
theorem dX8_even_6 : decode cX8_even 6 = .ok (.iload_n 2, 1) := by decide +kernel
theorem dX8_even_7 : decode cX8_even 7 = .ok (.ifCond .lt 24, 3) := by decide +kernel
theorem dX8_even_10 : decode cX8_even 10 = .ok (.aload_n 0, 1) := by decide +kernel
theorem dX8_even_11 : decode cX8_even 11 = .ok (.iload_n 2, 1) := by decide +kernel
theorem dX8_even_12 : decode cX8_even 12 = .ok (.invokestatic 199, 3) := by decide +kernel
theorem dX8_even_15 : decode cX8_even 15 = .ok (.invokevirtual 202, 3) := by decide +kernel
theorem dX8_even_18 : decode cX8_even 18 = .ok (.ifCond .eq 5, 3) := by decide +kernel
theorem dX8_even_21 : decode cX8_even 21 = .ok (.iload_n 1, 1) := by decide +kernel
theorem dX8_even_22 : decode cX8_even 22 = .ok (.ireturn, 1) := by decide +kernel
theorem dX8_even_23 : decode cX8_even 23 = .ok (.iload_n 2, 1) := by decide +kernel
theorem dX8_even_24 : decode cX8_even 24 = .ok (.istore_n 1, 1) := by decide +kernel
theorem dX8_even_25 : decode cX8_even 25 = .ok (.iinc 2 (-1), 3) := by decide +kernel
theorem dX8_even_28 : decode cX8_even 28 = .ok (.goto (-22), 3) := by decide +kernel
theorem dX8_even_31 : decode cX8_even 31 = .ok (.iload_n 1, 1) := by decide +kernel
theorem dX8_even_32 : decode cX8_even 32 = .ok (.ireturn, 1) := by decide +kernel
set_option maxRecDepth 20000 in
theorem ggX8_wedding_X8_isNight : GoodIn wsX8_wedding wsX8_isNight := goodIn_r _ [6] (by decide +kernel) (by decide +kernel)
set_option maxRecDepth 20000 in
theorem gX8_wedding_X8_isNight : GoodIn wsX8_wedding (va_wsS RX8 88 yX8_isNight wsX8_isNight) := goodIn_app (goodIn_of _ (by decide +kernel)) ggX8_wedding_X8_isNight
set_option maxRecDepth 20000 in
theorem ggX8_wedding_X8_isHouse : GoodIn wsX8_wedding wsX8_isHouse := goodIn_r _ [9] (by decide +kernel) (by decide +kernel)
set_option maxRecDepth 20000 in
theorem gX8_wedding_X8_isHouse : GoodIn wsX8_wedding (va_wsS RX8 133 yX8_isHouse wsX8_isHouse) := goodIn_app (goodIn_of _ (by decide +kernel)) ggX8_wedding_X8_isHouse
set_option maxRecDepth 20000 in
theorem ggX8_wedding_X1_houseAt : GoodIn wsX8_wedding wsX1_houseAt := goodIn_r _ [13] (by decide +kernel) (by decide +kernel)
set_option maxRecDepth 20000 in
theorem gX8_wedding_X1_houseAt : GoodIn wsX8_wedding (va_wsS RX8 140 yX1_houseAt wsX1_houseAt) := goodIn_app (goodIn_of _ (by decide +kernel)) ggX8_wedding_X1_houseAt
set_option maxRecDepth 20000 in
theorem ggX8_wedding_X8_cheapestReturn : GoodIn wsX8_wedding wsX8_cheapestReturn := goodIn_r _ [17, 18, 19, 20, 21, 22, 23, 24, 1, 2, 25, 10, 11, 12, 13, 26, 27, 28, 29, 30, 31, 32, 33, 34, 35, 36, 37, 38, 39, 40, 41, 42, 43, 44, 45, 46, 47, 48, 49, 50, 51, 52, 53, 54, 55, 56, 57, 58, 59, 60, 61, 62, 63, 64, 65, 66, 67, 68, 69, 70, 71, 72, 73, 74, 75, 76, 77, 78, 79, 80, 81] (by decide +kernel) (by decide +kernel)
set_option maxRecDepth 20000 in
theorem gX8_wedding_X8_cheapestReturn : GoodIn wsX8_wedding (wsV RX8 205 RX8 yX8_cheapestReturn wsX8_cheapestReturn) := goodIn_app (goodIn_of _ (by decide +kernel)) ggX8_wedding_X8_cheapestReturn
theorem dX8_wedding_0 : decode cX8_wedding 0 = .ok (.iload_n 1, 1) := by decide +kernel
theorem dX8_wedding_1 : decode cX8_wedding 1 = .ok (.invokestatic 88, 3) := by decide +kernel
theorem dX8_wedding_4 : decode cX8_wedding 4 = .ok (.ifCond .eq 10, 3) := by decide +kernel
theorem dX8_wedding_7 : decode cX8_wedding 7 = .ok (.iload_n 2, 1) := by decide +kernel
theorem dX8_wedding_8 : decode cX8_wedding 8 = .ok (.invokestatic 133, 3) := by decide +kernel
theorem dX8_wedding_11 : decode cX8_wedding 11 = .ok (.ifCond .ne 5, 3) := by decide +kernel
theorem dX8_wedding_14 : decode cX8_wedding 14 = .ok (.iconst (-1), 1) := by decide +kernel
theorem dX8_wedding_15 : decode cX8_wedding 15 = .ok (.ireturn, 1) := by decide +kernel
theorem dX8_wedding_16 : decode cX8_wedding 16 = .ok (.aload_n 0, 1) := by decide +kernel
theorem dX8_wedding_17 : decode cX8_wedding 17 = .ok (.getfield 19, 3) := by decide +kernel
theorem dX8_wedding_20 : decode cX8_wedding 20 = .ok (.getfield 136, 3) := by decide +kernel
theorem dX8_wedding_23 : decode cX8_wedding 23 = .ok (.iload_n 1, 1) := by decide +kernel
theorem dX8_wedding_24 : decode cX8_wedding 24 = .ok (.invokestatic 140, 3) := by decide +kernel
theorem dX8_wedding_27 : decode cX8_wedding 27 = .ok (.iload_n 2, 1) := by decide +kernel
theorem dX8_wedding_28 : decode cX8_wedding 28 = .ok (.if_icmp .ne 6, 3) := by decide +kernel
theorem dX8_wedding_31 : decode cX8_wedding 31 = .ok (.bipush (-9), 2) := by decide +kernel
theorem dX8_wedding_33 : decode cX8_wedding 33 = .ok (.ireturn, 1) := by decide +kernel
theorem dX8_wedding_34 : decode cX8_wedding 34 = .ok (.aload_n 0, 1) := by decide +kernel
theorem dX8_wedding_35 : decode cX8_wedding 35 = .ok (.iload_n 1, 1) := by decide +kernel
theorem dX8_wedding_36 : decode cX8_wedding 36 = .ok (.iload_n 2, 1) := by decide +kernel
theorem dX8_wedding_37 : decode cX8_wedding 37 = .ok (.invokevirtual 205, 3) := by decide +kernel
theorem dX8_wedding_40 : decode cX8_wedding 40 = .ok (.ireturn, 1) := by decide +kernel
set_option maxRecDepth 20000 in
theorem ggX8_late_X8_isNight : GoodIn wsX8_late wsX8_isNight := goodIn_r _ [6] (by decide +kernel) (by decide +kernel)
set_option maxRecDepth 20000 in
theorem gX8_late_X8_isNight : GoodIn wsX8_late (va_wsS RX8 88 yX8_isNight wsX8_isNight) := goodIn_app (goodIn_of _ (by decide +kernel)) ggX8_late_X8_isNight
set_option maxRecDepth 20000 in
theorem ggX8_late_X1_handings : GoodIn wsX8_late wsX1_handings := goodIn_r _ [10, 11, 12] (by decide +kernel) (by decide +kernel)
set_option maxRecDepth 20000 in
theorem gX8_late_X1_handings : GoodIn wsX8_late (va_wsS RX8 155 yX1_handings wsX1_handings) := goodIn_app (goodIn_of _ (by decide +kernel)) ggX8_late_X1_handings
set_option maxRecDepth 20000 in
theorem ggX8_late_X1_holds : GoodIn wsX8_late wsX1_holds := goodIn_r _ [15] (by decide +kernel) (by decide +kernel)
set_option maxRecDepth 20000 in
theorem gX8_late_X1_holds : GoodIn wsX8_late (va_wsS RX8 209 yX1_holds wsX1_holds) := goodIn_app (goodIn_of _ (by decide +kernel)) ggX8_late_X1_holds
set_option maxRecDepth 20000 in
theorem ggX8_late_X1_houseAt : GoodIn wsX8_late wsX1_houseAt := goodIn_r _ [18] (by decide +kernel) (by decide +kernel)
set_option maxRecDepth 20000 in
theorem gX8_late_X1_houseAt : GoodIn wsX8_late (va_wsS RX8 140 yX1_houseAt wsX1_houseAt) := goodIn_app (goodIn_of _ (by decide +kernel)) ggX8_late_X1_houseAt
set_option maxRecDepth 20000 in
theorem ggX8_late_X5_fine : GoodIn wsX8_late wsX5_fine := goodIn_r _ [23, 24, 25, 103, 104, 105, 106, 107] (by decide +kernel) (by decide +kernel)
set_option maxRecDepth 20000 in
theorem gX8_late_X5_fine : GoodIn wsX8_late (wsV RX8 213 RX5 yX5_fine wsX5_fine) := goodIn_app (goodIn_of _ (by decide +kernel)) ggX8_late_X5_fine
set_option maxRecDepth 20000 in
theorem ggX8_late_X8_loseNext : GoodIn wsX8_late wsX8_loseNext := goodIn_r _ [29, 30, 1, 31, 32, 33, 5, 34, 35, 36, 37, 38, 39, 40, 41, 42, 43, 44, 45, 46, 47, 48, 49, 50, 51, 52, 53, 54, 55, 56, 57, 58, 59, 60, 61, 62, 63, 64, 65, 66, 67, 68, 69, 70, 71, 72, 73, 74, 9, 75, 76, 77, 78, 79, 80, 81, 82, 83, 84, 85, 86, 87, 88, 89, 22, 90, 91, 92, 93, 94, 95, 96, 97, 98, 99, 100, 101, 102, 103, 104, 105, 106, 107, 108, 109, 110, 111, 112, 113, 114, 115, 116] (by decide +kernel) (by decide +kernel)
set_option maxRecDepth 20000 in
theorem gX8_late_X8_loseNext : GoodIn wsX8_late (wsV RX8 216 RX8 yX8_loseNext wsX8_loseNext) := goodIn_app (goodIn_of _ (by decide +kernel)) ggX8_late_X8_loseNext
theorem dX8_late_0 : decode cX8_late 0 = .ok (.iload_n 1, 1) := by decide +kernel
theorem dX8_late_1 : decode cX8_late 1 = .ok (.invokestatic 88, 3) := by decide +kernel
theorem dX8_late_4 : decode cX8_late 4 = .ok (.ifCond .ne 5, 3) := by decide +kernel
theorem dX8_late_7 : decode cX8_late 7 = .ok (.iconst (-1), 1) := by decide +kernel
theorem dX8_late_8 : decode cX8_late 8 = .ok (.ireturn, 1) := by decide +kernel
theorem dX8_late_9 : decode cX8_late 9 = .ok (.iload_n 2, 1) := by decide +kernel
theorem dX8_late_10 : decode cX8_late 10 = .ok (.iconst 1, 1) := by decide +kernel
theorem dX8_late_11 : decode cX8_late 11 = .ok (.if_icmp .lt 9, 3) := by decide +kernel
theorem dX8_late_14 : decode cX8_late 14 = .ok (.iload_n 2, 1) := by decide +kernel
theorem dX8_late_15 : decode cX8_late 15 = .ok (.bipush 99, 2) := by decide +kernel
theorem dX8_late_17 : decode cX8_late 17 = .ok (.if_icmp .le 6, 3) := by decide +kernel
theorem dX8_late_20 : decode cX8_late 20 = .ok (.bipush (-2), 2) := by decide +kernel
theorem dX8_late_22 : decode cX8_late 22 = .ok (.ireturn, 1) := by decide +kernel
theorem dX8_late_23 : decode cX8_late 23 = .ok (.aload_n 0, 1) := by decide +kernel
theorem dX8_late_24 : decode cX8_late 24 = .ok (.getfield 19, 3) := by decide +kernel
theorem dX8_late_27 : decode cX8_late 27 = .ok (.getfield 136, 3) := by decide +kernel
theorem dX8_late_30 : decode cX8_late 30 = .ok (.invokestatic 155, 3) := by decide +kernel
theorem dX8_late_33 : decode cX8_late 33 = .ok (.iload_n 1, 1) := by decide +kernel
theorem dX8_late_34 : decode cX8_late 34 = .ok (.invokestatic 209, 3) := by decide +kernel
theorem dX8_late_37 : decode cX8_late 37 = .ok (.ifCond .ne 6, 3) := by decide +kernel
theorem dX8_late_40 : decode cX8_late 40 = .ok (.bipush (-3), 2) := by decide +kernel
theorem dX8_late_42 : decode cX8_late 42 = .ok (.ireturn, 1) := by decide +kernel
theorem dX8_late_43 : decode cX8_late 43 = .ok (.aload_n 0, 1) := by decide +kernel
theorem dX8_late_44 : decode cX8_late 44 = .ok (.getfield 19, 3) := by decide +kernel
theorem dX8_late_47 : decode cX8_late 47 = .ok (.getfield 136, 3) := by decide +kernel
theorem dX8_late_50 : decode cX8_late 50 = .ok (.iload_n 1, 1) := by decide +kernel
theorem dX8_late_51 : decode cX8_late 51 = .ok (.invokestatic 140, 3) := by decide +kernel
theorem dX8_late_54 : decode cX8_late 54 = .ok (.istore_n 3, 1) := by decide +kernel
theorem dX8_late_55 : decode cX8_late 55 = .ok (.aload_n 0, 1) := by decide +kernel
theorem dX8_late_56 : decode cX8_late 56 = .ok (.getfield 19, 3) := by decide +kernel
theorem dX8_late_59 : decode cX8_late 59 = .ok (.iload_n 3, 1) := by decide +kernel
theorem dX8_late_60 : decode cX8_late 60 = .ok (.iload_n 2, 1) := by decide +kernel
theorem dX8_late_61 : decode cX8_late 61 = .ok (.bipush 9, 2) := by decide +kernel
theorem dX8_late_63 : decode cX8_late 63 = .ok (.iadd, 1) := by decide +kernel
theorem dX8_late_64 : decode cX8_late 64 = .ok (.bipush 10, 2) := by decide +kernel
theorem dX8_late_66 : decode cX8_late 66 = .ok (.idiv, 1) := by decide +kernel
theorem dX8_late_67 : decode cX8_late 67 = .ok (.invokevirtual 213, 3) := by decide +kernel
theorem dX8_late_70 : decode cX8_late 70 = .ok (.istore 4, 2) := by decide +kernel
theorem dX8_late_72 : decode cX8_late 72 = .ok (.iload 4, 2) := by decide +kernel
theorem dX8_late_74 : decode cX8_late 74 = .ok (.iconst 3, 1) := by decide +kernel
theorem dX8_late_75 : decode cX8_late 75 = .ok (.irem, 1) := by decide +kernel
theorem dX8_late_76 : decode cX8_late 76 = .ok (.ifCond .ne 12, 3) := by decide +kernel
theorem dX8_late_79 : decode cX8_late 79 = .ok (.aload_n 0, 1) := by decide +kernel
theorem dX8_late_80 : decode cX8_late 80 = .ok (.iload_n 3, 1) := by decide +kernel
theorem dX8_late_81 : decode cX8_late 81 = .ok (.iload_n 1, 1) := by decide +kernel
theorem dX8_late_82 : decode cX8_late 82 = .ok (.invokevirtual 216, 3) := by decide +kernel
theorem dX8_late_85 : decode cX8_late 85 = .ok (.goto 5, 3) := by decide +kernel
theorem dX8_late_88 : decode cX8_late 88 = .ok (.bipush (-9), 2) := by decide +kernel
theorem dX8_late_90 : decode cX8_late 90 = .ok (.ireturn, 1) := by decide +kernel
set_option maxRecDepth 20000 in
theorem ggX8_fines_X8_isHouse : GoodIn wsX8_fines wsX8_isHouse := goodIn_r _ [7] (by decide +kernel) (by decide +kernel)
set_option maxRecDepth 20000 in
theorem gX8_fines_X8_isHouse : GoodIn wsX8_fines (va_wsS RX8 133 yX8_isHouse wsX8_isHouse) := goodIn_app (goodIn_of _ (by decide +kernel)) ggX8_fines_X8_isHouse
theorem dX8_fines_0 : decode cX8_fines 0 = .ok (.iload_n 1, 1) := by decide +kernel
theorem dX8_fines_1 : decode cX8_fines 1 = .ok (.invokestatic 133, 3) := by decide +kernel
theorem dX8_fines_4 : decode cX8_fines 4 = .ok (.ifCond .ne 5, 3) := by decide +kernel
theorem dX8_fines_7 : decode cX8_fines 7 = .ok (.iconst (-1), 1) := by decide +kernel
theorem dX8_fines_8 : decode cX8_fines 8 = .ok (.ireturn, 1) := by decide +kernel
theorem dX8_fines_9 : decode cX8_fines 9 = .ok (.iload_n 2, 1) := by decide +kernel
theorem dX8_fines_10 : decode cX8_fines 10 = .ok (.ifCond .eq 15, 3) := by decide +kernel
theorem dX8_fines_13 : decode cX8_fines 13 = .ok (.aload_n 0, 1) := by decide +kernel
theorem dX8_fines_14 : decode cX8_fines 14 = .ok (.getfield 19, 3) := by decide +kernel
theorem dX8_fines_17 : decode cX8_fines 17 = .ok (.getfield 219, 3) := by decide +kernel
theorem dX8_fines_20 : decode cX8_fines 20 = .ok (.iload_n 1, 1) := by decide +kernel
theorem dX8_fines_21 : decode cX8_fines 21 = .ok (.iaload, 1) := by decide +kernel
theorem dX8_fines_22 : decode cX8_fines 22 = .ok (.goto 12, 3) := by decide +kernel
theorem dX8_fines_25 : decode cX8_fines 25 = .ok (.aload_n 0, 1) := by decide +kernel
theorem dX8_fines_26 : decode cX8_fines 26 = .ok (.getfield 19, 3) := by decide +kernel
theorem dX8_fines_29 : decode cX8_fines 29 = .ok (.getfield 223, 3) := by decide +kernel
theorem dX8_fines_32 : decode cX8_fines 32 = .ok (.iload_n 1, 1) := by decide +kernel
theorem dX8_fines_33 : decode cX8_fines 33 = .ok (.iaload, 1) := by decide +kernel
theorem dX8_fines_34 : decode cX8_fines 34 = .ok (.ireturn, 1) := by decide +kernel
set_option maxRecDepth 20000 in
theorem ggX8_move_X8_readPaper : GoodIn wsX8_move wsX8_readPaper := goodIn_r _ [6, 7, 8, 9, 10, 11, 12, 13, 14, 15, 16, 17, 18, 19, 20, 21, 22, 23, 24, 25, 26, 27, 28, 29, 30, 31, 32, 33, 34, 35, 36, 37, 38, 39, 40, 41, 42, 43, 44, 59, 60, 61, 62, 63, 64, 65, 66, 67, 68, 69, 70, 71, 72, 73, 74, 75, 76, 77, 78, 79, 56, 57, 58] (by decide +kernel) (by decide +kernel)
set_option maxRecDepth 20000 in
theorem gX8_move_X8_readPaper : GoodIn wsX8_move (wsV RX8 92 RX8 yX8_readPaper wsX8_readPaper) := goodIn_app (goodIn_of _ (by decide +kernel)) ggX8_move_X8_readPaper
set_option maxRecDepth 20000 in
theorem ggX8_move_X8_barredFromOne : GoodIn wsX8_move wsX8_barredFromOne := goodIn_r _ [47, 48] (by decide +kernel) (by decide +kernel)
set_option maxRecDepth 20000 in
theorem gX8_move_X8_barredFromOne : GoodIn wsX8_move (va_wsS RX8 229 yX8_barredFromOne wsX8_barredFromOne) := goodIn_app (goodIn_of _ (by decide +kernel)) ggX8_move_X8_barredFromOne
set_option maxRecDepth 20000 in
theorem ggX8_move_J13_bitCount_95d88 : GoodIn wsX8_move wsJ13_bitCount_95d88 := goodIn_r _ [52, 53, 54, 55] (by decide +kernel) (by decide +kernel)
set_option maxRecDepth 20000 in
theorem gX8_move_J13_bitCount_95d88 : GoodIn wsX8_move (va_wsS RX8 111 yJ13_bitCount_95d88 wsJ13_bitCount_95d88) := goodIn_app (goodIn_of _ (by decide +kernel)) ggX8_move_J13_bitCount_95d88
theorem dX8_move_0 : decode cX8_move 0 = .ok (.iload_n 1, 1) := by decide +kernel
theorem dX8_move_1 : decode cX8_move 1 = .ok (.ifCond .lt 9, 3) := by decide +kernel
theorem dX8_move_4 : decode cX8_move 4 = .ok (.iload_n 1, 1) := by decide +kernel
theorem dX8_move_5 : decode cX8_move 5 = .ok (.bipush 99, 2) := by decide +kernel
theorem dX8_move_7 : decode cX8_move 7 = .ok (.if_icmp .le 6, 3) := by decide +kernel
theorem dX8_move_10 : decode cX8_move 10 = .ok (.bipush (-2), 2) := by decide +kernel
theorem dX8_move_12 : decode cX8_move 12 = .ok (.ireturn, 1) := by decide +kernel
theorem dX8_move_13 : decode cX8_move 13 = .ok (.aload_n 0, 1) := by decide +kernel
theorem dX8_move_14 : decode cX8_move 14 = .ok (.invokevirtual 92, 3) := by decide +kernel
theorem dX8_move_17 : decode cX8_move 17 = .ok (.getfield 226, 3) := by decide +kernel
theorem dX8_move_20 : decode cX8_move 20 = .ok (.iload_n 1, 1) := by decide +kernel
theorem dX8_move_21 : decode cX8_move 21 = .ok (.invokestatic 229, 3) := by decide +kernel
theorem dX8_move_24 : decode cX8_move 24 = .ok (.land, 1) := by decide +kernel
theorem dX8_move_25 : decode cX8_move 25 = .ok (.invokestatic 111, 3) := by decide +kernel
theorem dX8_move_28 : decode cX8_move 28 = .ok (.ireturn, 1) := by decide +kernel
set_option maxRecDepth 20000 in
theorem ggX8_then_X8_barredFromOne : GoodIn wsX8_then wsX8_barredFromOne := goodIn_r _ [10, 11] (by decide +kernel) (by decide +kernel)
set_option maxRecDepth 20000 in
theorem gX8_then_X8_barredFromOne : GoodIn wsX8_then (va_wsS RX8 229 yX8_barredFromOne wsX8_barredFromOne) := goodIn_app (goodIn_of _ (by decide +kernel)) ggX8_then_X8_barredFromOne
set_option maxRecDepth 20000 in
theorem ggX8_then_X8_readPaper : GoodIn wsX8_then wsX8_readPaper := goodIn_r _ [15, 16, 17, 18, 19, 20, 21, 22, 23, 24, 25, 26, 27, 28, 29, 30, 31, 32, 33, 34, 35, 36, 37, 38, 39, 40, 41, 42, 43, 44, 45, 46, 47, 48, 49, 50, 51, 52, 53, 94, 95, 96, 97, 98, 99, 100, 101, 102, 103, 111, 112, 113, 114, 115, 116, 117, 118, 119, 120, 121, 104, 105, 106] (by decide +kernel) (by decide +kernel)
set_option maxRecDepth 20000 in
theorem gX8_then_X8_readPaper : GoodIn wsX8_then (wsV RX8 92 RX8 yX8_readPaper wsX8_readPaper) := goodIn_app (goodIn_of _ (by decide +kernel)) ggX8_then_X8_readPaper
set_option maxRecDepth 20000 in
theorem ggX8_then_X3_find : GoodIn wsX8_then wsX3_find := goodIn_r _ [58, 59, 60, 61, 62, 63, 64, 65, 66, 67, 68, 57, 69, 70, 71, 72, 73, 74, 75, 76, 77, 78, 79, 80, 81, 82, 83, 84, 85, 86, 87, 88, 89, 90, 91, 92, 93, 107, 108, 109, 110, 122, 123, 124, 125, 126] (by decide +kernel) (by decide +kernel)
set_option maxRecDepth 20000 in
theorem gX8_then_X3_find : GoodIn wsX8_then (wsV RX8 237 RX3 yX3_find wsX3_find) := goodIn_app (goodIn_of _ (by decide +kernel)) ggX8_then_X3_find
theorem dX8_then_0 : decode cX8_then 0 = .ok (.iload_n 1, 1) := by decide +kernel
theorem dX8_then_1 : decode cX8_then 1 = .ok (.ifCond .lt 9, 3) := by decide +kernel
theorem dX8_then_4 : decode cX8_then 4 = .ok (.iload_n 1, 1) := by decide +kernel
theorem dX8_then_5 : decode cX8_then 5 = .ok (.bipush 99, 2) := by decide +kernel
theorem dX8_then_7 : decode cX8_then 7 = .ok (.if_icmp .le 6, 3) := by decide +kernel
theorem dX8_then_10 : decode cX8_then 10 = .ok (.bipush (-2), 2) := by decide +kernel
theorem dX8_then_12 : decode cX8_then 12 = .ok (.ireturn, 1) := by decide +kernel
theorem dX8_then_13 : decode cX8_then 13 = .ok (.iload_n 1, 1) := by decide +kernel
theorem dX8_then_14 : decode cX8_then 14 = .ok (.invokestatic 229, 3) := by decide +kernel
theorem dX8_then_17 : decode cX8_then 17 = .ok (.lstore_n 2, 1) := by decide +kernel
theorem dX8_then_18 : decode cX8_then 18 = .ok (.aload_n 0, 1) := by decide +kernel
theorem dX8_then_19 : decode cX8_then 19 = .ok (.invokevirtual 92, 3) := by decide +kernel
theorem dX8_then_22 : decode cX8_then 22 = .ok (.astore 4, 2) := by decide +kernel
theorem dX8_then_24 : decode cX8_then 24 = .ok (.aload_n 0, 1) := by decide +kernel
theorem dX8_then_25 : decode cX8_then 25 = .ok (.getfield 39, 3) := by decide +kernel
theorem dX8_then_28 : decode cX8_then 28 = .ok (.aload_n 0, 1) := by decide +kernel
theorem dX8_then_29 : decode cX8_then 29 = .ok (.getfield 32, 3) := by decide +kernel
theorem dX8_then_32 : decode cX8_then 32 = .ok (.aload 4, 2) := by decide +kernel
theorem dX8_then_34 : decode cX8_then 34 = .ok (.getfield 232, 3) := by decide +kernel
theorem dX8_then_37 : decode cX8_then 37 = .ok (.lload_n 2, 1) := by decide +kernel
theorem dX8_then_38 : decode cX8_then 38 = .ok (.lor, 1) := by decide +kernel
theorem dX8_then_39 : decode cX8_then 39 = .ok (.aload 4, 2) := by decide +kernel
theorem dX8_then_41 : decode cX8_then 41 = .ok (.getfield 226, 3) := by decide +kernel
theorem dX8_then_44 : decode cX8_then 44 = .ok (.lload_n 2, 1) := by decide +kernel
theorem dX8_then_45 : decode cX8_then 45 = .ok (.ldc2_w 235, 3) := by decide +kernel
theorem dX8_then_48 : decode cX8_then 48 = .ok (.lxor, 1) := by decide +kernel
theorem dX8_then_49 : decode cX8_then 49 = .ok (.land, 1) := by decide +kernel
theorem dX8_then_50 : decode cX8_then 50 = .ok (.invokevirtual 237, 3) := by decide +kernel
theorem dX8_then_53 : decode cX8_then 53 = .ok (.aload_n 0, 1) := by decide +kernel
theorem dX8_then_54 : decode cX8_then 54 = .ok (.getfield 39, 3) := by decide +kernel
theorem dX8_then_57 : decode cX8_then 57 = .ok (.getfield 186, 3) := by decide +kernel
theorem dX8_then_60 : decode cX8_then 60 = .ok (.ireturn, 1) := by decide +kernel
set_option maxRecDepth 20000 in
theorem ggX8_together_X8_isSlot : GoodIn wsX8_together wsX8_isSlot := goodIn_r _ [10] (by decide +kernel) (by decide +kernel)
set_option maxRecDepth 20000 in
theorem gX8_together_X8_isSlot : GoodIn wsX8_together (va_wsS RX8 240 yX8_isSlot wsX8_isSlot) := goodIn_app (goodIn_of _ (by decide +kernel)) ggX8_together_X8_isSlot
set_option maxRecDepth 20000 in
theorem ggX8_together_X8_slotOf : GoodIn wsX8_together wsX8_slotOf := goodIn_r _ [14, 15, 16, 69, 70, 71, 72, 73, 74, 75, 76, 77, 78] (by decide +kernel) (by decide +kernel)
set_option maxRecDepth 20000 in
theorem gX8_together_X8_slotOf : GoodIn wsX8_together (wsV RX8 243 RX8 yX8_slotOf wsX8_slotOf) := goodIn_app (goodIn_of _ (by decide +kernel)) ggX8_together_X8_slotOf
set_option maxRecDepth 20000 in
theorem ggX8_together_X8_readPaper : GoodIn wsX8_together wsX8_readPaper := goodIn_r _ [20, 21, 2, 22, 4, 23, 24, 25, 26, 27, 28, 29, 30, 31, 32, 33, 34, 35, 36, 37, 38, 39, 40, 41, 42, 43, 44, 45, 46, 47, 48, 49, 50, 51, 52, 53, 54, 55, 56, 69, 70, 71, 72, 73, 74, 75, 76, 77, 78, 64, 65, 66, 67, 68, 82, 83, 84, 85, 86, 87, 79, 80, 81] (by decide +kernel) (by decide +kernel)
set_option maxRecDepth 20000 in
theorem gX8_together_X8_readPaper : GoodIn wsX8_together (wsV RX8 92 RX8 yX8_readPaper wsX8_readPaper) := goodIn_app (goodIn_of _ (by decide +kernel)) ggX8_together_X8_readPaper
set_option maxRecDepth 20000 in
theorem ggX8_together_X2_readTo : GoodIn wsX8_together wsX2_readTo := goodIn_r _ [27, 28, 29, 30, 31, 32, 33, 34, 35, 36, 37, 38, 39, 40, 41, 42, 43, 44, 45, 46, 47, 48, 49, 50, 51, 52, 53, 26, 54, 55, 56, 82, 83, 84, 85, 86, 87, 79, 80, 81] (by decide +kernel) (by decide +kernel)
set_option maxRecDepth 20000 in
theorem gX8_together_X2_readTo : GoodIn wsX8_together (wsV RX8 251 RX2 yX2_readTo wsX2_readTo) := goodIn_app (goodIn_of _ (by decide +kernel)) ggX8_together_X2_readTo
set_option maxRecDepth 20000 in
theorem ggX8_together_J13_bitCount_95d88 : GoodIn wsX8_together wsJ13_bitCount_95d88 := goodIn_r _ [60, 61, 62, 63] (by decide +kernel) (by decide +kernel)
set_option maxRecDepth 20000 in
theorem gX8_together_J13_bitCount_95d88 : GoodIn wsX8_together (va_wsS RX8 111 yJ13_bitCount_95d88 wsJ13_bitCount_95d88) := goodIn_app (goodIn_of _ (by decide +kernel)) ggX8_together_J13_bitCount_95d88
theorem dX8_together_0 : decode cX8_together 0 = .ok (.iload_n 1, 1) := by decide +kernel
theorem dX8_together_1 : decode cX8_together 1 = .ok (.invokestatic 240, 3) := by decide +kernel
theorem dX8_together_4 : decode cX8_together 4 = .ok (.ifCond .ne 5, 3) := by decide +kernel
theorem dX8_together_7 : decode cX8_together 7 = .ok (.iconst (-1), 1) := by decide +kernel
theorem dX8_together_8 : decode cX8_together 8 = .ok (.ireturn, 1) := by decide +kernel
theorem dX8_together_9 : decode cX8_together 9 = .ok (.aload_n 0, 1) := by decide +kernel
theorem dX8_together_10 : decode cX8_together 10 = .ok (.iload_n 1, 1) := by decide +kernel
theorem dX8_together_11 : decode cX8_together 11 = .ok (.invokevirtual 243, 3) := by decide +kernel
theorem dX8_together_14 : decode cX8_together 14 = .ok (.astore_n 3, 1) := by decide +kernel
theorem dX8_together_15 : decode cX8_together 15 = .ok (.aload_n 3, 1) := by decide +kernel
theorem dX8_together_16 : decode cX8_together 16 = .ok (.getfield 247, 3) := by decide +kernel
theorem dX8_together_19 : decode cX8_together 19 = .ok (.ifCond .ne 6, 3) := by decide +kernel
theorem dX8_together_22 : decode cX8_together 22 = .ok (.bipush (-3), 2) := by decide +kernel
theorem dX8_together_24 : decode cX8_together 24 = .ok (.ireturn, 1) := by decide +kernel
theorem dX8_together_25 : decode cX8_together 25 = .ok (.aload_n 0, 1) := by decide +kernel
theorem dX8_together_26 : decode cX8_together 26 = .ok (.invokevirtual 92, 3) := by decide +kernel
theorem dX8_together_29 : decode cX8_together 29 = .ok (.astore 4, 2) := by decide +kernel
theorem dX8_together_31 : decode cX8_together 31 = .ok (.aload_n 3, 1) := by decide +kernel
theorem dX8_together_32 : decode cX8_together 32 = .ok (.getfield 75, 3) := by decide +kernel
theorem dX8_together_35 : decode cX8_together 35 = .ok (.aload_n 0, 1) := by decide +kernel
theorem dX8_together_36 : decode cX8_together 36 = .ok (.getfield 57, 3) := by decide +kernel
theorem dX8_together_39 : decode cX8_together 39 = .ok (.aload_n 0, 1) := by decide +kernel
theorem dX8_together_40 : decode cX8_together 40 = .ok (.getfield 60, 3) := by decide +kernel
theorem dX8_together_43 : decode cX8_together 43 = .ok (.iconst 0, 1) := by decide +kernel
theorem dX8_together_44 : decode cX8_together 44 = .ok (.invokevirtual 251, 3) := by decide +kernel
theorem dX8_together_47 : decode cX8_together 47 = .ok (.aload_n 0, 1) := by decide +kernel
theorem dX8_together_48 : decode cX8_together 48 = .ok (.getfield 57, 3) := by decide +kernel
theorem dX8_together_51 : decode cX8_together 51 = .ok (.astore 5, 2) := by decide +kernel
theorem dX8_together_53 : decode cX8_together 53 = .ok (.iload_n 2, 1) := by decide +kernel
theorem dX8_together_54 : decode cX8_together 54 = .ok (.ifCond .eq 33, 3) := by decide +kernel
theorem dX8_together_57 : decode cX8_together 57 = .ok (.bipush 56, 2) := by decide +kernel
theorem dX8_together_59 : decode cX8_together 59 = .ok (.aload 4, 2) := by decide +kernel
theorem dX8_together_61 : decode cX8_together 61 = .ok (.getfield 232, 3) := by decide +kernel
theorem dX8_together_64 : decode cX8_together 64 = .ok (.aload 5, 2) := by decide +kernel
theorem dX8_together_66 : decode cX8_together 66 = .ok (.getfield 226, 3) := by decide +kernel
theorem dX8_together_69 : decode cX8_together 69 = .ok (.land, 1) := by decide +kernel
theorem dX8_together_70 : decode cX8_together 70 = .ok (.aload 4, 2) := by decide +kernel
theorem dX8_together_72 : decode cX8_together 72 = .ok (.getfield 226, 3) := by decide +kernel
theorem dX8_together_75 : decode cX8_together 75 = .ok (.aload 5, 2) := by decide +kernel
theorem dX8_together_77 : decode cX8_together 77 = .ok (.getfield 232, 3) := by decide +kernel
theorem dX8_together_80 : decode cX8_together 80 = .ok (.land, 1) := by decide +kernel
theorem dX8_together_81 : decode cX8_together 81 = .ok (.lor, 1) := by decide +kernel
theorem dX8_together_82 : decode cX8_together 82 = .ok (.invokestatic 111, 3) := by decide +kernel
theorem dX8_together_85 : decode cX8_together 85 = .ok (.isub, 1) := by decide +kernel
theorem dX8_together_86 : decode cX8_together 86 = .ok (.ireturn, 1) := by decide +kernel
theorem dX8_together_87 : decode cX8_together 87 = .ok (.aload 4, 2) := by decide +kernel
theorem dX8_together_89 : decode cX8_together 89 = .ok (.getfield 232, 3) := by decide +kernel
theorem dX8_together_92 : decode cX8_together 92 = .ok (.aload 5, 2) := by decide +kernel
theorem dX8_together_94 : decode cX8_together 94 = .ok (.getfield 232, 3) := by decide +kernel
theorem dX8_together_97 : decode cX8_together 97 = .ok (.land, 1) := by decide +kernel
theorem dX8_together_98 : decode cX8_together 98 = .ok (.aload 4, 2) := by decide +kernel
theorem dX8_together_100 : decode cX8_together 100 = .ok (.getfield 226, 3) := by decide +kernel
theorem dX8_together_103 : decode cX8_together 103 = .ok (.aload 5, 2) := by decide +kernel
theorem dX8_together_105 : decode cX8_together 105 = .ok (.getfield 226, 3) := by decide +kernel
theorem dX8_together_108 : decode cX8_together 108 = .ok (.land, 1) := by decide +kernel
theorem dX8_together_109 : decode cX8_together 109 = .ok (.lor, 1) := by decide +kernel
theorem dX8_together_110 : decode cX8_together 110 = .ok (.invokestatic 111, 3) := by decide +kernel
theorem dX8_together_113 : decode cX8_together 113 = .ok (.ireturn, 1) := by decide +kernel
set_option maxRecDepth 20000 in
theorem ggX8_years_X8_zeroMoreThanOne : GoodIn wsX8_years wsX8_zeroMoreThanOne := goodIn_r _ [5, 6, 7, 8, 9, 10, 11, 12, 13, 14, 15, 16, 17, 18, 19, 20, 21, 22, 23, 24, 25, 26, 27, 28, 29, 30, 31, 32, 33, 34, 35, 36, 37, 38, 39, 40, 41, 42, 43, 44, 45, 46, 47, 48, 49, 50, 51, 52, 53, 54, 55, 56, 57, 58, 59, 60, 61, 62, 63, 64, 65, 66, 67, 68, 69, 70, 71, 72, 73, 74, 75] (by decide +kernel) (by decide +kernel)
set_option maxRecDepth 20000 in
theorem gX8_years_X8_zeroMoreThanOne : GoodIn wsX8_years (wsV RX8 255 RX8 yX8_zeroMoreThanOne wsX8_zeroMoreThanOne) := goodIn_app (goodIn_of _ (by decide +kernel)) ggX8_years_X8_zeroMoreThanOne
theorem dX8_years_0 : decode cX8_years 0 = .ok (.aload_n 0, 1) := by decide +kernel
theorem dX8_years_1 : decode cX8_years 1 = .ok (.iconst 1, 1) := by decide +kernel
theorem dX8_years_2 : decode cX8_years 2 = .ok (.invokevirtual 255, 3) := by decide +kernel
theorem dX8_years_5 : decode cX8_years 5 = .ok (.aload_n 0, 1) := by decide +kernel
theorem dX8_years_6 : decode cX8_years 6 = .ok (.iconst 2, 1) := by decide +kernel
theorem dX8_years_7 : decode cX8_years 7 = .ok (.invokevirtual 255, 3) := by decide +kernel
theorem dX8_years_10 : decode cX8_years 10 = .ok (.iadd, 1) := by decide +kernel
theorem dX8_years_11 : decode cX8_years 11 = .ok (.sipush 200, 3) := by decide +kernel
theorem dX8_years_14 : decode cX8_years 14 = .ok (.iadd, 1) := by decide +kernel
theorem dX8_years_15 : decode cX8_years 15 = .ok (.ireturn, 1) := by decide +kernel
set_option maxRecDepth 20000 in
theorem ggX8_keep_X8_isSlot : GoodIn wsX8_keep wsX8_isSlot := goodIn_r _ [8] (by decide +kernel) (by decide +kernel)
set_option maxRecDepth 20000 in
theorem gX8_keep_X8_isSlot : GoodIn wsX8_keep (va_wsS RX8 240 yX8_isSlot wsX8_isSlot) := goodIn_app (goodIn_of _ (by decide +kernel)) ggX8_keep_X8_isSlot
set_option maxRecDepth 20000 in
theorem ggX8_keep_X8_slotOf : GoodIn wsX8_keep wsX8_slotOf := goodIn_r _ [12, 13, 14, 39, 40, 41, 42, 43, 44, 45, 46, 47, 48] (by decide +kernel) (by decide +kernel)
set_option maxRecDepth 20000 in
theorem gX8_keep_X8_slotOf : GoodIn wsX8_keep (wsV RX8 243 RX8 yX8_slotOf wsX8_slotOf) := goodIn_app (goodIn_of _ (by decide +kernel)) ggX8_keep_X8_slotOf
set_option maxRecDepth 20000 in
theorem ggX8_keep_X5_copyOf : GoodIn wsX8_keep wsX5_copyOf := goodIn_r _ [19, 20, 21, 22, 23, 24, 25, 26, 27, 28, 29, 30, 31, 32, 33, 34, 35, 36, 37, 38, 49, 50, 51, 52, 53, 54, 55, 56, 57, 58, 59] (by decide +kernel) (by decide +kernel)
set_option maxRecDepth 20000 in
theorem gX8_keep_X5_copyOf : GoodIn wsX8_keep (wsV RX8 258 RX5 yX5_copyOf wsX5_copyOf) := goodIn_app (goodIn_of _ (by decide +kernel)) ggX8_keep_X5_copyOf
theorem dX8_keep_0 : decode cX8_keep 0 = .ok (.iload_n 1, 1) := by decide +kernel
theorem dX8_keep_1 : decode cX8_keep 1 = .ok (.invokestatic 240, 3) := by decide +kernel
theorem dX8_keep_4 : decode cX8_keep 4 = .ok (.ifCond .ne 5, 3) := by decide +kernel
theorem dX8_keep_7 : decode cX8_keep 7 = .ok (.iconst (-1), 1) := by decide +kernel
theorem dX8_keep_8 : decode cX8_keep 8 = .ok (.ireturn, 1) := by decide +kernel
theorem dX8_keep_9 : decode cX8_keep 9 = .ok (.aload_n 0, 1) := by decide +kernel
theorem dX8_keep_10 : decode cX8_keep 10 = .ok (.iload_n 1, 1) := by decide +kernel
theorem dX8_keep_11 : decode cX8_keep 11 = .ok (.invokevirtual 243, 3) := by decide +kernel
theorem dX8_keep_14 : decode cX8_keep 14 = .ok (.astore_n 2, 1) := by decide +kernel
theorem dX8_keep_15 : decode cX8_keep 15 = .ok (.aload_n 2, 1) := by decide +kernel
theorem dX8_keep_16 : decode cX8_keep 16 = .ok (.aload_n 0, 1) := by decide +kernel
theorem dX8_keep_17 : decode cX8_keep 17 = .ok (.getfield 19, 3) := by decide +kernel
theorem dX8_keep_20 : decode cX8_keep 20 = .ok (.invokevirtual 258, 3) := by decide +kernel
theorem dX8_keep_23 : decode cX8_keep 23 = .ok (.aload_n 2, 1) := by decide +kernel
theorem dX8_keep_24 : decode cX8_keep 24 = .ok (.iconst 1, 1) := by decide +kernel
theorem dX8_keep_25 : decode cX8_keep 25 = .ok (.putfield 247, 3) := by decide +kernel
theorem dX8_keep_28 : decode cX8_keep 28 = .ok (.aload_n 2, 1) := by decide +kernel
theorem dX8_keep_29 : decode cX8_keep 29 = .ok (.getfield 75, 3) := by decide +kernel
theorem dX8_keep_32 : decode cX8_keep 32 = .ok (.getfield 83, 3) := by decide +kernel
theorem dX8_keep_35 : decode cX8_keep 35 = .ok (.ireturn, 1) := by decide +kernel
set_option maxRecDepth 20000 in
theorem ggX8_again_X8_isSlot : GoodIn wsX8_again wsX8_isSlot := goodIn_r _ [8] (by decide +kernel) (by decide +kernel)
set_option maxRecDepth 20000 in
theorem gX8_again_X8_isSlot : GoodIn wsX8_again (va_wsS RX8 240 yX8_isSlot wsX8_isSlot) := goodIn_app (goodIn_of _ (by decide +kernel)) ggX8_again_X8_isSlot
set_option maxRecDepth 20000 in
theorem ggX8_again_X8_slotOf : GoodIn wsX8_again wsX8_slotOf := goodIn_r _ [12, 13, 14, 44, 45, 46, 47, 48, 49, 50, 51, 52, 53] (by decide +kernel) (by decide +kernel)
set_option maxRecDepth 20000 in
theorem gX8_again_X8_slotOf : GoodIn wsX8_again (wsV RX8 243 RX8 yX8_slotOf wsX8_slotOf) := goodIn_app (goodIn_of _ (by decide +kernel)) ggX8_again_X8_slotOf
set_option maxRecDepth 20000 in
theorem ggX8_again_X5_copyOf : GoodIn wsX8_again wsX5_copyOf := goodIn_r _ [19, 20, 21, 22, 23, 24, 25, 26, 27, 28, 29, 30, 31, 32, 33, 34, 35, 36, 37, 38, 39, 40, 41, 42, 43, 54, 55, 56, 57, 58, 59] (by decide +kernel) (by decide +kernel)
set_option maxRecDepth 20000 in
theorem gX8_again_X5_copyOf : GoodIn wsX8_again (wsV RX8 258 RX5 yX5_copyOf wsX5_copyOf) := goodIn_app (goodIn_of _ (by decide +kernel)) ggX8_again_X5_copyOf
theorem dX8_again_0 : decode cX8_again 0 = .ok (.iload_n 1, 1) := by decide +kernel
theorem dX8_again_1 : decode cX8_again 1 = .ok (.invokestatic 240, 3) := by decide +kernel
theorem dX8_again_4 : decode cX8_again 4 = .ok (.ifCond .ne 5, 3) := by decide +kernel
theorem dX8_again_7 : decode cX8_again 7 = .ok (.iconst (-1), 1) := by decide +kernel
theorem dX8_again_8 : decode cX8_again 8 = .ok (.ireturn, 1) := by decide +kernel
theorem dX8_again_9 : decode cX8_again 9 = .ok (.aload_n 0, 1) := by decide +kernel
theorem dX8_again_10 : decode cX8_again 10 = .ok (.iload_n 1, 1) := by decide +kernel
theorem dX8_again_11 : decode cX8_again 11 = .ok (.invokevirtual 243, 3) := by decide +kernel
theorem dX8_again_14 : decode cX8_again 14 = .ok (.astore_n 2, 1) := by decide +kernel
theorem dX8_again_15 : decode cX8_again 15 = .ok (.aload_n 2, 1) := by decide +kernel
theorem dX8_again_16 : decode cX8_again 16 = .ok (.getfield 247, 3) := by decide +kernel
theorem dX8_again_19 : decode cX8_again 19 = .ok (.ifCond .ne 6, 3) := by decide +kernel
theorem dX8_again_22 : decode cX8_again 22 = .ok (.bipush (-3), 2) := by decide +kernel
theorem dX8_again_24 : decode cX8_again 24 = .ok (.ireturn, 1) := by decide +kernel
theorem dX8_again_25 : decode cX8_again 25 = .ok (.aload_n 0, 1) := by decide +kernel
theorem dX8_again_26 : decode cX8_again 26 = .ok (.getfield 19, 3) := by decide +kernel
theorem dX8_again_29 : decode cX8_again 29 = .ok (.aload_n 2, 1) := by decide +kernel
theorem dX8_again_30 : decode cX8_again 30 = .ok (.invokevirtual 258, 3) := by decide +kernel
theorem dX8_again_33 : decode cX8_again 33 = .ok (.aload_n 0, 1) := by decide +kernel
theorem dX8_again_34 : decode cX8_again 34 = .ok (.getfield 19, 3) := by decide +kernel
theorem dX8_again_37 : decode cX8_again 37 = .ok (.getfield 75, 3) := by decide +kernel
theorem dX8_again_40 : decode cX8_again 40 = .ok (.getfield 83, 3) := by decide +kernel
theorem dX8_again_43 : decode cX8_again 43 = .ok (.ireturn, 1) := by decide +kernel
set_option maxRecDepth 20000 in
theorem ggX8_count_X8_notAsDecided : GoodIn wsX8_count wsX8_notAsDecided := goodIn_r _ [12, 13, 3, 14, 15, 16, 17, 18, 19, 11, 20, 4, 21, 22, 23, 24, 25, 26, 27, 28, 29, 30, 31, 32, 33, 34, 35, 36, 37, 38, 39, 40, 41, 42, 43, 44, 45, 46, 47, 48, 49, 50, 51, 52, 53, 54, 55, 56, 92, 93, 94, 64, 65, 66, 67, 68, 69, 70, 71, 72, 73, 76, 77, 78, 79, 80, 81, 82, 83, 84, 85, 86] (by decide +kernel) (by decide +kernel)
set_option maxRecDepth 20000 in
theorem gX8_count_X8_notAsDecided : GoodIn wsX8_count (wsV RX8 147 RX8 yX8_notAsDecided wsX8_notAsDecided) := goodIn_app (goodIn_of _ (by decide +kernel)) ggX8_count_X8_notAsDecided
set_option maxRecDepth 20000 in
theorem ggX8_count_J13_bitCount_95d88 : GoodIn wsX8_count wsJ13_bitCount_95d88 := goodIn_r _ [60, 61, 62, 63] (by decide +kernel) (by decide +kernel)
set_option maxRecDepth 20000 in
theorem gX8_count_J13_bitCount_95d88 : GoodIn wsX8_count (va_wsS RX8 111 yJ13_bitCount_95d88 wsJ13_bitCount_95d88) := goodIn_app (goodIn_of _ (by decide +kernel)) ggX8_count_J13_bitCount_95d88
theorem dX8_count_0 : decode cX8_count 0 = .ok (.iload_n 1, 1) := by decide +kernel
theorem dX8_count_1 : decode cX8_count 1 = .ok (.tableswitch 66 0 3 #[31, 39, 50, 58], 31) := by decide +kernel
theorem dX8_count_32 : decode cX8_count 32 = .ok (.aload_n 0, 1) := by decide +kernel
theorem dX8_count_33 : decode cX8_count 33 = .ok (.getfield 12, 3) := by decide +kernel
theorem dX8_count_36 : decode cX8_count 36 = .ok (.getfield 68, 3) := by decide +kernel
theorem dX8_count_39 : decode cX8_count 39 = .ok (.ireturn, 1) := by decide +kernel
theorem dX8_count_40 : decode cX8_count 40 = .ok (.aload_n 0, 1) := by decide +kernel
theorem dX8_count_41 : decode cX8_count 41 = .ok (.getfield 19, 3) := by decide +kernel
theorem dX8_count_44 : decode cX8_count 44 = .ok (.getfield 75, 3) := by decide +kernel
theorem dX8_count_47 : decode cX8_count 47 = .ok (.getfield 83, 3) := by decide +kernel
theorem dX8_count_50 : decode cX8_count 50 = .ok (.ireturn, 1) := by decide +kernel
theorem dX8_count_51 : decode cX8_count 51 = .ok (.aload_n 0, 1) := by decide +kernel
theorem dX8_count_52 : decode cX8_count 52 = .ok (.getfield 32, 3) := by decide +kernel
theorem dX8_count_55 : decode cX8_count 55 = .ok (.getfield 171, 3) := by decide +kernel
theorem dX8_count_58 : decode cX8_count 58 = .ok (.ireturn, 1) := by decide +kernel
theorem dX8_count_59 : decode cX8_count 59 = .ok (.aload_n 0, 1) := by decide +kernel
theorem dX8_count_60 : decode cX8_count 60 = .ok (.invokevirtual 147, 3) := by decide +kernel
theorem dX8_count_63 : decode cX8_count 63 = .ok (.invokestatic 111, 3) := by decide +kernel
theorem dX8_count_66 : decode cX8_count 66 = .ok (.ireturn, 1) := by decide +kernel
theorem dX8_count_67 : decode cX8_count 67 = .ok (.bipush (-2), 2) := by decide +kernel
theorem dX8_count_69 : decode cX8_count 69 = .ok (.ireturn, 1) := by decide +kernel
theorem dX8_isNight_0 : decode cX8_isNight 0 = .ok (.iload_n 0, 1) := by decide +kernel
theorem dX8_isNight_1 : decode cX8_isNight 1 = .ok (.ifCond .lt 13, 3) := by decide +kernel
theorem dX8_isNight_4 : decode cX8_isNight 4 = .ok (.iload_n 0, 1) := by decide +kernel
theorem dX8_isNight_5 : decode cX8_isNight 5 = .ok (.bipush 56, 2) := by decide +kernel
theorem dX8_isNight_7 : decode cX8_isNight 7 = .ok (.if_icmp .ge 7, 3) := by decide +kernel
theorem dX8_isNight_10 : decode cX8_isNight 10 = .ok (.iconst 1, 1) := by decide +kernel
theorem dX8_isNight_11 : decode cX8_isNight 11 = .ok (.goto 4, 3) := by decide +kernel
theorem dX8_isNight_14 : decode cX8_isNight 14 = .ok (.iconst 0, 1) := by decide +kernel
theorem dX8_isNight_15 : decode cX8_isNight 15 = .ok (.ireturn, 1) := by decide +kernel
theorem dX8_isHouse_0 : decode cX8_isHouse 0 = .ok (.iload_n 0, 1) := by decide +kernel
theorem dX8_isHouse_1 : decode cX8_isHouse 1 = .ok (.ifCond .lt 12, 3) := by decide +kernel
theorem dX8_isHouse_4 : decode cX8_isHouse 4 = .ok (.iload_n 0, 1) := by decide +kernel
theorem dX8_isHouse_5 : decode cX8_isHouse 5 = .ok (.iconst 2, 1) := by decide +kernel
theorem dX8_isHouse_6 : decode cX8_isHouse 6 = .ok (.if_icmp .ge 7, 3) := by decide +kernel
theorem dX8_isHouse_9 : decode cX8_isHouse 9 = .ok (.iconst 1, 1) := by decide +kernel
theorem dX8_isHouse_10 : decode cX8_isHouse 10 = .ok (.goto 4, 3) := by decide +kernel
theorem dX8_isHouse_13 : decode cX8_isHouse 13 = .ok (.iconst 0, 1) := by decide +kernel
theorem dX8_isHouse_14 : decode cX8_isHouse 14 = .ok (.ireturn, 1) := by decide +kernel
theorem dX8_isSlot_0 : decode cX8_isSlot 0 = .ok (.iload_n 0, 1) := by decide +kernel
theorem dX8_isSlot_1 : decode cX8_isSlot 1 = .ok (.ifCond .lt 12, 3) := by decide +kernel
theorem dX8_isSlot_4 : decode cX8_isSlot 4 = .ok (.iload_n 0, 1) := by decide +kernel
theorem dX8_isSlot_5 : decode cX8_isSlot 5 = .ok (.iconst 2, 1) := by decide +kernel
theorem dX8_isSlot_6 : decode cX8_isSlot 6 = .ok (.if_icmp .ge 7, 3) := by decide +kernel
theorem dX8_isSlot_9 : decode cX8_isSlot 9 = .ok (.iconst 1, 1) := by decide +kernel
theorem dX8_isSlot_10 : decode cX8_isSlot 10 = .ok (.goto 4, 3) := by decide +kernel
theorem dX8_isSlot_13 : decode cX8_isSlot 13 = .ok (.iconst 0, 1) := by decide +kernel
theorem dX8_isSlot_14 : decode cX8_isSlot 14 = .ok (.ireturn, 1) := by decide +kernel
theorem dX8_slotOf_0 : decode cX8_slotOf 0 = .ok (.iload_n 1, 1) := by decide +kernel
theorem dX8_slotOf_1 : decode cX8_slotOf 1 = .ok (.ifCond .ne 10, 3) := by decide +kernel
theorem dX8_slotOf_4 : decode cX8_slotOf 4 = .ok (.aload_n 0, 1) := by decide +kernel
theorem dX8_slotOf_5 : decode cX8_slotOf 5 = .ok (.getfield 23, 3) := by decide +kernel
theorem dX8_slotOf_8 : decode cX8_slotOf 8 = .ok (.goto 7, 3) := by decide +kernel
theorem dX8_slotOf_11 : decode cX8_slotOf 11 = .ok (.aload_n 0, 1) := by decide +kernel
theorem dX8_slotOf_12 : decode cX8_slotOf 12 = .ok (.getfield 26, 3) := by decide +kernel
theorem dX8_slotOf_15 : decode cX8_slotOf 15 = .ok (.areturn, 1) := by decide +kernel
set_option maxRecDepth 20000 in
theorem ggX8_readPaper_X2_readTo : GoodIn wsX8_readPaper wsX2_readTo := goodIn_r _ [9, 10, 11, 12, 13, 14, 15, 16, 17, 18, 19, 20, 21, 22, 23, 24, 25, 26, 27, 28, 29, 30, 31, 32, 33, 34, 35, 8, 36, 37, 38, 54, 55, 56, 57, 58, 59, 60, 61, 62] (by decide +kernel) (by decide +kernel)
set_option maxRecDepth 20000 in
theorem gX8_readPaper_X2_readTo : GoodIn wsX8_readPaper (wsV RX8 251 RX2 yX2_readTo wsX2_readTo) := goodIn_app (goodIn_of _ (by decide +kernel)) ggX8_readPaper_X2_readTo
theorem dX8_readPaper_0 : decode cX8_readPaper 0 = .ok (.aload_n 0, 1) := by decide +kernel
theorem dX8_readPaper_1 : decode cX8_readPaper 1 = .ok (.getfield 19, 3) := by decide +kernel
theorem dX8_readPaper_4 : decode cX8_readPaper 4 = .ok (.getfield 75, 3) := by decide +kernel
theorem dX8_readPaper_7 : decode cX8_readPaper 7 = .ok (.aload_n 0, 1) := by decide +kernel
theorem dX8_readPaper_8 : decode cX8_readPaper 8 = .ok (.getfield 53, 3) := by decide +kernel
theorem dX8_readPaper_11 : decode cX8_readPaper 11 = .ok (.aload_n 0, 1) := by decide +kernel
theorem dX8_readPaper_12 : decode cX8_readPaper 12 = .ok (.getfield 60, 3) := by decide +kernel
theorem dX8_readPaper_15 : decode cX8_readPaper 15 = .ok (.iconst 0, 1) := by decide +kernel
theorem dX8_readPaper_16 : decode cX8_readPaper 16 = .ok (.invokevirtual 251, 3) := by decide +kernel
theorem dX8_readPaper_19 : decode cX8_readPaper 19 = .ok (.aload_n 0, 1) := by decide +kernel
theorem dX8_readPaper_20 : decode cX8_readPaper 20 = .ok (.getfield 53, 3) := by decide +kernel
theorem dX8_readPaper_23 : decode cX8_readPaper 23 = .ok (.areturn, 1) := by decide +kernel
set_option maxRecDepth 20000 in
theorem ggX8_notAsDecided_X8_readPaper : GoodIn wsX8_notAsDecided wsX8_readPaper := goodIn_r _ [10, 2, 11, 12, 13, 14, 15, 16, 17, 18, 19, 20, 21, 22, 23, 24, 25, 26, 27, 28, 29, 30, 31, 32, 33, 34, 35, 36, 37, 38, 39, 40, 41, 42, 43, 44, 45, 46, 47, 51, 52, 53, 54, 55, 56, 57, 58, 59, 60, 61, 62, 63, 64, 65, 66, 67, 68, 69, 70, 71, 48, 49, 50] (by decide +kernel) (by decide +kernel)
set_option maxRecDepth 20000 in
theorem gX8_notAsDecided_X8_readPaper : GoodIn wsX8_notAsDecided (wsV RX8 92 RX8 yX8_readPaper wsX8_readPaper) := goodIn_app (goodIn_of _ (by decide +kernel)) ggX8_notAsDecided_X8_readPaper
theorem dX8_notAsDecided_0 : decode cX8_notAsDecided 0 = .ok (.aload_n 0, 1) := by decide +kernel
theorem dX8_notAsDecided_1 : decode cX8_notAsDecided 1 = .ok (.invokevirtual 92, 3) := by decide +kernel
theorem dX8_notAsDecided_4 : decode cX8_notAsDecided 4 = .ok (.astore_n 1, 1) := by decide +kernel
theorem dX8_notAsDecided_5 : decode cX8_notAsDecided 5 = .ok (.aload_n 1, 1) := by decide +kernel
theorem dX8_notAsDecided_6 : decode cX8_notAsDecided 6 = .ok (.getfield 232, 3) := by decide +kernel
theorem dX8_notAsDecided_9 : decode cX8_notAsDecided 9 = .ok (.aload_n 0, 1) := by decide +kernel
theorem dX8_notAsDecided_10 : decode cX8_notAsDecided 10 = .ok (.getfield 19, 3) := by decide +kernel
theorem dX8_notAsDecided_13 : decode cX8_notAsDecided 13 = .ok (.getfield 136, 3) := by decide +kernel
theorem dX8_notAsDecided_16 : decode cX8_notAsDecided 16 = .ok (.land, 1) := by decide +kernel
theorem dX8_notAsDecided_17 : decode cX8_notAsDecided 17 = .ok (.aload_n 1, 1) := by decide +kernel
theorem dX8_notAsDecided_18 : decode cX8_notAsDecided 18 = .ok (.getfield 226, 3) := by decide +kernel
theorem dX8_notAsDecided_21 : decode cX8_notAsDecided 21 = .ok (.aload_n 0, 1) := by decide +kernel
theorem dX8_notAsDecided_22 : decode cX8_notAsDecided 22 = .ok (.getfield 19, 3) := by decide +kernel
theorem dX8_notAsDecided_25 : decode cX8_notAsDecided 25 = .ok (.getfield 136, 3) := by decide +kernel
theorem dX8_notAsDecided_28 : decode cX8_notAsDecided 28 = .ok (.ldc2_w 235, 3) := by decide +kernel
theorem dX8_notAsDecided_31 : decode cX8_notAsDecided 31 = .ok (.lxor, 1) := by decide +kernel
theorem dX8_notAsDecided_32 : decode cX8_notAsDecided 32 = .ok (.land, 1) := by decide +kernel
theorem dX8_notAsDecided_33 : decode cX8_notAsDecided 33 = .ok (.lor, 1) := by decide +kernel
theorem dX8_notAsDecided_34 : decode cX8_notAsDecided 34 = .ok (.lreturn, 1) := by decide +kernel
set_option maxRecDepth 20000 in
theorem ggX8_findBest_X8_readPaper : GoodIn wsX8_findBest wsX8_readPaper := goodIn_r _ [9, 10, 11, 12, 13, 14, 15, 16, 17, 18, 19, 20, 21, 22, 23, 24, 25, 26, 27, 28, 29, 30, 31, 32, 33, 34, 35, 36, 37, 38, 39, 40, 41, 42, 43, 44, 45, 46, 47, 88, 89, 90, 91, 92, 93, 94, 95, 96, 97, 101, 102, 103, 104, 105, 106, 107, 108, 109, 110, 111, 98, 99, 100] (by decide +kernel) (by decide +kernel)
set_option maxRecDepth 20000 in
theorem gX8_findBest_X8_readPaper : GoodIn wsX8_findBest (wsV RX8 92 RX8 yX8_readPaper wsX8_readPaper) := goodIn_app (goodIn_of _ (by decide +kernel)) ggX8_findBest_X8_readPaper
set_option maxRecDepth 20000 in
theorem ggX8_findBest_X3_find : GoodIn wsX8_findBest wsX3_find := goodIn_r _ [52, 53, 54, 55, 56, 57, 58, 59, 60, 61, 62, 51, 63, 64, 65, 66, 67, 68, 69, 70, 71, 72, 73, 74, 75, 76, 77, 78, 79, 80, 81, 82, 83, 84, 85, 86, 87, 112, 113, 114, 115, 116, 117, 118, 119, 120] (by decide +kernel) (by decide +kernel)
set_option maxRecDepth 20000 in
theorem gX8_findBest_X3_find : GoodIn wsX8_findBest (wsV RX8 237 RX3 yX3_find wsX3_find) := goodIn_app (goodIn_of _ (by decide +kernel)) ggX8_findBest_X3_find
theorem dX8_findBest_0 : decode cX8_findBest 0 = .ok (.aload_n 0, 1) := by decide +kernel
theorem dX8_findBest_1 : decode cX8_findBest 1 = .ok (.invokevirtual 92, 3) := by decide +kernel
theorem dX8_findBest_4 : decode cX8_findBest 4 = .ok (.astore_n 1, 1) := by decide +kernel
theorem dX8_findBest_5 : decode cX8_findBest 5 = .ok (.aload_n 0, 1) := by decide +kernel
theorem dX8_findBest_6 : decode cX8_findBest 6 = .ok (.getfield 39, 3) := by decide +kernel
theorem dX8_findBest_9 : decode cX8_findBest 9 = .ok (.aload_n 0, 1) := by decide +kernel
