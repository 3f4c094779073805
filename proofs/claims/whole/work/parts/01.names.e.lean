theorem dX9_wish_12 : decode cX9_wish 12 = .ok (.iload_n 2, 1) := by decide +kernel
theorem dX9_wish_13 : decode cX9_wish 13 = .ok (.i2l, 1) := by decide +kernel
theorem dX9_wish_14 : decode cX9_wish 14 = .ok (.lconst 0, 1) := by decide +kernel
theorem dX9_wish_15 : decode cX9_wish 15 = .ok (.ldc2_w 151, 3) := by decide +kernel
theorem dX9_wish_18 : decode cX9_wish 18 = .ok (.invokestatic 77, 3) := by decide +kernel
theorem dX9_wish_21 : decode cX9_wish 21 = .ok (.ifCond .eq 15, 3) := by decide +kernel
theorem dX9_wish_24 : decode cX9_wish 24 = .ok (.iload_n 3, 1) := by decide +kernel
theorem dX9_wish_25 : decode cX9_wish 25 = .ok (.i2l, 1) := by decide +kernel
theorem dX9_wish_26 : decode cX9_wish 26 = .ok (.lconst 0, 1) := by decide +kernel
theorem dX9_wish_27 : decode cX9_wish 27 = .ok (.ldc2_w 151, 3) := by decide +kernel
theorem dX9_wish_30 : decode cX9_wish 30 = .ok (.invokestatic 77, 3) := by decide +kernel
theorem dX9_wish_33 : decode cX9_wish 33 = .ok (.ifCond .ne 6, 3) := by decide +kernel
theorem dX9_wish_36 : decode cX9_wish 36 = .ok (.bipush (-2), 2) := by decide +kernel
theorem dX9_wish_38 : decode cX9_wish 38 = .ok (.ireturn, 1) := by decide +kernel
theorem dX9_wish_39 : decode cX9_wish 39 = .ok (.sipush 1000, 3) := by decide +kernel
theorem dX9_wish_42 : decode cX9_wish 42 = .ok (.aload_n 0, 1) := by decide +kernel
theorem dX9_wish_43 : decode cX9_wish 43 = .ok (.getfield 62, 3) := by decide +kernel
theorem dX9_wish_46 : decode cX9_wish 46 = .ok (.imul, 1) := by decide +kernel
theorem dX9_wish_47 : decode cX9_wish 47 = .ok (.bipush 10, 2) := by decide +kernel
theorem dX9_wish_49 : decode cX9_wish 49 = .ok (.aload_n 0, 1) := by decide +kernel
theorem dX9_wish_50 : decode cX9_wish 50 = .ok (.getfield 66, 3) := by decide +kernel
theorem dX9_wish_53 : decode cX9_wish 53 = .ok (.imul, 1) := by decide +kernel
theorem dX9_wish_54 : decode cX9_wish 54 = .ok (.iadd, 1) := by decide +kernel
theorem dX9_wish_55 : decode cX9_wish 55 = .ok (.aload_n 0, 1) := by decide +kernel
theorem dX9_wish_56 : decode cX9_wish 56 = .ok (.getfield 69, 3) := by decide +kernel
theorem dX9_wish_59 : decode cX9_wish 59 = .ok (.iadd, 1) := by decide +kernel
theorem dX9_wish_60 : decode cX9_wish 60 = .ok (.istore 4, 2) := by decide +kernel
theorem dX9_wish_62 : decode cX9_wish 62 = .ok (.aload_n 0, 1) := by decide +kernel
theorem dX9_wish_63 : decode cX9_wish 63 = .ok (.iload_n 1, 1) := by decide +kernel
theorem dX9_wish_64 : decode cX9_wish 64 = .ok (.putfield 62, 3) := by decide +kernel
theorem dX9_wish_67 : decode cX9_wish 67 = .ok (.aload_n 0, 1) := by decide +kernel
theorem dX9_wish_68 : decode cX9_wish 68 = .ok (.iload_n 2, 1) := by decide +kernel
theorem dX9_wish_69 : decode cX9_wish 69 = .ok (.putfield 66, 3) := by decide +kernel
theorem dX9_wish_72 : decode cX9_wish 72 = .ok (.aload_n 0, 1) := by decide +kernel
theorem dX9_wish_73 : decode cX9_wish 73 = .ok (.iload_n 3, 1) := by decide +kernel
theorem dX9_wish_74 : decode cX9_wish 74 = .ok (.putfield 69, 3) := by decide +kernel
theorem dX9_wish_77 : decode cX9_wish 77 = .ok (.iload 4, 2) := by decide +kernel
theorem dX9_wish_79 : decode cX9_wish 79 = .ok (.ireturn, 1) := by decide +kernel
set_option maxRecDepth 20000 in
theorem ggX9_want_X9_isNight : GoodIn wsX9_want wsX9_isNight := goodIn_r _ [9, 10, 11, 12, 8, 13] (by decide +kernel) (by decide +kernel)
set_option maxRecDepth 20000 in
theorem gX9_want_X9_isNight : GoodIn wsX9_want (va_wsS RX9 128 yX9_isNight wsX9_isNight) := goodIn_app (goodIn_of _ (by decide +kernel)) ggX9_want_X9_isNight
set_option maxRecDepth 20000 in
theorem ggX9_want_X9_isHouse : GoodIn wsX9_want wsX9_isHouse := goodIn_r _ [16, 11, 12, 8, 13] (by decide +kernel) (by decide +kernel)
set_option maxRecDepth 20000 in
theorem gX9_want_X9_isHouse : GoodIn wsX9_want (va_wsS RX9 146 yX9_isHouse wsX9_isHouse) := goodIn_app (goodIn_of _ (by decide +kernel)) ggX9_want_X9_isHouse
set_option maxRecDepth 20000 in
theorem ggX9_want_X9_in : GoodIn wsX9_want wsX9_in := goodIn_r _ [13] (by decide +kernel) (by decide +kernel)
set_option maxRecDepth 20000 in
theorem gX9_want_X9_in : GoodIn wsX9_want (va_wsS RX9 77 yX9_in wsX9_in) := goodIn_app (goodIn_of _ (by decide +kernel)) ggX9_want_X9_in
theorem dX9_want_0 : decode cX9_want 0 = .ok (.iload_n 1, 1) := by decide +kernel
theorem dX9_want_1 : decode cX9_want 1 = .ok (.invokestatic 128, 3) := by decide +kernel
theorem dX9_want_4 : decode cX9_want 4 = .ok (.ifCond .eq 10, 3) := by decide +kernel
theorem dX9_want_7 : decode cX9_want 7 = .ok (.iload_n 2, 1) := by decide +kernel
theorem dX9_want_8 : decode cX9_want 8 = .ok (.invokestatic 146, 3) := by decide +kernel
theorem dX9_want_11 : decode cX9_want 11 = .ok (.ifCond .ne 5, 3) := by decide +kernel
theorem dX9_want_14 : decode cX9_want 14 = .ok (.iconst (-1), 1) := by decide +kernel
theorem dX9_want_15 : decode cX9_want 15 = .ok (.ireturn, 1) := by decide +kernel
theorem dX9_want_16 : decode cX9_want 16 = .ok (.iload_n 3, 1) := by decide +kernel
theorem dX9_want_17 : decode cX9_want 17 = .ok (.i2l, 1) := by decide +kernel
theorem dX9_want_18 : decode cX9_want 18 = .ok (.lconst 1, 1) := by decide +kernel
theorem dX9_want_19 : decode cX9_want 19 = .ok (.ldc2_w 151, 3) := by decide +kernel
theorem dX9_want_22 : decode cX9_want 22 = .ok (.invokestatic 77, 3) := by decide +kernel
theorem dX9_want_25 : decode cX9_want 25 = .ok (.ifCond .ne 6, 3) := by decide +kernel
theorem dX9_want_28 : decode cX9_want 28 = .ok (.bipush (-2), 2) := by decide +kernel
theorem dX9_want_30 : decode cX9_want 30 = .ok (.ireturn, 1) := by decide +kernel
theorem dX9_want_31 : decode cX9_want 31 = .ok (.aload_n 0, 1) := by decide +kernel
theorem dX9_want_32 : decode cX9_want 32 = .ok (.getfield 153, 3) := by decide +kernel
theorem dX9_want_35 : decode cX9_want 35 = .ok (.bipush 12, 2) := by decide +kernel
theorem dX9_want_37 : decode cX9_want 37 = .ok (.if_icmp .ne 6, 3) := by decide +kernel
theorem dX9_want_40 : decode cX9_want 40 = .ok (.bipush (-4), 2) := by decide +kernel
theorem dX9_want_42 : decode cX9_want 42 = .ok (.ireturn, 1) := by decide +kernel
theorem dX9_want_43 : decode cX9_want 43 = .ok (.aload_n 0, 1) := by decide +kernel
theorem dX9_want_44 : decode cX9_want 44 = .ok (.getfield 28, 3) := by decide +kernel
theorem dX9_want_47 : decode cX9_want 47 = .ok (.aload_n 0, 1) := by decide +kernel
theorem dX9_want_48 : decode cX9_want 48 = .ok (.getfield 153, 3) := by decide +kernel
theorem dX9_want_51 : decode cX9_want 51 = .ok (.iload_n 1, 1) := by decide +kernel
theorem dX9_want_52 : decode cX9_want 52 = .ok (.iastore, 1) := by decide +kernel
theorem dX9_want_53 : decode cX9_want 53 = .ok (.aload_n 0, 1) := by decide +kernel
theorem dX9_want_54 : decode cX9_want 54 = .ok (.getfield 31, 3) := by decide +kernel
theorem dX9_want_57 : decode cX9_want 57 = .ok (.aload_n 0, 1) := by decide +kernel
theorem dX9_want_58 : decode cX9_want 58 = .ok (.getfield 153, 3) := by decide +kernel
theorem dX9_want_61 : decode cX9_want 61 = .ok (.iload_n 2, 1) := by decide +kernel
theorem dX9_want_62 : decode cX9_want 62 = .ok (.iastore, 1) := by decide +kernel
theorem dX9_want_63 : decode cX9_want 63 = .ok (.aload_n 0, 1) := by decide +kernel
theorem dX9_want_64 : decode cX9_want 64 = .ok (.getfield 34, 3) := by decide +kernel
theorem dX9_want_67 : decode cX9_want 67 = .ok (.aload_n 0, 1) := by decide +kernel
theorem dX9_want_68 : decode cX9_want 68 = .ok (.getfield 153, 3) := by decide +kernel
theorem dX9_want_71 : decode cX9_want 71 = .ok (.iload_n 3, 1) := by decide +kernel
theorem dX9_want_72 : decode cX9_want 72 = .ok (.iastore, 1) := by decide +kernel
theorem dX9_want_73 : decode cX9_want 73 = .ok (.aload_n 0, 1) := by decide +kernel
theorem dX9_want_74 : decode cX9_want 74 = .ok (.dup, 1) := by decide +kernel
theorem dX9_want_75 : decode cX9_want 75 = .ok (.getfield 153, 3) := by decide +kernel
theorem dX9_want_78 : decode cX9_want 78 = .ok (.iconst 1, 1) := by decide +kernel
theorem dX9_want_79 : decode cX9_want 79 = .ok (.iadd, 1) := by decide +kernel
theorem dX9_want_80 : decode cX9_want 80 = .ok (.putfield 153, 3) := by decide +kernel
theorem dX9_want_83 : decode cX9_want 83 = .ok (.aload_n 0, 1) := by decide +kernel
theorem dX9_want_84 : decode cX9_want 84 = .ok (.getfield 153, 3) := by decide +kernel
theorem dX9_want_87 : decode cX9_want 87 = .ok (.iconst 1, 1) := by decide +kernel
theorem dX9_want_88 : decode cX9_want 88 = .ok (.isub, 1) := by decide +kernel
theorem dX9_want_89 : decode cX9_want 89 = .ok (.ireturn, 1) := by decide +kernel
theorem dX9_unwant_0 : decode cX9_unwant 0 = .ok (.aload_n 0, 1) := by decide +kernel
theorem dX9_unwant_1 : decode cX9_unwant 1 = .ok (.getfield 153, 3) := by decide +kernel
theorem dX9_unwant_4 : decode cX9_unwant 4 = .ok (.istore_n 1, 1) := by decide +kernel
theorem dX9_unwant_5 : decode cX9_unwant 5 = .ok (.aload_n 0, 1) := by decide +kernel
theorem dX9_unwant_6 : decode cX9_unwant 6 = .ok (.iconst 0, 1) := by decide +kernel
theorem dX9_unwant_7 : decode cX9_unwant 7 = .ok (.putfield 153, 3) := by decide +kernel
theorem dX9_unwant_10 : decode cX9_unwant 10 = .ok (.iload_n 1, 1) := by decide +kernel
theorem dX9_unwant_11 : decode cX9_unwant 11 = .ok (.ireturn, 1) := by decide +kernel
theorem dX9_unwanted_0 : decode cX9_unwanted 0 = .ok (.iconst 0, 1) := by decide +kernel
theorem dX9_unwanted_1 : decode cX9_unwanted 1 = .ok (.istore_n 3, 1) := by decide +kernel
theorem dX9_unwanted_2 : decode cX9_unwanted 2 = .ok (.iconst 0, 1) := by decide +kernel
theorem dX9_unwanted_3 : decode cX9_unwanted 3 = .ok (.istore 4, 2) := by decide +kernel
theorem dX9_unwanted_5 : decode cX9_unwanted 5 = .ok (.iload 4, 2) := by decide +kernel
theorem dX9_unwanted_7 : decode cX9_unwanted 7 = .ok (.aload_n 0, 1) := by decide +kernel
theorem dX9_unwanted_8 : decode cX9_unwanted 8 = .ok (.getfield 153, 3) := by decide +kernel
theorem dX9_unwanted_11 : decode cX9_unwanted 11 = .ok (.if_icmp .ge 45, 3) := by decide +kernel
theorem dX9_unwanted_14 : decode cX9_unwanted 14 = .ok (.iload_n 3, 1) := by decide +kernel
theorem dX9_unwanted_15 : decode cX9_unwanted 15 = .ok (.aload_n 0, 1) := by decide +kernel
theorem dX9_unwanted_16 : decode cX9_unwanted 16 = .ok (.getfield 28, 3) := by decide +kernel
theorem dX9_unwanted_19 : decode cX9_unwanted 19 = .ok (.iload 4, 2) := by decide +kernel
theorem dX9_unwanted_21 : decode cX9_unwanted 21 = .ok (.iaload, 1) := by decide +kernel
theorem dX9_unwanted_22 : decode cX9_unwanted 22 = .ok (.iload_n 1, 1) := by decide +kernel
theorem dX9_unwanted_23 : decode cX9_unwanted 23 = .ok (.if_icmp .ne 24, 3) := by decide +kernel
theorem dX9_unwanted_26 : decode cX9_unwanted 26 = .ok (.aload_n 0, 1) := by decide +kernel
theorem dX9_unwanted_27 : decode cX9_unwanted 27 = .ok (.getfield 31, 3) := by decide +kernel
theorem dX9_unwanted_30 : decode cX9_unwanted 30 = .ok (.iload 4, 2) := by decide +kernel
theorem dX9_unwanted_32 : decode cX9_unwanted 32 = .ok (.iaload, 1) := by decide +kernel
theorem dX9_unwanted_33 : decode cX9_unwanted 33 = .ok (.iload_n 2, 1) := by decide +kernel
theorem dX9_unwanted_34 : decode cX9_unwanted 34 = .ok (.if_icmp .eq 13, 3) := by decide +kernel
theorem dX9_unwanted_37 : decode cX9_unwanted 37 = .ok (.aload_n 0, 1) := by decide +kernel
theorem dX9_unwanted_38 : decode cX9_unwanted 38 = .ok (.getfield 34, 3) := by decide +kernel
theorem dX9_unwanted_41 : decode cX9_unwanted 41 = .ok (.iload 4, 2) := by decide +kernel
theorem dX9_unwanted_43 : decode cX9_unwanted 43 = .ok (.iaload, 1) := by decide +kernel
theorem dX9_unwanted_44 : decode cX9_unwanted 44 = .ok (.goto 4, 3) := by decide +kernel
theorem dX9_unwanted_47 : decode cX9_unwanted 47 = .ok (.iconst 0, 1) := by decide +kernel
theorem dX9_unwanted_48 : decode cX9_unwanted 48 = .ok (.iadd, 1) := by decide +kernel
theorem dX9_unwanted_49 : decode cX9_unwanted 49 = .ok (.istore_n 3, 1) := by decide +kernel
theorem dX9_unwanted_50 : decode cX9_unwanted 50 = .ok (.iinc 4 1, 3) := by decide +kernel
theorem dX9_unwanted_53 : decode cX9_unwanted 53 = .ok (.goto (-48), 3) := by decide +kernel
theorem dX9_unwanted_56 : decode cX9_unwanted 56 = .ok (.iload_n 3, 1) := by decide +kernel
theorem dX9_unwanted_57 : decode cX9_unwanted 57 = .ok (.ireturn, 1) := by decide +kernel
set_option maxRecDepth 20000 in
theorem ggX9_costOf_X9_unwanted : GoodIn wsX9_costOf wsX9_unwanted := goodIn_r _ [9, 10, 11, 12, 13, 14, 15, 16, 17, 18, 19, 20, 21, 22, 23, 24, 25, 26, 27, 28, 29, 30, 31, 32, 33, 34, 35, 36, 37, 38, 39, 40, 41] (by decide +kernel) (by decide +kernel)
set_option maxRecDepth 20000 in
theorem gX9_costOf_X9_unwanted : GoodIn wsX9_costOf (wsV RX9 156 RX9 yX9_unwanted wsX9_unwanted) := goodIn_app (goodIn_of _ (by decide +kernel)) ggX9_costOf_X9_unwanted
theorem dX9_costOf_0 : decode cX9_costOf 0 = .ok (.iconst 0, 1) := by decide +kernel
theorem dX9_costOf_1 : decode cX9_costOf 1 = .ok (.istore_n 1, 1) := by decide +kernel
theorem dX9_costOf_2 : decode cX9_costOf 2 = .ok (.iconst 0, 1) := by decide +kernel
theorem dX9_costOf_3 : decode cX9_costOf 3 = .ok (.istore_n 2, 1) := by decide +kernel
theorem dX9_costOf_4 : decode cX9_costOf 4 = .ok (.iconst 0, 1) := by decide +kernel
theorem dX9_costOf_5 : decode cX9_costOf 5 = .ok (.istore_n 3, 1) := by decide +kernel
theorem dX9_costOf_6 : decode cX9_costOf 6 = .ok (.iload_n 3, 1) := by decide +kernel
theorem dX9_costOf_7 : decode cX9_costOf 7 = .ok (.bipush 56, 2) := by decide +kernel
theorem dX9_costOf_9 : decode cX9_costOf 9 = .ok (.if_icmp .ge 95, 3) := by decide +kernel
theorem dX9_costOf_12 : decode cX9_costOf 12 = .ok (.iload_n 3, 1) := by decide +kernel
theorem dX9_costOf_13 : decode cX9_costOf 13 = .ok (.ifCond .le 24, 3) := by decide +kernel
theorem dX9_costOf_16 : decode cX9_costOf 16 = .ok (.aload_n 0, 1) := by decide +kernel
theorem dX9_costOf_17 : decode cX9_costOf 17 = .ok (.getfield 25, 3) := by decide +kernel
theorem dX9_costOf_20 : decode cX9_costOf 20 = .ok (.iload_n 3, 1) := by decide +kernel
theorem dX9_costOf_21 : decode cX9_costOf 21 = .ok (.iaload, 1) := by decide +kernel
theorem dX9_costOf_22 : decode cX9_costOf 22 = .ok (.aload_n 0, 1) := by decide +kernel
theorem dX9_costOf_23 : decode cX9_costOf 23 = .ok (.getfield 25, 3) := by decide +kernel
theorem dX9_costOf_26 : decode cX9_costOf 26 = .ok (.iload_n 3, 1) := by decide +kernel
theorem dX9_costOf_27 : decode cX9_costOf 27 = .ok (.iconst 1, 1) := by decide +kernel
theorem dX9_costOf_28 : decode cX9_costOf 28 = .ok (.isub, 1) := by decide +kernel
theorem dX9_costOf_29 : decode cX9_costOf 29 = .ok (.iaload, 1) := by decide +kernel
theorem dX9_costOf_30 : decode cX9_costOf 30 = .ok (.if_icmp .eq 7, 3) := by decide +kernel
theorem dX9_costOf_33 : decode cX9_costOf 33 = .ok (.iconst 1, 1) := by decide +kernel
theorem dX9_costOf_34 : decode cX9_costOf 34 = .ok (.goto 4, 3) := by decide +kernel
theorem dX9_costOf_37 : decode cX9_costOf 37 = .ok (.iconst 0, 1) := by decide +kernel
theorem dX9_costOf_38 : decode cX9_costOf 38 = .ok (.istore 4, 2) := by decide +kernel
theorem dX9_costOf_40 : decode cX9_costOf 40 = .ok (.iload 4, 2) := by decide +kernel
theorem dX9_costOf_42 : decode cX9_costOf 42 = .ok (.ifCond .eq 7, 3) := by decide +kernel
theorem dX9_costOf_45 : decode cX9_costOf 45 = .ok (.iconst 1, 1) := by decide +kernel
theorem dX9_costOf_46 : decode cX9_costOf 46 = .ok (.goto 6, 3) := by decide +kernel
theorem dX9_costOf_49 : decode cX9_costOf 49 = .ok (.iload_n 2, 1) := by decide +kernel
theorem dX9_costOf_50 : decode cX9_costOf 50 = .ok (.iconst 1, 1) := by decide +kernel
theorem dX9_costOf_51 : decode cX9_costOf 51 = .ok (.iadd, 1) := by decide +kernel
theorem dX9_costOf_52 : decode cX9_costOf 52 = .ok (.istore_n 2, 1) := by decide +kernel
theorem dX9_costOf_53 : decode cX9_costOf 53 = .ok (.iload_n 1, 1) := by decide +kernel
theorem dX9_costOf_54 : decode cX9_costOf 54 = .ok (.iload 4, 2) := by decide +kernel
theorem dX9_costOf_56 : decode cX9_costOf 56 = .ok (.ifCond .eq 10, 3) := by decide +kernel
theorem dX9_costOf_59 : decode cX9_costOf 59 = .ok (.aload_n 0, 1) := by decide +kernel
theorem dX9_costOf_60 : decode cX9_costOf 60 = .ok (.getfield 69, 3) := by decide +kernel
theorem dX9_costOf_63 : decode cX9_costOf 63 = .ok (.goto 4, 3) := by decide +kernel
theorem dX9_costOf_66 : decode cX9_costOf 66 = .ok (.iconst 0, 1) := by decide +kernel
theorem dX9_costOf_67 : decode cX9_costOf 67 = .ok (.iload_n 2, 1) := by decide +kernel
theorem dX9_costOf_68 : decode cX9_costOf 68 = .ok (.aload_n 0, 1) := by decide +kernel
theorem dX9_costOf_69 : decode cX9_costOf 69 = .ok (.getfield 62, 3) := by decide +kernel
theorem dX9_costOf_72 : decode cX9_costOf 72 = .ok (.if_icmp .le 10, 3) := by decide +kernel
theorem dX9_costOf_75 : decode cX9_costOf 75 = .ok (.aload_n 0, 1) := by decide +kernel
theorem dX9_costOf_76 : decode cX9_costOf 76 = .ok (.getfield 66, 3) := by decide +kernel
theorem dX9_costOf_79 : decode cX9_costOf 79 = .ok (.goto 4, 3) := by decide +kernel
theorem dX9_costOf_82 : decode cX9_costOf 82 = .ok (.iconst 0, 1) := by decide +kernel
theorem dX9_costOf_83 : decode cX9_costOf 83 = .ok (.iadd, 1) := by decide +kernel
theorem dX9_costOf_84 : decode cX9_costOf 84 = .ok (.aload_n 0, 1) := by decide +kernel
theorem dX9_costOf_85 : decode cX9_costOf 85 = .ok (.iload_n 3, 1) := by decide +kernel
theorem dX9_costOf_86 : decode cX9_costOf 86 = .ok (.aload_n 0, 1) := by decide +kernel
theorem dX9_costOf_87 : decode cX9_costOf 87 = .ok (.getfield 25, 3) := by decide +kernel
theorem dX9_costOf_90 : decode cX9_costOf 90 = .ok (.iload_n 3, 1) := by decide +kernel
theorem dX9_costOf_91 : decode cX9_costOf 91 = .ok (.iaload, 1) := by decide +kernel
theorem dX9_costOf_92 : decode cX9_costOf 92 = .ok (.invokevirtual 156, 3) := by decide +kernel
theorem dX9_costOf_95 : decode cX9_costOf 95 = .ok (.iadd, 1) := by decide +kernel
theorem dX9_costOf_96 : decode cX9_costOf 96 = .ok (.iadd, 1) := by decide +kernel
theorem dX9_costOf_97 : decode cX9_costOf 97 = .ok (.istore_n 1, 1) := by decide +kernel
theorem dX9_costOf_98 : decode cX9_costOf 98 = .ok (.iinc 3 1, 3) := by decide +kernel
theorem dX9_costOf_101 : decode cX9_costOf 101 = .ok (.goto (-95), 3) := by decide +kernel
theorem dX9_costOf_104 : decode cX9_costOf 104 = .ok (.iload_n 1, 1) := by decide +kernel
theorem dX9_costOf_105 : decode cX9_costOf 105 = .ok (.ireturn, 1) := by decide +kernel
set_option maxRecDepth 20000 in
theorem ggX9_cost_X9_costOf : GoodIn wsX9_cost wsX9_costOf := goodIn_r _ [5, 6, 7, 8, 9, 10, 11, 12, 4, 13, 14, 15, 16, 17, 18, 19, 20, 21, 22, 23, 24, 25, 26, 27, 28, 29, 30, 31, 32, 33, 34, 35, 36, 37, 38, 39, 40, 41, 42, 43, 44, 45] (by decide +kernel) (by decide +kernel)
set_option maxRecDepth 20000 in
theorem gX9_cost_X9_costOf : GoodIn wsX9_cost (wsV RX9 159 RX9 yX9_costOf wsX9_costOf) := goodIn_app (goodIn_of _ (by decide +kernel)) ggX9_cost_X9_costOf
theorem dX9_cost_0 : decode cX9_cost 0 = .ok (.aload_n 0, 1) := by decide +kernel
theorem dX9_cost_1 : decode cX9_cost 1 = .ok (.invokevirtual 159, 3) := by decide +kernel
theorem dX9_cost_4 : decode cX9_cost 4 = .ok (.ireturn, 1) := by decide +kernel
theorem dX9_mayBe_0 : decode cX9_mayBe 0 = .ok (.iload_n 1, 1) := by decide +kernel
theorem dX9_mayBe_1 : decode cX9_mayBe 1 = .ok (.bipush 7, 2) := by decide +kernel
theorem dX9_mayBe_3 : decode cX9_mayBe 3 = .ok (.irem, 1) := by decide +kernel
theorem dX9_mayBe_4 : decode cX9_mayBe 4 = .ok (.istore 4, 2) := by decide +kernel
theorem dX9_mayBe_6 : decode cX9_mayBe 6 = .ok (.iload_n 3, 1) := by decide +kernel
theorem dX9_mayBe_7 : decode cX9_mayBe 7 = .ok (.ifCond .eq 26, 3) := by decide +kernel
theorem dX9_mayBe_10 : decode cX9_mayBe 10 = .ok (.iload 4, 2) := by decide +kernel
theorem dX9_mayBe_12 : decode cX9_mayBe 12 = .ok (.bipush 6, 2) := by decide +kernel
theorem dX9_mayBe_14 : decode cX9_mayBe 14 = .ok (.if_icmp .eq 9, 3) := by decide +kernel
theorem dX9_mayBe_17 : decode cX9_mayBe 17 = .ok (.iload 4, 2) := by decide +kernel
theorem dX9_mayBe_19 : decode cX9_mayBe 19 = .ok (.iconst 4, 1) := by decide +kernel
theorem dX9_mayBe_20 : decode cX9_mayBe 20 = .ok (.if_icmp .ge 13, 3) := by decide +kernel
theorem dX9_mayBe_23 : decode cX9_mayBe 23 = .ok (.iload_n 2, 1) := by decide +kernel
theorem dX9_mayBe_24 : decode cX9_mayBe 24 = .ok (.ifCond .ne 7, 3) := by decide +kernel
theorem dX9_mayBe_27 : decode cX9_mayBe 27 = .ok (.iconst 1, 1) := by decide +kernel
theorem dX9_mayBe_28 : decode cX9_mayBe 28 = .ok (.goto 4, 3) := by decide +kernel
theorem dX9_mayBe_31 : decode cX9_mayBe 31 = .ok (.iconst 0, 1) := by decide +kernel
theorem dX9_mayBe_32 : decode cX9_mayBe 32 = .ok (.ireturn, 1) := by decide +kernel
theorem dX9_mayBe_33 : decode cX9_mayBe 33 = .ok (.aload_n 0, 1) := by decide +kernel
theorem dX9_mayBe_34 : decode cX9_mayBe 34 = .ok (.getfield 22, 3) := by decide +kernel
theorem dX9_mayBe_37 : decode cX9_mayBe 37 = .ok (.iload_n 1, 1) := by decide +kernel
theorem dX9_mayBe_38 : decode cX9_mayBe 38 = .ok (.iaload, 1) := by decide +kernel
theorem dX9_mayBe_39 : decode cX9_mayBe 39 = .ok (.iconst 1, 1) := by decide +kernel
theorem dX9_mayBe_40 : decode cX9_mayBe 40 = .ok (.if_icmp .gt 13, 3) := by decide +kernel
theorem dX9_mayBe_43 : decode cX9_mayBe 43 = .ok (.aload_n 0, 1) := by decide +kernel
theorem dX9_mayBe_44 : decode cX9_mayBe 44 = .ok (.getfield 22, 3) := by decide +kernel
theorem dX9_mayBe_47 : decode cX9_mayBe 47 = .ok (.iload_n 1, 1) := by decide +kernel
theorem dX9_mayBe_48 : decode cX9_mayBe 48 = .ok (.iaload, 1) := by decide +kernel
theorem dX9_mayBe_49 : decode cX9_mayBe 49 = .ok (.iload_n 2, 1) := by decide +kernel
theorem dX9_mayBe_50 : decode cX9_mayBe 50 = .ok (.if_icmp .ne 7, 3) := by decide +kernel
theorem dX9_mayBe_53 : decode cX9_mayBe 53 = .ok (.iconst 1, 1) := by decide +kernel
theorem dX9_mayBe_54 : decode cX9_mayBe 54 = .ok (.goto 4, 3) := by decide +kernel
theorem dX9_mayBe_57 : decode cX9_mayBe 57 = .ok (.iconst 0, 1) := by decide +kernel
theorem dX9_mayBe_58 : decode cX9_mayBe 58 = .ok (.ireturn, 1) := by decide +kernel
set_option maxRecDepth 20000 in
theorem ggX9_from_X9_mayBe : GoodIn wsX9_from wsX9_mayBe := goodIn_r _ [10, 11, 20, 21, 22, 23, 24, 25, 26, 27, 28, 29, 30, 31, 32, 33, 34, 35, 36, 37, 38, 39, 40, 41, 42, 43, 44, 45, 46, 47] (by decide +kernel) (by decide +kernel)
set_option maxRecDepth 20000 in
theorem gX9_from_X9_mayBe : GoodIn wsX9_from (wsV RX9 162 RX9 yX9_mayBe wsX9_mayBe) := goodIn_app (goodIn_of _ (by decide +kernel)) ggX9_from_X9_mayBe
set_option maxRecDepth 20000 in
theorem ggX9_from_X9_unwanted : GoodIn wsX9_from wsX9_unwanted := goodIn_r _ [15, 16, 17, 18, 19, 20, 21, 22, 23, 24, 25, 26, 27, 28, 29, 30, 31, 32, 33, 34, 35, 36, 37, 38, 39, 40, 41, 42, 43, 44, 45, 46, 47] (by decide +kernel) (by decide +kernel)
set_option maxRecDepth 20000 in
theorem gX9_from_X9_unwanted : GoodIn wsX9_from (wsV RX9 156 RX9 yX9_unwanted wsX9_unwanted) := goodIn_app (goodIn_of _ (by decide +kernel)) ggX9_from_X9_unwanted
theorem dX9_from_0 : decode cX9_from 0 = .ok (.aload_n 0, 1) := by decide +kernel
theorem dX9_from_1 : decode cX9_from 1 = .ok (.iload_n 1, 1) := by decide +kernel
theorem dX9_from_2 : decode cX9_from 2 = .ok (.iload_n 2, 1) := by decide +kernel
theorem dX9_from_3 : decode cX9_from 3 = .ok (.iload 5, 2) := by decide +kernel
theorem dX9_from_5 : decode cX9_from 5 = .ok (.invokevirtual 162, 3) := by decide +kernel
theorem dX9_from_8 : decode cX9_from 8 = .ok (.ifCond .ne 6, 3) := by decide +kernel
theorem dX9_from_11 : decode cX9_from 11 = .ok (.ldc 166, 2) := by decide +kernel
theorem dX9_from_13 : decode cX9_from 13 = .ok (.ireturn, 1) := by decide +kernel
theorem dX9_from_14 : decode cX9_from 14 = .ok (.iload 4, 2) := by decide +kernel
theorem dX9_from_16 : decode cX9_from 16 = .ok (.ifCond .le 12, 3) := by decide +kernel
theorem dX9_from_19 : decode cX9_from 19 = .ok (.iload_n 2, 1) := by decide +kernel
theorem dX9_from_20 : decode cX9_from 20 = .ok (.iload_n 3, 1) := by decide +kernel
theorem dX9_from_21 : decode cX9_from 21 = .ok (.if_icmp .eq 7, 3) := by decide +kernel
theorem dX9_from_24 : decode cX9_from 24 = .ok (.iconst 1, 1) := by decide +kernel
theorem dX9_from_25 : decode cX9_from 25 = .ok (.goto 4, 3) := by decide +kernel
theorem dX9_from_28 : decode cX9_from 28 = .ok (.iconst 0, 1) := by decide +kernel
theorem dX9_from_29 : decode cX9_from 29 = .ok (.istore 6, 2) := by decide +kernel
theorem dX9_from_31 : decode cX9_from 31 = .ok (.iload 6, 2) := by decide +kernel
theorem dX9_from_33 : decode cX9_from 33 = .ok (.ifCond .ne 8, 3) := by decide +kernel
theorem dX9_from_36 : decode cX9_from 36 = .ok (.iload 4, 2) := by decide +kernel
theorem dX9_from_38 : decode cX9_from 38 = .ok (.ifCond .ne 7, 3) := by decide +kernel
theorem dX9_from_41 : decode cX9_from 41 = .ok (.iconst 1, 1) := by decide +kernel
theorem dX9_from_42 : decode cX9_from 42 = .ok (.goto 21, 3) := by decide +kernel
theorem dX9_from_45 : decode cX9_from 45 = .ok (.iload 4, 2) := by decide +kernel
theorem dX9_from_47 : decode cX9_from 47 = .ok (.aload_n 0, 1) := by decide +kernel
theorem dX9_from_48 : decode cX9_from 48 = .ok (.getfield 62, 3) := by decide +kernel
theorem dX9_from_51 : decode cX9_from 51 = .ok (.if_icmp .le 8, 3) := by decide +kernel
theorem dX9_from_54 : decode cX9_from 54 = .ok (.iload 4, 2) := by decide +kernel
theorem dX9_from_56 : decode cX9_from 56 = .ok (.goto 7, 3) := by decide +kernel
theorem dX9_from_59 : decode cX9_from 59 = .ok (.iload 4, 2) := by decide +kernel
theorem dX9_from_61 : decode cX9_from 61 = .ok (.iconst 1, 1) := by decide +kernel
theorem dX9_from_62 : decode cX9_from 62 = .ok (.iadd, 1) := by decide +kernel
theorem dX9_from_63 : decode cX9_from 63 = .ok (.istore 7, 2) := by decide +kernel
theorem dX9_from_65 : decode cX9_from 65 = .ok (.aload_n 0, 1) := by decide +kernel
theorem dX9_from_66 : decode cX9_from 66 = .ok (.getfield 37, 3) := by decide +kernel
theorem dX9_from_69 : decode cX9_from 69 = .ok (.bipush 32, 2) := by decide +kernel
theorem dX9_from_71 : decode cX9_from 71 = .ok (.iload_n 1, 1) := by decide +kernel
theorem dX9_from_72 : decode cX9_from 72 = .ok (.imul, 1) := by decide +kernel
theorem dX9_from_73 : decode cX9_from 73 = .ok (.bipush 32, 2) := by decide +kernel
theorem dX9_from_75 : decode cX9_from 75 = .ok (.iadd, 1) := by decide +kernel
theorem dX9_from_76 : decode cX9_from 76 = .ok (.bipush 16, 2) := by decide +kernel
theorem dX9_from_78 : decode cX9_from 78 = .ok (.iload_n 2, 1) := by decide +kernel
theorem dX9_from_79 : decode cX9_from 79 = .ok (.imul, 1) := by decide +kernel
theorem dX9_from_80 : decode cX9_from 80 = .ok (.iadd, 1) := by decide +kernel
theorem dX9_from_81 : decode cX9_from 81 = .ok (.iload 7, 2) := by decide +kernel
theorem dX9_from_83 : decode cX9_from 83 = .ok (.iadd, 1) := by decide +kernel
theorem dX9_from_84 : decode cX9_from 84 = .ok (.iaload, 1) := by decide +kernel
theorem dX9_from_85 : decode cX9_from 85 = .ok (.istore 8, 2) := by decide +kernel
theorem dX9_from_87 : decode cX9_from 87 = .ok (.iload 8, 2) := by decide +kernel
theorem dX9_from_89 : decode cX9_from 89 = .ok (.iload 6, 2) := by decide +kernel
theorem dX9_from_91 : decode cX9_from 91 = .ok (.ifCond .eq 10, 3) := by decide +kernel
theorem dX9_from_94 : decode cX9_from 94 = .ok (.aload_n 0, 1) := by decide +kernel
theorem dX9_from_95 : decode cX9_from 95 = .ok (.getfield 69, 3) := by decide +kernel
theorem dX9_from_98 : decode cX9_from 98 = .ok (.goto 4, 3) := by decide +kernel
theorem dX9_from_101 : decode cX9_from 101 = .ok (.iconst 0, 1) := by decide +kernel
theorem dX9_from_102 : decode cX9_from 102 = .ok (.iadd, 1) := by decide +kernel
theorem dX9_from_103 : decode cX9_from 103 = .ok (.iload 7, 2) := by decide +kernel
theorem dX9_from_105 : decode cX9_from 105 = .ok (.aload_n 0, 1) := by decide +kernel
theorem dX9_from_106 : decode cX9_from 106 = .ok (.getfield 62, 3) := by decide +kernel
theorem dX9_from_109 : decode cX9_from 109 = .ok (.if_icmp .le 10, 3) := by decide +kernel
theorem dX9_from_112 : decode cX9_from 112 = .ok (.aload_n 0, 1) := by decide +kernel
theorem dX9_from_113 : decode cX9_from 113 = .ok (.getfield 66, 3) := by decide +kernel
theorem dX9_from_116 : decode cX9_from 116 = .ok (.goto 4, 3) := by decide +kernel
theorem dX9_from_119 : decode cX9_from 119 = .ok (.iconst 0, 1) := by decide +kernel
theorem dX9_from_120 : decode cX9_from 120 = .ok (.iadd, 1) := by decide +kernel
theorem dX9_from_121 : decode cX9_from 121 = .ok (.aload_n 0, 1) := by decide +kernel
theorem dX9_from_122 : decode cX9_from 122 = .ok (.iload_n 1, 1) := by decide +kernel
theorem dX9_from_123 : decode cX9_from 123 = .ok (.iload_n 2, 1) := by decide +kernel
theorem dX9_from_124 : decode cX9_from 124 = .ok (.invokevirtual 156, 3) := by decide +kernel
theorem dX9_from_127 : decode cX9_from 127 = .ok (.iadd, 1) := by decide +kernel
theorem dX9_from_128 : decode cX9_from 128 = .ok (.ireturn, 1) := by decide +kernel
set_option maxRecDepth 20000 in
theorem ggX9_layBest_X9_layWhose : GoodIn wsX9_layBest wsX9_layWhose := goodIn_r _ [9, 10, 11, 12, 13, 14, 8, 15, 16, 17, 18, 19, 20, 21, 22, 23, 24, 25, 44, 45, 46, 47, 48, 49, 50, 51, 52, 53, 54, 55, 56, 57, 58, 59, 60, 61, 62, 63, 64, 65, 66, 67, 68, 69, 70, 71] (by decide +kernel) (by decide +kernel)
set_option maxRecDepth 20000 in
theorem gX9_layBest_X9_layWhose : GoodIn wsX9_layBest (wsV RX9 134 RX9 yX9_layWhose wsX9_layWhose) := goodIn_app (goodIn_of _ (by decide +kernel)) ggX9_layBest_X9_layWhose
set_option maxRecDepth 20000 in
theorem ggX9_layBest_X9_from : GoodIn wsX9_layBest wsX9_from := goodIn_r _ [29, 3, 2, 1, 30, 31, 32, 33, 34, 8, 35, 10, 36, 37, 38, 39, 40, 41, 42, 43, 44, 45, 46, 47, 48, 49, 50, 51, 52, 53, 54, 55, 56, 57, 58, 59, 60, 61, 62, 63, 64, 65, 66, 67, 68, 69, 70, 71] (by decide +kernel) (by decide +kernel)
set_option maxRecDepth 20000 in
theorem gX9_layBest_X9_from : GoodIn wsX9_layBest (wsV RX9 167 RX9 yX9_from wsX9_from) := goodIn_app (goodIn_of _ (by decide +kernel)) ggX9_layBest_X9_from
theorem dX9_layBest_0 : decode cX9_layBest 0 = .ok (.aload_n 0, 1) := by decide +kernel
theorem dX9_layBest_1 : decode cX9_layBest 1 = .ok (.invokevirtual 134, 3) := by decide +kernel
theorem dX9_layBest_4 : decode cX9_layBest 4 = .ok (.iconst 0, 1) := by decide +kernel
theorem dX9_layBest_5 : decode cX9_layBest 5 = .ok (.istore_n 2, 1) := by decide +kernel
theorem dX9_layBest_6 : decode cX9_layBest 6 = .ok (.iload_n 2, 1) := by decide +kernel
theorem dX9_layBest_7 : decode cX9_layBest 7 = .ok (.bipush 32, 2) := by decide +kernel
theorem dX9_layBest_9 : decode cX9_layBest 9 = .ok (.if_icmp .ge 20, 3) := by decide +kernel
theorem dX9_layBest_12 : decode cX9_layBest 12 = .ok (.aload_n 0, 1) := by decide +kernel
theorem dX9_layBest_13 : decode cX9_layBest 13 = .ok (.getfield 37, 3) := by decide +kernel
theorem dX9_layBest_16 : decode cX9_layBest 16 = .ok (.sipush 1792, 3) := by decide +kernel
theorem dX9_layBest_19 : decode cX9_layBest 19 = .ok (.iload_n 2, 1) := by decide +kernel
theorem dX9_layBest_20 : decode cX9_layBest 20 = .ok (.iadd, 1) := by decide +kernel
theorem dX9_layBest_21 : decode cX9_layBest 21 = .ok (.iconst 0, 1) := by decide +kernel
theorem dX9_layBest_22 : decode cX9_layBest 22 = .ok (.iastore, 1) := by decide +kernel
theorem dX9_layBest_23 : decode cX9_layBest 23 = .ok (.iinc 2 1, 3) := by decide +kernel
theorem dX9_layBest_26 : decode cX9_layBest 26 = .ok (.goto (-20), 3) := by decide +kernel
theorem dX9_layBest_29 : decode cX9_layBest 29 = .ok (.bipush 55, 2) := by decide +kernel
theorem dX9_layBest_31 : decode cX9_layBest 31 = .ok (.istore_n 2, 1) := by decide +kernel
theorem dX9_layBest_32 : decode cX9_layBest 32 = .ok (.iload_n 2, 1) := by decide +kernel
theorem dX9_layBest_33 : decode cX9_layBest 33 = .ok (.ifCond .lt 143, 3) := by decide +kernel
theorem dX9_layBest_36 : decode cX9_layBest 36 = .ok (.iconst 0, 1) := by decide +kernel
theorem dX9_layBest_37 : decode cX9_layBest 37 = .ok (.istore_n 3, 1) := by decide +kernel
theorem dX9_layBest_38 : decode cX9_layBest 38 = .ok (.iload_n 3, 1) := by decide +kernel
theorem dX9_layBest_39 : decode cX9_layBest 39 = .ok (.bipush 32, 2) := by decide +kernel
theorem dX9_layBest_41 : decode cX9_layBest 41 = .ok (.if_icmp .ge 129, 3) := by decide +kernel
theorem dX9_layBest_44 : decode cX9_layBest 44 = .ok (.iload_n 3, 1) := by decide +kernel
theorem dX9_layBest_45 : decode cX9_layBest 45 = .ok (.bipush 16, 2) := by decide +kernel
theorem dX9_layBest_47 : decode cX9_layBest 47 = .ok (.irem, 1) := by decide +kernel
theorem dX9_layBest_48 : decode cX9_layBest 48 = .ok (.istore 4, 2) := by decide +kernel
theorem dX9_layBest_50 : decode cX9_layBest 50 = .ok (.iload_n 2, 1) := by decide +kernel
theorem dX9_layBest_51 : decode cX9_layBest 51 = .ok (.ifCond .ne 15, 3) := by decide +kernel
theorem dX9_layBest_54 : decode cX9_layBest 54 = .ok (.iload_n 3, 1) := by decide +kernel
theorem dX9_layBest_55 : decode cX9_layBest 55 = .ok (.ifCond .ne 7, 3) := by decide +kernel
theorem dX9_layBest_58 : decode cX9_layBest 58 = .ok (.iconst 1, 1) := by decide +kernel
theorem dX9_layBest_59 : decode cX9_layBest 59 = .ok (.goto 28, 3) := by decide +kernel
theorem dX9_layBest_62 : decode cX9_layBest 62 = .ok (.iconst 0, 1) := by decide +kernel
theorem dX9_layBest_63 : decode cX9_layBest 63 = .ok (.goto 24, 3) := by decide +kernel
theorem dX9_layBest_66 : decode cX9_layBest 66 = .ok (.iload 4, 2) := by decide +kernel
theorem dX9_layBest_68 : decode cX9_layBest 68 = .ok (.ifCond .le 18, 3) := by decide +kernel
theorem dX9_layBest_71 : decode cX9_layBest 71 = .ok (.iload 4, 2) := by decide +kernel
theorem dX9_layBest_73 : decode cX9_layBest 73 = .ok (.aload_n 0, 1) := by decide +kernel
theorem dX9_layBest_74 : decode cX9_layBest 74 = .ok (.getfield 62, 3) := by decide +kernel
theorem dX9_layBest_77 : decode cX9_layBest 77 = .ok (.iconst 1, 1) := by decide +kernel
theorem dX9_layBest_78 : decode cX9_layBest 78 = .ok (.iadd, 1) := by decide +kernel
theorem dX9_layBest_79 : decode cX9_layBest 79 = .ok (.if_icmp .gt 7, 3) := by decide +kernel
theorem dX9_layBest_82 : decode cX9_layBest 82 = .ok (.iconst 1, 1) := by decide +kernel
theorem dX9_layBest_83 : decode cX9_layBest 83 = .ok (.goto 4, 3) := by decide +kernel
theorem dX9_layBest_86 : decode cX9_layBest 86 = .ok (.iconst 0, 1) := by decide +kernel
theorem dX9_layBest_87 : decode cX9_layBest 87 = .ok (.istore 5, 2) := by decide +kernel
theorem dX9_layBest_89 : decode cX9_layBest 89 = .ok (.iload 5, 2) := by decide +kernel
theorem dX9_layBest_91 : decode cX9_layBest 91 = .ok (.ifCond .eq 19, 3) := by decide +kernel
theorem dX9_layBest_94 : decode cX9_layBest 94 = .ok (.aload_n 0, 1) := by decide +kernel
theorem dX9_layBest_95 : decode cX9_layBest 95 = .ok (.iload_n 2, 1) := by decide +kernel
theorem dX9_layBest_96 : decode cX9_layBest 96 = .ok (.iconst 0, 1) := by decide +kernel
theorem dX9_layBest_97 : decode cX9_layBest 97 = .ok (.iload_n 3, 1) := by decide +kernel
theorem dX9_layBest_98 : decode cX9_layBest 98 = .ok (.bipush 16, 2) := by decide +kernel
theorem dX9_layBest_100 : decode cX9_layBest 100 = .ok (.idiv, 1) := by decide +kernel
theorem dX9_layBest_101 : decode cX9_layBest 101 = .ok (.iload 4, 2) := by decide +kernel
theorem dX9_layBest_103 : decode cX9_layBest 103 = .ok (.iload_n 1, 1) := by decide +kernel
theorem dX9_layBest_104 : decode cX9_layBest 104 = .ok (.invokevirtual 167, 3) := by decide +kernel
theorem dX9_layBest_107 : decode cX9_layBest 107 = .ok (.goto 5, 3) := by decide +kernel
theorem dX9_layBest_110 : decode cX9_layBest 110 = .ok (.ldc 166, 2) := by decide +kernel
theorem dX9_layBest_112 : decode cX9_layBest 112 = .ok (.istore 6, 2) := by decide +kernel
theorem dX9_layBest_114 : decode cX9_layBest 114 = .ok (.iload 5, 2) := by decide +kernel
theorem dX9_layBest_116 : decode cX9_layBest 116 = .ok (.ifCond .eq 19, 3) := by decide +kernel
theorem dX9_layBest_119 : decode cX9_layBest 119 = .ok (.aload_n 0, 1) := by decide +kernel
theorem dX9_layBest_120 : decode cX9_layBest 120 = .ok (.iload_n 2, 1) := by decide +kernel
theorem dX9_layBest_121 : decode cX9_layBest 121 = .ok (.iconst 1, 1) := by decide +kernel
theorem dX9_layBest_122 : decode cX9_layBest 122 = .ok (.iload_n 3, 1) := by decide +kernel
theorem dX9_layBest_123 : decode cX9_layBest 123 = .ok (.bipush 16, 2) := by decide +kernel
theorem dX9_layBest_125 : decode cX9_layBest 125 = .ok (.idiv, 1) := by decide +kernel
theorem dX9_layBest_126 : decode cX9_layBest 126 = .ok (.iload 4, 2) := by decide +kernel
theorem dX9_layBest_128 : decode cX9_layBest 128 = .ok (.iload_n 1, 1) := by decide +kernel
theorem dX9_layBest_129 : decode cX9_layBest 129 = .ok (.invokevirtual 167, 3) := by decide +kernel
theorem dX9_layBest_132 : decode cX9_layBest 132 = .ok (.goto 5, 3) := by decide +kernel
theorem dX9_layBest_135 : decode cX9_layBest 135 = .ok (.ldc 166, 2) := by decide +kernel
theorem dX9_layBest_137 : decode cX9_layBest 137 = .ok (.istore 7, 2) := by decide +kernel
theorem dX9_layBest_139 : decode cX9_layBest 139 = .ok (.aload_n 0, 1) := by decide +kernel
theorem dX9_layBest_140 : decode cX9_layBest 140 = .ok (.getfield 37, 3) := by decide +kernel
theorem dX9_layBest_143 : decode cX9_layBest 143 = .ok (.bipush 32, 2) := by decide +kernel
theorem dX9_layBest_145 : decode cX9_layBest 145 = .ok (.iload_n 2, 1) := by decide +kernel
theorem dX9_layBest_146 : decode cX9_layBest 146 = .ok (.imul, 1) := by decide +kernel
theorem dX9_layBest_147 : decode cX9_layBest 147 = .ok (.iload_n 3, 1) := by decide +kernel
theorem dX9_layBest_148 : decode cX9_layBest 148 = .ok (.iadd, 1) := by decide +kernel
theorem dX9_layBest_149 : decode cX9_layBest 149 = .ok (.iload 6, 2) := by decide +kernel
theorem dX9_layBest_151 : decode cX9_layBest 151 = .ok (.iload 7, 2) := by decide +kernel
theorem dX9_layBest_153 : decode cX9_layBest 153 = .ok (.if_icmp .ge 8, 3) := by decide +kernel
theorem dX9_layBest_156 : decode cX9_layBest 156 = .ok (.iload 6, 2) := by decide +kernel
theorem dX9_layBest_158 : decode cX9_layBest 158 = .ok (.goto 5, 3) := by decide +kernel
theorem dX9_layBest_161 : decode cX9_layBest 161 = .ok (.iload 7, 2) := by decide +kernel
theorem dX9_layBest_163 : decode cX9_layBest 163 = .ok (.iastore, 1) := by decide +kernel
theorem dX9_layBest_164 : decode cX9_layBest 164 = .ok (.iinc 3 1, 3) := by decide +kernel
theorem dX9_layBest_167 : decode cX9_layBest 167 = .ok (.goto (-129), 3) := by decide +kernel
theorem dX9_layBest_170 : decode cX9_layBest 170 = .ok (.iinc 2 (-1), 3) := by decide +kernel
theorem dX9_layBest_173 : decode cX9_layBest 173 = .ok (.goto (-141), 3) := by decide +kernel
theorem dX9_layBest_176 : decode cX9_layBest 176 = .ok (.iconst 0, 1) := by decide +kernel
theorem dX9_layBest_177 : decode cX9_layBest 177 = .ok (.istore_n 2, 1) := by decide +kernel
theorem dX9_layBest_178 : decode cX9_layBest 178 = .ok (.iconst 0, 1) := by decide +kernel
theorem dX9_layBest_179 : decode cX9_layBest 179 = .ok (.istore_n 3, 1) := by decide +kernel
theorem dX9_layBest_180 : decode cX9_layBest 180 = .ok (.iconst 0, 1) := by decide +kernel
theorem dX9_layBest_181 : decode cX9_layBest 181 = .ok (.istore 4, 2) := by decide +kernel
theorem dX9_layBest_183 : decode cX9_layBest 183 = .ok (.iload 4, 2) := by decide +kernel
theorem dX9_layBest_185 : decode cX9_layBest 185 = .ok (.bipush 56, 2) := by decide +kernel
theorem dX9_layBest_187 : decode cX9_layBest 187 = .ok (.if_icmp .ge 88, 3) := by decide +kernel
theorem dX9_layBest_190 : decode cX9_layBest 190 = .ok (.aload_n 0, 1) := by decide +kernel
theorem dX9_layBest_191 : decode cX9_layBest 191 = .ok (.iload 4, 2) := by decide +kernel
theorem dX9_layBest_193 : decode cX9_layBest 193 = .ok (.iconst 0, 1) := by decide +kernel
theorem dX9_layBest_194 : decode cX9_layBest 194 = .ok (.iload_n 2, 1) := by decide +kernel
theorem dX9_layBest_195 : decode cX9_layBest 195 = .ok (.iload_n 3, 1) := by decide +kernel
theorem dX9_layBest_196 : decode cX9_layBest 196 = .ok (.iload_n 1, 1) := by decide +kernel
theorem dX9_layBest_197 : decode cX9_layBest 197 = .ok (.invokevirtual 167, 3) := by decide +kernel
theorem dX9_layBest_200 : decode cX9_layBest 200 = .ok (.aload_n 0, 1) := by decide +kernel
theorem dX9_layBest_201 : decode cX9_layBest 201 = .ok (.getfield 37, 3) := by decide +kernel
theorem dX9_layBest_204 : decode cX9_layBest 204 = .ok (.bipush 32, 2) := by decide +kernel
theorem dX9_layBest_206 : decode cX9_layBest 206 = .ok (.iload 4, 2) := by decide +kernel
theorem dX9_layBest_208 : decode cX9_layBest 208 = .ok (.imul, 1) := by decide +kernel
theorem dX9_layBest_209 : decode cX9_layBest 209 = .ok (.bipush 16, 2) := by decide +kernel
theorem dX9_layBest_211 : decode cX9_layBest 211 = .ok (.iload_n 2, 1) := by decide +kernel
theorem dX9_layBest_212 : decode cX9_layBest 212 = .ok (.imul, 1) := by decide +kernel
theorem dX9_layBest_213 : decode cX9_layBest 213 = .ok (.iadd, 1) := by decide +kernel
theorem dX9_layBest_214 : decode cX9_layBest 214 = .ok (.iload_n 3, 1) := by decide +kernel
theorem dX9_layBest_215 : decode cX9_layBest 215 = .ok (.iadd, 1) := by decide +kernel
theorem dX9_layBest_216 : decode cX9_layBest 216 = .ok (.iaload, 1) := by decide +kernel
theorem dX9_layBest_217 : decode cX9_layBest 217 = .ok (.if_icmp .ne 7, 3) := by decide +kernel
theorem dX9_layBest_220 : decode cX9_layBest 220 = .ok (.iconst 0, 1) := by decide +kernel
theorem dX9_layBest_221 : decode cX9_layBest 221 = .ok (.goto 4, 3) := by decide +kernel
theorem dX9_layBest_224 : decode cX9_layBest 224 = .ok (.iconst 1, 1) := by decide +kernel
theorem dX9_layBest_225 : decode cX9_layBest 225 = .ok (.istore 5, 2) := by decide +kernel
theorem dX9_layBest_227 : decode cX9_layBest 227 = .ok (.aload_n 0, 1) := by decide +kernel
theorem dX9_layBest_228 : decode cX9_layBest 228 = .ok (.getfield 40, 3) := by decide +kernel
theorem dX9_layBest_231 : decode cX9_layBest 231 = .ok (.iload 4, 2) := by decide +kernel
theorem dX9_layBest_233 : decode cX9_layBest 233 = .ok (.iload 5, 2) := by decide +kernel
theorem dX9_layBest_235 : decode cX9_layBest 235 = .ok (.iastore, 1) := by decide +kernel
theorem dX9_layBest_236 : decode cX9_layBest 236 = .ok (.iload_n 3, 1) := by decide +kernel
theorem dX9_layBest_237 : decode cX9_layBest 237 = .ok (.ifCond .eq 9, 3) := by decide +kernel
theorem dX9_layBest_240 : decode cX9_layBest 240 = .ok (.iload 5, 2) := by decide +kernel
theorem dX9_layBest_242 : decode cX9_layBest 242 = .ok (.iload_n 2, 1) := by decide +kernel
theorem dX9_layBest_243 : decode cX9_layBest 243 = .ok (.if_icmp .eq 7, 3) := by decide +kernel
theorem dX9_layBest_246 : decode cX9_layBest 246 = .ok (.iconst 1, 1) := by decide +kernel
theorem dX9_layBest_247 : decode cX9_layBest 247 = .ok (.goto 18, 3) := by decide +kernel
theorem dX9_layBest_250 : decode cX9_layBest 250 = .ok (.iload_n 3, 1) := by decide +kernel
theorem dX9_layBest_251 : decode cX9_layBest 251 = .ok (.aload_n 0, 1) := by decide +kernel
theorem dX9_layBest_252 : decode cX9_layBest 252 = .ok (.getfield 62, 3) := by decide +kernel
theorem dX9_layBest_255 : decode cX9_layBest 255 = .ok (.if_icmp .le 7, 3) := by decide +kernel
theorem dX9_layBest_258 : decode cX9_layBest 258 = .ok (.iload_n 3, 1) := by decide +kernel
theorem dX9_layBest_259 : decode cX9_layBest 259 = .ok (.goto 6, 3) := by decide +kernel
theorem dX9_layBest_262 : decode cX9_layBest 262 = .ok (.iload_n 3, 1) := by decide +kernel
theorem dX9_layBest_263 : decode cX9_layBest 263 = .ok (.iconst 1, 1) := by decide +kernel
theorem dX9_layBest_264 : decode cX9_layBest 264 = .ok (.iadd, 1) := by decide +kernel
theorem dX9_layBest_265 : decode cX9_layBest 265 = .ok (.istore_n 3, 1) := by decide +kernel
theorem dX9_layBest_266 : decode cX9_layBest 266 = .ok (.iload 5, 2) := by decide +kernel
theorem dX9_layBest_268 : decode cX9_layBest 268 = .ok (.istore_n 2, 1) := by decide +kernel
theorem dX9_layBest_269 : decode cX9_layBest 269 = .ok (.iinc 4 1, 3) := by decide +kernel
theorem dX9_layBest_272 : decode cX9_layBest 272 = .ok (.goto (-89), 3) := by decide +kernel
theorem dX9_layBest_275 : decode cX9_layBest 275 = .ok (.aload_n 0, 1) := by decide +kernel
theorem dX9_layBest_276 : decode cX9_layBest 276 = .ok (.getfield 37, 3) := by decide +kernel
theorem dX9_layBest_279 : decode cX9_layBest 279 = .ok (.iconst 0, 1) := by decide +kernel
theorem dX9_layBest_280 : decode cX9_layBest 280 = .ok (.iaload, 1) := by decide +kernel
theorem dX9_layBest_281 : decode cX9_layBest 281 = .ok (.ireturn, 1) := by decide +kernel
set_option maxRecDepth 20000 in
theorem ggX9_best_X9_layBest : GoodIn wsX9_best wsX9_layBest := goodIn_r _ [5, 6, 7, 8, 9, 10, 11, 12, 4, 13, 14, 15, 16, 17, 18, 19, 20, 21, 22, 23, 24, 25, 26, 27, 28, 29, 30, 31, 32, 33, 34, 35, 36, 37, 38, 39, 40, 41, 42, 43, 44, 45, 46, 47, 48, 49, 50, 51, 52, 53, 54, 55, 56, 57, 58, 59, 60, 61, 62, 63, 64, 65, 66, 67, 68, 69, 70, 71, 72, 73, 74, 75] (by decide +kernel) (by decide +kernel)
set_option maxRecDepth 20000 in
theorem gX9_best_X9_layBest : GoodIn wsX9_best (wsV RX9 171 RX9 yX9_layBest wsX9_layBest) := goodIn_app (goodIn_of _ (by decide +kernel)) ggX9_best_X9_layBest
theorem dX9_best_0 : decode cX9_best 0 = .ok (.aload_n 0, 1) := by decide +kernel
theorem dX9_best_1 : decode cX9_best 1 = .ok (.iconst 0, 1) := by decide +kernel
theorem dX9_best_2 : decode cX9_best 2 = .ok (.invokevirtual 171, 3) := by decide +kernel
theorem dX9_best_5 : decode cX9_best 5 = .ok (.ireturn, 1) := by decide +kernel
set_option maxRecDepth 20000 in
theorem ggX9_bestAt_X9_isNight : GoodIn wsX9_bestAt wsX9_isNight := goodIn_r _ [5, 6, 7, 8, 4, 9] (by decide +kernel) (by decide +kernel)
set_option maxRecDepth 20000 in
theorem gX9_bestAt_X9_isNight : GoodIn wsX9_bestAt (va_wsS RX9 128 yX9_isNight wsX9_isNight) := goodIn_app (goodIn_of _ (by decide +kernel)) ggX9_bestAt_X9_isNight
set_option maxRecDepth 20000 in
theorem ggX9_bestAt_X9_layBest : GoodIn wsX9_bestAt wsX9_layBest := goodIn_r _ [13, 14, 15, 16, 1, 17, 18, 19, 4, 20, 21, 22, 23, 24, 25, 26, 27, 28, 29, 30, 31, 32, 33, 7, 8, 9, 34, 35, 36, 37, 38, 39, 40, 41, 42, 43, 44, 45, 46, 47, 48, 49, 50, 51, 52, 53, 54, 55, 56, 57, 58, 59, 60, 61, 62, 63, 64, 65, 66, 67, 68, 69, 70, 71, 72, 73, 74, 75, 76, 77, 78, 79] (by decide +kernel) (by decide +kernel)
set_option maxRecDepth 20000 in
theorem gX9_bestAt_X9_layBest : GoodIn wsX9_bestAt (wsV RX9 171 RX9 yX9_layBest wsX9_layBest) := goodIn_app (goodIn_of _ (by decide +kernel)) ggX9_bestAt_X9_layBest
theorem dX9_bestAt_0 : decode cX9_bestAt 0 = .ok (.iload_n 1, 1) := by decide +kernel
theorem dX9_bestAt_1 : decode cX9_bestAt 1 = .ok (.invokestatic 128, 3) := by decide +kernel
theorem dX9_bestAt_4 : decode cX9_bestAt 4 = .ok (.ifCond .ne 5, 3) := by decide +kernel
theorem dX9_bestAt_7 : decode cX9_bestAt 7 = .ok (.iconst (-1), 1) := by decide +kernel
theorem dX9_bestAt_8 : decode cX9_bestAt 8 = .ok (.ireturn, 1) := by decide +kernel
theorem dX9_bestAt_9 : decode cX9_bestAt 9 = .ok (.aload_n 0, 1) := by decide +kernel
theorem dX9_bestAt_10 : decode cX9_bestAt 10 = .ok (.iconst 0, 1) := by decide +kernel
theorem dX9_bestAt_11 : decode cX9_bestAt 11 = .ok (.invokevirtual 171, 3) := by decide +kernel
theorem dX9_bestAt_14 : decode cX9_bestAt 14 = .ok (.pop, 1) := by decide +kernel
theorem dX9_bestAt_15 : decode cX9_bestAt 15 = .ok (.aload_n 0, 1) := by decide +kernel
theorem dX9_bestAt_16 : decode cX9_bestAt 16 = .ok (.getfield 40, 3) := by decide +kernel
theorem dX9_bestAt_19 : decode cX9_bestAt 19 = .ok (.iload_n 1, 1) := by decide +kernel
theorem dX9_bestAt_20 : decode cX9_bestAt 20 = .ok (.iaload, 1) := by decide +kernel
theorem dX9_bestAt_21 : decode cX9_bestAt 21 = .ok (.ireturn, 1) := by decide +kernel
set_option maxRecDepth 20000 in
theorem ggX9_take_X9_layBest : GoodIn wsX9_take wsX9_layBest := goodIn_r _ [7, 8, 9, 10, 2, 11, 12, 13, 6, 14, 15, 16, 17, 18, 19, 20, 21, 22, 23, 24, 25, 26, 27, 28, 29, 30, 31, 32, 33, 34, 35, 36, 37, 38, 39, 40, 41, 42, 43, 44, 45, 46, 47, 48, 49, 50, 51, 52, 53, 54, 55, 56, 57, 58, 59, 60, 61, 62, 63, 64, 65, 66, 67, 68, 69, 70, 71, 72, 73, 74, 75, 76] (by decide +kernel) (by decide +kernel)
set_option maxRecDepth 20000 in
theorem gX9_take_X9_layBest : GoodIn wsX9_take (wsV RX9 171 RX9 yX9_layBest wsX9_layBest) := goodIn_app (goodIn_of _ (by decide +kernel)) ggX9_take_X9_layBest
theorem dX9_take_0 : decode cX9_take 0 = .ok (.aload_n 0, 1) := by decide +kernel
theorem dX9_take_1 : decode cX9_take 1 = .ok (.iconst 0, 1) := by decide +kernel
theorem dX9_take_2 : decode cX9_take 2 = .ok (.invokevirtual 171, 3) := by decide +kernel
theorem dX9_take_5 : decode cX9_take 5 = .ok (.pop, 1) := by decide +kernel
theorem dX9_take_6 : decode cX9_take 6 = .ok (.iconst 0, 1) := by decide +kernel
theorem dX9_take_7 : decode cX9_take 7 = .ok (.istore_n 1, 1) := by decide +kernel
theorem dX9_take_8 : decode cX9_take 8 = .ok (.iconst 0, 1) := by decide +kernel
theorem dX9_take_9 : decode cX9_take 9 = .ok (.istore_n 2, 1) := by decide +kernel
theorem dX9_take_10 : decode cX9_take 10 = .ok (.iload_n 2, 1) := by decide +kernel
theorem dX9_take_11 : decode cX9_take 11 = .ok (.bipush 56, 2) := by decide +kernel
theorem dX9_take_13 : decode cX9_take 13 = .ok (.if_icmp .ge 44, 3) := by decide +kernel
theorem dX9_take_16 : decode cX9_take 16 = .ok (.iload_n 1, 1) := by decide +kernel
theorem dX9_take_17 : decode cX9_take 17 = .ok (.aload_n 0, 1) := by decide +kernel
theorem dX9_take_18 : decode cX9_take 18 = .ok (.getfield 25, 3) := by decide +kernel
theorem dX9_take_21 : decode cX9_take 21 = .ok (.iload_n 2, 1) := by decide +kernel
theorem dX9_take_22 : decode cX9_take 22 = .ok (.iaload, 1) := by decide +kernel
theorem dX9_take_23 : decode cX9_take 23 = .ok (.aload_n 0, 1) := by decide +kernel
theorem dX9_take_24 : decode cX9_take 24 = .ok (.getfield 40, 3) := by decide +kernel
theorem dX9_take_27 : decode cX9_take 27 = .ok (.iload_n 2, 1) := by decide +kernel
theorem dX9_take_28 : decode cX9_take 28 = .ok (.iaload, 1) := by decide +kernel
theorem dX9_take_29 : decode cX9_take 29 = .ok (.if_icmp .ne 7, 3) := by decide +kernel
theorem dX9_take_32 : decode cX9_take 32 = .ok (.iconst 0, 1) := by decide +kernel
theorem dX9_take_33 : decode cX9_take 33 = .ok (.goto 4, 3) := by decide +kernel
theorem dX9_take_36 : decode cX9_take 36 = .ok (.iconst 1, 1) := by decide +kernel
theorem dX9_take_37 : decode cX9_take 37 = .ok (.iadd, 1) := by decide +kernel
theorem dX9_take_38 : decode cX9_take 38 = .ok (.istore_n 1, 1) := by decide +kernel
theorem dX9_take_39 : decode cX9_take 39 = .ok (.aload_n 0, 1) := by decide +kernel
theorem dX9_take_40 : decode cX9_take 40 = .ok (.getfield 25, 3) := by decide +kernel
theorem dX9_take_43 : decode cX9_take 43 = .ok (.iload_n 2, 1) := by decide +kernel
theorem dX9_take_44 : decode cX9_take 44 = .ok (.aload_n 0, 1) := by decide +kernel
theorem dX9_take_45 : decode cX9_take 45 = .ok (.getfield 40, 3) := by decide +kernel
theorem dX9_take_48 : decode cX9_take 48 = .ok (.iload_n 2, 1) := by decide +kernel
theorem dX9_take_49 : decode cX9_take 49 = .ok (.iaload, 1) := by decide +kernel
theorem dX9_take_50 : decode cX9_take 50 = .ok (.iastore, 1) := by decide +kernel
theorem dX9_take_51 : decode cX9_take 51 = .ok (.iinc 2 1, 3) := by decide +kernel
theorem dX9_take_54 : decode cX9_take 54 = .ok (.goto (-44), 3) := by decide +kernel
theorem dX9_take_57 : decode cX9_take 57 = .ok (.iload_n 1, 1) := by decide +kernel
theorem dX9_take_58 : decode cX9_take 58 = .ok (.ireturn, 1) := by decide +kernel
theorem dX9_nearOf_0 : decode cX9_nearOf 0 = .ok (.iconst 0, 1) := by decide +kernel
theorem dX9_nearOf_1 : decode cX9_nearOf 1 = .ok (.istore_n 2, 1) := by decide +kernel
theorem dX9_nearOf_2 : decode cX9_nearOf 2 = .ok (.iconst 0, 1) := by decide +kernel
theorem dX9_nearOf_3 : decode cX9_nearOf 3 = .ok (.istore_n 3, 1) := by decide +kernel
theorem dX9_nearOf_4 : decode cX9_nearOf 4 = .ok (.iload_n 3, 1) := by decide +kernel
theorem dX9_nearOf_5 : decode cX9_nearOf 5 = .ok (.bipush 7, 2) := by decide +kernel
theorem dX9_nearOf_7 : decode cX9_nearOf 7 = .ok (.iload_n 1, 1) := by decide +kernel
theorem dX9_nearOf_8 : decode cX9_nearOf 8 = .ok (.imul, 1) := by decide +kernel
theorem dX9_nearOf_9 : decode cX9_nearOf 9 = .ok (.if_icmp .ge 86, 3) := by decide +kernel
theorem dX9_nearOf_12 : decode cX9_nearOf 12 = .ok (.iconst 0, 1) := by decide +kernel
theorem dX9_nearOf_13 : decode cX9_nearOf 13 = .ok (.istore 4, 2) := by decide +kernel
theorem dX9_nearOf_15 : decode cX9_nearOf 15 = .ok (.iconst 0, 1) := by decide +kernel
theorem dX9_nearOf_16 : decode cX9_nearOf 16 = .ok (.istore 5, 2) := by decide +kernel
theorem dX9_nearOf_18 : decode cX9_nearOf 18 = .ok (.iload_n 3, 1) := by decide +kernel
theorem dX9_nearOf_19 : decode cX9_nearOf 19 = .ok (.istore 6, 2) := by decide +kernel
theorem dX9_nearOf_21 : decode cX9_nearOf 21 = .ok (.iload 6, 2) := by decide +kernel
theorem dX9_nearOf_23 : decode cX9_nearOf 23 = .ok (.bipush 56, 2) := by decide +kernel
theorem dX9_nearOf_25 : decode cX9_nearOf 25 = .ok (.if_icmp .ge 47, 3) := by decide +kernel
theorem dX9_nearOf_28 : decode cX9_nearOf 28 = .ok (.iload 4, 2) := by decide +kernel
theorem dX9_nearOf_30 : decode cX9_nearOf 30 = .ok (.aload_n 0, 1) := by decide +kernel
theorem dX9_nearOf_31 : decode cX9_nearOf 31 = .ok (.getfield 25, 3) := by decide +kernel
theorem dX9_nearOf_34 : decode cX9_nearOf 34 = .ok (.iload 6, 2) := by decide +kernel
theorem dX9_nearOf_36 : decode cX9_nearOf 36 = .ok (.iaload, 1) := by decide +kernel
theorem dX9_nearOf_37 : decode cX9_nearOf 37 = .ok (.ifCond .ne 7, 3) := by decide +kernel
theorem dX9_nearOf_40 : decode cX9_nearOf 40 = .ok (.iconst 1, 1) := by decide +kernel
theorem dX9_nearOf_41 : decode cX9_nearOf 41 = .ok (.goto 4, 3) := by decide +kernel
theorem dX9_nearOf_44 : decode cX9_nearOf 44 = .ok (.iconst 0, 1) := by decide +kernel
theorem dX9_nearOf_45 : decode cX9_nearOf 45 = .ok (.iadd, 1) := by decide +kernel
theorem dX9_nearOf_46 : decode cX9_nearOf 46 = .ok (.istore 4, 2) := by decide +kernel
theorem dX9_nearOf_48 : decode cX9_nearOf 48 = .ok (.iload 5, 2) := by decide +kernel
theorem dX9_nearOf_50 : decode cX9_nearOf 50 = .ok (.aload_n 0, 1) := by decide +kernel
theorem dX9_nearOf_51 : decode cX9_nearOf 51 = .ok (.getfield 25, 3) := by decide +kernel
theorem dX9_nearOf_54 : decode cX9_nearOf 54 = .ok (.iload 6, 2) := by decide +kernel
theorem dX9_nearOf_56 : decode cX9_nearOf 56 = .ok (.iaload, 1) := by decide +kernel
theorem dX9_nearOf_57 : decode cX9_nearOf 57 = .ok (.iadd, 1) := by decide +kernel
theorem dX9_nearOf_58 : decode cX9_nearOf 58 = .ok (.istore 5, 2) := by decide +kernel
theorem dX9_nearOf_60 : decode cX9_nearOf 60 = .ok (.iload 6, 2) := by decide +kernel
theorem dX9_nearOf_62 : decode cX9_nearOf 62 = .ok (.bipush 7, 2) := by decide +kernel
theorem dX9_nearOf_64 : decode cX9_nearOf 64 = .ok (.iload_n 1, 1) := by decide +kernel
theorem dX9_nearOf_65 : decode cX9_nearOf 65 = .ok (.imul, 1) := by decide +kernel
theorem dX9_nearOf_66 : decode cX9_nearOf 66 = .ok (.iadd, 1) := by decide +kernel
theorem dX9_nearOf_67 : decode cX9_nearOf 67 = .ok (.istore 6, 2) := by decide +kernel
theorem dX9_nearOf_69 : decode cX9_nearOf 69 = .ok (.goto (-48), 3) := by decide +kernel
theorem dX9_nearOf_72 : decode cX9_nearOf 72 = .ok (.iload_n 2, 1) := by decide +kernel
theorem dX9_nearOf_73 : decode cX9_nearOf 73 = .ok (.iload 4, 2) := by decide +kernel
theorem dX9_nearOf_75 : decode cX9_nearOf 75 = .ok (.iload 5, 2) := by decide +kernel
theorem dX9_nearOf_77 : decode cX9_nearOf 77 = .ok (.if_icmp .ge 8, 3) := by decide +kernel
theorem dX9_nearOf_80 : decode cX9_nearOf 80 = .ok (.iload 4, 2) := by decide +kernel
theorem dX9_nearOf_82 : decode cX9_nearOf 82 = .ok (.goto 5, 3) := by decide +kernel
theorem dX9_nearOf_85 : decode cX9_nearOf 85 = .ok (.iload 5, 2) := by decide +kernel
theorem dX9_nearOf_87 : decode cX9_nearOf 87 = .ok (.iadd, 1) := by decide +kernel
theorem dX9_nearOf_88 : decode cX9_nearOf 88 = .ok (.istore_n 2, 1) := by decide +kernel
theorem dX9_nearOf_89 : decode cX9_nearOf 89 = .ok (.iinc 3 1, 3) := by decide +kernel
theorem dX9_nearOf_92 : decode cX9_nearOf 92 = .ok (.goto (-88), 3) := by decide +kernel
theorem dX9_nearOf_95 : decode cX9_nearOf 95 = .ok (.iload_n 2, 1) := by decide +kernel
theorem dX9_nearOf_96 : decode cX9_nearOf 96 = .ok (.ireturn, 1) := by decide +kernel
set_option maxRecDepth 20000 in
theorem ggX9_near_X9_in : GoodIn wsX9_near wsX9_in := goodIn_r _ [5] (by decide +kernel) (by decide +kernel)
set_option maxRecDepth 20000 in
theorem gX9_near_X9_in : GoodIn wsX9_near (va_wsS RX9 77 yX9_in wsX9_in) := goodIn_app (goodIn_of _ (by decide +kernel)) ggX9_near_X9_in
set_option maxRecDepth 20000 in
theorem ggX9_near_X9_nearOf : GoodIn wsX9_near wsX9_nearOf := goodIn_r _ [9, 10, 11, 12, 13, 14, 15, 16, 17, 18, 19, 20, 21, 22, 23, 24, 25, 26, 27, 28, 29, 30, 31, 32, 33, 34, 35, 36, 37, 38] (by decide +kernel) (by decide +kernel)
set_option maxRecDepth 20000 in
theorem gX9_near_X9_nearOf : GoodIn wsX9_near (wsV RX9 175 RX9 yX9_nearOf wsX9_nearOf) := goodIn_app (goodIn_of _ (by decide +kernel)) ggX9_near_X9_nearOf
theorem dX9_near_0 : decode cX9_near 0 = .ok (.iload_n 1, 1) := by decide +kernel
theorem dX9_near_1 : decode cX9_near 1 = .ok (.i2l, 1) := by decide +kernel
theorem dX9_near_2 : decode cX9_near 2 = .ok (.lconst 1, 1) := by decide +kernel
theorem dX9_near_3 : decode cX9_near 3 = .ok (.ldc2_w 75, 3) := by decide +kernel
theorem dX9_near_6 : decode cX9_near 6 = .ok (.invokestatic 77, 3) := by decide +kernel
theorem dX9_near_9 : decode cX9_near 9 = .ok (.ifCond .eq 11, 3) := by decide +kernel
theorem dX9_near_12 : decode cX9_near 12 = .ok (.aload_n 0, 1) := by decide +kernel
theorem dX9_near_13 : decode cX9_near 13 = .ok (.iload_n 1, 1) := by decide +kernel
theorem dX9_near_14 : decode cX9_near 14 = .ok (.invokevirtual 175, 3) := by decide +kernel
theorem dX9_near_17 : decode cX9_near 17 = .ok (.goto 5, 3) := by decide +kernel
theorem dX9_near_20 : decode cX9_near 20 = .ok (.bipush (-2), 2) := by decide +kernel
theorem dX9_near_22 : decode cX9_near 22 = .ok (.ireturn, 1) := by decide +kernel
set_option maxRecDepth 20000 in
theorem ggX9_brief_X9_in : GoodIn wsX9_brief wsX9_in := goodIn_r _ [5] (by decide +kernel) (by decide +kernel)
set_option maxRecDepth 20000 in
theorem gX9_brief_X9_in : GoodIn wsX9_brief (va_wsS RX9 77 yX9_in wsX9_in) := goodIn_app (goodIn_of _ (by decide +kernel)) ggX9_brief_X9_in
set_option maxRecDepth 20000 in
theorem ggX9_brief_X9_nearOf : GoodIn wsX9_brief wsX9_nearOf := goodIn_r _ [9, 10, 11, 12, 13, 14, 15, 16, 17, 18, 19, 20, 21, 22, 23, 24, 25, 26, 27, 28, 29, 30, 31, 32, 33, 34, 35, 36, 37, 38] (by decide +kernel) (by decide +kernel)
set_option maxRecDepth 20000 in
theorem gX9_brief_X9_nearOf : GoodIn wsX9_brief (wsV RX9 175 RX9 yX9_nearOf wsX9_nearOf) := goodIn_app (goodIn_of _ (by decide +kernel)) ggX9_brief_X9_nearOf
theorem dX9_brief_0 : decode cX9_brief 0 = .ok (.iload_n 1, 1) := by decide +kernel
theorem dX9_brief_1 : decode cX9_brief 1 = .ok (.i2l, 1) := by decide +kernel
theorem dX9_brief_2 : decode cX9_brief 2 = .ok (.lconst 0, 1) := by decide +kernel
theorem dX9_brief_3 : decode cX9_brief 3 = .ok (.ldc2_w 178, 3) := by decide +kernel
theorem dX9_brief_6 : decode cX9_brief 6 = .ok (.invokestatic 77, 3) := by decide +kernel
theorem dX9_brief_9 : decode cX9_brief 9 = .ok (.ifCond .ne 6, 3) := by decide +kernel
theorem dX9_brief_12 : decode cX9_brief 12 = .ok (.bipush (-2), 2) := by decide +kernel
theorem dX9_brief_14 : decode cX9_brief 14 = .ok (.ireturn, 1) := by decide +kernel
theorem dX9_brief_15 : decode cX9_brief 15 = .ok (.iconst 1, 1) := by decide +kernel
theorem dX9_brief_16 : decode cX9_brief 16 = .ok (.istore_n 2, 1) := by decide +kernel
theorem dX9_brief_17 : decode cX9_brief 17 = .ok (.aload_n 0, 1) := by decide +kernel
theorem dX9_brief_18 : decode cX9_brief 18 = .ok (.iload_n 2, 1) := by decide +kernel
theorem dX9_brief_19 : decode cX9_brief 19 = .ok (.invokevirtual 175, 3) := by decide +kernel
theorem dX9_brief_22 : decode cX9_brief 22 = .ok (.iload_n 1, 1) := by decide +kernel
theorem dX9_brief_23 : decode cX9_brief 23 = .ok (.if_icmp .le 9, 3) := by decide +kernel
theorem dX9_brief_26 : decode cX9_brief 26 = .ok (.iinc 2 1, 3) := by decide +kernel
theorem dX9_brief_29 : decode cX9_brief 29 = .ok (.goto (-12), 3) := by decide +kernel
theorem dX9_brief_32 : decode cX9_brief 32 = .ok (.iload_n 2, 1) := by decide +kernel
theorem dX9_brief_33 : decode cX9_brief 33 = .ok (.ireturn, 1) := by decide +kernel
set_option maxRecDepth 20000 in
theorem ggX9_swap_X9_isNight : GoodIn wsX9_swap wsX9_isNight := goodIn_r _ [5, 6, 7, 8, 4, 9] (by decide +kernel) (by decide +kernel)
set_option maxRecDepth 20000 in
theorem gX9_swap_X9_isNight : GoodIn wsX9_swap (va_wsS RX9 128 yX9_isNight wsX9_isNight) := goodIn_app (goodIn_of _ (by decide +kernel)) ggX9_swap_X9_isNight
set_option maxRecDepth 20000 in
theorem ggX9_swap_X9_costOf : GoodIn wsX9_swap wsX9_costOf := goodIn_r _ [13, 1, 14, 15, 16, 17, 18, 19, 4, 20, 21, 22, 23, 24, 25, 26, 27, 28, 29, 30, 31, 32, 33, 34, 35, 36, 37, 38, 39, 40, 41, 42, 43, 44, 45, 46, 47, 48, 49, 50, 51, 52] (by decide +kernel) (by decide +kernel)
set_option maxRecDepth 20000 in
theorem gX9_swap_X9_costOf : GoodIn wsX9_swap (wsV RX9 159 RX9 yX9_costOf wsX9_costOf) := goodIn_app (goodIn_of _ (by decide +kernel)) ggX9_swap_X9_costOf
theorem dX9_swap_0 : decode cX9_swap 0 = .ok (.iload_n 1, 1) := by decide +kernel
theorem dX9_swap_1 : decode cX9_swap 1 = .ok (.invokestatic 128, 3) := by decide +kernel
theorem dX9_swap_4 : decode cX9_swap 4 = .ok (.ifCond .eq 10, 3) := by decide +kernel
theorem dX9_swap_7 : decode cX9_swap 7 = .ok (.iload_n 2, 1) := by decide +kernel
theorem dX9_swap_8 : decode cX9_swap 8 = .ok (.invokestatic 128, 3) := by decide +kernel
theorem dX9_swap_11 : decode cX9_swap 11 = .ok (.ifCond .ne 5, 3) := by decide +kernel
theorem dX9_swap_14 : decode cX9_swap 14 = .ok (.iconst (-1), 1) := by decide +kernel
theorem dX9_swap_15 : decode cX9_swap 15 = .ok (.ireturn, 1) := by decide +kernel
theorem dX9_swap_16 : decode cX9_swap 16 = .ok (.aload_n 0, 1) := by decide +kernel
theorem dX9_swap_17 : decode cX9_swap 17 = .ok (.getfield 25, 3) := by decide +kernel
theorem dX9_swap_20 : decode cX9_swap 20 = .ok (.iload_n 1, 1) := by decide +kernel
theorem dX9_swap_21 : decode cX9_swap 21 = .ok (.iaload, 1) := by decide +kernel
theorem dX9_swap_22 : decode cX9_swap 22 = .ok (.aload_n 0, 1) := by decide +kernel
theorem dX9_swap_23 : decode cX9_swap 23 = .ok (.getfield 25, 3) := by decide +kernel
theorem dX9_swap_26 : decode cX9_swap 26 = .ok (.iload_n 2, 1) := by decide +kernel
theorem dX9_swap_27 : decode cX9_swap 27 = .ok (.iaload, 1) := by decide +kernel
theorem dX9_swap_28 : decode cX9_swap 28 = .ok (.if_icmp .ne 6, 3) := by decide +kernel
theorem dX9_swap_31 : decode cX9_swap 31 = .ok (.bipush (-3), 2) := by decide +kernel
theorem dX9_swap_33 : decode cX9_swap 33 = .ok (.ireturn, 1) := by decide +kernel
theorem dX9_swap_34 : decode cX9_swap 34 = .ok (.aload_n 0, 1) := by decide +kernel
theorem dX9_swap_35 : decode cX9_swap 35 = .ok (.invokevirtual 159, 3) := by decide +kernel
theorem dX9_swap_38 : decode cX9_swap 38 = .ok (.istore_n 3, 1) := by decide +kernel
theorem dX9_swap_39 : decode cX9_swap 39 = .ok (.aload_n 0, 1) := by decide +kernel
theorem dX9_swap_40 : decode cX9_swap 40 = .ok (.getfield 25, 3) := by decide +kernel
theorem dX9_swap_43 : decode cX9_swap 43 = .ok (.iload_n 1, 1) := by decide +kernel
theorem dX9_swap_44 : decode cX9_swap 44 = .ok (.iconst 1, 1) := by decide +kernel
theorem dX9_swap_45 : decode cX9_swap 45 = .ok (.aload_n 0, 1) := by decide +kernel
theorem dX9_swap_46 : decode cX9_swap 46 = .ok (.getfield 25, 3) := by decide +kernel
theorem dX9_swap_49 : decode cX9_swap 49 = .ok (.iload_n 1, 1) := by decide +kernel
theorem dX9_swap_50 : decode cX9_swap 50 = .ok (.iaload, 1) := by decide +kernel
theorem dX9_swap_51 : decode cX9_swap 51 = .ok (.isub, 1) := by decide +kernel
theorem dX9_swap_52 : decode cX9_swap 52 = .ok (.iastore, 1) := by decide +kernel
theorem dX9_swap_53 : decode cX9_swap 53 = .ok (.aload_n 0, 1) := by decide +kernel
theorem dX9_swap_54 : decode cX9_swap 54 = .ok (.getfield 25, 3) := by decide +kernel
theorem dX9_swap_57 : decode cX9_swap 57 = .ok (.iload_n 2, 1) := by decide +kernel
theorem dX9_swap_58 : decode cX9_swap 58 = .ok (.iconst 1, 1) := by decide +kernel
theorem dX9_swap_59 : decode cX9_swap 59 = .ok (.aload_n 0, 1) := by decide +kernel
theorem dX9_swap_60 : decode cX9_swap 60 = .ok (.getfield 25, 3) := by decide +kernel
theorem dX9_swap_63 : decode cX9_swap 63 = .ok (.iload_n 2, 1) := by decide +kernel
theorem dX9_swap_64 : decode cX9_swap 64 = .ok (.iaload, 1) := by decide +kernel
theorem dX9_swap_65 : decode cX9_swap 65 = .ok (.isub, 1) := by decide +kernel
theorem dX9_swap_66 : decode cX9_swap 66 = .ok (.iastore, 1) := by decide +kernel
theorem dX9_swap_67 : decode cX9_swap 67 = .ok (.sipush 1000, 3) := by decide +kernel
theorem dX9_swap_70 : decode cX9_swap 70 = .ok (.aload_n 0, 1) := by decide +kernel
theorem dX9_swap_71 : decode cX9_swap 71 = .ok (.invokevirtual 159, 3) := by decide +kernel
theorem dX9_swap_74 : decode cX9_swap 74 = .ok (.iadd, 1) := by decide +kernel
theorem dX9_swap_75 : decode cX9_swap 75 = .ok (.iload_n 3, 1) := by decide +kernel
theorem dX9_swap_76 : decode cX9_swap 76 = .ok (.isub, 1) := by decide +kernel
theorem dX9_swap_77 : decode cX9_swap 77 = .ok (.ireturn, 1) := by decide +kernel
theorem dX9_owes_0 : decode cX9_owes 0 = .ok (.aload_n 0, 1) := by decide +kernel
theorem dX9_owes_1 : decode cX9_owes 1 = .ok (.getfield 22, 3) := by decide +kernel
theorem dX9_owes_4 : decode cX9_owes 4 = .ok (.iload_n 1, 1) := by decide +kernel
theorem dX9_owes_5 : decode cX9_owes 5 = .ok (.iaload, 1) := by decide +kernel
theorem dX9_owes_6 : decode cX9_owes 6 = .ok (.iconst 1, 1) := by decide +kernel
theorem dX9_owes_7 : decode cX9_owes 7 = .ok (.if_icmp .gt 18, 3) := by decide +kernel
theorem dX9_owes_10 : decode cX9_owes 10 = .ok (.aload_n 0, 1) := by decide +kernel
theorem dX9_owes_11 : decode cX9_owes 11 = .ok (.getfield 22, 3) := by decide +kernel
theorem dX9_owes_14 : decode cX9_owes 14 = .ok (.iload_n 1, 1) := by decide +kernel
theorem dX9_owes_15 : decode cX9_owes 15 = .ok (.iaload, 1) := by decide +kernel
theorem dX9_owes_16 : decode cX9_owes 16 = .ok (.aload_n 0, 1) := by decide +kernel
theorem dX9_owes_17 : decode cX9_owes 17 = .ok (.getfield 25, 3) := by decide +kernel
theorem dX9_owes_20 : decode cX9_owes 20 = .ok (.iload_n 1, 1) := by decide +kernel
theorem dX9_owes_21 : decode cX9_owes 21 = .ok (.iaload, 1) := by decide +kernel
theorem dX9_owes_22 : decode cX9_owes 22 = .ok (.if_icmp .ne 7, 3) := by decide +kernel
theorem dX9_owes_25 : decode cX9_owes 25 = .ok (.iconst 0, 1) := by decide +kernel
theorem dX9_owes_26 : decode cX9_owes 26 = .ok (.goto 18, 3) := by decide +kernel
theorem dX9_owes_29 : decode cX9_owes 29 = .ok (.aload_n 0, 1) := by decide +kernel
theorem dX9_owes_30 : decode cX9_owes 30 = .ok (.getfield 22, 3) := by decide +kernel
theorem dX9_owes_33 : decode cX9_owes 33 = .ok (.iload_n 1, 1) := by decide +kernel
theorem dX9_owes_34 : decode cX9_owes 34 = .ok (.iaload, 1) := by decide +kernel
theorem dX9_owes_35 : decode cX9_owes 35 = .ok (.iconst 1, 1) := by decide +kernel
theorem dX9_owes_36 : decode cX9_owes 36 = .ok (.if_icmp .ne 7, 3) := by decide +kernel
theorem dX9_owes_39 : decode cX9_owes 39 = .ok (.iconst 1, 1) := by decide +kernel
theorem dX9_owes_40 : decode cX9_owes 40 = .ok (.goto 4, 3) := by decide +kernel
theorem dX9_owes_43 : decode cX9_owes 43 = .ok (.iconst (-1), 1) := by decide +kernel
theorem dX9_owes_44 : decode cX9_owes 44 = .ok (.ireturn, 1) := by decide +kernel
set_option maxRecDepth 20000 in
theorem ggX9_owed_X9_isNight : GoodIn wsX9_owed wsX9_isNight := goodIn_r _ [4, 5, 6, 7, 3, 8] (by decide +kernel) (by decide +kernel)
set_option maxRecDepth 20000 in
theorem gX9_owed_X9_isNight : GoodIn wsX9_owed (va_wsS RX9 128 yX9_isNight wsX9_isNight) := goodIn_app (goodIn_of _ (by decide +kernel)) ggX9_owed_X9_isNight
set_option maxRecDepth 20000 in
theorem ggX9_owed_X9_layWhose : GoodIn wsX9_owed wsX9_layWhose := goodIn_r _ [12, 13, 14, 15, 16, 17, 3, 18, 19, 20, 21, 22, 23, 24, 25, 6, 7, 8, 31, 32, 33, 34, 35, 36, 37, 38, 39, 40, 41, 42, 43, 44, 45, 46, 47, 48, 49, 50, 51, 52, 53, 54, 55, 56, 57, 58] (by decide +kernel) (by decide +kernel)
set_option maxRecDepth 20000 in
theorem gX9_owed_X9_layWhose : GoodIn wsX9_owed (wsV RX9 134 RX9 yX9_layWhose wsX9_layWhose) := goodIn_app (goodIn_of _ (by decide +kernel)) ggX9_owed_X9_layWhose
set_option maxRecDepth 20000 in
theorem ggX9_owed_X9_owes : GoodIn wsX9_owed wsX9_owes := goodIn_r _ [29, 13, 30, 31, 32, 33, 34, 35, 36, 37, 38, 39, 40, 41, 42, 43, 44, 45, 46, 47, 48, 49, 50, 51, 52, 53, 54, 55, 56, 57, 58] (by decide +kernel) (by decide +kernel)
set_option maxRecDepth 20000 in
theorem gX9_owed_X9_owes : GoodIn wsX9_owed (wsV RX9 180 RX9 yX9_owes wsX9_owes) := goodIn_app (goodIn_of _ (by decide +kernel)) ggX9_owed_X9_owes
theorem dX9_owed_0 : decode cX9_owed 0 = .ok (.iload_n 1, 1) := by decide +kernel
theorem dX9_owed_1 : decode cX9_owed 1 = .ok (.invokestatic 128, 3) := by decide +kernel
theorem dX9_owed_4 : decode cX9_owed 4 = .ok (.ifCond .ne 5, 3) := by decide +kernel
theorem dX9_owed_7 : decode cX9_owed 7 = .ok (.iconst (-1), 1) := by decide +kernel
theorem dX9_owed_8 : decode cX9_owed 8 = .ok (.ireturn, 1) := by decide +kernel
theorem dX9_owed_9 : decode cX9_owed 9 = .ok (.aload_n 0, 1) := by decide +kernel
theorem dX9_owed_10 : decode cX9_owed 10 = .ok (.invokevirtual 134, 3) := by decide +kernel
theorem dX9_owed_13 : decode cX9_owed 13 = .ok (.bipush 100, 2) := by decide +kernel
theorem dX9_owed_15 : decode cX9_owed 15 = .ok (.istore_n 2, 1) := by decide +kernel
theorem dX9_owed_16 : decode cX9_owed 16 = .ok (.iconst 0, 1) := by decide +kernel
theorem dX9_owed_17 : decode cX9_owed 17 = .ok (.istore_n 3, 1) := by decide +kernel
theorem dX9_owed_18 : decode cX9_owed 18 = .ok (.iload_n 3, 1) := by decide +kernel
theorem dX9_owed_19 : decode cX9_owed 19 = .ok (.iload_n 1, 1) := by decide +kernel
theorem dX9_owed_20 : decode cX9_owed 20 = .ok (.if_icmp .gt 17, 3) := by decide +kernel
theorem dX9_owed_23 : decode cX9_owed 23 = .ok (.iload_n 2, 1) := by decide +kernel
theorem dX9_owed_24 : decode cX9_owed 24 = .ok (.aload_n 0, 1) := by decide +kernel
theorem dX9_owed_25 : decode cX9_owed 25 = .ok (.iload_n 3, 1) := by decide +kernel
theorem dX9_owed_26 : decode cX9_owed 26 = .ok (.invokevirtual 180, 3) := by decide +kernel
theorem dX9_owed_29 : decode cX9_owed 29 = .ok (.iadd, 1) := by decide +kernel
theorem dX9_owed_30 : decode cX9_owed 30 = .ok (.istore_n 2, 1) := by decide +kernel
theorem dX9_owed_31 : decode cX9_owed 31 = .ok (.iinc 3 1, 3) := by decide +kernel
theorem dX9_owed_34 : decode cX9_owed 34 = .ok (.goto (-16), 3) := by decide +kernel
theorem dX9_owed_37 : decode cX9_owed 37 = .ok (.iload_n 2, 1) := by decide +kernel
theorem dX9_owed_38 : decode cX9_owed 38 = .ok (.ireturn, 1) := by decide +kernel
set_option maxRecDepth 20000 in
theorem ggX9_even_X9_layWhose : GoodIn wsX9_even wsX9_layWhose := goodIn_r _ [5, 6, 7, 8, 9, 10, 4, 11, 12, 13, 14, 15, 16, 17, 18, 19, 20, 21, 27, 28, 29, 30, 31, 32, 33, 34, 35, 36, 37, 38, 39, 40, 41, 42, 43, 44, 45, 46, 47, 48, 49, 50, 51, 52, 53, 54] (by decide +kernel) (by decide +kernel)
set_option maxRecDepth 20000 in
theorem gX9_even_X9_layWhose : GoodIn wsX9_even (wsV RX9 134 RX9 yX9_layWhose wsX9_layWhose) := goodIn_app (goodIn_of _ (by decide +kernel)) ggX9_even_X9_layWhose
set_option maxRecDepth 20000 in
theorem ggX9_even_X9_owes : GoodIn wsX9_even wsX9_owes := goodIn_r _ [25, 6, 26, 27, 28, 29, 30, 31, 32, 33, 34, 35, 36, 37, 38, 39, 40, 41, 42, 43, 44, 45, 46, 47, 48, 49, 50, 51, 52, 53, 54] (by decide +kernel) (by decide +kernel)
set_option maxRecDepth 20000 in
theorem gX9_even_X9_owes : GoodIn wsX9_even (wsV RX9 180 RX9 yX9_owes wsX9_owes) := goodIn_app (goodIn_of _ (by decide +kernel)) ggX9_even_X9_owes
theorem dX9_even_0 : decode cX9_even 0 = .ok (.aload_n 0, 1) := by decide +kernel
theorem dX9_even_1 : decode cX9_even 1 = .ok (.invokevirtual 134, 3) := by decide +kernel
theorem dX9_even_4 : decode cX9_even 4 = .ok (.iconst 0, 1) := by decide +kernel
theorem dX9_even_5 : decode cX9_even 5 = .ok (.istore_n 1, 1) := by decide +kernel
theorem dX9_even_6 : decode cX9_even 6 = .ok (.iconst 0, 1) := by decide +kernel
theorem dX9_even_7 : decode cX9_even 7 = .ok (.istore_n 2, 1) := by decide +kernel
theorem dX9_even_8 : decode cX9_even 8 = .ok (.iconst 0, 1) := by decide +kernel
theorem dX9_even_9 : decode cX9_even 9 = .ok (.istore_n 3, 1) := by decide +kernel
theorem dX9_even_10 : decode cX9_even 10 = .ok (.iload_n 3, 1) := by decide +kernel
theorem dX9_even_11 : decode cX9_even 11 = .ok (.bipush 56, 2) := by decide +kernel
theorem dX9_even_13 : decode cX9_even 13 = .ok (.if_icmp .ge 29, 3) := by decide +kernel
theorem dX9_even_16 : decode cX9_even 16 = .ok (.iload_n 1, 1) := by decide +kernel
theorem dX9_even_17 : decode cX9_even 17 = .ok (.aload_n 0, 1) := by decide +kernel
theorem dX9_even_18 : decode cX9_even 18 = .ok (.iload_n 3, 1) := by decide +kernel
theorem dX9_even_19 : decode cX9_even 19 = .ok (.invokevirtual 180, 3) := by decide +kernel
theorem dX9_even_22 : decode cX9_even 22 = .ok (.iadd, 1) := by decide +kernel
theorem dX9_even_23 : decode cX9_even 23 = .ok (.istore_n 1, 1) := by decide +kernel
theorem dX9_even_24 : decode cX9_even 24 = .ok (.iload_n 1, 1) := by decide +kernel
theorem dX9_even_25 : decode cX9_even 25 = .ok (.ifCond .eq 9, 3) := by decide +kernel
theorem dX9_even_28 : decode cX9_even 28 = .ok (.iload_n 3, 1) := by decide +kernel
theorem dX9_even_29 : decode cX9_even 29 = .ok (.iconst 1, 1) := by decide +kernel
theorem dX9_even_30 : decode cX9_even 30 = .ok (.iadd, 1) := by decide +kernel
theorem dX9_even_31 : decode cX9_even 31 = .ok (.goto 4, 3) := by decide +kernel
theorem dX9_even_34 : decode cX9_even 34 = .ok (.iload_n 2, 1) := by decide +kernel
theorem dX9_even_35 : decode cX9_even 35 = .ok (.istore_n 2, 1) := by decide +kernel
theorem dX9_even_36 : decode cX9_even 36 = .ok (.iinc 3 1, 3) := by decide +kernel
theorem dX9_even_39 : decode cX9_even 39 = .ok (.goto (-29), 3) := by decide +kernel
theorem dX9_even_42 : decode cX9_even 42 = .ok (.iload_n 2, 1) := by decide +kernel
theorem dX9_even_43 : decode cX9_even 43 = .ok (.bipush 56, 2) := by decide +kernel
theorem dX9_even_45 : decode cX9_even 45 = .ok (.if_icmp .ne 8, 3) := by decide +kernel
theorem dX9_even_48 : decode cX9_even 48 = .ok (.bipush (-9), 2) := by decide +kernel
theorem dX9_even_50 : decode cX9_even 50 = .ok (.goto 4, 3) := by decide +kernel
theorem dX9_even_53 : decode cX9_even 53 = .ok (.iload_n 2, 1) := by decide +kernel
theorem dX9_even_54 : decode cX9_even 54 = .ok (.ireturn, 1) := by decide +kernel
set_option maxRecDepth 20000 in
theorem ggX9_wedding_X9_isNight : GoodIn wsX9_wedding wsX9_isNight := goodIn_r _ [5, 6, 7, 8, 4, 9] (by decide +kernel) (by decide +kernel)
set_option maxRecDepth 20000 in
theorem gX9_wedding_X9_isNight : GoodIn wsX9_wedding (va_wsS RX9 128 yX9_isNight wsX9_isNight) := goodIn_app (goodIn_of _ (by decide +kernel)) ggX9_wedding_X9_isNight
set_option maxRecDepth 20000 in
theorem ggX9_wedding_X9_isHouse : GoodIn wsX9_wedding wsX9_isHouse := goodIn_r _ [12, 7, 8, 4, 9] (by decide +kernel) (by decide +kernel)
set_option maxRecDepth 20000 in
theorem gX9_wedding_X9_isHouse : GoodIn wsX9_wedding (va_wsS RX9 146 yX9_isHouse wsX9_isHouse) := goodIn_app (goodIn_of _ (by decide +kernel)) ggX9_wedding_X9_isHouse
set_option maxRecDepth 20000 in
theorem ggX9_wedding_X9_costOf : GoodIn wsX9_wedding wsX9_costOf := goodIn_r _ [16, 1, 17, 18, 19, 20, 21, 22, 4, 23, 24, 25, 26, 27, 28, 29, 30, 31, 32, 33, 34, 35, 36, 37, 38, 39, 40, 41, 42, 43, 44, 45, 46, 47, 48, 49, 50, 51, 52, 53, 54, 55] (by decide +kernel) (by decide +kernel)
set_option maxRecDepth 20000 in
theorem gX9_wedding_X9_costOf : GoodIn wsX9_wedding (wsV RX9 159 RX9 yX9_costOf wsX9_costOf) := goodIn_app (goodIn_of _ (by decide +kernel)) ggX9_wedding_X9_costOf
theorem dX9_wedding_0 : decode cX9_wedding 0 = .ok (.iload_n 1, 1) := by decide +kernel
theorem dX9_wedding_1 : decode cX9_wedding 1 = .ok (.invokestatic 128, 3) := by decide +kernel
theorem dX9_wedding_4 : decode cX9_wedding 4 = .ok (.ifCond .eq 10, 3) := by decide +kernel
theorem dX9_wedding_7 : decode cX9_wedding 7 = .ok (.iload_n 2, 1) := by decide +kernel
theorem dX9_wedding_8 : decode cX9_wedding 8 = .ok (.invokestatic 146, 3) := by decide +kernel
theorem dX9_wedding_11 : decode cX9_wedding 11 = .ok (.ifCond .ne 5, 3) := by decide +kernel
theorem dX9_wedding_14 : decode cX9_wedding 14 = .ok (.iconst (-1), 1) := by decide +kernel
theorem dX9_wedding_15 : decode cX9_wedding 15 = .ok (.ireturn, 1) := by decide +kernel
theorem dX9_wedding_16 : decode cX9_wedding 16 = .ok (.aload_n 0, 1) := by decide +kernel
theorem dX9_wedding_17 : decode cX9_wedding 17 = .ok (.getfield 25, 3) := by decide +kernel
theorem dX9_wedding_20 : decode cX9_wedding 20 = .ok (.iload_n 1, 1) := by decide +kernel
theorem dX9_wedding_21 : decode cX9_wedding 21 = .ok (.iaload, 1) := by decide +kernel
theorem dX9_wedding_22 : decode cX9_wedding 22 = .ok (.iload_n 2, 1) := by decide +kernel
theorem dX9_wedding_23 : decode cX9_wedding 23 = .ok (.if_icmp .ne 6, 3) := by decide +kernel
theorem dX9_wedding_26 : decode cX9_wedding 26 = .ok (.bipush (-9), 2) := by decide +kernel
theorem dX9_wedding_28 : decode cX9_wedding 28 = .ok (.ireturn, 1) := by decide +kernel
theorem dX9_wedding_29 : decode cX9_wedding 29 = .ok (.bipush (-9), 2) := by decide +kernel
theorem dX9_wedding_31 : decode cX9_wedding 31 = .ok (.istore_n 3, 1) := by decide +kernel
theorem dX9_wedding_32 : decode cX9_wedding 32 = .ok (.iconst 0, 1) := by decide +kernel
theorem dX9_wedding_33 : decode cX9_wedding 33 = .ok (.istore 4, 2) := by decide +kernel
theorem dX9_wedding_35 : decode cX9_wedding 35 = .ok (.aload_n 0, 1) := by decide +kernel
theorem dX9_wedding_36 : decode cX9_wedding 36 = .ok (.getfield 25, 3) := by decide +kernel
theorem dX9_wedding_39 : decode cX9_wedding 39 = .ok (.iload_n 1, 1) := by decide +kernel
theorem dX9_wedding_40 : decode cX9_wedding 40 = .ok (.iload_n 2, 1) := by decide +kernel
theorem dX9_wedding_41 : decode cX9_wedding 41 = .ok (.iastore, 1) := by decide +kernel
theorem dX9_wedding_42 : decode cX9_wedding 42 = .ok (.iload_n 1, 1) := by decide +kernel
theorem dX9_wedding_43 : decode cX9_wedding 43 = .ok (.bipush 14, 2) := by decide +kernel
theorem dX9_wedding_45 : decode cX9_wedding 45 = .ok (.isub, 1) := by decide +kernel
theorem dX9_wedding_46 : decode cX9_wedding 46 = .ok (.istore 5, 2) := by decide +kernel
theorem dX9_wedding_48 : decode cX9_wedding 48 = .ok (.iload 5, 2) := by decide +kernel
theorem dX9_wedding_50 : decode cX9_wedding 50 = .ok (.iload_n 1, 1) := by decide +kernel
theorem dX9_wedding_51 : decode cX9_wedding 51 = .ok (.bipush 14, 2) := by decide +kernel
theorem dX9_wedding_53 : decode cX9_wedding 53 = .ok (.iadd, 1) := by decide +kernel
theorem dX9_wedding_54 : decode cX9_wedding 54 = .ok (.if_icmp .gt 78, 3) := by decide +kernel
theorem dX9_wedding_57 : decode cX9_wedding 57 = .ok (.iload 5, 2) := by decide +kernel
theorem dX9_wedding_59 : decode cX9_wedding 59 = .ok (.invokestatic 128, 3) := by decide +kernel
theorem dX9_wedding_62 : decode cX9_wedding 62 = .ok (.ifCond .eq 64, 3) := by decide +kernel
theorem dX9_wedding_65 : decode cX9_wedding 65 = .ok (.iload 5, 2) := by decide +kernel
theorem dX9_wedding_67 : decode cX9_wedding 67 = .ok (.iload_n 1, 1) := by decide +kernel
theorem dX9_wedding_68 : decode cX9_wedding 68 = .ok (.if_icmp .eq 58, 3) := by decide +kernel
theorem dX9_wedding_71 : decode cX9_wedding 71 = .ok (.aload_n 0, 1) := by decide +kernel
theorem dX9_wedding_72 : decode cX9_wedding 72 = .ok (.getfield 25, 3) := by decide +kernel
theorem dX9_wedding_75 : decode cX9_wedding 75 = .ok (.iload 5, 2) := by decide +kernel
theorem dX9_wedding_77 : decode cX9_wedding 77 = .ok (.iaload, 1) := by decide +kernel
theorem dX9_wedding_78 : decode cX9_wedding 78 = .ok (.iload_n 2, 1) := by decide +kernel
theorem dX9_wedding_79 : decode cX9_wedding 79 = .ok (.if_icmp .ne 47, 3) := by decide +kernel
theorem dX9_wedding_82 : decode cX9_wedding 82 = .ok (.aload_n 0, 1) := by decide +kernel
theorem dX9_wedding_83 : decode cX9_wedding 83 = .ok (.getfield 25, 3) := by decide +kernel
theorem dX9_wedding_86 : decode cX9_wedding 86 = .ok (.iload 5, 2) := by decide +kernel
theorem dX9_wedding_88 : decode cX9_wedding 88 = .ok (.iconst 1, 1) := by decide +kernel
theorem dX9_wedding_89 : decode cX9_wedding 89 = .ok (.iload_n 2, 1) := by decide +kernel
theorem dX9_wedding_90 : decode cX9_wedding 90 = .ok (.isub, 1) := by decide +kernel
theorem dX9_wedding_91 : decode cX9_wedding 91 = .ok (.iastore, 1) := by decide +kernel
theorem dX9_wedding_92 : decode cX9_wedding 92 = .ok (.aload_n 0, 1) := by decide +kernel
theorem dX9_wedding_93 : decode cX9_wedding 93 = .ok (.invokevirtual 159, 3) := by decide +kernel
theorem dX9_wedding_96 : decode cX9_wedding 96 = .ok (.istore 6, 2) := by decide +kernel
theorem dX9_wedding_98 : decode cX9_wedding 98 = .ok (.aload_n 0, 1) := by decide +kernel
theorem dX9_wedding_99 : decode cX9_wedding 99 = .ok (.getfield 25, 3) := by decide +kernel
theorem dX9_wedding_102 : decode cX9_wedding 102 = .ok (.iload 5, 2) := by decide +kernel
theorem dX9_wedding_104 : decode cX9_wedding 104 = .ok (.iload_n 2, 1) := by decide +kernel
theorem dX9_wedding_105 : decode cX9_wedding 105 = .ok (.iastore, 1) := by decide +kernel
theorem dX9_wedding_106 : decode cX9_wedding 106 = .ok (.iload_n 3, 1) := by decide +kernel
theorem dX9_wedding_107 : decode cX9_wedding 107 = .ok (.bipush (-9), 2) := by decide +kernel
theorem dX9_wedding_109 : decode cX9_wedding 109 = .ok (.if_icmp .eq 10, 3) := by decide +kernel
theorem dX9_wedding_112 : decode cX9_wedding 112 = .ok (.iload 6, 2) := by decide +kernel
theorem dX9_wedding_114 : decode cX9_wedding 114 = .ok (.iload 4, 2) := by decide +kernel
theorem dX9_wedding_116 : decode cX9_wedding 116 = .ok (.if_icmp .ge 10, 3) := by decide +kernel
theorem dX9_wedding_119 : decode cX9_wedding 119 = .ok (.iload 5, 2) := by decide +kernel
theorem dX9_wedding_121 : decode cX9_wedding 121 = .ok (.istore_n 3, 1) := by decide +kernel
theorem dX9_wedding_122 : decode cX9_wedding 122 = .ok (.iload 6, 2) := by decide +kernel
theorem dX9_wedding_124 : decode cX9_wedding 124 = .ok (.istore 4, 2) := by decide +kernel
theorem dX9_wedding_126 : decode cX9_wedding 126 = .ok (.iinc 5 1, 3) := by decide +kernel
theorem dX9_wedding_129 : decode cX9_wedding 129 = .ok (.goto (-81), 3) := by decide +kernel
theorem dX9_wedding_132 : decode cX9_wedding 132 = .ok (.aload_n 0, 1) := by decide +kernel
theorem dX9_wedding_133 : decode cX9_wedding 133 = .ok (.getfield 25, 3) := by decide +kernel
theorem dX9_wedding_136 : decode cX9_wedding 136 = .ok (.iload_n 1, 1) := by decide +kernel
theorem dX9_wedding_137 : decode cX9_wedding 137 = .ok (.iconst 1, 1) := by decide +kernel
theorem dX9_wedding_138 : decode cX9_wedding 138 = .ok (.iload_n 2, 1) := by decide +kernel
theorem dX9_wedding_139 : decode cX9_wedding 139 = .ok (.isub, 1) := by decide +kernel
theorem dX9_wedding_140 : decode cX9_wedding 140 = .ok (.iastore, 1) := by decide +kernel
theorem dX9_wedding_141 : decode cX9_wedding 141 = .ok (.iload_n 3, 1) := by decide +kernel
theorem dX9_wedding_142 : decode cX9_wedding 142 = .ok (.ireturn, 1) := by decide +kernel
set_option maxRecDepth 20000 in
theorem ggX9_late_X9_isNight : GoodIn wsX9_late wsX9_isNight := goodIn_r _ [9, 10, 11, 12, 8, 13] (by decide +kernel) (by decide +kernel)
set_option maxRecDepth 20000 in
theorem gX9_late_X9_isNight : GoodIn wsX9_late (va_wsS RX9 128 yX9_isNight wsX9_isNight) := goodIn_app (goodIn_of _ (by decide +kernel)) ggX9_late_X9_isNight
set_option maxRecDepth 20000 in
theorem ggX9_late_X9_in : GoodIn wsX9_late wsX9_in := goodIn_r _ [13] (by decide +kernel) (by decide +kernel)
set_option maxRecDepth 20000 in
theorem gX9_late_X9_in : GoodIn wsX9_late (va_wsS RX9 77 yX9_in wsX9_in) := goodIn_app (goodIn_of _ (by decide +kernel)) ggX9_late_X9_in
set_option maxRecDepth 20000 in
theorem ggX9_late_X9_layWhose : GoodIn wsX9_late wsX9_layWhose := goodIn_r _ [17, 5, 18, 19, 20, 21, 8, 22, 23, 24, 25, 26, 27, 28, 29, 11, 12, 13, 30, 31, 32, 33, 34, 35, 36, 37, 38, 39, 40, 41, 42, 43, 44, 45, 46, 47, 48, 49, 50, 51, 52, 53, 54, 55, 56, 57] (by decide +kernel) (by decide +kernel)
set_option maxRecDepth 20000 in
theorem gX9_late_X9_layWhose : GoodIn wsX9_late (wsV RX9 134 RX9 yX9_layWhose wsX9_layWhose) := goodIn_app (goodIn_of _ (by decide +kernel)) ggX9_late_X9_layWhose
theorem dX9_late_0 : decode cX9_late 0 = .ok (.iload_n 1, 1) := by decide +kernel
theorem dX9_late_1 : decode cX9_late 1 = .ok (.invokestatic 128, 3) := by decide +kernel
theorem dX9_late_4 : decode cX9_late 4 = .ok (.ifCond .ne 5, 3) := by decide +kernel
theorem dX9_late_7 : decode cX9_late 7 = .ok (.iconst (-1), 1) := by decide +kernel
theorem dX9_late_8 : decode cX9_late 8 = .ok (.ireturn, 1) := by decide +kernel
theorem dX9_late_9 : decode cX9_late 9 = .ok (.iload_n 2, 1) := by decide +kernel
theorem dX9_late_10 : decode cX9_late 10 = .ok (.i2l, 1) := by decide +kernel
theorem dX9_late_11 : decode cX9_late 11 = .ok (.lconst 1, 1) := by decide +kernel
theorem dX9_late_12 : decode cX9_late 12 = .ok (.ldc2_w 114, 3) := by decide +kernel
theorem dX9_late_15 : decode cX9_late 15 = .ok (.invokestatic 77, 3) := by decide +kernel
theorem dX9_late_18 : decode cX9_late 18 = .ok (.ifCond .ne 6, 3) := by decide +kernel
theorem dX9_late_21 : decode cX9_late 21 = .ok (.bipush (-2), 2) := by decide +kernel
theorem dX9_late_23 : decode cX9_late 23 = .ok (.ireturn, 1) := by decide +kernel
theorem dX9_late_24 : decode cX9_late 24 = .ok (.iload_n 1, 1) := by decide +kernel
theorem dX9_late_25 : decode cX9_late 25 = .ok (.ifCond .eq 20, 3) := by decide +kernel
theorem dX9_late_28 : decode cX9_late 28 = .ok (.aload_n 0, 1) := by decide +kernel
theorem dX9_late_29 : decode cX9_late 29 = .ok (.getfield 25, 3) := by decide +kernel
theorem dX9_late_32 : decode cX9_late 32 = .ok (.iload_n 1, 1) := by decide +kernel
theorem dX9_late_33 : decode cX9_late 33 = .ok (.iaload, 1) := by decide +kernel
theorem dX9_late_34 : decode cX9_late 34 = .ok (.aload_n 0, 1) := by decide +kernel
theorem dX9_late_35 : decode cX9_late 35 = .ok (.getfield 25, 3) := by decide +kernel
theorem dX9_late_38 : decode cX9_late 38 = .ok (.iload_n 1, 1) := by decide +kernel
theorem dX9_late_39 : decode cX9_late 39 = .ok (.iconst 1, 1) := by decide +kernel
theorem dX9_late_40 : decode cX9_late 40 = .ok (.isub, 1) := by decide +kernel
theorem dX9_late_41 : decode cX9_late 41 = .ok (.iaload, 1) := by decide +kernel
theorem dX9_late_42 : decode cX9_late 42 = .ok (.if_icmp .ne 6, 3) := by decide +kernel
theorem dX9_late_45 : decode cX9_late 45 = .ok (.bipush (-3), 2) := by decide +kernel
theorem dX9_late_47 : decode cX9_late 47 = .ok (.ireturn, 1) := by decide +kernel
theorem dX9_late_48 : decode cX9_late 48 = .ok (.aload_n 0, 1) := by decide +kernel
theorem dX9_late_49 : decode cX9_late 49 = .ok (.getfield 25, 3) := by decide +kernel
theorem dX9_late_52 : decode cX9_late 52 = .ok (.iload_n 1, 1) := by decide +kernel
theorem dX9_late_53 : decode cX9_late 53 = .ok (.iaload, 1) := by decide +kernel
theorem dX9_late_54 : decode cX9_late 54 = .ok (.istore_n 3, 1) := by decide +kernel
theorem dX9_late_55 : decode cX9_late 55 = .ok (.aload_n 0, 1) := by decide +kernel
theorem dX9_late_56 : decode cX9_late 56 = .ok (.getfield 43, 3) := by decide +kernel
theorem dX9_late_59 : decode cX9_late 59 = .ok (.iload_n 3, 1) := by decide +kernel
theorem dX9_late_60 : decode cX9_late 60 = .ok (.dup2, 1) := by decide +kernel
theorem dX9_late_61 : decode cX9_late 61 = .ok (.iaload, 1) := by decide +kernel
theorem dX9_late_62 : decode cX9_late 62 = .ok (.iload_n 2, 1) := by decide +kernel
theorem dX9_late_63 : decode cX9_late 63 = .ok (.bipush 9, 2) := by decide +kernel
theorem dX9_late_65 : decode cX9_late 65 = .ok (.iadd, 1) := by decide +kernel
theorem dX9_late_66 : decode cX9_late 66 = .ok (.bipush 10, 2) := by decide +kernel
theorem dX9_late_68 : decode cX9_late 68 = .ok (.idiv, 1) := by decide +kernel
theorem dX9_late_69 : decode cX9_late 69 = .ok (.iadd, 1) := by decide +kernel
theorem dX9_late_70 : decode cX9_late 70 = .ok (.iastore, 1) := by decide +kernel
theorem dX9_late_71 : decode cX9_late 71 = .ok (.aload_n 0, 1) := by decide +kernel
theorem dX9_late_72 : decode cX9_late 72 = .ok (.getfield 46, 3) := by decide +kernel
theorem dX9_late_75 : decode cX9_late 75 = .ok (.iload_n 3, 1) := by decide +kernel
theorem dX9_late_76 : decode cX9_late 76 = .ok (.dup2, 1) := by decide +kernel
theorem dX9_late_77 : decode cX9_late 77 = .ok (.iaload, 1) := by decide +kernel
theorem dX9_late_78 : decode cX9_late 78 = .ok (.iconst 1, 1) := by decide +kernel
theorem dX9_late_79 : decode cX9_late 79 = .ok (.iadd, 1) := by decide +kernel
theorem dX9_late_80 : decode cX9_late 80 = .ok (.iastore, 1) := by decide +kernel
theorem dX9_late_81 : decode cX9_late 81 = .ok (.aload_n 0, 1) := by decide +kernel
theorem dX9_late_82 : decode cX9_late 82 = .ok (.getfield 46, 3) := by decide +kernel
theorem dX9_late_85 : decode cX9_late 85 = .ok (.iload_n 3, 1) := by decide +kernel
theorem dX9_late_86 : decode cX9_late 86 = .ok (.iaload, 1) := by decide +kernel
theorem dX9_late_87 : decode cX9_late 87 = .ok (.iconst 3, 1) := by decide +kernel
theorem dX9_late_88 : decode cX9_late 88 = .ok (.irem, 1) := by decide +kernel
theorem dX9_late_89 : decode cX9_late 89 = .ok (.ifCond .eq 6, 3) := by decide +kernel
theorem dX9_late_92 : decode cX9_late 92 = .ok (.bipush (-9), 2) := by decide +kernel
theorem dX9_late_94 : decode cX9_late 94 = .ok (.ireturn, 1) := by decide +kernel
theorem dX9_late_95 : decode cX9_late 95 = .ok (.aload_n 0, 1) := by decide +kernel
theorem dX9_late_96 : decode cX9_late 96 = .ok (.invokevirtual 134, 3) := by decide +kernel
theorem dX9_late_99 : decode cX9_late 99 = .ok (.iload_n 1, 1) := by decide +kernel
theorem dX9_late_100 : decode cX9_late 100 = .ok (.iconst 1, 1) := by decide +kernel
theorem dX9_late_101 : decode cX9_late 101 = .ok (.iadd, 1) := by decide +kernel
theorem dX9_late_102 : decode cX9_late 102 = .ok (.istore 4, 2) := by decide +kernel
theorem dX9_late_104 : decode cX9_late 104 = .ok (.iload 4, 2) := by decide +kernel
theorem dX9_late_106 : decode cX9_late 106 = .ok (.bipush 56, 2) := by decide +kernel
theorem dX9_late_108 : decode cX9_late 108 = .ok (.if_icmp .ge 20, 3) := by decide +kernel
theorem dX9_late_111 : decode cX9_late 111 = .ok (.aload_n 0, 1) := by decide +kernel
theorem dX9_late_112 : decode cX9_late 112 = .ok (.getfield 22, 3) := by decide +kernel
theorem dX9_late_115 : decode cX9_late 115 = .ok (.iload 4, 2) := by decide +kernel
theorem dX9_late_117 : decode cX9_late 117 = .ok (.iaload, 1) := by decide +kernel
theorem dX9_late_118 : decode cX9_late 118 = .ok (.iload_n 3, 1) := by decide +kernel
theorem dX9_late_119 : decode cX9_late 119 = .ok (.if_icmp .eq 9, 3) := by decide +kernel
theorem dX9_late_122 : decode cX9_late 122 = .ok (.iinc 4 1, 3) := by decide +kernel
theorem dX9_late_125 : decode cX9_late 125 = .ok (.goto (-21), 3) := by decide +kernel
theorem dX9_late_128 : decode cX9_late 128 = .ok (.iload 4, 2) := by decide +kernel
theorem dX9_late_130 : decode cX9_late 130 = .ok (.bipush 56, 2) := by decide +kernel
theorem dX9_late_132 : decode cX9_late 132 = .ok (.if_icmp .ne 6, 3) := by decide +kernel
theorem dX9_late_135 : decode cX9_late 135 = .ok (.bipush (-9), 2) := by decide +kernel
theorem dX9_late_137 : decode cX9_late 137 = .ok (.ireturn, 1) := by decide +kernel
theorem dX9_late_138 : decode cX9_late 138 = .ok (.aload_n 0, 1) := by decide +kernel
theorem dX9_late_139 : decode cX9_late 139 = .ok (.getfield 25, 3) := by decide +kernel
theorem dX9_late_142 : decode cX9_late 142 = .ok (.iload 4, 2) := by decide +kernel
theorem dX9_late_144 : decode cX9_late 144 = .ok (.iconst 1, 1) := by decide +kernel
theorem dX9_late_145 : decode cX9_late 145 = .ok (.iload_n 3, 1) := by decide +kernel
theorem dX9_late_146 : decode cX9_late 146 = .ok (.isub, 1) := by decide +kernel
theorem dX9_late_147 : decode cX9_late 147 = .ok (.iastore, 1) := by decide +kernel
theorem dX9_late_148 : decode cX9_late 148 = .ok (.iload 4, 2) := by decide +kernel
theorem dX9_late_150 : decode cX9_late 150 = .ok (.ireturn, 1) := by decide +kernel
set_option maxRecDepth 20000 in
theorem ggX9_fines_X9_isHouse : GoodIn wsX9_fines wsX9_isHouse := goodIn_r _ [6, 7, 8, 5, 9] (by decide +kernel) (by decide +kernel)
set_option maxRecDepth 20000 in
theorem gX9_fines_X9_isHouse : GoodIn wsX9_fines (va_wsS RX9 146 yX9_isHouse wsX9_isHouse) := goodIn_app (goodIn_of _ (by decide +kernel)) ggX9_fines_X9_isHouse
theorem dX9_fines_0 : decode cX9_fines 0 = .ok (.iload_n 1, 1) := by decide +kernel
theorem dX9_fines_1 : decode cX9_fines 1 = .ok (.invokestatic 146, 3) := by decide +kernel
theorem dX9_fines_4 : decode cX9_fines 4 = .ok (.ifCond .ne 5, 3) := by decide +kernel
theorem dX9_fines_7 : decode cX9_fines 7 = .ok (.iconst (-1), 1) := by decide +kernel
theorem dX9_fines_8 : decode cX9_fines 8 = .ok (.ireturn, 1) := by decide +kernel
theorem dX9_fines_9 : decode cX9_fines 9 = .ok (.iload_n 2, 1) := by decide +kernel
theorem dX9_fines_10 : decode cX9_fines 10 = .ok (.ifCond .eq 12, 3) := by decide +kernel
theorem dX9_fines_13 : decode cX9_fines 13 = .ok (.aload_n 0, 1) := by decide +kernel
theorem dX9_fines_14 : decode cX9_fines 14 = .ok (.getfield 46, 3) := by decide +kernel
theorem dX9_fines_17 : decode cX9_fines 17 = .ok (.iload_n 1, 1) := by decide +kernel
theorem dX9_fines_18 : decode cX9_fines 18 = .ok (.iaload, 1) := by decide +kernel
theorem dX9_fines_19 : decode cX9_fines 19 = .ok (.goto 9, 3) := by decide +kernel
theorem dX9_fines_22 : decode cX9_fines 22 = .ok (.aload_n 0, 1) := by decide +kernel
theorem dX9_fines_23 : decode cX9_fines 23 = .ok (.getfield 43, 3) := by decide +kernel
theorem dX9_fines_26 : decode cX9_fines 26 = .ok (.iload_n 1, 1) := by decide +kernel
theorem dX9_fines_27 : decode cX9_fines 27 = .ok (.iaload, 1) := by decide +kernel
theorem dX9_fines_28 : decode cX9_fines 28 = .ok (.ireturn, 1) := by decide +kernel
set_option maxRecDepth 20000 in
theorem ggX9_move_X9_in : GoodIn wsX9_move wsX9_in := goodIn_r _ [6] (by decide +kernel) (by decide +kernel)
set_option maxRecDepth 20000 in
theorem gX9_move_X9_in : GoodIn wsX9_move (va_wsS RX9 77 yX9_in wsX9_in) := goodIn_app (goodIn_of _ (by decide +kernel)) ggX9_move_X9_in
set_option maxRecDepth 20000 in
theorem ggX9_move_X9_layWhose : GoodIn wsX9_move wsX9_layWhose := goodIn_r _ [10, 2, 11, 12, 13, 14, 5, 15, 16, 17, 18, 19, 20, 21, 22, 3, 4, 6, 27, 28, 29, 30, 31, 32, 33, 34, 35, 36, 37, 38, 39, 40, 41, 42, 43, 44, 45, 46, 47, 48, 49, 50, 51, 52, 53, 54] (by decide +kernel) (by decide +kernel)
set_option maxRecDepth 20000 in
theorem gX9_move_X9_layWhose : GoodIn wsX9_move (wsV RX9 134 RX9 yX9_layWhose wsX9_layWhose) := goodIn_app (goodIn_of _ (by decide +kernel)) ggX9_move_X9_layWhose
set_option maxRecDepth 20000 in
theorem ggX9_move_X9_mayBe : GoodIn wsX9_move wsX9_mayBe := goodIn_r _ [26, 2, 27, 28, 29, 30, 31, 32, 33, 34, 35, 36, 37, 38, 39, 40, 41, 42, 43, 44, 45, 46, 47, 48, 49, 50, 51, 52, 53, 54] (by decide +kernel) (by decide +kernel)
set_option maxRecDepth 20000 in
theorem gX9_move_X9_mayBe : GoodIn wsX9_move (wsV RX9 162 RX9 yX9_mayBe wsX9_mayBe) := goodIn_app (goodIn_of _ (by decide +kernel)) ggX9_move_X9_mayBe
theorem dX9_move_0 : decode cX9_move 0 = .ok (.iload_n 1, 1) := by decide +kernel
theorem dX9_move_1 : decode cX9_move 1 = .ok (.i2l, 1) := by decide +kernel
theorem dX9_move_2 : decode cX9_move 2 = .ok (.lconst 0, 1) := by decide +kernel
theorem dX9_move_3 : decode cX9_move 3 = .ok (.ldc2_w 114, 3) := by decide +kernel
theorem dX9_move_6 : decode cX9_move 6 = .ok (.invokestatic 77, 3) := by decide +kernel
theorem dX9_move_9 : decode cX9_move 9 = .ok (.ifCond .ne 6, 3) := by decide +kernel
theorem dX9_move_12 : decode cX9_move 12 = .ok (.bipush (-2), 2) := by decide +kernel
theorem dX9_move_14 : decode cX9_move 14 = .ok (.ireturn, 1) := by decide +kernel
theorem dX9_move_15 : decode cX9_move 15 = .ok (.aload_n 0, 1) := by decide +kernel
theorem dX9_move_16 : decode cX9_move 16 = .ok (.invokevirtual 134, 3) := by decide +kernel
theorem dX9_move_19 : decode cX9_move 19 = .ok (.iconst 0, 1) := by decide +kernel
theorem dX9_move_20 : decode cX9_move 20 = .ok (.istore_n 2, 1) := by decide +kernel
theorem dX9_move_21 : decode cX9_move 21 = .ok (.iconst 0, 1) := by decide +kernel
theorem dX9_move_22 : decode cX9_move 22 = .ok (.istore_n 3, 1) := by decide +kernel
theorem dX9_move_23 : decode cX9_move 23 = .ok (.iload_n 3, 1) := by decide +kernel
theorem dX9_move_24 : decode cX9_move 24 = .ok (.bipush 56, 2) := by decide +kernel
theorem dX9_move_26 : decode cX9_move 26 = .ok (.if_icmp .ge 43, 3) := by decide +kernel
theorem dX9_move_29 : decode cX9_move 29 = .ok (.iload_n 1, 1) := by decide +kernel
theorem dX9_move_30 : decode cX9_move 30 = .ok (.bipush 45, 2) := by decide +kernel
theorem dX9_move_32 : decode cX9_move 32 = .ok (.if_icmp .le 37, 3) := by decide +kernel
theorem dX9_move_35 : decode cX9_move 35 = .ok (.iload_n 2, 1) := by decide +kernel
theorem dX9_move_36 : decode cX9_move 36 = .ok (.aload_n 0, 1) := by decide +kernel
theorem dX9_move_37 : decode cX9_move 37 = .ok (.getfield 22, 3) := by decide +kernel
theorem dX9_move_40 : decode cX9_move 40 = .ok (.iload_n 3, 1) := by decide +kernel
theorem dX9_move_41 : decode cX9_move 41 = .ok (.iaload, 1) := by decide +kernel
theorem dX9_move_42 : decode cX9_move 42 = .ok (.iconst 1, 1) := by decide +kernel
theorem dX9_move_43 : decode cX9_move 43 = .ok (.if_icmp .ne 17, 3) := by decide +kernel
theorem dX9_move_46 : decode cX9_move 46 = .ok (.aload_n 0, 1) := by decide +kernel
theorem dX9_move_47 : decode cX9_move 47 = .ok (.iload_n 3, 1) := by decide +kernel
theorem dX9_move_48 : decode cX9_move 48 = .ok (.iconst 1, 1) := by decide +kernel
theorem dX9_move_49 : decode cX9_move 49 = .ok (.iconst 1, 1) := by decide +kernel
theorem dX9_move_50 : decode cX9_move 50 = .ok (.invokevirtual 162, 3) := by decide +kernel
theorem dX9_move_53 : decode cX9_move 53 = .ok (.ifCond .ne 7, 3) := by decide +kernel
theorem dX9_move_56 : decode cX9_move 56 = .ok (.iconst 1, 1) := by decide +kernel
theorem dX9_move_57 : decode cX9_move 57 = .ok (.goto 4, 3) := by decide +kernel
theorem dX9_move_60 : decode cX9_move 60 = .ok (.iconst 0, 1) := by decide +kernel
theorem dX9_move_61 : decode cX9_move 61 = .ok (.iadd, 1) := by decide +kernel
theorem dX9_move_62 : decode cX9_move 62 = .ok (.istore_n 2, 1) := by decide +kernel
theorem dX9_move_63 : decode cX9_move 63 = .ok (.iinc 3 1, 3) := by decide +kernel
theorem dX9_move_66 : decode cX9_move 66 = .ok (.goto (-43), 3) := by decide +kernel
theorem dX9_move_69 : decode cX9_move 69 = .ok (.iload_n 2, 1) := by decide +kernel
theorem dX9_move_70 : decode cX9_move 70 = .ok (.ireturn, 1) := by decide +kernel
set_option maxRecDepth 20000 in
theorem ggX9_then_X9_in : GoodIn wsX9_then wsX9_in := goodIn_r _ [5] (by decide +kernel) (by decide +kernel)
set_option maxRecDepth 20000 in
theorem gX9_then_X9_in : GoodIn wsX9_then (va_wsS RX9 77 yX9_in wsX9_in) := goodIn_app (goodIn_of _ (by decide +kernel)) ggX9_then_X9_in
set_option maxRecDepth 20000 in
theorem ggX9_then_X9_layBest : GoodIn wsX9_then wsX9_layBest := goodIn_r _ [9, 10, 11, 12, 13, 14, 15, 16, 4, 17, 18, 19, 20, 21, 22, 23, 24, 25, 26, 27, 28, 29, 30, 2, 3, 5, 31, 32, 33, 34, 35, 36, 37, 38, 39, 40, 41, 42, 43, 44, 45, 46, 47, 48, 49, 50, 51, 52, 53, 54, 55, 56, 57, 58, 59, 60, 61, 62, 63, 64, 65, 66, 67, 68, 69, 70, 71, 72, 73, 74, 75, 76] (by decide +kernel) (by decide +kernel)
set_option maxRecDepth 20000 in
theorem gX9_then_X9_layBest : GoodIn wsX9_then (wsV RX9 171 RX9 yX9_layBest wsX9_layBest) := goodIn_app (goodIn_of _ (by decide +kernel)) ggX9_then_X9_layBest
theorem dX9_then_0 : decode cX9_then 0 = .ok (.iload_n 1, 1) := by decide +kernel
theorem dX9_then_1 : decode cX9_then 1 = .ok (.i2l, 1) := by decide +kernel
theorem dX9_then_2 : decode cX9_then 2 = .ok (.lconst 0, 1) := by decide +kernel
theorem dX9_then_3 : decode cX9_then 3 = .ok (.ldc2_w 114, 3) := by decide +kernel
theorem dX9_then_6 : decode cX9_then 6 = .ok (.invokestatic 77, 3) := by decide +kernel
theorem dX9_then_9 : decode cX9_then 9 = .ok (.ifCond .eq 21, 3) := by decide +kernel
theorem dX9_then_12 : decode cX9_then 12 = .ok (.aload_n 0, 1) := by decide +kernel
theorem dX9_then_13 : decode cX9_then 13 = .ok (.iload_n 1, 1) := by decide +kernel
theorem dX9_then_14 : decode cX9_then 14 = .ok (.bipush 45, 2) := by decide +kernel
theorem dX9_then_16 : decode cX9_then 16 = .ok (.if_icmp .le 7, 3) := by decide +kernel
theorem dX9_then_19 : decode cX9_then 19 = .ok (.iconst 1, 1) := by decide +kernel
theorem dX9_then_20 : decode cX9_then 20 = .ok (.goto 4, 3) := by decide +kernel
theorem dX9_then_23 : decode cX9_then 23 = .ok (.iconst 0, 1) := by decide +kernel
theorem dX9_then_24 : decode cX9_then 24 = .ok (.invokevirtual 171, 3) := by decide +kernel
theorem dX9_then_27 : decode cX9_then 27 = .ok (.goto 5, 3) := by decide +kernel
theorem dX9_then_30 : decode cX9_then 30 = .ok (.bipush (-2), 2) := by decide +kernel
theorem dX9_then_32 : decode cX9_then 32 = .ok (.ireturn, 1) := by decide +kernel
set_option maxRecDepth 20000 in
theorem ggX9_together_X9_in : GoodIn wsX9_together wsX9_in := goodIn_r _ [6] (by decide +kernel) (by decide +kernel)
set_option maxRecDepth 20000 in
theorem gX9_together_X9_in : GoodIn wsX9_together (va_wsS RX9 77 yX9_in wsX9_in) := goodIn_app (goodIn_of _ (by decide +kernel)) ggX9_together_X9_in
set_option maxRecDepth 20000 in
theorem ggX9_together_X9_whoseOf : GoodIn wsX9_together wsX9_whoseOf := goodIn_r _ [10, 11, 12, 13, 14, 15, 16, 5, 17, 3, 4, 6, 18, 19, 20, 21, 22, 23, 24, 25, 26, 27, 28, 29, 30, 31, 32, 33, 34, 35, 36, 37, 38, 39, 40, 41, 42, 43, 44, 45] (by decide +kernel) (by decide +kernel)
set_option maxRecDepth 20000 in
theorem gX9_together_X9_whoseOf : GoodIn wsX9_together (wsV RX9 125 RX9 yX9_whoseOf wsX9_whoseOf) := goodIn_app (goodIn_of _ (by decide +kernel)) ggX9_together_X9_whoseOf
theorem dX9_together_0 : decode cX9_together 0 = .ok (.iload_n 1, 1) := by decide +kernel
theorem dX9_together_1 : decode cX9_together 1 = .ok (.i2l, 1) := by decide +kernel
theorem dX9_together_2 : decode cX9_together 2 = .ok (.lconst 0, 1) := by decide +kernel
theorem dX9_together_3 : decode cX9_together 3 = .ok (.lconst 1, 1) := by decide +kernel
theorem dX9_together_4 : decode cX9_together 4 = .ok (.invokestatic 77, 3) := by decide +kernel
theorem dX9_together_7 : decode cX9_together 7 = .ok (.ifCond .ne 5, 3) := by decide +kernel
theorem dX9_together_10 : decode cX9_together 10 = .ok (.iconst (-1), 1) := by decide +kernel
theorem dX9_together_11 : decode cX9_together 11 = .ok (.ireturn, 1) := by decide +kernel
theorem dX9_together_12 : decode cX9_together 12 = .ok (.aload_n 0, 1) := by decide +kernel
theorem dX9_together_13 : decode cX9_together 13 = .ok (.getfield 49, 3) := by decide +kernel
theorem dX9_together_16 : decode cX9_together 16 = .ok (.iload_n 1, 1) := by decide +kernel
theorem dX9_together_17 : decode cX9_together 17 = .ok (.baload, 1) := by decide +kernel
theorem dX9_together_18 : decode cX9_together 18 = .ok (.ifCond .ne 6, 3) := by decide +kernel
theorem dX9_together_21 : decode cX9_together 21 = .ok (.bipush (-3), 2) := by decide +kernel
theorem dX9_together_23 : decode cX9_together 23 = .ok (.ireturn, 1) := by decide +kernel
theorem dX9_together_24 : decode cX9_together 24 = .ok (.iconst 0, 1) := by decide +kernel
theorem dX9_together_25 : decode cX9_together 25 = .ok (.istore_n 3, 1) := by decide +kernel
theorem dX9_together_26 : decode cX9_together 26 = .ok (.iconst 0, 1) := by decide +kernel
theorem dX9_together_27 : decode cX9_together 27 = .ok (.istore 4, 2) := by decide +kernel
theorem dX9_together_29 : decode cX9_together 29 = .ok (.iload 4, 2) := by decide +kernel
theorem dX9_together_31 : decode cX9_together 31 = .ok (.bipush 56, 2) := by decide +kernel
theorem dX9_together_33 : decode cX9_together 33 = .ok (.if_icmp .ge 91, 3) := by decide +kernel
theorem dX9_together_36 : decode cX9_together 36 = .ok (.aload_n 0, 1) := by decide +kernel
theorem dX9_together_37 : decode cX9_together 37 = .ok (.iconst 0, 1) := by decide +kernel
theorem dX9_together_38 : decode cX9_together 38 = .ok (.iload 4, 2) := by decide +kernel
theorem dX9_together_40 : decode cX9_together 40 = .ok (.aload_n 0, 1) := by decide +kernel
theorem dX9_together_41 : decode cX9_together 41 = .ok (.getfield 72, 3) := by decide +kernel
theorem dX9_together_44 : decode cX9_together 44 = .ok (.iconst 0, 1) := by decide +kernel
theorem dX9_together_45 : decode cX9_together 45 = .ok (.invokevirtual 125, 3) := by decide +kernel
theorem dX9_together_48 : decode cX9_together 48 = .ok (.istore 5, 2) := by decide +kernel
theorem dX9_together_50 : decode cX9_together 50 = .ok (.aload_n 0, 1) := by decide +kernel
theorem dX9_together_51 : decode cX9_together 51 = .ok (.iconst 1, 1) := by decide +kernel
theorem dX9_together_52 : decode cX9_together 52 = .ok (.iload_n 1, 1) := by decide +kernel
theorem dX9_together_53 : decode cX9_together 53 = .ok (.iadd, 1) := by decide +kernel
theorem dX9_together_54 : decode cX9_together 54 = .ok (.iload 4, 2) := by decide +kernel
theorem dX9_together_56 : decode cX9_together 56 = .ok (.aload_n 0, 1) := by decide +kernel
theorem dX9_together_57 : decode cX9_together 57 = .ok (.getfield 72, 3) := by decide +kernel
theorem dX9_together_60 : decode cX9_together 60 = .ok (.iconst 0, 1) := by decide +kernel
theorem dX9_together_61 : decode cX9_together 61 = .ok (.invokevirtual 125, 3) := by decide +kernel
theorem dX9_together_64 : decode cX9_together 64 = .ok (.istore 6, 2) := by decide +kernel
theorem dX9_together_66 : decode cX9_together 66 = .ok (.iload_n 3, 1) := by decide +kernel
theorem dX9_together_67 : decode cX9_together 67 = .ok (.iload_n 2, 1) := by decide +kernel
theorem dX9_together_68 : decode cX9_together 68 = .ok (.ifCond .eq 30, 3) := by decide +kernel
theorem dX9_together_71 : decode cX9_together 71 = .ok (.iload 5, 2) := by decide +kernel
theorem dX9_together_73 : decode cX9_together 73 = .ok (.iconst 1, 1) := by decide +kernel
theorem dX9_together_74 : decode cX9_together 74 = .ok (.if_icmp .gt 16, 3) := by decide +kernel
theorem dX9_together_77 : decode cX9_together 77 = .ok (.iload 6, 2) := by decide +kernel
theorem dX9_together_79 : decode cX9_together 79 = .ok (.iconst 1, 1) := by decide +kernel
theorem dX9_together_80 : decode cX9_together 80 = .ok (.if_icmp .gt 10, 3) := by decide +kernel
theorem dX9_together_83 : decode cX9_together 83 = .ok (.iload 5, 2) := by decide +kernel
theorem dX9_together_85 : decode cX9_together 85 = .ok (.iload 6, 2) := by decide +kernel
theorem dX9_together_87 : decode cX9_together 87 = .ok (.if_icmp .ne 7, 3) := by decide +kernel
theorem dX9_together_90 : decode cX9_together 90 = .ok (.iconst 1, 1) := by decide +kernel
theorem dX9_together_91 : decode cX9_together 91 = .ok (.goto 25, 3) := by decide +kernel
theorem dX9_together_94 : decode cX9_together 94 = .ok (.iconst 0, 1) := by decide +kernel
theorem dX9_together_95 : decode cX9_together 95 = .ok (.goto 21, 3) := by decide +kernel
theorem dX9_together_98 : decode cX9_together 98 = .ok (.iload 5, 2) := by decide +kernel
theorem dX9_together_100 : decode cX9_together 100 = .ok (.iconst 2, 1) := by decide +kernel
theorem dX9_together_101 : decode cX9_together 101 = .ok (.if_icmp .ge 14, 3) := by decide +kernel
theorem dX9_together_104 : decode cX9_together 104 = .ok (.iload 5, 2) := by decide +kernel
theorem dX9_together_106 : decode cX9_together 106 = .ok (.iload 6, 2) := by decide +kernel
theorem dX9_together_108 : decode cX9_together 108 = .ok (.if_icmp .ne 7, 3) := by decide +kernel
theorem dX9_together_111 : decode cX9_together 111 = .ok (.iconst 1, 1) := by decide +kernel
theorem dX9_together_112 : decode cX9_together 112 = .ok (.goto 4, 3) := by decide +kernel
theorem dX9_together_115 : decode cX9_together 115 = .ok (.iconst 0, 1) := by decide +kernel
theorem dX9_together_116 : decode cX9_together 116 = .ok (.iadd, 1) := by decide +kernel
theorem dX9_together_117 : decode cX9_together 117 = .ok (.istore_n 3, 1) := by decide +kernel
theorem dX9_together_118 : decode cX9_together 118 = .ok (.iinc 4 1, 3) := by decide +kernel
theorem dX9_together_121 : decode cX9_together 121 = .ok (.goto (-92), 3) := by decide +kernel
theorem dX9_together_124 : decode cX9_together 124 = .ok (.iload_n 3, 1) := by decide +kernel
theorem dX9_together_125 : decode cX9_together 125 = .ok (.ireturn, 1) := by decide +kernel
set_option maxRecDepth 20000 in
theorem ggX9_years_X9_whoseOf : GoodIn wsX9_years wsX9_whoseOf := goodIn_r _ [5, 6, 7, 8, 9, 10, 11, 4, 12, 13, 14, 15, 16, 17, 18, 19, 20, 21, 22, 23, 24, 25, 26, 27, 28, 29, 30, 31, 32, 33, 34, 35, 36, 37, 38, 39, 40, 41, 42, 43] (by decide +kernel) (by decide +kernel)
set_option maxRecDepth 20000 in
theorem gX9_years_X9_whoseOf : GoodIn wsX9_years (wsV RX9 125 RX9 yX9_whoseOf wsX9_whoseOf) := goodIn_app (goodIn_of _ (by decide +kernel)) ggX9_years_X9_whoseOf
theorem dX9_years_0 : decode cX9_years 0 = .ok (.sipush 200, 3) := by decide +kernel
theorem dX9_years_3 : decode cX9_years 3 = .ok (.istore_n 1, 1) := by decide +kernel
theorem dX9_years_4 : decode cX9_years 4 = .ok (.iconst 0, 1) := by decide +kernel
theorem dX9_years_5 : decode cX9_years 5 = .ok (.istore_n 2, 1) := by decide +kernel
theorem dX9_years_6 : decode cX9_years 6 = .ok (.iload_n 2, 1) := by decide +kernel
theorem dX9_years_7 : decode cX9_years 7 = .ok (.bipush 112, 2) := by decide +kernel
theorem dX9_years_9 : decode cX9_years 9 = .ok (.if_icmp .ge 45, 3) := by decide +kernel
theorem dX9_years_12 : decode cX9_years 12 = .ok (.aload_n 0, 1) := by decide +kernel
theorem dX9_years_13 : decode cX9_years 13 = .ok (.iconst 0, 1) := by decide +kernel
theorem dX9_years_14 : decode cX9_years 14 = .ok (.iload_n 2, 1) := by decide +kernel
theorem dX9_years_15 : decode cX9_years 15 = .ok (.bipush 56, 2) := by decide +kernel
theorem dX9_years_17 : decode cX9_years 17 = .ok (.irem, 1) := by decide +kernel
theorem dX9_years_18 : decode cX9_years 18 = .ok (.iload_n 2, 1) := by decide +kernel
theorem dX9_years_19 : decode cX9_years 19 = .ok (.bipush 56, 2) := by decide +kernel
theorem dX9_years_21 : decode cX9_years 21 = .ok (.idiv, 1) := by decide +kernel
theorem dX9_years_22 : decode cX9_years 22 = .ok (.iconst 0, 1) := by decide +kernel
theorem dX9_years_23 : decode cX9_years 23 = .ok (.invokevirtual 125, 3) := by decide +kernel
theorem dX9_years_26 : decode cX9_years 26 = .ok (.istore_n 3, 1) := by decide +kernel
theorem dX9_years_27 : decode cX9_years 27 = .ok (.iload_n 1, 1) := by decide +kernel
theorem dX9_years_28 : decode cX9_years 28 = .ok (.iload_n 3, 1) := by decide +kernel
theorem dX9_years_29 : decode cX9_years 29 = .ok (.ifCond .ne 7, 3) := by decide +kernel
theorem dX9_years_32 : decode cX9_years 32 = .ok (.iconst 1, 1) := by decide +kernel
theorem dX9_years_33 : decode cX9_years 33 = .ok (.goto 13, 3) := by decide +kernel
theorem dX9_years_36 : decode cX9_years 36 = .ok (.iload_n 3, 1) := by decide +kernel
theorem dX9_years_37 : decode cX9_years 37 = .ok (.iconst 1, 1) := by decide +kernel
theorem dX9_years_38 : decode cX9_years 38 = .ok (.if_icmp .ne 7, 3) := by decide +kernel
theorem dX9_years_41 : decode cX9_years 41 = .ok (.iconst (-1), 1) := by decide +kernel
theorem dX9_years_42 : decode cX9_years 42 = .ok (.goto 4, 3) := by decide +kernel
theorem dX9_years_45 : decode cX9_years 45 = .ok (.iconst 0, 1) := by decide +kernel
theorem dX9_years_46 : decode cX9_years 46 = .ok (.iadd, 1) := by decide +kernel
theorem dX9_years_47 : decode cX9_years 47 = .ok (.istore_n 1, 1) := by decide +kernel
theorem dX9_years_48 : decode cX9_years 48 = .ok (.iinc 2 1, 3) := by decide +kernel
theorem dX9_years_51 : decode cX9_years 51 = .ok (.goto (-45), 3) := by decide +kernel
theorem dX9_years_54 : decode cX9_years 54 = .ok (.iload_n 1, 1) := by decide +kernel
theorem dX9_years_55 : decode cX9_years 55 = .ok (.ireturn, 1) := by decide +kernel
set_option maxRecDepth 20000 in
theorem ggX9_keep_X9_in : GoodIn wsX9_keep wsX9_in := goodIn_r _ [13] (by decide +kernel) (by decide +kernel)
set_option maxRecDepth 20000 in
theorem gX9_keep_X9_in : GoodIn wsX9_keep (va_wsS RX9 77 yX9_in wsX9_in) := goodIn_app (goodIn_of _ (by decide +kernel)) ggX9_keep_X9_in
theorem dX9_keep_0 : decode cX9_keep 0 = .ok (.iload_n 1, 1) := by decide +kernel
theorem dX9_keep_1 : decode cX9_keep 1 = .ok (.i2l, 1) := by decide +kernel
theorem dX9_keep_2 : decode cX9_keep 2 = .ok (.lconst 0, 1) := by decide +kernel
theorem dX9_keep_3 : decode cX9_keep 3 = .ok (.lconst 1, 1) := by decide +kernel
theorem dX9_keep_4 : decode cX9_keep 4 = .ok (.invokestatic 77, 3) := by decide +kernel
theorem dX9_keep_7 : decode cX9_keep 7 = .ok (.ifCond .ne 5, 3) := by decide +kernel
theorem dX9_keep_10 : decode cX9_keep 10 = .ok (.iconst (-1), 1) := by decide +kernel
theorem dX9_keep_11 : decode cX9_keep 11 = .ok (.ireturn, 1) := by decide +kernel
theorem dX9_keep_12 : decode cX9_keep 12 = .ok (.aload_n 0, 1) := by decide +kernel
theorem dX9_keep_13 : decode cX9_keep 13 = .ok (.getfield 49, 3) := by decide +kernel
theorem dX9_keep_16 : decode cX9_keep 16 = .ok (.iload_n 1, 1) := by decide +kernel
theorem dX9_keep_17 : decode cX9_keep 17 = .ok (.iconst 1, 1) := by decide +kernel
theorem dX9_keep_18 : decode cX9_keep 18 = .ok (.bastore, 1) := by decide +kernel
theorem dX9_keep_19 : decode cX9_keep 19 = .ok (.aload_n 0, 1) := by decide +kernel
theorem dX9_keep_20 : decode cX9_keep 20 = .ok (.getfield 16, 3) := by decide +kernel
theorem dX9_keep_23 : decode cX9_keep 23 = .ok (.iconst 1, 1) := by decide +kernel
theorem dX9_keep_24 : decode cX9_keep 24 = .ok (.iload_n 1, 1) := by decide +kernel
theorem dX9_keep_25 : decode cX9_keep 25 = .ok (.iadd, 1) := by decide +kernel
theorem dX9_keep_26 : decode cX9_keep 26 = .ok (.aload_n 0, 1) := by decide +kernel
theorem dX9_keep_27 : decode cX9_keep 27 = .ok (.getfield 16, 3) := by decide +kernel
theorem dX9_keep_30 : decode cX9_keep 30 = .ok (.iconst 0, 1) := by decide +kernel
theorem dX9_keep_31 : decode cX9_keep 31 = .ok (.iaload, 1) := by decide +kernel
theorem dX9_keep_32 : decode cX9_keep 32 = .ok (.iastore, 1) := by decide +kernel
theorem dX9_keep_33 : decode cX9_keep 33 = .ok (.iconst 0, 1) := by decide +kernel
theorem dX9_keep_34 : decode cX9_keep 34 = .ok (.istore_n 2, 1) := by decide +kernel
theorem dX9_keep_35 : decode cX9_keep 35 = .ok (.iload_n 2, 1) := by decide +kernel
theorem dX9_keep_36 : decode cX9_keep 36 = .ok (.bipush 60, 2) := by decide +kernel
theorem dX9_keep_38 : decode cX9_keep 38 = .ok (.if_icmp .ge 29, 3) := by decide +kernel
theorem dX9_keep_41 : decode cX9_keep 41 = .ok (.aload_n 0, 1) := by decide +kernel
theorem dX9_keep_42 : decode cX9_keep 42 = .ok (.getfield 13, 3) := by decide +kernel
theorem dX9_keep_45 : decode cX9_keep 45 = .ok (.bipush 60, 2) := by decide +kernel
theorem dX9_keep_47 : decode cX9_keep 47 = .ok (.bipush 60, 2) := by decide +kernel
theorem dX9_keep_49 : decode cX9_keep 49 = .ok (.iload_n 1, 1) := by decide +kernel
theorem dX9_keep_50 : decode cX9_keep 50 = .ok (.imul, 1) := by decide +kernel
theorem dX9_keep_51 : decode cX9_keep 51 = .ok (.iadd, 1) := by decide +kernel
theorem dX9_keep_52 : decode cX9_keep 52 = .ok (.iload_n 2, 1) := by decide +kernel
theorem dX9_keep_53 : decode cX9_keep 53 = .ok (.iadd, 1) := by decide +kernel
theorem dX9_keep_54 : decode cX9_keep 54 = .ok (.aload_n 0, 1) := by decide +kernel
theorem dX9_keep_55 : decode cX9_keep 55 = .ok (.getfield 13, 3) := by decide +kernel
theorem dX9_keep_58 : decode cX9_keep 58 = .ok (.iload_n 2, 1) := by decide +kernel
theorem dX9_keep_59 : decode cX9_keep 59 = .ok (.iaload, 1) := by decide +kernel
theorem dX9_keep_60 : decode cX9_keep 60 = .ok (.iastore, 1) := by decide +kernel
theorem dX9_keep_61 : decode cX9_keep 61 = .ok (.iinc 2 1, 3) := by decide +kernel
theorem dX9_keep_64 : decode cX9_keep 64 = .ok (.goto (-29), 3) := by decide +kernel
theorem dX9_keep_67 : decode cX9_keep 67 = .ok (.iconst 0, 1) := by decide +kernel
theorem dX9_keep_68 : decode cX9_keep 68 = .ok (.istore_n 2, 1) := by decide +kernel
theorem dX9_keep_69 : decode cX9_keep 69 = .ok (.iload_n 2, 1) := by decide +kernel
theorem dX9_keep_70 : decode cX9_keep 70 = .ok (.bipush 56, 2) := by decide +kernel
theorem dX9_keep_72 : decode cX9_keep 72 = .ok (.if_icmp .ge 26, 3) := by decide +kernel
theorem dX9_keep_75 : decode cX9_keep 75 = .ok (.aload_n 0, 1) := by decide +kernel
theorem dX9_keep_76 : decode cX9_keep 76 = .ok (.getfield 53, 3) := by decide +kernel
theorem dX9_keep_79 : decode cX9_keep 79 = .ok (.bipush 56, 2) := by decide +kernel
theorem dX9_keep_81 : decode cX9_keep 81 = .ok (.iload_n 1, 1) := by decide +kernel
theorem dX9_keep_82 : decode cX9_keep 82 = .ok (.imul, 1) := by decide +kernel
theorem dX9_keep_83 : decode cX9_keep 83 = .ok (.iload_n 2, 1) := by decide +kernel
theorem dX9_keep_84 : decode cX9_keep 84 = .ok (.iadd, 1) := by decide +kernel
theorem dX9_keep_85 : decode cX9_keep 85 = .ok (.aload_n 0, 1) := by decide +kernel
theorem dX9_keep_86 : decode cX9_keep 86 = .ok (.getfield 25, 3) := by decide +kernel
theorem dX9_keep_89 : decode cX9_keep 89 = .ok (.iload_n 2, 1) := by decide +kernel
theorem dX9_keep_90 : decode cX9_keep 90 = .ok (.iaload, 1) := by decide +kernel
theorem dX9_keep_91 : decode cX9_keep 91 = .ok (.iastore, 1) := by decide +kernel
theorem dX9_keep_92 : decode cX9_keep 92 = .ok (.iinc 2 1, 3) := by decide +kernel
theorem dX9_keep_95 : decode cX9_keep 95 = .ok (.goto (-26), 3) := by decide +kernel
theorem dX9_keep_98 : decode cX9_keep 98 = .ok (.iconst 0, 1) := by decide +kernel
theorem dX9_keep_99 : decode cX9_keep 99 = .ok (.istore_n 2, 1) := by decide +kernel
theorem dX9_keep_100 : decode cX9_keep 100 = .ok (.iload_n 2, 1) := by decide +kernel
theorem dX9_keep_101 : decode cX9_keep 101 = .ok (.iconst 2, 1) := by decide +kernel
theorem dX9_keep_102 : decode cX9_keep 102 = .ok (.if_icmp .ge 41, 3) := by decide +kernel
theorem dX9_keep_105 : decode cX9_keep 105 = .ok (.aload_n 0, 1) := by decide +kernel
theorem dX9_keep_106 : decode cX9_keep 106 = .ok (.getfield 56, 3) := by decide +kernel
theorem dX9_keep_109 : decode cX9_keep 109 = .ok (.iconst 2, 1) := by decide +kernel
theorem dX9_keep_110 : decode cX9_keep 110 = .ok (.iload_n 1, 1) := by decide +kernel
theorem dX9_keep_111 : decode cX9_keep 111 = .ok (.imul, 1) := by decide +kernel
theorem dX9_keep_112 : decode cX9_keep 112 = .ok (.iload_n 2, 1) := by decide +kernel
theorem dX9_keep_113 : decode cX9_keep 113 = .ok (.iadd, 1) := by decide +kernel
theorem dX9_keep_114 : decode cX9_keep 114 = .ok (.aload_n 0, 1) := by decide +kernel
theorem dX9_keep_115 : decode cX9_keep 115 = .ok (.getfield 43, 3) := by decide +kernel
theorem dX9_keep_118 : decode cX9_keep 118 = .ok (.iload_n 2, 1) := by decide +kernel
theorem dX9_keep_119 : decode cX9_keep 119 = .ok (.iaload, 1) := by decide +kernel
theorem dX9_keep_120 : decode cX9_keep 120 = .ok (.iastore, 1) := by decide +kernel
theorem dX9_keep_121 : decode cX9_keep 121 = .ok (.aload_n 0, 1) := by decide +kernel
theorem dX9_keep_122 : decode cX9_keep 122 = .ok (.getfield 59, 3) := by decide +kernel
theorem dX9_keep_125 : decode cX9_keep 125 = .ok (.iconst 2, 1) := by decide +kernel
theorem dX9_keep_126 : decode cX9_keep 126 = .ok (.iload_n 1, 1) := by decide +kernel
theorem dX9_keep_127 : decode cX9_keep 127 = .ok (.imul, 1) := by decide +kernel
theorem dX9_keep_128 : decode cX9_keep 128 = .ok (.iload_n 2, 1) := by decide +kernel
theorem dX9_keep_129 : decode cX9_keep 129 = .ok (.iadd, 1) := by decide +kernel
theorem dX9_keep_130 : decode cX9_keep 130 = .ok (.aload_n 0, 1) := by decide +kernel
theorem dX9_keep_131 : decode cX9_keep 131 = .ok (.getfield 46, 3) := by decide +kernel
theorem dX9_keep_134 : decode cX9_keep 134 = .ok (.iload_n 2, 1) := by decide +kernel
theorem dX9_keep_135 : decode cX9_keep 135 = .ok (.iaload, 1) := by decide +kernel
theorem dX9_keep_136 : decode cX9_keep 136 = .ok (.iastore, 1) := by decide +kernel
theorem dX9_keep_137 : decode cX9_keep 137 = .ok (.iinc 2 1, 3) := by decide +kernel
theorem dX9_keep_140 : decode cX9_keep 140 = .ok (.goto (-40), 3) := by decide +kernel
theorem dX9_keep_143 : decode cX9_keep 143 = .ok (.aload_n 0, 1) := by decide +kernel
theorem dX9_keep_144 : decode cX9_keep 144 = .ok (.getfield 16, 3) := by decide +kernel
theorem dX9_keep_147 : decode cX9_keep 147 = .ok (.iconst 0, 1) := by decide +kernel
theorem dX9_keep_148 : decode cX9_keep 148 = .ok (.iaload, 1) := by decide +kernel
theorem dX9_keep_149 : decode cX9_keep 149 = .ok (.ireturn, 1) := by decide +kernel
set_option maxRecDepth 20000 in
theorem ggX9_again_X9_in : GoodIn wsX9_again wsX9_in := goodIn_r _ [13] (by decide +kernel) (by decide +kernel)
set_option maxRecDepth 20000 in
theorem gX9_again_X9_in : GoodIn wsX9_again (va_wsS RX9 77 yX9_in wsX9_in) := goodIn_app (goodIn_of _ (by decide +kernel)) ggX9_again_X9_in
theorem dX9_again_0 : decode cX9_again 0 = .ok (.iload_n 1, 1) := by decide +kernel
theorem dX9_again_1 : decode cX9_again 1 = .ok (.i2l, 1) := by decide +kernel
theorem dX9_again_2 : decode cX9_again 2 = .ok (.lconst 0, 1) := by decide +kernel
theorem dX9_again_3 : decode cX9_again 3 = .ok (.lconst 1, 1) := by decide +kernel
theorem dX9_again_4 : decode cX9_again 4 = .ok (.invokestatic 77, 3) := by decide +kernel
theorem dX9_again_7 : decode cX9_again 7 = .ok (.ifCond .ne 5, 3) := by decide +kernel
theorem dX9_again_10 : decode cX9_again 10 = .ok (.iconst (-1), 1) := by decide +kernel
theorem dX9_again_11 : decode cX9_again 11 = .ok (.ireturn, 1) := by decide +kernel
theorem dX9_again_12 : decode cX9_again 12 = .ok (.aload_n 0, 1) := by decide +kernel
theorem dX9_again_13 : decode cX9_again 13 = .ok (.getfield 49, 3) := by decide +kernel
theorem dX9_again_16 : decode cX9_again 16 = .ok (.iload_n 1, 1) := by decide +kernel
theorem dX9_again_17 : decode cX9_again 17 = .ok (.baload, 1) := by decide +kernel
theorem dX9_again_18 : decode cX9_again 18 = .ok (.ifCond .ne 6, 3) := by decide +kernel
theorem dX9_again_21 : decode cX9_again 21 = .ok (.bipush (-3), 2) := by decide +kernel
theorem dX9_again_23 : decode cX9_again 23 = .ok (.ireturn, 1) := by decide +kernel
theorem dX9_again_24 : decode cX9_again 24 = .ok (.aload_n 0, 1) := by decide +kernel
theorem dX9_again_25 : decode cX9_again 25 = .ok (.getfield 16, 3) := by decide +kernel
theorem dX9_again_28 : decode cX9_again 28 = .ok (.iconst 0, 1) := by decide +kernel
theorem dX9_again_29 : decode cX9_again 29 = .ok (.aload_n 0, 1) := by decide +kernel
theorem dX9_again_30 : decode cX9_again 30 = .ok (.getfield 16, 3) := by decide +kernel
theorem dX9_again_33 : decode cX9_again 33 = .ok (.iconst 1, 1) := by decide +kernel
theorem dX9_again_34 : decode cX9_again 34 = .ok (.iload_n 1, 1) := by decide +kernel
theorem dX9_again_35 : decode cX9_again 35 = .ok (.iadd, 1) := by decide +kernel
theorem dX9_again_36 : decode cX9_again 36 = .ok (.iaload, 1) := by decide +kernel
theorem dX9_again_37 : decode cX9_again 37 = .ok (.iastore, 1) := by decide +kernel
theorem dX9_again_38 : decode cX9_again 38 = .ok (.iconst 0, 1) := by decide +kernel
theorem dX9_again_39 : decode cX9_again 39 = .ok (.istore_n 2, 1) := by decide +kernel
theorem dX9_again_40 : decode cX9_again 40 = .ok (.iload_n 2, 1) := by decide +kernel
theorem dX9_again_41 : decode cX9_again 41 = .ok (.bipush 60, 2) := by decide +kernel
theorem dX9_again_43 : decode cX9_again 43 = .ok (.if_icmp .ge 29, 3) := by decide +kernel
theorem dX9_again_46 : decode cX9_again 46 = .ok (.aload_n 0, 1) := by decide +kernel
theorem dX9_again_47 : decode cX9_again 47 = .ok (.getfield 13, 3) := by decide +kernel
theorem dX9_again_50 : decode cX9_again 50 = .ok (.iload_n 2, 1) := by decide +kernel
theorem dX9_again_51 : decode cX9_again 51 = .ok (.aload_n 0, 1) := by decide +kernel
theorem dX9_again_52 : decode cX9_again 52 = .ok (.getfield 13, 3) := by decide +kernel
theorem dX9_again_55 : decode cX9_again 55 = .ok (.bipush 60, 2) := by decide +kernel
theorem dX9_again_57 : decode cX9_again 57 = .ok (.bipush 60, 2) := by decide +kernel
theorem dX9_again_59 : decode cX9_again 59 = .ok (.iload_n 1, 1) := by decide +kernel
theorem dX9_again_60 : decode cX9_again 60 = .ok (.imul, 1) := by decide +kernel
theorem dX9_again_61 : decode cX9_again 61 = .ok (.iadd, 1) := by decide +kernel
theorem dX9_again_62 : decode cX9_again 62 = .ok (.iload_n 2, 1) := by decide +kernel
theorem dX9_again_63 : decode cX9_again 63 = .ok (.iadd, 1) := by decide +kernel
theorem dX9_again_64 : decode cX9_again 64 = .ok (.iaload, 1) := by decide +kernel
theorem dX9_again_65 : decode cX9_again 65 = .ok (.iastore, 1) := by decide +kernel
theorem dX9_again_66 : decode cX9_again 66 = .ok (.iinc 2 1, 3) := by decide +kernel
theorem dX9_again_69 : decode cX9_again 69 = .ok (.goto (-29), 3) := by decide +kernel
theorem dX9_again_72 : decode cX9_again 72 = .ok (.iconst 0, 1) := by decide +kernel
theorem dX9_again_73 : decode cX9_again 73 = .ok (.istore_n 2, 1) := by decide +kernel
theorem dX9_again_74 : decode cX9_again 74 = .ok (.iload_n 2, 1) := by decide +kernel
theorem dX9_again_75 : decode cX9_again 75 = .ok (.bipush 56, 2) := by decide +kernel
theorem dX9_again_77 : decode cX9_again 77 = .ok (.if_icmp .ge 26, 3) := by decide +kernel
theorem dX9_again_80 : decode cX9_again 80 = .ok (.aload_n 0, 1) := by decide +kernel
theorem dX9_again_81 : decode cX9_again 81 = .ok (.getfield 25, 3) := by decide +kernel
theorem dX9_again_84 : decode cX9_again 84 = .ok (.iload_n 2, 1) := by decide +kernel
theorem dX9_again_85 : decode cX9_again 85 = .ok (.aload_n 0, 1) := by decide +kernel
theorem dX9_again_86 : decode cX9_again 86 = .ok (.getfield 53, 3) := by decide +kernel
theorem dX9_again_89 : decode cX9_again 89 = .ok (.bipush 56, 2) := by decide +kernel
theorem dX9_again_91 : decode cX9_again 91 = .ok (.iload_n 1, 1) := by decide +kernel
theorem dX9_again_92 : decode cX9_again 92 = .ok (.imul, 1) := by decide +kernel
theorem dX9_again_93 : decode cX9_again 93 = .ok (.iload_n 2, 1) := by decide +kernel
theorem dX9_again_94 : decode cX9_again 94 = .ok (.iadd, 1) := by decide +kernel
theorem dX9_again_95 : decode cX9_again 95 = .ok (.iaload, 1) := by decide +kernel
theorem dX9_again_96 : decode cX9_again 96 = .ok (.iastore, 1) := by decide +kernel
theorem dX9_again_97 : decode cX9_again 97 = .ok (.iinc 2 1, 3) := by decide +kernel
theorem dX9_again_100 : decode cX9_again 100 = .ok (.goto (-26), 3) := by decide +kernel
theorem dX9_again_103 : decode cX9_again 103 = .ok (.iconst 0, 1) := by decide +kernel
theorem dX9_again_104 : decode cX9_again 104 = .ok (.istore_n 2, 1) := by decide +kernel
theorem dX9_again_105 : decode cX9_again 105 = .ok (.iload_n 2, 1) := by decide +kernel
theorem dX9_again_106 : decode cX9_again 106 = .ok (.iconst 2, 1) := by decide +kernel
theorem dX9_again_107 : decode cX9_again 107 = .ok (.if_icmp .ge 41, 3) := by decide +kernel
theorem dX9_again_110 : decode cX9_again 110 = .ok (.aload_n 0, 1) := by decide +kernel
theorem dX9_again_111 : decode cX9_again 111 = .ok (.getfield 43, 3) := by decide +kernel
theorem dX9_again_114 : decode cX9_again 114 = .ok (.iload_n 2, 1) := by decide +kernel
theorem dX9_again_115 : decode cX9_again 115 = .ok (.aload_n 0, 1) := by decide +kernel
theorem dX9_again_116 : decode cX9_again 116 = .ok (.getfield 56, 3) := by decide +kernel
theorem dX9_again_119 : decode cX9_again 119 = .ok (.iconst 2, 1) := by decide +kernel
theorem dX9_again_120 : decode cX9_again 120 = .ok (.iload_n 1, 1) := by decide +kernel
theorem dX9_again_121 : decode cX9_again 121 = .ok (.imul, 1) := by decide +kernel
theorem dX9_again_122 : decode cX9_again 122 = .ok (.iload_n 2, 1) := by decide +kernel
theorem dX9_again_123 : decode cX9_again 123 = .ok (.iadd, 1) := by decide +kernel
theorem dX9_again_124 : decode cX9_again 124 = .ok (.iaload, 1) := by decide +kernel
theorem dX9_again_125 : decode cX9_again 125 = .ok (.iastore, 1) := by decide +kernel
theorem dX9_again_126 : decode cX9_again 126 = .ok (.aload_n 0, 1) := by decide +kernel
theorem dX9_again_127 : decode cX9_again 127 = .ok (.getfield 46, 3) := by decide +kernel
theorem dX9_again_130 : decode cX9_again 130 = .ok (.iload_n 2, 1) := by decide +kernel
theorem dX9_again_131 : decode cX9_again 131 = .ok (.aload_n 0, 1) := by decide +kernel
theorem dX9_again_132 : decode cX9_again 132 = .ok (.getfield 59, 3) := by decide +kernel
theorem dX9_again_135 : decode cX9_again 135 = .ok (.iconst 2, 1) := by decide +kernel
theorem dX9_again_136 : decode cX9_again 136 = .ok (.iload_n 1, 1) := by decide +kernel
theorem dX9_again_137 : decode cX9_again 137 = .ok (.imul, 1) := by decide +kernel
theorem dX9_again_138 : decode cX9_again 138 = .ok (.iload_n 2, 1) := by decide +kernel
theorem dX9_again_139 : decode cX9_again 139 = .ok (.iadd, 1) := by decide +kernel
theorem dX9_again_140 : decode cX9_again 140 = .ok (.iaload, 1) := by decide +kernel
theorem dX9_again_141 : decode cX9_again 141 = .ok (.iastore, 1) := by decide +kernel
theorem dX9_again_142 : decode cX9_again 142 = .ok (.iinc 2 1, 3) := by decide +kernel
theorem dX9_again_145 : decode cX9_again 145 = .ok (.goto (-40), 3) := by decide +kernel
theorem dX9_again_148 : decode cX9_again 148 = .ok (.aload_n 0, 1) := by decide +kernel
theorem dX9_again_149 : decode cX9_again 149 = .ok (.getfield 16, 3) := by decide +kernel
theorem dX9_again_152 : decode cX9_again 152 = .ok (.iconst 0, 1) := by decide +kernel
theorem dX9_again_153 : decode cX9_again 153 = .ok (.iaload, 1) := by decide +kernel
theorem dX9_again_154 : decode cX9_again 154 = .ok (.ireturn, 1) := by decide +kernel
set_option maxRecDepth 20000 in
theorem ggX9_count_X9_layWhose : GoodIn wsX9_count wsX9_layWhose := goodIn_r _ [10, 1, 11, 12, 13, 14, 9, 15, 16, 4, 17, 18, 19, 20, 21, 22, 23, 24, 25, 26, 27, 28, 29, 30, 31, 32, 33, 34, 35, 36, 37, 38, 39, 40, 41, 42, 43, 44, 45, 46, 47, 48, 49, 50, 51, 52] (by decide +kernel) (by decide +kernel)
set_option maxRecDepth 20000 in
theorem gX9_count_X9_layWhose : GoodIn wsX9_count (wsV RX9 134 RX9 yX9_layWhose wsX9_layWhose) := goodIn_app (goodIn_of _ (by decide +kernel)) ggX9_count_X9_layWhose
theorem dX9_count_0 : decode cX9_count 0 = .ok (.aload_n 0, 1) := by decide +kernel
theorem dX9_count_1 : decode cX9_count 1 = .ok (.invokevirtual 134, 3) := by decide +kernel
theorem dX9_count_4 : decode cX9_count 4 = .ok (.iconst 0, 1) := by decide +kernel
theorem dX9_count_5 : decode cX9_count 5 = .ok (.istore_n 2, 1) := by decide +kernel
theorem dX9_count_6 : decode cX9_count 6 = .ok (.iconst 0, 1) := by decide +kernel
theorem dX9_count_7 : decode cX9_count 7 = .ok (.istore_n 3, 1) := by decide +kernel
theorem dX9_count_8 : decode cX9_count 8 = .ok (.iload_n 3, 1) := by decide +kernel
theorem dX9_count_9 : decode cX9_count 9 = .ok (.bipush 56, 2) := by decide +kernel
theorem dX9_count_11 : decode cX9_count 11 = .ok (.if_icmp .ge 42, 3) := by decide +kernel
theorem dX9_count_14 : decode cX9_count 14 = .ok (.iload_n 2, 1) := by decide +kernel
theorem dX9_count_15 : decode cX9_count 15 = .ok (.aload_n 0, 1) := by decide +kernel
theorem dX9_count_16 : decode cX9_count 16 = .ok (.getfield 22, 3) := by decide +kernel
theorem dX9_count_19 : decode cX9_count 19 = .ok (.iload_n 3, 1) := by decide +kernel
theorem dX9_count_20 : decode cX9_count 20 = .ok (.iaload, 1) := by decide +kernel
theorem dX9_count_21 : decode cX9_count 21 = .ok (.iconst 2, 1) := by decide +kernel
theorem dX9_count_22 : decode cX9_count 22 = .ok (.if_icmp .ge 22, 3) := by decide +kernel
theorem dX9_count_25 : decode cX9_count 25 = .ok (.aload_n 0, 1) := by decide +kernel
theorem dX9_count_26 : decode cX9_count 26 = .ok (.getfield 22, 3) := by decide +kernel
theorem dX9_count_29 : decode cX9_count 29 = .ok (.iload_n 3, 1) := by decide +kernel
theorem dX9_count_30 : decode cX9_count 30 = .ok (.iaload, 1) := by decide +kernel
theorem dX9_count_31 : decode cX9_count 31 = .ok (.aload_n 0, 1) := by decide +kernel
theorem dX9_count_32 : decode cX9_count 32 = .ok (.getfield 25, 3) := by decide +kernel
theorem dX9_count_35 : decode cX9_count 35 = .ok (.iload_n 3, 1) := by decide +kernel
theorem dX9_count_36 : decode cX9_count 36 = .ok (.iaload, 1) := by decide +kernel
theorem dX9_count_37 : decode cX9_count 37 = .ok (.if_icmp .eq 7, 3) := by decide +kernel
theorem dX9_count_40 : decode cX9_count 40 = .ok (.iconst 1, 1) := by decide +kernel
theorem dX9_count_41 : decode cX9_count 41 = .ok (.goto 4, 3) := by decide +kernel
theorem dX9_count_44 : decode cX9_count 44 = .ok (.iconst 0, 1) := by decide +kernel
theorem dX9_count_45 : decode cX9_count 45 = .ok (.iadd, 1) := by decide +kernel
theorem dX9_count_46 : decode cX9_count 46 = .ok (.istore_n 2, 1) := by decide +kernel
theorem dX9_count_47 : decode cX9_count 47 = .ok (.iinc 3 1, 3) := by decide +kernel
theorem dX9_count_50 : decode cX9_count 50 = .ok (.goto (-42), 3) := by decide +kernel
theorem dX9_count_53 : decode cX9_count 53 = .ok (.iload_n 1, 1) := by decide +kernel
theorem dX9_count_54 : decode cX9_count 54 = .ok (.tableswitch 49 0 3 #[30, 35, 42, 47], 30) := by decide +kernel
theorem dX9_count_84 : decode cX9_count 84 = .ok (.aload_n 0, 1) := by decide +kernel
theorem dX9_count_85 : decode cX9_count 85 = .ok (.getfield 81, 3) := by decide +kernel
theorem dX9_count_88 : decode cX9_count 88 = .ok (.ireturn, 1) := by decide +kernel
