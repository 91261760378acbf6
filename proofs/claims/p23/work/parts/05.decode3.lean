theorem dX7_numberIn_3 : decode cX7_numberIn 3 = .ok (.iconst 0, 1) := by decide +kernel
theorem dX7_numberIn_4 : decode cX7_numberIn 4 = .ok (.istore 5, 2) := by decide +kernel
theorem dX7_numberIn_6 : decode cX7_numberIn 6 = .ok (.iconst 0, 1) := by decide +kernel
theorem dX7_numberIn_7 : decode cX7_numberIn 7 = .ok (.istore 6, 2) := by decide +kernel
theorem dX7_numberIn_9 : decode cX7_numberIn 9 = .ok (.iconst 0, 1) := by decide +kernel
theorem dX7_numberIn_10 : decode cX7_numberIn 10 = .ok (.istore 7, 2) := by decide +kernel
theorem dX7_numberIn_12 : decode cX7_numberIn 12 = .ok (.iload 7, 2) := by decide +kernel
theorem dX7_numberIn_14 : decode cX7_numberIn 14 = .ok (.iload_n 2, 1) := by decide +kernel
theorem dX7_numberIn_15 : decode cX7_numberIn 15 = .ok (.if_icmp .gt 101, 3) := by decide +kernel
theorem dX7_numberIn_18 : decode cX7_numberIn 18 = .ok (.iload 7, 2) := by decide +kernel
theorem dX7_numberIn_20 : decode cX7_numberIn 20 = .ok (.aload_n 0, 1) := by decide +kernel
theorem dX7_numberIn_21 : decode cX7_numberIn 21 = .ok (.getfield 14, 3) := by decide +kernel
theorem dX7_numberIn_24 : decode cX7_numberIn 24 = .ok (.invokevirtual 80, 3) := by decide +kernel
theorem dX7_numberIn_27 : decode cX7_numberIn 27 = .ok (.if_icmp .ge 89, 3) := by decide +kernel
theorem dX7_numberIn_30 : decode cX7_numberIn 30 = .ok (.aload_n 0, 1) := by decide +kernel
theorem dX7_numberIn_31 : decode cX7_numberIn 31 = .ok (.getfield 25, 3) := by decide +kernel
theorem dX7_numberIn_34 : decode cX7_numberIn 34 = .ok (.iload 7, 2) := by decide +kernel
theorem dX7_numberIn_36 : decode cX7_numberIn 36 = .ok (.iload 5, 2) := by decide +kernel
theorem dX7_numberIn_38 : decode cX7_numberIn 38 = .ok (.invokevirtual 87, 3) := by decide +kernel
theorem dX7_numberIn_41 : decode cX7_numberIn 41 = .ok (.istore 8, 2) := by decide +kernel
theorem dX7_numberIn_43 : decode cX7_numberIn 43 = .ok (.aload_n 0, 1) := by decide +kernel
theorem dX7_numberIn_44 : decode cX7_numberIn 44 = .ok (.getfield 25, 3) := by decide +kernel
theorem dX7_numberIn_47 : decode cX7_numberIn 47 = .ok (.iload 7, 2) := by decide +kernel
theorem dX7_numberIn_49 : decode cX7_numberIn 49 = .ok (.iload 5, 2) := by decide +kernel
theorem dX7_numberIn_51 : decode cX7_numberIn 51 = .ok (.invokevirtual 90, 3) := by decide +kernel
theorem dX7_numberIn_54 : decode cX7_numberIn 54 = .ok (.istore 6, 2) := by decide +kernel
theorem dX7_numberIn_56 : decode cX7_numberIn 56 = .ok (.iload 6, 2) := by decide +kernel
theorem dX7_numberIn_58 : decode cX7_numberIn 58 = .ok (.iload 8, 2) := by decide +kernel
theorem dX7_numberIn_60 : decode cX7_numberIn 60 = .ok (.if_icmp .ge 43, 3) := by decide +kernel
theorem dX7_numberIn_63 : decode cX7_numberIn 63 = .ok (.aload_n 0, 1) := by decide +kernel
theorem dX7_numberIn_64 : decode cX7_numberIn 64 = .ok (.getfield 25, 3) := by decide +kernel
theorem dX7_numberIn_67 : decode cX7_numberIn 67 = .ok (.iconst 4, 1) := by decide +kernel
theorem dX7_numberIn_68 : decode cX7_numberIn 68 = .ok (.iload 7, 2) := by decide +kernel
theorem dX7_numberIn_70 : decode cX7_numberIn 70 = .ok (.iconst 1, 1) := by decide +kernel
theorem dX7_numberIn_71 : decode cX7_numberIn 71 = .ok (.iadd, 1) := by decide +kernel
theorem dX7_numberIn_72 : decode cX7_numberIn 72 = .ok (.iload 5, 2) := by decide +kernel
theorem dX7_numberIn_74 : decode cX7_numberIn 74 = .ok (.iload 6, 2) := by decide +kernel
theorem dX7_numberIn_76 : decode cX7_numberIn 76 = .ok (.iadd, 1) := by decide +kernel
theorem dX7_numberIn_77 : decode cX7_numberIn 77 = .ok (.invokevirtual 49, 3) := by decide +kernel
theorem dX7_numberIn_80 : decode cX7_numberIn 80 = .ok (.lstore 9, 2) := by decide +kernel
theorem dX7_numberIn_82 : decode cX7_numberIn 82 = .ok (.lload_n 3, 1) := by decide +kernel
theorem dX7_numberIn_83 : decode cX7_numberIn 83 = .ok (.lload 9, 2) := by decide +kernel
theorem dX7_numberIn_85 : decode cX7_numberIn 85 = .ok (.lcmp, 1) := by decide +kernel
theorem dX7_numberIn_86 : decode cX7_numberIn 86 = .ok (.ifCond .ge 6, 3) := by decide +kernel
theorem dX7_numberIn_89 : decode cX7_numberIn 89 = .ok (.goto 14, 3) := by decide +kernel
theorem dX7_numberIn_92 : decode cX7_numberIn 92 = .ok (.lload_n 3, 1) := by decide +kernel
theorem dX7_numberIn_93 : decode cX7_numberIn 93 = .ok (.lload 9, 2) := by decide +kernel
theorem dX7_numberIn_95 : decode cX7_numberIn 95 = .ok (.lsub, 1) := by decide +kernel
theorem dX7_numberIn_96 : decode cX7_numberIn 96 = .ok (.lstore_n 3, 1) := by decide +kernel
theorem dX7_numberIn_97 : decode cX7_numberIn 97 = .ok (.iinc 6 1, 3) := by decide +kernel
theorem dX7_numberIn_100 : decode cX7_numberIn 100 = .ok (.goto (-44), 3) := by decide +kernel
theorem dX7_numberIn_103 : decode cX7_numberIn 103 = .ok (.iload 5, 2) := by decide +kernel
theorem dX7_numberIn_105 : decode cX7_numberIn 105 = .ok (.iload 6, 2) := by decide +kernel
theorem dX7_numberIn_107 : decode cX7_numberIn 107 = .ok (.iadd, 1) := by decide +kernel
theorem dX7_numberIn_108 : decode cX7_numberIn 108 = .ok (.istore 5, 2) := by decide +kernel
theorem dX7_numberIn_110 : decode cX7_numberIn 110 = .ok (.iinc 7 1, 3) := by decide +kernel
theorem dX7_numberIn_113 : decode cX7_numberIn 113 = .ok (.goto (-101), 3) := by decide +kernel
theorem dX7_numberIn_116 : decode cX7_numberIn 116 = .ok (.iload 6, 2) := by decide +kernel
theorem dX7_numberIn_118 : decode cX7_numberIn 118 = .ok (.ireturn, 1) := by decide +kernel
set_option maxRecDepth 20000 in
theorem ggX7_numberInLikeliest_X0_size : GoodIn wsX7_numberInLikeliest wsX0_size := goodIn_r _ [7, 8, 47, 48, 49, 50, 51, 52, 53] (by decide +kernel) (by decide +kernel)
set_option maxRecDepth 20000 in
theorem gX7_numberInLikeliest_X0_size : GoodIn wsX7_numberInLikeliest (wsV RX7 80 RX0 yX0_size wsX0_size) := goodIn_app (goodIn_of _ (by decide +kernel)) ggX7_numberInLikeliest_X0_size
set_option maxRecDepth 20000 in
theorem ggX7_numberInLikeliest_X2_at : GoodIn wsX7_numberInLikeliest wsX2_at := goodIn_r _ [13, 14, 54, 55, 56, 57, 58] (by decide +kernel) (by decide +kernel)
set_option maxRecDepth 20000 in
theorem gX7_numberInLikeliest_X2_at : GoodIn wsX7_numberInLikeliest (wsV RX7 49 RX2 yX2_at wsX2_at) := goodIn_app (goodIn_of _ (by decide +kernel)) ggX7_numberInLikeliest_X2_at
set_option maxRecDepth 20000 in
theorem ggX7_numberInLikeliest_X2_most : GoodIn wsX7_numberInLikeliest wsX2_most := goodIn_r _ [18, 19, 20, 21, 22, 23, 24, 25, 26, 27, 6, 28, 8, 29, 54, 55, 56, 57, 58, 47, 48, 49, 50, 51, 52, 53] (by decide +kernel) (by decide +kernel)
set_option maxRecDepth 20000 in
theorem gX7_numberInLikeliest_X2_most : GoodIn wsX7_numberInLikeliest (wsV RX7 87 RX2 yX2_most wsX2_most) := goodIn_app (goodIn_of _ (by decide +kernel)) ggX7_numberInLikeliest_X2_most
set_option maxRecDepth 20000 in
theorem ggX7_numberInLikeliest_X2_fewest : GoodIn wsX7_numberInLikeliest wsX2_fewest := goodIn_r _ [33, 20, 34, 35, 36, 23, 37, 54, 55, 56, 57, 58] (by decide +kernel) (by decide +kernel)
set_option maxRecDepth 20000 in
theorem gX7_numberInLikeliest_X2_fewest : GoodIn wsX7_numberInLikeliest (wsV RX7 90 RX2 yX2_fewest wsX2_fewest) := goodIn_app (goodIn_of _ (by decide +kernel)) ggX7_numberInLikeliest_X2_fewest
set_option maxRecDepth 20000 in
theorem ggX7_numberInLikeliest_X0_waysOf : GoodIn wsX7_numberInLikeliest wsX0_waysOf := goodIn_r _ [41, 8, 42, 47, 48, 49, 50, 51, 52, 53] (by decide +kernel) (by decide +kernel)
set_option maxRecDepth 20000 in
theorem gX7_numberInLikeliest_X0_waysOf : GoodIn wsX7_numberInLikeliest (wsV RX7 93 RX0 yX0_waysOf wsX0_waysOf) := goodIn_app (goodIn_of _ (by decide +kernel)) ggX7_numberInLikeliest_X0_waysOf
theorem dX7_numberInLikeliest_0 : decode cX7_numberInLikeliest 0 = .ok (.iconst 0, 1) := by decide +kernel
theorem dX7_numberInLikeliest_1 : decode cX7_numberInLikeliest 1 = .ok (.istore_n 2, 1) := by decide +kernel
theorem dX7_numberInLikeliest_2 : decode cX7_numberInLikeliest 2 = .ok (.iconst 0, 1) := by decide +kernel
theorem dX7_numberInLikeliest_3 : decode cX7_numberInLikeliest 3 = .ok (.istore_n 3, 1) := by decide +kernel
theorem dX7_numberInLikeliest_4 : decode cX7_numberInLikeliest 4 = .ok (.iconst 0, 1) := by decide +kernel
theorem dX7_numberInLikeliest_5 : decode cX7_numberInLikeliest 5 = .ok (.istore 4, 2) := by decide +kernel
theorem dX7_numberInLikeliest_7 : decode cX7_numberInLikeliest 7 = .ok (.iload 4, 2) := by decide +kernel
theorem dX7_numberInLikeliest_9 : decode cX7_numberInLikeliest 9 = .ok (.iload_n 1, 1) := by decide +kernel
theorem dX7_numberInLikeliest_10 : decode cX7_numberInLikeliest 10 = .ok (.if_icmp .gt 108, 3) := by decide +kernel
theorem dX7_numberInLikeliest_13 : decode cX7_numberInLikeliest 13 = .ok (.iload 4, 2) := by decide +kernel
theorem dX7_numberInLikeliest_15 : decode cX7_numberInLikeliest 15 = .ok (.aload_n 0, 1) := by decide +kernel
theorem dX7_numberInLikeliest_16 : decode cX7_numberInLikeliest 16 = .ok (.getfield 14, 3) := by decide +kernel
theorem dX7_numberInLikeliest_19 : decode cX7_numberInLikeliest 19 = .ok (.invokevirtual 80, 3) := by decide +kernel
theorem dX7_numberInLikeliest_22 : decode cX7_numberInLikeliest 22 = .ok (.if_icmp .ge 96, 3) := by decide +kernel
theorem dX7_numberInLikeliest_25 : decode cX7_numberInLikeliest 25 = .ok (.aload_n 0, 1) := by decide +kernel
theorem dX7_numberInLikeliest_26 : decode cX7_numberInLikeliest 26 = .ok (.getfield 25, 3) := by decide +kernel
theorem dX7_numberInLikeliest_29 : decode cX7_numberInLikeliest 29 = .ok (.iconst 2, 1) := by decide +kernel
theorem dX7_numberInLikeliest_30 : decode cX7_numberInLikeliest 30 = .ok (.iload 4, 2) := by decide +kernel
theorem dX7_numberInLikeliest_32 : decode cX7_numberInLikeliest 32 = .ok (.iload_n 2, 1) := by decide +kernel
theorem dX7_numberInLikeliest_33 : decode cX7_numberInLikeliest 33 = .ok (.invokevirtual 49, 3) := by decide +kernel
theorem dX7_numberInLikeliest_36 : decode cX7_numberInLikeliest 36 = .ok (.lstore 5, 2) := by decide +kernel
theorem dX7_numberInLikeliest_38 : decode cX7_numberInLikeliest 38 = .ok (.aload_n 0, 1) := by decide +kernel
theorem dX7_numberInLikeliest_39 : decode cX7_numberInLikeliest 39 = .ok (.getfield 25, 3) := by decide +kernel
theorem dX7_numberInLikeliest_42 : decode cX7_numberInLikeliest 42 = .ok (.iload 4, 2) := by decide +kernel
theorem dX7_numberInLikeliest_44 : decode cX7_numberInLikeliest 44 = .ok (.iload_n 2, 1) := by decide +kernel
theorem dX7_numberInLikeliest_45 : decode cX7_numberInLikeliest 45 = .ok (.invokevirtual 87, 3) := by decide +kernel
theorem dX7_numberInLikeliest_48 : decode cX7_numberInLikeliest 48 = .ok (.istore 7, 2) := by decide +kernel
theorem dX7_numberInLikeliest_50 : decode cX7_numberInLikeliest 50 = .ok (.aload_n 0, 1) := by decide +kernel
theorem dX7_numberInLikeliest_51 : decode cX7_numberInLikeliest 51 = .ok (.getfield 25, 3) := by decide +kernel
theorem dX7_numberInLikeliest_54 : decode cX7_numberInLikeliest 54 = .ok (.iload 4, 2) := by decide +kernel
theorem dX7_numberInLikeliest_56 : decode cX7_numberInLikeliest 56 = .ok (.iload_n 2, 1) := by decide +kernel
theorem dX7_numberInLikeliest_57 : decode cX7_numberInLikeliest 57 = .ok (.invokevirtual 90, 3) := by decide +kernel
theorem dX7_numberInLikeliest_60 : decode cX7_numberInLikeliest 60 = .ok (.istore_n 3, 1) := by decide +kernel
theorem dX7_numberInLikeliest_61 : decode cX7_numberInLikeliest 61 = .ok (.iload_n 3, 1) := by decide +kernel
theorem dX7_numberInLikeliest_62 : decode cX7_numberInLikeliest 62 = .ok (.iload 7, 2) := by decide +kernel
theorem dX7_numberInLikeliest_64 : decode cX7_numberInLikeliest 64 = .ok (.if_icmp .ge 44, 3) := by decide +kernel
theorem dX7_numberInLikeliest_67 : decode cX7_numberInLikeliest 67 = .ok (.aload_n 0, 1) := by decide +kernel
theorem dX7_numberInLikeliest_68 : decode cX7_numberInLikeliest 68 = .ok (.getfield 14, 3) := by decide +kernel
theorem dX7_numberInLikeliest_71 : decode cX7_numberInLikeliest 71 = .ok (.iload 4, 2) := by decide +kernel
theorem dX7_numberInLikeliest_73 : decode cX7_numberInLikeliest 73 = .ok (.iload_n 3, 1) := by decide +kernel
theorem dX7_numberInLikeliest_74 : decode cX7_numberInLikeliest 74 = .ok (.invokevirtual 93, 3) := by decide +kernel
theorem dX7_numberInLikeliest_77 : decode cX7_numberInLikeliest 77 = .ok (.aload_n 0, 1) := by decide +kernel
theorem dX7_numberInLikeliest_78 : decode cX7_numberInLikeliest 78 = .ok (.getfield 25, 3) := by decide +kernel
theorem dX7_numberInLikeliest_81 : decode cX7_numberInLikeliest 81 = .ok (.iconst 2, 1) := by decide +kernel
theorem dX7_numberInLikeliest_82 : decode cX7_numberInLikeliest 82 = .ok (.iload 4, 2) := by decide +kernel
theorem dX7_numberInLikeliest_84 : decode cX7_numberInLikeliest 84 = .ok (.iconst 1, 1) := by decide +kernel
theorem dX7_numberInLikeliest_85 : decode cX7_numberInLikeliest 85 = .ok (.iadd, 1) := by decide +kernel
theorem dX7_numberInLikeliest_86 : decode cX7_numberInLikeliest 86 = .ok (.iload_n 2, 1) := by decide +kernel
theorem dX7_numberInLikeliest_87 : decode cX7_numberInLikeliest 87 = .ok (.iload_n 3, 1) := by decide +kernel
theorem dX7_numberInLikeliest_88 : decode cX7_numberInLikeliest 88 = .ok (.iadd, 1) := by decide +kernel
theorem dX7_numberInLikeliest_89 : decode cX7_numberInLikeliest 89 = .ok (.invokevirtual 49, 3) := by decide +kernel
theorem dX7_numberInLikeliest_92 : decode cX7_numberInLikeliest 92 = .ok (.lmul, 1) := by decide +kernel
theorem dX7_numberInLikeliest_93 : decode cX7_numberInLikeliest 93 = .ok (.lload 5, 2) := by decide +kernel
theorem dX7_numberInLikeliest_95 : decode cX7_numberInLikeliest 95 = .ok (.lcmp, 1) := by decide +kernel
theorem dX7_numberInLikeliest_96 : decode cX7_numberInLikeliest 96 = .ok (.ifCond .ne 6, 3) := by decide +kernel
theorem dX7_numberInLikeliest_99 : decode cX7_numberInLikeliest 99 = .ok (.goto 9, 3) := by decide +kernel
theorem dX7_numberInLikeliest_102 : decode cX7_numberInLikeliest 102 = .ok (.iinc 3 1, 3) := by decide +kernel
theorem dX7_numberInLikeliest_105 : decode cX7_numberInLikeliest 105 = .ok (.goto (-44), 3) := by decide +kernel
theorem dX7_numberInLikeliest_108 : decode cX7_numberInLikeliest 108 = .ok (.iload_n 2, 1) := by decide +kernel
theorem dX7_numberInLikeliest_109 : decode cX7_numberInLikeliest 109 = .ok (.iload_n 3, 1) := by decide +kernel
theorem dX7_numberInLikeliest_110 : decode cX7_numberInLikeliest 110 = .ok (.iadd, 1) := by decide +kernel
theorem dX7_numberInLikeliest_111 : decode cX7_numberInLikeliest 111 = .ok (.istore_n 2, 1) := by decide +kernel
theorem dX7_numberInLikeliest_112 : decode cX7_numberInLikeliest 112 = .ok (.iinc 4 1, 3) := by decide +kernel
theorem dX7_numberInLikeliest_115 : decode cX7_numberInLikeliest 115 = .ok (.goto (-108), 3) := by decide +kernel
theorem dX7_numberInLikeliest_118 : decode cX7_numberInLikeliest 118 = .ok (.iload_n 3, 1) := by decide +kernel
theorem dX7_numberInLikeliest_119 : decode cX7_numberInLikeliest 119 = .ok (.ireturn, 1) := by decide +kernel
theorem dX8_init_0 : decode cX8_init 0 = .ok (.aload_n 0, 1) := by decide +kernel
theorem dX8_init_1 : decode cX8_init 1 = .ok (.invokespecial 3, 3) := by decide +kernel
theorem dX8_init_4 : decode cX8_init 4 = .ok (.aload_n 0, 1) := by decide +kernel
theorem dX8_init_5 : decode cX8_init 5 = .ok (.aload_n 1, 1) := by decide +kernel
theorem dX8_init_6 : decode cX8_init 6 = .ok (.putfield 9, 3) := by decide +kernel
theorem dX8_init_9 : decode cX8_init 9 = .ok (.aload_n 0, 1) := by decide +kernel
theorem dX8_init_10 : decode cX8_init 10 = .ok (.aload_n 2, 1) := by decide +kernel
theorem dX8_init_11 : decode cX8_init 11 = .ok (.putfield 15, 3) := by decide +kernel
theorem dX8_init_14 : decode cX8_init 14 = .ok (.aload_n 0, 1) := by decide +kernel
theorem dX8_init_15 : decode cX8_init 15 = .ok (.sipush 541, 3) := by decide +kernel
theorem dX8_init_18 : decode cX8_init 18 = .ok (.newarray .long, 2) := by decide +kernel
theorem dX8_init_20 : decode cX8_init 20 = .ok (.putfield 19, 3) := by decide +kernel
theorem dX8_init_23 : decode cX8_init 23 = .ok (.aload_n 0, 1) := by decide +kernel
theorem dX8_init_24 : decode cX8_init 24 = .ok (.sipush 541, 3) := by decide +kernel
theorem dX8_init_27 : decode cX8_init 27 = .ok (.newarray .int, 2) := by decide +kernel
theorem dX8_init_29 : decode cX8_init 29 = .ok (.putfield 23, 3) := by decide +kernel
theorem dX8_init_32 : decode cX8_init 32 = .ok (.aload_n 0, 1) := by decide +kernel
theorem dX8_init_33 : decode cX8_init 33 = .ok (.iconst 0, 1) := by decide +kernel
theorem dX8_init_34 : decode cX8_init 34 = .ok (.putfield 27, 3) := by decide +kernel
theorem dX8_init_37 : decode cX8_init 37 = .ok (.aload_n 0, 1) := by decide +kernel
theorem dX8_init_38 : decode cX8_init 38 = .ok (.iconst 0, 1) := by decide +kernel
theorem dX8_init_39 : decode cX8_init 39 = .ok (.putfield 31, 3) := by decide +kernel
theorem dX8_init_42 : decode cX8_init 42 = .ok (.aload_n 0, 1) := by decide +kernel
theorem dX8_init_43 : decode cX8_init 43 = .ok (.iconst 0, 1) := by decide +kernel
theorem dX8_init_44 : decode cX8_init 44 = .ok (.putfield 34, 3) := by decide +kernel
theorem dX8_init_47 : decode cX8_init 47 = .ok (.return_, 1) := by decide +kernel
theorem dX8_least_0 : decode cX8_least 0 = .ok (.aload_n 0, 1) := by decide +kernel
theorem dX8_least_1 : decode cX8_least 1 = .ok (.getfield 27, 3) := by decide +kernel
theorem dX8_least_4 : decode cX8_least 4 = .ok (.ireturn, 1) := by decide +kernel
theorem dX8_greatest_0 : decode cX8_greatest 0 = .ok (.aload_n 0, 1) := by decide +kernel
theorem dX8_greatest_1 : decode cX8_greatest 1 = .ok (.getfield 31, 3) := by decide +kernel
theorem dX8_greatest_4 : decode cX8_greatest 4 = .ok (.ireturn, 1) := by decide +kernel
theorem dX8_waysOf_0 : decode cX8_waysOf 0 = .ok (.iload_n 1, 1) := by decide +kernel
theorem dX8_waysOf_1 : decode cX8_waysOf 1 = .ok (.ifCond .lt 19, 3) := by decide +kernel
theorem dX8_waysOf_4 : decode cX8_waysOf 4 = .ok (.iload_n 1, 1) := by decide +kernel
theorem dX8_waysOf_5 : decode cX8_waysOf 5 = .ok (.sipush 540, 3) := by decide +kernel
theorem dX8_waysOf_8 : decode cX8_waysOf 8 = .ok (.if_icmp .gt 12, 3) := by decide +kernel
theorem dX8_waysOf_11 : decode cX8_waysOf 11 = .ok (.aload_n 0, 1) := by decide +kernel
theorem dX8_waysOf_12 : decode cX8_waysOf 12 = .ok (.getfield 19, 3) := by decide +kernel
theorem dX8_waysOf_15 : decode cX8_waysOf 15 = .ok (.iload_n 1, 1) := by decide +kernel
theorem dX8_waysOf_16 : decode cX8_waysOf 16 = .ok (.laload, 1) := by decide +kernel
theorem dX8_waysOf_17 : decode cX8_waysOf 17 = .ok (.goto 4, 3) := by decide +kernel
theorem dX8_waysOf_20 : decode cX8_waysOf 20 = .ok (.lconst 0, 1) := by decide +kernel
theorem dX8_waysOf_21 : decode cX8_waysOf 21 = .ok (.lreturn, 1) := by decide +kernel
set_option maxRecDepth 20000 in
theorem ggX8_waysBy_X8_isStrange : GoodIn wsX8_waysBy wsX8_isStrange := goodIn_r _ [5] (by decide +kernel) (by decide +kernel)
set_option maxRecDepth 20000 in
theorem gX8_waysBy_X8_isStrange : GoodIn wsX8_waysBy (va_wsS RX8 37 yX8_isStrange wsX8_isStrange) := goodIn_app (goodIn_of _ (by decide +kernel)) ggX8_waysBy_X8_isStrange
theorem dX8_waysBy_0 : decode cX8_waysBy 0 = .ok (.lconst 0, 1) := by decide +kernel
theorem dX8_waysBy_1 : decode cX8_waysBy 1 = .ok (.lstore_n 3, 1) := by decide +kernel
theorem dX8_waysBy_2 : decode cX8_waysBy 2 = .ok (.iconst 0, 1) := by decide +kernel
theorem dX8_waysBy_3 : decode cX8_waysBy 3 = .ok (.istore 5, 2) := by decide +kernel
theorem dX8_waysBy_5 : decode cX8_waysBy 5 = .ok (.iload 5, 2) := by decide +kernel
theorem dX8_waysBy_7 : decode cX8_waysBy 7 = .ok (.sipush 540, 3) := by decide +kernel
theorem dX8_waysBy_10 : decode cX8_waysBy 10 = .ok (.if_icmp .gt 29, 3) := by decide +kernel
theorem dX8_waysBy_13 : decode cX8_waysBy 13 = .ok (.iload_n 1, 1) := by decide +kernel
theorem dX8_waysBy_14 : decode cX8_waysBy 14 = .ok (.iload 5, 2) := by decide +kernel
theorem dX8_waysBy_16 : decode cX8_waysBy 16 = .ok (.iload_n 2, 1) := by decide +kernel
theorem dX8_waysBy_17 : decode cX8_waysBy 17 = .ok (.invokestatic 37, 3) := by decide +kernel
theorem dX8_waysBy_20 : decode cX8_waysBy 20 = .ok (.ifCond .eq 13, 3) := by decide +kernel
theorem dX8_waysBy_23 : decode cX8_waysBy 23 = .ok (.lload_n 3, 1) := by decide +kernel
theorem dX8_waysBy_24 : decode cX8_waysBy 24 = .ok (.aload_n 0, 1) := by decide +kernel
theorem dX8_waysBy_25 : decode cX8_waysBy 25 = .ok (.getfield 19, 3) := by decide +kernel
theorem dX8_waysBy_28 : decode cX8_waysBy 28 = .ok (.iload 5, 2) := by decide +kernel
theorem dX8_waysBy_30 : decode cX8_waysBy 30 = .ok (.laload, 1) := by decide +kernel
theorem dX8_waysBy_31 : decode cX8_waysBy 31 = .ok (.ladd, 1) := by decide +kernel
theorem dX8_waysBy_32 : decode cX8_waysBy 32 = .ok (.lstore_n 3, 1) := by decide +kernel
theorem dX8_waysBy_33 : decode cX8_waysBy 33 = .ok (.iinc 5 1, 3) := by decide +kernel
theorem dX8_waysBy_36 : decode cX8_waysBy 36 = .ok (.goto (-31), 3) := by decide +kernel
theorem dX8_waysBy_39 : decode cX8_waysBy 39 = .ok (.lload_n 3, 1) := by decide +kernel
theorem dX8_waysBy_40 : decode cX8_waysBy 40 = .ok (.lreturn, 1) := by decide +kernel
set_option maxRecDepth 20000 in
theorem ggX8_tablesBy_X8_isStrange : GoodIn wsX8_tablesBy wsX8_isStrange := goodIn_r _ [5] (by decide +kernel) (by decide +kernel)
set_option maxRecDepth 20000 in
theorem gX8_tablesBy_X8_isStrange : GoodIn wsX8_tablesBy (va_wsS RX8 37 yX8_isStrange wsX8_isStrange) := goodIn_app (goodIn_of _ (by decide +kernel)) ggX8_tablesBy_X8_isStrange
theorem dX8_tablesBy_0 : decode cX8_tablesBy 0 = .ok (.iconst 0, 1) := by decide +kernel
theorem dX8_tablesBy_1 : decode cX8_tablesBy 1 = .ok (.istore_n 3, 1) := by decide +kernel
theorem dX8_tablesBy_2 : decode cX8_tablesBy 2 = .ok (.iconst 0, 1) := by decide +kernel
theorem dX8_tablesBy_3 : decode cX8_tablesBy 3 = .ok (.istore 4, 2) := by decide +kernel
theorem dX8_tablesBy_5 : decode cX8_tablesBy 5 = .ok (.iload 4, 2) := by decide +kernel
theorem dX8_tablesBy_7 : decode cX8_tablesBy 7 = .ok (.sipush 540, 3) := by decide +kernel
theorem dX8_tablesBy_10 : decode cX8_tablesBy 10 = .ok (.if_icmp .gt 29, 3) := by decide +kernel
theorem dX8_tablesBy_13 : decode cX8_tablesBy 13 = .ok (.iload_n 1, 1) := by decide +kernel
theorem dX8_tablesBy_14 : decode cX8_tablesBy 14 = .ok (.iload 4, 2) := by decide +kernel
theorem dX8_tablesBy_16 : decode cX8_tablesBy 16 = .ok (.iload_n 2, 1) := by decide +kernel
theorem dX8_tablesBy_17 : decode cX8_tablesBy 17 = .ok (.invokestatic 37, 3) := by decide +kernel
theorem dX8_tablesBy_20 : decode cX8_tablesBy 20 = .ok (.ifCond .eq 13, 3) := by decide +kernel
theorem dX8_tablesBy_23 : decode cX8_tablesBy 23 = .ok (.iload_n 3, 1) := by decide +kernel
theorem dX8_tablesBy_24 : decode cX8_tablesBy 24 = .ok (.aload_n 0, 1) := by decide +kernel
theorem dX8_tablesBy_25 : decode cX8_tablesBy 25 = .ok (.getfield 23, 3) := by decide +kernel
theorem dX8_tablesBy_28 : decode cX8_tablesBy 28 = .ok (.iload 4, 2) := by decide +kernel
theorem dX8_tablesBy_30 : decode cX8_tablesBy 30 = .ok (.iaload, 1) := by decide +kernel
theorem dX8_tablesBy_31 : decode cX8_tablesBy 31 = .ok (.iadd, 1) := by decide +kernel
theorem dX8_tablesBy_32 : decode cX8_tablesBy 32 = .ok (.istore_n 3, 1) := by decide +kernel
theorem dX8_tablesBy_33 : decode cX8_tablesBy 33 = .ok (.iinc 4 1, 3) := by decide +kernel
theorem dX8_tablesBy_36 : decode cX8_tablesBy 36 = .ok (.goto (-31), 3) := by decide +kernel
theorem dX8_tablesBy_39 : decode cX8_tablesBy 39 = .ok (.iload_n 3, 1) := by decide +kernel
theorem dX8_tablesBy_40 : decode cX8_tablesBy 40 = .ok (.ireturn, 1) := by decide +kernel
theorem dX8_isStrange_0 : decode cX8_isStrange 0 = .ok (.iload_n 0, 1) := by decide +kernel
theorem dX8_isStrange_1 : decode cX8_isStrange 1 = .ok (.iconst 1, 1) := by decide +kernel
theorem dX8_isStrange_2 : decode cX8_isStrange 2 = .ok (.if_icmp .ne 16, 3) := by decide +kernel
theorem dX8_isStrange_5 : decode cX8_isStrange 5 = .ok (.iload_n 1, 1) := by decide +kernel
theorem dX8_isStrange_6 : decode cX8_isStrange 6 = .ok (.iload_n 2, 1) := by decide +kernel
theorem dX8_isStrange_7 : decode cX8_isStrange 7 = .ok (.if_icmp .lt 7, 3) := by decide +kernel
theorem dX8_isStrange_10 : decode cX8_isStrange 10 = .ok (.iconst 1, 1) := by decide +kernel
theorem dX8_isStrange_11 : decode cX8_isStrange 11 = .ok (.goto 17, 3) := by decide +kernel
theorem dX8_isStrange_14 : decode cX8_isStrange 14 = .ok (.iconst 0, 1) := by decide +kernel
theorem dX8_isStrange_15 : decode cX8_isStrange 15 = .ok (.goto 13, 3) := by decide +kernel
theorem dX8_isStrange_18 : decode cX8_isStrange 18 = .ok (.iload_n 1, 1) := by decide +kernel
theorem dX8_isStrange_19 : decode cX8_isStrange 19 = .ok (.iload_n 2, 1) := by decide +kernel
theorem dX8_isStrange_20 : decode cX8_isStrange 20 = .ok (.if_icmp .gt 7, 3) := by decide +kernel
theorem dX8_isStrange_23 : decode cX8_isStrange 23 = .ok (.iconst 1, 1) := by decide +kernel
theorem dX8_isStrange_24 : decode cX8_isStrange 24 = .ok (.goto 4, 3) := by decide +kernel
theorem dX8_isStrange_27 : decode cX8_isStrange 27 = .ok (.iconst 0, 1) := by decide +kernel
theorem dX8_isStrange_28 : decode cX8_isStrange 28 = .ok (.ireturn, 1) := by decide +kernel
set_option maxRecDepth 20000 in
theorem ggX8_refresh_X0_version : GoodIn wsX8_refresh wsX0_version := goodIn_r _ [12, 13, 85, 86, 87, 88, 89, 90, 91] (by decide +kernel) (by decide +kernel)
set_option maxRecDepth 20000 in
theorem gX8_refresh_X0_version : GoodIn wsX8_refresh (wsV RX8 41 RX0 yX0_version wsX0_version) := goodIn_app (goodIn_of _ (by decide +kernel)) ggX8_refresh_X0_version
set_option maxRecDepth 20000 in
theorem ggX8_refresh_X2_at : GoodIn wsX8_refresh wsX2_at := goodIn_r _ [18, 19, 92, 93, 94, 95, 96] (by decide +kernel) (by decide +kernel)
set_option maxRecDepth 20000 in
theorem gX8_refresh_X2_at : GoodIn wsX8_refresh (wsV RX8 48 RX2 yX2_at wsX2_at) := goodIn_app (goodIn_of _ (by decide +kernel)) ggX8_refresh_X2_at
set_option maxRecDepth 20000 in
theorem ggX8_refresh_J7_fill_d0a16 : GoodIn wsX8_refresh wsJ7_fill_d0a16 := goodIn_r _ [23] (by decide +kernel) (by decide +kernel)
set_option maxRecDepth 20000 in
theorem gX8_refresh_J7_fill_d0a16 : GoodIn wsX8_refresh (va_wsS RX8 52 yJ7_fill_d0a16 wsJ7_fill_d0a16) := goodIn_app (goodIn_of _ (by decide +kernel)) ggX8_refresh_J7_fill_d0a16
set_option maxRecDepth 20000 in
theorem ggX8_refresh_J7_fill_53178 : GoodIn wsX8_refresh wsJ7_fill_53178 := goodIn_r _ [26] (by decide +kernel) (by decide +kernel)
set_option maxRecDepth 20000 in
theorem gX8_refresh_J7_fill_53178 : GoodIn wsX8_refresh (va_wsS RX8 58 yJ7_fill_53178 wsJ7_fill_53178) := goodIn_app (goodIn_of _ (by decide +kernel)) ggX8_refresh_J7_fill_53178
set_option maxRecDepth 20000 in
theorem ggX8_refresh_X8_walkFrom : GoodIn wsX8_refresh wsX8_walkFrom := goodIn_r _ [31, 2, 3, 32, 33, 34, 11, 35, 36, 37, 38, 39, 40, 17, 41, 42, 43, 44, 45, 46, 47, 48, 49, 50, 51, 52, 53, 54, 55, 56, 57, 58, 59, 60, 61, 62, 63, 64, 65, 66, 67, 68, 30, 69, 70, 71, 72, 73, 27, 28, 29, 74, 75, 76, 77, 6, 7, 78, 79, 80, 81, 82, 83, 84, 85, 86, 87, 88, 89, 90, 91, 92, 93, 94, 95, 96] (by decide +kernel) (by decide +kernel)
set_option maxRecDepth 20000 in
theorem gX8_refresh_X8_walkFrom : GoodIn wsX8_refresh (wsV RX8 61 RX8 yX8_walkFrom wsX8_walkFrom) := goodIn_app (goodIn_of _ (by decide +kernel)) ggX8_refresh_X8_walkFrom
theorem dX8_refresh_0 : decode cX8_refresh 0 = .ok (.aload_n 0, 1) := by decide +kernel
theorem dX8_refresh_1 : decode cX8_refresh 1 = .ok (.getfield 34, 3) := by decide +kernel
theorem dX8_refresh_4 : decode cX8_refresh 4 = .ok (.aload_n 0, 1) := by decide +kernel
theorem dX8_refresh_5 : decode cX8_refresh 5 = .ok (.getfield 9, 3) := by decide +kernel
theorem dX8_refresh_8 : decode cX8_refresh 8 = .ok (.invokevirtual 41, 3) := by decide +kernel
theorem dX8_refresh_11 : decode cX8_refresh 11 = .ok (.if_icmp .ne 4, 3) := by decide +kernel
theorem dX8_refresh_14 : decode cX8_refresh 14 = .ok (.return_, 1) := by decide +kernel
theorem dX8_refresh_15 : decode cX8_refresh 15 = .ok (.aload_n 0, 1) := by decide +kernel
theorem dX8_refresh_16 : decode cX8_refresh 16 = .ok (.aload_n 0, 1) := by decide +kernel
theorem dX8_refresh_17 : decode cX8_refresh 17 = .ok (.getfield 9, 3) := by decide +kernel
theorem dX8_refresh_20 : decode cX8_refresh 20 = .ok (.invokevirtual 41, 3) := by decide +kernel
theorem dX8_refresh_23 : decode cX8_refresh 23 = .ok (.putfield 34, 3) := by decide +kernel
theorem dX8_refresh_26 : decode cX8_refresh 26 = .ok (.aload_n 0, 1) := by decide +kernel
theorem dX8_refresh_27 : decode cX8_refresh 27 = .ok (.aload_n 0, 1) := by decide +kernel
theorem dX8_refresh_28 : decode cX8_refresh 28 = .ok (.getfield 15, 3) := by decide +kernel
theorem dX8_refresh_31 : decode cX8_refresh 31 = .ok (.bipush 6, 2) := by decide +kernel
theorem dX8_refresh_33 : decode cX8_refresh 33 = .ok (.iconst 0, 1) := by decide +kernel
theorem dX8_refresh_34 : decode cX8_refresh 34 = .ok (.iconst 0, 1) := by decide +kernel
theorem dX8_refresh_35 : decode cX8_refresh 35 = .ok (.invokevirtual 48, 3) := by decide +kernel
theorem dX8_refresh_38 : decode cX8_refresh 38 = .ok (.l2i, 1) := by decide +kernel
theorem dX8_refresh_39 : decode cX8_refresh 39 = .ok (.putfield 27, 3) := by decide +kernel
theorem dX8_refresh_42 : decode cX8_refresh 42 = .ok (.aload_n 0, 1) := by decide +kernel
theorem dX8_refresh_43 : decode cX8_refresh 43 = .ok (.aload_n 0, 1) := by decide +kernel
theorem dX8_refresh_44 : decode cX8_refresh 44 = .ok (.getfield 15, 3) := by decide +kernel
theorem dX8_refresh_47 : decode cX8_refresh 47 = .ok (.bipush 7, 2) := by decide +kernel
theorem dX8_refresh_49 : decode cX8_refresh 49 = .ok (.iconst 0, 1) := by decide +kernel
theorem dX8_refresh_50 : decode cX8_refresh 50 = .ok (.iconst 0, 1) := by decide +kernel
theorem dX8_refresh_51 : decode cX8_refresh 51 = .ok (.invokevirtual 48, 3) := by decide +kernel
theorem dX8_refresh_54 : decode cX8_refresh 54 = .ok (.l2i, 1) := by decide +kernel
theorem dX8_refresh_55 : decode cX8_refresh 55 = .ok (.putfield 31, 3) := by decide +kernel
theorem dX8_refresh_58 : decode cX8_refresh 58 = .ok (.aload_n 0, 1) := by decide +kernel
theorem dX8_refresh_59 : decode cX8_refresh 59 = .ok (.getfield 19, 3) := by decide +kernel
theorem dX8_refresh_62 : decode cX8_refresh 62 = .ok (.lconst 0, 1) := by decide +kernel
theorem dX8_refresh_63 : decode cX8_refresh 63 = .ok (.invokestatic 52, 3) := by decide +kernel
theorem dX8_refresh_66 : decode cX8_refresh 66 = .ok (.aload_n 0, 1) := by decide +kernel
theorem dX8_refresh_67 : decode cX8_refresh 67 = .ok (.getfield 23, 3) := by decide +kernel
theorem dX8_refresh_70 : decode cX8_refresh 70 = .ok (.iconst 0, 1) := by decide +kernel
theorem dX8_refresh_71 : decode cX8_refresh 71 = .ok (.invokestatic 58, 3) := by decide +kernel
theorem dX8_refresh_74 : decode cX8_refresh 74 = .ok (.aload_n 0, 1) := by decide +kernel
theorem dX8_refresh_75 : decode cX8_refresh 75 = .ok (.iconst 0, 1) := by decide +kernel
theorem dX8_refresh_76 : decode cX8_refresh 76 = .ok (.iconst 0, 1) := by decide +kernel
theorem dX8_refresh_77 : decode cX8_refresh 77 = .ok (.iconst 0, 1) := by decide +kernel
theorem dX8_refresh_78 : decode cX8_refresh 78 = .ok (.lconst 1, 1) := by decide +kernel
theorem dX8_refresh_79 : decode cX8_refresh 79 = .ok (.invokevirtual 61, 3) := by decide +kernel
theorem dX8_refresh_82 : decode cX8_refresh 82 = .ok (.return_, 1) := by decide +kernel
set_option maxRecDepth 20000 in
theorem ggX8_walkFrom_X0_scoreOf : GoodIn wsX8_walkFrom wsX0_scoreOf := goodIn_r _ [7, 8, 9, 64, 65, 66, 67, 68, 69, 70] (by decide +kernel) (by decide +kernel)
set_option maxRecDepth 20000 in
theorem gX8_walkFrom_X0_scoreOf : GoodIn wsX8_walkFrom (wsV RX8 65 RX0 yX0_scoreOf wsX0_scoreOf) := goodIn_app (goodIn_of _ (by decide +kernel)) ggX8_walkFrom_X0_scoreOf
set_option maxRecDepth 20000 in
theorem ggX8_walkFrom_X2_most : GoodIn wsX8_walkFrom wsX2_most := goodIn_r _ [14, 15, 16, 17, 18, 19, 20, 21, 22, 23, 6, 24, 8, 25, 71, 72, 73, 74, 75, 64, 65, 66, 67, 68, 69, 70] (by decide +kernel) (by decide +kernel)
set_option maxRecDepth 20000 in
theorem gX8_walkFrom_X2_most : GoodIn wsX8_walkFrom (wsV RX8 69 RX2 yX2_most wsX2_most) := goodIn_app (goodIn_of _ (by decide +kernel)) ggX8_walkFrom_X2_most
set_option maxRecDepth 20000 in
theorem ggX8_walkFrom_X2_fewest : GoodIn wsX8_walkFrom wsX2_fewest := goodIn_r _ [29, 16, 30, 31, 32, 19, 33, 71, 72, 73, 74, 75] (by decide +kernel) (by decide +kernel)
set_option maxRecDepth 20000 in
theorem gX8_walkFrom_X2_fewest : GoodIn wsX8_walkFrom (wsV RX8 73 RX2 yX2_fewest wsX2_fewest) := goodIn_app (goodIn_of _ (by decide +kernel)) ggX8_walkFrom_X2_fewest
set_option maxRecDepth 20000 in
theorem ggX8_walkFrom_X0_waysOf : GoodIn wsX8_walkFrom wsX0_waysOf := goodIn_r _ [37, 8, 38, 64, 65, 66, 67, 68, 69, 70] (by decide +kernel) (by decide +kernel)
set_option maxRecDepth 20000 in
theorem gX8_walkFrom_X0_waysOf : GoodIn wsX8_walkFrom (wsV RX8 76 RX0 yX0_waysOf wsX0_waysOf) := goodIn_app (goodIn_of _ (by decide +kernel)) ggX8_walkFrom_X0_waysOf
set_option maxRecDepth 20000 in
theorem ggX8_walkFrom_X8_comeTo : GoodIn wsX8_walkFrom wsX8_comeTo := goodIn_r _ [43, 1, 44, 45, 46, 6, 47, 8, 48, 49, 50, 42, 51, 52, 53, 54, 55, 56, 0, 2, 3, 4, 5, 7, 9, 10, 11, 12, 13, 14, 15, 16, 17, 18, 19, 20, 21, 22, 23, 24, 25, 26, 27, 28, 29, 30, 31, 32, 33, 34, 35, 36, 37, 38, 39, 40, 41, 57, 58, 59, 60, 61, 62, 63, 64, 65, 66, 67, 68, 69, 70, 71, 72, 73, 74, 75] (by decide +kernel) (by decide +kernel)
set_option maxRecDepth 20000 in
theorem gX8_walkFrom_X8_comeTo : GoodIn wsX8_walkFrom (wsV RX8 80 RX8 yX8_comeTo wsX8_comeTo) := goodIn_app (goodIn_of _ (by decide +kernel)) ggX8_walkFrom_X8_comeTo
theorem dX8_walkFrom_0 : decode cX8_walkFrom 0 = .ok (.aload_n 0, 1) := by decide +kernel
theorem dX8_walkFrom_1 : decode cX8_walkFrom 1 = .ok (.getfield 9, 3) := by decide +kernel
theorem dX8_walkFrom_4 : decode cX8_walkFrom 4 = .ok (.iload_n 1, 1) := by decide +kernel
theorem dX8_walkFrom_5 : decode cX8_walkFrom 5 = .ok (.invokevirtual 65, 3) := by decide +kernel
theorem dX8_walkFrom_8 : decode cX8_walkFrom 8 = .ok (.istore 6, 2) := by decide +kernel
theorem dX8_walkFrom_10 : decode cX8_walkFrom 10 = .ok (.aload_n 0, 1) := by decide +kernel
theorem dX8_walkFrom_11 : decode cX8_walkFrom 11 = .ok (.getfield 15, 3) := by decide +kernel
theorem dX8_walkFrom_14 : decode cX8_walkFrom 14 = .ok (.iload_n 1, 1) := by decide +kernel
theorem dX8_walkFrom_15 : decode cX8_walkFrom 15 = .ok (.iload_n 2, 1) := by decide +kernel
theorem dX8_walkFrom_16 : decode cX8_walkFrom 16 = .ok (.invokevirtual 69, 3) := by decide +kernel
theorem dX8_walkFrom_19 : decode cX8_walkFrom 19 = .ok (.istore 7, 2) := by decide +kernel
theorem dX8_walkFrom_21 : decode cX8_walkFrom 21 = .ok (.aload_n 0, 1) := by decide +kernel
theorem dX8_walkFrom_22 : decode cX8_walkFrom 22 = .ok (.getfield 15, 3) := by decide +kernel
theorem dX8_walkFrom_25 : decode cX8_walkFrom 25 = .ok (.iload_n 1, 1) := by decide +kernel
theorem dX8_walkFrom_26 : decode cX8_walkFrom 26 = .ok (.iload_n 2, 1) := by decide +kernel
theorem dX8_walkFrom_27 : decode cX8_walkFrom 27 = .ok (.invokevirtual 73, 3) := by decide +kernel
theorem dX8_walkFrom_30 : decode cX8_walkFrom 30 = .ok (.istore 8, 2) := by decide +kernel
theorem dX8_walkFrom_32 : decode cX8_walkFrom 32 = .ok (.iload 8, 2) := by decide +kernel
theorem dX8_walkFrom_34 : decode cX8_walkFrom 34 = .ok (.iload 7, 2) := by decide +kernel
theorem dX8_walkFrom_36 : decode cX8_walkFrom 36 = .ok (.if_icmp .gt 40, 3) := by decide +kernel
theorem dX8_walkFrom_39 : decode cX8_walkFrom 39 = .ok (.aload_n 0, 1) := by decide +kernel
theorem dX8_walkFrom_40 : decode cX8_walkFrom 40 = .ok (.iload_n 1, 1) := by decide +kernel
theorem dX8_walkFrom_41 : decode cX8_walkFrom 41 = .ok (.iconst 1, 1) := by decide +kernel
theorem dX8_walkFrom_42 : decode cX8_walkFrom 42 = .ok (.iadd, 1) := by decide +kernel
theorem dX8_walkFrom_43 : decode cX8_walkFrom 43 = .ok (.iload_n 2, 1) := by decide +kernel
theorem dX8_walkFrom_44 : decode cX8_walkFrom 44 = .ok (.iload 8, 2) := by decide +kernel
theorem dX8_walkFrom_46 : decode cX8_walkFrom 46 = .ok (.iadd, 1) := by decide +kernel
theorem dX8_walkFrom_47 : decode cX8_walkFrom 47 = .ok (.iload_n 3, 1) := by decide +kernel
theorem dX8_walkFrom_48 : decode cX8_walkFrom 48 = .ok (.iload 8, 2) := by decide +kernel
theorem dX8_walkFrom_50 : decode cX8_walkFrom 50 = .ok (.iload 6, 2) := by decide +kernel
theorem dX8_walkFrom_52 : decode cX8_walkFrom 52 = .ok (.imul, 1) := by decide +kernel
theorem dX8_walkFrom_53 : decode cX8_walkFrom 53 = .ok (.iadd, 1) := by decide +kernel
theorem dX8_walkFrom_54 : decode cX8_walkFrom 54 = .ok (.lload 4, 2) := by decide +kernel
theorem dX8_walkFrom_56 : decode cX8_walkFrom 56 = .ok (.aload_n 0, 1) := by decide +kernel
theorem dX8_walkFrom_57 : decode cX8_walkFrom 57 = .ok (.getfield 9, 3) := by decide +kernel
theorem dX8_walkFrom_60 : decode cX8_walkFrom 60 = .ok (.iload_n 1, 1) := by decide +kernel
theorem dX8_walkFrom_61 : decode cX8_walkFrom 61 = .ok (.iload 8, 2) := by decide +kernel
theorem dX8_walkFrom_63 : decode cX8_walkFrom 63 = .ok (.invokevirtual 76, 3) := by decide +kernel
theorem dX8_walkFrom_66 : decode cX8_walkFrom 66 = .ok (.lmul, 1) := by decide +kernel
theorem dX8_walkFrom_67 : decode cX8_walkFrom 67 = .ok (.invokevirtual 80, 3) := by decide +kernel
theorem dX8_walkFrom_70 : decode cX8_walkFrom 70 = .ok (.iinc 8 1, 3) := by decide +kernel
theorem dX8_walkFrom_73 : decode cX8_walkFrom 73 = .ok (.goto (-41), 3) := by decide +kernel
theorem dX8_walkFrom_76 : decode cX8_walkFrom 76 = .ok (.return_, 1) := by decide +kernel
set_option maxRecDepth 20000 in
theorem ggX8_comeTo_X0_has : GoodIn wsX8_comeTo wsX0_has := goodIn_r _ [6, 7, 64, 65, 66, 67, 68, 69, 70] (by decide +kernel) (by decide +kernel)
set_option maxRecDepth 20000 in
theorem gX8_comeTo_X0_has : GoodIn wsX8_comeTo (wsV RX8 83 RX0 yX0_has wsX0_has) := goodIn_app (goodIn_of _ (by decide +kernel)) ggX8_comeTo_X0_has
set_option maxRecDepth 20000 in
theorem ggX8_comeTo_X8_walkFrom : GoodIn wsX8_comeTo wsX8_walkFrom := goodIn_r _ [18, 1, 19, 20, 21, 22, 5, 23, 7, 24, 25, 26, 27, 28, 29, 30, 31, 32, 33, 34, 35, 36, 37, 38, 39, 40, 41, 42, 43, 44, 45, 46, 47, 48, 49, 50, 51, 52, 53, 54, 55, 56, 11, 0, 2, 3, 4, 6, 8, 9, 10, 12, 13, 14, 15, 16, 17, 57, 58, 59, 60, 61, 62, 63, 64, 65, 66, 67, 68, 69, 70, 71, 72, 73, 74, 75] (by decide +kernel) (by decide +kernel)
set_option maxRecDepth 20000 in
theorem gX8_comeTo_X8_walkFrom : GoodIn wsX8_comeTo (wsV RX8 61 RX8 yX8_walkFrom wsX8_walkFrom) := goodIn_app (goodIn_of _ (by decide +kernel)) ggX8_comeTo_X8_walkFrom
set_option maxRecDepth 20000 in
theorem ggX8_comeTo_X8_take : GoodIn wsX8_comeTo wsX8_take := goodIn_r _ [15, 16, 17, 57, 58, 59, 60, 61, 62, 63] (by decide +kernel) (by decide +kernel)
set_option maxRecDepth 20000 in
theorem gX8_comeTo_X8_take : GoodIn wsX8_comeTo (wsV RX8 87 RX8 yX8_take wsX8_take) := goodIn_app (goodIn_of _ (by decide +kernel)) ggX8_comeTo_X8_take
theorem dX8_comeTo_0 : decode cX8_comeTo 0 = .ok (.aload_n 0, 1) := by decide +kernel
theorem dX8_comeTo_1 : decode cX8_comeTo 1 = .ok (.getfield 9, 3) := by decide +kernel
theorem dX8_comeTo_4 : decode cX8_comeTo 4 = .ok (.iload_n 1, 1) := by decide +kernel
theorem dX8_comeTo_5 : decode cX8_comeTo 5 = .ok (.invokevirtual 83, 3) := by decide +kernel
theorem dX8_comeTo_8 : decode cX8_comeTo 8 = .ok (.ifCond .eq 15, 3) := by decide +kernel
theorem dX8_comeTo_11 : decode cX8_comeTo 11 = .ok (.aload_n 0, 1) := by decide +kernel
theorem dX8_comeTo_12 : decode cX8_comeTo 12 = .ok (.iload_n 1, 1) := by decide +kernel
theorem dX8_comeTo_13 : decode cX8_comeTo 13 = .ok (.iload_n 2, 1) := by decide +kernel
theorem dX8_comeTo_14 : decode cX8_comeTo 14 = .ok (.iload_n 3, 1) := by decide +kernel
theorem dX8_comeTo_15 : decode cX8_comeTo 15 = .ok (.lload 4, 2) := by decide +kernel
theorem dX8_comeTo_17 : decode cX8_comeTo 17 = .ok (.invokevirtual 61, 3) := by decide +kernel
theorem dX8_comeTo_20 : decode cX8_comeTo 20 = .ok (.goto 10, 3) := by decide +kernel
theorem dX8_comeTo_23 : decode cX8_comeTo 23 = .ok (.aload_n 0, 1) := by decide +kernel
theorem dX8_comeTo_24 : decode cX8_comeTo 24 = .ok (.iload_n 3, 1) := by decide +kernel
theorem dX8_comeTo_25 : decode cX8_comeTo 25 = .ok (.lload 4, 2) := by decide +kernel
theorem dX8_comeTo_27 : decode cX8_comeTo 27 = .ok (.invokevirtual 87, 3) := by decide +kernel
theorem dX8_comeTo_30 : decode cX8_comeTo 30 = .ok (.return_, 1) := by decide +kernel
theorem dX8_take_0 : decode cX8_take 0 = .ok (.iload_n 1, 1) := by decide +kernel
theorem dX8_take_1 : decode cX8_take 1 = .ok (.ifCond .lt 30, 3) := by decide +kernel
theorem dX8_take_4 : decode cX8_take 4 = .ok (.iload_n 1, 1) := by decide +kernel
theorem dX8_take_5 : decode cX8_take 5 = .ok (.sipush 540, 3) := by decide +kernel
theorem dX8_take_8 : decode cX8_take 8 = .ok (.if_icmp .gt 23, 3) := by decide +kernel
theorem dX8_take_11 : decode cX8_take 11 = .ok (.aload_n 0, 1) := by decide +kernel
theorem dX8_take_12 : decode cX8_take 12 = .ok (.getfield 19, 3) := by decide +kernel
theorem dX8_take_15 : decode cX8_take 15 = .ok (.iload_n 1, 1) := by decide +kernel
theorem dX8_take_16 : decode cX8_take 16 = .ok (.dup2, 1) := by decide +kernel
theorem dX8_take_17 : decode cX8_take 17 = .ok (.laload, 1) := by decide +kernel
theorem dX8_take_18 : decode cX8_take 18 = .ok (.lload_n 2, 1) := by decide +kernel
theorem dX8_take_19 : decode cX8_take 19 = .ok (.ladd, 1) := by decide +kernel
theorem dX8_take_20 : decode cX8_take 20 = .ok (.lastore, 1) := by decide +kernel
theorem dX8_take_21 : decode cX8_take 21 = .ok (.aload_n 0, 1) := by decide +kernel
theorem dX8_take_22 : decode cX8_take 22 = .ok (.getfield 23, 3) := by decide +kernel
theorem dX8_take_25 : decode cX8_take 25 = .ok (.iload_n 1, 1) := by decide +kernel
theorem dX8_take_26 : decode cX8_take 26 = .ok (.dup2, 1) := by decide +kernel
theorem dX8_take_27 : decode cX8_take 27 = .ok (.iaload, 1) := by decide +kernel
theorem dX8_take_28 : decode cX8_take 28 = .ok (.iconst 1, 1) := by decide +kernel
theorem dX8_take_29 : decode cX8_take 29 = .ok (.iadd, 1) := by decide +kernel
theorem dX8_take_30 : decode cX8_take 30 = .ok (.iastore, 1) := by decide +kernel
theorem dX8_take_31 : decode cX8_take 31 = .ok (.return_, 1) := by decide +kernel
theorem dX9_init_0 : decode cX9_init 0 = .ok (.aload_n 0, 1) := by decide +kernel
theorem dX9_init_1 : decode cX9_init 1 = .ok (.invokespecial 3, 3) := by decide +kernel
theorem dX9_init_4 : decode cX9_init 4 = .ok (.aload_n 0, 1) := by decide +kernel
theorem dX9_init_5 : decode cX9_init 5 = .ok (.sipush 200, 3) := by decide +kernel
theorem dX9_init_8 : decode cX9_init 8 = .ok (.newarray .char, 2) := by decide +kernel
theorem dX9_init_10 : decode cX9_init 10 = .ok (.putfield 9, 3) := by decide +kernel
theorem dX9_init_13 : decode cX9_init 13 = .ok (.aload_n 0, 1) := by decide +kernel
theorem dX9_init_14 : decode cX9_init 14 = .ok (.iconst 0, 1) := by decide +kernel
theorem dX9_init_15 : decode cX9_init 15 = .ok (.putfield 15, 3) := by decide +kernel
theorem dX9_init_18 : decode cX9_init 18 = .ok (.return_, 1) := by decide +kernel
theorem dX9_size_0 : decode cX9_size 0 = .ok (.aload_n 0, 1) := by decide +kernel
theorem dX9_size_1 : decode cX9_size 1 = .ok (.getfield 15, 3) := by decide +kernel
theorem dX9_size_4 : decode cX9_size 4 = .ok (.ireturn, 1) := by decide +kernel
theorem dX9_isFull_0 : decode cX9_isFull 0 = .ok (.aload_n 0, 1) := by decide +kernel
theorem dX9_isFull_1 : decode cX9_isFull 1 = .ok (.getfield 15, 3) := by decide +kernel
theorem dX9_isFull_4 : decode cX9_isFull 4 = .ok (.aload_n 0, 1) := by decide +kernel
theorem dX9_isFull_5 : decode cX9_isFull 5 = .ok (.getfield 9, 3) := by decide +kernel
theorem dX9_isFull_8 : decode cX9_isFull 8 = .ok (.arraylength, 1) := by decide +kernel
theorem dX9_isFull_9 : decode cX9_isFull 9 = .ok (.if_icmp .lt 7, 3) := by decide +kernel
theorem dX9_isFull_12 : decode cX9_isFull 12 = .ok (.iconst 1, 1) := by decide +kernel
theorem dX9_isFull_13 : decode cX9_isFull 13 = .ok (.goto 4, 3) := by decide +kernel
theorem dX9_isFull_16 : decode cX9_isFull 16 = .ok (.iconst 0, 1) := by decide +kernel
theorem dX9_isFull_17 : decode cX9_isFull 17 = .ok (.ireturn, 1) := by decide +kernel
theorem dX9_append_0 : decode cX9_append 0 = .ok (.aload_n 0, 1) := by decide +kernel
theorem dX9_append_1 : decode cX9_append 1 = .ok (.getfield 15, 3) := by decide +kernel
theorem dX9_append_4 : decode cX9_append 4 = .ok (.ifCond .lt 35, 3) := by decide +kernel
theorem dX9_append_7 : decode cX9_append 7 = .ok (.aload_n 0, 1) := by decide +kernel
theorem dX9_append_8 : decode cX9_append 8 = .ok (.getfield 15, 3) := by decide +kernel
theorem dX9_append_11 : decode cX9_append 11 = .ok (.aload_n 0, 1) := by decide +kernel
theorem dX9_append_12 : decode cX9_append 12 = .ok (.getfield 9, 3) := by decide +kernel
theorem dX9_append_15 : decode cX9_append 15 = .ok (.arraylength, 1) := by decide +kernel
theorem dX9_append_16 : decode cX9_append 16 = .ok (.if_icmp .ge 23, 3) := by decide +kernel
theorem dX9_append_19 : decode cX9_append 19 = .ok (.aload_n 0, 1) := by decide +kernel
theorem dX9_append_20 : decode cX9_append 20 = .ok (.getfield 9, 3) := by decide +kernel
theorem dX9_append_23 : decode cX9_append 23 = .ok (.aload_n 0, 1) := by decide +kernel
theorem dX9_append_24 : decode cX9_append 24 = .ok (.getfield 15, 3) := by decide +kernel
theorem dX9_append_27 : decode cX9_append 27 = .ok (.iload_n 1, 1) := by decide +kernel
theorem dX9_append_28 : decode cX9_append 28 = .ok (.castore, 1) := by decide +kernel
theorem dX9_append_29 : decode cX9_append 29 = .ok (.aload_n 0, 1) := by decide +kernel
theorem dX9_append_30 : decode cX9_append 30 = .ok (.dup, 1) := by decide +kernel
theorem dX9_append_31 : decode cX9_append 31 = .ok (.getfield 15, 3) := by decide +kernel
theorem dX9_append_34 : decode cX9_append 34 = .ok (.iconst 1, 1) := by decide +kernel
theorem dX9_append_35 : decode cX9_append 35 = .ok (.iadd, 1) := by decide +kernel
theorem dX9_append_36 : decode cX9_append 36 = .ok (.putfield 15, 3) := by decide +kernel
theorem dX9_append_39 : decode cX9_append 39 = .ok (.return_, 1) := by decide +kernel
theorem dX9_clear_0 : decode cX9_clear 0 = .ok (.aload_n 0, 1) := by decide +kernel
theorem dX9_clear_1 : decode cX9_clear 1 = .ok (.iconst 0, 1) := by decide +kernel
theorem dX9_clear_2 : decode cX9_clear 2 = .ok (.putfield 15, 3) := by decide +kernel
theorem dX9_clear_5 : decode cX9_clear 5 = .ok (.return_, 1) := by decide +kernel
theorem dX9_letterAt_0 : decode cX9_letterAt 0 = .ok (.iload_n 1, 1) := by decide +kernel
theorem dX9_letterAt_1 : decode cX9_letterAt 1 = .ok (.ifCond .lt 29, 3) := by decide +kernel
theorem dX9_letterAt_4 : decode cX9_letterAt 4 = .ok (.iload_n 1, 1) := by decide +kernel
theorem dX9_letterAt_5 : decode cX9_letterAt 5 = .ok (.aload_n 0, 1) := by decide +kernel
theorem dX9_letterAt_6 : decode cX9_letterAt 6 = .ok (.getfield 15, 3) := by decide +kernel
theorem dX9_letterAt_9 : decode cX9_letterAt 9 = .ok (.if_icmp .ge 21, 3) := by decide +kernel
theorem dX9_letterAt_12 : decode cX9_letterAt 12 = .ok (.iload_n 1, 1) := by decide +kernel
theorem dX9_letterAt_13 : decode cX9_letterAt 13 = .ok (.aload_n 0, 1) := by decide +kernel
theorem dX9_letterAt_14 : decode cX9_letterAt 14 = .ok (.getfield 9, 3) := by decide +kernel
theorem dX9_letterAt_17 : decode cX9_letterAt 17 = .ok (.arraylength, 1) := by decide +kernel
theorem dX9_letterAt_18 : decode cX9_letterAt 18 = .ok (.if_icmp .ge 12, 3) := by decide +kernel
theorem dX9_letterAt_21 : decode cX9_letterAt 21 = .ok (.aload_n 0, 1) := by decide +kernel
theorem dX9_letterAt_22 : decode cX9_letterAt 22 = .ok (.getfield 9, 3) := by decide +kernel
theorem dX9_letterAt_25 : decode cX9_letterAt 25 = .ok (.iload_n 1, 1) := by decide +kernel
theorem dX9_letterAt_26 : decode cX9_letterAt 26 = .ok (.caload, 1) := by decide +kernel
theorem dX9_letterAt_27 : decode cX9_letterAt 27 = .ok (.goto 4, 3) := by decide +kernel
theorem dX9_letterAt_30 : decode cX9_letterAt 30 = .ok (.iconst 0, 1) := by decide +kernel
theorem dX9_letterAt_31 : decode cX9_letterAt 31 = .ok (.ireturn, 1) := by decide +kernel
set_option maxRecDepth 20000 in
theorem ggX10_init_X6_init : GoodIn wsX10_init wsX6_init := goodIn_r _ [30, 31, 2, 3, 32, 33, 34, 282] (by decide +kernel) (by decide +kernel)
set_option maxRecDepth 20000 in
theorem gX10_init_X6_init : GoodIn wsX10_init (wsX6_init) := ggX10_init_X6_init
set_option maxRecDepth 20000 in
theorem ggX10_init_X9_init : GoodIn wsX10_init wsX9_init := goodIn_r _ [37, 38, 2, 3, 39, 40, 41, 283, 284] (by decide +kernel) (by decide +kernel)
set_option maxRecDepth 20000 in
theorem gX10_init_X9_init : GoodIn wsX10_init (wsX9_init) := ggX10_init_X9_init
set_option maxRecDepth 20000 in
theorem ggX10_init_X5_init : GoodIn wsX10_init wsX5_init := goodIn_r _ [44, 45, 2, 3, 46, 47, 48, 49, 50, 51, 52, 53, 54, 55, 56, 57, 58, 59, 60, 61, 33, 62, 63, 64, 291, 292, 293, 305, 306, 307, 308, 309, 310, 311] (by decide +kernel) (by decide +kernel)
set_option maxRecDepth 20000 in
theorem gX10_init_X5_init : GoodIn wsX10_init (wsX5_init) := ggX10_init_X5_init
set_option maxRecDepth 20000 in
theorem ggX10_init_X3_init : GoodIn wsX10_init wsX3_init := goodIn_r _ [67, 68, 2, 3, 57, 69, 70, 71, 72, 73, 294, 295, 296, 297] (by decide +kernel) (by decide +kernel)
set_option maxRecDepth 20000 in
theorem gX10_init_X3_init : GoodIn wsX10_init (wsX3_init) := ggX10_init_X3_init
set_option maxRecDepth 20000 in
theorem ggX10_init_X1_init : GoodIn wsX10_init wsX1_init := goodIn_r _ [76, 77, 2, 3, 33, 78, 79, 80, 298, 299, 300] (by decide +kernel) (by decide +kernel)
set_option maxRecDepth 20000 in
theorem gX10_init_X1_init : GoodIn wsX10_init (wsX1_init) := ggX10_init_X1_init
set_option maxRecDepth 20000 in
theorem ggX10_init_X7_init : GoodIn wsX10_init wsX7_init := goodIn_r _ [83, 84, 2, 3, 85, 48, 49, 86, 87, 88, 89, 90, 91, 92, 93, 94, 95, 96, 97, 98, 99, 53, 54, 55, 56, 57, 58, 59, 60, 61, 33, 62, 63, 64, 100, 101, 102, 103, 104, 105, 106, 107, 108, 109, 110, 111, 112, 113, 114, 115, 116, 117, 118, 119, 120, 121, 122, 123, 124, 125, 126, 127, 305, 306, 307, 308, 309, 310, 311, 301, 302, 303, 304, 312, 313, 314, 315, 316, 317, 318, 319, 320, 321, 322, 323, 324, 325, 326, 327, 328, 329, 330] (by decide +kernel) (by decide +kernel)
set_option maxRecDepth 20000 in
theorem gX10_init_X7_init : GoodIn wsX10_init (wsX7_init) := ggX10_init_X7_init
set_option maxRecDepth 20000 in
theorem ggX10_init_J0_length_8abf5 : GoodIn wsX10_init wsJ0_length_8abf5 := goodIn_r _ [132, 133, 134, 135, 136, 131, 137, 138, 139] (by decide +kernel) (by decide +kernel)
set_option maxRecDepth 20000 in
theorem gX10_init_J0_length_8abf5 : GoodIn wsX10_init (wsV RX10 55 RJ0 yJ0_length_8abf5 wsJ0_length_8abf5) := goodIn_app (goodIn_of _ (by decide +kernel)) ggX10_init_J0_length_8abf5
set_option maxRecDepth 20000 in
theorem ggX10_init_J0_charAt_5068e : GoodIn wsX10_init wsJ0_charAt_5068e := goodIn_r _ [143, 133, 144, 145, 146, 131, 147, 138, 139, 148, 149, 150, 151, 152, 153, 154, 155, 156, 157, 158, 159, 160, 161, 162, 163, 164, 165, 166, 167, 168, 169, 170, 171, 172, 173, 174, 175, 176] (by decide +kernel) (by decide +kernel)
set_option maxRecDepth 20000 in
theorem gX10_init_J0_charAt_5068e : GoodIn wsX10_init (wsV RX10 61 RJ0 yJ0_charAt_5068e wsJ0_charAt_5068e) := goodIn_app (goodIn_of _ (by decide +kernel)) ggX10_init_J0_charAt_5068e
set_option maxRecDepth 20000 in
theorem ggX10_init_X9_append : GoodIn wsX10_init wsX9_append := goodIn_r _ [180, 41, 40, 283, 284] (by decide +kernel) (by decide +kernel)
set_option maxRecDepth 20000 in
theorem gX10_init_X9_append : GoodIn wsX10_init (wsV RX10 65 RX9 yX9_append wsX9_append) := goodIn_app (goodIn_of _ (by decide +kernel)) ggX10_init_X9_append
set_option maxRecDepth 20000 in
theorem ggX10_init_X10_takeText : GoodIn wsX10_init wsX10_takeText := goodIn_r _ [185, 14, 10, 27, 186, 18, 187, 188, 189, 13, 190, 50, 51, 191, 192, 193, 9, 194, 41, 195, 196, 197, 198, 199, 200, 201, 202, 203, 204, 205, 206, 40, 207, 208, 209, 210, 47, 211, 212, 213, 214, 215, 216, 217, 49, 218, 63, 64, 219, 220, 221, 222, 223, 224, 225, 226, 227, 228, 229, 230, 231, 232, 233, 58, 59, 60, 62, 56, 234, 235, 236, 6, 237, 34, 238, 239, 240, 241, 242, 243, 244, 245, 246, 247, 248, 249, 250, 251, 252, 184, 253, 24, 254, 255, 256, 257, 258, 259, 260, 261, 262, 263, 264, 265, 266, 267, 268, 269, 270, 271, 272, 273, 274, 275, 276, 17, 277, 73, 285, 286, 287, 288, 289, 290, 301, 302, 303, 304, 291, 292, 293, 283, 284, 305, 306, 307, 308, 309, 310, 311, 282, 294, 295, 296, 297] (by decide +kernel) (by decide +kernel)
set_option maxRecDepth 20000 in
theorem gX10_init_X10_takeText : GoodIn wsX10_init (wsV RX10 69 RX10 yX10_takeText wsX10_takeText) := goodIn_app (goodIn_of _ (by decide +kernel)) ggX10_init_X10_takeText
set_option maxRecDepth 20000 in
theorem ggX10_init_X9_clear : GoodIn wsX10_init wsX9_clear := goodIn_r _ [281, 41, 283, 284] (by decide +kernel) (by decide +kernel)
set_option maxRecDepth 20000 in
theorem gX10_init_X9_clear : GoodIn wsX10_init (wsV RX10 73 RX9 yX9_clear wsX9_clear) := goodIn_app (goodIn_of _ (by decide +kernel)) ggX10_init_X9_clear
theorem dX10_init_0 : decode cX10_init 0 = .ok (.aload_n 0, 1) := by decide +kernel
theorem dX10_init_1 : decode cX10_init 1 = .ok (.invokespecial 3, 3) := by decide +kernel
theorem dX10_init_4 : decode cX10_init 4 = .ok (.new 9, 3) := by decide +kernel
theorem dX10_init_7 : decode cX10_init 7 = .ok (.dup, 1) := by decide +kernel
theorem dX10_init_8 : decode cX10_init 8 = .ok (.invokespecial 11, 3) := by decide +kernel
theorem dX10_init_11 : decode cX10_init 11 = .ok (.astore_n 1, 1) := by decide +kernel
theorem dX10_init_12 : decode cX10_init 12 = .ok (.aload_n 0, 1) := by decide +kernel
theorem dX10_init_13 : decode cX10_init 13 = .ok (.new 12, 3) := by decide +kernel
theorem dX10_init_16 : decode cX10_init 16 = .ok (.dup, 1) := by decide +kernel
theorem dX10_init_17 : decode cX10_init 17 = .ok (.invokespecial 14, 3) := by decide +kernel
theorem dX10_init_20 : decode cX10_init 20 = .ok (.putfield 15, 3) := by decide +kernel
theorem dX10_init_23 : decode cX10_init 23 = .ok (.aload_n 0, 1) := by decide +kernel
theorem dX10_init_24 : decode cX10_init 24 = .ok (.new 19, 3) := by decide +kernel
theorem dX10_init_27 : decode cX10_init 27 = .ok (.dup, 1) := by decide +kernel
theorem dX10_init_28 : decode cX10_init 28 = .ok (.aload_n 1, 1) := by decide +kernel
theorem dX10_init_29 : decode cX10_init 29 = .ok (.invokespecial 21, 3) := by decide +kernel
theorem dX10_init_32 : decode cX10_init 32 = .ok (.putfield 24, 3) := by decide +kernel
theorem dX10_init_35 : decode cX10_init 35 = .ok (.aload_n 0, 1) := by decide +kernel
theorem dX10_init_36 : decode cX10_init 36 = .ok (.new 28, 3) := by decide +kernel
theorem dX10_init_39 : decode cX10_init 39 = .ok (.dup, 1) := by decide +kernel
theorem dX10_init_40 : decode cX10_init 40 = .ok (.invokespecial 30, 3) := by decide +kernel
theorem dX10_init_43 : decode cX10_init 43 = .ok (.putfield 31, 3) := by decide +kernel
theorem dX10_init_46 : decode cX10_init 46 = .ok (.aload_n 0, 1) := by decide +kernel
theorem dX10_init_47 : decode cX10_init 47 = .ok (.new 35, 3) := by decide +kernel
theorem dX10_init_50 : decode cX10_init 50 = .ok (.dup, 1) := by decide +kernel
theorem dX10_init_51 : decode cX10_init 51 = .ok (.invokespecial 37, 3) := by decide +kernel
theorem dX10_init_54 : decode cX10_init 54 = .ok (.putfield 38, 3) := by decide +kernel
theorem dX10_init_57 : decode cX10_init 57 = .ok (.aload_n 0, 1) := by decide +kernel
theorem dX10_init_58 : decode cX10_init 58 = .ok (.iconst 3, 1) := by decide +kernel
theorem dX10_init_59 : decode cX10_init 59 = .ok (.anewarray 42, 3) := by decide +kernel
theorem dX10_init_62 : decode cX10_init 62 = .ok (.putfield 44, 3) := by decide +kernel
theorem dX10_init_65 : decode cX10_init 65 = .ok (.iconst 0, 1) := by decide +kernel
theorem dX10_init_66 : decode cX10_init 66 = .ok (.istore_n 2, 1) := by decide +kernel
theorem dX10_init_67 : decode cX10_init 67 = .ok (.iload_n 2, 1) := by decide +kernel
theorem dX10_init_68 : decode cX10_init 68 = .ok (.aload_n 0, 1) := by decide +kernel
theorem dX10_init_69 : decode cX10_init 69 = .ok (.getfield 44, 3) := by decide +kernel
theorem dX10_init_72 : decode cX10_init 72 = .ok (.arraylength, 1) := by decide +kernel
theorem dX10_init_73 : decode cX10_init 73 = .ok (.if_icmp .ge 23, 3) := by decide +kernel
theorem dX10_init_76 : decode cX10_init 76 = .ok (.aload_n 0, 1) := by decide +kernel
theorem dX10_init_77 : decode cX10_init 77 = .ok (.getfield 44, 3) := by decide +kernel
theorem dX10_init_80 : decode cX10_init 80 = .ok (.iload_n 2, 1) := by decide +kernel
theorem dX10_init_81 : decode cX10_init 81 = .ok (.new 42, 3) := by decide +kernel
theorem dX10_init_84 : decode cX10_init 84 = .ok (.dup, 1) := by decide +kernel
theorem dX10_init_85 : decode cX10_init 85 = .ok (.aload_n 1, 1) := by decide +kernel
theorem dX10_init_86 : decode cX10_init 86 = .ok (.invokespecial 48, 3) := by decide +kernel
theorem dX10_init_89 : decode cX10_init 89 = .ok (.aastore, 1) := by decide +kernel
theorem dX10_init_90 : decode cX10_init 90 = .ok (.iinc 2 1, 3) := by decide +kernel
theorem dX10_init_93 : decode cX10_init 93 = .ok (.goto (-26), 3) := by decide +kernel
theorem dX10_init_96 : decode cX10_init 96 = .ok (.aload_n 0, 1) := by decide +kernel
theorem dX10_init_97 : decode cX10_init 97 = .ok (.iconst 0, 1) := by decide +kernel
theorem dX10_init_98 : decode cX10_init 98 = .ok (.putfield 49, 3) := by decide +kernel
theorem dX10_init_101 : decode cX10_init 101 = .ok (.iconst 0, 1) := by decide +kernel
theorem dX10_init_102 : decode cX10_init 102 = .ok (.istore_n 2, 1) := by decide +kernel
theorem dX10_init_103 : decode cX10_init 103 = .ok (.iload_n 2, 1) := by decide +kernel
theorem dX10_init_104 : decode cX10_init 104 = .ok (.ldc 53, 2) := by decide +kernel
theorem dX10_init_106 : decode cX10_init 106 = .ok (.invokevirtual 55, 3) := by decide +kernel
theorem dX10_init_109 : decode cX10_init 109 = .ok (.if_icmp .ge 22, 3) := by decide +kernel
theorem dX10_init_112 : decode cX10_init 112 = .ok (.aload_n 0, 1) := by decide +kernel
theorem dX10_init_113 : decode cX10_init 113 = .ok (.getfield 15, 3) := by decide +kernel
theorem dX10_init_116 : decode cX10_init 116 = .ok (.ldc 53, 2) := by decide +kernel
theorem dX10_init_118 : decode cX10_init 118 = .ok (.iload_n 2, 1) := by decide +kernel
theorem dX10_init_119 : decode cX10_init 119 = .ok (.invokevirtual 61, 3) := by decide +kernel
theorem dX10_init_122 : decode cX10_init 122 = .ok (.invokevirtual 65, 3) := by decide +kernel
theorem dX10_init_125 : decode cX10_init 125 = .ok (.iinc 2 1, 3) := by decide +kernel
theorem dX10_init_128 : decode cX10_init 128 = .ok (.goto (-25), 3) := by decide +kernel
theorem dX10_init_131 : decode cX10_init 131 = .ok (.aload_n 0, 1) := by decide +kernel
theorem dX10_init_132 : decode cX10_init 132 = .ok (.invokevirtual 69, 3) := by decide +kernel
theorem dX10_init_135 : decode cX10_init 135 = .ok (.pop, 1) := by decide +kernel
theorem dX10_init_136 : decode cX10_init 136 = .ok (.aload_n 0, 1) := by decide +kernel
theorem dX10_init_137 : decode cX10_init 137 = .ok (.getfield 15, 3) := by decide +kernel
theorem dX10_init_140 : decode cX10_init 140 = .ok (.invokevirtual 73, 3) := by decide +kernel
theorem dX10_init_143 : decode cX10_init 143 = .ok (.return_, 1) := by decide +kernel
set_option maxRecDepth 20000 in
theorem ggX10_write_X9_isFull : GoodIn wsX10_write wsX9_isFull := goodIn_r _ [6, 7, 8, 23, 24] (by decide +kernel) (by decide +kernel)
set_option maxRecDepth 20000 in
theorem gX10_write_X9_isFull : GoodIn wsX10_write (wsV RX10 76 RX9 yX9_isFull wsX9_isFull) := goodIn_app (goodIn_of _ (by decide +kernel)) ggX10_write_X9_isFull
set_option maxRecDepth 20000 in
theorem ggX10_write_X9_append : GoodIn wsX10_write wsX9_append := goodIn_r _ [12, 7, 8, 23, 24] (by decide +kernel) (by decide +kernel)
set_option maxRecDepth 20000 in
theorem gX10_write_X9_append : GoodIn wsX10_write (wsV RX10 65 RX9 yX9_append wsX9_append) := goodIn_app (goodIn_of _ (by decide +kernel)) ggX10_write_X9_append
set_option maxRecDepth 20000 in
theorem ggX10_write_X9_size : GoodIn wsX10_write wsX9_size := goodIn_r _ [16, 7, 23, 24] (by decide +kernel) (by decide +kernel)
set_option maxRecDepth 20000 in
theorem gX10_write_X9_size : GoodIn wsX10_write (wsV RX10 79 RX9 yX9_size wsX9_size) := goodIn_app (goodIn_of _ (by decide +kernel)) ggX10_write_X9_size
theorem dX10_write_0 : decode cX10_write 0 = .ok (.iload_n 1, 1) := by decide +kernel
theorem dX10_write_1 : decode cX10_write 1 = .ok (.bipush 32, 2) := by decide +kernel
theorem dX10_write_3 : decode cX10_write 3 = .ok (.if_icmp .lt 9, 3) := by decide +kernel
theorem dX10_write_6 : decode cX10_write 6 = .ok (.iload_n 1, 1) := by decide +kernel
theorem dX10_write_7 : decode cX10_write 7 = .ok (.bipush 126, 2) := by decide +kernel
theorem dX10_write_9 : decode cX10_write 9 = .ok (.if_icmp .le 5, 3) := by decide +kernel
theorem dX10_write_12 : decode cX10_write 12 = .ok (.iconst (-1), 1) := by decide +kernel
theorem dX10_write_13 : decode cX10_write 13 = .ok (.ireturn, 1) := by decide +kernel
theorem dX10_write_14 : decode cX10_write 14 = .ok (.aload_n 0, 1) := by decide +kernel
theorem dX10_write_15 : decode cX10_write 15 = .ok (.getfield 15, 3) := by decide +kernel
theorem dX10_write_18 : decode cX10_write 18 = .ok (.invokevirtual 76, 3) := by decide +kernel
theorem dX10_write_21 : decode cX10_write 21 = .ok (.ifCond .eq 6, 3) := by decide +kernel
theorem dX10_write_24 : decode cX10_write 24 = .ok (.bipush (-3), 2) := by decide +kernel
theorem dX10_write_26 : decode cX10_write 26 = .ok (.ireturn, 1) := by decide +kernel
theorem dX10_write_27 : decode cX10_write 27 = .ok (.aload_n 0, 1) := by decide +kernel
theorem dX10_write_28 : decode cX10_write 28 = .ok (.getfield 15, 3) := by decide +kernel
theorem dX10_write_31 : decode cX10_write 31 = .ok (.iload_n 1, 1) := by decide +kernel
theorem dX10_write_32 : decode cX10_write 32 = .ok (.i2c, 1) := by decide +kernel
theorem dX10_write_33 : decode cX10_write 33 = .ok (.invokevirtual 65, 3) := by decide +kernel
theorem dX10_write_36 : decode cX10_write 36 = .ok (.aload_n 0, 1) := by decide +kernel
theorem dX10_write_37 : decode cX10_write 37 = .ok (.getfield 15, 3) := by decide +kernel
theorem dX10_write_40 : decode cX10_write 40 = .ok (.invokevirtual 79, 3) := by decide +kernel
theorem dX10_write_43 : decode cX10_write 43 = .ok (.ireturn, 1) := by decide +kernel
set_option maxRecDepth 20000 in
theorem ggX10_wipe_X9_size : GoodIn wsX10_wipe wsX9_size := goodIn_r _ [6, 7, 18, 19] (by decide +kernel) (by decide +kernel)
set_option maxRecDepth 20000 in
theorem gX10_wipe_X9_size : GoodIn wsX10_wipe (wsV RX10 79 RX9 yX9_size wsX9_size) := goodIn_app (goodIn_of _ (by decide +kernel)) ggX10_wipe_X9_size
set_option maxRecDepth 20000 in
theorem ggX10_wipe_X9_clear : GoodIn wsX10_wipe wsX9_clear := goodIn_r _ [11, 7, 18, 19] (by decide +kernel) (by decide +kernel)
set_option maxRecDepth 20000 in
theorem gX10_wipe_X9_clear : GoodIn wsX10_wipe (wsV RX10 73 RX9 yX9_clear wsX9_clear) := goodIn_app (goodIn_of _ (by decide +kernel)) ggX10_wipe_X9_clear
theorem dX10_wipe_0 : decode cX10_wipe 0 = .ok (.aload_n 0, 1) := by decide +kernel
theorem dX10_wipe_1 : decode cX10_wipe 1 = .ok (.getfield 15, 3) := by decide +kernel
theorem dX10_wipe_4 : decode cX10_wipe 4 = .ok (.invokevirtual 79, 3) := by decide +kernel
theorem dX10_wipe_7 : decode cX10_wipe 7 = .ok (.istore_n 1, 1) := by decide +kernel
theorem dX10_wipe_8 : decode cX10_wipe 8 = .ok (.aload_n 0, 1) := by decide +kernel
theorem dX10_wipe_9 : decode cX10_wipe 9 = .ok (.getfield 15, 3) := by decide +kernel
theorem dX10_wipe_12 : decode cX10_wipe 12 = .ok (.invokevirtual 73, 3) := by decide +kernel
theorem dX10_wipe_15 : decode cX10_wipe 15 = .ok (.iload_n 1, 1) := by decide +kernel
theorem dX10_wipe_16 : decode cX10_wipe 16 = .ok (.ireturn, 1) := by decide +kernel
set_option maxRecDepth 20000 in
theorem ggX10_fault_X5_faultOf : GoodIn wsX10_fault wsX5_faultOf := goodIn_r _ [7, 8, 9, 10, 11, 12, 13, 14, 15, 16, 17, 18, 6, 19, 20, 21, 22, 23, 24, 25, 26, 27, 28, 29, 30, 31, 32, 33, 34, 35, 36, 37, 38, 39, 40, 41, 42, 43, 44, 45, 46, 47, 48, 49, 50, 51, 52, 53, 54, 55, 56, 57, 58, 59, 60, 61, 62, 63, 64, 65, 66, 67, 68, 69, 70, 77, 78, 79, 80, 81, 82, 83, 84, 85, 86, 87, 88, 89] (by decide +kernel) (by decide +kernel)
set_option maxRecDepth 20000 in
theorem gX10_fault_X5_faultOf : GoodIn wsX10_fault (wsV RX10 82 RX5 yX5_faultOf wsX5_faultOf) := goodIn_app (goodIn_of _ (by decide +kernel)) ggX10_fault_X5_faultOf
theorem dX10_fault_0 : decode cX10_fault 0 = .ok (.aload_n 0, 1) := by decide +kernel
theorem dX10_fault_1 : decode cX10_fault 1 = .ok (.getfield 24, 3) := by decide +kernel
theorem dX10_fault_4 : decode cX10_fault 4 = .ok (.aload_n 0, 1) := by decide +kernel
theorem dX10_fault_5 : decode cX10_fault 5 = .ok (.getfield 15, 3) := by decide +kernel
theorem dX10_fault_8 : decode cX10_fault 8 = .ok (.invokevirtual 82, 3) := by decide +kernel
theorem dX10_fault_11 : decode cX10_fault 11 = .ok (.istore_n 1, 1) := by decide +kernel
theorem dX10_fault_12 : decode cX10_fault 12 = .ok (.iload_n 1, 1) := by decide +kernel
theorem dX10_fault_13 : decode cX10_fault 13 = .ok (.ifCond .ge 8, 3) := by decide +kernel
theorem dX10_fault_16 : decode cX10_fault 16 = .ok (.bipush (-4), 2) := by decide +kernel
theorem dX10_fault_18 : decode cX10_fault 18 = .ok (.goto 4, 3) := by decide +kernel
theorem dX10_fault_21 : decode cX10_fault 21 = .ok (.iload_n 1, 1) := by decide +kernel
theorem dX10_fault_22 : decode cX10_fault 22 = .ok (.ireturn, 1) := by decide +kernel
set_option maxRecDepth 20000 in
theorem ggX10_lay_X10_takeText : GoodIn wsX10_lay wsX10_takeText := goodIn_r _ [6, 7, 8, 1, 9, 10, 11, 12, 13, 14, 15, 16, 17, 18, 19, 20, 21, 22, 23, 24, 25, 26, 27, 28, 29, 30, 31, 32, 33, 34, 35, 36, 37, 38, 39, 40, 41, 42, 43, 44, 45, 46, 47, 48, 49, 50, 51, 52, 53, 54, 55, 56, 57, 58, 59, 60, 61, 62, 63, 64, 65, 66, 67, 68, 69, 70, 71, 72, 73, 74, 75, 76, 77, 78, 79, 80, 81, 82, 83, 84, 85, 86, 87, 88, 89, 90, 91, 92, 93, 5, 94, 95, 96, 97, 98, 99, 100, 101, 102, 103, 104, 105, 106, 107, 108, 109, 110, 111, 112, 113, 114, 115, 116, 117, 118, 119, 120, 121, 122, 123, 124, 125, 126, 127, 128, 129, 130, 131, 132, 133, 134, 135, 136, 137, 138, 139, 140, 141, 142, 143, 144, 145, 146, 147, 148] (by decide +kernel) (by decide +kernel)
set_option maxRecDepth 20000 in
theorem gX10_lay_X10_takeText : GoodIn wsX10_lay (wsV RX10 69 RX10 yX10_takeText wsX10_takeText) := goodIn_app (goodIn_of _ (by decide +kernel)) ggX10_lay_X10_takeText
theorem dX10_lay_0 : decode cX10_lay 0 = .ok (.aload_n 0, 1) := by decide +kernel
theorem dX10_lay_1 : decode cX10_lay 1 = .ok (.invokevirtual 69, 3) := by decide +kernel
theorem dX10_lay_4 : decode cX10_lay 4 = .ok (.ifCond .eq 10, 3) := by decide +kernel
theorem dX10_lay_7 : decode cX10_lay 7 = .ok (.aload_n 0, 1) := by decide +kernel
theorem dX10_lay_8 : decode cX10_lay 8 = .ok (.getfield 49, 3) := by decide +kernel
theorem dX10_lay_11 : decode cX10_lay 11 = .ok (.goto 5, 3) := by decide +kernel
theorem dX10_lay_14 : decode cX10_lay 14 = .ok (.bipush (-2), 2) := by decide +kernel
theorem dX10_lay_16 : decode cX10_lay 16 = .ok (.ireturn, 1) := by decide +kernel
set_option maxRecDepth 20000 in
theorem ggX10_set_X10_find : GoodIn wsX10_set wsX10_find := goodIn_r _ [7, 8, 9, 60, 61, 62, 63, 64, 65] (by decide +kernel) (by decide +kernel)
set_option maxRecDepth 20000 in
theorem gX10_set_X10_find : GoodIn wsX10_set (wsV RX10 86 RX10 yX10_find wsX10_find) := goodIn_app (goodIn_of _ (by decide +kernel)) ggX10_set_X10_find
set_option maxRecDepth 20000 in
theorem ggX10_set_X0_has : GoodIn wsX10_set wsX0_has := goodIn_r _ [14, 15, 66, 67, 68, 69, 70, 71, 72] (by decide +kernel) (by decide +kernel)
set_option maxRecDepth 20000 in
theorem gX10_set_X0_has : GoodIn wsX10_set (wsV RX10 94 RX0 yX0_has wsX0_has) := goodIn_app (goodIn_of _ (by decide +kernel)) ggX10_set_X0_has
set_option maxRecDepth 20000 in
theorem ggX10_set_X0_totalOf : GoodIn wsX10_set wsX0_totalOf := goodIn_r _ [19, 15, 20, 66, 67, 68, 69, 70, 71, 72] (by decide +kernel) (by decide +kernel)
set_option maxRecDepth 20000 in
theorem gX10_set_X0_totalOf : GoodIn wsX10_set (wsV RX10 100 RX0 yX0_totalOf wsX0_totalOf) := goodIn_app (goodIn_of _ (by decide +kernel)) ggX10_set_X0_totalOf
set_option maxRecDepth 20000 in
theorem ggX10_set_X0_aboveOf : GoodIn wsX10_set wsX0_aboveOf := goodIn_r _ [24, 15, 25, 66, 67, 68, 69, 70, 71, 72] (by decide +kernel) (by decide +kernel)
set_option maxRecDepth 20000 in
theorem gX10_set_X0_aboveOf : GoodIn wsX10_set (wsV RX10 104 RX0 yX0_aboveOf wsX0_aboveOf) := goodIn_app (goodIn_of _ (by decide +kernel)) ggX10_set_X0_aboveOf
set_option maxRecDepth 20000 in
theorem ggX10_set_X0_scoreOf : GoodIn wsX10_set wsX0_scoreOf := goodIn_r _ [29, 15, 30, 66, 67, 68, 69, 70, 71, 72] (by decide +kernel) (by decide +kernel)
set_option maxRecDepth 20000 in
theorem gX10_set_X0_scoreOf : GoodIn wsX10_set (wsV RX10 107 RX0 yX0_scoreOf wsX0_scoreOf) := goodIn_app (goodIn_of _ (by decide +kernel)) ggX10_set_X0_scoreOf
set_option maxRecDepth 20000 in
theorem ggX10_set_X3_keep : GoodIn wsX10_set wsX3_keep := goodIn_r _ [35, 36, 37, 38, 39, 40, 41, 42, 43, 44, 22, 23, 13, 24, 15, 25, 45, 27, 28, 29, 30, 73, 74, 75, 76, 66, 67, 68, 69, 70, 71, 72] (by decide +kernel) (by decide +kernel)
set_option maxRecDepth 20000 in
theorem gX10_set_X3_keep : GoodIn wsX10_set (wsV RX10 110 RX3 yX3_keep wsX3_keep) := goodIn_app (goodIn_of _ (by decide +kernel)) ggX10_set_X3_keep
set_option maxRecDepth 20000 in
theorem ggX10_set_X0_tellAbove : GoodIn wsX10_set wsX0_tellAbove := goodIn_r _ [49, 25, 50, 51, 11, 12, 13, 14, 15, 66, 67, 68, 69, 70, 71, 72] (by decide +kernel) (by decide +kernel)
set_option maxRecDepth 20000 in
theorem gX10_set_X0_tellAbove : GoodIn wsX10_set (wsV RX10 114 RX0 yX0_tellAbove wsX0_tellAbove) := goodIn_app (goodIn_of _ (by decide +kernel)) ggX10_set_X0_tellAbove
set_option maxRecDepth 20000 in
theorem ggX10_set_X0_tellScore : GoodIn wsX10_set wsX0_tellScore := goodIn_r _ [55, 30, 50, 51, 11, 12, 13, 14, 15, 66, 67, 68, 69, 70, 71, 72] (by decide +kernel) (by decide +kernel)
set_option maxRecDepth 20000 in
theorem gX10_set_X0_tellScore : GoodIn wsX10_set (wsV RX10 118 RX0 yX0_tellScore wsX0_tellScore) := goodIn_app (goodIn_of _ (by decide +kernel)) ggX10_set_X0_tellScore
theorem dX10_set_0 : decode cX10_set 0 = .ok (.aload_n 0, 1) := by decide +kernel
theorem dX10_set_1 : decode cX10_set 1 = .ok (.iload_n 1, 1) := by decide +kernel
theorem dX10_set_2 : decode cX10_set 2 = .ok (.invokevirtual 86, 3) := by decide +kernel
theorem dX10_set_5 : decode cX10_set 5 = .ok (.astore 5, 2) := by decide +kernel
theorem dX10_set_7 : decode cX10_set 7 = .ok (.aload 5, 2) := by decide +kernel
theorem dX10_set_9 : decode cX10_set 9 = .ok (.ifnull 24, 3) := by decide +kernel
theorem dX10_set_12 : decode cX10_set 12 = .ok (.aload 5, 2) := by decide +kernel
theorem dX10_set_14 : decode cX10_set 14 = .ok (.getfield 90, 3) := by decide +kernel
theorem dX10_set_17 : decode cX10_set 17 = .ok (.iload_n 2, 1) := by decide +kernel
theorem dX10_set_18 : decode cX10_set 18 = .ok (.invokevirtual 94, 3) := by decide +kernel
theorem dX10_set_21 : decode cX10_set 21 = .ok (.ifCond .eq 12, 3) := by decide +kernel
theorem dX10_set_24 : decode cX10_set 24 = .ok (.iload_n 3, 1) := by decide +kernel
theorem dX10_set_25 : decode cX10_set 25 = .ok (.ifCond .lt 8, 3) := by decide +kernel
theorem dX10_set_28 : decode cX10_set 28 = .ok (.iload_n 3, 1) := by decide +kernel
theorem dX10_set_29 : decode cX10_set 29 = .ok (.iconst 1, 1) := by decide +kernel
theorem dX10_set_30 : decode cX10_set 30 = .ok (.if_icmp .le 5, 3) := by decide +kernel
theorem dX10_set_33 : decode cX10_set 33 = .ok (.iconst (-1), 1) := by decide +kernel
theorem dX10_set_34 : decode cX10_set 34 = .ok (.ireturn, 1) := by decide +kernel
theorem dX10_set_35 : decode cX10_set 35 = .ok (.aload 5, 2) := by decide +kernel
theorem dX10_set_37 : decode cX10_set 37 = .ok (.getfield 90, 3) := by decide +kernel
theorem dX10_set_40 : decode cX10_set 40 = .ok (.astore 6, 2) := by decide +kernel
theorem dX10_set_42 : decode cX10_set 42 = .ok (.iload_n 3, 1) := by decide +kernel
theorem dX10_set_43 : decode cX10_set 43 = .ok (.ifCond .ne 12, 3) := by decide +kernel
theorem dX10_set_46 : decode cX10_set 46 = .ok (.aload 6, 2) := by decide +kernel
theorem dX10_set_48 : decode cX10_set 48 = .ok (.iload_n 2, 1) := by decide +kernel
theorem dX10_set_49 : decode cX10_set 49 = .ok (.invokevirtual 100, 3) := by decide +kernel
theorem dX10_set_52 : decode cX10_set 52 = .ok (.goto 5, 3) := by decide +kernel
theorem dX10_set_55 : decode cX10_set 55 = .ok (.bipush 9, 2) := by decide +kernel
theorem dX10_set_57 : decode cX10_set 57 = .ok (.istore 7, 2) := by decide +kernel
theorem dX10_set_59 : decode cX10_set 59 = .ok (.iload 4, 2) := by decide +kernel
theorem dX10_set_61 : decode cX10_set 61 = .ok (.ifCond .lt 10, 3) := by decide +kernel
theorem dX10_set_64 : decode cX10_set 64 = .ok (.iload 4, 2) := by decide +kernel
theorem dX10_set_66 : decode cX10_set 66 = .ok (.iload 7, 2) := by decide +kernel
theorem dX10_set_68 : decode cX10_set 68 = .ok (.if_icmp .le 5, 3) := by decide +kernel
theorem dX10_set_71 : decode cX10_set 71 = .ok (.iconst (-1), 1) := by decide +kernel
theorem dX10_set_72 : decode cX10_set 72 = .ok (.ireturn, 1) := by decide +kernel
theorem dX10_set_73 : decode cX10_set 73 = .ok (.iload_n 3, 1) := by decide +kernel
theorem dX10_set_74 : decode cX10_set 74 = .ok (.ifCond .ne 12, 3) := by decide +kernel
theorem dX10_set_77 : decode cX10_set 77 = .ok (.aload 6, 2) := by decide +kernel
theorem dX10_set_79 : decode cX10_set 79 = .ok (.iload_n 2, 1) := by decide +kernel
theorem dX10_set_80 : decode cX10_set 80 = .ok (.invokevirtual 104, 3) := by decide +kernel
theorem dX10_set_83 : decode cX10_set 83 = .ok (.goto 9, 3) := by decide +kernel
theorem dX10_set_86 : decode cX10_set 86 = .ok (.aload 6, 2) := by decide +kernel
theorem dX10_set_88 : decode cX10_set 88 = .ok (.iload_n 2, 1) := by decide +kernel
theorem dX10_set_89 : decode cX10_set 89 = .ok (.invokevirtual 107, 3) := by decide +kernel
theorem dX10_set_92 : decode cX10_set 92 = .ok (.istore 8, 2) := by decide +kernel
theorem dX10_set_94 : decode cX10_set 94 = .ok (.iload 8, 2) := by decide +kernel
theorem dX10_set_96 : decode cX10_set 96 = .ok (.iload 4, 2) := by decide +kernel
theorem dX10_set_98 : decode cX10_set 98 = .ok (.if_icmp .ne 6, 3) := by decide +kernel
theorem dX10_set_101 : decode cX10_set 101 = .ok (.bipush (-2), 2) := by decide +kernel
theorem dX10_set_103 : decode cX10_set 103 = .ok (.ireturn, 1) := by decide +kernel
theorem dX10_set_104 : decode cX10_set 104 = .ok (.aload_n 0, 1) := by decide +kernel
theorem dX10_set_105 : decode cX10_set 105 = .ok (.getfield 31, 3) := by decide +kernel
theorem dX10_set_108 : decode cX10_set 108 = .ok (.iload_n 1, 1) := by decide +kernel
theorem dX10_set_109 : decode cX10_set 109 = .ok (.aload 6, 2) := by decide +kernel
theorem dX10_set_111 : decode cX10_set 111 = .ok (.invokevirtual 110, 3) := by decide +kernel
theorem dX10_set_114 : decode cX10_set 114 = .ok (.iload_n 3, 1) := by decide +kernel
theorem dX10_set_115 : decode cX10_set 115 = .ok (.ifCond .ne 14, 3) := by decide +kernel
theorem dX10_set_118 : decode cX10_set 118 = .ok (.aload 6, 2) := by decide +kernel
theorem dX10_set_120 : decode cX10_set 120 = .ok (.iload_n 2, 1) := by decide +kernel
theorem dX10_set_121 : decode cX10_set 121 = .ok (.iload 4, 2) := by decide +kernel
theorem dX10_set_123 : decode cX10_set 123 = .ok (.invokevirtual 114, 3) := by decide +kernel
theorem dX10_set_126 : decode cX10_set 126 = .ok (.goto 11, 3) := by decide +kernel
theorem dX10_set_129 : decode cX10_set 129 = .ok (.aload 6, 2) := by decide +kernel
theorem dX10_set_131 : decode cX10_set 131 = .ok (.iload_n 2, 1) := by decide +kernel
theorem dX10_set_132 : decode cX10_set 132 = .ok (.iload 4, 2) := by decide +kernel
theorem dX10_set_134 : decode cX10_set 134 = .ok (.invokevirtual 118, 3) := by decide +kernel
theorem dX10_set_137 : decode cX10_set 137 = .ok (.iload 8, 2) := by decide +kernel
theorem dX10_set_139 : decode cX10_set 139 = .ok (.ireturn, 1) := by decide +kernel
set_option maxRecDepth 20000 in
theorem ggX10_move_X10_find : GoodIn wsX10_move wsX10_find := goodIn_r _ [7, 8, 9, 55, 56, 57, 58, 59, 60] (by decide +kernel) (by decide +kernel)
set_option maxRecDepth 20000 in
theorem gX10_move_X10_find : GoodIn wsX10_move (wsV RX10 86 RX10 yX10_find wsX10_find) := goodIn_app (goodIn_of _ (by decide +kernel)) ggX10_move_X10_find
set_option maxRecDepth 20000 in
theorem ggX10_move_X0_has : GoodIn wsX10_move wsX0_has := goodIn_r _ [14, 15, 61, 62, 63, 64, 65, 66, 67] (by decide +kernel) (by decide +kernel)
set_option maxRecDepth 20000 in
theorem gX10_move_X0_has : GoodIn wsX10_move (wsV RX10 94 RX0 yX0_has wsX0_has) := goodIn_app (goodIn_of _ (by decide +kernel)) ggX10_move_X0_has
set_option maxRecDepth 20000 in
theorem ggX10_move_X0_aboveOf : GoodIn wsX10_move wsX0_aboveOf := goodIn_r _ [19, 15, 20, 61, 62, 63, 64, 65, 66, 67] (by decide +kernel) (by decide +kernel)
set_option maxRecDepth 20000 in
theorem gX10_move_X0_aboveOf : GoodIn wsX10_move (wsV RX10 104 RX0 yX0_aboveOf wsX0_aboveOf) := goodIn_app (goodIn_of _ (by decide +kernel)) ggX10_move_X0_aboveOf
set_option maxRecDepth 20000 in
theorem ggX10_move_X0_totalOf : GoodIn wsX10_move wsX0_totalOf := goodIn_r _ [24, 15, 25, 61, 62, 63, 64, 65, 66, 67] (by decide +kernel) (by decide +kernel)
set_option maxRecDepth 20000 in
theorem gX10_move_X0_totalOf : GoodIn wsX10_move (wsV RX10 100 RX0 yX0_totalOf wsX0_totalOf) := goodIn_app (goodIn_of _ (by decide +kernel)) ggX10_move_X0_totalOf
set_option maxRecDepth 20000 in
theorem ggX10_move_X3_keep : GoodIn wsX10_move wsX3_keep := goodIn_r _ [30, 31, 32, 33, 34, 35, 36, 37, 38, 39, 17, 18, 13, 19, 15, 20, 40, 41, 42, 43, 44, 68, 69, 70, 71, 61, 62, 63, 64, 65, 66, 67] (by decide +kernel) (by decide +kernel)
set_option maxRecDepth 20000 in
theorem gX10_move_X3_keep : GoodIn wsX10_move (wsV RX10 110 RX3 yX3_keep wsX3_keep) := goodIn_app (goodIn_of _ (by decide +kernel)) ggX10_move_X3_keep
set_option maxRecDepth 20000 in
theorem ggX10_move_X0_tellAbove : GoodIn wsX10_move wsX0_tellAbove := goodIn_r _ [48, 20, 49, 50, 11, 12, 13, 14, 15, 61, 62, 63, 64, 65, 66, 67] (by decide +kernel) (by decide +kernel)
set_option maxRecDepth 20000 in
theorem gX10_move_X0_tellAbove : GoodIn wsX10_move (wsV RX10 114 RX0 yX0_tellAbove wsX0_tellAbove) := goodIn_app (goodIn_of _ (by decide +kernel)) ggX10_move_X0_tellAbove
theorem dX10_move_0 : decode cX10_move 0 = .ok (.aload_n 0, 1) := by decide +kernel
theorem dX10_move_1 : decode cX10_move 1 = .ok (.iload_n 1, 1) := by decide +kernel
theorem dX10_move_2 : decode cX10_move 2 = .ok (.invokevirtual 86, 3) := by decide +kernel
theorem dX10_move_5 : decode cX10_move 5 = .ok (.astore 4, 2) := by decide +kernel
theorem dX10_move_7 : decode cX10_move 7 = .ok (.aload 4, 2) := by decide +kernel
theorem dX10_move_9 : decode cX10_move 9 = .ok (.ifnull 8, 3) := by decide +kernel
theorem dX10_move_12 : decode cX10_move 12 = .ok (.iload_n 2, 1) := by decide +kernel
theorem dX10_move_13 : decode cX10_move 13 = .ok (.iload_n 3, 1) := by decide +kernel
theorem dX10_move_14 : decode cX10_move 14 = .ok (.if_icmp .ne 5, 3) := by decide +kernel
theorem dX10_move_17 : decode cX10_move 17 = .ok (.iconst (-1), 1) := by decide +kernel
theorem dX10_move_18 : decode cX10_move 18 = .ok (.ireturn, 1) := by decide +kernel
theorem dX10_move_19 : decode cX10_move 19 = .ok (.aload 4, 2) := by decide +kernel
theorem dX10_move_21 : decode cX10_move 21 = .ok (.getfield 90, 3) := by decide +kernel
theorem dX10_move_24 : decode cX10_move 24 = .ok (.astore 5, 2) := by decide +kernel
theorem dX10_move_26 : decode cX10_move 26 = .ok (.aload 5, 2) := by decide +kernel
theorem dX10_move_28 : decode cX10_move 28 = .ok (.iload_n 2, 1) := by decide +kernel
theorem dX10_move_29 : decode cX10_move 29 = .ok (.invokevirtual 94, 3) := by decide +kernel
theorem dX10_move_32 : decode cX10_move 32 = .ok (.ifCond .eq 12, 3) := by decide +kernel
theorem dX10_move_35 : decode cX10_move 35 = .ok (.aload 5, 2) := by decide +kernel
theorem dX10_move_37 : decode cX10_move 37 = .ok (.iload_n 3, 1) := by decide +kernel
theorem dX10_move_38 : decode cX10_move 38 = .ok (.invokevirtual 94, 3) := by decide +kernel
theorem dX10_move_41 : decode cX10_move 41 = .ok (.ifCond .ne 5, 3) := by decide +kernel
theorem dX10_move_44 : decode cX10_move 44 = .ok (.iconst (-1), 1) := by decide +kernel
theorem dX10_move_45 : decode cX10_move 45 = .ok (.ireturn, 1) := by decide +kernel
theorem dX10_move_46 : decode cX10_move 46 = .ok (.aload 5, 2) := by decide +kernel
theorem dX10_move_48 : decode cX10_move 48 = .ok (.iload_n 2, 1) := by decide +kernel
theorem dX10_move_49 : decode cX10_move 49 = .ok (.invokevirtual 104, 3) := by decide +kernel
theorem dX10_move_52 : decode cX10_move 52 = .ok (.ifCond .eq 18, 3) := by decide +kernel
theorem dX10_move_55 : decode cX10_move 55 = .ok (.aload 5, 2) := by decide +kernel
theorem dX10_move_57 : decode cX10_move 57 = .ok (.iload_n 3, 1) := by decide +kernel
theorem dX10_move_58 : decode cX10_move 58 = .ok (.invokevirtual 104, 3) := by decide +kernel
theorem dX10_move_61 : decode cX10_move 61 = .ok (.aload 5, 2) := by decide +kernel
theorem dX10_move_63 : decode cX10_move 63 = .ok (.iload_n 3, 1) := by decide +kernel
theorem dX10_move_64 : decode cX10_move 64 = .ok (.invokevirtual 100, 3) := by decide +kernel
theorem dX10_move_67 : decode cX10_move 67 = .ok (.if_icmp .ne 6, 3) := by decide +kernel
theorem dX10_move_70 : decode cX10_move 70 = .ok (.bipush (-2), 2) := by decide +kernel
theorem dX10_move_72 : decode cX10_move 72 = .ok (.ireturn, 1) := by decide +kernel
theorem dX10_move_73 : decode cX10_move 73 = .ok (.aload_n 0, 1) := by decide +kernel
theorem dX10_move_74 : decode cX10_move 74 = .ok (.getfield 31, 3) := by decide +kernel
theorem dX10_move_77 : decode cX10_move 77 = .ok (.iload_n 1, 1) := by decide +kernel
theorem dX10_move_78 : decode cX10_move 78 = .ok (.aload 5, 2) := by decide +kernel
theorem dX10_move_80 : decode cX10_move 80 = .ok (.invokevirtual 110, 3) := by decide +kernel
theorem dX10_move_83 : decode cX10_move 83 = .ok (.aload 5, 2) := by decide +kernel
theorem dX10_move_85 : decode cX10_move 85 = .ok (.iload_n 2, 1) := by decide +kernel
theorem dX10_move_86 : decode cX10_move 86 = .ok (.aload 5, 2) := by decide +kernel
theorem dX10_move_88 : decode cX10_move 88 = .ok (.iload_n 2, 1) := by decide +kernel
theorem dX10_move_89 : decode cX10_move 89 = .ok (.invokevirtual 104, 3) := by decide +kernel
theorem dX10_move_92 : decode cX10_move 92 = .ok (.iconst 1, 1) := by decide +kernel
theorem dX10_move_93 : decode cX10_move 93 = .ok (.isub, 1) := by decide +kernel
theorem dX10_move_94 : decode cX10_move 94 = .ok (.invokevirtual 114, 3) := by decide +kernel
theorem dX10_move_97 : decode cX10_move 97 = .ok (.aload 5, 2) := by decide +kernel
theorem dX10_move_99 : decode cX10_move 99 = .ok (.iload_n 3, 1) := by decide +kernel
theorem dX10_move_100 : decode cX10_move 100 = .ok (.aload 5, 2) := by decide +kernel
theorem dX10_move_102 : decode cX10_move 102 = .ok (.iload_n 3, 1) := by decide +kernel
theorem dX10_move_103 : decode cX10_move 103 = .ok (.invokevirtual 104, 3) := by decide +kernel
theorem dX10_move_106 : decode cX10_move 106 = .ok (.iconst 1, 1) := by decide +kernel
theorem dX10_move_107 : decode cX10_move 107 = .ok (.iadd, 1) := by decide +kernel
theorem dX10_move_108 : decode cX10_move 108 = .ok (.invokevirtual 114, 3) := by decide +kernel
theorem dX10_move_111 : decode cX10_move 111 = .ok (.aload 5, 2) := by decide +kernel
theorem dX10_move_113 : decode cX10_move 113 = .ok (.iload_n 3, 1) := by decide +kernel
theorem dX10_move_114 : decode cX10_move 114 = .ok (.invokevirtual 104, 3) := by decide +kernel
theorem dX10_move_117 : decode cX10_move 117 = .ok (.ireturn, 1) := by decide +kernel
set_option maxRecDepth 20000 in
theorem ggX10_turn_X10_find : GoodIn wsX10_turn wsX10_find := goodIn_r _ [7, 8, 9, 63, 64, 65, 66, 67, 68] (by decide +kernel) (by decide +kernel)
set_option maxRecDepth 20000 in
theorem gX10_turn_X10_find : GoodIn wsX10_turn (wsV RX10 86 RX10 yX10_find wsX10_find) := goodIn_app (goodIn_of _ (by decide +kernel)) ggX10_turn_X10_find
set_option maxRecDepth 20000 in
theorem ggX10_turn_X3_keep : GoodIn wsX10_turn wsX3_keep := goodIn_r _ [14, 15, 16, 17, 18, 19, 20, 21, 22, 23, 24, 25, 26, 27, 28, 29, 30, 31, 32, 33, 34, 69, 70, 71, 72, 73, 74, 75, 76, 77, 78, 79] (by decide +kernel) (by decide +kernel)
set_option maxRecDepth 20000 in
theorem gX10_turn_X3_keep : GoodIn wsX10_turn (wsV RX10 110 RX3 yX3_keep wsX3_keep) := goodIn_app (goodIn_of _ (by decide +kernel)) ggX10_turn_X3_keep
set_option maxRecDepth 20000 in
theorem ggX10_turn_X0_size : GoodIn wsX10_turn wsX0_size := goodIn_r _ [38, 28, 73, 74, 75, 76, 77, 78, 79] (by decide +kernel) (by decide +kernel)
set_option maxRecDepth 20000 in
theorem gX10_turn_X0_size : GoodIn wsX10_turn (wsV RX10 121 RX0 yX0_size wsX0_size) := goodIn_app (goodIn_of _ (by decide +kernel)) ggX10_turn_X0_size
set_option maxRecDepth 20000 in
theorem ggX10_turn_X0_totalOf : GoodIn wsX10_turn wsX0_totalOf := goodIn_r _ [42, 28, 43, 73, 74, 75, 76, 77, 78, 79] (by decide +kernel) (by decide +kernel)
set_option maxRecDepth 20000 in
theorem gX10_turn_X0_totalOf : GoodIn wsX10_turn (wsV RX10 100 RX0 yX0_totalOf wsX0_totalOf) := goodIn_app (goodIn_of _ (by decide +kernel)) ggX10_turn_X0_totalOf
set_option maxRecDepth 20000 in
theorem ggX10_turn_X0_aboveOf : GoodIn wsX10_turn wsX0_aboveOf := goodIn_r _ [27, 28, 29, 73, 74, 75, 76, 77, 78, 79] (by decide +kernel) (by decide +kernel)
set_option maxRecDepth 20000 in
theorem gX10_turn_X0_aboveOf : GoodIn wsX10_turn (wsV RX10 104 RX0 yX0_aboveOf wsX0_aboveOf) := goodIn_app (goodIn_of _ (by decide +kernel)) ggX10_turn_X0_aboveOf
set_option maxRecDepth 20000 in
theorem ggX10_turn_X0_tellAbove : GoodIn wsX10_turn wsX0_tellAbove := goodIn_r _ [48, 29, 49, 50, 51, 52, 26, 53, 28, 73, 74, 75, 76, 77, 78, 79] (by decide +kernel) (by decide +kernel)
set_option maxRecDepth 20000 in
theorem gX10_turn_X0_tellAbove : GoodIn wsX10_turn (wsV RX10 114 RX0 yX0_tellAbove wsX0_tellAbove) := goodIn_app (goodIn_of _ (by decide +kernel)) ggX10_turn_X0_tellAbove
set_option maxRecDepth 20000 in
theorem ggX10_turn_X0_allAbove : GoodIn wsX10_turn wsX0_allAbove := goodIn_r _ [57, 28, 58, 24, 25, 26, 27, 29, 73, 74, 75, 76, 77, 78, 79] (by decide +kernel) (by decide +kernel)
set_option maxRecDepth 20000 in
theorem gX10_turn_X0_allAbove : GoodIn wsX10_turn (wsV RX10 122 RX0 yX0_allAbove wsX0_allAbove) := goodIn_app (goodIn_of _ (by decide +kernel)) ggX10_turn_X0_allAbove
theorem dX10_turn_0 : decode cX10_turn 0 = .ok (.aload_n 0, 1) := by decide +kernel
theorem dX10_turn_1 : decode cX10_turn 1 = .ok (.iload_n 1, 1) := by decide +kernel
theorem dX10_turn_2 : decode cX10_turn 2 = .ok (.invokevirtual 86, 3) := by decide +kernel
theorem dX10_turn_5 : decode cX10_turn 5 = .ok (.astore_n 2, 1) := by decide +kernel
theorem dX10_turn_6 : decode cX10_turn 6 = .ok (.aload_n 2, 1) := by decide +kernel
theorem dX10_turn_7 : decode cX10_turn 7 = .ok (.ifnonnull 5, 3) := by decide +kernel
theorem dX10_turn_10 : decode cX10_turn 10 = .ok (.iconst (-1), 1) := by decide +kernel
theorem dX10_turn_11 : decode cX10_turn 11 = .ok (.ireturn, 1) := by decide +kernel
theorem dX10_turn_12 : decode cX10_turn 12 = .ok (.aload_n 2, 1) := by decide +kernel
theorem dX10_turn_13 : decode cX10_turn 13 = .ok (.getfield 90, 3) := by decide +kernel
theorem dX10_turn_16 : decode cX10_turn 16 = .ok (.astore_n 3, 1) := by decide +kernel
theorem dX10_turn_17 : decode cX10_turn 17 = .ok (.aload_n 0, 1) := by decide +kernel
theorem dX10_turn_18 : decode cX10_turn 18 = .ok (.getfield 31, 3) := by decide +kernel
theorem dX10_turn_21 : decode cX10_turn 21 = .ok (.iload_n 1, 1) := by decide +kernel
theorem dX10_turn_22 : decode cX10_turn 22 = .ok (.aload_n 3, 1) := by decide +kernel
theorem dX10_turn_23 : decode cX10_turn 23 = .ok (.invokevirtual 110, 3) := by decide +kernel
theorem dX10_turn_26 : decode cX10_turn 26 = .ok (.iconst 0, 1) := by decide +kernel
theorem dX10_turn_27 : decode cX10_turn 27 = .ok (.istore 4, 2) := by decide +kernel
theorem dX10_turn_29 : decode cX10_turn 29 = .ok (.iload 4, 2) := by decide +kernel
theorem dX10_turn_31 : decode cX10_turn 31 = .ok (.aload_n 3, 1) := by decide +kernel
theorem dX10_turn_32 : decode cX10_turn 32 = .ok (.invokevirtual 121, 3) := by decide +kernel
theorem dX10_turn_35 : decode cX10_turn 35 = .ok (.if_icmp .ge 28, 3) := by decide +kernel
theorem dX10_turn_38 : decode cX10_turn 38 = .ok (.aload_n 3, 1) := by decide +kernel
theorem dX10_turn_39 : decode cX10_turn 39 = .ok (.iload 4, 2) := by decide +kernel
theorem dX10_turn_41 : decode cX10_turn 41 = .ok (.aload_n 3, 1) := by decide +kernel
theorem dX10_turn_42 : decode cX10_turn 42 = .ok (.iload 4, 2) := by decide +kernel
theorem dX10_turn_44 : decode cX10_turn 44 = .ok (.invokevirtual 100, 3) := by decide +kernel
theorem dX10_turn_47 : decode cX10_turn 47 = .ok (.aload_n 3, 1) := by decide +kernel
theorem dX10_turn_48 : decode cX10_turn 48 = .ok (.iload 4, 2) := by decide +kernel
theorem dX10_turn_50 : decode cX10_turn 50 = .ok (.invokevirtual 104, 3) := by decide +kernel
theorem dX10_turn_53 : decode cX10_turn 53 = .ok (.isub, 1) := by decide +kernel
theorem dX10_turn_54 : decode cX10_turn 54 = .ok (.invokevirtual 114, 3) := by decide +kernel
theorem dX10_turn_57 : decode cX10_turn 57 = .ok (.iinc 4 1, 3) := by decide +kernel
theorem dX10_turn_60 : decode cX10_turn 60 = .ok (.goto (-31), 3) := by decide +kernel
theorem dX10_turn_63 : decode cX10_turn 63 = .ok (.aload_n 3, 1) := by decide +kernel
theorem dX10_turn_64 : decode cX10_turn 64 = .ok (.invokevirtual 122, 3) := by decide +kernel
theorem dX10_turn_67 : decode cX10_turn 67 = .ok (.ireturn, 1) := by decide +kernel
set_option maxRecDepth 20000 in
theorem ggX10_undo_X3_latest : GoodIn wsX10_undo wsX3_latest := goodIn_r _ [7, 8, 9, 10, 11, 12, 6, 13, 14, 58, 59, 60, 61] (by decide +kernel) (by decide +kernel)
set_option maxRecDepth 20000 in
theorem gX10_undo_X3_latest : GoodIn wsX10_undo (wsV RX10 125 RX3 yX3_latest wsX3_latest) := goodIn_app (goodIn_of _ (by decide +kernel)) ggX10_undo_X3_latest
set_option maxRecDepth 20000 in
theorem ggX10_undo_X10_find : GoodIn wsX10_undo wsX10_find := goodIn_r _ [19, 20, 21, 48, 49, 50, 51, 52, 53] (by decide +kernel) (by decide +kernel)
set_option maxRecDepth 20000 in
theorem gX10_undo_X10_find : GoodIn wsX10_undo (wsV RX10 86 RX10 yX10_find wsX10_find) := goodIn_app (goodIn_of _ (by decide +kernel)) ggX10_undo_X10_find
set_option maxRecDepth 20000 in
theorem ggX10_undo_X3_giveBack : GoodIn wsX10_undo wsX3_giveBack := goodIn_r _ [25, 8, 26, 14, 10, 11, 12, 6, 13, 27, 28, 29, 30, 31, 32, 33, 34, 35, 36, 37, 38, 39, 40, 41, 42, 43, 58, 59, 60, 61, 62, 63, 64, 65, 66, 67, 68] (by decide +kernel) (by decide +kernel)
set_option maxRecDepth 20000 in
theorem gX10_undo_X3_giveBack : GoodIn wsX10_undo (wsV RX10 128 RX3 yX3_giveBack wsX3_giveBack) := goodIn_app (goodIn_of _ (by decide +kernel)) ggX10_undo_X3_giveBack
set_option maxRecDepth 20000 in
theorem ggX10_undo_X3_size : GoodIn wsX10_undo wsX3_size := goodIn_r _ [47, 8, 58, 59, 60, 61] (by decide +kernel) (by decide +kernel)
set_option maxRecDepth 20000 in
theorem gX10_undo_X3_size : GoodIn wsX10_undo (wsV RX10 132 RX3 yX3_size wsX3_size) := goodIn_app (goodIn_of _ (by decide +kernel)) ggX10_undo_X3_size
theorem dX10_undo_0 : decode cX10_undo 0 = .ok (.aload_n 0, 1) := by decide +kernel
theorem dX10_undo_1 : decode cX10_undo 1 = .ok (.aload_n 0, 1) := by decide +kernel
theorem dX10_undo_2 : decode cX10_undo 2 = .ok (.getfield 31, 3) := by decide +kernel
theorem dX10_undo_5 : decode cX10_undo 5 = .ok (.invokevirtual 125, 3) := by decide +kernel
theorem dX10_undo_8 : decode cX10_undo 8 = .ok (.invokevirtual 86, 3) := by decide +kernel
theorem dX10_undo_11 : decode cX10_undo 11 = .ok (.astore_n 1, 1) := by decide +kernel
theorem dX10_undo_12 : decode cX10_undo 12 = .ok (.aload_n 1, 1) := by decide +kernel
theorem dX10_undo_13 : decode cX10_undo 13 = .ok (.ifnonnull 6, 3) := by decide +kernel
theorem dX10_undo_16 : decode cX10_undo 16 = .ok (.bipush (-2), 2) := by decide +kernel
theorem dX10_undo_18 : decode cX10_undo 18 = .ok (.ireturn, 1) := by decide +kernel
theorem dX10_undo_19 : decode cX10_undo 19 = .ok (.aload_n 0, 1) := by decide +kernel
theorem dX10_undo_20 : decode cX10_undo 20 = .ok (.getfield 31, 3) := by decide +kernel
theorem dX10_undo_23 : decode cX10_undo 23 = .ok (.aload_n 1, 1) := by decide +kernel
theorem dX10_undo_24 : decode cX10_undo 24 = .ok (.getfield 90, 3) := by decide +kernel
theorem dX10_undo_27 : decode cX10_undo 27 = .ok (.invokevirtual 128, 3) := by decide +kernel
theorem dX10_undo_30 : decode cX10_undo 30 = .ok (.aload_n 0, 1) := by decide +kernel
theorem dX10_undo_31 : decode cX10_undo 31 = .ok (.getfield 31, 3) := by decide +kernel
theorem dX10_undo_34 : decode cX10_undo 34 = .ok (.invokevirtual 132, 3) := by decide +kernel
theorem dX10_undo_37 : decode cX10_undo 37 = .ok (.ireturn, 1) := by decide +kernel
set_option maxRecDepth 20000 in
theorem ggX10_column_X10_find : GoodIn wsX10_column wsX10_find := goodIn_r _ [6, 7, 8, 34, 35, 36, 37, 38, 39] (by decide +kernel) (by decide +kernel)
set_option maxRecDepth 20000 in
theorem gX10_column_X10_find : GoodIn wsX10_column (wsV RX10 86 RX10 yX10_find wsX10_find) := goodIn_app (goodIn_of _ (by decide +kernel)) ggX10_column_X10_find
set_option maxRecDepth 20000 in
theorem ggX10_column_X0_has : GoodIn wsX10_column wsX0_has := goodIn_r _ [13, 14, 40, 41, 42, 43, 44, 45, 46] (by decide +kernel) (by decide +kernel)
set_option maxRecDepth 20000 in
theorem gX10_column_X0_has : GoodIn wsX10_column (wsV RX10 94 RX0 yX0_has wsX0_has) := goodIn_app (goodIn_of _ (by decide +kernel)) ggX10_column_X0_has
set_option maxRecDepth 20000 in
theorem ggX10_column_X0_totalOf : GoodIn wsX10_column wsX0_totalOf := goodIn_r _ [18, 14, 19, 40, 41, 42, 43, 44, 45, 46] (by decide +kernel) (by decide +kernel)
set_option maxRecDepth 20000 in
theorem gX10_column_X0_totalOf : GoodIn wsX10_column (wsV RX10 100 RX0 yX0_totalOf wsX0_totalOf) := goodIn_app (goodIn_of _ (by decide +kernel)) ggX10_column_X0_totalOf
set_option maxRecDepth 20000 in
theorem ggX10_column_X0_aboveOf : GoodIn wsX10_column wsX0_aboveOf := goodIn_r _ [23, 14, 24, 40, 41, 42, 43, 44, 45, 46] (by decide +kernel) (by decide +kernel)
set_option maxRecDepth 20000 in
theorem gX10_column_X0_aboveOf : GoodIn wsX10_column (wsV RX10 104 RX0 yX0_aboveOf wsX0_aboveOf) := goodIn_app (goodIn_of _ (by decide +kernel)) ggX10_column_X0_aboveOf
set_option maxRecDepth 20000 in
theorem ggX10_column_X0_scoreOf : GoodIn wsX10_column wsX0_scoreOf := goodIn_r _ [28, 14, 29, 40, 41, 42, 43, 44, 45, 46] (by decide +kernel) (by decide +kernel)
set_option maxRecDepth 20000 in
theorem gX10_column_X0_scoreOf : GoodIn wsX10_column (wsV RX10 107 RX0 yX0_scoreOf wsX0_scoreOf) := goodIn_app (goodIn_of _ (by decide +kernel)) ggX10_column_X0_scoreOf
theorem dX10_column_0 : decode cX10_column 0 = .ok (.aload_n 0, 1) := by decide +kernel
theorem dX10_column_1 : decode cX10_column 1 = .ok (.iload_n 1, 1) := by decide +kernel
theorem dX10_column_2 : decode cX10_column 2 = .ok (.invokevirtual 86, 3) := by decide +kernel
theorem dX10_column_5 : decode cX10_column 5 = .ok (.astore 4, 2) := by decide +kernel
theorem dX10_column_7 : decode cX10_column 7 = .ok (.aload 4, 2) := by decide +kernel
theorem dX10_column_9 : decode cX10_column 9 = .ok (.ifnull 15, 3) := by decide +kernel
theorem dX10_column_12 : decode cX10_column 12 = .ok (.aload 4, 2) := by decide +kernel
theorem dX10_column_14 : decode cX10_column 14 = .ok (.getfield 90, 3) := by decide +kernel
theorem dX10_column_17 : decode cX10_column 17 = .ok (.iload_n 2, 1) := by decide +kernel
theorem dX10_column_18 : decode cX10_column 18 = .ok (.invokevirtual 94, 3) := by decide +kernel
theorem dX10_column_21 : decode cX10_column 21 = .ok (.ifCond .ne 5, 3) := by decide +kernel
theorem dX10_column_24 : decode cX10_column 24 = .ok (.iconst (-1), 1) := by decide +kernel
theorem dX10_column_25 : decode cX10_column 25 = .ok (.ireturn, 1) := by decide +kernel
theorem dX10_column_26 : decode cX10_column 26 = .ok (.iload_n 3, 1) := by decide +kernel
theorem dX10_column_27 : decode cX10_column 27 = .ok (.tableswitch 55 0 2 #[25, 35, 45], 25) := by decide +kernel
theorem dX10_column_52 : decode cX10_column 52 = .ok (.aload 4, 2) := by decide +kernel
theorem dX10_column_54 : decode cX10_column 54 = .ok (.getfield 90, 3) := by decide +kernel
theorem dX10_column_57 : decode cX10_column 57 = .ok (.iload_n 2, 1) := by decide +kernel
theorem dX10_column_58 : decode cX10_column 58 = .ok (.invokevirtual 100, 3) := by decide +kernel
theorem dX10_column_61 : decode cX10_column 61 = .ok (.ireturn, 1) := by decide +kernel
theorem dX10_column_62 : decode cX10_column 62 = .ok (.aload 4, 2) := by decide +kernel
theorem dX10_column_64 : decode cX10_column 64 = .ok (.getfield 90, 3) := by decide +kernel
theorem dX10_column_67 : decode cX10_column 67 = .ok (.iload_n 2, 1) := by decide +kernel
theorem dX10_column_68 : decode cX10_column 68 = .ok (.invokevirtual 104, 3) := by decide +kernel
theorem dX10_column_71 : decode cX10_column 71 = .ok (.ireturn, 1) := by decide +kernel
theorem dX10_column_72 : decode cX10_column 72 = .ok (.aload 4, 2) := by decide +kernel
theorem dX10_column_74 : decode cX10_column 74 = .ok (.getfield 90, 3) := by decide +kernel
theorem dX10_column_77 : decode cX10_column 77 = .ok (.iload_n 2, 1) := by decide +kernel
theorem dX10_column_78 : decode cX10_column 78 = .ok (.invokevirtual 107, 3) := by decide +kernel
theorem dX10_column_81 : decode cX10_column 81 = .ok (.ireturn, 1) := by decide +kernel
theorem dX10_column_82 : decode cX10_column 82 = .ok (.iconst (-1), 1) := by decide +kernel
theorem dX10_column_83 : decode cX10_column 83 = .ok (.ireturn, 1) := by decide +kernel
set_option maxRecDepth 20000 in
theorem ggX10_stratum_X10_findFresh : GoodIn wsX10_stratum wsX10_findFresh := goodIn_r _ [7, 2, 8, 9, 10, 6, 11, 12, 13, 14, 15, 16, 17, 18, 19, 20, 21, 22, 23, 24, 25, 26, 27, 28, 29, 30, 31, 32, 33, 34, 35, 36, 37, 38, 39, 40, 41, 42, 43, 44, 45, 46, 47, 48, 49, 50, 51, 52, 53, 54, 55, 56, 57, 58, 59, 60, 61, 62, 63, 64, 65, 66, 67, 68, 69, 70, 71, 72, 73, 74, 75, 76, 77, 78, 79, 80, 81, 82, 83, 84, 85, 86, 87, 88, 89, 90, 91, 92, 93, 94, 95, 96, 97, 98, 99, 100, 101, 102, 103, 104, 105, 106, 107, 108, 109, 110, 111, 112, 113, 114, 115, 116, 117, 118, 119, 120, 121, 122, 123, 124, 145, 146, 147, 148, 149, 150, 151, 152, 153, 154, 155, 156, 157, 158, 159, 160, 161, 162, 163, 164, 165, 166] (by decide +kernel) (by decide +kernel)
set_option maxRecDepth 20000 in
theorem gX10_stratum_X10_findFresh : GoodIn wsX10_stratum (wsV RX10 133 RX10 yX10_findFresh wsX10_findFresh) := goodIn_app (goodIn_of _ (by decide +kernel)) ggX10_stratum_X10_findFresh
set_option maxRecDepth 20000 in
theorem ggX10_stratum_X0_size : GoodIn wsX10_stratum wsX0_size := goodIn_r _ [59, 34, 160, 161, 162, 163, 164, 165, 166] (by decide +kernel) (by decide +kernel)
set_option maxRecDepth 20000 in
theorem gX10_stratum_X0_size : GoodIn wsX10_stratum (wsV RX10 121 RX0 yX0_size wsX0_size) := goodIn_app (goodIn_of _ (by decide +kernel)) ggX10_stratum_X0_size
set_option maxRecDepth 20000 in
theorem ggX10_stratum_X0_allTotal : GoodIn wsX10_stratum wsX0_allTotal := goodIn_r _ [129, 34, 130, 48, 49, 27, 50, 51, 160, 161, 162, 163, 164, 165, 166] (by decide +kernel) (by decide +kernel)
set_option maxRecDepth 20000 in
theorem gX10_stratum_X0_allTotal : GoodIn wsX10_stratum (wsV RX10 136 RX0 yX0_allTotal wsX0_allTotal) := goodIn_app (goodIn_of _ (by decide +kernel)) ggX10_stratum_X0_allTotal
set_option maxRecDepth 20000 in
theorem ggX10_stratum_X0_allAbove : GoodIn wsX10_stratum wsX0_allAbove := goodIn_r _ [33, 34, 35, 36, 37, 27, 38, 39, 160, 161, 162, 163, 164, 165, 166] (by decide +kernel) (by decide +kernel)
set_option maxRecDepth 20000 in
theorem gX10_stratum_X0_allAbove : GoodIn wsX10_stratum (wsV RX10 122 RX0 yX0_allAbove wsX0_allAbove) := goodIn_app (goodIn_of _ (by decide +kernel)) ggX10_stratum_X0_allAbove
set_option maxRecDepth 20000 in
theorem ggX10_stratum_X0_seenSum : GoodIn wsX10_stratum wsX0_seenSum := goodIn_r _ [135, 34, 35, 36, 37, 27, 38, 39, 136, 109, 110, 111, 112, 160, 161, 162, 163, 164, 165, 166] (by decide +kernel) (by decide +kernel)
set_option maxRecDepth 20000 in
theorem gX10_stratum_X0_seenSum : GoodIn wsX10_stratum (wsV RX10 139 RX0 yX0_seenSum wsX0_seenSum) := goodIn_app (goodIn_of _ (by decide +kernel)) ggX10_stratum_X0_seenSum
set_option maxRecDepth 20000 in
theorem ggX10_stratum_X7_tableCount : GoodIn wsX10_stratum wsX7_tableCount := goodIn_r _ [141, 142, 143, 96, 97, 17, 98, 22, 145, 146, 147, 148, 155, 156, 157, 158, 159] (by decide +kernel) (by decide +kernel)
set_option maxRecDepth 20000 in
theorem gX10_stratum_X7_tableCount : GoodIn wsX10_stratum (wsV RX10 142 RX7 yX7_tableCount wsX7_tableCount) := goodIn_app (goodIn_of _ (by decide +kernel)) ggX10_stratum_X7_tableCount
set_option maxRecDepth 20000 in
theorem ggX10_stratum_X2_at : GoodIn wsX10_stratum wsX2_at := goodIn_r _ [98, 22, 155, 156, 157, 158, 159] (by decide +kernel) (by decide +kernel)
set_option maxRecDepth 20000 in
theorem gX10_stratum_X2_at : GoodIn wsX10_stratum (wsV RX10 151 RX2 yX2_at wsX2_at) := goodIn_app (goodIn_of _ (by decide +kernel)) ggX10_stratum_X2_at
theorem dX10_stratum_0 : decode cX10_stratum 0 = .ok (.aload_n 0, 1) := by decide +kernel
theorem dX10_stratum_1 : decode cX10_stratum 1 = .ok (.iload_n 1, 1) := by decide +kernel
theorem dX10_stratum_2 : decode cX10_stratum 2 = .ok (.invokevirtual 133, 3) := by decide +kernel
theorem dX10_stratum_5 : decode cX10_stratum 5 = .ok (.astore_n 3, 1) := by decide +kernel
theorem dX10_stratum_6 : decode cX10_stratum 6 = .ok (.aload_n 3, 1) := by decide +kernel
theorem dX10_stratum_7 : decode cX10_stratum 7 = .ok (.ifnonnull 5, 3) := by decide +kernel
theorem dX10_stratum_10 : decode cX10_stratum 10 = .ok (.iconst (-1), 1) := by decide +kernel
theorem dX10_stratum_11 : decode cX10_stratum 11 = .ok (.ireturn, 1) := by decide +kernel
theorem dX10_stratum_12 : decode cX10_stratum 12 = .ok (.iload_n 2, 1) := by decide +kernel
theorem dX10_stratum_13 : decode cX10_stratum 13 = .ok (.tableswitch 106 0 6 #[43, 51, 59, 67, 75, 80, 93], 43) := by decide +kernel
theorem dX10_stratum_56 : decode cX10_stratum 56 = .ok (.aload_n 3, 1) := by decide +kernel
theorem dX10_stratum_57 : decode cX10_stratum 57 = .ok (.getfield 90, 3) := by decide +kernel
theorem dX10_stratum_60 : decode cX10_stratum 60 = .ok (.invokevirtual 121, 3) := by decide +kernel
theorem dX10_stratum_63 : decode cX10_stratum 63 = .ok (.ireturn, 1) := by decide +kernel
theorem dX10_stratum_64 : decode cX10_stratum 64 = .ok (.aload_n 3, 1) := by decide +kernel
theorem dX10_stratum_65 : decode cX10_stratum 65 = .ok (.getfield 90, 3) := by decide +kernel
theorem dX10_stratum_68 : decode cX10_stratum 68 = .ok (.invokevirtual 136, 3) := by decide +kernel
theorem dX10_stratum_71 : decode cX10_stratum 71 = .ok (.ireturn, 1) := by decide +kernel
theorem dX10_stratum_72 : decode cX10_stratum 72 = .ok (.aload_n 3, 1) := by decide +kernel
theorem dX10_stratum_73 : decode cX10_stratum 73 = .ok (.getfield 90, 3) := by decide +kernel
theorem dX10_stratum_76 : decode cX10_stratum 76 = .ok (.invokevirtual 122, 3) := by decide +kernel
theorem dX10_stratum_79 : decode cX10_stratum 79 = .ok (.ireturn, 1) := by decide +kernel
theorem dX10_stratum_80 : decode cX10_stratum 80 = .ok (.aload_n 3, 1) := by decide +kernel
theorem dX10_stratum_81 : decode cX10_stratum 81 = .ok (.getfield 90, 3) := by decide +kernel
theorem dX10_stratum_84 : decode cX10_stratum 84 = .ok (.invokevirtual 139, 3) := by decide +kernel
theorem dX10_stratum_87 : decode cX10_stratum 87 = .ok (.ireturn, 1) := by decide +kernel
theorem dX10_stratum_88 : decode cX10_stratum 88 = .ok (.aload_n 3, 1) := by decide +kernel
theorem dX10_stratum_89 : decode cX10_stratum 89 = .ok (.invokevirtual 142, 3) := by decide +kernel
theorem dX10_stratum_92 : decode cX10_stratum 92 = .ok (.ireturn, 1) := by decide +kernel
theorem dX10_stratum_93 : decode cX10_stratum 93 = .ok (.aload_n 3, 1) := by decide +kernel
theorem dX10_stratum_94 : decode cX10_stratum 94 = .ok (.getfield 145, 3) := by decide +kernel
theorem dX10_stratum_97 : decode cX10_stratum 97 = .ok (.bipush 6, 2) := by decide +kernel
theorem dX10_stratum_99 : decode cX10_stratum 99 = .ok (.iconst 0, 1) := by decide +kernel
theorem dX10_stratum_100 : decode cX10_stratum 100 = .ok (.iconst 0, 1) := by decide +kernel
theorem dX10_stratum_101 : decode cX10_stratum 101 = .ok (.invokevirtual 151, 3) := by decide +kernel
theorem dX10_stratum_104 : decode cX10_stratum 104 = .ok (.l2i, 1) := by decide +kernel
theorem dX10_stratum_105 : decode cX10_stratum 105 = .ok (.ireturn, 1) := by decide +kernel
theorem dX10_stratum_106 : decode cX10_stratum 106 = .ok (.aload_n 3, 1) := by decide +kernel
theorem dX10_stratum_107 : decode cX10_stratum 107 = .ok (.getfield 145, 3) := by decide +kernel
theorem dX10_stratum_110 : decode cX10_stratum 110 = .ok (.bipush 7, 2) := by decide +kernel
theorem dX10_stratum_112 : decode cX10_stratum 112 = .ok (.iconst 0, 1) := by decide +kernel
theorem dX10_stratum_113 : decode cX10_stratum 113 = .ok (.iconst 0, 1) := by decide +kernel
theorem dX10_stratum_114 : decode cX10_stratum 114 = .ok (.invokevirtual 151, 3) := by decide +kernel
theorem dX10_stratum_117 : decode cX10_stratum 117 = .ok (.l2i, 1) := by decide +kernel
theorem dX10_stratum_118 : decode cX10_stratum 118 = .ok (.ireturn, 1) := by decide +kernel
theorem dX10_stratum_119 : decode cX10_stratum 119 = .ok (.iconst (-1), 1) := by decide +kernel
theorem dX10_stratum_120 : decode cX10_stratum 120 = .ok (.ireturn, 1) := by decide +kernel
set_option maxRecDepth 20000 in
theorem ggX10_ways_X10_findFresh : GoodIn wsX10_ways wsX10_findFresh := goodIn_r _ [8, 3, 9, 10, 11, 7, 12, 13, 14, 15, 16, 17, 18, 19, 20, 21, 22, 23, 24, 25, 26, 27, 28, 29, 30, 31, 32, 33, 34, 35, 36, 37, 38, 39, 40, 41, 42, 43, 44, 45, 46, 47, 48, 49, 50, 51, 52, 53, 54, 55, 56, 57, 58, 59, 60, 61, 62, 63, 64, 65, 66, 67, 68, 69, 70, 71, 72, 73, 74, 75, 76, 77, 78, 79, 80, 81, 82, 83, 84, 85, 86, 87, 88, 89, 90, 91, 92, 93, 94, 95, 96, 97, 98, 99, 100, 101, 102, 103, 104, 105, 106, 107, 108, 109, 110, 111, 112, 113, 114, 115, 116, 117, 118, 119, 120, 121, 122, 123, 124, 125, 139, 140, 141, 142, 143, 144, 145, 146, 147, 148, 149, 150, 151, 152, 153, 154, 155, 156, 157, 158, 159, 160] (by decide +kernel) (by decide +kernel)
set_option maxRecDepth 20000 in
theorem gX10_ways_X10_findFresh : GoodIn wsX10_ways (wsV RX10 133 RX10 yX10_findFresh wsX10_findFresh) := goodIn_app (goodIn_of _ (by decide +kernel)) ggX10_ways_X10_findFresh
set_option maxRecDepth 20000 in
theorem ggX10_ways_X0_seenWays : GoodIn wsX10_ways wsX0_seenWays := goodIn_r _ [129, 35, 36, 37, 38, 28, 39, 40, 130, 92, 93, 94, 95, 154, 155, 156, 157, 158, 159, 160] (by decide +kernel) (by decide +kernel)
set_option maxRecDepth 20000 in
theorem gX10_ways_X0_seenWays : GoodIn wsX10_ways (wsV RX10 157 RX0 yX0_seenWays wsX0_seenWays) := goodIn_app (goodIn_of _ (by decide +kernel)) ggX10_ways_X0_seenWays
set_option maxRecDepth 20000 in
theorem ggX10_ways_X7_allWays : GoodIn wsX10_ways wsX7_allWays := goodIn_r _ [135, 136, 137, 97, 98, 18, 99, 23, 139, 140, 141, 142, 149, 150, 151, 152, 153] (by decide +kernel) (by decide +kernel)
set_option maxRecDepth 20000 in
theorem gX10_ways_X7_allWays : GoodIn wsX10_ways (wsV RX10 161 RX7 yX7_allWays wsX7_allWays) := goodIn_app (goodIn_of _ (by decide +kernel)) ggX10_ways_X7_allWays
set_option maxRecDepth 20000 in
theorem ggX10_ways_X2_at : GoodIn wsX10_ways wsX2_at := goodIn_r _ [99, 23, 149, 150, 151, 152, 153] (by decide +kernel) (by decide +kernel)
set_option maxRecDepth 20000 in
theorem gX10_ways_X2_at : GoodIn wsX10_ways (wsV RX10 151 RX2 yX2_at wsX2_at) := goodIn_app (goodIn_of _ (by decide +kernel)) ggX10_ways_X2_at
theorem dX10_ways_0 : decode cX10_ways 0 = .ok (.aload_n 0, 1) := by decide +kernel
theorem dX10_ways_1 : decode cX10_ways 1 = .ok (.iload_n 1, 1) := by decide +kernel
theorem dX10_ways_2 : decode cX10_ways 2 = .ok (.invokevirtual 133, 3) := by decide +kernel
theorem dX10_ways_5 : decode cX10_ways 5 = .ok (.astore_n 3, 1) := by decide +kernel
theorem dX10_ways_6 : decode cX10_ways 6 = .ok (.aload_n 3, 1) := by decide +kernel
theorem dX10_ways_7 : decode cX10_ways 7 = .ok (.ifnonnull 7, 3) := by decide +kernel
theorem dX10_ways_10 : decode cX10_ways 10 = .ok (.ldc2_w 155, 3) := by decide +kernel
