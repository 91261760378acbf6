theorem dX11_goesThrough_7 : decode cX11_goesThrough 7 = .ok (.putfield 153, 3) := by decide +kernel
theorem dX11_goesThrough_10 : decode cX11_goesThrough 10 = .ok (.aload_n 0, 1) := by decide +kernel
theorem dX11_goesThrough_11 : decode cX11_goesThrough 11 = .ok (.iconst 0, 1) := by decide +kernel
theorem dX11_goesThrough_12 : decode cX11_goesThrough 12 = .ok (.putfield 172, 3) := by decide +kernel
theorem dX11_goesThrough_15 : decode cX11_goesThrough 15 = .ok (.aload_n 0, 1) := by decide +kernel
theorem dX11_goesThrough_16 : decode cX11_goesThrough 16 = .ok (.lconst 0, 1) := by decide +kernel
theorem dX11_goesThrough_17 : decode cX11_goesThrough 17 = .ok (.putfield 175, 3) := by decide +kernel
theorem dX11_goesThrough_20 : decode cX11_goesThrough 20 = .ok (.iconst 0, 1) := by decide +kernel
theorem dX11_goesThrough_21 : decode cX11_goesThrough 21 = .ok (.istore_n 3, 1) := by decide +kernel
theorem dX11_goesThrough_22 : decode cX11_goesThrough 22 = .ok (.iload_n 3, 1) := by decide +kernel
theorem dX11_goesThrough_23 : decode cX11_goesThrough 23 = .ok (.sipush 541, 3) := by decide +kernel
theorem dX11_goesThrough_26 : decode cX11_goesThrough 26 = .ok (.if_icmp .ge 16, 3) := by decide +kernel
theorem dX11_goesThrough_29 : decode cX11_goesThrough 29 = .ok (.aload_n 0, 1) := by decide +kernel
theorem dX11_goesThrough_30 : decode cX11_goesThrough 30 = .ok (.getfield 32, 3) := by decide +kernel
theorem dX11_goesThrough_33 : decode cX11_goesThrough 33 = .ok (.iload_n 3, 1) := by decide +kernel
theorem dX11_goesThrough_34 : decode cX11_goesThrough 34 = .ok (.lconst 0, 1) := by decide +kernel
theorem dX11_goesThrough_35 : decode cX11_goesThrough 35 = .ok (.lastore, 1) := by decide +kernel
theorem dX11_goesThrough_36 : decode cX11_goesThrough 36 = .ok (.iinc 3 1, 3) := by decide +kernel
theorem dX11_goesThrough_39 : decode cX11_goesThrough 39 = .ok (.goto (-17), 3) := by decide +kernel
theorem dX11_goesThrough_42 : decode cX11_goesThrough 42 = .ok (.aload_n 0, 1) := by decide +kernel
theorem dX11_goesThrough_43 : decode cX11_goesThrough 43 = .ok (.iload_n 1, 1) := by decide +kernel
theorem dX11_goesThrough_44 : decode cX11_goesThrough 44 = .ok (.invokevirtual 184, 3) := by decide +kernel
theorem dX11_goesThrough_47 : decode cX11_goesThrough 47 = .ok (.lstore_n 3, 1) := by decide +kernel
theorem dX11_goesThrough_48 : decode cX11_goesThrough 48 = .ok (.aload_n 0, 1) := by decide +kernel
theorem dX11_goesThrough_49 : decode cX11_goesThrough 49 = .ok (.iload_n 1, 1) := by decide +kernel
theorem dX11_goesThrough_50 : decode cX11_goesThrough 50 = .ok (.invokevirtual 188, 3) := by decide +kernel
theorem dX11_goesThrough_53 : decode cX11_goesThrough 53 = .ok (.istore 5, 2) := by decide +kernel
theorem dX11_goesThrough_55 : decode cX11_goesThrough 55 = .ok (.aload_n 0, 1) := by decide +kernel
theorem dX11_goesThrough_56 : decode cX11_goesThrough 56 = .ok (.iload_n 1, 1) := by decide +kernel
theorem dX11_goesThrough_57 : decode cX11_goesThrough 57 = .ok (.invokevirtual 191, 3) := by decide +kernel
theorem dX11_goesThrough_60 : decode cX11_goesThrough 60 = .ok (.iconst 1, 1) := by decide +kernel
theorem dX11_goesThrough_61 : decode cX11_goesThrough 61 = .ok (.istore 6, 2) := by decide +kernel
theorem dX11_goesThrough_63 : decode cX11_goesThrough 63 = .ok (.iload 6, 2) := by decide +kernel
theorem dX11_goesThrough_65 : decode cX11_goesThrough 65 = .ok (.ifCond .eq 20, 3) := by decide +kernel
theorem dX11_goesThrough_68 : decode cX11_goesThrough 68 = .ok (.aload_n 0, 1) := by decide +kernel
theorem dX11_goesThrough_69 : decode cX11_goesThrough 69 = .ok (.iload_n 2, 1) := by decide +kernel
theorem dX11_goesThrough_70 : decode cX11_goesThrough 70 = .ok (.lload_n 3, 1) := by decide +kernel
theorem dX11_goesThrough_71 : decode cX11_goesThrough 71 = .ok (.iload 5, 2) := by decide +kernel
theorem dX11_goesThrough_73 : decode cX11_goesThrough 73 = .ok (.invokevirtual 195, 3) := by decide +kernel
theorem dX11_goesThrough_76 : decode cX11_goesThrough 76 = .ok (.aload_n 0, 1) := by decide +kernel
theorem dX11_goesThrough_77 : decode cX11_goesThrough 77 = .ok (.invokevirtual 199, 3) := by decide +kernel
theorem dX11_goesThrough_80 : decode cX11_goesThrough 80 = .ok (.istore 6, 2) := by decide +kernel
theorem dX11_goesThrough_82 : decode cX11_goesThrough 82 = .ok (.goto (-19), 3) := by decide +kernel
theorem dX11_goesThrough_85 : decode cX11_goesThrough 85 = .ok (.return_, 1) := by decide +kernel
set_option maxRecDepth 20000 in
theorem ggX11_stratum_X11_isStratum : GoodIn wsX11_stratum wsX11_isStratum := goodIn_r _ [8, 9, 10, 11, 7, 12, 83, 84, 85, 86, 87, 88, 89, 90, 91, 92, 93, 94, 95, 96, 97, 98, 99, 100, 101, 102, 103, 104, 105, 106, 107, 108, 109, 110, 111, 112, 113, 114] (by decide +kernel) (by decide +kernel)
set_option maxRecDepth 20000 in
theorem gX11_stratum_X11_isStratum : GoodIn wsX11_stratum (wsV RX11 110 RX11 yX11_isStratum wsX11_isStratum) := goodIn_app (goodIn_of _ (by decide +kernel)) ggX11_stratum_X11_isStratum
set_option maxRecDepth 20000 in
theorem ggX11_stratum_X11_in : GoodIn wsX11_stratum wsX11_in := goodIn_r _ [12] (by decide +kernel) (by decide +kernel)
set_option maxRecDepth 20000 in
theorem gX11_stratum_X11_in : GoodIn wsX11_stratum (va_wsS RX11 85 yX11_in wsX11_in) := goodIn_app (goodIn_of _ (by decide +kernel)) ggX11_stratum_X11_in
set_option maxRecDepth 20000 in
theorem ggX11_stratum_X11_columns : GoodIn wsX11_stratum wsX11_columns := goodIn_r _ [16, 9, 83, 84, 85, 86, 87, 88, 89, 90, 91, 92, 93, 94, 95, 96, 97, 98, 99, 100, 101, 102, 103, 104, 105, 106, 107, 108, 109, 110, 111, 112, 113, 114] (by decide +kernel) (by decide +kernel)
set_option maxRecDepth 20000 in
theorem gX11_stratum_X11_columns : GoodIn wsX11_stratum (wsV RX11 114 RX11 yX11_columns wsX11_columns) := goodIn_app (goodIn_of _ (by decide +kernel)) ggX11_stratum_X11_columns
set_option maxRecDepth 20000 in
theorem ggX11_stratum_X11_total : GoodIn wsX11_stratum wsX11_total := goodIn_r _ [20, 13, 14, 15, 7, 16, 9, 21, 22, 23, 24, 25, 26, 27, 83, 84, 85, 86, 87, 88, 89, 90, 91, 92, 93, 94, 95, 96, 97, 98, 99, 100, 101, 102, 103, 104, 105, 106, 107, 108, 109, 110, 111, 112, 113, 114] (by decide +kernel) (by decide +kernel)
set_option maxRecDepth 20000 in
theorem gX11_stratum_X11_total : GoodIn wsX11_stratum (wsV RX11 131 RX11 yX11_total wsX11_total) := goodIn_app (goodIn_of _ (by decide +kernel)) ggX11_stratum_X11_total
set_option maxRecDepth 20000 in
theorem ggX11_stratum_X11_seenSum : GoodIn wsX11_stratum wsX11_seenSum := goodIn_r _ [31, 13, 14, 15, 7, 16, 9, 21, 22, 23, 24, 25, 26, 27, 83, 84, 85, 86, 87, 88, 89, 90, 91, 92, 93, 94, 95, 96, 97, 98, 99, 100, 101, 102, 103, 104, 105, 106, 107, 108, 109, 110, 111, 112, 113, 114] (by decide +kernel) (by decide +kernel)
set_option maxRecDepth 20000 in
theorem gX11_stratum_X11_seenSum : GoodIn wsX11_stratum (wsV RX11 188 RX11 yX11_seenSum wsX11_seenSum) := goodIn_app (goodIn_of _ (by decide +kernel)) ggX11_stratum_X11_seenSum
set_option maxRecDepth 20000 in
theorem ggX11_stratum_X11_goesThrough : GoodIn wsX11_stratum wsX11_goesThrough := goodIn_r _ [35, 1, 36, 37, 38, 39, 40, 41, 42, 7, 43, 13, 14, 15, 16, 9, 21, 22, 23, 24, 25, 26, 27, 44, 45, 46, 47, 48, 28, 29, 30, 31, 49, 50, 51, 52, 53, 17, 18, 19, 20, 54, 55, 56, 57, 58, 59, 60, 61, 62, 63, 64, 65, 2, 3, 66, 67, 68, 69, 70, 71, 72, 73, 74, 75, 76, 77, 78, 79, 80, 81, 82, 83, 84, 85, 86, 87, 88, 89, 90, 91, 92, 93, 94, 95, 96, 97, 98, 99, 100, 101, 102, 103, 104, 105, 106, 107, 108, 109, 110, 111, 112, 113, 114] (by decide +kernel) (by decide +kernel)
set_option maxRecDepth 20000 in
theorem gX11_stratum_X11_goesThrough : GoodIn wsX11_stratum (wsV RX11 202 RX11 yX11_goesThrough wsX11_goesThrough) := goodIn_app (goodIn_of _ (by decide +kernel)) ggX11_stratum_X11_goesThrough
theorem dX11_stratum_0 : decode cX11_stratum 0 = .ok (.aload_n 0, 1) := by decide +kernel
theorem dX11_stratum_1 : decode cX11_stratum 1 = .ok (.iload_n 1, 1) := by decide +kernel
theorem dX11_stratum_2 : decode cX11_stratum 2 = .ok (.invokevirtual 110, 3) := by decide +kernel
theorem dX11_stratum_5 : decode cX11_stratum 5 = .ok (.ifCond .eq 13, 3) := by decide +kernel
theorem dX11_stratum_8 : decode cX11_stratum 8 = .ok (.iload_n 2, 1) := by decide +kernel
theorem dX11_stratum_9 : decode cX11_stratum 9 = .ok (.iconst 0, 1) := by decide +kernel
theorem dX11_stratum_10 : decode cX11_stratum 10 = .ok (.bipush 6, 2) := by decide +kernel
theorem dX11_stratum_12 : decode cX11_stratum 12 = .ok (.invokestatic 85, 3) := by decide +kernel
theorem dX11_stratum_15 : decode cX11_stratum 15 = .ok (.ifCond .ne 5, 3) := by decide +kernel
theorem dX11_stratum_18 : decode cX11_stratum 18 = .ok (.iconst (-1), 1) := by decide +kernel
theorem dX11_stratum_19 : decode cX11_stratum 19 = .ok (.ireturn, 1) := by decide +kernel
theorem dX11_stratum_20 : decode cX11_stratum 20 = .ok (.iload_n 2, 1) := by decide +kernel
theorem dX11_stratum_21 : decode cX11_stratum 21 = .ok (.tableswitch 57 0 3 #[31, 37, 44, 51], 31) := by decide +kernel
theorem dX11_stratum_52 : decode cX11_stratum 52 = .ok (.aload_n 0, 1) := by decide +kernel
theorem dX11_stratum_53 : decode cX11_stratum 53 = .ok (.iload_n 1, 1) := by decide +kernel
theorem dX11_stratum_54 : decode cX11_stratum 54 = .ok (.invokevirtual 114, 3) := by decide +kernel
theorem dX11_stratum_57 : decode cX11_stratum 57 = .ok (.ireturn, 1) := by decide +kernel
theorem dX11_stratum_58 : decode cX11_stratum 58 = .ok (.aload_n 0, 1) := by decide +kernel
theorem dX11_stratum_59 : decode cX11_stratum 59 = .ok (.iload_n 1, 1) := by decide +kernel
theorem dX11_stratum_60 : decode cX11_stratum 60 = .ok (.iconst 0, 1) := by decide +kernel
theorem dX11_stratum_61 : decode cX11_stratum 61 = .ok (.invokevirtual 131, 3) := by decide +kernel
theorem dX11_stratum_64 : decode cX11_stratum 64 = .ok (.ireturn, 1) := by decide +kernel
theorem dX11_stratum_65 : decode cX11_stratum 65 = .ok (.aload_n 0, 1) := by decide +kernel
theorem dX11_stratum_66 : decode cX11_stratum 66 = .ok (.iload_n 1, 1) := by decide +kernel
theorem dX11_stratum_67 : decode cX11_stratum 67 = .ok (.iconst 1, 1) := by decide +kernel
theorem dX11_stratum_68 : decode cX11_stratum 68 = .ok (.invokevirtual 131, 3) := by decide +kernel
theorem dX11_stratum_71 : decode cX11_stratum 71 = .ok (.ireturn, 1) := by decide +kernel
theorem dX11_stratum_72 : decode cX11_stratum 72 = .ok (.aload_n 0, 1) := by decide +kernel
theorem dX11_stratum_73 : decode cX11_stratum 73 = .ok (.iload_n 1, 1) := by decide +kernel
theorem dX11_stratum_74 : decode cX11_stratum 74 = .ok (.invokevirtual 188, 3) := by decide +kernel
theorem dX11_stratum_77 : decode cX11_stratum 77 = .ok (.ireturn, 1) := by decide +kernel
theorem dX11_stratum_78 : decode cX11_stratum 78 = .ok (.aload_n 0, 1) := by decide +kernel
theorem dX11_stratum_79 : decode cX11_stratum 79 = .ok (.iload_n 1, 1) := by decide +kernel
theorem dX11_stratum_80 : decode cX11_stratum 80 = .ok (.iconst 0, 1) := by decide +kernel
theorem dX11_stratum_81 : decode cX11_stratum 81 = .ok (.invokevirtual 202, 3) := by decide +kernel
theorem dX11_stratum_84 : decode cX11_stratum 84 = .ok (.iload_n 2, 1) := by decide +kernel
theorem dX11_stratum_85 : decode cX11_stratum 85 = .ok (.iconst 4, 1) := by decide +kernel
theorem dX11_stratum_86 : decode cX11_stratum 86 = .ok (.if_icmp .ne 10, 3) := by decide +kernel
theorem dX11_stratum_89 : decode cX11_stratum 89 = .ok (.aload_n 0, 1) := by decide +kernel
theorem dX11_stratum_90 : decode cX11_stratum 90 = .ok (.getfield 157, 3) := by decide +kernel
theorem dX11_stratum_93 : decode cX11_stratum 93 = .ok (.goto 19, 3) := by decide +kernel
theorem dX11_stratum_96 : decode cX11_stratum 96 = .ok (.iload_n 2, 1) := by decide +kernel
theorem dX11_stratum_97 : decode cX11_stratum 97 = .ok (.iconst 5, 1) := by decide +kernel
theorem dX11_stratum_98 : decode cX11_stratum 98 = .ok (.if_icmp .ne 10, 3) := by decide +kernel
theorem dX11_stratum_101 : decode cX11_stratum 101 = .ok (.aload_n 0, 1) := by decide +kernel
theorem dX11_stratum_102 : decode cX11_stratum 102 = .ok (.getfield 166, 3) := by decide +kernel
theorem dX11_stratum_105 : decode cX11_stratum 105 = .ok (.goto 7, 3) := by decide +kernel
theorem dX11_stratum_108 : decode cX11_stratum 108 = .ok (.aload_n 0, 1) := by decide +kernel
theorem dX11_stratum_109 : decode cX11_stratum 109 = .ok (.getfield 169, 3) := by decide +kernel
theorem dX11_stratum_112 : decode cX11_stratum 112 = .ok (.ireturn, 1) := by decide +kernel
set_option maxRecDepth 20000 in
theorem ggX11_ways_X11_isStratum : GoodIn wsX11_ways wsX11_isStratum := goodIn_r _ [9, 10, 11, 12, 8, 13, 84, 85, 86, 87, 88, 89, 90, 91, 92, 93, 94, 95, 96, 97, 98, 99, 100, 101, 102, 103, 104, 105, 106, 107, 108, 109, 110, 111, 112, 113, 114, 115] (by decide +kernel) (by decide +kernel)
set_option maxRecDepth 20000 in
theorem gX11_ways_X11_isStratum : GoodIn wsX11_ways (wsV RX11 110 RX11 yX11_isStratum wsX11_isStratum) := goodIn_app (goodIn_of _ (by decide +kernel)) ggX11_ways_X11_isStratum
set_option maxRecDepth 20000 in
theorem ggX11_ways_X11_in : GoodIn wsX11_ways wsX11_in := goodIn_r _ [13] (by decide +kernel) (by decide +kernel)
set_option maxRecDepth 20000 in
theorem gX11_ways_X11_in : GoodIn wsX11_ways (va_wsS RX11 85 yX11_in wsX11_in) := goodIn_app (goodIn_of _ (by decide +kernel)) ggX11_ways_X11_in
set_option maxRecDepth 20000 in
theorem ggX11_ways_X11_seenWays : GoodIn wsX11_ways wsX11_seenWays := goodIn_r _ [17, 18, 19, 20, 8, 21, 10, 22, 23, 24, 25, 26, 27, 28, 29, 30, 31, 32, 33, 84, 85, 86, 87, 88, 89, 90, 91, 92, 93, 94, 95, 96, 97, 98, 99, 100, 101, 102, 103, 104, 105, 106, 107, 108, 109, 110, 111, 112, 113, 114, 115] (by decide +kernel) (by decide +kernel)
set_option maxRecDepth 20000 in
theorem gX11_ways_X11_seenWays : GoodIn wsX11_ways (wsV RX11 184 RX11 yX11_seenWays wsX11_seenWays) := goodIn_app (goodIn_of _ (by decide +kernel)) ggX11_ways_X11_seenWays
set_option maxRecDepth 20000 in
theorem ggX11_ways_X11_goesThrough : GoodIn wsX11_ways wsX11_goesThrough := goodIn_r _ [37, 38, 2, 39, 40, 41, 14, 15, 16, 8, 17, 18, 19, 20, 21, 10, 22, 23, 24, 25, 26, 27, 28, 29, 30, 31, 32, 33, 42, 43, 44, 45, 46, 47, 48, 49, 50, 51, 52, 53, 54, 55, 56, 57, 58, 59, 60, 61, 62, 63, 3, 64, 4, 65, 66, 67, 68, 69, 70, 71, 72, 73, 74, 75, 76, 77, 78, 79, 80, 81, 82, 83, 84, 85, 86, 87, 88, 89, 90, 91, 92, 93, 94, 95, 96, 97, 98, 99, 100, 101, 102, 103, 104, 105, 106, 107, 108, 109, 110, 111, 112, 113, 114, 115] (by decide +kernel) (by decide +kernel)
set_option maxRecDepth 20000 in
theorem gX11_ways_X11_goesThrough : GoodIn wsX11_ways (wsV RX11 202 RX11 yX11_goesThrough wsX11_goesThrough) := goodIn_app (goodIn_of _ (by decide +kernel)) ggX11_ways_X11_goesThrough
theorem dX11_ways_0 : decode cX11_ways 0 = .ok (.aload_n 0, 1) := by decide +kernel
theorem dX11_ways_1 : decode cX11_ways 1 = .ok (.iload_n 1, 1) := by decide +kernel
theorem dX11_ways_2 : decode cX11_ways 2 = .ok (.invokevirtual 110, 3) := by decide +kernel
theorem dX11_ways_5 : decode cX11_ways 5 = .ok (.ifCond .eq 12, 3) := by decide +kernel
theorem dX11_ways_8 : decode cX11_ways 8 = .ok (.iload_n 2, 1) := by decide +kernel
theorem dX11_ways_9 : decode cX11_ways 9 = .ok (.iconst 0, 1) := by decide +kernel
theorem dX11_ways_10 : decode cX11_ways 10 = .ok (.iconst 3, 1) := by decide +kernel
theorem dX11_ways_11 : decode cX11_ways 11 = .ok (.invokestatic 85, 3) := by decide +kernel
theorem dX11_ways_14 : decode cX11_ways 14 = .ok (.ifCond .ne 7, 3) := by decide +kernel
theorem dX11_ways_17 : decode cX11_ways 17 = .ok (.ldc2_w 205, 3) := by decide +kernel
theorem dX11_ways_20 : decode cX11_ways 20 = .ok (.lreturn, 1) := by decide +kernel
theorem dX11_ways_21 : decode cX11_ways 21 = .ok (.iload_n 2, 1) := by decide +kernel
theorem dX11_ways_22 : decode cX11_ways 22 = .ok (.ifCond .ne 9, 3) := by decide +kernel
theorem dX11_ways_25 : decode cX11_ways 25 = .ok (.aload_n 0, 1) := by decide +kernel
theorem dX11_ways_26 : decode cX11_ways 26 = .ok (.iload_n 1, 1) := by decide +kernel
theorem dX11_ways_27 : decode cX11_ways 27 = .ok (.invokevirtual 184, 3) := by decide +kernel
theorem dX11_ways_30 : decode cX11_ways 30 = .ok (.lreturn, 1) := by decide +kernel
theorem dX11_ways_31 : decode cX11_ways 31 = .ok (.aload_n 0, 1) := by decide +kernel
theorem dX11_ways_32 : decode cX11_ways 32 = .ok (.iload_n 1, 1) := by decide +kernel
theorem dX11_ways_33 : decode cX11_ways 33 = .ok (.iconst 0, 1) := by decide +kernel
theorem dX11_ways_34 : decode cX11_ways 34 = .ok (.invokevirtual 202, 3) := by decide +kernel
theorem dX11_ways_37 : decode cX11_ways 37 = .ok (.iload_n 2, 1) := by decide +kernel
theorem dX11_ways_38 : decode cX11_ways 38 = .ok (.iconst 1, 1) := by decide +kernel
theorem dX11_ways_39 : decode cX11_ways 39 = .ok (.if_icmp .ne 10, 3) := by decide +kernel
theorem dX11_ways_42 : decode cX11_ways 42 = .ok (.aload_n 0, 1) := by decide +kernel
theorem dX11_ways_43 : decode cX11_ways 43 = .ok (.getfield 153, 3) := by decide +kernel
theorem dX11_ways_46 : decode cX11_ways 46 = .ok (.goto 19, 3) := by decide +kernel
theorem dX11_ways_49 : decode cX11_ways 49 = .ok (.iload_n 2, 1) := by decide +kernel
theorem dX11_ways_50 : decode cX11_ways 50 = .ok (.iconst 2, 1) := by decide +kernel
theorem dX11_ways_51 : decode cX11_ways 51 = .ok (.if_icmp .ne 10, 3) := by decide +kernel
theorem dX11_ways_54 : decode cX11_ways 54 = .ok (.aload_n 0, 1) := by decide +kernel
theorem dX11_ways_55 : decode cX11_ways 55 = .ok (.getfield 160, 3) := by decide +kernel
theorem dX11_ways_58 : decode cX11_ways 58 = .ok (.goto 7, 3) := by decide +kernel
theorem dX11_ways_61 : decode cX11_ways 61 = .ok (.aload_n 0, 1) := by decide +kernel
theorem dX11_ways_62 : decode cX11_ways 62 = .ok (.getfield 163, 3) := by decide +kernel
theorem dX11_ways_65 : decode cX11_ways 65 = .ok (.lreturn, 1) := by decide +kernel
theorem dX11_common_0 : decode cX11_common 0 = .ok (.lload_n 0, 1) := by decide +kernel
theorem dX11_common_1 : decode cX11_common 1 = .ok (.lstore 4, 2) := by decide +kernel
theorem dX11_common_3 : decode cX11_common 3 = .ok (.lload_n 2, 1) := by decide +kernel
theorem dX11_common_4 : decode cX11_common 4 = .ok (.lstore 6, 2) := by decide +kernel
theorem dX11_common_6 : decode cX11_common 6 = .ok (.lload 6, 2) := by decide +kernel
theorem dX11_common_8 : decode cX11_common 8 = .ok (.lconst 0, 1) := by decide +kernel
theorem dX11_common_9 : decode cX11_common 9 = .ok (.lcmp, 1) := by decide +kernel
theorem dX11_common_10 : decode cX11_common 10 = .ok (.ifCond .eq 21, 3) := by decide +kernel
theorem dX11_common_13 : decode cX11_common 13 = .ok (.lload 4, 2) := by decide +kernel
theorem dX11_common_15 : decode cX11_common 15 = .ok (.lload 6, 2) := by decide +kernel
theorem dX11_common_17 : decode cX11_common 17 = .ok (.lrem, 1) := by decide +kernel
theorem dX11_common_18 : decode cX11_common 18 = .ok (.lstore 8, 2) := by decide +kernel
theorem dX11_common_20 : decode cX11_common 20 = .ok (.lload 6, 2) := by decide +kernel
theorem dX11_common_22 : decode cX11_common 22 = .ok (.lstore 4, 2) := by decide +kernel
theorem dX11_common_24 : decode cX11_common 24 = .ok (.lload 8, 2) := by decide +kernel
theorem dX11_common_26 : decode cX11_common 26 = .ok (.lstore 6, 2) := by decide +kernel
theorem dX11_common_28 : decode cX11_common 28 = .ok (.goto (-22), 3) := by decide +kernel
theorem dX11_common_31 : decode cX11_common 31 = .ok (.lload 4, 2) := by decide +kernel
theorem dX11_common_33 : decode cX11_common 33 = .ok (.lreturn, 1) := by decide +kernel
set_option maxRecDepth 20000 in
theorem ggX11_chance_X11_isStratum : GoodIn wsX11_chance wsX11_isStratum := goodIn_r _ [8, 9, 10, 11, 7, 12, 87, 88, 89, 90, 91, 92, 93, 94, 95, 96, 97, 98, 99, 100, 101, 102, 103, 104, 105, 106, 107, 108, 109, 110, 111, 112, 113, 114, 115, 116, 117, 118] (by decide +kernel) (by decide +kernel)
set_option maxRecDepth 20000 in
theorem gX11_chance_X11_isStratum : GoodIn wsX11_chance (wsV RX11 110 RX11 yX11_isStratum wsX11_isStratum) := goodIn_app (goodIn_of _ (by decide +kernel)) ggX11_chance_X11_isStratum
set_option maxRecDepth 20000 in
theorem ggX11_chance_X11_in : GoodIn wsX11_chance wsX11_in := goodIn_r _ [12] (by decide +kernel) (by decide +kernel)
set_option maxRecDepth 20000 in
theorem gX11_chance_X11_in : GoodIn wsX11_chance (va_wsS RX11 85 yX11_in wsX11_in) := goodIn_app (goodIn_of _ (by decide +kernel)) ggX11_chance_X11_in
set_option maxRecDepth 20000 in
theorem ggX11_chance_X11_goesThrough : GoodIn wsX11_chance wsX11_goesThrough := goodIn_r _ [16, 17, 3, 18, 2, 19, 20, 21, 22, 7, 23, 24, 25, 26, 27, 9, 28, 29, 30, 31, 32, 33, 34, 35, 36, 37, 38, 39, 40, 41, 42, 43, 44, 45, 46, 47, 48, 49, 50, 51, 52, 53, 54, 55, 56, 57, 58, 59, 60, 61, 62, 63, 64, 65, 66, 67, 68, 69, 70, 71, 72, 73, 74, 75, 76, 77, 78, 79, 80, 81, 82, 83, 87, 88, 89, 90, 91, 92, 93, 94, 95, 96, 97, 98, 99, 100, 101, 102, 103, 104, 105, 106, 107, 108, 109, 110, 111, 112, 113, 114, 115, 116, 117, 118] (by decide +kernel) (by decide +kernel)
set_option maxRecDepth 20000 in
theorem gX11_chance_X11_goesThrough : GoodIn wsX11_chance (wsV RX11 202 RX11 yX11_goesThrough wsX11_goesThrough) := goodIn_app (goodIn_of _ (by decide +kernel)) ggX11_chance_X11_goesThrough
set_option maxRecDepth 20000 in
theorem ggX11_chance_X11_common : GoodIn wsX11_chance wsX11_common := goodIn_r _ [86] (by decide +kernel) (by decide +kernel)
set_option maxRecDepth 20000 in
theorem gX11_chance_X11_common : GoodIn wsX11_chance (va_wsS RX11 207 yX11_common wsX11_common) := goodIn_app (goodIn_of _ (by decide +kernel)) ggX11_chance_X11_common
theorem dX11_chance_0 : decode cX11_chance 0 = .ok (.aload_n 0, 1) := by decide +kernel
theorem dX11_chance_1 : decode cX11_chance 1 = .ok (.iload_n 1, 1) := by decide +kernel
theorem dX11_chance_2 : decode cX11_chance 2 = .ok (.invokevirtual 110, 3) := by decide +kernel
theorem dX11_chance_5 : decode cX11_chance 5 = .ok (.ifCond .eq 21, 3) := by decide +kernel
theorem dX11_chance_8 : decode cX11_chance 8 = .ok (.iload_n 2, 1) := by decide +kernel
theorem dX11_chance_9 : decode cX11_chance 9 = .ok (.iconst 0, 1) := by decide +kernel
theorem dX11_chance_10 : decode cX11_chance 10 = .ok (.iconst 2, 1) := by decide +kernel
theorem dX11_chance_11 : decode cX11_chance 11 = .ok (.invokestatic 85, 3) := by decide +kernel
theorem dX11_chance_14 : decode cX11_chance 14 = .ok (.ifCond .eq 12, 3) := by decide +kernel
theorem dX11_chance_17 : decode cX11_chance 17 = .ok (.iload_n 3, 1) := by decide +kernel
theorem dX11_chance_18 : decode cX11_chance 18 = .ok (.iconst 0, 1) := by decide +kernel
theorem dX11_chance_19 : decode cX11_chance 19 = .ok (.iconst 1, 1) := by decide +kernel
theorem dX11_chance_20 : decode cX11_chance 20 = .ok (.invokestatic 85, 3) := by decide +kernel
theorem dX11_chance_23 : decode cX11_chance 23 = .ok (.ifCond .ne 7, 3) := by decide +kernel
theorem dX11_chance_26 : decode cX11_chance 26 = .ok (.ldc2_w 205, 3) := by decide +kernel
theorem dX11_chance_29 : decode cX11_chance 29 = .ok (.lreturn, 1) := by decide +kernel
theorem dX11_chance_30 : decode cX11_chance 30 = .ok (.aload_n 0, 1) := by decide +kernel
theorem dX11_chance_31 : decode cX11_chance 31 = .ok (.iload_n 1, 1) := by decide +kernel
theorem dX11_chance_32 : decode cX11_chance 32 = .ok (.iload_n 2, 1) := by decide +kernel
theorem dX11_chance_33 : decode cX11_chance 33 = .ok (.invokevirtual 202, 3) := by decide +kernel
theorem dX11_chance_36 : decode cX11_chance 36 = .ok (.iload_n 3, 1) := by decide +kernel
theorem dX11_chance_37 : decode cX11_chance 37 = .ok (.ifCond .ne 10, 3) := by decide +kernel
theorem dX11_chance_40 : decode cX11_chance 40 = .ok (.aload_n 0, 1) := by decide +kernel
theorem dX11_chance_41 : decode cX11_chance 41 = .ok (.getfield 175, 3) := by decide +kernel
theorem dX11_chance_44 : decode cX11_chance 44 = .ok (.goto 7, 3) := by decide +kernel
theorem dX11_chance_47 : decode cX11_chance 47 = .ok (.aload_n 0, 1) := by decide +kernel
theorem dX11_chance_48 : decode cX11_chance 48 = .ok (.getfield 153, 3) := by decide +kernel
theorem dX11_chance_51 : decode cX11_chance 51 = .ok (.aload_n 0, 1) := by decide +kernel
theorem dX11_chance_52 : decode cX11_chance 52 = .ok (.getfield 175, 3) := by decide +kernel
theorem dX11_chance_55 : decode cX11_chance 55 = .ok (.aload_n 0, 1) := by decide +kernel
theorem dX11_chance_56 : decode cX11_chance 56 = .ok (.getfield 153, 3) := by decide +kernel
theorem dX11_chance_59 : decode cX11_chance 59 = .ok (.invokestatic 207, 3) := by decide +kernel
theorem dX11_chance_62 : decode cX11_chance 62 = .ok (.ldiv, 1) := by decide +kernel
theorem dX11_chance_63 : decode cX11_chance 63 = .ok (.lreturn, 1) := by decide +kernel
set_option maxRecDepth 20000 in
theorem ggX11_joins_X11_goesThrough : GoodIn wsX11_joins wsX11_goesThrough := goodIn_r _ [11, 12, 4, 13, 14, 6, 15, 16, 17, 10, 18, 19, 20, 21, 22, 2, 23, 24, 25, 26, 27, 28, 29, 30, 31, 32, 33, 34, 35, 36, 37, 38, 39, 40, 41, 42, 43, 44, 45, 46, 47, 48, 49, 50, 51, 52, 53, 54, 55, 56, 57, 58, 59, 60, 61, 62, 63, 64, 65, 66, 67, 68, 69, 70, 71, 72, 73, 74, 75, 76, 77, 78, 79, 80, 81, 82, 83, 84, 85, 86, 87, 88, 89, 90, 91, 92, 93, 94, 95, 96, 97, 98, 99, 100, 101, 102, 103, 104, 105, 106, 107, 108, 109, 110] (by decide +kernel) (by decide +kernel)
set_option maxRecDepth 20000 in
theorem gX11_joins_X11_goesThrough : GoodIn wsX11_joins (wsV RX11 202 RX11 yX11_goesThrough wsX11_goesThrough) := goodIn_app (goodIn_of _ (by decide +kernel)) ggX11_joins_X11_goesThrough
theorem dX11_joins_0 : decode cX11_joins 0 = .ok (.iconst 0, 1) := by decide +kernel
theorem dX11_joins_1 : decode cX11_joins 1 = .ok (.istore_n 1, 1) := by decide +kernel
theorem dX11_joins_2 : decode cX11_joins 2 = .ok (.iload_n 1, 1) := by decide +kernel
theorem dX11_joins_3 : decode cX11_joins 3 = .ok (.sipush 1621, 3) := by decide +kernel
theorem dX11_joins_6 : decode cX11_joins 6 = .ok (.if_icmp .ge 24, 3) := by decide +kernel
theorem dX11_joins_9 : decode cX11_joins 9 = .ok (.aload_n 0, 1) := by decide +kernel
theorem dX11_joins_10 : decode cX11_joins 10 = .ok (.getfield 35, 3) := by decide +kernel
theorem dX11_joins_13 : decode cX11_joins 13 = .ok (.iload_n 1, 1) := by decide +kernel
theorem dX11_joins_14 : decode cX11_joins 14 = .ok (.iload_n 1, 1) := by decide +kernel
theorem dX11_joins_15 : decode cX11_joins 15 = .ok (.ifCond .ne 7, 3) := by decide +kernel
theorem dX11_joins_18 : decode cX11_joins 18 = .ok (.lconst 1, 1) := by decide +kernel
theorem dX11_joins_19 : decode cX11_joins 19 = .ok (.goto 4, 3) := by decide +kernel
theorem dX11_joins_22 : decode cX11_joins 22 = .ok (.lconst 0, 1) := by decide +kernel
theorem dX11_joins_23 : decode cX11_joins 23 = .ok (.lastore, 1) := by decide +kernel
theorem dX11_joins_24 : decode cX11_joins 24 = .ok (.iinc 1 1, 3) := by decide +kernel
theorem dX11_joins_27 : decode cX11_joins 27 = .ok (.goto (-25), 3) := by decide +kernel
theorem dX11_joins_30 : decode cX11_joins 30 = .ok (.lconst 1, 1) := by decide +kernel
theorem dX11_joins_31 : decode cX11_joins 31 = .ok (.lstore_n 1, 1) := by decide +kernel
theorem dX11_joins_32 : decode cX11_joins 32 = .ok (.iconst 0, 1) := by decide +kernel
theorem dX11_joins_33 : decode cX11_joins 33 = .ok (.istore_n 3, 1) := by decide +kernel
theorem dX11_joins_34 : decode cX11_joins 34 = .ok (.iload_n 3, 1) := by decide +kernel
theorem dX11_joins_35 : decode cX11_joins 35 = .ok (.aload_n 0, 1) := by decide +kernel
theorem dX11_joins_36 : decode cX11_joins 36 = .ok (.getfield 7, 3) := by decide +kernel
theorem dX11_joins_39 : decode cX11_joins 39 = .ok (.iconst 0, 1) := by decide +kernel
theorem dX11_joins_40 : decode cX11_joins 40 = .ok (.iaload, 1) := by decide +kernel
theorem dX11_joins_41 : decode cX11_joins 41 = .ok (.if_icmp .ge 169, 3) := by decide +kernel
theorem dX11_joins_44 : decode cX11_joins 44 = .ok (.aload_n 0, 1) := by decide +kernel
theorem dX11_joins_45 : decode cX11_joins 45 = .ok (.iload_n 3, 1) := by decide +kernel
theorem dX11_joins_46 : decode cX11_joins 46 = .ok (.iconst 0, 1) := by decide +kernel
theorem dX11_joins_47 : decode cX11_joins 47 = .ok (.invokevirtual 202, 3) := by decide +kernel
theorem dX11_joins_50 : decode cX11_joins 50 = .ok (.lload_n 1, 1) := by decide +kernel
theorem dX11_joins_51 : decode cX11_joins 51 = .ok (.ldc2_w 211, 3) := by decide +kernel
theorem dX11_joins_54 : decode cX11_joins 54 = .ok (.aload_n 0, 1) := by decide +kernel
theorem dX11_joins_55 : decode cX11_joins 55 = .ok (.getfield 153, 3) := by decide +kernel
theorem dX11_joins_58 : decode cX11_joins 58 = .ok (.ldiv, 1) := by decide +kernel
theorem dX11_joins_59 : decode cX11_joins 59 = .ok (.lcmp, 1) := by decide +kernel
theorem dX11_joins_60 : decode cX11_joins 60 = .ok (.ifCond .le 5, 3) := by decide +kernel
theorem dX11_joins_63 : decode cX11_joins 63 = .ok (.iconst 0, 1) := by decide +kernel
theorem dX11_joins_64 : decode cX11_joins 64 = .ok (.ireturn, 1) := by decide +kernel
theorem dX11_joins_65 : decode cX11_joins 65 = .ok (.lload_n 1, 1) := by decide +kernel
theorem dX11_joins_66 : decode cX11_joins 66 = .ok (.aload_n 0, 1) := by decide +kernel
theorem dX11_joins_67 : decode cX11_joins 67 = .ok (.getfield 153, 3) := by decide +kernel
theorem dX11_joins_70 : decode cX11_joins 70 = .ok (.lmul, 1) := by decide +kernel
theorem dX11_joins_71 : decode cX11_joins 71 = .ok (.lstore_n 1, 1) := by decide +kernel
theorem dX11_joins_72 : decode cX11_joins 72 = .ok (.iconst 0, 1) := by decide +kernel
theorem dX11_joins_73 : decode cX11_joins 73 = .ok (.istore 4, 2) := by decide +kernel
theorem dX11_joins_75 : decode cX11_joins 75 = .ok (.iload 4, 2) := by decide +kernel
theorem dX11_joins_77 : decode cX11_joins 77 = .ok (.sipush 1621, 3) := by decide +kernel
theorem dX11_joins_80 : decode cX11_joins 80 = .ok (.if_icmp .ge 17, 3) := by decide +kernel
theorem dX11_joins_83 : decode cX11_joins 83 = .ok (.aload_n 0, 1) := by decide +kernel
theorem dX11_joins_84 : decode cX11_joins 84 = .ok (.getfield 38, 3) := by decide +kernel
theorem dX11_joins_87 : decode cX11_joins 87 = .ok (.iload 4, 2) := by decide +kernel
theorem dX11_joins_89 : decode cX11_joins 89 = .ok (.lconst 0, 1) := by decide +kernel
theorem dX11_joins_90 : decode cX11_joins 90 = .ok (.lastore, 1) := by decide +kernel
theorem dX11_joins_91 : decode cX11_joins 91 = .ok (.iinc 4 1, 3) := by decide +kernel
theorem dX11_joins_94 : decode cX11_joins 94 = .ok (.goto (-19), 3) := by decide +kernel
theorem dX11_joins_97 : decode cX11_joins 97 = .ok (.iconst 0, 1) := by decide +kernel
theorem dX11_joins_98 : decode cX11_joins 98 = .ok (.istore 4, 2) := by decide +kernel
theorem dX11_joins_100 : decode cX11_joins 100 = .ok (.iload 4, 2) := by decide +kernel
theorem dX11_joins_102 : decode cX11_joins 102 = .ok (.sipush 540, 3) := by decide +kernel
theorem dX11_joins_105 : decode cX11_joins 105 = .ok (.iload_n 3, 1) := by decide +kernel
theorem dX11_joins_106 : decode cX11_joins 106 = .ok (.imul, 1) := by decide +kernel
theorem dX11_joins_107 : decode cX11_joins 107 = .ok (.if_icmp .gt 66, 3) := by decide +kernel
theorem dX11_joins_110 : decode cX11_joins 110 = .ok (.iconst 0, 1) := by decide +kernel
theorem dX11_joins_111 : decode cX11_joins 111 = .ok (.istore 5, 2) := by decide +kernel
theorem dX11_joins_113 : decode cX11_joins 113 = .ok (.iload 5, 2) := by decide +kernel
theorem dX11_joins_115 : decode cX11_joins 115 = .ok (.sipush 541, 3) := by decide +kernel
theorem dX11_joins_118 : decode cX11_joins 118 = .ok (.if_icmp .ge 49, 3) := by decide +kernel
theorem dX11_joins_121 : decode cX11_joins 121 = .ok (.aload_n 0, 1) := by decide +kernel
theorem dX11_joins_122 : decode cX11_joins 122 = .ok (.getfield 35, 3) := by decide +kernel
theorem dX11_joins_125 : decode cX11_joins 125 = .ok (.iload 4, 2) := by decide +kernel
theorem dX11_joins_127 : decode cX11_joins 127 = .ok (.laload, 1) := by decide +kernel
theorem dX11_joins_128 : decode cX11_joins 128 = .ok (.lconst 0, 1) := by decide +kernel
theorem dX11_joins_129 : decode cX11_joins 129 = .ok (.lcmp, 1) := by decide +kernel
theorem dX11_joins_130 : decode cX11_joins 130 = .ok (.ifCond .le 37, 3) := by decide +kernel
theorem dX11_joins_133 : decode cX11_joins 133 = .ok (.aload_n 0, 1) := by decide +kernel
theorem dX11_joins_134 : decode cX11_joins 134 = .ok (.getfield 38, 3) := by decide +kernel
theorem dX11_joins_137 : decode cX11_joins 137 = .ok (.iload 4, 2) := by decide +kernel
theorem dX11_joins_139 : decode cX11_joins 139 = .ok (.iload 5, 2) := by decide +kernel
theorem dX11_joins_141 : decode cX11_joins 141 = .ok (.iadd, 1) := by decide +kernel
theorem dX11_joins_142 : decode cX11_joins 142 = .ok (.dup2, 1) := by decide +kernel
theorem dX11_joins_143 : decode cX11_joins 143 = .ok (.laload, 1) := by decide +kernel
theorem dX11_joins_144 : decode cX11_joins 144 = .ok (.aload_n 0, 1) := by decide +kernel
theorem dX11_joins_145 : decode cX11_joins 145 = .ok (.getfield 35, 3) := by decide +kernel
theorem dX11_joins_148 : decode cX11_joins 148 = .ok (.iload 4, 2) := by decide +kernel
theorem dX11_joins_150 : decode cX11_joins 150 = .ok (.laload, 1) := by decide +kernel
theorem dX11_joins_151 : decode cX11_joins 151 = .ok (.aload_n 0, 1) := by decide +kernel
theorem dX11_joins_152 : decode cX11_joins 152 = .ok (.getfield 32, 3) := by decide +kernel
theorem dX11_joins_155 : decode cX11_joins 155 = .ok (.iload 5, 2) := by decide +kernel
theorem dX11_joins_157 : decode cX11_joins 157 = .ok (.laload, 1) := by decide +kernel
theorem dX11_joins_158 : decode cX11_joins 158 = .ok (.lmul, 1) := by decide +kernel
theorem dX11_joins_159 : decode cX11_joins 159 = .ok (.ladd, 1) := by decide +kernel
theorem dX11_joins_160 : decode cX11_joins 160 = .ok (.lastore, 1) := by decide +kernel
theorem dX11_joins_161 : decode cX11_joins 161 = .ok (.iinc 5 1, 3) := by decide +kernel
theorem dX11_joins_164 : decode cX11_joins 164 = .ok (.goto (-51), 3) := by decide +kernel
theorem dX11_joins_167 : decode cX11_joins 167 = .ok (.iinc 4 1, 3) := by decide +kernel
theorem dX11_joins_170 : decode cX11_joins 170 = .ok (.goto (-70), 3) := by decide +kernel
theorem dX11_joins_173 : decode cX11_joins 173 = .ok (.iconst 0, 1) := by decide +kernel
theorem dX11_joins_174 : decode cX11_joins 174 = .ok (.istore 4, 2) := by decide +kernel
theorem dX11_joins_176 : decode cX11_joins 176 = .ok (.iload 4, 2) := by decide +kernel
theorem dX11_joins_178 : decode cX11_joins 178 = .ok (.sipush 1621, 3) := by decide +kernel
theorem dX11_joins_181 : decode cX11_joins 181 = .ok (.if_icmp .ge 23, 3) := by decide +kernel
theorem dX11_joins_184 : decode cX11_joins 184 = .ok (.aload_n 0, 1) := by decide +kernel
theorem dX11_joins_185 : decode cX11_joins 185 = .ok (.getfield 35, 3) := by decide +kernel
theorem dX11_joins_188 : decode cX11_joins 188 = .ok (.iload 4, 2) := by decide +kernel
theorem dX11_joins_190 : decode cX11_joins 190 = .ok (.aload_n 0, 1) := by decide +kernel
theorem dX11_joins_191 : decode cX11_joins 191 = .ok (.getfield 38, 3) := by decide +kernel
theorem dX11_joins_194 : decode cX11_joins 194 = .ok (.iload 4, 2) := by decide +kernel
theorem dX11_joins_196 : decode cX11_joins 196 = .ok (.laload, 1) := by decide +kernel
theorem dX11_joins_197 : decode cX11_joins 197 = .ok (.lastore, 1) := by decide +kernel
theorem dX11_joins_198 : decode cX11_joins 198 = .ok (.iinc 4 1, 3) := by decide +kernel
theorem dX11_joins_201 : decode cX11_joins 201 = .ok (.goto (-25), 3) := by decide +kernel
theorem dX11_joins_204 : decode cX11_joins 204 = .ok (.iinc 3 1, 3) := by decide +kernel
theorem dX11_joins_207 : decode cX11_joins 207 = .ok (.goto (-173), 3) := by decide +kernel
theorem dX11_joins_210 : decode cX11_joins 210 = .ok (.iconst 1, 1) := by decide +kernel
theorem dX11_joins_211 : decode cX11_joins 211 = .ok (.ireturn, 1) := by decide +kernel
set_option maxRecDepth 20000 in
theorem ggX11_seenSums_X11_seenSum : GoodIn wsX11_seenSums wsX11_seenSum := goodIn_r _ [6, 7, 8, 9, 5, 10, 1, 11, 12, 13, 14, 15, 16, 17, 18, 19, 20, 21, 22, 23, 24, 25, 26, 27, 28, 29, 30, 31, 32, 33, 34, 35, 36, 37, 38, 39, 40, 41, 42, 43, 44, 45, 46, 47, 48, 49] (by decide +kernel) (by decide +kernel)
set_option maxRecDepth 20000 in
theorem gX11_seenSums_X11_seenSum : GoodIn wsX11_seenSums (wsV RX11 188 RX11 yX11_seenSum wsX11_seenSum) := goodIn_app (goodIn_of _ (by decide +kernel)) ggX11_seenSums_X11_seenSum
theorem dX11_seenSums_0 : decode cX11_seenSums 0 = .ok (.iconst 0, 1) := by decide +kernel
theorem dX11_seenSums_1 : decode cX11_seenSums 1 = .ok (.istore_n 1, 1) := by decide +kernel
theorem dX11_seenSums_2 : decode cX11_seenSums 2 = .ok (.iconst 0, 1) := by decide +kernel
theorem dX11_seenSums_3 : decode cX11_seenSums 3 = .ok (.istore_n 2, 1) := by decide +kernel
theorem dX11_seenSums_4 : decode cX11_seenSums 4 = .ok (.iload_n 2, 1) := by decide +kernel
theorem dX11_seenSums_5 : decode cX11_seenSums 5 = .ok (.aload_n 0, 1) := by decide +kernel
theorem dX11_seenSums_6 : decode cX11_seenSums 6 = .ok (.getfield 7, 3) := by decide +kernel
theorem dX11_seenSums_9 : decode cX11_seenSums 9 = .ok (.iconst 0, 1) := by decide +kernel
theorem dX11_seenSums_10 : decode cX11_seenSums 10 = .ok (.iaload, 1) := by decide +kernel
theorem dX11_seenSums_11 : decode cX11_seenSums 11 = .ok (.if_icmp .ge 17, 3) := by decide +kernel
theorem dX11_seenSums_14 : decode cX11_seenSums 14 = .ok (.iload_n 1, 1) := by decide +kernel
theorem dX11_seenSums_15 : decode cX11_seenSums 15 = .ok (.aload_n 0, 1) := by decide +kernel
theorem dX11_seenSums_16 : decode cX11_seenSums 16 = .ok (.iload_n 2, 1) := by decide +kernel
theorem dX11_seenSums_17 : decode cX11_seenSums 17 = .ok (.invokevirtual 188, 3) := by decide +kernel
theorem dX11_seenSums_20 : decode cX11_seenSums 20 = .ok (.iadd, 1) := by decide +kernel
theorem dX11_seenSums_21 : decode cX11_seenSums 21 = .ok (.istore_n 1, 1) := by decide +kernel
theorem dX11_seenSums_22 : decode cX11_seenSums 22 = .ok (.iinc 2 1, 3) := by decide +kernel
theorem dX11_seenSums_25 : decode cX11_seenSums 25 = .ok (.goto (-21), 3) := by decide +kernel
theorem dX11_seenSums_28 : decode cX11_seenSums 28 = .ok (.iload_n 1, 1) := by decide +kernel
theorem dX11_seenSums_29 : decode cX11_seenSums 29 = .ok (.ireturn, 1) := by decide +kernel
set_option maxRecDepth 20000 in
theorem ggX11_joined_X11_in : GoodIn wsX11_joined wsX11_in := goodIn_r _ [7] (by decide +kernel) (by decide +kernel)
set_option maxRecDepth 20000 in
theorem gX11_joined_X11_in : GoodIn wsX11_joined (va_wsS RX11 85 yX11_in wsX11_in) := goodIn_app (goodIn_of _ (by decide +kernel)) ggX11_joined_X11_in
set_option maxRecDepth 20000 in
theorem ggX11_joined_X11_joins : GoodIn wsX11_joined wsX11_joins := goodIn_r _ [11, 3, 12, 13, 14, 15, 16, 17, 18, 19, 6, 20, 21, 22, 23, 24, 25, 26, 27, 28, 29, 30, 31, 32, 33, 34, 35, 36, 37, 38, 39, 40, 41, 42, 43, 44, 45, 46, 47, 48, 49, 50, 51, 52, 53, 54, 55, 56, 57, 58, 59, 60, 61, 62, 63, 64, 65, 66, 67, 68, 69, 70, 71, 72, 73, 74, 75, 76, 77, 78, 79, 80, 81, 82, 83, 84, 85, 86, 87, 95, 96, 97, 98, 99, 100, 101, 102, 103, 104, 105, 106, 107, 108, 109, 110, 111, 112, 113, 114, 115, 116, 117, 118, 119, 120, 121, 122, 123, 124, 125, 126] (by decide +kernel) (by decide +kernel)
set_option maxRecDepth 20000 in
theorem gX11_joined_X11_joins : GoodIn wsX11_joined (wsV RX11 213 RX11 yX11_joins wsX11_joins) := goodIn_app (goodIn_of _ (by decide +kernel)) ggX11_joined_X11_joins
set_option maxRecDepth 20000 in
theorem ggX11_joined_X11_seenSums : GoodIn wsX11_joined wsX11_seenSums := goodIn_r _ [91, 12, 44, 45, 46, 6, 47, 28, 29, 30, 31, 32, 33, 34, 35, 36, 37, 38, 95, 96, 97, 98, 99, 100, 101, 102, 103, 104, 105, 106, 107, 108, 109, 110, 111, 112, 113, 114, 115, 116, 117, 118, 119, 120, 121, 122, 123, 124, 125, 126] (by decide +kernel) (by decide +kernel)
set_option maxRecDepth 20000 in
theorem gX11_joined_X11_seenSums : GoodIn wsX11_joined (wsV RX11 218 RX11 yX11_seenSums wsX11_seenSums) := goodIn_app (goodIn_of _ (by decide +kernel)) ggX11_joined_X11_seenSums
set_option maxRecDepth 20000 in
theorem ggX11_joined_X11_common : GoodIn wsX11_joined wsX11_common := goodIn_r _ [94] (by decide +kernel) (by decide +kernel)
set_option maxRecDepth 20000 in
theorem gX11_joined_X11_common : GoodIn wsX11_joined (va_wsS RX11 207 yX11_common wsX11_common) := goodIn_app (goodIn_of _ (by decide +kernel)) ggX11_joined_X11_common
theorem dX11_joined_0 : decode cX11_joined 0 = .ok (.iload_n 1, 1) := by decide +kernel
theorem dX11_joined_1 : decode cX11_joined 1 = .ok (.iconst 1, 1) := by decide +kernel
theorem dX11_joined_2 : decode cX11_joined 2 = .ok (.iconst 2, 1) := by decide +kernel
theorem dX11_joined_3 : decode cX11_joined 3 = .ok (.invokestatic 85, 3) := by decide +kernel
theorem dX11_joined_6 : decode cX11_joined 6 = .ok (.ifCond .eq 12, 3) := by decide +kernel
theorem dX11_joined_9 : decode cX11_joined 9 = .ok (.iload_n 2, 1) := by decide +kernel
theorem dX11_joined_10 : decode cX11_joined 10 = .ok (.iconst 0, 1) := by decide +kernel
theorem dX11_joined_11 : decode cX11_joined 11 = .ok (.iconst 1, 1) := by decide +kernel
theorem dX11_joined_12 : decode cX11_joined 12 = .ok (.invokestatic 85, 3) := by decide +kernel
theorem dX11_joined_15 : decode cX11_joined 15 = .ok (.ifCond .ne 7, 3) := by decide +kernel
theorem dX11_joined_18 : decode cX11_joined 18 = .ok (.ldc2_w 205, 3) := by decide +kernel
theorem dX11_joined_21 : decode cX11_joined 21 = .ok (.lreturn, 1) := by decide +kernel
theorem dX11_joined_22 : decode cX11_joined 22 = .ok (.aload_n 0, 1) := by decide +kernel
theorem dX11_joined_23 : decode cX11_joined 23 = .ok (.invokevirtual 213, 3) := by decide +kernel
theorem dX11_joined_26 : decode cX11_joined 26 = .ok (.ifCond .ne 7, 3) := by decide +kernel
theorem dX11_joined_29 : decode cX11_joined 29 = .ok (.ldc2_w 216, 3) := by decide +kernel
theorem dX11_joined_32 : decode cX11_joined 32 = .ok (.lreturn, 1) := by decide +kernel
theorem dX11_joined_33 : decode cX11_joined 33 = .ok (.aload_n 0, 1) := by decide +kernel
theorem dX11_joined_34 : decode cX11_joined 34 = .ok (.invokevirtual 218, 3) := by decide +kernel
theorem dX11_joined_37 : decode cX11_joined 37 = .ok (.istore_n 3, 1) := by decide +kernel
theorem dX11_joined_38 : decode cX11_joined 38 = .ok (.lconst 0, 1) := by decide +kernel
theorem dX11_joined_39 : decode cX11_joined 39 = .ok (.lstore 4, 2) := by decide +kernel
theorem dX11_joined_41 : decode cX11_joined 41 = .ok (.lconst 0, 1) := by decide +kernel
theorem dX11_joined_42 : decode cX11_joined 42 = .ok (.lstore 6, 2) := by decide +kernel
theorem dX11_joined_44 : decode cX11_joined 44 = .ok (.iconst 0, 1) := by decide +kernel
theorem dX11_joined_45 : decode cX11_joined 45 = .ok (.istore 8, 2) := by decide +kernel
theorem dX11_joined_47 : decode cX11_joined 47 = .ok (.iload 8, 2) := by decide +kernel
theorem dX11_joined_49 : decode cX11_joined 49 = .ok (.sipush 1621, 3) := by decide +kernel
theorem dX11_joined_52 : decode cX11_joined 52 = .ok (.if_icmp .ge 57, 3) := by decide +kernel
theorem dX11_joined_55 : decode cX11_joined 55 = .ok (.lload 4, 2) := by decide +kernel
theorem dX11_joined_57 : decode cX11_joined 57 = .ok (.iload_n 1, 1) := by decide +kernel
theorem dX11_joined_58 : decode cX11_joined 58 = .ok (.iconst 1, 1) := by decide +kernel
theorem dX11_joined_59 : decode cX11_joined 59 = .ok (.if_icmp .ne 12, 3) := by decide +kernel
theorem dX11_joined_62 : decode cX11_joined 62 = .ok (.iload 8, 2) := by decide +kernel
theorem dX11_joined_64 : decode cX11_joined 64 = .ok (.iload_n 3, 1) := by decide +kernel
theorem dX11_joined_65 : decode cX11_joined 65 = .ok (.if_icmp .lt 22, 3) := by decide +kernel
theorem dX11_joined_68 : decode cX11_joined 68 = .ok (.goto 9, 3) := by decide +kernel
theorem dX11_joined_71 : decode cX11_joined 71 = .ok (.iload 8, 2) := by decide +kernel
theorem dX11_joined_73 : decode cX11_joined 73 = .ok (.iload_n 3, 1) := by decide +kernel
theorem dX11_joined_74 : decode cX11_joined 74 = .ok (.if_icmp .gt 13, 3) := by decide +kernel
theorem dX11_joined_77 : decode cX11_joined 77 = .ok (.aload_n 0, 1) := by decide +kernel
theorem dX11_joined_78 : decode cX11_joined 78 = .ok (.getfield 35, 3) := by decide +kernel
theorem dX11_joined_81 : decode cX11_joined 81 = .ok (.iload 8, 2) := by decide +kernel
theorem dX11_joined_83 : decode cX11_joined 83 = .ok (.laload, 1) := by decide +kernel
theorem dX11_joined_84 : decode cX11_joined 84 = .ok (.goto 4, 3) := by decide +kernel
theorem dX11_joined_87 : decode cX11_joined 87 = .ok (.lconst 0, 1) := by decide +kernel
theorem dX11_joined_88 : decode cX11_joined 88 = .ok (.ladd, 1) := by decide +kernel
theorem dX11_joined_89 : decode cX11_joined 89 = .ok (.lstore 4, 2) := by decide +kernel
theorem dX11_joined_91 : decode cX11_joined 91 = .ok (.lload 6, 2) := by decide +kernel
theorem dX11_joined_93 : decode cX11_joined 93 = .ok (.aload_n 0, 1) := by decide +kernel
theorem dX11_joined_94 : decode cX11_joined 94 = .ok (.getfield 35, 3) := by decide +kernel
theorem dX11_joined_97 : decode cX11_joined 97 = .ok (.iload 8, 2) := by decide +kernel
theorem dX11_joined_99 : decode cX11_joined 99 = .ok (.laload, 1) := by decide +kernel
theorem dX11_joined_100 : decode cX11_joined 100 = .ok (.ladd, 1) := by decide +kernel
theorem dX11_joined_101 : decode cX11_joined 101 = .ok (.lstore 6, 2) := by decide +kernel
theorem dX11_joined_103 : decode cX11_joined 103 = .ok (.iinc 8 1, 3) := by decide +kernel
theorem dX11_joined_106 : decode cX11_joined 106 = .ok (.goto (-59), 3) := by decide +kernel
theorem dX11_joined_109 : decode cX11_joined 109 = .ok (.iload_n 2, 1) := by decide +kernel
theorem dX11_joined_110 : decode cX11_joined 110 = .ok (.ifCond .ne 8, 3) := by decide +kernel
theorem dX11_joined_113 : decode cX11_joined 113 = .ok (.lload 4, 2) := by decide +kernel
theorem dX11_joined_115 : decode cX11_joined 115 = .ok (.goto 5, 3) := by decide +kernel
theorem dX11_joined_118 : decode cX11_joined 118 = .ok (.lload 6, 2) := by decide +kernel
theorem dX11_joined_120 : decode cX11_joined 120 = .ok (.lload 4, 2) := by decide +kernel
theorem dX11_joined_122 : decode cX11_joined 122 = .ok (.lload 6, 2) := by decide +kernel
theorem dX11_joined_124 : decode cX11_joined 124 = .ok (.invokestatic 207, 3) := by decide +kernel
theorem dX11_joined_127 : decode cX11_joined 127 = .ok (.ldiv, 1) := by decide +kernel
theorem dX11_joined_128 : decode cX11_joined 128 = .ok (.lreturn, 1) := by decide +kernel
set_option maxRecDepth 20000 in
theorem ggX11_strange_X11_isStratum : GoodIn wsX11_strange wsX11_isStratum := goodIn_r _ [6, 7, 8, 9, 5, 10, 83, 84, 85, 86, 87, 88, 89, 90, 91, 92, 93, 94, 95, 96, 97, 98, 99, 100, 101, 102, 103, 104, 105, 106, 107, 108, 109, 110, 111, 112, 113, 114] (by decide +kernel) (by decide +kernel)
set_option maxRecDepth 20000 in
theorem gX11_strange_X11_isStratum : GoodIn wsX11_strange (wsV RX11 110 RX11 yX11_isStratum wsX11_isStratum) := goodIn_app (goodIn_of _ (by decide +kernel)) ggX11_strange_X11_isStratum
set_option maxRecDepth 20000 in
theorem ggX11_strange_X11_in : GoodIn wsX11_strange wsX11_in := goodIn_r _ [10] (by decide +kernel) (by decide +kernel)
set_option maxRecDepth 20000 in
theorem gX11_strange_X11_in : GoodIn wsX11_strange (va_wsS RX11 85 yX11_in wsX11_in) := goodIn_app (goodIn_of _ (by decide +kernel)) ggX11_strange_X11_in
set_option maxRecDepth 20000 in
theorem ggX11_strange_X11_goesThrough : GoodIn wsX11_strange wsX11_goesThrough := goodIn_r _ [14, 15, 16, 1, 17, 18, 19, 20, 21, 5, 22, 23, 24, 25, 26, 7, 27, 28, 29, 30, 31, 32, 33, 34, 35, 36, 37, 38, 39, 40, 41, 42, 43, 44, 45, 46, 47, 48, 49, 50, 51, 52, 53, 54, 55, 56, 57, 58, 59, 60, 61, 62, 63, 64, 65, 66, 67, 68, 69, 70, 71, 72, 73, 74, 75, 76, 77, 78, 79, 80, 81, 82, 83, 84, 85, 86, 87, 88, 89, 90, 91, 92, 93, 94, 95, 96, 97, 98, 99, 100, 101, 102, 103, 104, 105, 106, 107, 108, 109, 110, 111, 112, 113, 114] (by decide +kernel) (by decide +kernel)
set_option maxRecDepth 20000 in
theorem gX11_strange_X11_goesThrough : GoodIn wsX11_strange (wsV RX11 202 RX11 yX11_goesThrough wsX11_goesThrough) := goodIn_app (goodIn_of _ (by decide +kernel)) ggX11_strange_X11_goesThrough
theorem dX11_strange_0 : decode cX11_strange 0 = .ok (.aload_n 0, 1) := by decide +kernel
theorem dX11_strange_1 : decode cX11_strange 1 = .ok (.iload_n 1, 1) := by decide +kernel
theorem dX11_strange_2 : decode cX11_strange 2 = .ok (.invokevirtual 110, 3) := by decide +kernel
theorem dX11_strange_5 : decode cX11_strange 5 = .ok (.ifCond .eq 12, 3) := by decide +kernel
theorem dX11_strange_8 : decode cX11_strange 8 = .ok (.iload_n 2, 1) := by decide +kernel
theorem dX11_strange_9 : decode cX11_strange 9 = .ok (.iconst 0, 1) := by decide +kernel
theorem dX11_strange_10 : decode cX11_strange 10 = .ok (.iconst 2, 1) := by decide +kernel
theorem dX11_strange_11 : decode cX11_strange 11 = .ok (.invokestatic 85, 3) := by decide +kernel
theorem dX11_strange_14 : decode cX11_strange 14 = .ok (.ifCond .ne 5, 3) := by decide +kernel
theorem dX11_strange_17 : decode cX11_strange 17 = .ok (.iconst (-1), 1) := by decide +kernel
theorem dX11_strange_18 : decode cX11_strange 18 = .ok (.ireturn, 1) := by decide +kernel
theorem dX11_strange_19 : decode cX11_strange 19 = .ok (.aload_n 0, 1) := by decide +kernel
theorem dX11_strange_20 : decode cX11_strange 20 = .ok (.iload_n 1, 1) := by decide +kernel
theorem dX11_strange_21 : decode cX11_strange 21 = .ok (.iload_n 2, 1) := by decide +kernel
theorem dX11_strange_22 : decode cX11_strange 22 = .ok (.invokevirtual 202, 3) := by decide +kernel
theorem dX11_strange_25 : decode cX11_strange 25 = .ok (.aload_n 0, 1) := by decide +kernel
theorem dX11_strange_26 : decode cX11_strange 26 = .ok (.getfield 172, 3) := by decide +kernel
theorem dX11_strange_29 : decode cX11_strange 29 = .ok (.ireturn, 1) := by decide +kernel
set_option maxRecDepth 20000 in
theorem ggX11_laysAhead_X11_columns : GoodIn wsX11_laysAhead wsX11_columns := goodIn_r _ [6, 7, 20, 21, 22, 23, 24, 25, 26, 27, 28, 29, 30, 31, 32, 33, 34, 35, 36, 37, 38, 39, 40, 41, 42, 43, 44, 45, 46, 47, 48, 49, 50, 51] (by decide +kernel) (by decide +kernel)
set_option maxRecDepth 20000 in
theorem gX11_laysAhead_X11_columns : GoodIn wsX11_laysAhead (wsV RX11 114 RX11 yX11_columns wsX11_columns) := goodIn_app (goodIn_of _ (by decide +kernel)) ggX11_laysAhead_X11_columns
set_option maxRecDepth 20000 in
theorem ggX11_laysAhead_X11_of : GoodIn wsX11_laysAhead wsX11_of := goodIn_r _ [11, 7, 12, 13, 5, 14, 20, 21, 22, 23, 24, 25, 26, 27, 28, 29, 30, 31, 32, 33, 34, 35, 36, 37, 38, 39, 40, 41, 42, 43, 44, 45, 46, 47, 48, 49, 50, 51] (by decide +kernel) (by decide +kernel)
set_option maxRecDepth 20000 in
theorem gX11_laysAhead_X11_of : GoodIn wsX11_laysAhead (wsV RX11 125 RX11 yX11_of wsX11_of) := goodIn_app (goodIn_of _ (by decide +kernel)) ggX11_laysAhead_X11_of
set_option maxRecDepth 20000 in
theorem ggX11_laysAhead_X11_setsOf : GoodIn wsX11_laysAhead wsX11_setsOf := goodIn_r _ [18, 19, 8, 9, 10, 5, 11, 7, 12, 13, 14, 20, 21, 22, 23, 24, 25, 26, 27, 28, 29, 30, 31, 32, 33, 34, 35, 36, 37, 38, 39, 40, 41, 42, 43, 44, 45, 46, 47, 48, 49, 50, 51] (by decide +kernel) (by decide +kernel)
set_option maxRecDepth 20000 in
theorem gX11_laysAhead_X11_setsOf : GoodIn wsX11_laysAhead (wsV RX11 142 RX11 yX11_setsOf wsX11_setsOf) := goodIn_app (goodIn_of _ (by decide +kernel)) ggX11_laysAhead_X11_setsOf
theorem dX11_laysAhead_0 : decode cX11_laysAhead 0 = .ok (.iconst 0, 1) := by decide +kernel
theorem dX11_laysAhead_1 : decode cX11_laysAhead 1 = .ok (.istore_n 2, 1) := by decide +kernel
theorem dX11_laysAhead_2 : decode cX11_laysAhead 2 = .ok (.iload_n 2, 1) := by decide +kernel
theorem dX11_laysAhead_3 : decode cX11_laysAhead 3 = .ok (.sipush 366, 3) := by decide +kernel
theorem dX11_laysAhead_6 : decode cX11_laysAhead 6 = .ok (.if_icmp .ge 24, 3) := by decide +kernel
theorem dX11_laysAhead_9 : decode cX11_laysAhead 9 = .ok (.aload_n 0, 1) := by decide +kernel
theorem dX11_laysAhead_10 : decode cX11_laysAhead 10 = .ok (.getfield 41, 3) := by decide +kernel
theorem dX11_laysAhead_13 : decode cX11_laysAhead 13 = .ok (.iload_n 2, 1) := by decide +kernel
theorem dX11_laysAhead_14 : decode cX11_laysAhead 14 = .ok (.iload_n 2, 1) := by decide +kernel
theorem dX11_laysAhead_15 : decode cX11_laysAhead 15 = .ok (.ifCond .ne 7, 3) := by decide +kernel
theorem dX11_laysAhead_18 : decode cX11_laysAhead 18 = .ok (.lconst 1, 1) := by decide +kernel
theorem dX11_laysAhead_19 : decode cX11_laysAhead 19 = .ok (.goto 4, 3) := by decide +kernel
theorem dX11_laysAhead_22 : decode cX11_laysAhead 22 = .ok (.lconst 0, 1) := by decide +kernel
theorem dX11_laysAhead_23 : decode cX11_laysAhead 23 = .ok (.lastore, 1) := by decide +kernel
theorem dX11_laysAhead_24 : decode cX11_laysAhead 24 = .ok (.iinc 2 1, 3) := by decide +kernel
theorem dX11_laysAhead_27 : decode cX11_laysAhead 27 = .ok (.goto (-25), 3) := by decide +kernel
theorem dX11_laysAhead_30 : decode cX11_laysAhead 30 = .ok (.iconst 0, 1) := by decide +kernel
theorem dX11_laysAhead_31 : decode cX11_laysAhead 31 = .ok (.istore_n 2, 1) := by decide +kernel
theorem dX11_laysAhead_32 : decode cX11_laysAhead 32 = .ok (.iload_n 2, 1) := by decide +kernel
theorem dX11_laysAhead_33 : decode cX11_laysAhead 33 = .ok (.aload_n 0, 1) := by decide +kernel
theorem dX11_laysAhead_34 : decode cX11_laysAhead 34 = .ok (.iload_n 1, 1) := by decide +kernel
theorem dX11_laysAhead_35 : decode cX11_laysAhead 35 = .ok (.invokevirtual 114, 3) := by decide +kernel
theorem dX11_laysAhead_38 : decode cX11_laysAhead 38 = .ok (.if_icmp .ge 99, 3) := by decide +kernel
theorem dX11_laysAhead_41 : decode cX11_laysAhead 41 = .ok (.iconst 0, 1) := by decide +kernel
theorem dX11_laysAhead_42 : decode cX11_laysAhead 42 = .ok (.istore_n 3, 1) := by decide +kernel
theorem dX11_laysAhead_43 : decode cX11_laysAhead 43 = .ok (.iload_n 3, 1) := by decide +kernel
theorem dX11_laysAhead_44 : decode cX11_laysAhead 44 = .ok (.bipush 61, 2) := by decide +kernel
theorem dX11_laysAhead_46 : decode cX11_laysAhead 46 = .ok (.if_icmp .ge 85, 3) := by decide +kernel
theorem dX11_laysAhead_49 : decode cX11_laysAhead 49 = .ok (.iconst 0, 1) := by decide +kernel
theorem dX11_laysAhead_50 : decode cX11_laysAhead 50 = .ok (.istore 4, 2) := by decide +kernel
theorem dX11_laysAhead_52 : decode cX11_laysAhead 52 = .ok (.iload 4, 2) := by decide +kernel
theorem dX11_laysAhead_54 : decode cX11_laysAhead 54 = .ok (.aload_n 0, 1) := by decide +kernel
theorem dX11_laysAhead_55 : decode cX11_laysAhead 55 = .ok (.iload_n 1, 1) := by decide +kernel
theorem dX11_laysAhead_56 : decode cX11_laysAhead 56 = .ok (.iload_n 2, 1) := by decide +kernel
theorem dX11_laysAhead_57 : decode cX11_laysAhead 57 = .ok (.iconst 0, 1) := by decide +kernel
theorem dX11_laysAhead_58 : decode cX11_laysAhead 58 = .ok (.invokevirtual 125, 3) := by decide +kernel
theorem dX11_laysAhead_61 : decode cX11_laysAhead 61 = .ok (.if_icmp .gt 64, 3) := by decide +kernel
theorem dX11_laysAhead_64 : decode cX11_laysAhead 64 = .ok (.aload_n 0, 1) := by decide +kernel
theorem dX11_laysAhead_65 : decode cX11_laysAhead 65 = .ok (.getfield 41, 3) := by decide +kernel
theorem dX11_laysAhead_68 : decode cX11_laysAhead 68 = .ok (.bipush 61, 2) := by decide +kernel
theorem dX11_laysAhead_70 : decode cX11_laysAhead 70 = .ok (.iload_n 2, 1) := by decide +kernel
theorem dX11_laysAhead_71 : decode cX11_laysAhead 71 = .ok (.imul, 1) := by decide +kernel
theorem dX11_laysAhead_72 : decode cX11_laysAhead 72 = .ok (.iload_n 3, 1) := by decide +kernel
theorem dX11_laysAhead_73 : decode cX11_laysAhead 73 = .ok (.iadd, 1) := by decide +kernel
theorem dX11_laysAhead_74 : decode cX11_laysAhead 74 = .ok (.laload, 1) := by decide +kernel
theorem dX11_laysAhead_75 : decode cX11_laysAhead 75 = .ok (.lconst 0, 1) := by decide +kernel
theorem dX11_laysAhead_76 : decode cX11_laysAhead 76 = .ok (.lcmp, 1) := by decide +kernel
theorem dX11_laysAhead_77 : decode cX11_laysAhead 77 = .ok (.ifCond .le 48, 3) := by decide +kernel
theorem dX11_laysAhead_80 : decode cX11_laysAhead 80 = .ok (.aload_n 0, 1) := by decide +kernel
theorem dX11_laysAhead_81 : decode cX11_laysAhead 81 = .ok (.getfield 41, 3) := by decide +kernel
theorem dX11_laysAhead_84 : decode cX11_laysAhead 84 = .ok (.bipush 61, 2) := by decide +kernel
theorem dX11_laysAhead_86 : decode cX11_laysAhead 86 = .ok (.iload_n 2, 1) := by decide +kernel
theorem dX11_laysAhead_87 : decode cX11_laysAhead 87 = .ok (.iconst 1, 1) := by decide +kernel
theorem dX11_laysAhead_88 : decode cX11_laysAhead 88 = .ok (.iadd, 1) := by decide +kernel
theorem dX11_laysAhead_89 : decode cX11_laysAhead 89 = .ok (.imul, 1) := by decide +kernel
theorem dX11_laysAhead_90 : decode cX11_laysAhead 90 = .ok (.iload_n 3, 1) := by decide +kernel
theorem dX11_laysAhead_91 : decode cX11_laysAhead 91 = .ok (.iadd, 1) := by decide +kernel
theorem dX11_laysAhead_92 : decode cX11_laysAhead 92 = .ok (.iload 4, 2) := by decide +kernel
theorem dX11_laysAhead_94 : decode cX11_laysAhead 94 = .ok (.iadd, 1) := by decide +kernel
theorem dX11_laysAhead_95 : decode cX11_laysAhead 95 = .ok (.dup2, 1) := by decide +kernel
theorem dX11_laysAhead_96 : decode cX11_laysAhead 96 = .ok (.laload, 1) := by decide +kernel
theorem dX11_laysAhead_97 : decode cX11_laysAhead 97 = .ok (.aload_n 0, 1) := by decide +kernel
theorem dX11_laysAhead_98 : decode cX11_laysAhead 98 = .ok (.getfield 41, 3) := by decide +kernel
theorem dX11_laysAhead_101 : decode cX11_laysAhead 101 = .ok (.bipush 61, 2) := by decide +kernel
theorem dX11_laysAhead_103 : decode cX11_laysAhead 103 = .ok (.iload_n 2, 1) := by decide +kernel
theorem dX11_laysAhead_104 : decode cX11_laysAhead 104 = .ok (.imul, 1) := by decide +kernel
theorem dX11_laysAhead_105 : decode cX11_laysAhead 105 = .ok (.iload_n 3, 1) := by decide +kernel
theorem dX11_laysAhead_106 : decode cX11_laysAhead 106 = .ok (.iadd, 1) := by decide +kernel
theorem dX11_laysAhead_107 : decode cX11_laysAhead 107 = .ok (.laload, 1) := by decide +kernel
theorem dX11_laysAhead_108 : decode cX11_laysAhead 108 = .ok (.aload_n 0, 1) := by decide +kernel
theorem dX11_laysAhead_109 : decode cX11_laysAhead 109 = .ok (.iload_n 1, 1) := by decide +kernel
theorem dX11_laysAhead_110 : decode cX11_laysAhead 110 = .ok (.iload_n 2, 1) := by decide +kernel
theorem dX11_laysAhead_111 : decode cX11_laysAhead 111 = .ok (.iload 4, 2) := by decide +kernel
theorem dX11_laysAhead_113 : decode cX11_laysAhead 113 = .ok (.invokevirtual 142, 3) := by decide +kernel
theorem dX11_laysAhead_116 : decode cX11_laysAhead 116 = .ok (.lmul, 1) := by decide +kernel
theorem dX11_laysAhead_117 : decode cX11_laysAhead 117 = .ok (.ladd, 1) := by decide +kernel
theorem dX11_laysAhead_118 : decode cX11_laysAhead 118 = .ok (.lastore, 1) := by decide +kernel
theorem dX11_laysAhead_119 : decode cX11_laysAhead 119 = .ok (.iinc 4 1, 3) := by decide +kernel
theorem dX11_laysAhead_122 : decode cX11_laysAhead 122 = .ok (.goto (-70), 3) := by decide +kernel
theorem dX11_laysAhead_125 : decode cX11_laysAhead 125 = .ok (.iinc 3 1, 3) := by decide +kernel
theorem dX11_laysAhead_128 : decode cX11_laysAhead 128 = .ok (.goto (-85), 3) := by decide +kernel
theorem dX11_laysAhead_131 : decode cX11_laysAhead 131 = .ok (.iinc 2 1, 3) := by decide +kernel
theorem dX11_laysAhead_134 : decode cX11_laysAhead 134 = .ok (.goto (-102), 3) := by decide +kernel
theorem dX11_laysAhead_137 : decode cX11_laysAhead 137 = .ok (.return_, 1) := by decide +kernel
set_option maxRecDepth 20000 in
theorem ggX11_laysBehind_X11_columns : GoodIn wsX11_laysBehind wsX11_columns := goodIn_r _ [9, 10, 31, 32, 33, 34, 35, 36, 37, 38, 39, 40, 41, 42, 43, 44, 45, 46, 47, 48, 49, 50, 51, 52, 53, 54, 55, 56, 57, 58, 59, 60, 61, 62] (by decide +kernel) (by decide +kernel)
set_option maxRecDepth 20000 in
theorem gX11_laysBehind_X11_columns : GoodIn wsX11_laysBehind (wsV RX11 114 RX11 yX11_columns wsX11_columns) := goodIn_app (goodIn_of _ (by decide +kernel)) ggX11_laysBehind_X11_columns
set_option maxRecDepth 20000 in
theorem ggX11_laysBehind_X11_total : GoodIn wsX11_laysBehind wsX11_total := goodIn_r _ [14, 5, 6, 7, 8, 9, 10, 15, 16, 17, 18, 19, 20, 21, 31, 32, 33, 34, 35, 36, 37, 38, 39, 40, 41, 42, 43, 44, 45, 46, 47, 48, 49, 50, 51, 52, 53, 54, 55, 56, 57, 58, 59, 60, 61, 62] (by decide +kernel) (by decide +kernel)
set_option maxRecDepth 20000 in
theorem gX11_laysBehind_X11_total : GoodIn wsX11_laysBehind (wsV RX11 131 RX11 yX11_total wsX11_total) := goodIn_app (goodIn_of _ (by decide +kernel)) ggX11_laysBehind_X11_total
set_option maxRecDepth 20000 in
theorem ggX11_laysBehind_X11_laysOne : GoodIn wsX11_laysBehind wsX11_laysOne := goodIn_r _ [25, 1, 2, 3, 4, 15, 16, 17, 8, 18, 10, 19, 20, 21, 26, 27, 28, 29, 30, 31, 32, 33, 34, 35, 36, 37, 38, 39, 40, 41, 42, 43, 44, 45, 46, 47, 48, 49, 50, 51, 52, 53, 54, 55, 56, 57, 58, 59, 60, 61, 62] (by decide +kernel) (by decide +kernel)
set_option maxRecDepth 20000 in
theorem gX11_laysBehind_X11_laysOne : GoodIn wsX11_laysBehind (wsV RX11 221 RX11 yX11_laysOne wsX11_laysOne) := goodIn_app (goodIn_of _ (by decide +kernel)) ggX11_laysBehind_X11_laysOne
theorem dX11_laysBehind_0 : decode cX11_laysBehind 0 = .ok (.aload_n 0, 1) := by decide +kernel
theorem dX11_laysBehind_1 : decode cX11_laysBehind 1 = .ok (.iload_n 1, 1) := by decide +kernel
theorem dX11_laysBehind_2 : decode cX11_laysBehind 2 = .ok (.invokevirtual 114, 3) := by decide +kernel
theorem dX11_laysBehind_5 : decode cX11_laysBehind 5 = .ok (.istore_n 2, 1) := by decide +kernel
theorem dX11_laysBehind_6 : decode cX11_laysBehind 6 = .ok (.aload_n 0, 1) := by decide +kernel
theorem dX11_laysBehind_7 : decode cX11_laysBehind 7 = .ok (.iload_n 1, 1) := by decide +kernel
theorem dX11_laysBehind_8 : decode cX11_laysBehind 8 = .ok (.iconst 1, 1) := by decide +kernel
theorem dX11_laysBehind_9 : decode cX11_laysBehind 9 = .ok (.invokevirtual 131, 3) := by decide +kernel
theorem dX11_laysBehind_12 : decode cX11_laysBehind 12 = .ok (.istore_n 3, 1) := by decide +kernel
theorem dX11_laysBehind_13 : decode cX11_laysBehind 13 = .ok (.iconst 0, 1) := by decide +kernel
theorem dX11_laysBehind_14 : decode cX11_laysBehind 14 = .ok (.istore 4, 2) := by decide +kernel
theorem dX11_laysBehind_16 : decode cX11_laysBehind 16 = .ok (.iload 4, 2) := by decide +kernel
theorem dX11_laysBehind_18 : decode cX11_laysBehind 18 = .ok (.bipush 61, 2) := by decide +kernel
theorem dX11_laysBehind_20 : decode cX11_laysBehind 20 = .ok (.if_icmp .ge 82, 3) := by decide +kernel
theorem dX11_laysBehind_23 : decode cX11_laysBehind 23 = .ok (.bipush 61, 2) := by decide +kernel
theorem dX11_laysBehind_25 : decode cX11_laysBehind 25 = .ok (.iload_n 2, 1) := by decide +kernel
theorem dX11_laysBehind_26 : decode cX11_laysBehind 26 = .ok (.imul, 1) := by decide +kernel
theorem dX11_laysBehind_27 : decode cX11_laysBehind 27 = .ok (.iload 4, 2) := by decide +kernel
theorem dX11_laysBehind_29 : decode cX11_laysBehind 29 = .ok (.iadd, 1) := by decide +kernel
theorem dX11_laysBehind_30 : decode cX11_laysBehind 30 = .ok (.istore 5, 2) := by decide +kernel
theorem dX11_laysBehind_32 : decode cX11_laysBehind 32 = .ok (.aload_n 0, 1) := by decide +kernel
theorem dX11_laysBehind_33 : decode cX11_laysBehind 33 = .ok (.getfield 44, 3) := by decide +kernel
theorem dX11_laysBehind_36 : decode cX11_laysBehind 36 = .ok (.iload 5, 2) := by decide +kernel
theorem dX11_laysBehind_38 : decode cX11_laysBehind 38 = .ok (.iload 4, 2) := by decide +kernel
theorem dX11_laysBehind_40 : decode cX11_laysBehind 40 = .ok (.iload_n 3, 1) := by decide +kernel
theorem dX11_laysBehind_41 : decode cX11_laysBehind 41 = .ok (.if_icmp .ne 7, 3) := by decide +kernel
theorem dX11_laysBehind_44 : decode cX11_laysBehind 44 = .ok (.lconst 1, 1) := by decide +kernel
theorem dX11_laysBehind_45 : decode cX11_laysBehind 45 = .ok (.goto 4, 3) := by decide +kernel
theorem dX11_laysBehind_48 : decode cX11_laysBehind 48 = .ok (.lconst 0, 1) := by decide +kernel
theorem dX11_laysBehind_49 : decode cX11_laysBehind 49 = .ok (.lastore, 1) := by decide +kernel
theorem dX11_laysBehind_50 : decode cX11_laysBehind 50 = .ok (.aload_n 0, 1) := by decide +kernel
theorem dX11_laysBehind_51 : decode cX11_laysBehind 51 = .ok (.getfield 47, 3) := by decide +kernel
theorem dX11_laysBehind_54 : decode cX11_laysBehind 54 = .ok (.iload 5, 2) := by decide +kernel
theorem dX11_laysBehind_56 : decode cX11_laysBehind 56 = .ok (.aload_n 0, 1) := by decide +kernel
theorem dX11_laysBehind_57 : decode cX11_laysBehind 57 = .ok (.getfield 44, 3) := by decide +kernel
theorem dX11_laysBehind_60 : decode cX11_laysBehind 60 = .ok (.iload 5, 2) := by decide +kernel
theorem dX11_laysBehind_62 : decode cX11_laysBehind 62 = .ok (.laload, 1) := by decide +kernel
theorem dX11_laysBehind_63 : decode cX11_laysBehind 63 = .ok (.lastore, 1) := by decide +kernel
theorem dX11_laysBehind_64 : decode cX11_laysBehind 64 = .ok (.aload_n 0, 1) := by decide +kernel
theorem dX11_laysBehind_65 : decode cX11_laysBehind 65 = .ok (.getfield 50, 3) := by decide +kernel
theorem dX11_laysBehind_68 : decode cX11_laysBehind 68 = .ok (.iload 5, 2) := by decide +kernel
theorem dX11_laysBehind_70 : decode cX11_laysBehind 70 = .ok (.aload_n 0, 1) := by decide +kernel
theorem dX11_laysBehind_71 : decode cX11_laysBehind 71 = .ok (.getfield 44, 3) := by decide +kernel
theorem dX11_laysBehind_74 : decode cX11_laysBehind 74 = .ok (.iload 5, 2) := by decide +kernel
theorem dX11_laysBehind_76 : decode cX11_laysBehind 76 = .ok (.laload, 1) := by decide +kernel
theorem dX11_laysBehind_77 : decode cX11_laysBehind 77 = .ok (.lastore, 1) := by decide +kernel
theorem dX11_laysBehind_78 : decode cX11_laysBehind 78 = .ok (.aload_n 0, 1) := by decide +kernel
theorem dX11_laysBehind_79 : decode cX11_laysBehind 79 = .ok (.getfield 53, 3) := by decide +kernel
theorem dX11_laysBehind_82 : decode cX11_laysBehind 82 = .ok (.iload 5, 2) := by decide +kernel
theorem dX11_laysBehind_84 : decode cX11_laysBehind 84 = .ok (.iload 4, 2) := by decide +kernel
theorem dX11_laysBehind_86 : decode cX11_laysBehind 86 = .ok (.iload_n 3, 1) := by decide +kernel
theorem dX11_laysBehind_87 : decode cX11_laysBehind 87 = .ok (.if_icmp .ne 7, 3) := by decide +kernel
theorem dX11_laysBehind_90 : decode cX11_laysBehind 90 = .ok (.iconst 1, 1) := by decide +kernel
theorem dX11_laysBehind_91 : decode cX11_laysBehind 91 = .ok (.goto 4, 3) := by decide +kernel
theorem dX11_laysBehind_94 : decode cX11_laysBehind 94 = .ok (.iconst 0, 1) := by decide +kernel
theorem dX11_laysBehind_95 : decode cX11_laysBehind 95 = .ok (.iastore, 1) := by decide +kernel
theorem dX11_laysBehind_96 : decode cX11_laysBehind 96 = .ok (.iinc 4 1, 3) := by decide +kernel
theorem dX11_laysBehind_99 : decode cX11_laysBehind 99 = .ok (.goto (-83), 3) := by decide +kernel
theorem dX11_laysBehind_102 : decode cX11_laysBehind 102 = .ok (.iload_n 2, 1) := by decide +kernel
theorem dX11_laysBehind_103 : decode cX11_laysBehind 103 = .ok (.iconst 1, 1) := by decide +kernel
theorem dX11_laysBehind_104 : decode cX11_laysBehind 104 = .ok (.isub, 1) := by decide +kernel
theorem dX11_laysBehind_105 : decode cX11_laysBehind 105 = .ok (.istore 4, 2) := by decide +kernel
theorem dX11_laysBehind_107 : decode cX11_laysBehind 107 = .ok (.iload 4, 2) := by decide +kernel
theorem dX11_laysBehind_109 : decode cX11_laysBehind 109 = .ok (.ifCond .lt 34, 3) := by decide +kernel
theorem dX11_laysBehind_112 : decode cX11_laysBehind 112 = .ok (.iconst 0, 1) := by decide +kernel
theorem dX11_laysBehind_113 : decode cX11_laysBehind 113 = .ok (.istore 5, 2) := by decide +kernel
theorem dX11_laysBehind_115 : decode cX11_laysBehind 115 = .ok (.iload 5, 2) := by decide +kernel
theorem dX11_laysBehind_117 : decode cX11_laysBehind 117 = .ok (.bipush 61, 2) := by decide +kernel
theorem dX11_laysBehind_119 : decode cX11_laysBehind 119 = .ok (.if_icmp .ge 18, 3) := by decide +kernel
theorem dX11_laysBehind_122 : decode cX11_laysBehind 122 = .ok (.aload_n 0, 1) := by decide +kernel
theorem dX11_laysBehind_123 : decode cX11_laysBehind 123 = .ok (.iload_n 1, 1) := by decide +kernel
theorem dX11_laysBehind_124 : decode cX11_laysBehind 124 = .ok (.iload 4, 2) := by decide +kernel
theorem dX11_laysBehind_126 : decode cX11_laysBehind 126 = .ok (.iload 5, 2) := by decide +kernel
theorem dX11_laysBehind_128 : decode cX11_laysBehind 128 = .ok (.invokevirtual 221, 3) := by decide +kernel
theorem dX11_laysBehind_131 : decode cX11_laysBehind 131 = .ok (.iinc 5 1, 3) := by decide +kernel
theorem dX11_laysBehind_134 : decode cX11_laysBehind 134 = .ok (.goto (-19), 3) := by decide +kernel
theorem dX11_laysBehind_137 : decode cX11_laysBehind 137 = .ok (.iinc 4 (-1), 3) := by decide +kernel
theorem dX11_laysBehind_140 : decode cX11_laysBehind 140 = .ok (.goto (-33), 3) := by decide +kernel
theorem dX11_laysBehind_143 : decode cX11_laysBehind 143 = .ok (.return_, 1) := by decide +kernel
set_option maxRecDepth 20000 in
theorem ggX11_laysOne_X11_of : GoodIn wsX11_laysOne wsX11_of := goodIn_r _ [9, 10, 11, 12, 8, 13, 19, 20, 21, 22, 23, 24, 25, 26, 27, 28, 29, 30, 31, 32, 33, 34, 35, 36, 37, 38, 39, 40, 41, 42, 43, 44, 45, 46, 47, 48, 49, 50] (by decide +kernel) (by decide +kernel)
set_option maxRecDepth 20000 in
theorem gX11_laysOne_X11_of : GoodIn wsX11_laysOne (wsV RX11 125 RX11 yX11_of wsX11_of) := goodIn_app (goodIn_of _ (by decide +kernel)) ggX11_laysOne_X11_of
set_option maxRecDepth 20000 in
theorem ggX11_laysOne_X11_setsOf : GoodIn wsX11_laysOne wsX11_setsOf := goodIn_r _ [17, 18, 5, 6, 7, 8, 9, 10, 11, 12, 13, 19, 20, 21, 22, 23, 24, 25, 26, 27, 28, 29, 30, 31, 32, 33, 34, 35, 36, 37, 38, 39, 40, 41, 42, 43, 44, 45, 46, 47, 48, 49, 50] (by decide +kernel) (by decide +kernel)
set_option maxRecDepth 20000 in
theorem gX11_laysOne_X11_setsOf : GoodIn wsX11_laysOne (wsV RX11 142 RX11 yX11_setsOf wsX11_setsOf) := goodIn_app (goodIn_of _ (by decide +kernel)) ggX11_laysOne_X11_setsOf
theorem dX11_laysOne_0 : decode cX11_laysOne 0 = .ok (.bipush 61, 2) := by decide +kernel
theorem dX11_laysOne_2 : decode cX11_laysOne 2 = .ok (.iload_n 2, 1) := by decide +kernel
theorem dX11_laysOne_3 : decode cX11_laysOne 3 = .ok (.imul, 1) := by decide +kernel
theorem dX11_laysOne_4 : decode cX11_laysOne 4 = .ok (.iload_n 3, 1) := by decide +kernel
theorem dX11_laysOne_5 : decode cX11_laysOne 5 = .ok (.iadd, 1) := by decide +kernel
theorem dX11_laysOne_6 : decode cX11_laysOne 6 = .ok (.istore 4, 2) := by decide +kernel
theorem dX11_laysOne_8 : decode cX11_laysOne 8 = .ok (.aload_n 0, 1) := by decide +kernel
theorem dX11_laysOne_9 : decode cX11_laysOne 9 = .ok (.getfield 44, 3) := by decide +kernel
theorem dX11_laysOne_12 : decode cX11_laysOne 12 = .ok (.iload 4, 2) := by decide +kernel
theorem dX11_laysOne_14 : decode cX11_laysOne 14 = .ok (.lconst 0, 1) := by decide +kernel
theorem dX11_laysOne_15 : decode cX11_laysOne 15 = .ok (.lastore, 1) := by decide +kernel
theorem dX11_laysOne_16 : decode cX11_laysOne 16 = .ok (.aload_n 0, 1) := by decide +kernel
theorem dX11_laysOne_17 : decode cX11_laysOne 17 = .ok (.getfield 47, 3) := by decide +kernel
theorem dX11_laysOne_20 : decode cX11_laysOne 20 = .ok (.iload 4, 2) := by decide +kernel
theorem dX11_laysOne_22 : decode cX11_laysOne 22 = .ok (.lconst 0, 1) := by decide +kernel
theorem dX11_laysOne_23 : decode cX11_laysOne 23 = .ok (.lastore, 1) := by decide +kernel
theorem dX11_laysOne_24 : decode cX11_laysOne 24 = .ok (.aload_n 0, 1) := by decide +kernel
theorem dX11_laysOne_25 : decode cX11_laysOne 25 = .ok (.getfield 50, 3) := by decide +kernel
theorem dX11_laysOne_28 : decode cX11_laysOne 28 = .ok (.iload 4, 2) := by decide +kernel
theorem dX11_laysOne_30 : decode cX11_laysOne 30 = .ok (.lconst 0, 1) := by decide +kernel
theorem dX11_laysOne_31 : decode cX11_laysOne 31 = .ok (.lastore, 1) := by decide +kernel
theorem dX11_laysOne_32 : decode cX11_laysOne 32 = .ok (.aload_n 0, 1) := by decide +kernel
theorem dX11_laysOne_33 : decode cX11_laysOne 33 = .ok (.getfield 53, 3) := by decide +kernel
theorem dX11_laysOne_36 : decode cX11_laysOne 36 = .ok (.iload 4, 2) := by decide +kernel
theorem dX11_laysOne_38 : decode cX11_laysOne 38 = .ok (.iconst 0, 1) := by decide +kernel
theorem dX11_laysOne_39 : decode cX11_laysOne 39 = .ok (.iastore, 1) := by decide +kernel
theorem dX11_laysOne_40 : decode cX11_laysOne 40 = .ok (.iconst 0, 1) := by decide +kernel
theorem dX11_laysOne_41 : decode cX11_laysOne 41 = .ok (.istore 5, 2) := by decide +kernel
theorem dX11_laysOne_43 : decode cX11_laysOne 43 = .ok (.iload 5, 2) := by decide +kernel
theorem dX11_laysOne_45 : decode cX11_laysOne 45 = .ok (.aload_n 0, 1) := by decide +kernel
theorem dX11_laysOne_46 : decode cX11_laysOne 46 = .ok (.iload_n 1, 1) := by decide +kernel
theorem dX11_laysOne_47 : decode cX11_laysOne 47 = .ok (.iload_n 2, 1) := by decide +kernel
theorem dX11_laysOne_48 : decode cX11_laysOne 48 = .ok (.iconst 0, 1) := by decide +kernel
theorem dX11_laysOne_49 : decode cX11_laysOne 49 = .ok (.invokevirtual 125, 3) := by decide +kernel
theorem dX11_laysOne_52 : decode cX11_laysOne 52 = .ok (.if_icmp .gt 193, 3) := by decide +kernel
theorem dX11_laysOne_55 : decode cX11_laysOne 55 = .ok (.iload_n 3, 1) := by decide +kernel
theorem dX11_laysOne_56 : decode cX11_laysOne 56 = .ok (.iload 5, 2) := by decide +kernel
theorem dX11_laysOne_58 : decode cX11_laysOne 58 = .ok (.iadd, 1) := by decide +kernel
theorem dX11_laysOne_59 : decode cX11_laysOne 59 = .ok (.bipush 61, 2) := by decide +kernel
theorem dX11_laysOne_61 : decode cX11_laysOne 61 = .ok (.if_icmp .ge 184, 3) := by decide +kernel
theorem dX11_laysOne_64 : decode cX11_laysOne 64 = .ok (.iload 4, 2) := by decide +kernel
theorem dX11_laysOne_66 : decode cX11_laysOne 66 = .ok (.bipush 61, 2) := by decide +kernel
theorem dX11_laysOne_68 : decode cX11_laysOne 68 = .ok (.iadd, 1) := by decide +kernel
theorem dX11_laysOne_69 : decode cX11_laysOne 69 = .ok (.iload 5, 2) := by decide +kernel
theorem dX11_laysOne_71 : decode cX11_laysOne 71 = .ok (.iadd, 1) := by decide +kernel
theorem dX11_laysOne_72 : decode cX11_laysOne 72 = .ok (.istore 6, 2) := by decide +kernel
theorem dX11_laysOne_74 : decode cX11_laysOne 74 = .ok (.aload_n 0, 1) := by decide +kernel
theorem dX11_laysOne_75 : decode cX11_laysOne 75 = .ok (.getfield 53, 3) := by decide +kernel
theorem dX11_laysOne_78 : decode cX11_laysOne 78 = .ok (.iload 6, 2) := by decide +kernel
theorem dX11_laysOne_80 : decode cX11_laysOne 80 = .ok (.iaload, 1) := by decide +kernel
theorem dX11_laysOne_81 : decode cX11_laysOne 81 = .ok (.ifCond .le 158, 3) := by decide +kernel
theorem dX11_laysOne_84 : decode cX11_laysOne 84 = .ok (.aload_n 0, 1) := by decide +kernel
theorem dX11_laysOne_85 : decode cX11_laysOne 85 = .ok (.iload_n 1, 1) := by decide +kernel
theorem dX11_laysOne_86 : decode cX11_laysOne 86 = .ok (.iload_n 2, 1) := by decide +kernel
theorem dX11_laysOne_87 : decode cX11_laysOne 87 = .ok (.iload 5, 2) := by decide +kernel
theorem dX11_laysOne_89 : decode cX11_laysOne 89 = .ok (.invokevirtual 142, 3) := by decide +kernel
theorem dX11_laysOne_92 : decode cX11_laysOne 92 = .ok (.lstore 7, 2) := by decide +kernel
theorem dX11_laysOne_94 : decode cX11_laysOne 94 = .ok (.aload_n 0, 1) := by decide +kernel
theorem dX11_laysOne_95 : decode cX11_laysOne 95 = .ok (.getfield 44, 3) := by decide +kernel
theorem dX11_laysOne_98 : decode cX11_laysOne 98 = .ok (.iload 4, 2) := by decide +kernel
theorem dX11_laysOne_100 : decode cX11_laysOne 100 = .ok (.dup2, 1) := by decide +kernel
theorem dX11_laysOne_101 : decode cX11_laysOne 101 = .ok (.laload, 1) := by decide +kernel
theorem dX11_laysOne_102 : decode cX11_laysOne 102 = .ok (.lload 7, 2) := by decide +kernel
theorem dX11_laysOne_104 : decode cX11_laysOne 104 = .ok (.aload_n 0, 1) := by decide +kernel
theorem dX11_laysOne_105 : decode cX11_laysOne 105 = .ok (.getfield 44, 3) := by decide +kernel
theorem dX11_laysOne_108 : decode cX11_laysOne 108 = .ok (.iload 6, 2) := by decide +kernel
theorem dX11_laysOne_110 : decode cX11_laysOne 110 = .ok (.laload, 1) := by decide +kernel
theorem dX11_laysOne_111 : decode cX11_laysOne 111 = .ok (.lmul, 1) := by decide +kernel
theorem dX11_laysOne_112 : decode cX11_laysOne 112 = .ok (.ladd, 1) := by decide +kernel
theorem dX11_laysOne_113 : decode cX11_laysOne 113 = .ok (.lastore, 1) := by decide +kernel
theorem dX11_laysOne_114 : decode cX11_laysOne 114 = .ok (.aload_n 0, 1) := by decide +kernel
theorem dX11_laysOne_115 : decode cX11_laysOne 115 = .ok (.getfield 47, 3) := by decide +kernel
theorem dX11_laysOne_118 : decode cX11_laysOne 118 = .ok (.iload 4, 2) := by decide +kernel
theorem dX11_laysOne_120 : decode cX11_laysOne 120 = .ok (.lload 7, 2) := by decide +kernel
theorem dX11_laysOne_122 : decode cX11_laysOne 122 = .ok (.aload_n 0, 1) := by decide +kernel
theorem dX11_laysOne_123 : decode cX11_laysOne 123 = .ok (.getfield 47, 3) := by decide +kernel
theorem dX11_laysOne_126 : decode cX11_laysOne 126 = .ok (.iload 6, 2) := by decide +kernel
theorem dX11_laysOne_128 : decode cX11_laysOne 128 = .ok (.laload, 1) := by decide +kernel
theorem dX11_laysOne_129 : decode cX11_laysOne 129 = .ok (.lmul, 1) := by decide +kernel
theorem dX11_laysOne_130 : decode cX11_laysOne 130 = .ok (.aload_n 0, 1) := by decide +kernel
theorem dX11_laysOne_131 : decode cX11_laysOne 131 = .ok (.getfield 47, 3) := by decide +kernel
theorem dX11_laysOne_134 : decode cX11_laysOne 134 = .ok (.iload 4, 2) := by decide +kernel
theorem dX11_laysOne_136 : decode cX11_laysOne 136 = .ok (.laload, 1) := by decide +kernel
theorem dX11_laysOne_137 : decode cX11_laysOne 137 = .ok (.lcmp, 1) := by decide +kernel
theorem dX11_laysOne_138 : decode cX11_laysOne 138 = .ok (.ifCond .le 16, 3) := by decide +kernel
theorem dX11_laysOne_141 : decode cX11_laysOne 141 = .ok (.lload 7, 2) := by decide +kernel
theorem dX11_laysOne_143 : decode cX11_laysOne 143 = .ok (.aload_n 0, 1) := by decide +kernel
theorem dX11_laysOne_144 : decode cX11_laysOne 144 = .ok (.getfield 47, 3) := by decide +kernel
theorem dX11_laysOne_147 : decode cX11_laysOne 147 = .ok (.iload 6, 2) := by decide +kernel
theorem dX11_laysOne_149 : decode cX11_laysOne 149 = .ok (.laload, 1) := by decide +kernel
theorem dX11_laysOne_150 : decode cX11_laysOne 150 = .ok (.lmul, 1) := by decide +kernel
theorem dX11_laysOne_151 : decode cX11_laysOne 151 = .ok (.goto 10, 3) := by decide +kernel
theorem dX11_laysOne_154 : decode cX11_laysOne 154 = .ok (.aload_n 0, 1) := by decide +kernel
theorem dX11_laysOne_155 : decode cX11_laysOne 155 = .ok (.getfield 47, 3) := by decide +kernel
theorem dX11_laysOne_158 : decode cX11_laysOne 158 = .ok (.iload 4, 2) := by decide +kernel
theorem dX11_laysOne_160 : decode cX11_laysOne 160 = .ok (.laload, 1) := by decide +kernel
theorem dX11_laysOne_161 : decode cX11_laysOne 161 = .ok (.lastore, 1) := by decide +kernel
theorem dX11_laysOne_162 : decode cX11_laysOne 162 = .ok (.aload_n 0, 1) := by decide +kernel
theorem dX11_laysOne_163 : decode cX11_laysOne 163 = .ok (.getfield 50, 3) := by decide +kernel
theorem dX11_laysOne_166 : decode cX11_laysOne 166 = .ok (.iload 4, 2) := by decide +kernel
theorem dX11_laysOne_168 : decode cX11_laysOne 168 = .ok (.aload_n 0, 1) := by decide +kernel
theorem dX11_laysOne_169 : decode cX11_laysOne 169 = .ok (.getfield 50, 3) := by decide +kernel
theorem dX11_laysOne_172 : decode cX11_laysOne 172 = .ok (.iload 4, 2) := by decide +kernel
theorem dX11_laysOne_174 : decode cX11_laysOne 174 = .ok (.laload, 1) := by decide +kernel
theorem dX11_laysOne_175 : decode cX11_laysOne 175 = .ok (.lconst 0, 1) := by decide +kernel
theorem dX11_laysOne_176 : decode cX11_laysOne 176 = .ok (.lcmp, 1) := by decide +kernel
theorem dX11_laysOne_177 : decode cX11_laysOne 177 = .ok (.ifCond .eq 24, 3) := by decide +kernel
theorem dX11_laysOne_180 : decode cX11_laysOne 180 = .ok (.lload 7, 2) := by decide +kernel
theorem dX11_laysOne_182 : decode cX11_laysOne 182 = .ok (.aload_n 0, 1) := by decide +kernel
theorem dX11_laysOne_183 : decode cX11_laysOne 183 = .ok (.getfield 50, 3) := by decide +kernel
theorem dX11_laysOne_186 : decode cX11_laysOne 186 = .ok (.iload 6, 2) := by decide +kernel
theorem dX11_laysOne_188 : decode cX11_laysOne 188 = .ok (.laload, 1) := by decide +kernel
theorem dX11_laysOne_189 : decode cX11_laysOne 189 = .ok (.lmul, 1) := by decide +kernel
theorem dX11_laysOne_190 : decode cX11_laysOne 190 = .ok (.aload_n 0, 1) := by decide +kernel
theorem dX11_laysOne_191 : decode cX11_laysOne 191 = .ok (.getfield 50, 3) := by decide +kernel
theorem dX11_laysOne_194 : decode cX11_laysOne 194 = .ok (.iload 4, 2) := by decide +kernel
theorem dX11_laysOne_196 : decode cX11_laysOne 196 = .ok (.laload, 1) := by decide +kernel
theorem dX11_laysOne_197 : decode cX11_laysOne 197 = .ok (.lcmp, 1) := by decide +kernel
theorem dX11_laysOne_198 : decode cX11_laysOne 198 = .ok (.ifCond .ge 16, 3) := by decide +kernel
theorem dX11_laysOne_201 : decode cX11_laysOne 201 = .ok (.lload 7, 2) := by decide +kernel
theorem dX11_laysOne_203 : decode cX11_laysOne 203 = .ok (.aload_n 0, 1) := by decide +kernel
theorem dX11_laysOne_204 : decode cX11_laysOne 204 = .ok (.getfield 50, 3) := by decide +kernel
theorem dX11_laysOne_207 : decode cX11_laysOne 207 = .ok (.iload 6, 2) := by decide +kernel
theorem dX11_laysOne_209 : decode cX11_laysOne 209 = .ok (.laload, 1) := by decide +kernel
theorem dX11_laysOne_210 : decode cX11_laysOne 210 = .ok (.lmul, 1) := by decide +kernel
theorem dX11_laysOne_211 : decode cX11_laysOne 211 = .ok (.goto 10, 3) := by decide +kernel
theorem dX11_laysOne_214 : decode cX11_laysOne 214 = .ok (.aload_n 0, 1) := by decide +kernel
theorem dX11_laysOne_215 : decode cX11_laysOne 215 = .ok (.getfield 50, 3) := by decide +kernel
theorem dX11_laysOne_218 : decode cX11_laysOne 218 = .ok (.iload 4, 2) := by decide +kernel
theorem dX11_laysOne_220 : decode cX11_laysOne 220 = .ok (.laload, 1) := by decide +kernel
theorem dX11_laysOne_221 : decode cX11_laysOne 221 = .ok (.lastore, 1) := by decide +kernel
theorem dX11_laysOne_222 : decode cX11_laysOne 222 = .ok (.aload_n 0, 1) := by decide +kernel
theorem dX11_laysOne_223 : decode cX11_laysOne 223 = .ok (.getfield 53, 3) := by decide +kernel
theorem dX11_laysOne_226 : decode cX11_laysOne 226 = .ok (.iload 4, 2) := by decide +kernel
theorem dX11_laysOne_228 : decode cX11_laysOne 228 = .ok (.dup2, 1) := by decide +kernel
theorem dX11_laysOne_229 : decode cX11_laysOne 229 = .ok (.iaload, 1) := by decide +kernel
theorem dX11_laysOne_230 : decode cX11_laysOne 230 = .ok (.aload_n 0, 1) := by decide +kernel
theorem dX11_laysOne_231 : decode cX11_laysOne 231 = .ok (.getfield 53, 3) := by decide +kernel
theorem dX11_laysOne_234 : decode cX11_laysOne 234 = .ok (.iload 6, 2) := by decide +kernel
theorem dX11_laysOne_236 : decode cX11_laysOne 236 = .ok (.iaload, 1) := by decide +kernel
theorem dX11_laysOne_237 : decode cX11_laysOne 237 = .ok (.iadd, 1) := by decide +kernel
theorem dX11_laysOne_238 : decode cX11_laysOne 238 = .ok (.iastore, 1) := by decide +kernel
theorem dX11_laysOne_239 : decode cX11_laysOne 239 = .ok (.iinc 5 1, 3) := by decide +kernel
theorem dX11_laysOne_242 : decode cX11_laysOne 242 = .ok (.goto (-199), 3) := by decide +kernel
theorem dX11_laysOne_245 : decode cX11_laysOne 245 = .ok (.return_, 1) := by decide +kernel
set_option maxRecDepth 20000 in
theorem ggX11_node_X11_isStratum : GoodIn wsX11_node wsX11_isStratum := goodIn_r _ [11, 12, 13, 14, 10, 15, 49, 50, 51, 52, 53, 54, 55, 56, 57, 58, 59, 60, 61, 62, 63, 64, 65, 66, 67, 68, 69, 70, 71, 72, 73, 74, 75, 76, 77, 78, 79, 80] (by decide +kernel) (by decide +kernel)
set_option maxRecDepth 20000 in
theorem gX11_node_X11_isStratum : GoodIn wsX11_node (wsV RX11 110 RX11 yX11_isStratum wsX11_isStratum) := goodIn_app (goodIn_of _ (by decide +kernel)) ggX11_node_X11_isStratum
set_option maxRecDepth 20000 in
theorem ggX11_node_X11_columns : GoodIn wsX11_node wsX11_columns := goodIn_r _ [19, 12, 49, 50, 51, 52, 53, 54, 55, 56, 57, 58, 59, 60, 61, 62, 63, 64, 65, 66, 67, 68, 69, 70, 71, 72, 73, 74, 75, 76, 77, 78, 79, 80] (by decide +kernel) (by decide +kernel)
set_option maxRecDepth 20000 in
theorem gX11_node_X11_columns : GoodIn wsX11_node (wsV RX11 114 RX11 yX11_columns wsX11_columns) := goodIn_app (goodIn_of _ (by decide +kernel)) ggX11_node_X11_columns
set_option maxRecDepth 20000 in
theorem ggX11_node_X11_in : GoodIn wsX11_node wsX11_in := goodIn_r _ [15] (by decide +kernel) (by decide +kernel)
set_option maxRecDepth 20000 in
theorem gX11_node_X11_in : GoodIn wsX11_node (va_wsS RX11 85 yX11_in wsX11_in) := goodIn_app (goodIn_of _ (by decide +kernel)) ggX11_node_X11_in
set_option maxRecDepth 20000 in
theorem ggX11_node_X11_total : GoodIn wsX11_node wsX11_total := goodIn_r _ [23, 16, 17, 18, 10, 19, 12, 24, 25, 26, 27, 28, 29, 30, 49, 50, 51, 52, 53, 54, 55, 56, 57, 58, 59, 60, 61, 62, 63, 64, 65, 66, 67, 68, 69, 70, 71, 72, 73, 74, 75, 76, 77, 78, 79, 80] (by decide +kernel) (by decide +kernel)
set_option maxRecDepth 20000 in
theorem gX11_node_X11_total : GoodIn wsX11_node (wsV RX11 131 RX11 yX11_total wsX11_total) := goodIn_app (goodIn_of _ (by decide +kernel)) ggX11_node_X11_total
set_option maxRecDepth 20000 in
theorem ggX11_node_X11_laysAhead : GoodIn wsX11_node wsX11_laysAhead := goodIn_r _ [34, 2, 16, 17, 18, 10, 19, 12, 24, 25, 26, 27, 28, 29, 30, 35, 36, 37, 38, 39, 49, 50, 51, 52, 53, 54, 55, 56, 57, 58, 59, 60, 61, 62, 63, 64, 65, 66, 67, 68, 69, 70, 71, 72, 73, 74, 75, 76, 77, 78, 79, 80] (by decide +kernel) (by decide +kernel)
set_option maxRecDepth 20000 in
theorem gX11_node_X11_laysAhead : GoodIn wsX11_node (wsV RX11 224 RX11 yX11_laysAhead wsX11_laysAhead) := goodIn_app (goodIn_of _ (by decide +kernel)) ggX11_node_X11_laysAhead
set_option maxRecDepth 20000 in
theorem ggX11_node_X11_laysBehind : GoodIn wsX11_node wsX11_laysBehind := goodIn_r _ [43, 3, 5, 6, 44, 16, 17, 18, 10, 19, 12, 20, 21, 22, 23, 24, 25, 26, 27, 28, 29, 30, 45, 46, 47, 48, 35, 36, 37, 38, 39, 49, 50, 51, 52, 53, 54, 55, 56, 57, 58, 59, 60, 61, 62, 63, 64, 65, 66, 67, 68, 69, 70, 71, 72, 73, 74, 75, 76, 77, 78, 79, 80] (by decide +kernel) (by decide +kernel)
set_option maxRecDepth 20000 in
theorem gX11_node_X11_laysBehind : GoodIn wsX11_node (wsV RX11 227 RX11 yX11_laysBehind wsX11_laysBehind) := goodIn_app (goodIn_of _ (by decide +kernel)) ggX11_node_X11_laysBehind
theorem dX11_node_0 : decode cX11_node 0 = .ok (.aload_n 0, 1) := by decide +kernel
theorem dX11_node_1 : decode cX11_node 1 = .ok (.iload_n 1, 1) := by decide +kernel
theorem dX11_node_2 : decode cX11_node 2 = .ok (.invokevirtual 110, 3) := by decide +kernel
theorem dX11_node_5 : decode cX11_node 5 = .ok (.ifCond .eq 40, 3) := by decide +kernel
theorem dX11_node_8 : decode cX11_node 8 = .ok (.iload_n 2, 1) := by decide +kernel
theorem dX11_node_9 : decode cX11_node 9 = .ok (.iconst 0, 1) := by decide +kernel
theorem dX11_node_10 : decode cX11_node 10 = .ok (.aload_n 0, 1) := by decide +kernel
theorem dX11_node_11 : decode cX11_node 11 = .ok (.iload_n 1, 1) := by decide +kernel
theorem dX11_node_12 : decode cX11_node 12 = .ok (.invokevirtual 114, 3) := by decide +kernel
theorem dX11_node_15 : decode cX11_node 15 = .ok (.invokestatic 85, 3) := by decide +kernel
theorem dX11_node_18 : decode cX11_node 18 = .ok (.ifCond .eq 27, 3) := by decide +kernel
theorem dX11_node_21 : decode cX11_node 21 = .ok (.iload_n 3, 1) := by decide +kernel
theorem dX11_node_22 : decode cX11_node 22 = .ok (.iconst 0, 1) := by decide +kernel
theorem dX11_node_23 : decode cX11_node 23 = .ok (.aload_n 0, 1) := by decide +kernel
theorem dX11_node_24 : decode cX11_node 24 = .ok (.iload_n 1, 1) := by decide +kernel
theorem dX11_node_25 : decode cX11_node 25 = .ok (.iconst 1, 1) := by decide +kernel
theorem dX11_node_26 : decode cX11_node 26 = .ok (.invokevirtual 131, 3) := by decide +kernel
theorem dX11_node_29 : decode cX11_node 29 = .ok (.invokestatic 85, 3) := by decide +kernel
theorem dX11_node_32 : decode cX11_node 32 = .ok (.ifCond .eq 13, 3) := by decide +kernel
theorem dX11_node_35 : decode cX11_node 35 = .ok (.iload 4, 2) := by decide +kernel
theorem dX11_node_37 : decode cX11_node 37 = .ok (.iconst 0, 1) := by decide +kernel
theorem dX11_node_38 : decode cX11_node 38 = .ok (.iconst 3, 1) := by decide +kernel
theorem dX11_node_39 : decode cX11_node 39 = .ok (.invokestatic 85, 3) := by decide +kernel
theorem dX11_node_42 : decode cX11_node 42 = .ok (.ifCond .ne 7, 3) := by decide +kernel
theorem dX11_node_45 : decode cX11_node 45 = .ok (.ldc2_w 205, 3) := by decide +kernel
theorem dX11_node_48 : decode cX11_node 48 = .ok (.lreturn, 1) := by decide +kernel
theorem dX11_node_49 : decode cX11_node 49 = .ok (.aload_n 0, 1) := by decide +kernel
theorem dX11_node_50 : decode cX11_node 50 = .ok (.iload_n 1, 1) := by decide +kernel
theorem dX11_node_51 : decode cX11_node 51 = .ok (.invokevirtual 224, 3) := by decide +kernel
theorem dX11_node_54 : decode cX11_node 54 = .ok (.aload_n 0, 1) := by decide +kernel
theorem dX11_node_55 : decode cX11_node 55 = .ok (.iload_n 1, 1) := by decide +kernel
theorem dX11_node_56 : decode cX11_node 56 = .ok (.invokevirtual 227, 3) := by decide +kernel
theorem dX11_node_59 : decode cX11_node 59 = .ok (.bipush 61, 2) := by decide +kernel
theorem dX11_node_61 : decode cX11_node 61 = .ok (.iload_n 2, 1) := by decide +kernel
theorem dX11_node_62 : decode cX11_node 62 = .ok (.imul, 1) := by decide +kernel
theorem dX11_node_63 : decode cX11_node 63 = .ok (.iload_n 3, 1) := by decide +kernel
theorem dX11_node_64 : decode cX11_node 64 = .ok (.iadd, 1) := by decide +kernel
theorem dX11_node_65 : decode cX11_node 65 = .ok (.istore 5, 2) := by decide +kernel
theorem dX11_node_67 : decode cX11_node 67 = .ok (.aload_n 0, 1) := by decide +kernel
theorem dX11_node_68 : decode cX11_node 68 = .ok (.getfield 41, 3) := by decide +kernel
theorem dX11_node_71 : decode cX11_node 71 = .ok (.iload 5, 2) := by decide +kernel
theorem dX11_node_73 : decode cX11_node 73 = .ok (.laload, 1) := by decide +kernel
theorem dX11_node_74 : decode cX11_node 74 = .ok (.lconst 0, 1) := by decide +kernel
theorem dX11_node_75 : decode cX11_node 75 = .ok (.lcmp, 1) := by decide +kernel
theorem dX11_node_76 : decode cX11_node 76 = .ok (.ifCond .eq 15, 3) := by decide +kernel
theorem dX11_node_79 : decode cX11_node 79 = .ok (.aload_n 0, 1) := by decide +kernel
theorem dX11_node_80 : decode cX11_node 80 = .ok (.getfield 44, 3) := by decide +kernel
theorem dX11_node_83 : decode cX11_node 83 = .ok (.iload 5, 2) := by decide +kernel
theorem dX11_node_85 : decode cX11_node 85 = .ok (.laload, 1) := by decide +kernel
theorem dX11_node_86 : decode cX11_node 86 = .ok (.lconst 0, 1) := by decide +kernel
theorem dX11_node_87 : decode cX11_node 87 = .ok (.lcmp, 1) := by decide +kernel
theorem dX11_node_88 : decode cX11_node 88 = .ok (.ifCond .ne 7, 3) := by decide +kernel
theorem dX11_node_91 : decode cX11_node 91 = .ok (.ldc2_w 216, 3) := by decide +kernel
theorem dX11_node_94 : decode cX11_node 94 = .ok (.lreturn, 1) := by decide +kernel
theorem dX11_node_95 : decode cX11_node 95 = .ok (.iload 4, 2) := by decide +kernel
theorem dX11_node_97 : decode cX11_node 97 = .ok (.ifCond .ne 13, 3) := by decide +kernel
theorem dX11_node_100 : decode cX11_node 100 = .ok (.aload_n 0, 1) := by decide +kernel
theorem dX11_node_101 : decode cX11_node 101 = .ok (.getfield 41, 3) := by decide +kernel
theorem dX11_node_104 : decode cX11_node 104 = .ok (.iload 5, 2) := by decide +kernel
theorem dX11_node_106 : decode cX11_node 106 = .ok (.laload, 1) := by decide +kernel
theorem dX11_node_107 : decode cX11_node 107 = .ok (.goto 42, 3) := by decide +kernel
theorem dX11_node_110 : decode cX11_node 110 = .ok (.iload 4, 2) := by decide +kernel
theorem dX11_node_112 : decode cX11_node 112 = .ok (.iconst 1, 1) := by decide +kernel
theorem dX11_node_113 : decode cX11_node 113 = .ok (.if_icmp .ne 13, 3) := by decide +kernel
theorem dX11_node_116 : decode cX11_node 116 = .ok (.aload_n 0, 1) := by decide +kernel
theorem dX11_node_117 : decode cX11_node 117 = .ok (.getfield 44, 3) := by decide +kernel
theorem dX11_node_120 : decode cX11_node 120 = .ok (.iload 5, 2) := by decide +kernel
theorem dX11_node_122 : decode cX11_node 122 = .ok (.laload, 1) := by decide +kernel
theorem dX11_node_123 : decode cX11_node 123 = .ok (.goto 26, 3) := by decide +kernel
theorem dX11_node_126 : decode cX11_node 126 = .ok (.iload 4, 2) := by decide +kernel
theorem dX11_node_128 : decode cX11_node 128 = .ok (.iconst 2, 1) := by decide +kernel
theorem dX11_node_129 : decode cX11_node 129 = .ok (.if_icmp .ne 13, 3) := by decide +kernel
theorem dX11_node_132 : decode cX11_node 132 = .ok (.aload_n 0, 1) := by decide +kernel
theorem dX11_node_133 : decode cX11_node 133 = .ok (.getfield 47, 3) := by decide +kernel
theorem dX11_node_136 : decode cX11_node 136 = .ok (.iload 5, 2) := by decide +kernel
theorem dX11_node_138 : decode cX11_node 138 = .ok (.laload, 1) := by decide +kernel
theorem dX11_node_139 : decode cX11_node 139 = .ok (.goto 10, 3) := by decide +kernel
theorem dX11_node_142 : decode cX11_node 142 = .ok (.aload_n 0, 1) := by decide +kernel
theorem dX11_node_143 : decode cX11_node 143 = .ok (.getfield 50, 3) := by decide +kernel
theorem dX11_node_146 : decode cX11_node 146 = .ok (.iload 5, 2) := by decide +kernel
theorem dX11_node_148 : decode cX11_node 148 = .ok (.laload, 1) := by decide +kernel
theorem dX11_node_149 : decode cX11_node 149 = .ok (.lreturn, 1) := by decide +kernel
set_option maxRecDepth 20000 in
theorem ggX11_walks_X11_laysBehind : GoodIn wsX11_walks wsX11_laysBehind := goodIn_r _ [11, 12, 5, 6, 4, 13, 14, 15, 10, 16, 17, 18, 19, 20, 21, 22, 23, 24, 25, 26, 27, 28, 29, 30, 31, 32, 33, 34, 35, 36, 37, 42, 43, 44, 45, 46, 47, 48, 49, 50, 51, 52, 53, 54, 55, 56, 57, 58, 59, 60, 61, 62, 63, 64, 65, 66, 67, 68, 69, 70, 71, 72, 73] (by decide +kernel) (by decide +kernel)
set_option maxRecDepth 20000 in
theorem gX11_walks_X11_laysBehind : GoodIn wsX11_walks (wsV RX11 227 RX11 yX11_laysBehind wsX11_laysBehind) := goodIn_app (goodIn_of _ (by decide +kernel)) ggX11_walks_X11_laysBehind
set_option maxRecDepth 20000 in
theorem ggX11_walks_X11_seenWays : GoodIn wsX11_walks wsX11_seenWays := goodIn_r _ [41, 13, 14, 15, 10, 16, 17, 22, 23, 24, 25, 26, 27, 28, 33, 34, 35, 36, 37, 42, 43, 44, 45, 46, 47, 48, 49, 50, 51, 52, 53, 54, 55, 56, 57, 58, 59, 60, 61, 62, 63, 64, 65, 66, 67, 68, 69, 70, 71, 72, 73] (by decide +kernel) (by decide +kernel)
set_option maxRecDepth 20000 in
theorem gX11_walks_X11_seenWays : GoodIn wsX11_walks (wsV RX11 184 RX11 yX11_seenWays wsX11_seenWays) := goodIn_app (goodIn_of _ (by decide +kernel)) ggX11_walks_X11_seenWays
set_option maxRecDepth 20000 in
theorem ggX11_walks_X11_of : GoodIn wsX11_walks wsX11_of := goodIn_r _ [25, 17, 26, 27, 10, 28, 42, 43, 44, 45, 46, 47, 48, 49, 50, 51, 52, 53, 54, 55, 56, 57, 58, 59, 60, 61, 62, 63, 64, 65, 66, 67, 68, 69, 70, 71, 72, 73] (by decide +kernel) (by decide +kernel)
set_option maxRecDepth 20000 in
theorem gX11_walks_X11_of : GoodIn wsX11_walks (wsV RX11 125 RX11 yX11_of wsX11_of) := goodIn_app (goodIn_of _ (by decide +kernel)) ggX11_walks_X11_of
set_option maxRecDepth 20000 in
theorem ggX11_walks_X11_setsOf : GoodIn wsX11_walks wsX11_setsOf := goodIn_r _ [36, 37, 22, 23, 24, 10, 25, 17, 26, 27, 28, 42, 43, 44, 45, 46, 47, 48, 49, 50, 51, 52, 53, 54, 55, 56, 57, 58, 59, 60, 61, 62, 63, 64, 65, 66, 67, 68, 69, 70, 71, 72, 73] (by decide +kernel) (by decide +kernel)
set_option maxRecDepth 20000 in
theorem gX11_walks_X11_setsOf : GoodIn wsX11_walks (wsV RX11 142 RX11 yX11_setsOf wsX11_setsOf) := goodIn_app (goodIn_of _ (by decide +kernel)) ggX11_walks_X11_setsOf
set_option maxRecDepth 20000 in
theorem ggX11_walks_X11_columns : GoodIn wsX11_walks wsX11_columns := goodIn_r _ [16, 17, 42, 43, 44, 45, 46, 47, 48, 49, 50, 51, 52, 53, 54, 55, 56, 57, 58, 59, 60, 61, 62, 63, 64, 65, 66, 67, 68, 69, 70, 71, 72, 73] (by decide +kernel) (by decide +kernel)
set_option maxRecDepth 20000 in
theorem gX11_walks_X11_columns : GoodIn wsX11_walks (wsV RX11 114 RX11 yX11_columns wsX11_columns) := goodIn_app (goodIn_of _ (by decide +kernel)) ggX11_walks_X11_columns
theorem dX11_walks_0 : decode cX11_walks 0 = .ok (.aload_n 0, 1) := by decide +kernel
theorem dX11_walks_1 : decode cX11_walks 1 = .ok (.iload_n 1, 1) := by decide +kernel
theorem dX11_walks_2 : decode cX11_walks 2 = .ok (.invokevirtual 227, 3) := by decide +kernel
theorem dX11_walks_5 : decode cX11_walks 5 = .ok (.aload_n 0, 1) := by decide +kernel
theorem dX11_walks_6 : decode cX11_walks 6 = .ok (.iload_n 1, 1) := by decide +kernel
theorem dX11_walks_7 : decode cX11_walks 7 = .ok (.invokevirtual 184, 3) := by decide +kernel
theorem dX11_walks_10 : decode cX11_walks 10 = .ok (.lstore_n 3, 1) := by decide +kernel
theorem dX11_walks_11 : decode cX11_walks 11 = .ok (.iconst 0, 1) := by decide +kernel
theorem dX11_walks_12 : decode cX11_walks 12 = .ok (.istore 5, 2) := by decide +kernel
theorem dX11_walks_14 : decode cX11_walks 14 = .ok (.iconst 0, 1) := by decide +kernel
theorem dX11_walks_15 : decode cX11_walks 15 = .ok (.istore 6, 2) := by decide +kernel
theorem dX11_walks_17 : decode cX11_walks 17 = .ok (.aload_n 0, 1) := by decide +kernel
theorem dX11_walks_18 : decode cX11_walks 18 = .ok (.getfield 62, 3) := by decide +kernel
theorem dX11_walks_21 : decode cX11_walks 21 = .ok (.iconst 0, 1) := by decide +kernel
theorem dX11_walks_22 : decode cX11_walks 22 = .ok (.lconst 1, 1) := by decide +kernel
theorem dX11_walks_23 : decode cX11_walks 23 = .ok (.lastore, 1) := by decide +kernel
theorem dX11_walks_24 : decode cX11_walks 24 = .ok (.aload_n 0, 1) := by decide +kernel
theorem dX11_walks_25 : decode cX11_walks 25 = .ok (.getfield 59, 3) := by decide +kernel
theorem dX11_walks_28 : decode cX11_walks 28 = .ok (.iconst 0, 1) := by decide +kernel
theorem dX11_walks_29 : decode cX11_walks 29 = .ok (.iconst 0, 1) := by decide +kernel
theorem dX11_walks_30 : decode cX11_walks 30 = .ok (.iastore, 1) := by decide +kernel
theorem dX11_walks_31 : decode cX11_walks 31 = .ok (.aload_n 0, 1) := by decide +kernel
theorem dX11_walks_32 : decode cX11_walks 32 = .ok (.getfield 56, 3) := by decide +kernel
theorem dX11_walks_35 : decode cX11_walks 35 = .ok (.iconst 0, 1) := by decide +kernel
theorem dX11_walks_36 : decode cX11_walks 36 = .ok (.iconst (-1), 1) := by decide +kernel
theorem dX11_walks_37 : decode cX11_walks 37 = .ok (.iastore, 1) := by decide +kernel
theorem dX11_walks_38 : decode cX11_walks 38 = .ok (.iload 6, 2) := by decide +kernel
theorem dX11_walks_40 : decode cX11_walks 40 = .ok (.ifCond .lt 209, 3) := by decide +kernel
theorem dX11_walks_43 : decode cX11_walks 43 = .ok (.aload_n 0, 1) := by decide +kernel
theorem dX11_walks_44 : decode cX11_walks 44 = .ok (.getfield 56, 3) := by decide +kernel
theorem dX11_walks_47 : decode cX11_walks 47 = .ok (.iload 6, 2) := by decide +kernel
theorem dX11_walks_49 : decode cX11_walks 49 = .ok (.dup2, 1) := by decide +kernel
theorem dX11_walks_50 : decode cX11_walks 50 = .ok (.iaload, 1) := by decide +kernel
theorem dX11_walks_51 : decode cX11_walks 51 = .ok (.iconst 1, 1) := by decide +kernel
theorem dX11_walks_52 : decode cX11_walks 52 = .ok (.iadd, 1) := by decide +kernel
theorem dX11_walks_53 : decode cX11_walks 53 = .ok (.iastore, 1) := by decide +kernel
theorem dX11_walks_54 : decode cX11_walks 54 = .ok (.aload_n 0, 1) := by decide +kernel
theorem dX11_walks_55 : decode cX11_walks 55 = .ok (.getfield 59, 3) := by decide +kernel
theorem dX11_walks_58 : decode cX11_walks 58 = .ok (.iload 6, 2) := by decide +kernel
theorem dX11_walks_60 : decode cX11_walks 60 = .ok (.iaload, 1) := by decide +kernel
theorem dX11_walks_61 : decode cX11_walks 61 = .ok (.aload_n 0, 1) := by decide +kernel
theorem dX11_walks_62 : decode cX11_walks 62 = .ok (.getfield 56, 3) := by decide +kernel
theorem dX11_walks_65 : decode cX11_walks 65 = .ok (.iload 6, 2) := by decide +kernel
theorem dX11_walks_67 : decode cX11_walks 67 = .ok (.iaload, 1) := by decide +kernel
theorem dX11_walks_68 : decode cX11_walks 68 = .ok (.iadd, 1) := by decide +kernel
theorem dX11_walks_69 : decode cX11_walks 69 = .ok (.istore 7, 2) := by decide +kernel
theorem dX11_walks_71 : decode cX11_walks 71 = .ok (.aload_n 0, 1) := by decide +kernel
theorem dX11_walks_72 : decode cX11_walks 72 = .ok (.getfield 56, 3) := by decide +kernel
theorem dX11_walks_75 : decode cX11_walks 75 = .ok (.iload 6, 2) := by decide +kernel
theorem dX11_walks_77 : decode cX11_walks 77 = .ok (.iaload, 1) := by decide +kernel
theorem dX11_walks_78 : decode cX11_walks 78 = .ok (.aload_n 0, 1) := by decide +kernel
theorem dX11_walks_79 : decode cX11_walks 79 = .ok (.iload_n 1, 1) := by decide +kernel
theorem dX11_walks_80 : decode cX11_walks 80 = .ok (.iload 6, 2) := by decide +kernel
theorem dX11_walks_82 : decode cX11_walks 82 = .ok (.iconst 0, 1) := by decide +kernel
theorem dX11_walks_83 : decode cX11_walks 83 = .ok (.invokevirtual 125, 3) := by decide +kernel
theorem dX11_walks_86 : decode cX11_walks 86 = .ok (.if_icmp .le 9, 3) := by decide +kernel
theorem dX11_walks_89 : decode cX11_walks 89 = .ok (.iinc 6 (-1), 3) := by decide +kernel
theorem dX11_walks_92 : decode cX11_walks 92 = .ok (.goto 154, 3) := by decide +kernel
theorem dX11_walks_95 : decode cX11_walks 95 = .ok (.iload 7, 2) := by decide +kernel
theorem dX11_walks_97 : decode cX11_walks 97 = .ok (.bipush 61, 2) := by decide +kernel
theorem dX11_walks_99 : decode cX11_walks 99 = .ok (.if_icmp .ge 147, 3) := by decide +kernel
theorem dX11_walks_102 : decode cX11_walks 102 = .ok (.aload_n 0, 1) := by decide +kernel
theorem dX11_walks_103 : decode cX11_walks 103 = .ok (.getfield 53, 3) := by decide +kernel
theorem dX11_walks_106 : decode cX11_walks 106 = .ok (.bipush 61, 2) := by decide +kernel
theorem dX11_walks_108 : decode cX11_walks 108 = .ok (.iload 6, 2) := by decide +kernel
theorem dX11_walks_110 : decode cX11_walks 110 = .ok (.iconst 1, 1) := by decide +kernel
theorem dX11_walks_111 : decode cX11_walks 111 = .ok (.iadd, 1) := by decide +kernel
theorem dX11_walks_112 : decode cX11_walks 112 = .ok (.imul, 1) := by decide +kernel
theorem dX11_walks_113 : decode cX11_walks 113 = .ok (.iload 7, 2) := by decide +kernel
theorem dX11_walks_115 : decode cX11_walks 115 = .ok (.iadd, 1) := by decide +kernel
theorem dX11_walks_116 : decode cX11_walks 116 = .ok (.iaload, 1) := by decide +kernel
theorem dX11_walks_117 : decode cX11_walks 117 = .ok (.ifCond .le 129, 3) := by decide +kernel
theorem dX11_walks_120 : decode cX11_walks 120 = .ok (.iinc 5 1, 3) := by decide +kernel
theorem dX11_walks_123 : decode cX11_walks 123 = .ok (.aload_n 0, 1) := by decide +kernel
theorem dX11_walks_124 : decode cX11_walks 124 = .ok (.getfield 62, 3) := by decide +kernel
theorem dX11_walks_127 : decode cX11_walks 127 = .ok (.iload 6, 2) := by decide +kernel
theorem dX11_walks_129 : decode cX11_walks 129 = .ok (.laload, 1) := by decide +kernel
theorem dX11_walks_130 : decode cX11_walks 130 = .ok (.aload_n 0, 1) := by decide +kernel
theorem dX11_walks_131 : decode cX11_walks 131 = .ok (.iload_n 1, 1) := by decide +kernel
theorem dX11_walks_132 : decode cX11_walks 132 = .ok (.iload 6, 2) := by decide +kernel
theorem dX11_walks_134 : decode cX11_walks 134 = .ok (.aload_n 0, 1) := by decide +kernel
theorem dX11_walks_135 : decode cX11_walks 135 = .ok (.getfield 56, 3) := by decide +kernel
theorem dX11_walks_138 : decode cX11_walks 138 = .ok (.iload 6, 2) := by decide +kernel
theorem dX11_walks_140 : decode cX11_walks 140 = .ok (.iaload, 1) := by decide +kernel
theorem dX11_walks_141 : decode cX11_walks 141 = .ok (.invokevirtual 142, 3) := by decide +kernel
theorem dX11_walks_144 : decode cX11_walks 144 = .ok (.lmul, 1) := by decide +kernel
theorem dX11_walks_145 : decode cX11_walks 145 = .ok (.lstore 8, 2) := by decide +kernel
theorem dX11_walks_147 : decode cX11_walks 147 = .ok (.bipush 61, 2) := by decide +kernel
theorem dX11_walks_149 : decode cX11_walks 149 = .ok (.iload 6, 2) := by decide +kernel
theorem dX11_walks_151 : decode cX11_walks 151 = .ok (.iconst 1, 1) := by decide +kernel
theorem dX11_walks_152 : decode cX11_walks 152 = .ok (.iadd, 1) := by decide +kernel
theorem dX11_walks_153 : decode cX11_walks 153 = .ok (.imul, 1) := by decide +kernel
theorem dX11_walks_154 : decode cX11_walks 154 = .ok (.iload 7, 2) := by decide +kernel
theorem dX11_walks_156 : decode cX11_walks 156 = .ok (.iadd, 1) := by decide +kernel
theorem dX11_walks_157 : decode cX11_walks 157 = .ok (.istore 10, 2) := by decide +kernel
theorem dX11_walks_159 : decode cX11_walks 159 = .ok (.iload 6, 2) := by decide +kernel
theorem dX11_walks_161 : decode cX11_walks 161 = .ok (.iconst 1, 1) := by decide +kernel
theorem dX11_walks_162 : decode cX11_walks 162 = .ok (.iadd, 1) := by decide +kernel
theorem dX11_walks_163 : decode cX11_walks 163 = .ok (.aload_n 0, 1) := by decide +kernel
theorem dX11_walks_164 : decode cX11_walks 164 = .ok (.iload_n 1, 1) := by decide +kernel
theorem dX11_walks_165 : decode cX11_walks 165 = .ok (.invokevirtual 114, 3) := by decide +kernel
theorem dX11_walks_168 : decode cX11_walks 168 = .ok (.if_icmp .eq 37, 3) := by decide +kernel
theorem dX11_walks_171 : decode cX11_walks 171 = .ok (.iload_n 2, 1) := by decide +kernel
theorem dX11_walks_172 : decode cX11_walks 172 = .ok (.ifCond .eq 37, 3) := by decide +kernel
theorem dX11_walks_175 : decode cX11_walks 175 = .ok (.lload 8, 2) := by decide +kernel
theorem dX11_walks_177 : decode cX11_walks 177 = .ok (.aload_n 0, 1) := by decide +kernel
theorem dX11_walks_178 : decode cX11_walks 178 = .ok (.getfield 47, 3) := by decide +kernel
theorem dX11_walks_181 : decode cX11_walks 181 = .ok (.iload 10, 2) := by decide +kernel
theorem dX11_walks_183 : decode cX11_walks 183 = .ok (.laload, 1) := by decide +kernel
theorem dX11_walks_184 : decode cX11_walks 184 = .ok (.lmul, 1) := by decide +kernel
theorem dX11_walks_185 : decode cX11_walks 185 = .ok (.lload_n 3, 1) := by decide +kernel
theorem dX11_walks_186 : decode cX11_walks 186 = .ok (.lcmp, 1) := by decide +kernel
theorem dX11_walks_187 : decode cX11_walks 187 = .ok (.ifCond .le 18, 3) := by decide +kernel
theorem dX11_walks_190 : decode cX11_walks 190 = .ok (.lload 8, 2) := by decide +kernel
theorem dX11_walks_192 : decode cX11_walks 192 = .ok (.aload_n 0, 1) := by decide +kernel
theorem dX11_walks_193 : decode cX11_walks 193 = .ok (.getfield 50, 3) := by decide +kernel
theorem dX11_walks_196 : decode cX11_walks 196 = .ok (.iload 10, 2) := by decide +kernel
theorem dX11_walks_198 : decode cX11_walks 198 = .ok (.laload, 1) := by decide +kernel
theorem dX11_walks_199 : decode cX11_walks 199 = .ok (.lmul, 1) := by decide +kernel
theorem dX11_walks_200 : decode cX11_walks 200 = .ok (.lload_n 3, 1) := by decide +kernel
theorem dX11_walks_201 : decode cX11_walks 201 = .ok (.lcmp, 1) := by decide +kernel
theorem dX11_walks_202 : decode cX11_walks 202 = .ok (.ifCond .le 7, 3) := by decide +kernel
theorem dX11_walks_205 : decode cX11_walks 205 = .ok (.iconst 1, 1) := by decide +kernel
theorem dX11_walks_206 : decode cX11_walks 206 = .ok (.goto 4, 3) := by decide +kernel
theorem dX11_walks_209 : decode cX11_walks 209 = .ok (.iconst 0, 1) := by decide +kernel
theorem dX11_walks_210 : decode cX11_walks 210 = .ok (.istore 11, 2) := by decide +kernel
theorem dX11_walks_212 : decode cX11_walks 212 = .ok (.iload 11, 2) := by decide +kernel
theorem dX11_walks_214 : decode cX11_walks 214 = .ok (.ifCond .ne 32, 3) := by decide +kernel
theorem dX11_walks_217 : decode cX11_walks 217 = .ok (.iinc 6 1, 3) := by decide +kernel
theorem dX11_walks_220 : decode cX11_walks 220 = .ok (.aload_n 0, 1) := by decide +kernel
theorem dX11_walks_221 : decode cX11_walks 221 = .ok (.getfield 62, 3) := by decide +kernel
theorem dX11_walks_224 : decode cX11_walks 224 = .ok (.iload 6, 2) := by decide +kernel
theorem dX11_walks_226 : decode cX11_walks 226 = .ok (.lload 8, 2) := by decide +kernel
theorem dX11_walks_228 : decode cX11_walks 228 = .ok (.lastore, 1) := by decide +kernel
theorem dX11_walks_229 : decode cX11_walks 229 = .ok (.aload_n 0, 1) := by decide +kernel
theorem dX11_walks_230 : decode cX11_walks 230 = .ok (.getfield 59, 3) := by decide +kernel
theorem dX11_walks_233 : decode cX11_walks 233 = .ok (.iload 6, 2) := by decide +kernel
theorem dX11_walks_235 : decode cX11_walks 235 = .ok (.iload 7, 2) := by decide +kernel
theorem dX11_walks_237 : decode cX11_walks 237 = .ok (.iastore, 1) := by decide +kernel
theorem dX11_walks_238 : decode cX11_walks 238 = .ok (.aload_n 0, 1) := by decide +kernel
theorem dX11_walks_239 : decode cX11_walks 239 = .ok (.getfield 56, 3) := by decide +kernel
theorem dX11_walks_242 : decode cX11_walks 242 = .ok (.iload 6, 2) := by decide +kernel
theorem dX11_walks_244 : decode cX11_walks 244 = .ok (.iconst (-1), 1) := by decide +kernel
theorem dX11_walks_245 : decode cX11_walks 245 = .ok (.iastore, 1) := by decide +kernel
theorem dX11_walks_246 : decode cX11_walks 246 = .ok (.goto (-208), 3) := by decide +kernel
theorem dX11_walks_249 : decode cX11_walks 249 = .ok (.iload 5, 2) := by decide +kernel
theorem dX11_walks_251 : decode cX11_walks 251 = .ok (.ireturn, 1) := by decide +kernel
set_option maxRecDepth 20000 in
theorem ggX11_looks_X11_isStratum : GoodIn wsX11_looks wsX11_isStratum := goodIn_r _ [5, 6, 7, 8, 4, 9, 53, 54, 55, 56, 57, 58, 59, 60, 61, 62, 63, 64, 65, 66, 67, 68, 69, 70, 71, 72, 73, 74, 75, 76, 77, 78, 79, 80, 81, 82, 83, 84] (by decide +kernel) (by decide +kernel)
set_option maxRecDepth 20000 in
theorem gX11_looks_X11_isStratum : GoodIn wsX11_looks (wsV RX11 110 RX11 yX11_isStratum wsX11_isStratum) := goodIn_app (goodIn_of _ (by decide +kernel)) ggX11_looks_X11_isStratum
set_option maxRecDepth 20000 in
theorem ggX11_looks_X11_in : GoodIn wsX11_looks wsX11_in := goodIn_r _ [9] (by decide +kernel) (by decide +kernel)
set_option maxRecDepth 20000 in
theorem gX11_looks_X11_in : GoodIn wsX11_looks (va_wsS RX11 85 yX11_in wsX11_in) := goodIn_app (goodIn_of _ (by decide +kernel)) ggX11_looks_X11_in
set_option maxRecDepth 20000 in
theorem ggX11_looks_X11_walks : GoodIn wsX11_looks wsX11_walks := goodIn_r _ [13, 14, 15, 16, 17, 18, 19, 20, 21, 22, 4, 23, 24, 25, 26, 27, 28, 6, 29, 30, 31, 32, 33, 34, 35, 36, 37, 38, 39, 40, 41, 42, 43, 44, 45, 46, 47, 48, 49, 50, 51, 52, 53, 54, 55, 56, 57, 58, 59, 60, 61, 62, 63, 64, 65, 66, 67, 68, 69, 70, 71, 72, 73, 74, 75, 76, 77, 78, 79, 80, 81, 82, 83, 84] (by decide +kernel) (by decide +kernel)
set_option maxRecDepth 20000 in
theorem gX11_looks_X11_walks : GoodIn wsX11_looks (wsV RX11 230 RX11 yX11_walks wsX11_walks) := goodIn_app (goodIn_of _ (by decide +kernel)) ggX11_looks_X11_walks
theorem dX11_looks_0 : decode cX11_looks 0 = .ok (.aload_n 0, 1) := by decide +kernel
theorem dX11_looks_1 : decode cX11_looks 1 = .ok (.iload_n 1, 1) := by decide +kernel
theorem dX11_looks_2 : decode cX11_looks 2 = .ok (.invokevirtual 110, 3) := by decide +kernel
theorem dX11_looks_5 : decode cX11_looks 5 = .ok (.ifCond .eq 29, 3) := by decide +kernel
theorem dX11_looks_8 : decode cX11_looks 8 = .ok (.iload_n 2, 1) := by decide +kernel
theorem dX11_looks_9 : decode cX11_looks 9 = .ok (.iconst 0, 1) := by decide +kernel
theorem dX11_looks_10 : decode cX11_looks 10 = .ok (.iconst 1, 1) := by decide +kernel
theorem dX11_looks_11 : decode cX11_looks 11 = .ok (.invokestatic 85, 3) := by decide +kernel
theorem dX11_looks_14 : decode cX11_looks 14 = .ok (.ifCond .eq 20, 3) := by decide +kernel
theorem dX11_looks_17 : decode cX11_looks 17 = .ok (.aload_n 0, 1) := by decide +kernel
theorem dX11_looks_18 : decode cX11_looks 18 = .ok (.iload_n 1, 1) := by decide +kernel
theorem dX11_looks_19 : decode cX11_looks 19 = .ok (.iload_n 2, 1) := by decide +kernel
theorem dX11_looks_20 : decode cX11_looks 20 = .ok (.ifCond .ne 7, 3) := by decide +kernel
theorem dX11_looks_23 : decode cX11_looks 23 = .ok (.iconst 1, 1) := by decide +kernel
theorem dX11_looks_24 : decode cX11_looks 24 = .ok (.goto 4, 3) := by decide +kernel
theorem dX11_looks_27 : decode cX11_looks 27 = .ok (.iconst 0, 1) := by decide +kernel
theorem dX11_looks_28 : decode cX11_looks 28 = .ok (.invokevirtual 230, 3) := by decide +kernel
theorem dX11_looks_31 : decode cX11_looks 31 = .ok (.goto 4, 3) := by decide +kernel
theorem dX11_looks_34 : decode cX11_looks 34 = .ok (.iconst (-1), 1) := by decide +kernel
theorem dX11_looks_35 : decode cX11_looks 35 = .ok (.ireturn, 1) := by decide +kernel
set_option maxRecDepth 20000 in
theorem ggX11_table_X11_isColumn : GoodIn wsX11_table wsX11_isColumn := goodIn_r _ [6, 7, 8, 9, 5, 10, 11, 12, 13, 14, 15, 16, 17, 18, 46, 47, 48, 49, 50, 51, 52, 53, 54, 55, 56, 57, 58, 59, 60, 61, 62, 63, 64, 65, 66, 67, 68, 69, 70, 71, 72, 73, 74, 75, 76, 77] (by decide +kernel) (by decide +kernel)
set_option maxRecDepth 20000 in
theorem gX11_table_X11_isColumn : GoodIn wsX11_table (wsV RX11 122 RX11 yX11_isColumn wsX11_isColumn) := goodIn_app (goodIn_of _ (by decide +kernel)) ggX11_table_X11_isColumn
