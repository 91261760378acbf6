theorem dX2_countAhead_4 : decode cX2_countAhead 4 = .ok (.lconst 1, 1) := by decide +kernel
theorem dX2_countAhead_5 : decode cX2_countAhead 5 = .ok (.invokevirtual 73, 3) := by decide +kernel
theorem dX2_countAhead_8 : decode cX2_countAhead 8 = .ok (.iconst 1, 1) := by decide +kernel
theorem dX2_countAhead_9 : decode cX2_countAhead 9 = .ok (.istore_n 1, 1) := by decide +kernel
theorem dX2_countAhead_10 : decode cX2_countAhead 10 = .ok (.iload_n 1, 1) := by decide +kernel
theorem dX2_countAhead_11 : decode cX2_countAhead 11 = .ok (.aload_n 0, 1) := by decide +kernel
theorem dX2_countAhead_12 : decode cX2_countAhead 12 = .ok (.getfield 9, 3) := by decide +kernel
theorem dX2_countAhead_15 : decode cX2_countAhead 15 = .ok (.invokevirtual 70, 3) := by decide +kernel
theorem dX2_countAhead_18 : decode cX2_countAhead 18 = .ok (.if_icmp .gt 47, 3) := by decide +kernel
theorem dX2_countAhead_21 : decode cX2_countAhead 21 = .ok (.iconst 0, 1) := by decide +kernel
theorem dX2_countAhead_22 : decode cX2_countAhead 22 = .ok (.istore_n 2, 1) := by decide +kernel
theorem dX2_countAhead_23 : decode cX2_countAhead 23 = .ok (.iload_n 2, 1) := by decide +kernel
theorem dX2_countAhead_24 : decode cX2_countAhead 24 = .ok (.aload_n 0, 1) := by decide +kernel
theorem dX2_countAhead_25 : decode cX2_countAhead 25 = .ok (.getfield 24, 3) := by decide +kernel
theorem dX2_countAhead_28 : decode cX2_countAhead 28 = .ok (.if_icmp .gt 31, 3) := by decide +kernel
theorem dX2_countAhead_31 : decode cX2_countAhead 31 = .ok (.aload_n 0, 1) := by decide +kernel
theorem dX2_countAhead_32 : decode cX2_countAhead 32 = .ok (.iload_n 1, 1) := by decide +kernel
theorem dX2_countAhead_33 : decode cX2_countAhead 33 = .ok (.iload_n 2, 1) := by decide +kernel
theorem dX2_countAhead_34 : decode cX2_countAhead 34 = .ok (.invokevirtual 109, 3) := by decide +kernel
theorem dX2_countAhead_37 : decode cX2_countAhead 37 = .ok (.ifCond .eq 16, 3) := by decide +kernel
theorem dX2_countAhead_40 : decode cX2_countAhead 40 = .ok (.aload_n 0, 1) := by decide +kernel
theorem dX2_countAhead_41 : decode cX2_countAhead 41 = .ok (.iconst 0, 1) := by decide +kernel
theorem dX2_countAhead_42 : decode cX2_countAhead 42 = .ok (.iload_n 1, 1) := by decide +kernel
theorem dX2_countAhead_43 : decode cX2_countAhead 43 = .ok (.iload_n 2, 1) := by decide +kernel
theorem dX2_countAhead_44 : decode cX2_countAhead 44 = .ok (.aload_n 0, 1) := by decide +kernel
theorem dX2_countAhead_45 : decode cX2_countAhead 45 = .ok (.iload_n 1, 1) := by decide +kernel
theorem dX2_countAhead_46 : decode cX2_countAhead 46 = .ok (.iload_n 2, 1) := by decide +kernel
theorem dX2_countAhead_47 : decode cX2_countAhead 47 = .ok (.invokevirtual 113, 3) := by decide +kernel
theorem dX2_countAhead_50 : decode cX2_countAhead 50 = .ok (.invokevirtual 73, 3) := by decide +kernel
theorem dX2_countAhead_53 : decode cX2_countAhead 53 = .ok (.iinc 2 1, 3) := by decide +kernel
theorem dX2_countAhead_56 : decode cX2_countAhead 56 = .ok (.goto (-33), 3) := by decide +kernel
theorem dX2_countAhead_59 : decode cX2_countAhead 59 = .ok (.iinc 1 1, 3) := by decide +kernel
theorem dX2_countAhead_62 : decode cX2_countAhead 62 = .ok (.goto (-52), 3) := by decide +kernel
theorem dX2_countAhead_65 : decode cX2_countAhead 65 = .ok (.return_, 1) := by decide +kernel
set_option maxRecDepth 20000 in
theorem ggX2_waysAhead_X0_totalOf : GoodIn wsX2_waysAhead wsX0_totalOf := goodIn_r _ [6, 7, 8, 25, 26, 27, 28, 29, 30, 31] (by decide +kernel) (by decide +kernel)
set_option maxRecDepth 20000 in
theorem gX2_waysAhead_X0_totalOf : GoodIn wsX2_waysAhead (wsV RX2 41 RX0 yX0_totalOf wsX0_totalOf) := goodIn_app (goodIn_of _ (by decide +kernel)) ggX2_waysAhead_X0_totalOf
set_option maxRecDepth 20000 in
theorem ggX2_waysAhead_X0_waysOf : GoodIn wsX2_waysAhead wsX0_waysOf := goodIn_r _ [12, 7, 13, 25, 26, 27, 28, 29, 30, 31] (by decide +kernel) (by decide +kernel)
set_option maxRecDepth 20000 in
theorem gX2_waysAhead_X0_waysOf : GoodIn wsX2_waysAhead (wsV RX2 95 RX0 yX0_waysOf wsX0_waysOf) := goodIn_app (goodIn_of _ (by decide +kernel)) ggX2_waysAhead_X0_waysOf
set_option maxRecDepth 20000 in
theorem ggX2_waysAhead_X2_at : GoodIn wsX2_waysAhead wsX2_at := goodIn_r _ [18, 19, 20, 21, 22, 23, 24] (by decide +kernel) (by decide +kernel)
set_option maxRecDepth 20000 in
theorem gX2_waysAhead_X2_at : GoodIn wsX2_waysAhead (wsV RX2 31 RX2 yX2_at wsX2_at) := goodIn_app (goodIn_of _ (by decide +kernel)) ggX2_waysAhead_X2_at
theorem dX2_waysAhead_0 : decode cX2_waysAhead 0 = .ok (.lconst 0, 1) := by decide +kernel
theorem dX2_waysAhead_1 : decode cX2_waysAhead 1 = .ok (.lstore_n 3, 1) := by decide +kernel
theorem dX2_waysAhead_2 : decode cX2_waysAhead 2 = .ok (.iconst 0, 1) := by decide +kernel
theorem dX2_waysAhead_3 : decode cX2_waysAhead 3 = .ok (.istore 5, 2) := by decide +kernel
theorem dX2_waysAhead_5 : decode cX2_waysAhead 5 = .ok (.iload 5, 2) := by decide +kernel
theorem dX2_waysAhead_7 : decode cX2_waysAhead 7 = .ok (.aload_n 0, 1) := by decide +kernel
theorem dX2_waysAhead_8 : decode cX2_waysAhead 8 = .ok (.getfield 9, 3) := by decide +kernel
theorem dX2_waysAhead_11 : decode cX2_waysAhead 11 = .ok (.iload_n 1, 1) := by decide +kernel
theorem dX2_waysAhead_12 : decode cX2_waysAhead 12 = .ok (.iconst 1, 1) := by decide +kernel
theorem dX2_waysAhead_13 : decode cX2_waysAhead 13 = .ok (.isub, 1) := by decide +kernel
theorem dX2_waysAhead_14 : decode cX2_waysAhead 14 = .ok (.invokevirtual 41, 3) := by decide +kernel
theorem dX2_waysAhead_17 : decode cX2_waysAhead 17 = .ok (.if_icmp .gt 37, 3) := by decide +kernel
theorem dX2_waysAhead_20 : decode cX2_waysAhead 20 = .ok (.lload_n 3, 1) := by decide +kernel
theorem dX2_waysAhead_21 : decode cX2_waysAhead 21 = .ok (.aload_n 0, 1) := by decide +kernel
theorem dX2_waysAhead_22 : decode cX2_waysAhead 22 = .ok (.getfield 9, 3) := by decide +kernel
theorem dX2_waysAhead_25 : decode cX2_waysAhead 25 = .ok (.iload_n 1, 1) := by decide +kernel
theorem dX2_waysAhead_26 : decode cX2_waysAhead 26 = .ok (.iconst 1, 1) := by decide +kernel
theorem dX2_waysAhead_27 : decode cX2_waysAhead 27 = .ok (.isub, 1) := by decide +kernel
theorem dX2_waysAhead_28 : decode cX2_waysAhead 28 = .ok (.iload 5, 2) := by decide +kernel
theorem dX2_waysAhead_30 : decode cX2_waysAhead 30 = .ok (.invokevirtual 95, 3) := by decide +kernel
theorem dX2_waysAhead_33 : decode cX2_waysAhead 33 = .ok (.aload_n 0, 1) := by decide +kernel
theorem dX2_waysAhead_34 : decode cX2_waysAhead 34 = .ok (.iconst 0, 1) := by decide +kernel
theorem dX2_waysAhead_35 : decode cX2_waysAhead 35 = .ok (.iload_n 1, 1) := by decide +kernel
theorem dX2_waysAhead_36 : decode cX2_waysAhead 36 = .ok (.iconst 1, 1) := by decide +kernel
theorem dX2_waysAhead_37 : decode cX2_waysAhead 37 = .ok (.isub, 1) := by decide +kernel
theorem dX2_waysAhead_38 : decode cX2_waysAhead 38 = .ok (.iload_n 2, 1) := by decide +kernel
theorem dX2_waysAhead_39 : decode cX2_waysAhead 39 = .ok (.iload 5, 2) := by decide +kernel
theorem dX2_waysAhead_41 : decode cX2_waysAhead 41 = .ok (.isub, 1) := by decide +kernel
theorem dX2_waysAhead_42 : decode cX2_waysAhead 42 = .ok (.invokevirtual 31, 3) := by decide +kernel
theorem dX2_waysAhead_45 : decode cX2_waysAhead 45 = .ok (.lmul, 1) := by decide +kernel
theorem dX2_waysAhead_46 : decode cX2_waysAhead 46 = .ok (.ladd, 1) := by decide +kernel
theorem dX2_waysAhead_47 : decode cX2_waysAhead 47 = .ok (.lstore_n 3, 1) := by decide +kernel
theorem dX2_waysAhead_48 : decode cX2_waysAhead 48 = .ok (.iinc 5 1, 3) := by decide +kernel
theorem dX2_waysAhead_51 : decode cX2_waysAhead 51 = .ok (.goto (-46), 3) := by decide +kernel
theorem dX2_waysAhead_54 : decode cX2_waysAhead 54 = .ok (.lload_n 3, 1) := by decide +kernel
theorem dX2_waysAhead_55 : decode cX2_waysAhead 55 = .ok (.lreturn, 1) := by decide +kernel
theorem dX3_init_0 : decode cX3_init 0 = .ok (.aload_n 0, 1) := by decide +kernel
theorem dX3_init_1 : decode cX3_init 1 = .ok (.invokespecial 3, 3) := by decide +kernel
theorem dX3_init_4 : decode cX3_init 4 = .ok (.aload_n 0, 1) := by decide +kernel
theorem dX3_init_5 : decode cX3_init 5 = .ok (.bipush 6, 2) := by decide +kernel
theorem dX3_init_7 : decode cX3_init 7 = .ok (.newarray .int, 2) := by decide +kernel
theorem dX3_init_9 : decode cX3_init 9 = .ok (.putfield 9, 3) := by decide +kernel
theorem dX3_init_12 : decode cX3_init 12 = .ok (.aload_n 0, 1) := by decide +kernel
theorem dX3_init_13 : decode cX3_init 13 = .ok (.bipush 6, 2) := by decide +kernel
theorem dX3_init_15 : decode cX3_init 15 = .ok (.bipush 10, 2) := by decide +kernel
theorem dX3_init_17 : decode cX3_init 17 = .ok (.multianewarray 15 2, 4) := by decide +kernel
theorem dX3_init_21 : decode cX3_init 21 = .ok (.putfield 17, 3) := by decide +kernel
theorem dX3_init_24 : decode cX3_init 24 = .ok (.aload_n 0, 1) := by decide +kernel
theorem dX3_init_25 : decode cX3_init 25 = .ok (.iconst 0, 1) := by decide +kernel
theorem dX3_init_26 : decode cX3_init 26 = .ok (.putfield 20, 3) := by decide +kernel
theorem dX3_init_29 : decode cX3_init 29 = .ok (.aload_n 0, 1) := by decide +kernel
theorem dX3_init_30 : decode cX3_init 30 = .ok (.iconst 0, 1) := by decide +kernel
theorem dX3_init_31 : decode cX3_init 31 = .ok (.putfield 24, 3) := by decide +kernel
theorem dX3_init_34 : decode cX3_init 34 = .ok (.return_, 1) := by decide +kernel
theorem dX3_size_0 : decode cX3_size 0 = .ok (.aload_n 0, 1) := by decide +kernel
theorem dX3_size_1 : decode cX3_size 1 = .ok (.getfield 24, 3) := by decide +kernel
theorem dX3_size_4 : decode cX3_size 4 = .ok (.ireturn, 1) := by decide +kernel
theorem dX3_clear_0 : decode cX3_clear 0 = .ok (.aload_n 0, 1) := by decide +kernel
theorem dX3_clear_1 : decode cX3_clear 1 = .ok (.iconst 0, 1) := by decide +kernel
theorem dX3_clear_2 : decode cX3_clear 2 = .ok (.putfield 24, 3) := by decide +kernel
theorem dX3_clear_5 : decode cX3_clear 5 = .ok (.return_, 1) := by decide +kernel
set_option maxRecDepth 20000 in
theorem ggX3_keep_X0_aboveOf : GoodIn wsX3_keep wsX0_aboveOf := goodIn_r _ [13, 14, 15, 25, 26, 27, 28, 29, 30, 31] (by decide +kernel) (by decide +kernel)
set_option maxRecDepth 20000 in
theorem gX3_keep_X0_aboveOf : GoodIn wsX3_keep (wsV RX3 27 RX0 yX0_aboveOf wsX0_aboveOf) := goodIn_app (goodIn_of _ (by decide +kernel)) ggX3_keep_X0_aboveOf
set_option maxRecDepth 20000 in
theorem ggX3_keep_X0_scoreOf : GoodIn wsX3_keep wsX0_scoreOf := goodIn_r _ [19, 14, 20, 25, 26, 27, 28, 29, 30, 31] (by decide +kernel) (by decide +kernel)
set_option maxRecDepth 20000 in
theorem gX3_keep_X0_scoreOf : GoodIn wsX3_keep (wsV RX3 33 RX0 yX0_scoreOf wsX0_scoreOf) := goodIn_app (goodIn_of _ (by decide +kernel)) ggX3_keep_X0_scoreOf
theorem dX3_keep_0 : decode cX3_keep 0 = .ok (.aload_n 0, 1) := by decide +kernel
theorem dX3_keep_1 : decode cX3_keep 1 = .ok (.getfield 20, 3) := by decide +kernel
theorem dX3_keep_4 : decode cX3_keep 4 = .ok (.ifCond .lt 12, 3) := by decide +kernel
theorem dX3_keep_7 : decode cX3_keep 7 = .ok (.aload_n 0, 1) := by decide +kernel
theorem dX3_keep_8 : decode cX3_keep 8 = .ok (.getfield 20, 3) := by decide +kernel
theorem dX3_keep_11 : decode cX3_keep 11 = .ok (.bipush 6, 2) := by decide +kernel
theorem dX3_keep_13 : decode cX3_keep 13 = .ok (.if_icmp .lt 4, 3) := by decide +kernel
theorem dX3_keep_16 : decode cX3_keep 16 = .ok (.return_, 1) := by decide +kernel
theorem dX3_keep_17 : decode cX3_keep 17 = .ok (.aload_n 0, 1) := by decide +kernel
theorem dX3_keep_18 : decode cX3_keep 18 = .ok (.getfield 9, 3) := by decide +kernel
theorem dX3_keep_21 : decode cX3_keep 21 = .ok (.aload_n 0, 1) := by decide +kernel
theorem dX3_keep_22 : decode cX3_keep 22 = .ok (.getfield 20, 3) := by decide +kernel
theorem dX3_keep_25 : decode cX3_keep 25 = .ok (.iload_n 1, 1) := by decide +kernel
theorem dX3_keep_26 : decode cX3_keep 26 = .ok (.iastore, 1) := by decide +kernel
theorem dX3_keep_27 : decode cX3_keep 27 = .ok (.iconst 0, 1) := by decide +kernel
theorem dX3_keep_28 : decode cX3_keep 28 = .ok (.istore_n 3, 1) := by decide +kernel
theorem dX3_keep_29 : decode cX3_keep 29 = .ok (.iload_n 3, 1) := by decide +kernel
theorem dX3_keep_30 : decode cX3_keep 30 = .ok (.iconst 5, 1) := by decide +kernel
theorem dX3_keep_31 : decode cX3_keep 31 = .ok (.if_icmp .ge 43, 3) := by decide +kernel
theorem dX3_keep_34 : decode cX3_keep 34 = .ok (.aload_n 0, 1) := by decide +kernel
theorem dX3_keep_35 : decode cX3_keep 35 = .ok (.getfield 17, 3) := by decide +kernel
theorem dX3_keep_38 : decode cX3_keep 38 = .ok (.aload_n 0, 1) := by decide +kernel
theorem dX3_keep_39 : decode cX3_keep 39 = .ok (.getfield 20, 3) := by decide +kernel
theorem dX3_keep_42 : decode cX3_keep 42 = .ok (.aaload, 1) := by decide +kernel
theorem dX3_keep_43 : decode cX3_keep 43 = .ok (.iload_n 3, 1) := by decide +kernel
theorem dX3_keep_44 : decode cX3_keep 44 = .ok (.aload_n 2, 1) := by decide +kernel
theorem dX3_keep_45 : decode cX3_keep 45 = .ok (.iload_n 3, 1) := by decide +kernel
theorem dX3_keep_46 : decode cX3_keep 46 = .ok (.invokevirtual 27, 3) := by decide +kernel
theorem dX3_keep_49 : decode cX3_keep 49 = .ok (.iastore, 1) := by decide +kernel
theorem dX3_keep_50 : decode cX3_keep 50 = .ok (.aload_n 0, 1) := by decide +kernel
theorem dX3_keep_51 : decode cX3_keep 51 = .ok (.getfield 17, 3) := by decide +kernel
theorem dX3_keep_54 : decode cX3_keep 54 = .ok (.aload_n 0, 1) := by decide +kernel
theorem dX3_keep_55 : decode cX3_keep 55 = .ok (.getfield 20, 3) := by decide +kernel
theorem dX3_keep_58 : decode cX3_keep 58 = .ok (.aaload, 1) := by decide +kernel
theorem dX3_keep_59 : decode cX3_keep 59 = .ok (.iconst 5, 1) := by decide +kernel
theorem dX3_keep_60 : decode cX3_keep 60 = .ok (.iload_n 3, 1) := by decide +kernel
theorem dX3_keep_61 : decode cX3_keep 61 = .ok (.iadd, 1) := by decide +kernel
theorem dX3_keep_62 : decode cX3_keep 62 = .ok (.aload_n 2, 1) := by decide +kernel
theorem dX3_keep_63 : decode cX3_keep 63 = .ok (.iload_n 3, 1) := by decide +kernel
theorem dX3_keep_64 : decode cX3_keep 64 = .ok (.invokevirtual 33, 3) := by decide +kernel
theorem dX3_keep_67 : decode cX3_keep 67 = .ok (.iastore, 1) := by decide +kernel
theorem dX3_keep_68 : decode cX3_keep 68 = .ok (.iinc 3 1, 3) := by decide +kernel
theorem dX3_keep_71 : decode cX3_keep 71 = .ok (.goto (-42), 3) := by decide +kernel
theorem dX3_keep_74 : decode cX3_keep 74 = .ok (.aload_n 0, 1) := by decide +kernel
theorem dX3_keep_75 : decode cX3_keep 75 = .ok (.aload_n 0, 1) := by decide +kernel
theorem dX3_keep_76 : decode cX3_keep 76 = .ok (.getfield 20, 3) := by decide +kernel
theorem dX3_keep_79 : decode cX3_keep 79 = .ok (.iconst 1, 1) := by decide +kernel
theorem dX3_keep_80 : decode cX3_keep 80 = .ok (.iadd, 1) := by decide +kernel
theorem dX3_keep_81 : decode cX3_keep 81 = .ok (.bipush 6, 2) := by decide +kernel
theorem dX3_keep_83 : decode cX3_keep 83 = .ok (.if_icmp .ge 12, 3) := by decide +kernel
theorem dX3_keep_86 : decode cX3_keep 86 = .ok (.aload_n 0, 1) := by decide +kernel
theorem dX3_keep_87 : decode cX3_keep 87 = .ok (.getfield 20, 3) := by decide +kernel
theorem dX3_keep_90 : decode cX3_keep 90 = .ok (.iconst 1, 1) := by decide +kernel
theorem dX3_keep_91 : decode cX3_keep 91 = .ok (.iadd, 1) := by decide +kernel
theorem dX3_keep_92 : decode cX3_keep 92 = .ok (.goto 4, 3) := by decide +kernel
theorem dX3_keep_95 : decode cX3_keep 95 = .ok (.iconst 0, 1) := by decide +kernel
theorem dX3_keep_96 : decode cX3_keep 96 = .ok (.putfield 20, 3) := by decide +kernel
theorem dX3_keep_99 : decode cX3_keep 99 = .ok (.aload_n 0, 1) := by decide +kernel
theorem dX3_keep_100 : decode cX3_keep 100 = .ok (.aload_n 0, 1) := by decide +kernel
theorem dX3_keep_101 : decode cX3_keep 101 = .ok (.getfield 24, 3) := by decide +kernel
theorem dX3_keep_104 : decode cX3_keep 104 = .ok (.iconst 1, 1) := by decide +kernel
theorem dX3_keep_105 : decode cX3_keep 105 = .ok (.iadd, 1) := by decide +kernel
theorem dX3_keep_106 : decode cX3_keep 106 = .ok (.bipush 6, 2) := by decide +kernel
theorem dX3_keep_108 : decode cX3_keep 108 = .ok (.invokestatic 36, 3) := by decide +kernel
theorem dX3_keep_111 : decode cX3_keep 111 = .ok (.putfield 24, 3) := by decide +kernel
theorem dX3_keep_114 : decode cX3_keep 114 = .ok (.return_, 1) := by decide +kernel
theorem dX3_latestRow_0 : decode cX3_latestRow 0 = .ok (.aload_n 0, 1) := by decide +kernel
theorem dX3_latestRow_1 : decode cX3_latestRow 1 = .ok (.getfield 20, 3) := by decide +kernel
theorem dX3_latestRow_4 : decode cX3_latestRow 4 = .ok (.ifCond .le 21, 3) := by decide +kernel
theorem dX3_latestRow_7 : decode cX3_latestRow 7 = .ok (.aload_n 0, 1) := by decide +kernel
theorem dX3_latestRow_8 : decode cX3_latestRow 8 = .ok (.getfield 20, 3) := by decide +kernel
theorem dX3_latestRow_11 : decode cX3_latestRow 11 = .ok (.bipush 6, 2) := by decide +kernel
theorem dX3_latestRow_13 : decode cX3_latestRow 13 = .ok (.if_icmp .gt 12, 3) := by decide +kernel
theorem dX3_latestRow_16 : decode cX3_latestRow 16 = .ok (.aload_n 0, 1) := by decide +kernel
theorem dX3_latestRow_17 : decode cX3_latestRow 17 = .ok (.getfield 20, 3) := by decide +kernel
theorem dX3_latestRow_20 : decode cX3_latestRow 20 = .ok (.iconst 1, 1) := by decide +kernel
theorem dX3_latestRow_21 : decode cX3_latestRow 21 = .ok (.isub, 1) := by decide +kernel
theorem dX3_latestRow_22 : decode cX3_latestRow 22 = .ok (.goto 4, 3) := by decide +kernel
theorem dX3_latestRow_25 : decode cX3_latestRow 25 = .ok (.iconst 5, 1) := by decide +kernel
theorem dX3_latestRow_26 : decode cX3_latestRow 26 = .ok (.ireturn, 1) := by decide +kernel
set_option maxRecDepth 20000 in
theorem ggX3_latest_X3_latestRow : GoodIn wsX3_latest wsX3_latestRow := goodIn_r _ [7, 8, 9, 10, 11, 12] (by decide +kernel) (by decide +kernel)
set_option maxRecDepth 20000 in
theorem gX3_latest_X3_latestRow : GoodIn wsX3_latest (wsV RX3 42 RX3 yX3_latestRow wsX3_latestRow) := goodIn_app (goodIn_of _ (by decide +kernel)) ggX3_latest_X3_latestRow
theorem dX3_latest_0 : decode cX3_latest 0 = .ok (.aload_n 0, 1) := by decide +kernel
theorem dX3_latest_1 : decode cX3_latest 1 = .ok (.getfield 24, 3) := by decide +kernel
theorem dX3_latest_4 : decode cX3_latest 4 = .ok (.ifCond .le 15, 3) := by decide +kernel
theorem dX3_latest_7 : decode cX3_latest 7 = .ok (.aload_n 0, 1) := by decide +kernel
theorem dX3_latest_8 : decode cX3_latest 8 = .ok (.getfield 9, 3) := by decide +kernel
theorem dX3_latest_11 : decode cX3_latest 11 = .ok (.aload_n 0, 1) := by decide +kernel
theorem dX3_latest_12 : decode cX3_latest 12 = .ok (.invokevirtual 42, 3) := by decide +kernel
theorem dX3_latest_15 : decode cX3_latest 15 = .ok (.iaload, 1) := by decide +kernel
theorem dX3_latest_16 : decode cX3_latest 16 = .ok (.goto 4, 3) := by decide +kernel
theorem dX3_latest_19 : decode cX3_latest 19 = .ok (.iconst (-1), 1) := by decide +kernel
theorem dX3_latest_20 : decode cX3_latest 20 = .ok (.ireturn, 1) := by decide +kernel
set_option maxRecDepth 20000 in
theorem ggX3_giveBack_X3_latestRow : GoodIn wsX3_giveBack wsX3_latestRow := goodIn_r _ [8, 3, 26, 27, 28, 29] (by decide +kernel) (by decide +kernel)
set_option maxRecDepth 20000 in
theorem gX3_giveBack_X3_latestRow : GoodIn wsX3_giveBack (wsV RX3 42 RX3 yX3_latestRow wsX3_latestRow) := goodIn_app (goodIn_of _ (by decide +kernel)) ggX3_giveBack_X3_latestRow
set_option maxRecDepth 20000 in
theorem ggX3_giveBack_X0_tellAbove : GoodIn wsX3_giveBack wsX0_tellAbove := goodIn_r _ [13, 14, 15, 16, 17, 18, 12, 19, 20, 30, 31, 32, 33, 34, 35, 36] (by decide +kernel) (by decide +kernel)
set_option maxRecDepth 20000 in
theorem gX3_giveBack_X0_tellAbove : GoodIn wsX3_giveBack (wsV RX3 46 RX0 yX0_tellAbove wsX0_tellAbove) := goodIn_app (goodIn_of _ (by decide +kernel)) ggX3_giveBack_X0_tellAbove
set_option maxRecDepth 20000 in
theorem ggX3_giveBack_X0_tellScore : GoodIn wsX3_giveBack wsX0_tellScore := goodIn_r _ [24, 25, 15, 16, 17, 18, 12, 19, 20, 30, 31, 32, 33, 34, 35, 36] (by decide +kernel) (by decide +kernel)
set_option maxRecDepth 20000 in
theorem gX3_giveBack_X0_tellScore : GoodIn wsX3_giveBack (wsV RX3 50 RX0 yX0_tellScore wsX0_tellScore) := goodIn_app (goodIn_of _ (by decide +kernel)) ggX3_giveBack_X0_tellScore
theorem dX3_giveBack_0 : decode cX3_giveBack 0 = .ok (.aload_n 0, 1) := by decide +kernel
theorem dX3_giveBack_1 : decode cX3_giveBack 1 = .ok (.getfield 24, 3) := by decide +kernel
theorem dX3_giveBack_4 : decode cX3_giveBack 4 = .ok (.ifCond .gt 4, 3) := by decide +kernel
theorem dX3_giveBack_7 : decode cX3_giveBack 7 = .ok (.return_, 1) := by decide +kernel
theorem dX3_giveBack_8 : decode cX3_giveBack 8 = .ok (.aload_n 0, 1) := by decide +kernel
theorem dX3_giveBack_9 : decode cX3_giveBack 9 = .ok (.invokevirtual 42, 3) := by decide +kernel
theorem dX3_giveBack_12 : decode cX3_giveBack 12 = .ok (.istore_n 2, 1) := by decide +kernel
theorem dX3_giveBack_13 : decode cX3_giveBack 13 = .ok (.iconst 0, 1) := by decide +kernel
theorem dX3_giveBack_14 : decode cX3_giveBack 14 = .ok (.istore_n 3, 1) := by decide +kernel
theorem dX3_giveBack_15 : decode cX3_giveBack 15 = .ok (.iload_n 3, 1) := by decide +kernel
theorem dX3_giveBack_16 : decode cX3_giveBack 16 = .ok (.iconst 5, 1) := by decide +kernel
theorem dX3_giveBack_17 : decode cX3_giveBack 17 = .ok (.if_icmp .ge 37, 3) := by decide +kernel
theorem dX3_giveBack_20 : decode cX3_giveBack 20 = .ok (.aload_n 1, 1) := by decide +kernel
theorem dX3_giveBack_21 : decode cX3_giveBack 21 = .ok (.iload_n 3, 1) := by decide +kernel
theorem dX3_giveBack_22 : decode cX3_giveBack 22 = .ok (.aload_n 0, 1) := by decide +kernel
theorem dX3_giveBack_23 : decode cX3_giveBack 23 = .ok (.getfield 17, 3) := by decide +kernel
theorem dX3_giveBack_26 : decode cX3_giveBack 26 = .ok (.iload_n 2, 1) := by decide +kernel
theorem dX3_giveBack_27 : decode cX3_giveBack 27 = .ok (.aaload, 1) := by decide +kernel
theorem dX3_giveBack_28 : decode cX3_giveBack 28 = .ok (.iload_n 3, 1) := by decide +kernel
theorem dX3_giveBack_29 : decode cX3_giveBack 29 = .ok (.iaload, 1) := by decide +kernel
theorem dX3_giveBack_30 : decode cX3_giveBack 30 = .ok (.invokevirtual 46, 3) := by decide +kernel
theorem dX3_giveBack_33 : decode cX3_giveBack 33 = .ok (.aload_n 1, 1) := by decide +kernel
theorem dX3_giveBack_34 : decode cX3_giveBack 34 = .ok (.iload_n 3, 1) := by decide +kernel
theorem dX3_giveBack_35 : decode cX3_giveBack 35 = .ok (.aload_n 0, 1) := by decide +kernel
theorem dX3_giveBack_36 : decode cX3_giveBack 36 = .ok (.getfield 17, 3) := by decide +kernel
theorem dX3_giveBack_39 : decode cX3_giveBack 39 = .ok (.iload_n 2, 1) := by decide +kernel
theorem dX3_giveBack_40 : decode cX3_giveBack 40 = .ok (.aaload, 1) := by decide +kernel
theorem dX3_giveBack_41 : decode cX3_giveBack 41 = .ok (.iconst 5, 1) := by decide +kernel
theorem dX3_giveBack_42 : decode cX3_giveBack 42 = .ok (.iload_n 3, 1) := by decide +kernel
theorem dX3_giveBack_43 : decode cX3_giveBack 43 = .ok (.iadd, 1) := by decide +kernel
theorem dX3_giveBack_44 : decode cX3_giveBack 44 = .ok (.iaload, 1) := by decide +kernel
theorem dX3_giveBack_45 : decode cX3_giveBack 45 = .ok (.invokevirtual 50, 3) := by decide +kernel
theorem dX3_giveBack_48 : decode cX3_giveBack 48 = .ok (.iinc 3 1, 3) := by decide +kernel
theorem dX3_giveBack_51 : decode cX3_giveBack 51 = .ok (.goto (-36), 3) := by decide +kernel
theorem dX3_giveBack_54 : decode cX3_giveBack 54 = .ok (.aload_n 0, 1) := by decide +kernel
theorem dX3_giveBack_55 : decode cX3_giveBack 55 = .ok (.iload_n 2, 1) := by decide +kernel
theorem dX3_giveBack_56 : decode cX3_giveBack 56 = .ok (.putfield 20, 3) := by decide +kernel
theorem dX3_giveBack_59 : decode cX3_giveBack 59 = .ok (.aload_n 0, 1) := by decide +kernel
theorem dX3_giveBack_60 : decode cX3_giveBack 60 = .ok (.dup, 1) := by decide +kernel
theorem dX3_giveBack_61 : decode cX3_giveBack 61 = .ok (.getfield 24, 3) := by decide +kernel
theorem dX3_giveBack_64 : decode cX3_giveBack 64 = .ok (.iconst 1, 1) := by decide +kernel
theorem dX3_giveBack_65 : decode cX3_giveBack 65 = .ok (.isub, 1) := by decide +kernel
theorem dX3_giveBack_66 : decode cX3_giveBack 66 = .ok (.putfield 24, 3) := by decide +kernel
theorem dX3_giveBack_69 : decode cX3_giveBack 69 = .ok (.return_, 1) := by decide +kernel
theorem dX4_init_0 : decode cX4_init 0 = .ok (.aload_n 0, 1) := by decide +kernel
theorem dX4_init_1 : decode cX4_init 1 = .ok (.invokespecial 1, 3) := by decide +kernel
theorem dX4_init_4 : decode cX4_init 4 = .ok (.aload_n 0, 1) := by decide +kernel
theorem dX4_init_5 : decode cX4_init 5 = .ok (.aload_n 1, 1) := by decide +kernel
theorem dX4_init_6 : decode cX4_init 6 = .ok (.putfield 7, 3) := by decide +kernel
theorem dX4_init_9 : decode cX4_init 9 = .ok (.aload_n 0, 1) := by decide +kernel
theorem dX4_init_10 : decode cX4_init 10 = .ok (.aload_n 2, 1) := by decide +kernel
theorem dX4_init_11 : decode cX4_init 11 = .ok (.putfield 13, 3) := by decide +kernel
theorem dX4_init_14 : decode cX4_init 14 = .ok (.aload_n 0, 1) := by decide +kernel
theorem dX4_init_15 : decode cX4_init 15 = .ok (.iconst 0, 1) := by decide +kernel
theorem dX4_init_16 : decode cX4_init 16 = .ok (.putfield 17, 3) := by decide +kernel
theorem dX4_init_19 : decode cX4_init 19 = .ok (.return_, 1) := by decide +kernel
theorem dX4_rareWays_0 : decode cX4_rareWays 0 = .ok (.aload_n 0, 1) := by decide +kernel
theorem dX4_rareWays_1 : decode cX4_rareWays 1 = .ok (.getfield 21, 3) := by decide +kernel
theorem dX4_rareWays_4 : decode cX4_rareWays 4 = .ok (.lreturn, 1) := by decide +kernel
theorem dX4_rareTables_0 : decode cX4_rareTables 0 = .ok (.aload_n 0, 1) := by decide +kernel
theorem dX4_rareTables_1 : decode cX4_rareTables 1 = .ok (.getfield 25, 3) := by decide +kernel
theorem dX4_rareTables_4 : decode cX4_rareTables 4 = .ok (.ireturn, 1) := by decide +kernel
theorem dX4_lookCount_0 : decode cX4_lookCount 0 = .ok (.aload_n 0, 1) := by decide +kernel
theorem dX4_lookCount_1 : decode cX4_lookCount 1 = .ok (.getfield 28, 3) := by decide +kernel
theorem dX4_lookCount_4 : decode cX4_lookCount 4 = .ok (.ireturn, 1) := by decide +kernel
set_option maxRecDepth 20000 in
theorem ggX4_refresh_X0_version : GoodIn wsX4_refresh wsX0_version := goodIn_r _ [11, 12, 79, 80, 81, 82, 83, 84, 85] (by decide +kernel) (by decide +kernel)
set_option maxRecDepth 20000 in
theorem gX4_refresh_X0_version : GoodIn wsX4_refresh (wsV RX4 31 RX0 yX0_version wsX0_version) := goodIn_app (goodIn_of _ (by decide +kernel)) ggX4_refresh_X0_version
set_option maxRecDepth 20000 in
theorem ggX4_refresh_X0_seenWays : GoodIn wsX4_refresh wsX0_seenWays := goodIn_r _ [16, 17, 18, 19, 20, 10, 21, 22, 23, 24, 25, 26, 27, 79, 80, 81, 82, 83, 84, 85] (by decide +kernel) (by decide +kernel)
set_option maxRecDepth 20000 in
theorem gX4_refresh_X0_seenWays : GoodIn wsX4_refresh (wsV RX4 36 RX0 yX0_seenWays wsX0_seenWays) := goodIn_app (goodIn_of _ (by decide +kernel)) ggX4_refresh_X0_seenWays
set_option maxRecDepth 20000 in
theorem ggX4_refresh_X4_walkFrom : GoodIn wsX4_refresh wsX4_walkFrom := goodIn_r _ [32, 2, 33, 34, 35, 36, 10, 37, 17, 38, 39, 40, 41, 42, 43, 44, 45, 46, 47, 48, 49, 50, 51, 52, 53, 54, 55, 56, 57, 58, 59, 60, 61, 62, 24, 25, 26, 27, 63, 64, 65, 31, 66, 6, 3, 4, 5, 67, 68, 69, 70, 71, 28, 29, 30, 72, 73, 74, 75, 76, 77, 78, 86, 87, 88, 89, 90, 79, 80, 81, 82, 83, 84, 85] (by decide +kernel) (by decide +kernel)
set_option maxRecDepth 20000 in
theorem gX4_refresh_X4_walkFrom : GoodIn wsX4_refresh (wsV RX4 42 RX4 yX4_walkFrom wsX4_walkFrom) := goodIn_app (goodIn_of _ (by decide +kernel)) ggX4_refresh_X4_walkFrom
theorem dX4_refresh_0 : decode cX4_refresh 0 = .ok (.aload_n 0, 1) := by decide +kernel
theorem dX4_refresh_1 : decode cX4_refresh 1 = .ok (.getfield 17, 3) := by decide +kernel
theorem dX4_refresh_4 : decode cX4_refresh 4 = .ok (.aload_n 0, 1) := by decide +kernel
theorem dX4_refresh_5 : decode cX4_refresh 5 = .ok (.getfield 7, 3) := by decide +kernel
theorem dX4_refresh_8 : decode cX4_refresh 8 = .ok (.invokevirtual 31, 3) := by decide +kernel
theorem dX4_refresh_11 : decode cX4_refresh 11 = .ok (.if_icmp .ne 4, 3) := by decide +kernel
theorem dX4_refresh_14 : decode cX4_refresh 14 = .ok (.return_, 1) := by decide +kernel
theorem dX4_refresh_15 : decode cX4_refresh 15 = .ok (.aload_n 0, 1) := by decide +kernel
theorem dX4_refresh_16 : decode cX4_refresh 16 = .ok (.aload_n 0, 1) := by decide +kernel
theorem dX4_refresh_17 : decode cX4_refresh 17 = .ok (.getfield 7, 3) := by decide +kernel
theorem dX4_refresh_20 : decode cX4_refresh 20 = .ok (.invokevirtual 31, 3) := by decide +kernel
theorem dX4_refresh_23 : decode cX4_refresh 23 = .ok (.putfield 17, 3) := by decide +kernel
theorem dX4_refresh_26 : decode cX4_refresh 26 = .ok (.aload_n 0, 1) := by decide +kernel
theorem dX4_refresh_27 : decode cX4_refresh 27 = .ok (.aload_n 0, 1) := by decide +kernel
theorem dX4_refresh_28 : decode cX4_refresh 28 = .ok (.getfield 7, 3) := by decide +kernel
theorem dX4_refresh_31 : decode cX4_refresh 31 = .ok (.invokevirtual 36, 3) := by decide +kernel
theorem dX4_refresh_34 : decode cX4_refresh 34 = .ok (.putfield 40, 3) := by decide +kernel
theorem dX4_refresh_37 : decode cX4_refresh 37 = .ok (.aload_n 0, 1) := by decide +kernel
theorem dX4_refresh_38 : decode cX4_refresh 38 = .ok (.lconst 0, 1) := by decide +kernel
theorem dX4_refresh_39 : decode cX4_refresh 39 = .ok (.putfield 21, 3) := by decide +kernel
theorem dX4_refresh_42 : decode cX4_refresh 42 = .ok (.aload_n 0, 1) := by decide +kernel
theorem dX4_refresh_43 : decode cX4_refresh 43 = .ok (.iconst 0, 1) := by decide +kernel
theorem dX4_refresh_44 : decode cX4_refresh 44 = .ok (.putfield 25, 3) := by decide +kernel
theorem dX4_refresh_47 : decode cX4_refresh 47 = .ok (.aload_n 0, 1) := by decide +kernel
theorem dX4_refresh_48 : decode cX4_refresh 48 = .ok (.iconst 0, 1) := by decide +kernel
theorem dX4_refresh_49 : decode cX4_refresh 49 = .ok (.putfield 28, 3) := by decide +kernel
theorem dX4_refresh_52 : decode cX4_refresh 52 = .ok (.aload_n 0, 1) := by decide +kernel
theorem dX4_refresh_53 : decode cX4_refresh 53 = .ok (.iconst 0, 1) := by decide +kernel
theorem dX4_refresh_54 : decode cX4_refresh 54 = .ok (.iconst 0, 1) := by decide +kernel
theorem dX4_refresh_55 : decode cX4_refresh 55 = .ok (.lconst 1, 1) := by decide +kernel
theorem dX4_refresh_56 : decode cX4_refresh 56 = .ok (.invokevirtual 42, 3) := by decide +kernel
theorem dX4_refresh_59 : decode cX4_refresh 59 = .ok (.return_, 1) := by decide +kernel
set_option maxRecDepth 20000 in
theorem ggX4_walkFrom_X0_has : GoodIn wsX4_walkFrom wsX0_has := goodIn_r _ [7, 8, 67, 68, 69, 70, 71, 72, 73] (by decide +kernel) (by decide +kernel)
set_option maxRecDepth 20000 in
theorem gX4_walkFrom_X0_has : GoodIn wsX4_walkFrom (wsV RX4 46 RX0 yX0_has wsX0_has) := goodIn_app (goodIn_of _ (by decide +kernel)) ggX4_walkFrom_X0_has
set_option maxRecDepth 20000 in
theorem ggX4_walkFrom_X2_most : GoodIn wsX4_walkFrom wsX2_most := goodIn_r _ [13, 14, 15, 16, 17, 18, 19, 20, 21, 22, 6, 23, 8, 24, 62, 63, 64, 65, 66, 67, 68, 69, 70, 71, 72, 73] (by decide +kernel) (by decide +kernel)
set_option maxRecDepth 20000 in
theorem gX4_walkFrom_X2_most : GoodIn wsX4_walkFrom (wsV RX4 50 RX2 yX2_most wsX2_most) := goodIn_app (goodIn_of _ (by decide +kernel)) ggX4_walkFrom_X2_most
set_option maxRecDepth 20000 in
theorem ggX4_walkFrom_X2_fewest : GoodIn wsX4_walkFrom wsX2_fewest := goodIn_r _ [28, 15, 29, 30, 31, 18, 32, 62, 63, 64, 65, 66] (by decide +kernel) (by decide +kernel)
set_option maxRecDepth 20000 in
theorem gX4_walkFrom_X2_fewest : GoodIn wsX4_walkFrom (wsV RX4 56 RX2 yX2_fewest wsX2_fewest) := goodIn_app (goodIn_of _ (by decide +kernel)) ggX4_walkFrom_X2_fewest
set_option maxRecDepth 20000 in
theorem ggX4_walkFrom_X0_waysOf : GoodIn wsX4_walkFrom wsX0_waysOf := goodIn_r _ [36, 8, 37, 67, 68, 69, 70, 71, 72, 73] (by decide +kernel) (by decide +kernel)
set_option maxRecDepth 20000 in
theorem gX4_walkFrom_X0_waysOf : GoodIn wsX4_walkFrom (wsV RX4 59 RX0 yX0_waysOf wsX0_waysOf) := goodIn_app (goodIn_of _ (by decide +kernel)) ggX4_walkFrom_X0_waysOf
set_option maxRecDepth 20000 in
theorem ggX4_walkFrom_X4_lookAt : GoodIn wsX4_walkFrom wsX4_lookAt := goodIn_r _ [42, 43, 2, 44, 45, 46, 47, 48, 49, 12, 50, 51, 52, 53, 54, 41, 0, 1, 3, 4, 5, 6, 7, 8, 9, 10, 11, 13, 14, 15, 16, 17, 18, 19, 20, 21, 22, 23, 24, 25, 26, 27, 28, 29, 30, 31, 32, 33, 34, 35, 36, 37, 38, 39, 40, 55, 56, 57, 58, 59, 60, 61, 62, 63, 64, 65, 66, 67, 68, 69, 70, 71, 72, 73] (by decide +kernel) (by decide +kernel)
set_option maxRecDepth 20000 in
theorem gX4_walkFrom_X4_lookAt : GoodIn wsX4_walkFrom (wsV RX4 63 RX4 yX4_lookAt wsX4_lookAt) := goodIn_app (goodIn_of _ (by decide +kernel)) ggX4_walkFrom_X4_lookAt
theorem dX4_walkFrom_0 : decode cX4_walkFrom 0 = .ok (.aload_n 0, 1) := by decide +kernel
theorem dX4_walkFrom_1 : decode cX4_walkFrom 1 = .ok (.getfield 7, 3) := by decide +kernel
theorem dX4_walkFrom_4 : decode cX4_walkFrom 4 = .ok (.iload_n 1, 1) := by decide +kernel
theorem dX4_walkFrom_5 : decode cX4_walkFrom 5 = .ok (.invokevirtual 46, 3) := by decide +kernel
theorem dX4_walkFrom_8 : decode cX4_walkFrom 8 = .ok (.ifCond .ne 4, 3) := by decide +kernel
theorem dX4_walkFrom_11 : decode cX4_walkFrom 11 = .ok (.return_, 1) := by decide +kernel
theorem dX4_walkFrom_12 : decode cX4_walkFrom 12 = .ok (.aload_n 0, 1) := by decide +kernel
theorem dX4_walkFrom_13 : decode cX4_walkFrom 13 = .ok (.getfield 13, 3) := by decide +kernel
theorem dX4_walkFrom_16 : decode cX4_walkFrom 16 = .ok (.iload_n 1, 1) := by decide +kernel
theorem dX4_walkFrom_17 : decode cX4_walkFrom 17 = .ok (.iload_n 2, 1) := by decide +kernel
theorem dX4_walkFrom_18 : decode cX4_walkFrom 18 = .ok (.invokevirtual 50, 3) := by decide +kernel
theorem dX4_walkFrom_21 : decode cX4_walkFrom 21 = .ok (.istore 5, 2) := by decide +kernel
theorem dX4_walkFrom_23 : decode cX4_walkFrom 23 = .ok (.aload_n 0, 1) := by decide +kernel
theorem dX4_walkFrom_24 : decode cX4_walkFrom 24 = .ok (.getfield 13, 3) := by decide +kernel
theorem dX4_walkFrom_27 : decode cX4_walkFrom 27 = .ok (.iload_n 1, 1) := by decide +kernel
theorem dX4_walkFrom_28 : decode cX4_walkFrom 28 = .ok (.iload_n 2, 1) := by decide +kernel
theorem dX4_walkFrom_29 : decode cX4_walkFrom 29 = .ok (.invokevirtual 56, 3) := by decide +kernel
theorem dX4_walkFrom_32 : decode cX4_walkFrom 32 = .ok (.istore 6, 2) := by decide +kernel
theorem dX4_walkFrom_34 : decode cX4_walkFrom 34 = .ok (.iload 6, 2) := by decide +kernel
theorem dX4_walkFrom_36 : decode cX4_walkFrom 36 = .ok (.iload 5, 2) := by decide +kernel
theorem dX4_walkFrom_38 : decode cX4_walkFrom 38 = .ok (.if_icmp .gt 32, 3) := by decide +kernel
theorem dX4_walkFrom_41 : decode cX4_walkFrom 41 = .ok (.aload_n 0, 1) := by decide +kernel
theorem dX4_walkFrom_42 : decode cX4_walkFrom 42 = .ok (.iload_n 1, 1) := by decide +kernel
theorem dX4_walkFrom_43 : decode cX4_walkFrom 43 = .ok (.iconst 1, 1) := by decide +kernel
theorem dX4_walkFrom_44 : decode cX4_walkFrom 44 = .ok (.iadd, 1) := by decide +kernel
theorem dX4_walkFrom_45 : decode cX4_walkFrom 45 = .ok (.iload_n 2, 1) := by decide +kernel
theorem dX4_walkFrom_46 : decode cX4_walkFrom 46 = .ok (.iload 6, 2) := by decide +kernel
theorem dX4_walkFrom_48 : decode cX4_walkFrom 48 = .ok (.iadd, 1) := by decide +kernel
theorem dX4_walkFrom_49 : decode cX4_walkFrom 49 = .ok (.lload_n 3, 1) := by decide +kernel
theorem dX4_walkFrom_50 : decode cX4_walkFrom 50 = .ok (.aload_n 0, 1) := by decide +kernel
theorem dX4_walkFrom_51 : decode cX4_walkFrom 51 = .ok (.getfield 7, 3) := by decide +kernel
theorem dX4_walkFrom_54 : decode cX4_walkFrom 54 = .ok (.iload_n 1, 1) := by decide +kernel
theorem dX4_walkFrom_55 : decode cX4_walkFrom 55 = .ok (.iload 6, 2) := by decide +kernel
theorem dX4_walkFrom_57 : decode cX4_walkFrom 57 = .ok (.invokevirtual 59, 3) := by decide +kernel
theorem dX4_walkFrom_60 : decode cX4_walkFrom 60 = .ok (.lmul, 1) := by decide +kernel
theorem dX4_walkFrom_61 : decode cX4_walkFrom 61 = .ok (.invokevirtual 63, 3) := by decide +kernel
theorem dX4_walkFrom_64 : decode cX4_walkFrom 64 = .ok (.iinc 6 1, 3) := by decide +kernel
theorem dX4_walkFrom_67 : decode cX4_walkFrom 67 = .ok (.goto (-33), 3) := by decide +kernel
theorem dX4_walkFrom_70 : decode cX4_walkFrom 70 = .ok (.return_, 1) := by decide +kernel
set_option maxRecDepth 20000 in
theorem ggX4_lookAt_X2_at : GoodIn wsX4_lookAt wsX2_at := goodIn_r _ [10, 11, 62, 63, 64, 65, 66] (by decide +kernel) (by decide +kernel)
set_option maxRecDepth 20000 in
theorem gX4_lookAt_X2_at : GoodIn wsX4_lookAt (wsV RX4 66 RX2 yX2_at wsX2_at) := goodIn_app (goodIn_of _ (by decide +kernel)) ggX4_lookAt_X2_at
set_option maxRecDepth 20000 in
theorem ggX4_lookAt_X4_walkFrom : GoodIn wsX4_lookAt wsX4_walkFrom := goodIn_r _ [16, 17, 2, 18, 19, 20, 21, 22, 23, 24, 25, 26, 9, 27, 28, 29, 30, 31, 32, 33, 34, 35, 36, 37, 38, 39, 40, 41, 42, 43, 44, 45, 46, 47, 48, 49, 50, 51, 52, 53, 54, 15, 0, 1, 3, 4, 5, 6, 7, 8, 10, 11, 12, 13, 14, 55, 56, 57, 58, 59, 60, 61, 62, 63, 64, 65, 66, 67, 68, 69, 70, 71, 72, 73] (by decide +kernel) (by decide +kernel)
set_option maxRecDepth 20000 in
theorem gX4_lookAt_X4_walkFrom : GoodIn wsX4_lookAt (wsV RX4 42 RX4 yX4_walkFrom wsX4_walkFrom) := goodIn_app (goodIn_of _ (by decide +kernel)) ggX4_lookAt_X4_walkFrom
theorem dX4_lookAt_0 : decode cX4_lookAt 0 = .ok (.aload_n 0, 1) := by decide +kernel
theorem dX4_lookAt_1 : decode cX4_lookAt 1 = .ok (.dup, 1) := by decide +kernel
theorem dX4_lookAt_2 : decode cX4_lookAt 2 = .ok (.getfield 28, 3) := by decide +kernel
theorem dX4_lookAt_5 : decode cX4_lookAt 5 = .ok (.iconst 1, 1) := by decide +kernel
theorem dX4_lookAt_6 : decode cX4_lookAt 6 = .ok (.iadd, 1) := by decide +kernel
theorem dX4_lookAt_7 : decode cX4_lookAt 7 = .ok (.putfield 28, 3) := by decide +kernel
theorem dX4_lookAt_10 : decode cX4_lookAt 10 = .ok (.lload_n 3, 1) := by decide +kernel
theorem dX4_lookAt_11 : decode cX4_lookAt 11 = .ok (.aload_n 0, 1) := by decide +kernel
theorem dX4_lookAt_12 : decode cX4_lookAt 12 = .ok (.getfield 13, 3) := by decide +kernel
theorem dX4_lookAt_15 : decode cX4_lookAt 15 = .ok (.iconst 2, 1) := by decide +kernel
theorem dX4_lookAt_16 : decode cX4_lookAt 16 = .ok (.iload_n 1, 1) := by decide +kernel
theorem dX4_lookAt_17 : decode cX4_lookAt 17 = .ok (.iload_n 2, 1) := by decide +kernel
theorem dX4_lookAt_18 : decode cX4_lookAt 18 = .ok (.invokevirtual 66, 3) := by decide +kernel
theorem dX4_lookAt_21 : decode cX4_lookAt 21 = .ok (.lmul, 1) := by decide +kernel
theorem dX4_lookAt_22 : decode cX4_lookAt 22 = .ok (.aload_n 0, 1) := by decide +kernel
theorem dX4_lookAt_23 : decode cX4_lookAt 23 = .ok (.getfield 40, 3) := by decide +kernel
theorem dX4_lookAt_26 : decode cX4_lookAt 26 = .ok (.lcmp, 1) := by decide +kernel
theorem dX4_lookAt_27 : decode cX4_lookAt 27 = .ok (.ifCond .gt 47, 3) := by decide +kernel
theorem dX4_lookAt_30 : decode cX4_lookAt 30 = .ok (.aload_n 0, 1) := by decide +kernel
theorem dX4_lookAt_31 : decode cX4_lookAt 31 = .ok (.dup, 1) := by decide +kernel
theorem dX4_lookAt_32 : decode cX4_lookAt 32 = .ok (.getfield 21, 3) := by decide +kernel
theorem dX4_lookAt_35 : decode cX4_lookAt 35 = .ok (.lload_n 3, 1) := by decide +kernel
theorem dX4_lookAt_36 : decode cX4_lookAt 36 = .ok (.aload_n 0, 1) := by decide +kernel
theorem dX4_lookAt_37 : decode cX4_lookAt 37 = .ok (.getfield 13, 3) := by decide +kernel
theorem dX4_lookAt_40 : decode cX4_lookAt 40 = .ok (.iconst 1, 1) := by decide +kernel
theorem dX4_lookAt_41 : decode cX4_lookAt 41 = .ok (.iload_n 1, 1) := by decide +kernel
theorem dX4_lookAt_42 : decode cX4_lookAt 42 = .ok (.iload_n 2, 1) := by decide +kernel
theorem dX4_lookAt_43 : decode cX4_lookAt 43 = .ok (.invokevirtual 66, 3) := by decide +kernel
theorem dX4_lookAt_46 : decode cX4_lookAt 46 = .ok (.lmul, 1) := by decide +kernel
theorem dX4_lookAt_47 : decode cX4_lookAt 47 = .ok (.ladd, 1) := by decide +kernel
theorem dX4_lookAt_48 : decode cX4_lookAt 48 = .ok (.putfield 21, 3) := by decide +kernel
theorem dX4_lookAt_51 : decode cX4_lookAt 51 = .ok (.aload_n 0, 1) := by decide +kernel
theorem dX4_lookAt_52 : decode cX4_lookAt 52 = .ok (.dup, 1) := by decide +kernel
theorem dX4_lookAt_53 : decode cX4_lookAt 53 = .ok (.getfield 25, 3) := by decide +kernel
theorem dX4_lookAt_56 : decode cX4_lookAt 56 = .ok (.aload_n 0, 1) := by decide +kernel
theorem dX4_lookAt_57 : decode cX4_lookAt 57 = .ok (.getfield 13, 3) := by decide +kernel
theorem dX4_lookAt_60 : decode cX4_lookAt 60 = .ok (.iconst 4, 1) := by decide +kernel
theorem dX4_lookAt_61 : decode cX4_lookAt 61 = .ok (.iload_n 1, 1) := by decide +kernel
theorem dX4_lookAt_62 : decode cX4_lookAt 62 = .ok (.iload_n 2, 1) := by decide +kernel
theorem dX4_lookAt_63 : decode cX4_lookAt 63 = .ok (.invokevirtual 66, 3) := by decide +kernel
theorem dX4_lookAt_66 : decode cX4_lookAt 66 = .ok (.l2i, 1) := by decide +kernel
theorem dX4_lookAt_67 : decode cX4_lookAt 67 = .ok (.iadd, 1) := by decide +kernel
theorem dX4_lookAt_68 : decode cX4_lookAt 68 = .ok (.putfield 25, 3) := by decide +kernel
theorem dX4_lookAt_71 : decode cX4_lookAt 71 = .ok (.goto 30, 3) := by decide +kernel
theorem dX4_lookAt_74 : decode cX4_lookAt 74 = .ok (.lload_n 3, 1) := by decide +kernel
theorem dX4_lookAt_75 : decode cX4_lookAt 75 = .ok (.aload_n 0, 1) := by decide +kernel
theorem dX4_lookAt_76 : decode cX4_lookAt 76 = .ok (.getfield 13, 3) := by decide +kernel
theorem dX4_lookAt_79 : decode cX4_lookAt 79 = .ok (.iconst 3, 1) := by decide +kernel
theorem dX4_lookAt_80 : decode cX4_lookAt 80 = .ok (.iload_n 1, 1) := by decide +kernel
theorem dX4_lookAt_81 : decode cX4_lookAt 81 = .ok (.iload_n 2, 1) := by decide +kernel
theorem dX4_lookAt_82 : decode cX4_lookAt 82 = .ok (.invokevirtual 66, 3) := by decide +kernel
theorem dX4_lookAt_85 : decode cX4_lookAt 85 = .ok (.lmul, 1) := by decide +kernel
theorem dX4_lookAt_86 : decode cX4_lookAt 86 = .ok (.aload_n 0, 1) := by decide +kernel
theorem dX4_lookAt_87 : decode cX4_lookAt 87 = .ok (.getfield 40, 3) := by decide +kernel
theorem dX4_lookAt_90 : decode cX4_lookAt 90 = .ok (.lcmp, 1) := by decide +kernel
theorem dX4_lookAt_91 : decode cX4_lookAt 91 = .ok (.ifCond .gt 10, 3) := by decide +kernel
theorem dX4_lookAt_94 : decode cX4_lookAt 94 = .ok (.aload_n 0, 1) := by decide +kernel
theorem dX4_lookAt_95 : decode cX4_lookAt 95 = .ok (.iload_n 1, 1) := by decide +kernel
theorem dX4_lookAt_96 : decode cX4_lookAt 96 = .ok (.iload_n 2, 1) := by decide +kernel
theorem dX4_lookAt_97 : decode cX4_lookAt 97 = .ok (.lload_n 3, 1) := by decide +kernel
theorem dX4_lookAt_98 : decode cX4_lookAt 98 = .ok (.invokevirtual 42, 3) := by decide +kernel
theorem dX4_lookAt_101 : decode cX4_lookAt 101 = .ok (.return_, 1) := by decide +kernel
set_option maxRecDepth 20000 in
theorem ggX5_init_X0_init : GoodIn wsX5_init wsX0_init := goodIn_r _ [12, 13, 2, 3, 14, 15, 16, 17, 18, 19, 20, 21, 22, 23, 27, 28, 29, 30, 31, 32, 33] (by decide +kernel) (by decide +kernel)
set_option maxRecDepth 20000 in
theorem gX5_init_X0_init : GoodIn wsX5_init (wsX0_init) := ggX5_init_X0_init
theorem dX5_init_0 : decode cX5_init 0 = .ok (.aload_n 0, 1) := by decide +kernel
theorem dX5_init_1 : decode cX5_init 1 = .ok (.invokespecial 3, 3) := by decide +kernel
theorem dX5_init_4 : decode cX5_init 4 = .ok (.aload_n 0, 1) := by decide +kernel
theorem dX5_init_5 : decode cX5_init 5 = .ok (.iconst 3, 1) := by decide +kernel
theorem dX5_init_6 : decode cX5_init 6 = .ok (.anewarray 9, 3) := by decide +kernel
theorem dX5_init_9 : decode cX5_init 9 = .ok (.putfield 11, 3) := by decide +kernel
theorem dX5_init_12 : decode cX5_init 12 = .ok (.iconst 0, 1) := by decide +kernel
theorem dX5_init_13 : decode cX5_init 13 = .ok (.istore_n 2, 1) := by decide +kernel
theorem dX5_init_14 : decode cX5_init 14 = .ok (.iload_n 2, 1) := by decide +kernel
theorem dX5_init_15 : decode cX5_init 15 = .ok (.aload_n 0, 1) := by decide +kernel
theorem dX5_init_16 : decode cX5_init 16 = .ok (.getfield 11, 3) := by decide +kernel
theorem dX5_init_19 : decode cX5_init 19 = .ok (.arraylength, 1) := by decide +kernel
theorem dX5_init_20 : decode cX5_init 20 = .ok (.if_icmp .ge 23, 3) := by decide +kernel
theorem dX5_init_23 : decode cX5_init 23 = .ok (.aload_n 0, 1) := by decide +kernel
theorem dX5_init_24 : decode cX5_init 24 = .ok (.getfield 11, 3) := by decide +kernel
theorem dX5_init_27 : decode cX5_init 27 = .ok (.iload_n 2, 1) := by decide +kernel
theorem dX5_init_28 : decode cX5_init 28 = .ok (.new 9, 3) := by decide +kernel
theorem dX5_init_31 : decode cX5_init 31 = .ok (.dup, 1) := by decide +kernel
theorem dX5_init_32 : decode cX5_init 32 = .ok (.aload_n 1, 1) := by decide +kernel
theorem dX5_init_33 : decode cX5_init 33 = .ok (.invokespecial 17, 3) := by decide +kernel
theorem dX5_init_36 : decode cX5_init 36 = .ok (.aastore, 1) := by decide +kernel
theorem dX5_init_37 : decode cX5_init 37 = .ok (.iinc 2 1, 3) := by decide +kernel
theorem dX5_init_40 : decode cX5_init 40 = .ok (.goto (-26), 3) := by decide +kernel
theorem dX5_init_43 : decode cX5_init 43 = .ok (.aload_n 0, 1) := by decide +kernel
theorem dX5_init_44 : decode cX5_init 44 = .ok (.iconst 0, 1) := by decide +kernel
theorem dX5_init_45 : decode cX5_init 45 = .ok (.putfield 20, 3) := by decide +kernel
theorem dX5_init_48 : decode cX5_init 48 = .ok (.aload_n 0, 1) := by decide +kernel
theorem dX5_init_49 : decode cX5_init 49 = .ok (.iconst 0, 1) := by decide +kernel
theorem dX5_init_50 : decode cX5_init 50 = .ok (.putfield 24, 3) := by decide +kernel
theorem dX5_init_53 : decode cX5_init 53 = .ok (.return_, 1) := by decide +kernel
theorem dX5_strataRead_0 : decode cX5_strataRead 0 = .ok (.aload_n 0, 1) := by decide +kernel
theorem dX5_strataRead_1 : decode cX5_strataRead 1 = .ok (.getfield 20, 3) := by decide +kernel
theorem dX5_strataRead_4 : decode cX5_strataRead 4 = .ok (.ireturn, 1) := by decide +kernel
theorem dX5_draft_0 : decode cX5_draft 0 = .ok (.iload_n 1, 1) := by decide +kernel
theorem dX5_draft_1 : decode cX5_draft 1 = .ok (.ifCond .lt 29, 3) := by decide +kernel
theorem dX5_draft_4 : decode cX5_draft 4 = .ok (.iload_n 1, 1) := by decide +kernel
theorem dX5_draft_5 : decode cX5_draft 5 = .ok (.aload_n 0, 1) := by decide +kernel
theorem dX5_draft_6 : decode cX5_draft 6 = .ok (.getfield 20, 3) := by decide +kernel
theorem dX5_draft_9 : decode cX5_draft 9 = .ok (.if_icmp .ge 21, 3) := by decide +kernel
theorem dX5_draft_12 : decode cX5_draft 12 = .ok (.iload_n 1, 1) := by decide +kernel
theorem dX5_draft_13 : decode cX5_draft 13 = .ok (.aload_n 0, 1) := by decide +kernel
theorem dX5_draft_14 : decode cX5_draft 14 = .ok (.getfield 11, 3) := by decide +kernel
theorem dX5_draft_17 : decode cX5_draft 17 = .ok (.arraylength, 1) := by decide +kernel
theorem dX5_draft_18 : decode cX5_draft 18 = .ok (.if_icmp .ge 12, 3) := by decide +kernel
theorem dX5_draft_21 : decode cX5_draft 21 = .ok (.aload_n 0, 1) := by decide +kernel
theorem dX5_draft_22 : decode cX5_draft 22 = .ok (.getfield 11, 3) := by decide +kernel
theorem dX5_draft_25 : decode cX5_draft 25 = .ok (.iload_n 1, 1) := by decide +kernel
theorem dX5_draft_26 : decode cX5_draft 26 = .ok (.aaload, 1) := by decide +kernel
theorem dX5_draft_27 : decode cX5_draft 27 = .ok (.goto 4, 3) := by decide +kernel
theorem dX5_draft_30 : decode cX5_draft 30 = .ok (.aconst_null, 1) := by decide +kernel
theorem dX5_draft_31 : decode cX5_draft 31 = .ok (.areturn, 1) := by decide +kernel
set_option maxRecDepth 20000 in
theorem ggX5_canBeLaid_X5_draft : GoodIn wsX5_canBeLaid wsX5_draft := goodIn_r _ [6, 1, 7, 14, 15, 16] (by decide +kernel) (by decide +kernel)
set_option maxRecDepth 20000 in
theorem gX5_canBeLaid_X5_draft : GoodIn wsX5_canBeLaid (wsV RX5 27 RX5 yX5_draft wsX5_draft) := goodIn_app (goodIn_of _ (by decide +kernel)) ggX5_canBeLaid_X5_draft
set_option maxRecDepth 20000 in
theorem ggX5_canBeLaid_X0_size : GoodIn wsX5_canBeLaid wsX0_size := goodIn_r _ [12, 13, 17, 18, 19, 20, 21, 22, 23] (by decide +kernel) (by decide +kernel)
set_option maxRecDepth 20000 in
theorem gX5_canBeLaid_X0_size : GoodIn wsX5_canBeLaid (wsV RX5 31 RX0 yX0_size wsX0_size) := goodIn_app (goodIn_of _ (by decide +kernel)) ggX5_canBeLaid_X0_size
theorem dX5_canBeLaid_0 : decode cX5_canBeLaid 0 = .ok (.iconst 0, 1) := by decide +kernel
theorem dX5_canBeLaid_1 : decode cX5_canBeLaid 1 = .ok (.istore_n 1, 1) := by decide +kernel
theorem dX5_canBeLaid_2 : decode cX5_canBeLaid 2 = .ok (.iload_n 1, 1) := by decide +kernel
theorem dX5_canBeLaid_3 : decode cX5_canBeLaid 3 = .ok (.aload_n 0, 1) := by decide +kernel
theorem dX5_canBeLaid_4 : decode cX5_canBeLaid 4 = .ok (.getfield 20, 3) := by decide +kernel
theorem dX5_canBeLaid_7 : decode cX5_canBeLaid 7 = .ok (.if_icmp .ge 29, 3) := by decide +kernel
theorem dX5_canBeLaid_10 : decode cX5_canBeLaid 10 = .ok (.aload_n 0, 1) := by decide +kernel
theorem dX5_canBeLaid_11 : decode cX5_canBeLaid 11 = .ok (.iload_n 1, 1) := by decide +kernel
theorem dX5_canBeLaid_12 : decode cX5_canBeLaid 12 = .ok (.invokevirtual 27, 3) := by decide +kernel
theorem dX5_canBeLaid_15 : decode cX5_canBeLaid 15 = .ok (.astore_n 2, 1) := by decide +kernel
theorem dX5_canBeLaid_16 : decode cX5_canBeLaid 16 = .ok (.aload_n 2, 1) := by decide +kernel
theorem dX5_canBeLaid_17 : decode cX5_canBeLaid 17 = .ok (.ifnull 11, 3) := by decide +kernel
theorem dX5_canBeLaid_20 : decode cX5_canBeLaid 20 = .ok (.aload_n 2, 1) := by decide +kernel
theorem dX5_canBeLaid_21 : decode cX5_canBeLaid 21 = .ok (.invokevirtual 31, 3) := by decide +kernel
theorem dX5_canBeLaid_24 : decode cX5_canBeLaid 24 = .ok (.iconst 2, 1) := by decide +kernel
theorem dX5_canBeLaid_25 : decode cX5_canBeLaid 25 = .ok (.if_icmp .ge 5, 3) := by decide +kernel
theorem dX5_canBeLaid_28 : decode cX5_canBeLaid 28 = .ok (.iconst 0, 1) := by decide +kernel
theorem dX5_canBeLaid_29 : decode cX5_canBeLaid 29 = .ok (.ireturn, 1) := by decide +kernel
theorem dX5_canBeLaid_30 : decode cX5_canBeLaid 30 = .ok (.iinc 1 1, 3) := by decide +kernel
theorem dX5_canBeLaid_33 : decode cX5_canBeLaid 33 = .ok (.goto (-31), 3) := by decide +kernel
theorem dX5_canBeLaid_36 : decode cX5_canBeLaid 36 = .ok (.aload_n 0, 1) := by decide +kernel
theorem dX5_canBeLaid_37 : decode cX5_canBeLaid 37 = .ok (.getfield 20, 3) := by decide +kernel
theorem dX5_canBeLaid_40 : decode cX5_canBeLaid 40 = .ok (.ifCond .le 7, 3) := by decide +kernel
theorem dX5_canBeLaid_43 : decode cX5_canBeLaid 43 = .ok (.iconst 1, 1) := by decide +kernel
theorem dX5_canBeLaid_44 : decode cX5_canBeLaid 44 = .ok (.goto 4, 3) := by decide +kernel
theorem dX5_canBeLaid_47 : decode cX5_canBeLaid 47 = .ok (.iconst 0, 1) := by decide +kernel
theorem dX5_canBeLaid_48 : decode cX5_canBeLaid 48 = .ok (.ireturn, 1) := by decide +kernel
set_option maxRecDepth 20000 in
theorem ggX5_faultOf_X9_size : GoodIn wsX5_faultOf wsX9_size := goodIn_r _ [7, 8, 68, 69] (by decide +kernel) (by decide +kernel)
set_option maxRecDepth 20000 in
theorem gX5_faultOf_X9_size : GoodIn wsX5_faultOf (wsV RX5 35 RX9 yX9_size wsX9_size) := goodIn_app (goodIn_of _ (by decide +kernel)) ggX5_faultOf_X9_size
set_option maxRecDepth 20000 in
theorem ggX5_faultOf_X5_readItem : GoodIn wsX5_faultOf wsX5_readItem := goodIn_r _ [13, 14, 15, 16, 12, 17, 2, 18, 19, 20, 6, 21, 8, 22, 23, 24, 25, 26, 1, 27, 28, 29, 30, 31, 32, 33, 34, 35, 36, 37, 38, 39, 40, 41, 42, 43, 44, 45, 46, 47, 48, 49, 50, 51, 52, 53, 54, 55, 56, 57, 58, 59, 60, 61, 62, 63, 64, 65, 66, 67, 68, 69, 70, 71, 72, 73, 74, 75, 76, 77] (by decide +kernel) (by decide +kernel)
set_option maxRecDepth 20000 in
theorem gX5_faultOf_X5_readItem : GoodIn wsX5_faultOf (wsV RX5 38 RX5 yX5_readItem wsX5_readItem) := goodIn_app (goodIn_of _ (by decide +kernel)) ggX5_faultOf_X5_readItem
theorem dX5_faultOf_0 : decode cX5_faultOf 0 = .ok (.aload_n 0, 1) := by decide +kernel
theorem dX5_faultOf_1 : decode cX5_faultOf 1 = .ok (.iconst 0, 1) := by decide +kernel
theorem dX5_faultOf_2 : decode cX5_faultOf 2 = .ok (.putfield 20, 3) := by decide +kernel
theorem dX5_faultOf_5 : decode cX5_faultOf 5 = .ok (.aload_n 0, 1) := by decide +kernel
theorem dX5_faultOf_6 : decode cX5_faultOf 6 = .ok (.iconst 0, 1) := by decide +kernel
theorem dX5_faultOf_7 : decode cX5_faultOf 7 = .ok (.putfield 24, 3) := by decide +kernel
theorem dX5_faultOf_10 : decode cX5_faultOf 10 = .ok (.iconst 0, 1) := by decide +kernel
theorem dX5_faultOf_11 : decode cX5_faultOf 11 = .ok (.istore_n 2, 1) := by decide +kernel
theorem dX5_faultOf_12 : decode cX5_faultOf 12 = .ok (.iload_n 2, 1) := by decide +kernel
theorem dX5_faultOf_13 : decode cX5_faultOf 13 = .ok (.sipush 200, 3) := by decide +kernel
theorem dX5_faultOf_16 : decode cX5_faultOf 16 = .ok (.if_icmp .ge 35, 3) := by decide +kernel
theorem dX5_faultOf_19 : decode cX5_faultOf 19 = .ok (.aload_n 0, 1) := by decide +kernel
theorem dX5_faultOf_20 : decode cX5_faultOf 20 = .ok (.getfield 24, 3) := by decide +kernel
theorem dX5_faultOf_23 : decode cX5_faultOf 23 = .ok (.aload_n 1, 1) := by decide +kernel
theorem dX5_faultOf_24 : decode cX5_faultOf 24 = .ok (.invokevirtual 35, 3) := by decide +kernel
theorem dX5_faultOf_27 : decode cX5_faultOf 27 = .ok (.if_icmp .ge 24, 3) := by decide +kernel
theorem dX5_faultOf_30 : decode cX5_faultOf 30 = .ok (.aload_n 0, 1) := by decide +kernel
theorem dX5_faultOf_31 : decode cX5_faultOf 31 = .ok (.getfield 24, 3) := by decide +kernel
theorem dX5_faultOf_34 : decode cX5_faultOf 34 = .ok (.istore_n 3, 1) := by decide +kernel
theorem dX5_faultOf_35 : decode cX5_faultOf 35 = .ok (.aload_n 0, 1) := by decide +kernel
theorem dX5_faultOf_36 : decode cX5_faultOf 36 = .ok (.aload_n 1, 1) := by decide +kernel
theorem dX5_faultOf_37 : decode cX5_faultOf 37 = .ok (.invokevirtual 38, 3) := by decide +kernel
theorem dX5_faultOf_40 : decode cX5_faultOf 40 = .ok (.ifCond .ne 5, 3) := by decide +kernel
theorem dX5_faultOf_43 : decode cX5_faultOf 43 = .ok (.iload_n 3, 1) := by decide +kernel
theorem dX5_faultOf_44 : decode cX5_faultOf 44 = .ok (.ireturn, 1) := by decide +kernel
theorem dX5_faultOf_45 : decode cX5_faultOf 45 = .ok (.iinc 2 1, 3) := by decide +kernel
theorem dX5_faultOf_48 : decode cX5_faultOf 48 = .ok (.goto (-36), 3) := by decide +kernel
theorem dX5_faultOf_51 : decode cX5_faultOf 51 = .ok (.iconst (-1), 1) := by decide +kernel
theorem dX5_faultOf_52 : decode cX5_faultOf 52 = .ok (.ireturn, 1) := by decide +kernel
set_option maxRecDepth 20000 in
theorem ggX5_readItem_X5_readSign : GoodIn wsX5_readItem wsX5_readSign := goodIn_r _ [5, 6, 7, 8, 9, 10, 11, 12, 13, 57, 58, 59, 60, 61] (by decide +kernel) (by decide +kernel)
set_option maxRecDepth 20000 in
theorem gX5_readItem_X5_readSign : GoodIn wsX5_readItem (wsV RX5 42 RX5 yX5_readSign wsX5_readSign) := goodIn_app (goodIn_of _ (by decide +kernel)) ggX5_readItem_X5_readSign
set_option maxRecDepth 20000 in
theorem ggX5_readItem_X5_addStratum : GoodIn wsX5_readItem wsX5_addStratum := goodIn_r _ [17, 18, 19, 20, 21, 22, 4, 23, 24, 25, 26, 27, 28, 29, 30, 57, 58, 59, 62, 63, 64, 65, 66, 67, 68] (by decide +kernel) (by decide +kernel)
set_option maxRecDepth 20000 in
theorem gX5_readItem_X5_addStratum : GoodIn wsX5_readItem (wsV RX5 46 RX5 yX5_addStratum wsX5_addStratum) := goodIn_app (goodIn_of _ (by decide +kernel)) ggX5_readItem_X5_addStratum
set_option maxRecDepth 20000 in
theorem ggX5_readItem_X5_readNumber : GoodIn wsX5_readItem wsX5_readNumber := goodIn_r _ [34, 6, 35, 36, 4, 37, 7, 8, 9, 10, 11, 12, 13, 57, 58, 59, 60, 61] (by decide +kernel) (by decide +kernel)
set_option maxRecDepth 20000 in
theorem gX5_readItem_X5_readNumber : GoodIn wsX5_readItem (wsV RX5 50 RX5 yX5_readNumber wsX5_readNumber) := goodIn_app (goodIn_of _ (by decide +kernel)) ggX5_readItem_X5_readNumber
set_option maxRecDepth 20000 in
theorem ggX5_readItem_X5_addColumn : GoodIn wsX5_readItem wsX5_addColumn := goodIn_r _ [41, 18, 20, 21, 22, 4, 23, 19, 42, 43, 44, 27, 45, 29, 46, 47, 48, 49, 50, 30, 51, 52, 53, 54, 55, 56, 57, 58, 59, 62, 63, 64, 65, 66, 67, 68, 69] (by decide +kernel) (by decide +kernel)
set_option maxRecDepth 20000 in
theorem gX5_readItem_X5_addColumn : GoodIn wsX5_readItem (wsV RX5 54 RX5 yX5_addColumn wsX5_addColumn) := goodIn_app (goodIn_of _ (by decide +kernel)) ggX5_readItem_X5_addColumn
theorem dX5_readItem_0 : decode cX5_readItem 0 = .ok (.aload_n 0, 1) := by decide +kernel
theorem dX5_readItem_1 : decode cX5_readItem 1 = .ok (.aload_n 1, 1) := by decide +kernel
theorem dX5_readItem_2 : decode cX5_readItem 2 = .ok (.bipush 115, 2) := by decide +kernel
theorem dX5_readItem_4 : decode cX5_readItem 4 = .ok (.invokevirtual 42, 3) := by decide +kernel
theorem dX5_readItem_7 : decode cX5_readItem 7 = .ok (.ifCond .eq 26, 3) := by decide +kernel
theorem dX5_readItem_10 : decode cX5_readItem 10 = .ok (.aload_n 0, 1) := by decide +kernel
theorem dX5_readItem_11 : decode cX5_readItem 11 = .ok (.aload_n 1, 1) := by decide +kernel
theorem dX5_readItem_12 : decode cX5_readItem 12 = .ok (.bipush 59, 2) := by decide +kernel
theorem dX5_readItem_14 : decode cX5_readItem 14 = .ok (.invokevirtual 42, 3) := by decide +kernel
theorem dX5_readItem_17 : decode cX5_readItem 17 = .ok (.ifCond .eq 14, 3) := by decide +kernel
theorem dX5_readItem_20 : decode cX5_readItem 20 = .ok (.aload_n 0, 1) := by decide +kernel
theorem dX5_readItem_21 : decode cX5_readItem 21 = .ok (.invokevirtual 46, 3) := by decide +kernel
theorem dX5_readItem_24 : decode cX5_readItem 24 = .ok (.ifCond .eq 7, 3) := by decide +kernel
theorem dX5_readItem_27 : decode cX5_readItem 27 = .ok (.iconst 1, 1) := by decide +kernel
theorem dX5_readItem_28 : decode cX5_readItem 28 = .ok (.goto 4, 3) := by decide +kernel
theorem dX5_readItem_31 : decode cX5_readItem 31 = .ok (.iconst 0, 1) := by decide +kernel
theorem dX5_readItem_32 : decode cX5_readItem 32 = .ok (.ireturn, 1) := by decide +kernel
theorem dX5_readItem_33 : decode cX5_readItem 33 = .ok (.aload_n 0, 1) := by decide +kernel
theorem dX5_readItem_34 : decode cX5_readItem 34 = .ok (.aload_n 1, 1) := by decide +kernel
theorem dX5_readItem_35 : decode cX5_readItem 35 = .ok (.bipush 99, 2) := by decide +kernel
theorem dX5_readItem_37 : decode cX5_readItem 37 = .ok (.invokevirtual 42, 3) := by decide +kernel
theorem dX5_readItem_40 : decode cX5_readItem 40 = .ok (.ifCond .ne 5, 3) := by decide +kernel
theorem dX5_readItem_43 : decode cX5_readItem 43 = .ok (.iconst 0, 1) := by decide +kernel
theorem dX5_readItem_44 : decode cX5_readItem 44 = .ok (.ireturn, 1) := by decide +kernel
theorem dX5_readItem_45 : decode cX5_readItem 45 = .ok (.aload_n 0, 1) := by decide +kernel
theorem dX5_readItem_46 : decode cX5_readItem 46 = .ok (.aload_n 1, 1) := by decide +kernel
theorem dX5_readItem_47 : decode cX5_readItem 47 = .ok (.invokevirtual 50, 3) := by decide +kernel
theorem dX5_readItem_50 : decode cX5_readItem 50 = .ok (.istore_n 2, 1) := by decide +kernel
theorem dX5_readItem_51 : decode cX5_readItem 51 = .ok (.aload_n 0, 1) := by decide +kernel
theorem dX5_readItem_52 : decode cX5_readItem 52 = .ok (.aload_n 1, 1) := by decide +kernel
theorem dX5_readItem_53 : decode cX5_readItem 53 = .ok (.bipush 44, 2) := by decide +kernel
theorem dX5_readItem_55 : decode cX5_readItem 55 = .ok (.invokevirtual 42, 3) := by decide +kernel
theorem dX5_readItem_58 : decode cX5_readItem 58 = .ok (.istore_n 3, 1) := by decide +kernel
theorem dX5_readItem_59 : decode cX5_readItem 59 = .ok (.aload_n 0, 1) := by decide +kernel
theorem dX5_readItem_60 : decode cX5_readItem 60 = .ok (.aload_n 1, 1) := by decide +kernel
theorem dX5_readItem_61 : decode cX5_readItem 61 = .ok (.invokevirtual 50, 3) := by decide +kernel
theorem dX5_readItem_64 : decode cX5_readItem 64 = .ok (.istore 4, 2) := by decide +kernel
theorem dX5_readItem_66 : decode cX5_readItem 66 = .ok (.aload_n 0, 1) := by decide +kernel
theorem dX5_readItem_67 : decode cX5_readItem 67 = .ok (.aload_n 1, 1) := by decide +kernel
theorem dX5_readItem_68 : decode cX5_readItem 68 = .ok (.bipush 44, 2) := by decide +kernel
theorem dX5_readItem_70 : decode cX5_readItem 70 = .ok (.invokevirtual 42, 3) := by decide +kernel
theorem dX5_readItem_73 : decode cX5_readItem 73 = .ok (.ifCond .eq 11, 3) := by decide +kernel
theorem dX5_readItem_76 : decode cX5_readItem 76 = .ok (.iload_n 3, 1) := by decide +kernel
theorem dX5_readItem_77 : decode cX5_readItem 77 = .ok (.ifCond .eq 7, 3) := by decide +kernel
theorem dX5_readItem_80 : decode cX5_readItem 80 = .ok (.iconst 1, 1) := by decide +kernel
theorem dX5_readItem_81 : decode cX5_readItem 81 = .ok (.goto 4, 3) := by decide +kernel
theorem dX5_readItem_84 : decode cX5_readItem 84 = .ok (.iconst 0, 1) := by decide +kernel
theorem dX5_readItem_85 : decode cX5_readItem 85 = .ok (.istore_n 3, 1) := by decide +kernel
theorem dX5_readItem_86 : decode cX5_readItem 86 = .ok (.aload_n 0, 1) := by decide +kernel
theorem dX5_readItem_87 : decode cX5_readItem 87 = .ok (.aload_n 1, 1) := by decide +kernel
theorem dX5_readItem_88 : decode cX5_readItem 88 = .ok (.invokevirtual 50, 3) := by decide +kernel
theorem dX5_readItem_91 : decode cX5_readItem 91 = .ok (.istore 5, 2) := by decide +kernel
theorem dX5_readItem_93 : decode cX5_readItem 93 = .ok (.aload_n 0, 1) := by decide +kernel
theorem dX5_readItem_94 : decode cX5_readItem 94 = .ok (.aload_n 1, 1) := by decide +kernel
theorem dX5_readItem_95 : decode cX5_readItem 95 = .ok (.bipush 59, 2) := by decide +kernel
theorem dX5_readItem_97 : decode cX5_readItem 97 = .ok (.invokevirtual 42, 3) := by decide +kernel
theorem dX5_readItem_100 : decode cX5_readItem 100 = .ok (.ifCond .eq 11, 3) := by decide +kernel
theorem dX5_readItem_103 : decode cX5_readItem 103 = .ok (.iload_n 3, 1) := by decide +kernel
theorem dX5_readItem_104 : decode cX5_readItem 104 = .ok (.ifCond .eq 7, 3) := by decide +kernel
theorem dX5_readItem_107 : decode cX5_readItem 107 = .ok (.iconst 1, 1) := by decide +kernel
theorem dX5_readItem_108 : decode cX5_readItem 108 = .ok (.goto 4, 3) := by decide +kernel
theorem dX5_readItem_111 : decode cX5_readItem 111 = .ok (.iconst 0, 1) := by decide +kernel
theorem dX5_readItem_112 : decode cX5_readItem 112 = .ok (.istore_n 3, 1) := by decide +kernel
theorem dX5_readItem_113 : decode cX5_readItem 113 = .ok (.iload_n 3, 1) := by decide +kernel
theorem dX5_readItem_114 : decode cX5_readItem 114 = .ok (.ifCond .eq 19, 3) := by decide +kernel
theorem dX5_readItem_117 : decode cX5_readItem 117 = .ok (.aload_n 0, 1) := by decide +kernel
theorem dX5_readItem_118 : decode cX5_readItem 118 = .ok (.iload_n 2, 1) := by decide +kernel
theorem dX5_readItem_119 : decode cX5_readItem 119 = .ok (.iload 4, 2) := by decide +kernel
theorem dX5_readItem_121 : decode cX5_readItem 121 = .ok (.iload 5, 2) := by decide +kernel
theorem dX5_readItem_123 : decode cX5_readItem 123 = .ok (.invokevirtual 54, 3) := by decide +kernel
theorem dX5_readItem_126 : decode cX5_readItem 126 = .ok (.ifCond .eq 7, 3) := by decide +kernel
theorem dX5_readItem_129 : decode cX5_readItem 129 = .ok (.iconst 1, 1) := by decide +kernel
theorem dX5_readItem_130 : decode cX5_readItem 130 = .ok (.goto 4, 3) := by decide +kernel
theorem dX5_readItem_133 : decode cX5_readItem 133 = .ok (.iconst 0, 1) := by decide +kernel
theorem dX5_readItem_134 : decode cX5_readItem 134 = .ok (.ireturn, 1) := by decide +kernel
set_option maxRecDepth 20000 in
theorem ggX5_readSign_X9_letterAt : GoodIn wsX5_readSign wsX9_letterAt := goodIn_r _ [6, 7, 8, 12, 13] (by decide +kernel) (by decide +kernel)
set_option maxRecDepth 20000 in
theorem gX5_readSign_X9_letterAt : GoodIn wsX5_readSign (wsV RX5 58 RX9 yX9_letterAt wsX9_letterAt) := goodIn_app (goodIn_of _ (by decide +kernel)) ggX5_readSign_X9_letterAt
theorem dX5_readSign_0 : decode cX5_readSign 0 = .ok (.aload_n 1, 1) := by decide +kernel
theorem dX5_readSign_1 : decode cX5_readSign 1 = .ok (.aload_n 0, 1) := by decide +kernel
theorem dX5_readSign_2 : decode cX5_readSign 2 = .ok (.getfield 24, 3) := by decide +kernel
theorem dX5_readSign_5 : decode cX5_readSign 5 = .ok (.invokevirtual 58, 3) := by decide +kernel
theorem dX5_readSign_8 : decode cX5_readSign 8 = .ok (.iload_n 2, 1) := by decide +kernel
theorem dX5_readSign_9 : decode cX5_readSign 9 = .ok (.if_icmp .eq 5, 3) := by decide +kernel
theorem dX5_readSign_12 : decode cX5_readSign 12 = .ok (.iconst 0, 1) := by decide +kernel
theorem dX5_readSign_13 : decode cX5_readSign 13 = .ok (.ireturn, 1) := by decide +kernel
theorem dX5_readSign_14 : decode cX5_readSign 14 = .ok (.aload_n 0, 1) := by decide +kernel
theorem dX5_readSign_15 : decode cX5_readSign 15 = .ok (.dup, 1) := by decide +kernel
theorem dX5_readSign_16 : decode cX5_readSign 16 = .ok (.getfield 24, 3) := by decide +kernel
theorem dX5_readSign_19 : decode cX5_readSign 19 = .ok (.iconst 1, 1) := by decide +kernel
theorem dX5_readSign_20 : decode cX5_readSign 20 = .ok (.iadd, 1) := by decide +kernel
theorem dX5_readSign_21 : decode cX5_readSign 21 = .ok (.putfield 24, 3) := by decide +kernel
theorem dX5_readSign_24 : decode cX5_readSign 24 = .ok (.iconst 1, 1) := by decide +kernel
theorem dX5_readSign_25 : decode cX5_readSign 25 = .ok (.ireturn, 1) := by decide +kernel
set_option maxRecDepth 20000 in
theorem ggX5_readNumber_X5_figureAt : GoodIn wsX5_readNumber wsX5_figureAt := goodIn_r _ [5, 6, 7, 8, 9, 10, 11, 12, 16, 17] (by decide +kernel) (by decide +kernel)
set_option maxRecDepth 20000 in
theorem gX5_readNumber_X5_figureAt : GoodIn wsX5_readNumber (va_wsS RX5 62 yX5_figureAt wsX5_figureAt) := goodIn_app (goodIn_of _ (by decide +kernel)) ggX5_readNumber_X5_figureAt
theorem dX5_readNumber_0 : decode cX5_readNumber 0 = .ok (.aload_n 1, 1) := by decide +kernel
theorem dX5_readNumber_1 : decode cX5_readNumber 1 = .ok (.aload_n 0, 1) := by decide +kernel
theorem dX5_readNumber_2 : decode cX5_readNumber 2 = .ok (.getfield 24, 3) := by decide +kernel
theorem dX5_readNumber_5 : decode cX5_readNumber 5 = .ok (.invokestatic 62, 3) := by decide +kernel
theorem dX5_readNumber_8 : decode cX5_readNumber 8 = .ok (.istore_n 2, 1) := by decide +kernel
theorem dX5_readNumber_9 : decode cX5_readNumber 9 = .ok (.iload_n 2, 1) := by decide +kernel
theorem dX5_readNumber_10 : decode cX5_readNumber 10 = .ok (.ifCond .ge 5, 3) := by decide +kernel
theorem dX5_readNumber_13 : decode cX5_readNumber 13 = .ok (.iconst (-1), 1) := by decide +kernel
theorem dX5_readNumber_14 : decode cX5_readNumber 14 = .ok (.ireturn, 1) := by decide +kernel
theorem dX5_readNumber_15 : decode cX5_readNumber 15 = .ok (.aload_n 0, 1) := by decide +kernel
theorem dX5_readNumber_16 : decode cX5_readNumber 16 = .ok (.dup, 1) := by decide +kernel
theorem dX5_readNumber_17 : decode cX5_readNumber 17 = .ok (.getfield 24, 3) := by decide +kernel
theorem dX5_readNumber_20 : decode cX5_readNumber 20 = .ok (.iconst 1, 1) := by decide +kernel
theorem dX5_readNumber_21 : decode cX5_readNumber 21 = .ok (.iadd, 1) := by decide +kernel
theorem dX5_readNumber_22 : decode cX5_readNumber 22 = .ok (.putfield 24, 3) := by decide +kernel
theorem dX5_readNumber_25 : decode cX5_readNumber 25 = .ok (.aload_n 1, 1) := by decide +kernel
theorem dX5_readNumber_26 : decode cX5_readNumber 26 = .ok (.aload_n 0, 1) := by decide +kernel
theorem dX5_readNumber_27 : decode cX5_readNumber 27 = .ok (.getfield 24, 3) := by decide +kernel
theorem dX5_readNumber_30 : decode cX5_readNumber 30 = .ok (.invokestatic 62, 3) := by decide +kernel
theorem dX5_readNumber_33 : decode cX5_readNumber 33 = .ok (.istore_n 3, 1) := by decide +kernel
theorem dX5_readNumber_34 : decode cX5_readNumber 34 = .ok (.iload_n 3, 1) := by decide +kernel
theorem dX5_readNumber_35 : decode cX5_readNumber 35 = .ok (.ifCond .ge 5, 3) := by decide +kernel
theorem dX5_readNumber_38 : decode cX5_readNumber 38 = .ok (.iload_n 2, 1) := by decide +kernel
theorem dX5_readNumber_39 : decode cX5_readNumber 39 = .ok (.ireturn, 1) := by decide +kernel
theorem dX5_readNumber_40 : decode cX5_readNumber 40 = .ok (.aload_n 0, 1) := by decide +kernel
theorem dX5_readNumber_41 : decode cX5_readNumber 41 = .ok (.dup, 1) := by decide +kernel
theorem dX5_readNumber_42 : decode cX5_readNumber 42 = .ok (.getfield 24, 3) := by decide +kernel
theorem dX5_readNumber_45 : decode cX5_readNumber 45 = .ok (.iconst 1, 1) := by decide +kernel
theorem dX5_readNumber_46 : decode cX5_readNumber 46 = .ok (.iadd, 1) := by decide +kernel
theorem dX5_readNumber_47 : decode cX5_readNumber 47 = .ok (.putfield 24, 3) := by decide +kernel
theorem dX5_readNumber_50 : decode cX5_readNumber 50 = .ok (.iload_n 2, 1) := by decide +kernel
theorem dX5_readNumber_51 : decode cX5_readNumber 51 = .ok (.bipush 10, 2) := by decide +kernel
theorem dX5_readNumber_53 : decode cX5_readNumber 53 = .ok (.imul, 1) := by decide +kernel
theorem dX5_readNumber_54 : decode cX5_readNumber 54 = .ok (.iload_n 3, 1) := by decide +kernel
theorem dX5_readNumber_55 : decode cX5_readNumber 55 = .ok (.iadd, 1) := by decide +kernel
theorem dX5_readNumber_56 : decode cX5_readNumber 56 = .ok (.ireturn, 1) := by decide +kernel
set_option maxRecDepth 20000 in
theorem ggX5_figureAt_X9_letterAt : GoodIn wsX5_figureAt wsX9_letterAt := goodIn_r _ [5, 6, 7, 8, 9] (by decide +kernel) (by decide +kernel)
set_option maxRecDepth 20000 in
theorem gX5_figureAt_X9_letterAt : GoodIn wsX5_figureAt (wsV RX5 58 RX9 yX9_letterAt wsX9_letterAt) := goodIn_app (goodIn_of _ (by decide +kernel)) ggX5_figureAt_X9_letterAt
theorem dX5_figureAt_0 : decode cX5_figureAt 0 = .ok (.aload_n 0, 1) := by decide +kernel
theorem dX5_figureAt_1 : decode cX5_figureAt 1 = .ok (.iload_n 1, 1) := by decide +kernel
theorem dX5_figureAt_2 : decode cX5_figureAt 2 = .ok (.invokevirtual 58, 3) := by decide +kernel
theorem dX5_figureAt_5 : decode cX5_figureAt 5 = .ok (.istore_n 2, 1) := by decide +kernel
theorem dX5_figureAt_6 : decode cX5_figureAt 6 = .ok (.iload_n 2, 1) := by decide +kernel
theorem dX5_figureAt_7 : decode cX5_figureAt 7 = .ok (.bipush 48, 2) := by decide +kernel
theorem dX5_figureAt_9 : decode cX5_figureAt 9 = .ok (.if_icmp .lt 16, 3) := by decide +kernel
theorem dX5_figureAt_12 : decode cX5_figureAt 12 = .ok (.iload_n 2, 1) := by decide +kernel
theorem dX5_figureAt_13 : decode cX5_figureAt 13 = .ok (.bipush 57, 2) := by decide +kernel
theorem dX5_figureAt_15 : decode cX5_figureAt 15 = .ok (.if_icmp .gt 10, 3) := by decide +kernel
theorem dX5_figureAt_18 : decode cX5_figureAt 18 = .ok (.iload_n 2, 1) := by decide +kernel
theorem dX5_figureAt_19 : decode cX5_figureAt 19 = .ok (.bipush 48, 2) := by decide +kernel
theorem dX5_figureAt_21 : decode cX5_figureAt 21 = .ok (.isub, 1) := by decide +kernel
theorem dX5_figureAt_22 : decode cX5_figureAt 22 = .ok (.goto 4, 3) := by decide +kernel
theorem dX5_figureAt_25 : decode cX5_figureAt 25 = .ok (.iconst (-1), 1) := by decide +kernel
theorem dX5_figureAt_26 : decode cX5_figureAt 26 = .ok (.ireturn, 1) := by decide +kernel
set_option maxRecDepth 20000 in
theorem ggX5_addStratum_X5_draft : GoodIn wsX5_addStratum wsX5_draft := goodIn_r _ [7, 1, 2, 15, 16, 17] (by decide +kernel) (by decide +kernel)
set_option maxRecDepth 20000 in
theorem gX5_addStratum_X5_draft : GoodIn wsX5_addStratum (wsV RX5 27 RX5 yX5_draft wsX5_draft) := goodIn_app (goodIn_of _ (by decide +kernel)) ggX5_addStratum_X5_draft
set_option maxRecDepth 20000 in
theorem ggX5_addStratum_X0_clear : GoodIn wsX5_addStratum wsX0_clear := goodIn_r _ [12, 13, 14, 18, 19, 20, 21, 22, 23, 24] (by decide +kernel) (by decide +kernel)
set_option maxRecDepth 20000 in
theorem gX5_addStratum_X0_clear : GoodIn wsX5_addStratum (wsV RX5 66 RX0 yX0_clear wsX0_clear) := goodIn_app (goodIn_of _ (by decide +kernel)) ggX5_addStratum_X0_clear
theorem dX5_addStratum_0 : decode cX5_addStratum 0 = .ok (.aload_n 0, 1) := by decide +kernel
theorem dX5_addStratum_1 : decode cX5_addStratum 1 = .ok (.getfield 20, 3) := by decide +kernel
theorem dX5_addStratum_4 : decode cX5_addStratum 4 = .ok (.aload_n 0, 1) := by decide +kernel
theorem dX5_addStratum_5 : decode cX5_addStratum 5 = .ok (.getfield 11, 3) := by decide +kernel
theorem dX5_addStratum_8 : decode cX5_addStratum 8 = .ok (.arraylength, 1) := by decide +kernel
theorem dX5_addStratum_9 : decode cX5_addStratum 9 = .ok (.if_icmp .lt 5, 3) := by decide +kernel
theorem dX5_addStratum_12 : decode cX5_addStratum 12 = .ok (.iconst 0, 1) := by decide +kernel
theorem dX5_addStratum_13 : decode cX5_addStratum 13 = .ok (.ireturn, 1) := by decide +kernel
theorem dX5_addStratum_14 : decode cX5_addStratum 14 = .ok (.aload_n 0, 1) := by decide +kernel
theorem dX5_addStratum_15 : decode cX5_addStratum 15 = .ok (.dup, 1) := by decide +kernel
theorem dX5_addStratum_16 : decode cX5_addStratum 16 = .ok (.getfield 20, 3) := by decide +kernel
theorem dX5_addStratum_19 : decode cX5_addStratum 19 = .ok (.iconst 1, 1) := by decide +kernel
theorem dX5_addStratum_20 : decode cX5_addStratum 20 = .ok (.iadd, 1) := by decide +kernel
theorem dX5_addStratum_21 : decode cX5_addStratum 21 = .ok (.putfield 20, 3) := by decide +kernel
theorem dX5_addStratum_24 : decode cX5_addStratum 24 = .ok (.aload_n 0, 1) := by decide +kernel
theorem dX5_addStratum_25 : decode cX5_addStratum 25 = .ok (.aload_n 0, 1) := by decide +kernel
theorem dX5_addStratum_26 : decode cX5_addStratum 26 = .ok (.getfield 20, 3) := by decide +kernel
theorem dX5_addStratum_29 : decode cX5_addStratum 29 = .ok (.iconst 1, 1) := by decide +kernel
theorem dX5_addStratum_30 : decode cX5_addStratum 30 = .ok (.isub, 1) := by decide +kernel
theorem dX5_addStratum_31 : decode cX5_addStratum 31 = .ok (.invokevirtual 27, 3) := by decide +kernel
theorem dX5_addStratum_34 : decode cX5_addStratum 34 = .ok (.astore_n 1, 1) := by decide +kernel
theorem dX5_addStratum_35 : decode cX5_addStratum 35 = .ok (.aload_n 1, 1) := by decide +kernel
theorem dX5_addStratum_36 : decode cX5_addStratum 36 = .ok (.ifnull 7, 3) := by decide +kernel
theorem dX5_addStratum_39 : decode cX5_addStratum 39 = .ok (.aload_n 1, 1) := by decide +kernel
theorem dX5_addStratum_40 : decode cX5_addStratum 40 = .ok (.invokevirtual 66, 3) := by decide +kernel
theorem dX5_addStratum_43 : decode cX5_addStratum 43 = .ok (.iconst 1, 1) := by decide +kernel
theorem dX5_addStratum_44 : decode cX5_addStratum 44 = .ok (.ireturn, 1) := by decide +kernel
set_option maxRecDepth 20000 in
theorem ggX5_addColumn_X5_draft : GoodIn wsX5_addColumn wsX5_draft := goodIn_r _ [6, 1, 7, 26, 27, 28] (by decide +kernel) (by decide +kernel)
set_option maxRecDepth 20000 in
theorem gX5_addColumn_X5_draft : GoodIn wsX5_addColumn (wsV RX5 27 RX5 yX5_draft wsX5_draft) := goodIn_app (goodIn_of _ (by decide +kernel)) ggX5_addColumn_X5_draft
set_option maxRecDepth 20000 in
theorem ggX5_addColumn_X0_add : GoodIn wsX5_addColumn wsX0_add := goodIn_r _ [12, 13, 14, 15, 16, 17, 18, 19, 20, 21, 22, 23, 24, 25, 29, 30, 31, 32, 33, 34, 35, 36] (by decide +kernel) (by decide +kernel)
set_option maxRecDepth 20000 in
theorem gX5_addColumn_X0_add : GoodIn wsX5_addColumn (wsV RX5 69 RX0 yX0_add wsX0_add) := goodIn_app (goodIn_of _ (by decide +kernel)) ggX5_addColumn_X0_add
theorem dX5_addColumn_0 : decode cX5_addColumn 0 = .ok (.aload_n 0, 1) := by decide +kernel
theorem dX5_addColumn_1 : decode cX5_addColumn 1 = .ok (.aload_n 0, 1) := by decide +kernel
theorem dX5_addColumn_2 : decode cX5_addColumn 2 = .ok (.getfield 20, 3) := by decide +kernel
theorem dX5_addColumn_5 : decode cX5_addColumn 5 = .ok (.iconst 1, 1) := by decide +kernel
theorem dX5_addColumn_6 : decode cX5_addColumn 6 = .ok (.isub, 1) := by decide +kernel
theorem dX5_addColumn_7 : decode cX5_addColumn 7 = .ok (.invokevirtual 27, 3) := by decide +kernel
theorem dX5_addColumn_10 : decode cX5_addColumn 10 = .ok (.astore 4, 2) := by decide +kernel
theorem dX5_addColumn_12 : decode cX5_addColumn 12 = .ok (.aload 4, 2) := by decide +kernel
theorem dX5_addColumn_14 : decode cX5_addColumn 14 = .ok (.ifnull 14, 3) := by decide +kernel
theorem dX5_addColumn_17 : decode cX5_addColumn 17 = .ok (.iload_n 1, 1) := by decide +kernel
theorem dX5_addColumn_18 : decode cX5_addColumn 18 = .ok (.iconst 1, 1) := by decide +kernel
theorem dX5_addColumn_19 : decode cX5_addColumn 19 = .ok (.if_icmp .lt 9, 3) := by decide +kernel
theorem dX5_addColumn_22 : decode cX5_addColumn 22 = .ok (.iload_n 1, 1) := by decide +kernel
theorem dX5_addColumn_23 : decode cX5_addColumn 23 = .ok (.bipush 12, 2) := by decide +kernel
theorem dX5_addColumn_25 : decode cX5_addColumn 25 = .ok (.if_icmp .le 5, 3) := by decide +kernel
theorem dX5_addColumn_28 : decode cX5_addColumn 28 = .ok (.iconst 0, 1) := by decide +kernel
theorem dX5_addColumn_29 : decode cX5_addColumn 29 = .ok (.ireturn, 1) := by decide +kernel
theorem dX5_addColumn_30 : decode cX5_addColumn 30 = .ok (.iload_n 2, 1) := by decide +kernel
theorem dX5_addColumn_31 : decode cX5_addColumn 31 = .ok (.ifCond .lt 18, 3) := by decide +kernel
theorem dX5_addColumn_34 : decode cX5_addColumn 34 = .ok (.iload_n 2, 1) := by decide +kernel
theorem dX5_addColumn_35 : decode cX5_addColumn 35 = .ok (.iload_n 1, 1) := by decide +kernel
theorem dX5_addColumn_36 : decode cX5_addColumn 36 = .ok (.if_icmp .gt 13, 3) := by decide +kernel
theorem dX5_addColumn_39 : decode cX5_addColumn 39 = .ok (.iload_n 3, 1) := by decide +kernel
theorem dX5_addColumn_40 : decode cX5_addColumn 40 = .ok (.ifCond .lt 9, 3) := by decide +kernel
theorem dX5_addColumn_43 : decode cX5_addColumn 43 = .ok (.iload_n 3, 1) := by decide +kernel
theorem dX5_addColumn_44 : decode cX5_addColumn 44 = .ok (.bipush 9, 2) := by decide +kernel
theorem dX5_addColumn_46 : decode cX5_addColumn 46 = .ok (.if_icmp .le 5, 3) := by decide +kernel
theorem dX5_addColumn_49 : decode cX5_addColumn 49 = .ok (.iconst 0, 1) := by decide +kernel
theorem dX5_addColumn_50 : decode cX5_addColumn 50 = .ok (.ireturn, 1) := by decide +kernel
theorem dX5_addColumn_51 : decode cX5_addColumn 51 = .ok (.aload 4, 2) := by decide +kernel
theorem dX5_addColumn_53 : decode cX5_addColumn 53 = .ok (.iload_n 1, 1) := by decide +kernel
theorem dX5_addColumn_54 : decode cX5_addColumn 54 = .ok (.iload_n 2, 1) := by decide +kernel
theorem dX5_addColumn_55 : decode cX5_addColumn 55 = .ok (.iload_n 3, 1) := by decide +kernel
theorem dX5_addColumn_56 : decode cX5_addColumn 56 = .ok (.invokevirtual 69, 3) := by decide +kernel
theorem dX5_addColumn_59 : decode cX5_addColumn 59 = .ok (.ireturn, 1) := by decide +kernel
theorem dX6_init_0 : decode cX6_init 0 = .ok (.aload_n 0, 1) := by decide +kernel
theorem dX6_init_1 : decode cX6_init 1 = .ok (.invokespecial 3, 3) := by decide +kernel
theorem dX6_init_4 : decode cX6_init 4 = .ok (.aload_n 0, 1) := by decide +kernel
theorem dX6_init_5 : decode cX6_init 5 = .ok (.bipush 13, 2) := by decide +kernel
theorem dX6_init_7 : decode cX6_init 7 = .ok (.bipush 13, 2) := by decide +kernel
theorem dX6_init_9 : decode cX6_init 9 = .ok (.multianewarray 9 2, 4) := by decide +kernel
theorem dX6_init_13 : decode cX6_init 13 = .ok (.putfield 11, 3) := by decide +kernel
theorem dX6_init_16 : decode cX6_init 16 = .ok (.iconst 0, 1) := by decide +kernel
theorem dX6_init_17 : decode cX6_init 17 = .ok (.istore_n 1, 1) := by decide +kernel
theorem dX6_init_18 : decode cX6_init 18 = .ok (.iload_n 1, 1) := by decide +kernel
theorem dX6_init_19 : decode cX6_init 19 = .ok (.bipush 12, 2) := by decide +kernel
theorem dX6_init_21 : decode cX6_init 21 = .ok (.if_icmp .gt 62, 3) := by decide +kernel
theorem dX6_init_24 : decode cX6_init 24 = .ok (.aload_n 0, 1) := by decide +kernel
theorem dX6_init_25 : decode cX6_init 25 = .ok (.getfield 11, 3) := by decide +kernel
theorem dX6_init_28 : decode cX6_init 28 = .ok (.iload_n 1, 1) := by decide +kernel
theorem dX6_init_29 : decode cX6_init 29 = .ok (.aaload, 1) := by decide +kernel
theorem dX6_init_30 : decode cX6_init 30 = .ok (.iconst 0, 1) := by decide +kernel
theorem dX6_init_31 : decode cX6_init 31 = .ok (.lconst 1, 1) := by decide +kernel
theorem dX6_init_32 : decode cX6_init 32 = .ok (.lastore, 1) := by decide +kernel
theorem dX6_init_33 : decode cX6_init 33 = .ok (.iconst 1, 1) := by decide +kernel
theorem dX6_init_34 : decode cX6_init 34 = .ok (.istore_n 2, 1) := by decide +kernel
theorem dX6_init_35 : decode cX6_init 35 = .ok (.iload_n 2, 1) := by decide +kernel
theorem dX6_init_36 : decode cX6_init 36 = .ok (.iload_n 1, 1) := by decide +kernel
theorem dX6_init_37 : decode cX6_init 37 = .ok (.if_icmp .gt 40, 3) := by decide +kernel
theorem dX6_init_40 : decode cX6_init 40 = .ok (.aload_n 0, 1) := by decide +kernel
theorem dX6_init_41 : decode cX6_init 41 = .ok (.getfield 11, 3) := by decide +kernel
theorem dX6_init_44 : decode cX6_init 44 = .ok (.iload_n 1, 1) := by decide +kernel
theorem dX6_init_45 : decode cX6_init 45 = .ok (.aaload, 1) := by decide +kernel
theorem dX6_init_46 : decode cX6_init 46 = .ok (.iload_n 2, 1) := by decide +kernel
theorem dX6_init_47 : decode cX6_init 47 = .ok (.aload_n 0, 1) := by decide +kernel
theorem dX6_init_48 : decode cX6_init 48 = .ok (.getfield 11, 3) := by decide +kernel
theorem dX6_init_51 : decode cX6_init 51 = .ok (.iload_n 1, 1) := by decide +kernel
theorem dX6_init_52 : decode cX6_init 52 = .ok (.iconst 1, 1) := by decide +kernel
theorem dX6_init_53 : decode cX6_init 53 = .ok (.isub, 1) := by decide +kernel
theorem dX6_init_54 : decode cX6_init 54 = .ok (.aaload, 1) := by decide +kernel
theorem dX6_init_55 : decode cX6_init 55 = .ok (.iload_n 2, 1) := by decide +kernel
theorem dX6_init_56 : decode cX6_init 56 = .ok (.iconst 1, 1) := by decide +kernel
theorem dX6_init_57 : decode cX6_init 57 = .ok (.isub, 1) := by decide +kernel
theorem dX6_init_58 : decode cX6_init 58 = .ok (.laload, 1) := by decide +kernel
theorem dX6_init_59 : decode cX6_init 59 = .ok (.aload_n 0, 1) := by decide +kernel
theorem dX6_init_60 : decode cX6_init 60 = .ok (.getfield 11, 3) := by decide +kernel
theorem dX6_init_63 : decode cX6_init 63 = .ok (.iload_n 1, 1) := by decide +kernel
theorem dX6_init_64 : decode cX6_init 64 = .ok (.iconst 1, 1) := by decide +kernel
theorem dX6_init_65 : decode cX6_init 65 = .ok (.isub, 1) := by decide +kernel
theorem dX6_init_66 : decode cX6_init 66 = .ok (.aaload, 1) := by decide +kernel
theorem dX6_init_67 : decode cX6_init 67 = .ok (.iload_n 2, 1) := by decide +kernel
theorem dX6_init_68 : decode cX6_init 68 = .ok (.laload, 1) := by decide +kernel
theorem dX6_init_69 : decode cX6_init 69 = .ok (.ladd, 1) := by decide +kernel
theorem dX6_init_70 : decode cX6_init 70 = .ok (.lastore, 1) := by decide +kernel
theorem dX6_init_71 : decode cX6_init 71 = .ok (.iinc 2 1, 3) := by decide +kernel
theorem dX6_init_74 : decode cX6_init 74 = .ok (.goto (-39), 3) := by decide +kernel
theorem dX6_init_77 : decode cX6_init 77 = .ok (.iinc 1 1, 3) := by decide +kernel
theorem dX6_init_80 : decode cX6_init 80 = .ok (.goto (-62), 3) := by decide +kernel
theorem dX6_init_83 : decode cX6_init 83 = .ok (.return_, 1) := by decide +kernel
theorem dX6_of_0 : decode cX6_of 0 = .ok (.iload_n 1, 1) := by decide +kernel
theorem dX6_of_1 : decode cX6_of 1 = .ok (.ifCond .lt 18, 3) := by decide +kernel
theorem dX6_of_4 : decode cX6_of 4 = .ok (.iload_n 1, 1) := by decide +kernel
theorem dX6_of_5 : decode cX6_of 5 = .ok (.bipush 12, 2) := by decide +kernel
theorem dX6_of_7 : decode cX6_of 7 = .ok (.if_icmp .gt 12, 3) := by decide +kernel
theorem dX6_of_10 : decode cX6_of 10 = .ok (.iload_n 2, 1) := by decide +kernel
theorem dX6_of_11 : decode cX6_of 11 = .ok (.ifCond .lt 8, 3) := by decide +kernel
theorem dX6_of_14 : decode cX6_of 14 = .ok (.iload_n 2, 1) := by decide +kernel
theorem dX6_of_15 : decode cX6_of 15 = .ok (.iload_n 1, 1) := by decide +kernel
theorem dX6_of_16 : decode cX6_of 16 = .ok (.if_icmp .le 7, 3) := by decide +kernel
theorem dX6_of_19 : decode cX6_of 19 = .ok (.lconst 0, 1) := by decide +kernel
theorem dX6_of_20 : decode cX6_of 20 = .ok (.goto 11, 3) := by decide +kernel
theorem dX6_of_23 : decode cX6_of 23 = .ok (.aload_n 0, 1) := by decide +kernel
theorem dX6_of_24 : decode cX6_of 24 = .ok (.getfield 11, 3) := by decide +kernel
theorem dX6_of_27 : decode cX6_of 27 = .ok (.iload_n 1, 1) := by decide +kernel
theorem dX6_of_28 : decode cX6_of 28 = .ok (.aaload, 1) := by decide +kernel
theorem dX6_of_29 : decode cX6_of 29 = .ok (.iload_n 2, 1) := by decide +kernel
theorem dX6_of_30 : decode cX6_of 30 = .ok (.laload, 1) := by decide +kernel
theorem dX6_of_31 : decode cX6_of 31 = .ok (.lreturn, 1) := by decide +kernel
set_option maxRecDepth 20000 in
theorem ggX7_init_X0_init : GoodIn wsX7_init wsX0_init := goodIn_r _ [22, 23, 2, 3, 24, 25, 26, 27, 28, 29, 30, 31, 32, 33, 62, 63, 64, 65, 66, 67, 68] (by decide +kernel) (by decide +kernel)
set_option maxRecDepth 20000 in
theorem gX7_init_X0_init : GoodIn wsX7_init (wsX0_init) := ggX7_init_X0_init
set_option maxRecDepth 20000 in
theorem ggX7_init_X2_init : GoodIn wsX7_init wsX2_init := goodIn_r _ [36, 37, 2, 3, 38, 39, 30, 40, 25, 41, 42, 43, 73, 74, 75, 76, 77] (by decide +kernel) (by decide +kernel)
set_option maxRecDepth 20000 in
theorem gX7_init_X2_init : GoodIn wsX7_init (wsX2_init) := ggX7_init_X2_init
set_option maxRecDepth 20000 in
theorem ggX7_init_X4_init : GoodIn wsX7_init wsX4_init := goodIn_r _ [46, 47, 2, 3, 48, 49, 50, 78, 79, 80, 81, 82, 83, 84] (by decide +kernel) (by decide +kernel)
set_option maxRecDepth 20000 in
theorem gX7_init_X4_init : GoodIn wsX7_init (wsX4_init) := ggX7_init_X4_init
set_option maxRecDepth 20000 in
theorem ggX7_init_X8_init : GoodIn wsX7_init wsX8_init := goodIn_r _ [53, 54, 2, 3, 55, 56, 30, 57, 25, 58, 59, 60, 61, 85, 86, 87, 88, 89, 90, 91] (by decide +kernel) (by decide +kernel)
set_option maxRecDepth 20000 in
theorem gX7_init_X8_init : GoodIn wsX7_init (wsX8_init) := ggX7_init_X8_init
theorem dX7_init_0 : decode cX7_init 0 = .ok (.aload_n 0, 1) := by decide +kernel
theorem dX7_init_1 : decode cX7_init 1 = .ok (.invokespecial 3, 3) := by decide +kernel
theorem dX7_init_4 : decode cX7_init 4 = .ok (.aload_n 0, 1) := by decide +kernel
theorem dX7_init_5 : decode cX7_init 5 = .ok (.new 9, 3) := by decide +kernel
theorem dX7_init_8 : decode cX7_init 8 = .ok (.dup, 1) := by decide +kernel
theorem dX7_init_9 : decode cX7_init 9 = .ok (.aload_n 1, 1) := by decide +kernel
theorem dX7_init_10 : decode cX7_init 10 = .ok (.invokespecial 11, 3) := by decide +kernel
theorem dX7_init_13 : decode cX7_init 13 = .ok (.putfield 14, 3) := by decide +kernel
theorem dX7_init_16 : decode cX7_init 16 = .ok (.aload_n 0, 1) := by decide +kernel
theorem dX7_init_17 : decode cX7_init 17 = .ok (.new 20, 3) := by decide +kernel
theorem dX7_init_20 : decode cX7_init 20 = .ok (.dup, 1) := by decide +kernel
theorem dX7_init_21 : decode cX7_init 21 = .ok (.aload_n 0, 1) := by decide +kernel
theorem dX7_init_22 : decode cX7_init 22 = .ok (.getfield 14, 3) := by decide +kernel
theorem dX7_init_25 : decode cX7_init 25 = .ok (.invokespecial 22, 3) := by decide +kernel
theorem dX7_init_28 : decode cX7_init 28 = .ok (.putfield 25, 3) := by decide +kernel
theorem dX7_init_31 : decode cX7_init 31 = .ok (.aload_n 0, 1) := by decide +kernel
theorem dX7_init_32 : decode cX7_init 32 = .ok (.new 29, 3) := by decide +kernel
theorem dX7_init_35 : decode cX7_init 35 = .ok (.dup, 1) := by decide +kernel
theorem dX7_init_36 : decode cX7_init 36 = .ok (.aload_n 0, 1) := by decide +kernel
theorem dX7_init_37 : decode cX7_init 37 = .ok (.getfield 14, 3) := by decide +kernel
theorem dX7_init_40 : decode cX7_init 40 = .ok (.aload_n 0, 1) := by decide +kernel
theorem dX7_init_41 : decode cX7_init 41 = .ok (.getfield 25, 3) := by decide +kernel
theorem dX7_init_44 : decode cX7_init 44 = .ok (.invokespecial 31, 3) := by decide +kernel
theorem dX7_init_47 : decode cX7_init 47 = .ok (.putfield 34, 3) := by decide +kernel
theorem dX7_init_50 : decode cX7_init 50 = .ok (.aload_n 0, 1) := by decide +kernel
theorem dX7_init_51 : decode cX7_init 51 = .ok (.new 38, 3) := by decide +kernel
theorem dX7_init_54 : decode cX7_init 54 = .ok (.dup, 1) := by decide +kernel
theorem dX7_init_55 : decode cX7_init 55 = .ok (.aload_n 0, 1) := by decide +kernel
theorem dX7_init_56 : decode cX7_init 56 = .ok (.getfield 14, 3) := by decide +kernel
theorem dX7_init_59 : decode cX7_init 59 = .ok (.aload_n 0, 1) := by decide +kernel
theorem dX7_init_60 : decode cX7_init 60 = .ok (.getfield 25, 3) := by decide +kernel
theorem dX7_init_63 : decode cX7_init 63 = .ok (.invokespecial 40, 3) := by decide +kernel
theorem dX7_init_66 : decode cX7_init 66 = .ok (.putfield 41, 3) := by decide +kernel
theorem dX7_init_69 : decode cX7_init 69 = .ok (.return_, 1) := by decide +kernel
set_option maxRecDepth 20000 in
theorem ggX7_freshRare_X4_refresh : GoodIn wsX7_freshRare wsX4_refresh := goodIn_r _ [6, 7, 8, 9, 10, 11, 12, 13, 14, 15, 16, 17, 18, 19, 20, 21, 22, 23, 24, 25, 26, 27, 28, 29, 30, 31, 32, 33, 34, 35, 36, 5, 37, 38, 39, 40, 41, 42, 43, 44, 45, 46, 47, 48, 49, 50, 51, 52, 53, 54, 55, 56, 57, 58, 59, 60, 61, 62, 63, 64, 65, 66, 67, 68, 69, 70, 71, 72, 73, 74, 75, 76, 81, 82, 83, 84, 85, 86, 87, 88, 89, 90, 91, 92, 93, 94, 95, 96, 97, 98, 99] (by decide +kernel) (by decide +kernel)
set_option maxRecDepth 20000 in
theorem gX7_freshRare_X4_refresh : GoodIn wsX7_freshRare (wsV RX7 45 RX4 yX4_refresh wsX4_refresh) := goodIn_app (goodIn_of _ (by decide +kernel)) ggX7_freshRare_X4_refresh
theorem dX7_freshRare_0 : decode cX7_freshRare 0 = .ok (.aload_n 0, 1) := by decide +kernel
theorem dX7_freshRare_1 : decode cX7_freshRare 1 = .ok (.getfield 34, 3) := by decide +kernel
theorem dX7_freshRare_4 : decode cX7_freshRare 4 = .ok (.invokevirtual 45, 3) := by decide +kernel
theorem dX7_freshRare_7 : decode cX7_freshRare 7 = .ok (.aload_n 0, 1) := by decide +kernel
theorem dX7_freshRare_8 : decode cX7_freshRare 8 = .ok (.getfield 34, 3) := by decide +kernel
theorem dX7_freshRare_11 : decode cX7_freshRare 11 = .ok (.areturn, 1) := by decide +kernel
set_option maxRecDepth 20000 in
theorem ggX7_freshSums_X8_refresh : GoodIn wsX7_freshSums wsX8_refresh := goodIn_r _ [6, 7, 8, 9, 10, 11, 12, 13, 14, 15, 16, 17, 18, 19, 20, 21, 22, 23, 24, 25, 26, 27, 28, 29, 30, 31, 32, 33, 34, 35, 5, 36, 37, 38, 39, 40, 41, 42, 43, 44, 45, 46, 47, 48, 49, 50, 51, 52, 53, 54, 55, 56, 57, 58, 59, 60, 61, 62, 63, 64, 65, 66, 67, 68, 69, 70, 71, 72, 73, 74, 75, 76, 77, 78, 79, 80, 81, 82, 87, 88, 89, 90, 91, 92, 93, 94, 95, 96, 97, 98, 99, 100, 101, 102, 103, 104, 105] (by decide +kernel) (by decide +kernel)
set_option maxRecDepth 20000 in
theorem gX7_freshSums_X8_refresh : GoodIn wsX7_freshSums (wsV RX7 48 RX8 yX8_refresh wsX8_refresh) := goodIn_app (goodIn_of _ (by decide +kernel)) ggX7_freshSums_X8_refresh
theorem dX7_freshSums_0 : decode cX7_freshSums 0 = .ok (.aload_n 0, 1) := by decide +kernel
theorem dX7_freshSums_1 : decode cX7_freshSums 1 = .ok (.getfield 41, 3) := by decide +kernel
theorem dX7_freshSums_4 : decode cX7_freshSums 4 = .ok (.invokevirtual 48, 3) := by decide +kernel
theorem dX7_freshSums_7 : decode cX7_freshSums 7 = .ok (.aload_n 0, 1) := by decide +kernel
theorem dX7_freshSums_8 : decode cX7_freshSums 8 = .ok (.getfield 41, 3) := by decide +kernel
theorem dX7_freshSums_11 : decode cX7_freshSums 11 = .ok (.areturn, 1) := by decide +kernel
set_option maxRecDepth 20000 in
theorem ggX7_allWays_X2_at : GoodIn wsX7_allWays wsX2_at := goodIn_r _ [6, 7, 12, 13, 14, 15, 16] (by decide +kernel) (by decide +kernel)
set_option maxRecDepth 20000 in
theorem gX7_allWays_X2_at : GoodIn wsX7_allWays (wsV RX7 49 RX2 yX2_at wsX2_at) := goodIn_app (goodIn_of _ (by decide +kernel)) ggX7_allWays_X2_at
theorem dX7_allWays_0 : decode cX7_allWays 0 = .ok (.aload_n 0, 1) := by decide +kernel
theorem dX7_allWays_1 : decode cX7_allWays 1 = .ok (.getfield 25, 3) := by decide +kernel
theorem dX7_allWays_4 : decode cX7_allWays 4 = .ok (.iconst 1, 1) := by decide +kernel
theorem dX7_allWays_5 : decode cX7_allWays 5 = .ok (.iconst 0, 1) := by decide +kernel
theorem dX7_allWays_6 : decode cX7_allWays 6 = .ok (.iconst 0, 1) := by decide +kernel
theorem dX7_allWays_7 : decode cX7_allWays 7 = .ok (.invokevirtual 49, 3) := by decide +kernel
theorem dX7_allWays_10 : decode cX7_allWays 10 = .ok (.lreturn, 1) := by decide +kernel
set_option maxRecDepth 20000 in
theorem ggX7_tableCount_X2_at : GoodIn wsX7_tableCount wsX2_at := goodIn_r _ [6, 7, 12, 13, 14, 15, 16] (by decide +kernel) (by decide +kernel)
set_option maxRecDepth 20000 in
theorem gX7_tableCount_X2_at : GoodIn wsX7_tableCount (wsV RX7 49 RX2 yX2_at wsX2_at) := goodIn_app (goodIn_of _ (by decide +kernel)) ggX7_tableCount_X2_at
theorem dX7_tableCount_0 : decode cX7_tableCount 0 = .ok (.aload_n 0, 1) := by decide +kernel
theorem dX7_tableCount_1 : decode cX7_tableCount 1 = .ok (.getfield 25, 3) := by decide +kernel
theorem dX7_tableCount_4 : decode cX7_tableCount 4 = .ok (.iconst 4, 1) := by decide +kernel
theorem dX7_tableCount_5 : decode cX7_tableCount 5 = .ok (.iconst 0, 1) := by decide +kernel
theorem dX7_tableCount_6 : decode cX7_tableCount 6 = .ok (.iconst 0, 1) := by decide +kernel
theorem dX7_tableCount_7 : decode cX7_tableCount 7 = .ok (.invokevirtual 49, 3) := by decide +kernel
theorem dX7_tableCount_10 : decode cX7_tableCount 10 = .ok (.l2i, 1) := by decide +kernel
theorem dX7_tableCount_11 : decode cX7_tableCount 11 = .ok (.ireturn, 1) := by decide +kernel
set_option maxRecDepth 20000 in
theorem ggX7_strangeWays_X7_freshRare : GoodIn wsX7_strangeWays wsX7_freshRare := goodIn_r _ [6, 7, 8, 9, 10, 11, 12, 13, 14, 15, 16, 17, 18, 19, 20, 21, 22, 23, 24, 25, 26, 27, 28, 29, 30, 31, 32, 33, 34, 35, 36, 37, 38, 39, 40, 41, 42, 43, 44, 45, 46, 47, 48, 49, 50, 51, 52, 53, 54, 55, 56, 57, 58, 59, 60, 61, 62, 63, 64, 65, 66, 67, 68, 69, 70, 71, 72, 73, 74, 75, 76, 77, 78, 79, 80, 81, 82, 146, 147, 148, 149, 150, 151, 152, 153, 154, 155, 156, 157, 158, 159, 160, 161, 162, 163, 164, 165, 166, 167, 168] (by decide +kernel) (by decide +kernel)
set_option maxRecDepth 20000 in
theorem gX7_strangeWays_X7_freshRare : GoodIn wsX7_strangeWays (wsV RX7 53 RX7 yX7_freshRare wsX7_freshRare) := goodIn_app (goodIn_of _ (by decide +kernel)) ggX7_strangeWays_X7_freshRare
set_option maxRecDepth 20000 in
theorem ggX7_strangeWays_X4_rareWays : GoodIn wsX7_strangeWays wsX4_rareWays := goodIn_r _ [86, 16, 150, 151, 152, 153, 154, 155, 156] (by decide +kernel) (by decide +kernel)
set_option maxRecDepth 20000 in
theorem gX7_strangeWays_X4_rareWays : GoodIn wsX7_strangeWays (wsV RX7 57 RX4 yX4_rareWays wsX4_rareWays) := goodIn_app (goodIn_of _ (by decide +kernel)) ggX7_strangeWays_X4_rareWays
set_option maxRecDepth 20000 in
theorem ggX7_strangeWays_X7_freshSums : GoodIn wsX7_strangeWays wsX7_freshSums := goodIn_r _ [90, 91, 92, 93, 94, 95, 96, 97, 98, 99, 100, 101, 102, 103, 104, 20, 21, 22, 23, 24, 105, 79, 80, 52, 81, 82, 106, 107, 108, 109, 110, 111, 112, 113, 114, 115, 116, 117, 118, 119, 120, 29, 121, 122, 50, 51, 53, 54, 55, 56, 57, 58, 59, 60, 61, 62, 63, 64, 123, 66, 67, 68, 69, 70, 71, 72, 124, 36, 37, 38, 39, 125, 126, 127, 128, 129, 46, 47, 48, 130, 131, 132, 133, 146, 147, 148, 149, 169, 170, 171, 172, 173, 174, 175, 157, 158, 159, 160, 161, 162, 163, 164, 165, 166, 167, 168] (by decide +kernel) (by decide +kernel)
set_option maxRecDepth 20000 in
theorem gX7_strangeWays_X7_freshSums : GoodIn wsX7_strangeWays (wsV RX7 61 RX7 yX7_freshSums wsX7_freshSums) := goodIn_app (goodIn_of _ (by decide +kernel)) ggX7_strangeWays_X7_freshSums
set_option maxRecDepth 20000 in
theorem ggX7_strangeWays_X0_seenSum : GoodIn wsX7_strangeWays wsX0_seenSum := goodIn_r _ [137, 29, 30, 31, 32, 22, 33, 34, 138, 118, 119, 120, 121, 157, 158, 159, 160, 161, 162, 163] (by decide +kernel) (by decide +kernel)
set_option maxRecDepth 20000 in
theorem gX7_strangeWays_X0_seenSum : GoodIn wsX7_strangeWays (wsV RX7 65 RX0 yX0_seenSum wsX0_seenSum) := goodIn_app (goodIn_of _ (by decide +kernel)) ggX7_strangeWays_X0_seenSum
set_option maxRecDepth 20000 in
theorem ggX7_strangeWays_X8_waysBy : GoodIn wsX7_strangeWays wsX8_waysBy := goodIn_r _ [142, 102, 143, 144, 95, 145, 169, 170, 171, 172, 173, 174, 175] (by decide +kernel) (by decide +kernel)
set_option maxRecDepth 20000 in
theorem gX7_strangeWays_X8_waysBy : GoodIn wsX7_strangeWays (wsV RX7 69 RX8 yX8_waysBy wsX8_waysBy) := goodIn_app (goodIn_of _ (by decide +kernel)) ggX7_strangeWays_X8_waysBy
theorem dX7_strangeWays_0 : decode cX7_strangeWays 0 = .ok (.iload_n 1, 1) := by decide +kernel
theorem dX7_strangeWays_1 : decode cX7_strangeWays 1 = .ok (.ifCond .ne 13, 3) := by decide +kernel
theorem dX7_strangeWays_4 : decode cX7_strangeWays 4 = .ok (.aload_n 0, 1) := by decide +kernel
theorem dX7_strangeWays_5 : decode cX7_strangeWays 5 = .ok (.invokevirtual 53, 3) := by decide +kernel
theorem dX7_strangeWays_8 : decode cX7_strangeWays 8 = .ok (.invokevirtual 57, 3) := by decide +kernel
theorem dX7_strangeWays_11 : decode cX7_strangeWays 11 = .ok (.goto 18, 3) := by decide +kernel
theorem dX7_strangeWays_14 : decode cX7_strangeWays 14 = .ok (.aload_n 0, 1) := by decide +kernel
theorem dX7_strangeWays_15 : decode cX7_strangeWays 15 = .ok (.invokevirtual 61, 3) := by decide +kernel
theorem dX7_strangeWays_18 : decode cX7_strangeWays 18 = .ok (.iload_n 1, 1) := by decide +kernel
theorem dX7_strangeWays_19 : decode cX7_strangeWays 19 = .ok (.aload_n 0, 1) := by decide +kernel
theorem dX7_strangeWays_20 : decode cX7_strangeWays 20 = .ok (.getfield 14, 3) := by decide +kernel
theorem dX7_strangeWays_23 : decode cX7_strangeWays 23 = .ok (.invokevirtual 65, 3) := by decide +kernel
theorem dX7_strangeWays_26 : decode cX7_strangeWays 26 = .ok (.invokevirtual 69, 3) := by decide +kernel
theorem dX7_strangeWays_29 : decode cX7_strangeWays 29 = .ok (.lreturn, 1) := by decide +kernel
set_option maxRecDepth 20000 in
theorem ggX7_strangeTables_X7_freshRare : GoodIn wsX7_strangeTables wsX7_freshRare := goodIn_r _ [6, 7, 8, 9, 10, 11, 12, 13, 14, 15, 16, 17, 18, 19, 20, 21, 22, 23, 24, 25, 26, 27, 28, 29, 30, 31, 32, 33, 34, 35, 36, 37, 38, 39, 40, 41, 42, 43, 44, 45, 46, 47, 48, 49, 50, 51, 52, 53, 54, 55, 56, 57, 58, 59, 60, 61, 62, 63, 64, 65, 66, 67, 68, 69, 70, 71, 72, 73, 74, 75, 76, 77, 78, 79, 80, 81, 82, 146, 147, 148, 149, 150, 151, 152, 153, 154, 155, 156, 157, 158, 159, 160, 161, 162, 163, 164, 165, 166, 167, 168] (by decide +kernel) (by decide +kernel)
set_option maxRecDepth 20000 in
theorem gX7_strangeTables_X7_freshRare : GoodIn wsX7_strangeTables (wsV RX7 53 RX7 yX7_freshRare wsX7_freshRare) := goodIn_app (goodIn_of _ (by decide +kernel)) ggX7_strangeTables_X7_freshRare
set_option maxRecDepth 20000 in
theorem ggX7_strangeTables_X4_rareTables : GoodIn wsX7_strangeTables wsX4_rareTables := goodIn_r _ [86, 17, 150, 151, 152, 153, 154, 155, 156] (by decide +kernel) (by decide +kernel)
set_option maxRecDepth 20000 in
theorem gX7_strangeTables_X4_rareTables : GoodIn wsX7_strangeTables (wsV RX7 73 RX4 yX4_rareTables wsX4_rareTables) := goodIn_app (goodIn_of _ (by decide +kernel)) ggX7_strangeTables_X4_rareTables
set_option maxRecDepth 20000 in
theorem ggX7_strangeTables_X7_freshSums : GoodIn wsX7_strangeTables wsX7_freshSums := goodIn_r _ [90, 91, 92, 93, 94, 95, 96, 97, 98, 99, 100, 101, 102, 103, 104, 20, 21, 22, 23, 24, 105, 79, 80, 52, 81, 82, 106, 107, 108, 109, 110, 111, 112, 113, 114, 115, 116, 117, 118, 119, 120, 29, 121, 122, 50, 51, 53, 54, 55, 56, 57, 58, 59, 60, 61, 62, 63, 64, 123, 66, 67, 68, 69, 70, 71, 72, 124, 36, 37, 38, 39, 125, 126, 127, 128, 129, 46, 47, 48, 130, 131, 132, 133, 146, 147, 148, 149, 169, 170, 171, 172, 173, 174, 175, 157, 158, 159, 160, 161, 162, 163, 164, 165, 166, 167, 168] (by decide +kernel) (by decide +kernel)
set_option maxRecDepth 20000 in
theorem gX7_strangeTables_X7_freshSums : GoodIn wsX7_strangeTables (wsV RX7 61 RX7 yX7_freshSums wsX7_freshSums) := goodIn_app (goodIn_of _ (by decide +kernel)) ggX7_strangeTables_X7_freshSums
set_option maxRecDepth 20000 in
theorem ggX7_strangeTables_X0_seenSum : GoodIn wsX7_strangeTables wsX0_seenSum := goodIn_r _ [137, 29, 30, 31, 32, 22, 33, 34, 138, 118, 119, 120, 121, 157, 158, 159, 160, 161, 162, 163] (by decide +kernel) (by decide +kernel)
set_option maxRecDepth 20000 in
theorem gX7_strangeTables_X0_seenSum : GoodIn wsX7_strangeTables (wsV RX7 65 RX0 yX0_seenSum wsX0_seenSum) := goodIn_app (goodIn_of _ (by decide +kernel)) ggX7_strangeTables_X0_seenSum
set_option maxRecDepth 20000 in
theorem ggX7_strangeTables_X8_tablesBy : GoodIn wsX7_strangeTables wsX8_tablesBy := goodIn_r _ [142, 103, 143, 144, 95, 145, 169, 170, 171, 172, 173, 174, 175] (by decide +kernel) (by decide +kernel)
set_option maxRecDepth 20000 in
theorem gX7_strangeTables_X8_tablesBy : GoodIn wsX7_strangeTables (wsV RX7 76 RX8 yX8_tablesBy wsX8_tablesBy) := goodIn_app (goodIn_of _ (by decide +kernel)) ggX7_strangeTables_X8_tablesBy
theorem dX7_strangeTables_0 : decode cX7_strangeTables 0 = .ok (.iload_n 1, 1) := by decide +kernel
theorem dX7_strangeTables_1 : decode cX7_strangeTables 1 = .ok (.ifCond .ne 13, 3) := by decide +kernel
theorem dX7_strangeTables_4 : decode cX7_strangeTables 4 = .ok (.aload_n 0, 1) := by decide +kernel
theorem dX7_strangeTables_5 : decode cX7_strangeTables 5 = .ok (.invokevirtual 53, 3) := by decide +kernel
theorem dX7_strangeTables_8 : decode cX7_strangeTables 8 = .ok (.invokevirtual 73, 3) := by decide +kernel
theorem dX7_strangeTables_11 : decode cX7_strangeTables 11 = .ok (.goto 18, 3) := by decide +kernel
theorem dX7_strangeTables_14 : decode cX7_strangeTables 14 = .ok (.aload_n 0, 1) := by decide +kernel
theorem dX7_strangeTables_15 : decode cX7_strangeTables 15 = .ok (.invokevirtual 61, 3) := by decide +kernel
theorem dX7_strangeTables_18 : decode cX7_strangeTables 18 = .ok (.iload_n 1, 1) := by decide +kernel
theorem dX7_strangeTables_19 : decode cX7_strangeTables 19 = .ok (.aload_n 0, 1) := by decide +kernel
theorem dX7_strangeTables_20 : decode cX7_strangeTables 20 = .ok (.getfield 14, 3) := by decide +kernel
theorem dX7_strangeTables_23 : decode cX7_strangeTables 23 = .ok (.invokevirtual 65, 3) := by decide +kernel
theorem dX7_strangeTables_26 : decode cX7_strangeTables 26 = .ok (.invokevirtual 76, 3) := by decide +kernel
theorem dX7_strangeTables_29 : decode cX7_strangeTables 29 = .ok (.ireturn, 1) := by decide +kernel
set_option maxRecDepth 20000 in
theorem ggX7_seenRank_X0_size : GoodIn wsX7_seenRank wsX0_size := goodIn_r _ [7, 8, 24, 25, 26, 27, 28, 29, 30] (by decide +kernel) (by decide +kernel)
set_option maxRecDepth 20000 in
theorem gX7_seenRank_X0_size : GoodIn wsX7_seenRank (wsV RX7 80 RX0 yX0_size wsX0_size) := goodIn_app (goodIn_of _ (by decide +kernel)) ggX7_seenRank_X0_size
set_option maxRecDepth 20000 in
theorem ggX7_seenRank_X0_aboveOf : GoodIn wsX7_seenRank wsX0_aboveOf := goodIn_r _ [12, 8, 13, 24, 25, 26, 27, 28, 29, 30] (by decide +kernel) (by decide +kernel)
set_option maxRecDepth 20000 in
theorem gX7_seenRank_X0_aboveOf : GoodIn wsX7_seenRank (wsV RX7 83 RX0 yX0_aboveOf wsX0_aboveOf) := goodIn_app (goodIn_of _ (by decide +kernel)) ggX7_seenRank_X0_aboveOf
set_option maxRecDepth 20000 in
theorem ggX7_seenRank_X2_at : GoodIn wsX7_seenRank wsX2_at := goodIn_r _ [18, 19, 31, 32, 33, 34, 35] (by decide +kernel) (by decide +kernel)
set_option maxRecDepth 20000 in
theorem gX7_seenRank_X2_at : GoodIn wsX7_seenRank (wsV RX7 49 RX2 yX2_at wsX2_at) := goodIn_app (goodIn_of _ (by decide +kernel)) ggX7_seenRank_X2_at
theorem dX7_seenRank_0 : decode cX7_seenRank 0 = .ok (.lconst 0, 1) := by decide +kernel
theorem dX7_seenRank_1 : decode cX7_seenRank 1 = .ok (.lstore_n 1, 1) := by decide +kernel
theorem dX7_seenRank_2 : decode cX7_seenRank 2 = .ok (.iconst 0, 1) := by decide +kernel
theorem dX7_seenRank_3 : decode cX7_seenRank 3 = .ok (.istore_n 3, 1) := by decide +kernel
theorem dX7_seenRank_4 : decode cX7_seenRank 4 = .ok (.iconst 0, 1) := by decide +kernel
theorem dX7_seenRank_5 : decode cX7_seenRank 5 = .ok (.istore 4, 2) := by decide +kernel
theorem dX7_seenRank_7 : decode cX7_seenRank 7 = .ok (.iload 4, 2) := by decide +kernel
theorem dX7_seenRank_9 : decode cX7_seenRank 9 = .ok (.aload_n 0, 1) := by decide +kernel
theorem dX7_seenRank_10 : decode cX7_seenRank 10 = .ok (.getfield 14, 3) := by decide +kernel
theorem dX7_seenRank_13 : decode cX7_seenRank 13 = .ok (.invokevirtual 80, 3) := by decide +kernel
theorem dX7_seenRank_16 : decode cX7_seenRank 16 = .ok (.if_icmp .ge 63, 3) := by decide +kernel
theorem dX7_seenRank_19 : decode cX7_seenRank 19 = .ok (.iconst 0, 1) := by decide +kernel
theorem dX7_seenRank_20 : decode cX7_seenRank 20 = .ok (.istore 5, 2) := by decide +kernel
theorem dX7_seenRank_22 : decode cX7_seenRank 22 = .ok (.iload 5, 2) := by decide +kernel
theorem dX7_seenRank_24 : decode cX7_seenRank 24 = .ok (.aload_n 0, 1) := by decide +kernel
theorem dX7_seenRank_25 : decode cX7_seenRank 25 = .ok (.getfield 14, 3) := by decide +kernel
theorem dX7_seenRank_28 : decode cX7_seenRank 28 = .ok (.iload 4, 2) := by decide +kernel
theorem dX7_seenRank_30 : decode cX7_seenRank 30 = .ok (.invokevirtual 83, 3) := by decide +kernel
theorem dX7_seenRank_33 : decode cX7_seenRank 33 = .ok (.if_icmp .ge 28, 3) := by decide +kernel
theorem dX7_seenRank_36 : decode cX7_seenRank 36 = .ok (.lload_n 1, 1) := by decide +kernel
theorem dX7_seenRank_37 : decode cX7_seenRank 37 = .ok (.aload_n 0, 1) := by decide +kernel
theorem dX7_seenRank_38 : decode cX7_seenRank 38 = .ok (.getfield 25, 3) := by decide +kernel
theorem dX7_seenRank_41 : decode cX7_seenRank 41 = .ok (.iconst 4, 1) := by decide +kernel
theorem dX7_seenRank_42 : decode cX7_seenRank 42 = .ok (.iload 4, 2) := by decide +kernel
theorem dX7_seenRank_44 : decode cX7_seenRank 44 = .ok (.iconst 1, 1) := by decide +kernel
theorem dX7_seenRank_45 : decode cX7_seenRank 45 = .ok (.iadd, 1) := by decide +kernel
theorem dX7_seenRank_46 : decode cX7_seenRank 46 = .ok (.iload_n 3, 1) := by decide +kernel
theorem dX7_seenRank_47 : decode cX7_seenRank 47 = .ok (.iload 5, 2) := by decide +kernel
theorem dX7_seenRank_49 : decode cX7_seenRank 49 = .ok (.iadd, 1) := by decide +kernel
theorem dX7_seenRank_50 : decode cX7_seenRank 50 = .ok (.invokevirtual 49, 3) := by decide +kernel
theorem dX7_seenRank_53 : decode cX7_seenRank 53 = .ok (.ladd, 1) := by decide +kernel
theorem dX7_seenRank_54 : decode cX7_seenRank 54 = .ok (.lstore_n 1, 1) := by decide +kernel
theorem dX7_seenRank_55 : decode cX7_seenRank 55 = .ok (.iinc 5 1, 3) := by decide +kernel
theorem dX7_seenRank_58 : decode cX7_seenRank 58 = .ok (.goto (-36), 3) := by decide +kernel
theorem dX7_seenRank_61 : decode cX7_seenRank 61 = .ok (.iload_n 3, 1) := by decide +kernel
theorem dX7_seenRank_62 : decode cX7_seenRank 62 = .ok (.aload_n 0, 1) := by decide +kernel
theorem dX7_seenRank_63 : decode cX7_seenRank 63 = .ok (.getfield 14, 3) := by decide +kernel
theorem dX7_seenRank_66 : decode cX7_seenRank 66 = .ok (.iload 4, 2) := by decide +kernel
theorem dX7_seenRank_68 : decode cX7_seenRank 68 = .ok (.invokevirtual 83, 3) := by decide +kernel
theorem dX7_seenRank_71 : decode cX7_seenRank 71 = .ok (.iadd, 1) := by decide +kernel
theorem dX7_seenRank_72 : decode cX7_seenRank 72 = .ok (.istore_n 3, 1) := by decide +kernel
theorem dX7_seenRank_73 : decode cX7_seenRank 73 = .ok (.iinc 4 1, 3) := by decide +kernel
theorem dX7_seenRank_76 : decode cX7_seenRank 76 = .ok (.goto (-69), 3) := by decide +kernel
theorem dX7_seenRank_79 : decode cX7_seenRank 79 = .ok (.lload_n 1, 1) := by decide +kernel
theorem dX7_seenRank_80 : decode cX7_seenRank 80 = .ok (.l2i, 1) := by decide +kernel
theorem dX7_seenRank_81 : decode cX7_seenRank 81 = .ok (.ireturn, 1) := by decide +kernel
set_option maxRecDepth 20000 in
theorem ggX7_numberIn_X0_size : GoodIn wsX7_numberIn wsX0_size := goodIn_r _ [7, 8, 42, 43, 44, 45, 46, 47, 48] (by decide +kernel) (by decide +kernel)
set_option maxRecDepth 20000 in
theorem gX7_numberIn_X0_size : GoodIn wsX7_numberIn (wsV RX7 80 RX0 yX0_size wsX0_size) := goodIn_app (goodIn_of _ (by decide +kernel)) ggX7_numberIn_X0_size
set_option maxRecDepth 20000 in
theorem ggX7_numberIn_X2_most : GoodIn wsX7_numberIn wsX2_most := goodIn_r _ [13, 14, 15, 16, 17, 18, 19, 20, 21, 22, 6, 23, 8, 24, 49, 50, 51, 52, 53, 42, 43, 44, 45, 46, 47, 48] (by decide +kernel) (by decide +kernel)
set_option maxRecDepth 20000 in
theorem gX7_numberIn_X2_most : GoodIn wsX7_numberIn (wsV RX7 87 RX2 yX2_most wsX2_most) := goodIn_app (goodIn_of _ (by decide +kernel)) ggX7_numberIn_X2_most
set_option maxRecDepth 20000 in
theorem ggX7_numberIn_X2_fewest : GoodIn wsX7_numberIn wsX2_fewest := goodIn_r _ [28, 15, 29, 30, 31, 18, 32, 49, 50, 51, 52, 53] (by decide +kernel) (by decide +kernel)
set_option maxRecDepth 20000 in
theorem gX7_numberIn_X2_fewest : GoodIn wsX7_numberIn (wsV RX7 90 RX2 yX2_fewest wsX2_fewest) := goodIn_app (goodIn_of _ (by decide +kernel)) ggX7_numberIn_X2_fewest
set_option maxRecDepth 20000 in
theorem ggX7_numberIn_X2_at : GoodIn wsX7_numberIn wsX2_at := goodIn_r _ [36, 37, 49, 50, 51, 52, 53] (by decide +kernel) (by decide +kernel)
set_option maxRecDepth 20000 in
theorem gX7_numberIn_X2_at : GoodIn wsX7_numberIn (wsV RX7 49 RX2 yX2_at wsX2_at) := goodIn_app (goodIn_of _ (by decide +kernel)) ggX7_numberIn_X2_at
theorem dX7_numberIn_0 : decode cX7_numberIn 0 = .ok (.iload_n 1, 1) := by decide +kernel
theorem dX7_numberIn_1 : decode cX7_numberIn 1 = .ok (.i2l, 1) := by decide +kernel
theorem dX7_numberIn_2 : decode cX7_numberIn 2 = .ok (.lstore_n 3, 1) := by decide +kernel
