theorem dX0_init_0 : decode cX0_init 0 = .ok (.aload_n 0, 1) := by decide +kernel
theorem dX0_init_1 : decode cX0_init 1 = .ok (.invokespecial 3, 3) := by decide +kernel
theorem dX0_init_4 : decode cX0_init 4 = .ok (.aload_n 0, 1) := by decide +kernel
theorem dX0_init_5 : decode cX0_init 5 = .ok (.aload_n 1, 1) := by decide +kernel
theorem dX0_init_6 : decode cX0_init 6 = .ok (.putfield 9, 3) := by decide +kernel
theorem dX0_init_9 : decode cX0_init 9 = .ok (.aload_n 0, 1) := by decide +kernel
theorem dX0_init_10 : decode cX0_init 10 = .ok (.iconst 5, 1) := by decide +kernel
theorem dX0_init_11 : decode cX0_init 11 = .ok (.newarray .int, 2) := by decide +kernel
theorem dX0_init_13 : decode cX0_init 13 = .ok (.putfield 15, 3) := by decide +kernel
theorem dX0_init_16 : decode cX0_init 16 = .ok (.aload_n 0, 1) := by decide +kernel
theorem dX0_init_17 : decode cX0_init 17 = .ok (.iconst 5, 1) := by decide +kernel
theorem dX0_init_18 : decode cX0_init 18 = .ok (.newarray .int, 2) := by decide +kernel
theorem dX0_init_20 : decode cX0_init 20 = .ok (.putfield 19, 3) := by decide +kernel
theorem dX0_init_23 : decode cX0_init 23 = .ok (.aload_n 0, 1) := by decide +kernel
theorem dX0_init_24 : decode cX0_init 24 = .ok (.iconst 5, 1) := by decide +kernel
theorem dX0_init_25 : decode cX0_init 25 = .ok (.newarray .int, 2) := by decide +kernel
theorem dX0_init_27 : decode cX0_init 27 = .ok (.putfield 22, 3) := by decide +kernel
theorem dX0_init_30 : decode cX0_init 30 = .ok (.aload_n 0, 1) := by decide +kernel
theorem dX0_init_31 : decode cX0_init 31 = .ok (.iconst 5, 1) := by decide +kernel
theorem dX0_init_32 : decode cX0_init 32 = .ok (.bipush 13, 2) := by decide +kernel
theorem dX0_init_34 : decode cX0_init 34 = .ok (.multianewarray 25 2, 4) := by decide +kernel
theorem dX0_init_38 : decode cX0_init 38 = .ok (.putfield 27, 3) := by decide +kernel
theorem dX0_init_41 : decode cX0_init 41 = .ok (.aload_n 0, 1) := by decide +kernel
theorem dX0_init_42 : decode cX0_init 42 = .ok (.iconst 0, 1) := by decide +kernel
theorem dX0_init_43 : decode cX0_init 43 = .ok (.putfield 30, 3) := by decide +kernel
theorem dX0_init_46 : decode cX0_init 46 = .ok (.aload_n 0, 1) := by decide +kernel
theorem dX0_init_47 : decode cX0_init 47 = .ok (.iconst 1, 1) := by decide +kernel
theorem dX0_init_48 : decode cX0_init 48 = .ok (.putfield 34, 3) := by decide +kernel
theorem dX0_init_51 : decode cX0_init 51 = .ok (.return_, 1) := by decide +kernel
theorem dX0_size_0 : decode cX0_size 0 = .ok (.aload_n 0, 1) := by decide +kernel
theorem dX0_size_1 : decode cX0_size 1 = .ok (.getfield 30, 3) := by decide +kernel
theorem dX0_size_4 : decode cX0_size 4 = .ok (.ireturn, 1) := by decide +kernel
theorem dX0_version_0 : decode cX0_version 0 = .ok (.aload_n 0, 1) := by decide +kernel
theorem dX0_version_1 : decode cX0_version 1 = .ok (.getfield 34, 3) := by decide +kernel
theorem dX0_version_4 : decode cX0_version 4 = .ok (.ireturn, 1) := by decide +kernel
theorem dX0_has_0 : decode cX0_has 0 = .ok (.iload_n 1, 1) := by decide +kernel
theorem dX0_has_1 : decode cX0_has 1 = .ok (.ifCond .lt 15, 3) := by decide +kernel
theorem dX0_has_4 : decode cX0_has 4 = .ok (.iload_n 1, 1) := by decide +kernel
theorem dX0_has_5 : decode cX0_has 5 = .ok (.aload_n 0, 1) := by decide +kernel
theorem dX0_has_6 : decode cX0_has 6 = .ok (.getfield 30, 3) := by decide +kernel
theorem dX0_has_9 : decode cX0_has 9 = .ok (.if_icmp .ge 7, 3) := by decide +kernel
theorem dX0_has_12 : decode cX0_has 12 = .ok (.iconst 1, 1) := by decide +kernel
theorem dX0_has_13 : decode cX0_has 13 = .ok (.goto 4, 3) := by decide +kernel
theorem dX0_has_16 : decode cX0_has 16 = .ok (.iconst 0, 1) := by decide +kernel
theorem dX0_has_17 : decode cX0_has 17 = .ok (.ireturn, 1) := by decide +kernel
theorem dX0_totalOf_0 : decode cX0_totalOf 0 = .ok (.iload_n 1, 1) := by decide +kernel
theorem dX0_totalOf_1 : decode cX0_totalOf 1 = .ok (.ifCond .lt 20, 3) := by decide +kernel
theorem dX0_totalOf_4 : decode cX0_totalOf 4 = .ok (.iload_n 1, 1) := by decide +kernel
theorem dX0_totalOf_5 : decode cX0_totalOf 5 = .ok (.aload_n 0, 1) := by decide +kernel
theorem dX0_totalOf_6 : decode cX0_totalOf 6 = .ok (.getfield 30, 3) := by decide +kernel
theorem dX0_totalOf_9 : decode cX0_totalOf 9 = .ok (.if_icmp .ge 12, 3) := by decide +kernel
theorem dX0_totalOf_12 : decode cX0_totalOf 12 = .ok (.aload_n 0, 1) := by decide +kernel
theorem dX0_totalOf_13 : decode cX0_totalOf 13 = .ok (.getfield 15, 3) := by decide +kernel
theorem dX0_totalOf_16 : decode cX0_totalOf 16 = .ok (.iload_n 1, 1) := by decide +kernel
theorem dX0_totalOf_17 : decode cX0_totalOf 17 = .ok (.iaload, 1) := by decide +kernel
theorem dX0_totalOf_18 : decode cX0_totalOf 18 = .ok (.goto 4, 3) := by decide +kernel
theorem dX0_totalOf_21 : decode cX0_totalOf 21 = .ok (.iconst 0, 1) := by decide +kernel
theorem dX0_totalOf_22 : decode cX0_totalOf 22 = .ok (.ireturn, 1) := by decide +kernel
theorem dX0_aboveOf_0 : decode cX0_aboveOf 0 = .ok (.iload_n 1, 1) := by decide +kernel
theorem dX0_aboveOf_1 : decode cX0_aboveOf 1 = .ok (.ifCond .lt 20, 3) := by decide +kernel
theorem dX0_aboveOf_4 : decode cX0_aboveOf 4 = .ok (.iload_n 1, 1) := by decide +kernel
theorem dX0_aboveOf_5 : decode cX0_aboveOf 5 = .ok (.aload_n 0, 1) := by decide +kernel
theorem dX0_aboveOf_6 : decode cX0_aboveOf 6 = .ok (.getfield 30, 3) := by decide +kernel
theorem dX0_aboveOf_9 : decode cX0_aboveOf 9 = .ok (.if_icmp .ge 12, 3) := by decide +kernel
theorem dX0_aboveOf_12 : decode cX0_aboveOf 12 = .ok (.aload_n 0, 1) := by decide +kernel
theorem dX0_aboveOf_13 : decode cX0_aboveOf 13 = .ok (.getfield 19, 3) := by decide +kernel
theorem dX0_aboveOf_16 : decode cX0_aboveOf 16 = .ok (.iload_n 1, 1) := by decide +kernel
theorem dX0_aboveOf_17 : decode cX0_aboveOf 17 = .ok (.iaload, 1) := by decide +kernel
theorem dX0_aboveOf_18 : decode cX0_aboveOf 18 = .ok (.goto 4, 3) := by decide +kernel
theorem dX0_aboveOf_21 : decode cX0_aboveOf 21 = .ok (.iconst 0, 1) := by decide +kernel
theorem dX0_aboveOf_22 : decode cX0_aboveOf 22 = .ok (.ireturn, 1) := by decide +kernel
theorem dX0_scoreOf_0 : decode cX0_scoreOf 0 = .ok (.iload_n 1, 1) := by decide +kernel
theorem dX0_scoreOf_1 : decode cX0_scoreOf 1 = .ok (.ifCond .lt 20, 3) := by decide +kernel
theorem dX0_scoreOf_4 : decode cX0_scoreOf 4 = .ok (.iload_n 1, 1) := by decide +kernel
theorem dX0_scoreOf_5 : decode cX0_scoreOf 5 = .ok (.aload_n 0, 1) := by decide +kernel
theorem dX0_scoreOf_6 : decode cX0_scoreOf 6 = .ok (.getfield 30, 3) := by decide +kernel
theorem dX0_scoreOf_9 : decode cX0_scoreOf 9 = .ok (.if_icmp .ge 12, 3) := by decide +kernel
theorem dX0_scoreOf_12 : decode cX0_scoreOf 12 = .ok (.aload_n 0, 1) := by decide +kernel
theorem dX0_scoreOf_13 : decode cX0_scoreOf 13 = .ok (.getfield 22, 3) := by decide +kernel
theorem dX0_scoreOf_16 : decode cX0_scoreOf 16 = .ok (.iload_n 1, 1) := by decide +kernel
theorem dX0_scoreOf_17 : decode cX0_scoreOf 17 = .ok (.iaload, 1) := by decide +kernel
theorem dX0_scoreOf_18 : decode cX0_scoreOf 18 = .ok (.goto 4, 3) := by decide +kernel
theorem dX0_scoreOf_21 : decode cX0_scoreOf 21 = .ok (.iconst 0, 1) := by decide +kernel
theorem dX0_scoreOf_22 : decode cX0_scoreOf 22 = .ok (.ireturn, 1) := by decide +kernel
theorem dX0_waysOf_0 : decode cX0_waysOf 0 = .ok (.iload_n 1, 1) := by decide +kernel
theorem dX0_waysOf_1 : decode cX0_waysOf 1 = .ok (.ifCond .lt 32, 3) := by decide +kernel
theorem dX0_waysOf_4 : decode cX0_waysOf 4 = .ok (.iload_n 1, 1) := by decide +kernel
theorem dX0_waysOf_5 : decode cX0_waysOf 5 = .ok (.aload_n 0, 1) := by decide +kernel
theorem dX0_waysOf_6 : decode cX0_waysOf 6 = .ok (.getfield 30, 3) := by decide +kernel
theorem dX0_waysOf_9 : decode cX0_waysOf 9 = .ok (.if_icmp .ge 24, 3) := by decide +kernel
theorem dX0_waysOf_12 : decode cX0_waysOf 12 = .ok (.iload_n 2, 1) := by decide +kernel
theorem dX0_waysOf_13 : decode cX0_waysOf 13 = .ok (.ifCond .lt 20, 3) := by decide +kernel
theorem dX0_waysOf_16 : decode cX0_waysOf 16 = .ok (.iload_n 2, 1) := by decide +kernel
theorem dX0_waysOf_17 : decode cX0_waysOf 17 = .ok (.bipush 12, 2) := by decide +kernel
theorem dX0_waysOf_19 : decode cX0_waysOf 19 = .ok (.if_icmp .gt 14, 3) := by decide +kernel
theorem dX0_waysOf_22 : decode cX0_waysOf 22 = .ok (.aload_n 0, 1) := by decide +kernel
theorem dX0_waysOf_23 : decode cX0_waysOf 23 = .ok (.getfield 27, 3) := by decide +kernel
theorem dX0_waysOf_26 : decode cX0_waysOf 26 = .ok (.iload_n 1, 1) := by decide +kernel
theorem dX0_waysOf_27 : decode cX0_waysOf 27 = .ok (.aaload, 1) := by decide +kernel
theorem dX0_waysOf_28 : decode cX0_waysOf 28 = .ok (.iload_n 2, 1) := by decide +kernel
theorem dX0_waysOf_29 : decode cX0_waysOf 29 = .ok (.laload, 1) := by decide +kernel
theorem dX0_waysOf_30 : decode cX0_waysOf 30 = .ok (.goto 4, 3) := by decide +kernel
theorem dX0_waysOf_33 : decode cX0_waysOf 33 = .ok (.lconst 0, 1) := by decide +kernel
theorem dX0_waysOf_34 : decode cX0_waysOf 34 = .ok (.lreturn, 1) := by decide +kernel
set_option maxRecDepth 20000 in
theorem ggX0_allTotal_X0_totalOf : GoodIn wsX0_allTotal wsX0_totalOf := goodIn_r _ [6, 1, 7, 8, 9, 10, 11, 12, 13, 14] (by decide +kernel) (by decide +kernel)
set_option maxRecDepth 20000 in
theorem gX0_allTotal_X0_totalOf : GoodIn wsX0_allTotal (wsV RX0 37 RX0 yX0_totalOf wsX0_totalOf) := goodIn_app (goodIn_of _ (by decide +kernel)) ggX0_allTotal_X0_totalOf
theorem dX0_allTotal_0 : decode cX0_allTotal 0 = .ok (.iconst 0, 1) := by decide +kernel
theorem dX0_allTotal_1 : decode cX0_allTotal 1 = .ok (.istore_n 1, 1) := by decide +kernel
theorem dX0_allTotal_2 : decode cX0_allTotal 2 = .ok (.iconst 0, 1) := by decide +kernel
theorem dX0_allTotal_3 : decode cX0_allTotal 3 = .ok (.istore_n 2, 1) := by decide +kernel
theorem dX0_allTotal_4 : decode cX0_allTotal 4 = .ok (.iload_n 2, 1) := by decide +kernel
theorem dX0_allTotal_5 : decode cX0_allTotal 5 = .ok (.aload_n 0, 1) := by decide +kernel
theorem dX0_allTotal_6 : decode cX0_allTotal 6 = .ok (.getfield 30, 3) := by decide +kernel
theorem dX0_allTotal_9 : decode cX0_allTotal 9 = .ok (.if_icmp .ge 17, 3) := by decide +kernel
theorem dX0_allTotal_12 : decode cX0_allTotal 12 = .ok (.iload_n 1, 1) := by decide +kernel
theorem dX0_allTotal_13 : decode cX0_allTotal 13 = .ok (.aload_n 0, 1) := by decide +kernel
theorem dX0_allTotal_14 : decode cX0_allTotal 14 = .ok (.iload_n 2, 1) := by decide +kernel
theorem dX0_allTotal_15 : decode cX0_allTotal 15 = .ok (.invokevirtual 37, 3) := by decide +kernel
theorem dX0_allTotal_18 : decode cX0_allTotal 18 = .ok (.iadd, 1) := by decide +kernel
theorem dX0_allTotal_19 : decode cX0_allTotal 19 = .ok (.istore_n 1, 1) := by decide +kernel
theorem dX0_allTotal_20 : decode cX0_allTotal 20 = .ok (.iinc 2 1, 3) := by decide +kernel
theorem dX0_allTotal_23 : decode cX0_allTotal 23 = .ok (.goto (-19), 3) := by decide +kernel
theorem dX0_allTotal_26 : decode cX0_allTotal 26 = .ok (.iload_n 1, 1) := by decide +kernel
theorem dX0_allTotal_27 : decode cX0_allTotal 27 = .ok (.ireturn, 1) := by decide +kernel
set_option maxRecDepth 20000 in
theorem ggX0_allAbove_X0_aboveOf : GoodIn wsX0_allAbove wsX0_aboveOf := goodIn_r _ [6, 1, 7, 8, 9, 10, 11, 12, 13, 14] (by decide +kernel) (by decide +kernel)
set_option maxRecDepth 20000 in
theorem gX0_allAbove_X0_aboveOf : GoodIn wsX0_allAbove (wsV RX0 41 RX0 yX0_aboveOf wsX0_aboveOf) := goodIn_app (goodIn_of _ (by decide +kernel)) ggX0_allAbove_X0_aboveOf
theorem dX0_allAbove_0 : decode cX0_allAbove 0 = .ok (.iconst 0, 1) := by decide +kernel
theorem dX0_allAbove_1 : decode cX0_allAbove 1 = .ok (.istore_n 1, 1) := by decide +kernel
theorem dX0_allAbove_2 : decode cX0_allAbove 2 = .ok (.iconst 0, 1) := by decide +kernel
theorem dX0_allAbove_3 : decode cX0_allAbove 3 = .ok (.istore_n 2, 1) := by decide +kernel
theorem dX0_allAbove_4 : decode cX0_allAbove 4 = .ok (.iload_n 2, 1) := by decide +kernel
theorem dX0_allAbove_5 : decode cX0_allAbove 5 = .ok (.aload_n 0, 1) := by decide +kernel
theorem dX0_allAbove_6 : decode cX0_allAbove 6 = .ok (.getfield 30, 3) := by decide +kernel
theorem dX0_allAbove_9 : decode cX0_allAbove 9 = .ok (.if_icmp .ge 17, 3) := by decide +kernel
theorem dX0_allAbove_12 : decode cX0_allAbove 12 = .ok (.iload_n 1, 1) := by decide +kernel
theorem dX0_allAbove_13 : decode cX0_allAbove 13 = .ok (.aload_n 0, 1) := by decide +kernel
theorem dX0_allAbove_14 : decode cX0_allAbove 14 = .ok (.iload_n 2, 1) := by decide +kernel
theorem dX0_allAbove_15 : decode cX0_allAbove 15 = .ok (.invokevirtual 41, 3) := by decide +kernel
theorem dX0_allAbove_18 : decode cX0_allAbove 18 = .ok (.iadd, 1) := by decide +kernel
theorem dX0_allAbove_19 : decode cX0_allAbove 19 = .ok (.istore_n 1, 1) := by decide +kernel
theorem dX0_allAbove_20 : decode cX0_allAbove 20 = .ok (.iinc 2 1, 3) := by decide +kernel
theorem dX0_allAbove_23 : decode cX0_allAbove 23 = .ok (.goto (-19), 3) := by decide +kernel
theorem dX0_allAbove_26 : decode cX0_allAbove 26 = .ok (.iload_n 1, 1) := by decide +kernel
theorem dX0_allAbove_27 : decode cX0_allAbove 27 = .ok (.ireturn, 1) := by decide +kernel
set_option maxRecDepth 20000 in
theorem ggX0_seenSum_X0_aboveOf : GoodIn wsX0_seenSum wsX0_aboveOf := goodIn_r _ [6, 1, 7, 13, 14, 15, 16, 17, 18, 19] (by decide +kernel) (by decide +kernel)
set_option maxRecDepth 20000 in
theorem gX0_seenSum_X0_aboveOf : GoodIn wsX0_seenSum (wsV RX0 41 RX0 yX0_aboveOf wsX0_aboveOf) := goodIn_app (goodIn_of _ (by decide +kernel)) ggX0_seenSum_X0_aboveOf
set_option maxRecDepth 20000 in
theorem ggX0_seenSum_X0_scoreOf : GoodIn wsX0_seenSum wsX0_scoreOf := goodIn_r _ [11, 1, 12, 13, 14, 15, 16, 17, 18, 19] (by decide +kernel) (by decide +kernel)
set_option maxRecDepth 20000 in
theorem gX0_seenSum_X0_scoreOf : GoodIn wsX0_seenSum (wsV RX0 44 RX0 yX0_scoreOf wsX0_scoreOf) := goodIn_app (goodIn_of _ (by decide +kernel)) ggX0_seenSum_X0_scoreOf
theorem dX0_seenSum_0 : decode cX0_seenSum 0 = .ok (.iconst 0, 1) := by decide +kernel
theorem dX0_seenSum_1 : decode cX0_seenSum 1 = .ok (.istore_n 1, 1) := by decide +kernel
theorem dX0_seenSum_2 : decode cX0_seenSum 2 = .ok (.iconst 0, 1) := by decide +kernel
theorem dX0_seenSum_3 : decode cX0_seenSum 3 = .ok (.istore_n 2, 1) := by decide +kernel
theorem dX0_seenSum_4 : decode cX0_seenSum 4 = .ok (.iload_n 2, 1) := by decide +kernel
theorem dX0_seenSum_5 : decode cX0_seenSum 5 = .ok (.aload_n 0, 1) := by decide +kernel
theorem dX0_seenSum_6 : decode cX0_seenSum 6 = .ok (.getfield 30, 3) := by decide +kernel
theorem dX0_seenSum_9 : decode cX0_seenSum 9 = .ok (.if_icmp .ge 23, 3) := by decide +kernel
theorem dX0_seenSum_12 : decode cX0_seenSum 12 = .ok (.iload_n 1, 1) := by decide +kernel
theorem dX0_seenSum_13 : decode cX0_seenSum 13 = .ok (.aload_n 0, 1) := by decide +kernel
theorem dX0_seenSum_14 : decode cX0_seenSum 14 = .ok (.iload_n 2, 1) := by decide +kernel
theorem dX0_seenSum_15 : decode cX0_seenSum 15 = .ok (.invokevirtual 41, 3) := by decide +kernel
theorem dX0_seenSum_18 : decode cX0_seenSum 18 = .ok (.aload_n 0, 1) := by decide +kernel
theorem dX0_seenSum_19 : decode cX0_seenSum 19 = .ok (.iload_n 2, 1) := by decide +kernel
theorem dX0_seenSum_20 : decode cX0_seenSum 20 = .ok (.invokevirtual 44, 3) := by decide +kernel
theorem dX0_seenSum_23 : decode cX0_seenSum 23 = .ok (.imul, 1) := by decide +kernel
theorem dX0_seenSum_24 : decode cX0_seenSum 24 = .ok (.iadd, 1) := by decide +kernel
theorem dX0_seenSum_25 : decode cX0_seenSum 25 = .ok (.istore_n 1, 1) := by decide +kernel
theorem dX0_seenSum_26 : decode cX0_seenSum 26 = .ok (.iinc 2 1, 3) := by decide +kernel
theorem dX0_seenSum_29 : decode cX0_seenSum 29 = .ok (.goto (-25), 3) := by decide +kernel
theorem dX0_seenSum_32 : decode cX0_seenSum 32 = .ok (.iload_n 1, 1) := by decide +kernel
theorem dX0_seenSum_33 : decode cX0_seenSum 33 = .ok (.ireturn, 1) := by decide +kernel
set_option maxRecDepth 20000 in
theorem ggX0_seenWays_X0_aboveOf : GoodIn wsX0_seenWays wsX0_aboveOf := goodIn_r _ [6, 1, 7, 13, 14, 15, 16, 17, 18, 19] (by decide +kernel) (by decide +kernel)
set_option maxRecDepth 20000 in
theorem gX0_seenWays_X0_aboveOf : GoodIn wsX0_seenWays (wsV RX0 41 RX0 yX0_aboveOf wsX0_aboveOf) := goodIn_app (goodIn_of _ (by decide +kernel)) ggX0_seenWays_X0_aboveOf
set_option maxRecDepth 20000 in
theorem ggX0_seenWays_X0_waysOf : GoodIn wsX0_seenWays wsX0_waysOf := goodIn_r _ [11, 1, 12, 13, 14, 15, 16, 17, 18, 19] (by decide +kernel) (by decide +kernel)
set_option maxRecDepth 20000 in
theorem gX0_seenWays_X0_waysOf : GoodIn wsX0_seenWays (wsV RX0 47 RX0 yX0_waysOf wsX0_waysOf) := goodIn_app (goodIn_of _ (by decide +kernel)) ggX0_seenWays_X0_waysOf
theorem dX0_seenWays_0 : decode cX0_seenWays 0 = .ok (.lconst 1, 1) := by decide +kernel
theorem dX0_seenWays_1 : decode cX0_seenWays 1 = .ok (.lstore_n 1, 1) := by decide +kernel
theorem dX0_seenWays_2 : decode cX0_seenWays 2 = .ok (.iconst 0, 1) := by decide +kernel
theorem dX0_seenWays_3 : decode cX0_seenWays 3 = .ok (.istore_n 3, 1) := by decide +kernel
theorem dX0_seenWays_4 : decode cX0_seenWays 4 = .ok (.iload_n 3, 1) := by decide +kernel
theorem dX0_seenWays_5 : decode cX0_seenWays 5 = .ok (.aload_n 0, 1) := by decide +kernel
theorem dX0_seenWays_6 : decode cX0_seenWays 6 = .ok (.getfield 30, 3) := by decide +kernel
theorem dX0_seenWays_9 : decode cX0_seenWays 9 = .ok (.if_icmp .ge 22, 3) := by decide +kernel
theorem dX0_seenWays_12 : decode cX0_seenWays 12 = .ok (.lload_n 1, 1) := by decide +kernel
theorem dX0_seenWays_13 : decode cX0_seenWays 13 = .ok (.aload_n 0, 1) := by decide +kernel
theorem dX0_seenWays_14 : decode cX0_seenWays 14 = .ok (.iload_n 3, 1) := by decide +kernel
theorem dX0_seenWays_15 : decode cX0_seenWays 15 = .ok (.aload_n 0, 1) := by decide +kernel
theorem dX0_seenWays_16 : decode cX0_seenWays 16 = .ok (.iload_n 3, 1) := by decide +kernel
theorem dX0_seenWays_17 : decode cX0_seenWays 17 = .ok (.invokevirtual 41, 3) := by decide +kernel
theorem dX0_seenWays_20 : decode cX0_seenWays 20 = .ok (.invokevirtual 47, 3) := by decide +kernel
theorem dX0_seenWays_23 : decode cX0_seenWays 23 = .ok (.lmul, 1) := by decide +kernel
theorem dX0_seenWays_24 : decode cX0_seenWays 24 = .ok (.lstore_n 1, 1) := by decide +kernel
theorem dX0_seenWays_25 : decode cX0_seenWays 25 = .ok (.iinc 3 1, 3) := by decide +kernel
theorem dX0_seenWays_28 : decode cX0_seenWays 28 = .ok (.goto (-24), 3) := by decide +kernel
theorem dX0_seenWays_31 : decode cX0_seenWays 31 = .ok (.lload_n 1, 1) := by decide +kernel
theorem dX0_seenWays_32 : decode cX0_seenWays 32 = .ok (.lreturn, 1) := by decide +kernel
theorem dX0_clear_0 : decode cX0_clear 0 = .ok (.aload_n 0, 1) := by decide +kernel
theorem dX0_clear_1 : decode cX0_clear 1 = .ok (.iconst 0, 1) := by decide +kernel
theorem dX0_clear_2 : decode cX0_clear 2 = .ok (.putfield 30, 3) := by decide +kernel
theorem dX0_clear_5 : decode cX0_clear 5 = .ok (.aload_n 0, 1) := by decide +kernel
theorem dX0_clear_6 : decode cX0_clear 6 = .ok (.dup, 1) := by decide +kernel
theorem dX0_clear_7 : decode cX0_clear 7 = .ok (.getfield 34, 3) := by decide +kernel
theorem dX0_clear_10 : decode cX0_clear 10 = .ok (.iconst 1, 1) := by decide +kernel
theorem dX0_clear_11 : decode cX0_clear 11 = .ok (.iadd, 1) := by decide +kernel
theorem dX0_clear_12 : decode cX0_clear 12 = .ok (.putfield 34, 3) := by decide +kernel
theorem dX0_clear_15 : decode cX0_clear 15 = .ok (.return_, 1) := by decide +kernel
set_option maxRecDepth 20000 in
theorem ggX0_add_X6_of : GoodIn wsX0_add wsX6_of := goodIn_r _ [12, 13, 21] (by decide +kernel) (by decide +kernel)
set_option maxRecDepth 20000 in
theorem gX0_add_X6_of : GoodIn wsX0_add (wsV RX0 51 RX6 yX6_of wsX6_of) := goodIn_app (goodIn_of _ (by decide +kernel)) ggX0_add_X6_of
theorem dX0_add_0 : decode cX0_add 0 = .ok (.aload_n 0, 1) := by decide +kernel
theorem dX0_add_1 : decode cX0_add 1 = .ok (.getfield 30, 3) := by decide +kernel
theorem dX0_add_4 : decode cX0_add 4 = .ok (.ifCond .lt 11, 3) := by decide +kernel
theorem dX0_add_7 : decode cX0_add 7 = .ok (.aload_n 0, 1) := by decide +kernel
theorem dX0_add_8 : decode cX0_add 8 = .ok (.getfield 30, 3) := by decide +kernel
theorem dX0_add_11 : decode cX0_add 11 = .ok (.iconst 5, 1) := by decide +kernel
theorem dX0_add_12 : decode cX0_add 12 = .ok (.if_icmp .lt 5, 3) := by decide +kernel
theorem dX0_add_15 : decode cX0_add 15 = .ok (.iconst 0, 1) := by decide +kernel
theorem dX0_add_16 : decode cX0_add 16 = .ok (.ireturn, 1) := by decide +kernel
theorem dX0_add_17 : decode cX0_add 17 = .ok (.aload_n 0, 1) := by decide +kernel
theorem dX0_add_18 : decode cX0_add 18 = .ok (.getfield 15, 3) := by decide +kernel
theorem dX0_add_21 : decode cX0_add 21 = .ok (.aload_n 0, 1) := by decide +kernel
theorem dX0_add_22 : decode cX0_add 22 = .ok (.getfield 30, 3) := by decide +kernel
theorem dX0_add_25 : decode cX0_add 25 = .ok (.iload_n 1, 1) := by decide +kernel
theorem dX0_add_26 : decode cX0_add 26 = .ok (.iastore, 1) := by decide +kernel
theorem dX0_add_27 : decode cX0_add 27 = .ok (.aload_n 0, 1) := by decide +kernel
theorem dX0_add_28 : decode cX0_add 28 = .ok (.getfield 19, 3) := by decide +kernel
theorem dX0_add_31 : decode cX0_add 31 = .ok (.aload_n 0, 1) := by decide +kernel
theorem dX0_add_32 : decode cX0_add 32 = .ok (.getfield 30, 3) := by decide +kernel
theorem dX0_add_35 : decode cX0_add 35 = .ok (.iload_n 2, 1) := by decide +kernel
theorem dX0_add_36 : decode cX0_add 36 = .ok (.iastore, 1) := by decide +kernel
theorem dX0_add_37 : decode cX0_add 37 = .ok (.aload_n 0, 1) := by decide +kernel
theorem dX0_add_38 : decode cX0_add 38 = .ok (.getfield 22, 3) := by decide +kernel
theorem dX0_add_41 : decode cX0_add 41 = .ok (.aload_n 0, 1) := by decide +kernel
theorem dX0_add_42 : decode cX0_add 42 = .ok (.getfield 30, 3) := by decide +kernel
theorem dX0_add_45 : decode cX0_add 45 = .ok (.iload_n 3, 1) := by decide +kernel
theorem dX0_add_46 : decode cX0_add 46 = .ok (.iastore, 1) := by decide +kernel
theorem dX0_add_47 : decode cX0_add 47 = .ok (.iconst 0, 1) := by decide +kernel
theorem dX0_add_48 : decode cX0_add 48 = .ok (.istore 4, 2) := by decide +kernel
theorem dX0_add_50 : decode cX0_add 50 = .ok (.iload 4, 2) := by decide +kernel
theorem dX0_add_52 : decode cX0_add 52 = .ok (.bipush 12, 2) := by decide +kernel
theorem dX0_add_54 : decode cX0_add 54 = .ok (.if_icmp .gt 31, 3) := by decide +kernel
theorem dX0_add_57 : decode cX0_add 57 = .ok (.aload_n 0, 1) := by decide +kernel
theorem dX0_add_58 : decode cX0_add 58 = .ok (.getfield 27, 3) := by decide +kernel
theorem dX0_add_61 : decode cX0_add 61 = .ok (.aload_n 0, 1) := by decide +kernel
theorem dX0_add_62 : decode cX0_add 62 = .ok (.getfield 30, 3) := by decide +kernel
theorem dX0_add_65 : decode cX0_add 65 = .ok (.aaload, 1) := by decide +kernel
theorem dX0_add_66 : decode cX0_add 66 = .ok (.iload 4, 2) := by decide +kernel
theorem dX0_add_68 : decode cX0_add 68 = .ok (.aload_n 0, 1) := by decide +kernel
theorem dX0_add_69 : decode cX0_add 69 = .ok (.getfield 9, 3) := by decide +kernel
theorem dX0_add_72 : decode cX0_add 72 = .ok (.iload_n 1, 1) := by decide +kernel
theorem dX0_add_73 : decode cX0_add 73 = .ok (.iload 4, 2) := by decide +kernel
theorem dX0_add_75 : decode cX0_add 75 = .ok (.invokevirtual 51, 3) := by decide +kernel
theorem dX0_add_78 : decode cX0_add 78 = .ok (.lastore, 1) := by decide +kernel
theorem dX0_add_79 : decode cX0_add 79 = .ok (.iinc 4 1, 3) := by decide +kernel
theorem dX0_add_82 : decode cX0_add 82 = .ok (.goto (-32), 3) := by decide +kernel
theorem dX0_add_85 : decode cX0_add 85 = .ok (.aload_n 0, 1) := by decide +kernel
theorem dX0_add_86 : decode cX0_add 86 = .ok (.dup, 1) := by decide +kernel
theorem dX0_add_87 : decode cX0_add 87 = .ok (.getfield 30, 3) := by decide +kernel
theorem dX0_add_90 : decode cX0_add 90 = .ok (.iconst 1, 1) := by decide +kernel
theorem dX0_add_91 : decode cX0_add 91 = .ok (.iadd, 1) := by decide +kernel
theorem dX0_add_92 : decode cX0_add 92 = .ok (.putfield 30, 3) := by decide +kernel
theorem dX0_add_95 : decode cX0_add 95 = .ok (.aload_n 0, 1) := by decide +kernel
theorem dX0_add_96 : decode cX0_add 96 = .ok (.dup, 1) := by decide +kernel
theorem dX0_add_97 : decode cX0_add 97 = .ok (.getfield 34, 3) := by decide +kernel
theorem dX0_add_100 : decode cX0_add 100 = .ok (.iconst 1, 1) := by decide +kernel
theorem dX0_add_101 : decode cX0_add 101 = .ok (.iadd, 1) := by decide +kernel
theorem dX0_add_102 : decode cX0_add 102 = .ok (.putfield 34, 3) := by decide +kernel
theorem dX0_add_105 : decode cX0_add 105 = .ok (.iconst 1, 1) := by decide +kernel
theorem dX0_add_106 : decode cX0_add 106 = .ok (.ireturn, 1) := by decide +kernel
set_option maxRecDepth 20000 in
theorem ggX0_copyOf_X0_clear : GoodIn wsX0_copyOf wsX0_clear := goodIn_r _ [5, 6, 7, 39, 40, 41, 42, 43, 44, 45] (by decide +kernel) (by decide +kernel)
set_option maxRecDepth 20000 in
theorem gX0_copyOf_X0_clear : GoodIn wsX0_copyOf (wsV RX0 56 RX0 yX0_clear wsX0_clear) := goodIn_app (goodIn_of _ (by decide +kernel)) ggX0_copyOf_X0_clear
set_option maxRecDepth 20000 in
theorem ggX0_copyOf_X0_size : GoodIn wsX0_copyOf wsX0_size := goodIn_r _ [11, 6, 39, 40, 41, 42, 43, 44, 45] (by decide +kernel) (by decide +kernel)
set_option maxRecDepth 20000 in
theorem gX0_copyOf_X0_size : GoodIn wsX0_copyOf (wsV RX0 59 RX0 yX0_size wsX0_size) := goodIn_app (goodIn_of _ (by decide +kernel)) ggX0_copyOf_X0_size
set_option maxRecDepth 20000 in
theorem ggX0_copyOf_X0_totalOf : GoodIn wsX0_copyOf wsX0_totalOf := goodIn_r _ [15, 6, 16, 39, 40, 41, 42, 43, 44, 45] (by decide +kernel) (by decide +kernel)
set_option maxRecDepth 20000 in
theorem gX0_copyOf_X0_totalOf : GoodIn wsX0_copyOf (wsV RX0 37 RX0 yX0_totalOf wsX0_totalOf) := goodIn_app (goodIn_of _ (by decide +kernel)) ggX0_copyOf_X0_totalOf
set_option maxRecDepth 20000 in
theorem ggX0_copyOf_X0_aboveOf : GoodIn wsX0_copyOf wsX0_aboveOf := goodIn_r _ [20, 6, 21, 39, 40, 41, 42, 43, 44, 45] (by decide +kernel) (by decide +kernel)
set_option maxRecDepth 20000 in
theorem gX0_copyOf_X0_aboveOf : GoodIn wsX0_copyOf (wsV RX0 41 RX0 yX0_aboveOf wsX0_aboveOf) := goodIn_app (goodIn_of _ (by decide +kernel)) ggX0_copyOf_X0_aboveOf
set_option maxRecDepth 20000 in
theorem ggX0_copyOf_X0_scoreOf : GoodIn wsX0_copyOf wsX0_scoreOf := goodIn_r _ [25, 6, 26, 39, 40, 41, 42, 43, 44, 45] (by decide +kernel) (by decide +kernel)
set_option maxRecDepth 20000 in
theorem gX0_copyOf_X0_scoreOf : GoodIn wsX0_copyOf (wsV RX0 44 RX0 yX0_scoreOf wsX0_scoreOf) := goodIn_app (goodIn_of _ (by decide +kernel)) ggX0_copyOf_X0_scoreOf
set_option maxRecDepth 20000 in
theorem ggX0_copyOf_X0_add : GoodIn wsX0_copyOf wsX0_add := goodIn_r _ [30, 6, 16, 21, 26, 31, 32, 7, 33, 34, 35, 36, 37, 38, 39, 40, 41, 42, 43, 44, 45, 46] (by decide +kernel) (by decide +kernel)
set_option maxRecDepth 20000 in
theorem gX0_copyOf_X0_add : GoodIn wsX0_copyOf (wsV RX0 62 RX0 yX0_add wsX0_add) := goodIn_app (goodIn_of _ (by decide +kernel)) ggX0_copyOf_X0_add
theorem dX0_copyOf_0 : decode cX0_copyOf 0 = .ok (.aload_n 1, 1) := by decide +kernel
theorem dX0_copyOf_1 : decode cX0_copyOf 1 = .ok (.ifnonnull 4, 3) := by decide +kernel
theorem dX0_copyOf_4 : decode cX0_copyOf 4 = .ok (.return_, 1) := by decide +kernel
theorem dX0_copyOf_5 : decode cX0_copyOf 5 = .ok (.aload_n 0, 1) := by decide +kernel
theorem dX0_copyOf_6 : decode cX0_copyOf 6 = .ok (.invokevirtual 56, 3) := by decide +kernel
theorem dX0_copyOf_9 : decode cX0_copyOf 9 = .ok (.iconst 0, 1) := by decide +kernel
theorem dX0_copyOf_10 : decode cX0_copyOf 10 = .ok (.istore_n 2, 1) := by decide +kernel
theorem dX0_copyOf_11 : decode cX0_copyOf 11 = .ok (.iload_n 2, 1) := by decide +kernel
theorem dX0_copyOf_12 : decode cX0_copyOf 12 = .ok (.aload_n 1, 1) := by decide +kernel
theorem dX0_copyOf_13 : decode cX0_copyOf 13 = .ok (.invokevirtual 59, 3) := by decide +kernel
theorem dX0_copyOf_16 : decode cX0_copyOf 16 = .ok (.if_icmp .ge 29, 3) := by decide +kernel
theorem dX0_copyOf_19 : decode cX0_copyOf 19 = .ok (.aload_n 0, 1) := by decide +kernel
theorem dX0_copyOf_20 : decode cX0_copyOf 20 = .ok (.aload_n 1, 1) := by decide +kernel
theorem dX0_copyOf_21 : decode cX0_copyOf 21 = .ok (.iload_n 2, 1) := by decide +kernel
theorem dX0_copyOf_22 : decode cX0_copyOf 22 = .ok (.invokevirtual 37, 3) := by decide +kernel
theorem dX0_copyOf_25 : decode cX0_copyOf 25 = .ok (.aload_n 1, 1) := by decide +kernel
theorem dX0_copyOf_26 : decode cX0_copyOf 26 = .ok (.iload_n 2, 1) := by decide +kernel
theorem dX0_copyOf_27 : decode cX0_copyOf 27 = .ok (.invokevirtual 41, 3) := by decide +kernel
theorem dX0_copyOf_30 : decode cX0_copyOf 30 = .ok (.aload_n 1, 1) := by decide +kernel
theorem dX0_copyOf_31 : decode cX0_copyOf 31 = .ok (.iload_n 2, 1) := by decide +kernel
theorem dX0_copyOf_32 : decode cX0_copyOf 32 = .ok (.invokevirtual 44, 3) := by decide +kernel
theorem dX0_copyOf_35 : decode cX0_copyOf 35 = .ok (.invokevirtual 62, 3) := by decide +kernel
theorem dX0_copyOf_38 : decode cX0_copyOf 38 = .ok (.pop, 1) := by decide +kernel
theorem dX0_copyOf_39 : decode cX0_copyOf 39 = .ok (.iinc 2 1, 3) := by decide +kernel
theorem dX0_copyOf_42 : decode cX0_copyOf 42 = .ok (.goto (-31), 3) := by decide +kernel
theorem dX0_copyOf_45 : decode cX0_copyOf 45 = .ok (.return_, 1) := by decide +kernel
set_option maxRecDepth 20000 in
theorem ggX0_tellAbove_X0_has : GoodIn wsX0_tellAbove wsX0_has := goodIn_r _ [7, 8, 9, 10, 11, 12, 13, 14, 15] (by decide +kernel) (by decide +kernel)
set_option maxRecDepth 20000 in
theorem gX0_tellAbove_X0_has : GoodIn wsX0_tellAbove (wsV RX0 66 RX0 yX0_has wsX0_has) := goodIn_app (goodIn_of _ (by decide +kernel)) ggX0_tellAbove_X0_has
theorem dX0_tellAbove_0 : decode cX0_tellAbove 0 = .ok (.aload_n 0, 1) := by decide +kernel
theorem dX0_tellAbove_1 : decode cX0_tellAbove 1 = .ok (.iload_n 1, 1) := by decide +kernel
theorem dX0_tellAbove_2 : decode cX0_tellAbove 2 = .ok (.invokevirtual 66, 3) := by decide +kernel
theorem dX0_tellAbove_5 : decode cX0_tellAbove 5 = .ok (.ifCond .eq 20, 3) := by decide +kernel
theorem dX0_tellAbove_8 : decode cX0_tellAbove 8 = .ok (.aload_n 0, 1) := by decide +kernel
theorem dX0_tellAbove_9 : decode cX0_tellAbove 9 = .ok (.getfield 19, 3) := by decide +kernel
theorem dX0_tellAbove_12 : decode cX0_tellAbove 12 = .ok (.iload_n 1, 1) := by decide +kernel
theorem dX0_tellAbove_13 : decode cX0_tellAbove 13 = .ok (.iload_n 2, 1) := by decide +kernel
theorem dX0_tellAbove_14 : decode cX0_tellAbove 14 = .ok (.iastore, 1) := by decide +kernel
theorem dX0_tellAbove_15 : decode cX0_tellAbove 15 = .ok (.aload_n 0, 1) := by decide +kernel
theorem dX0_tellAbove_16 : decode cX0_tellAbove 16 = .ok (.dup, 1) := by decide +kernel
theorem dX0_tellAbove_17 : decode cX0_tellAbove 17 = .ok (.getfield 34, 3) := by decide +kernel
theorem dX0_tellAbove_20 : decode cX0_tellAbove 20 = .ok (.iconst 1, 1) := by decide +kernel
theorem dX0_tellAbove_21 : decode cX0_tellAbove 21 = .ok (.iadd, 1) := by decide +kernel
theorem dX0_tellAbove_22 : decode cX0_tellAbove 22 = .ok (.putfield 34, 3) := by decide +kernel
theorem dX0_tellAbove_25 : decode cX0_tellAbove 25 = .ok (.return_, 1) := by decide +kernel
set_option maxRecDepth 20000 in
theorem ggX0_tellScore_X0_has : GoodIn wsX0_tellScore wsX0_has := goodIn_r _ [7, 8, 9, 10, 11, 12, 13, 14, 15] (by decide +kernel) (by decide +kernel)
set_option maxRecDepth 20000 in
theorem gX0_tellScore_X0_has : GoodIn wsX0_tellScore (wsV RX0 66 RX0 yX0_has wsX0_has) := goodIn_app (goodIn_of _ (by decide +kernel)) ggX0_tellScore_X0_has
theorem dX0_tellScore_0 : decode cX0_tellScore 0 = .ok (.aload_n 0, 1) := by decide +kernel
theorem dX0_tellScore_1 : decode cX0_tellScore 1 = .ok (.iload_n 1, 1) := by decide +kernel
theorem dX0_tellScore_2 : decode cX0_tellScore 2 = .ok (.invokevirtual 66, 3) := by decide +kernel
theorem dX0_tellScore_5 : decode cX0_tellScore 5 = .ok (.ifCond .eq 20, 3) := by decide +kernel
theorem dX0_tellScore_8 : decode cX0_tellScore 8 = .ok (.aload_n 0, 1) := by decide +kernel
theorem dX0_tellScore_9 : decode cX0_tellScore 9 = .ok (.getfield 22, 3) := by decide +kernel
theorem dX0_tellScore_12 : decode cX0_tellScore 12 = .ok (.iload_n 1, 1) := by decide +kernel
theorem dX0_tellScore_13 : decode cX0_tellScore 13 = .ok (.iload_n 2, 1) := by decide +kernel
theorem dX0_tellScore_14 : decode cX0_tellScore 14 = .ok (.iastore, 1) := by decide +kernel
theorem dX0_tellScore_15 : decode cX0_tellScore 15 = .ok (.aload_n 0, 1) := by decide +kernel
theorem dX0_tellScore_16 : decode cX0_tellScore 16 = .ok (.dup, 1) := by decide +kernel
theorem dX0_tellScore_17 : decode cX0_tellScore 17 = .ok (.getfield 34, 3) := by decide +kernel
theorem dX0_tellScore_20 : decode cX0_tellScore 20 = .ok (.iconst 1, 1) := by decide +kernel
theorem dX0_tellScore_21 : decode cX0_tellScore 21 = .ok (.iadd, 1) := by decide +kernel
theorem dX0_tellScore_22 : decode cX0_tellScore 22 = .ok (.putfield 34, 3) := by decide +kernel
theorem dX0_tellScore_25 : decode cX0_tellScore 25 = .ok (.return_, 1) := by decide +kernel
theorem dX1_init_0 : decode cX1_init 0 = .ok (.aload_n 0, 1) := by decide +kernel
theorem dX1_init_1 : decode cX1_init 1 = .ok (.invokespecial 3, 3) := by decide +kernel
theorem dX1_init_4 : decode cX1_init 4 = .ok (.aload_n 0, 1) := by decide +kernel
theorem dX1_init_5 : decode cX1_init 5 = .ok (.sipush 1621, 3) := by decide +kernel
theorem dX1_init_8 : decode cX1_init 8 = .ok (.newarray .long, 2) := by decide +kernel
theorem dX1_init_10 : decode cX1_init 10 = .ok (.putfield 9, 3) := by decide +kernel
theorem dX1_init_13 : decode cX1_init 13 = .ok (.aload_n 0, 1) := by decide +kernel
theorem dX1_init_14 : decode cX1_init 14 = .ok (.sipush 1621, 3) := by decide +kernel
theorem dX1_init_17 : decode cX1_init 17 = .ok (.newarray .long, 2) := by decide +kernel
theorem dX1_init_19 : decode cX1_init 19 = .ok (.putfield 15, 3) := by decide +kernel
theorem dX1_init_22 : decode cX1_init 22 = .ok (.aload_n 0, 1) := by decide +kernel
theorem dX1_init_23 : decode cX1_init 23 = .ok (.iconst 0, 1) := by decide +kernel
theorem dX1_init_24 : decode cX1_init 24 = .ok (.putfield 18, 3) := by decide +kernel
theorem dX1_init_27 : decode cX1_init 27 = .ok (.return_, 1) := by decide +kernel
set_option maxRecDepth 20000 in
theorem ggX1_clear_J7_fill_d0a16 : GoodIn wsX1_clear wsJ7_fill_d0a16 := goodIn_r _ [6] (by decide +kernel) (by decide +kernel)
set_option maxRecDepth 20000 in
theorem gX1_clear_J7_fill_d0a16 : GoodIn wsX1_clear (va_wsS RX1 22 yJ7_fill_d0a16 wsJ7_fill_d0a16) := goodIn_app (goodIn_of _ (by decide +kernel)) ggX1_clear_J7_fill_d0a16
theorem dX1_clear_0 : decode cX1_clear 0 = .ok (.aload_n 0, 1) := by decide +kernel
theorem dX1_clear_1 : decode cX1_clear 1 = .ok (.getfield 9, 3) := by decide +kernel
theorem dX1_clear_4 : decode cX1_clear 4 = .ok (.lconst 0, 1) := by decide +kernel
theorem dX1_clear_5 : decode cX1_clear 5 = .ok (.invokestatic 22, 3) := by decide +kernel
theorem dX1_clear_8 : decode cX1_clear 8 = .ok (.aload_n 0, 1) := by decide +kernel
theorem dX1_clear_9 : decode cX1_clear 9 = .ok (.getfield 9, 3) := by decide +kernel
theorem dX1_clear_12 : decode cX1_clear 12 = .ok (.iconst 0, 1) := by decide +kernel
theorem dX1_clear_13 : decode cX1_clear 13 = .ok (.lconst 1, 1) := by decide +kernel
theorem dX1_clear_14 : decode cX1_clear 14 = .ok (.lastore, 1) := by decide +kernel
theorem dX1_clear_15 : decode cX1_clear 15 = .ok (.aload_n 0, 1) := by decide +kernel
theorem dX1_clear_16 : decode cX1_clear 16 = .ok (.iconst 0, 1) := by decide +kernel
theorem dX1_clear_17 : decode cX1_clear 17 = .ok (.putfield 18, 3) := by decide +kernel
theorem dX1_clear_20 : decode cX1_clear 20 = .ok (.return_, 1) := by decide +kernel
set_option maxRecDepth 20000 in
theorem ggX1_add_J7_fill_d0a16 : GoodIn wsX1_add wsJ7_fill_d0a16 := goodIn_r _ [11] (by decide +kernel) (by decide +kernel)
set_option maxRecDepth 20000 in
theorem gX1_add_J7_fill_d0a16 : GoodIn wsX1_add (va_wsS RX1 22 yJ7_fill_d0a16 wsJ7_fill_d0a16) := goodIn_app (goodIn_of _ (by decide +kernel)) ggX1_add_J7_fill_d0a16
set_option maxRecDepth 20000 in
theorem ggX1_add_X1_spread : GoodIn wsX1_add wsX1_spread := goodIn_r _ [16, 2, 17, 18, 19, 20, 21, 22, 23, 24, 25, 26, 27, 28, 29, 30, 31, 32, 33, 34, 35, 36, 37, 38, 39, 40, 41, 42] (by decide +kernel) (by decide +kernel)
set_option maxRecDepth 20000 in
theorem gX1_add_X1_spread : GoodIn wsX1_add (wsV RX1 34 RX1 yX1_spread wsX1_spread) := goodIn_app (goodIn_of _ (by decide +kernel)) ggX1_add_X1_spread
set_option maxRecDepth 20000 in
theorem ggX1_add_X8_greatest : GoodIn wsX1_add wsX8_greatest := goodIn_r _ [21, 22, 36, 37, 38, 39, 40, 41, 42] (by decide +kernel) (by decide +kernel)
set_option maxRecDepth 20000 in
theorem gX1_add_X8_greatest : GoodIn wsX1_add (wsV RX1 38 RX8 yX8_greatest wsX8_greatest) := goodIn_app (goodIn_of _ (by decide +kernel)) ggX1_add_X8_greatest
theorem dX1_add_0 : decode cX1_add 0 = .ok (.aload_n 0, 1) := by decide +kernel
theorem dX1_add_1 : decode cX1_add 1 = .ok (.getfield 18, 3) := by decide +kernel
theorem dX1_add_4 : decode cX1_add 4 = .ok (.ifCond .lt 19, 3) := by decide +kernel
theorem dX1_add_7 : decode cX1_add 7 = .ok (.aload_n 0, 1) := by decide +kernel
theorem dX1_add_8 : decode cX1_add 8 = .ok (.getfield 18, 3) := by decide +kernel
theorem dX1_add_11 : decode cX1_add 11 = .ok (.sipush 540, 3) := by decide +kernel
theorem dX1_add_14 : decode cX1_add 14 = .ok (.iadd, 1) := by decide +kernel
theorem dX1_add_15 : decode cX1_add 15 = .ok (.aload_n 0, 1) := by decide +kernel
theorem dX1_add_16 : decode cX1_add 16 = .ok (.getfield 9, 3) := by decide +kernel
theorem dX1_add_19 : decode cX1_add 19 = .ok (.arraylength, 1) := by decide +kernel
theorem dX1_add_20 : decode cX1_add 20 = .ok (.if_icmp .lt 4, 3) := by decide +kernel
theorem dX1_add_23 : decode cX1_add 23 = .ok (.return_, 1) := by decide +kernel
theorem dX1_add_24 : decode cX1_add 24 = .ok (.aload_n 0, 1) := by decide +kernel
theorem dX1_add_25 : decode cX1_add 25 = .ok (.getfield 9, 3) := by decide +kernel
theorem dX1_add_28 : decode cX1_add 28 = .ok (.iconst 0, 1) := by decide +kernel
theorem dX1_add_29 : decode cX1_add 29 = .ok (.aload_n 0, 1) := by decide +kernel
theorem dX1_add_30 : decode cX1_add 30 = .ok (.getfield 15, 3) := by decide +kernel
theorem dX1_add_33 : decode cX1_add 33 = .ok (.iconst 0, 1) := by decide +kernel
theorem dX1_add_34 : decode cX1_add 34 = .ok (.aload_n 0, 1) := by decide +kernel
theorem dX1_add_35 : decode cX1_add 35 = .ok (.getfield 18, 3) := by decide +kernel
theorem dX1_add_38 : decode cX1_add 38 = .ok (.iconst 1, 1) := by decide +kernel
theorem dX1_add_39 : decode cX1_add 39 = .ok (.iadd, 1) := by decide +kernel
theorem dX1_add_40 : decode cX1_add 40 = .ok (.invokestatic 28, 3) := by decide +kernel
theorem dX1_add_43 : decode cX1_add 43 = .ok (.aload_n 0, 1) := by decide +kernel
theorem dX1_add_44 : decode cX1_add 44 = .ok (.getfield 9, 3) := by decide +kernel
theorem dX1_add_47 : decode cX1_add 47 = .ok (.lconst 0, 1) := by decide +kernel
theorem dX1_add_48 : decode cX1_add 48 = .ok (.invokestatic 22, 3) := by decide +kernel
theorem dX1_add_51 : decode cX1_add 51 = .ok (.iconst 0, 1) := by decide +kernel
theorem dX1_add_52 : decode cX1_add 52 = .ok (.istore_n 2, 1) := by decide +kernel
theorem dX1_add_53 : decode cX1_add 53 = .ok (.iload_n 2, 1) := by decide +kernel
theorem dX1_add_54 : decode cX1_add 54 = .ok (.aload_n 0, 1) := by decide +kernel
theorem dX1_add_55 : decode cX1_add 55 = .ok (.getfield 18, 3) := by decide +kernel
theorem dX1_add_58 : decode cX1_add 58 = .ok (.if_icmp .gt 32, 3) := by decide +kernel
theorem dX1_add_61 : decode cX1_add 61 = .ok (.aload_n 0, 1) := by decide +kernel
theorem dX1_add_62 : decode cX1_add 62 = .ok (.getfield 15, 3) := by decide +kernel
theorem dX1_add_65 : decode cX1_add 65 = .ok (.iload_n 2, 1) := by decide +kernel
theorem dX1_add_66 : decode cX1_add 66 = .ok (.laload, 1) := by decide +kernel
theorem dX1_add_67 : decode cX1_add 67 = .ok (.lconst 0, 1) := by decide +kernel
theorem dX1_add_68 : decode cX1_add 68 = .ok (.lcmp, 1) := by decide +kernel
theorem dX1_add_69 : decode cX1_add 69 = .ok (.ifCond .eq 15, 3) := by decide +kernel
theorem dX1_add_72 : decode cX1_add 72 = .ok (.aload_n 0, 1) := by decide +kernel
theorem dX1_add_73 : decode cX1_add 73 = .ok (.iload_n 2, 1) := by decide +kernel
theorem dX1_add_74 : decode cX1_add 74 = .ok (.aload_n 0, 1) := by decide +kernel
theorem dX1_add_75 : decode cX1_add 75 = .ok (.getfield 15, 3) := by decide +kernel
theorem dX1_add_78 : decode cX1_add 78 = .ok (.iload_n 2, 1) := by decide +kernel
theorem dX1_add_79 : decode cX1_add 79 = .ok (.laload, 1) := by decide +kernel
theorem dX1_add_80 : decode cX1_add 80 = .ok (.aload_n 1, 1) := by decide +kernel
theorem dX1_add_81 : decode cX1_add 81 = .ok (.invokevirtual 34, 3) := by decide +kernel
theorem dX1_add_84 : decode cX1_add 84 = .ok (.iinc 2 1, 3) := by decide +kernel
theorem dX1_add_87 : decode cX1_add 87 = .ok (.goto (-34), 3) := by decide +kernel
theorem dX1_add_90 : decode cX1_add 90 = .ok (.aload_n 0, 1) := by decide +kernel
theorem dX1_add_91 : decode cX1_add 91 = .ok (.dup, 1) := by decide +kernel
theorem dX1_add_92 : decode cX1_add 92 = .ok (.getfield 18, 3) := by decide +kernel
theorem dX1_add_95 : decode cX1_add 95 = .ok (.aload_n 1, 1) := by decide +kernel
theorem dX1_add_96 : decode cX1_add 96 = .ok (.invokevirtual 38, 3) := by decide +kernel
theorem dX1_add_99 : decode cX1_add 99 = .ok (.iadd, 1) := by decide +kernel
theorem dX1_add_100 : decode cX1_add 100 = .ok (.putfield 18, 3) := by decide +kernel
theorem dX1_add_103 : decode cX1_add 103 = .ok (.return_, 1) := by decide +kernel
set_option maxRecDepth 20000 in
theorem ggX1_spread_X8_greatest : GoodIn wsX1_spread wsX8_greatest := goodIn_r _ [6, 7, 21, 22, 23, 24, 25, 26, 27] (by decide +kernel) (by decide +kernel)
set_option maxRecDepth 20000 in
theorem gX1_spread_X8_greatest : GoodIn wsX1_spread (wsV RX1 38 RX8 yX8_greatest wsX8_greatest) := goodIn_app (goodIn_of _ (by decide +kernel)) ggX1_spread_X8_greatest
set_option maxRecDepth 20000 in
theorem ggX1_spread_X8_least : GoodIn wsX1_spread wsX8_least := goodIn_r _ [11, 12, 21, 22, 23, 24, 25, 26, 27] (by decide +kernel) (by decide +kernel)
set_option maxRecDepth 20000 in
theorem gX1_spread_X8_least : GoodIn wsX1_spread (wsV RX1 43 RX8 yX8_least wsX8_least) := goodIn_app (goodIn_of _ (by decide +kernel)) ggX1_spread_X8_least
set_option maxRecDepth 20000 in
theorem ggX1_spread_X8_waysOf : GoodIn wsX1_spread wsX8_waysOf := goodIn_r _ [16, 17, 21, 22, 23, 24, 25, 26, 27] (by decide +kernel) (by decide +kernel)
set_option maxRecDepth 20000 in
theorem gX1_spread_X8_waysOf : GoodIn wsX1_spread (wsV RX1 46 RX8 yX8_waysOf wsX8_waysOf) := goodIn_app (goodIn_of _ (by decide +kernel)) ggX1_spread_X8_waysOf
theorem dX1_spread_0 : decode cX1_spread 0 = .ok (.aload 4, 2) := by decide +kernel
theorem dX1_spread_2 : decode cX1_spread 2 = .ok (.invokevirtual 38, 3) := by decide +kernel
theorem dX1_spread_5 : decode cX1_spread 5 = .ok (.istore 5, 2) := by decide +kernel
theorem dX1_spread_7 : decode cX1_spread 7 = .ok (.aload 4, 2) := by decide +kernel
theorem dX1_spread_9 : decode cX1_spread 9 = .ok (.invokevirtual 43, 3) := by decide +kernel
theorem dX1_spread_12 : decode cX1_spread 12 = .ok (.istore 6, 2) := by decide +kernel
theorem dX1_spread_14 : decode cX1_spread 14 = .ok (.iload 6, 2) := by decide +kernel
theorem dX1_spread_16 : decode cX1_spread 16 = .ok (.iload 5, 2) := by decide +kernel
theorem dX1_spread_18 : decode cX1_spread 18 = .ok (.if_icmp .gt 49, 3) := by decide +kernel
theorem dX1_spread_21 : decode cX1_spread 21 = .ok (.iload_n 1, 1) := by decide +kernel
theorem dX1_spread_22 : decode cX1_spread 22 = .ok (.iload 6, 2) := by decide +kernel
theorem dX1_spread_24 : decode cX1_spread 24 = .ok (.iadd, 1) := by decide +kernel
theorem dX1_spread_25 : decode cX1_spread 25 = .ok (.ifCond .lt 36, 3) := by decide +kernel
theorem dX1_spread_28 : decode cX1_spread 28 = .ok (.iload_n 1, 1) := by decide +kernel
theorem dX1_spread_29 : decode cX1_spread 29 = .ok (.iload 6, 2) := by decide +kernel
theorem dX1_spread_31 : decode cX1_spread 31 = .ok (.iadd, 1) := by decide +kernel
theorem dX1_spread_32 : decode cX1_spread 32 = .ok (.aload_n 0, 1) := by decide +kernel
theorem dX1_spread_33 : decode cX1_spread 33 = .ok (.getfield 9, 3) := by decide +kernel
theorem dX1_spread_36 : decode cX1_spread 36 = .ok (.arraylength, 1) := by decide +kernel
theorem dX1_spread_37 : decode cX1_spread 37 = .ok (.if_icmp .ge 24, 3) := by decide +kernel
theorem dX1_spread_40 : decode cX1_spread 40 = .ok (.aload_n 0, 1) := by decide +kernel
theorem dX1_spread_41 : decode cX1_spread 41 = .ok (.getfield 9, 3) := by decide +kernel
theorem dX1_spread_44 : decode cX1_spread 44 = .ok (.iload_n 1, 1) := by decide +kernel
theorem dX1_spread_45 : decode cX1_spread 45 = .ok (.iload 6, 2) := by decide +kernel
theorem dX1_spread_47 : decode cX1_spread 47 = .ok (.iadd, 1) := by decide +kernel
theorem dX1_spread_48 : decode cX1_spread 48 = .ok (.dup2, 1) := by decide +kernel
theorem dX1_spread_49 : decode cX1_spread 49 = .ok (.laload, 1) := by decide +kernel
theorem dX1_spread_50 : decode cX1_spread 50 = .ok (.lload_n 2, 1) := by decide +kernel
theorem dX1_spread_51 : decode cX1_spread 51 = .ok (.aload 4, 2) := by decide +kernel
theorem dX1_spread_53 : decode cX1_spread 53 = .ok (.iload 6, 2) := by decide +kernel
theorem dX1_spread_55 : decode cX1_spread 55 = .ok (.invokevirtual 46, 3) := by decide +kernel
theorem dX1_spread_58 : decode cX1_spread 58 = .ok (.lmul, 1) := by decide +kernel
theorem dX1_spread_59 : decode cX1_spread 59 = .ok (.ladd, 1) := by decide +kernel
theorem dX1_spread_60 : decode cX1_spread 60 = .ok (.lastore, 1) := by decide +kernel
theorem dX1_spread_61 : decode cX1_spread 61 = .ok (.iinc 6 1, 3) := by decide +kernel
theorem dX1_spread_64 : decode cX1_spread 64 = .ok (.goto (-50), 3) := by decide +kernel
theorem dX1_spread_67 : decode cX1_spread 67 = .ok (.return_, 1) := by decide +kernel
set_option maxRecDepth 20000 in
theorem ggX1_waysBy_X8_isStrange : GoodIn wsX1_waysBy wsX8_isStrange := goodIn_r _ [5] (by decide +kernel) (by decide +kernel)
set_option maxRecDepth 20000 in
theorem gX1_waysBy_X8_isStrange : GoodIn wsX1_waysBy (va_wsS RX1 50 yX8_isStrange wsX8_isStrange) := goodIn_app (goodIn_of _ (by decide +kernel)) ggX1_waysBy_X8_isStrange
theorem dX1_waysBy_0 : decode cX1_waysBy 0 = .ok (.lconst 0, 1) := by decide +kernel
theorem dX1_waysBy_1 : decode cX1_waysBy 1 = .ok (.lstore_n 3, 1) := by decide +kernel
theorem dX1_waysBy_2 : decode cX1_waysBy 2 = .ok (.iconst 0, 1) := by decide +kernel
theorem dX1_waysBy_3 : decode cX1_waysBy 3 = .ok (.istore 5, 2) := by decide +kernel
theorem dX1_waysBy_5 : decode cX1_waysBy 5 = .ok (.iload 5, 2) := by decide +kernel
theorem dX1_waysBy_7 : decode cX1_waysBy 7 = .ok (.aload_n 0, 1) := by decide +kernel
theorem dX1_waysBy_8 : decode cX1_waysBy 8 = .ok (.getfield 9, 3) := by decide +kernel
theorem dX1_waysBy_11 : decode cX1_waysBy 11 = .ok (.arraylength, 1) := by decide +kernel
theorem dX1_waysBy_12 : decode cX1_waysBy 12 = .ok (.if_icmp .ge 29, 3) := by decide +kernel
theorem dX1_waysBy_15 : decode cX1_waysBy 15 = .ok (.iload_n 1, 1) := by decide +kernel
theorem dX1_waysBy_16 : decode cX1_waysBy 16 = .ok (.iload 5, 2) := by decide +kernel
theorem dX1_waysBy_18 : decode cX1_waysBy 18 = .ok (.iload_n 2, 1) := by decide +kernel
theorem dX1_waysBy_19 : decode cX1_waysBy 19 = .ok (.invokestatic 50, 3) := by decide +kernel
theorem dX1_waysBy_22 : decode cX1_waysBy 22 = .ok (.ifCond .eq 13, 3) := by decide +kernel
theorem dX1_waysBy_25 : decode cX1_waysBy 25 = .ok (.lload_n 3, 1) := by decide +kernel
theorem dX1_waysBy_26 : decode cX1_waysBy 26 = .ok (.aload_n 0, 1) := by decide +kernel
theorem dX1_waysBy_27 : decode cX1_waysBy 27 = .ok (.getfield 9, 3) := by decide +kernel
theorem dX1_waysBy_30 : decode cX1_waysBy 30 = .ok (.iload 5, 2) := by decide +kernel
theorem dX1_waysBy_32 : decode cX1_waysBy 32 = .ok (.laload, 1) := by decide +kernel
theorem dX1_waysBy_33 : decode cX1_waysBy 33 = .ok (.ladd, 1) := by decide +kernel
theorem dX1_waysBy_34 : decode cX1_waysBy 34 = .ok (.lstore_n 3, 1) := by decide +kernel
theorem dX1_waysBy_35 : decode cX1_waysBy 35 = .ok (.iinc 5 1, 3) := by decide +kernel
theorem dX1_waysBy_38 : decode cX1_waysBy 38 = .ok (.goto (-33), 3) := by decide +kernel
theorem dX1_waysBy_41 : decode cX1_waysBy 41 = .ok (.lload_n 3, 1) := by decide +kernel
theorem dX1_waysBy_42 : decode cX1_waysBy 42 = .ok (.lreturn, 1) := by decide +kernel
theorem dX2_init_0 : decode cX2_init 0 = .ok (.aload_n 0, 1) := by decide +kernel
theorem dX2_init_1 : decode cX2_init 1 = .ok (.invokespecial 3, 3) := by decide +kernel
theorem dX2_init_4 : decode cX2_init 4 = .ok (.aload_n 0, 1) := by decide +kernel
theorem dX2_init_5 : decode cX2_init 5 = .ok (.aload_n 1, 1) := by decide +kernel
theorem dX2_init_6 : decode cX2_init 6 = .ok (.putfield 9, 3) := by decide +kernel
theorem dX2_init_9 : decode cX2_init 9 = .ok (.aload_n 0, 1) := by decide +kernel
theorem dX2_init_10 : decode cX2_init 10 = .ok (.bipush 8, 2) := by decide +kernel
theorem dX2_init_12 : decode cX2_init 12 = .ok (.sipush 366, 3) := by decide +kernel
theorem dX2_init_15 : decode cX2_init 15 = .ok (.multianewarray 15 2, 4) := by decide +kernel
theorem dX2_init_19 : decode cX2_init 19 = .ok (.putfield 17, 3) := by decide +kernel
theorem dX2_init_22 : decode cX2_init 22 = .ok (.aload_n 0, 1) := by decide +kernel
theorem dX2_init_23 : decode cX2_init 23 = .ok (.bipush 6, 2) := by decide +kernel
theorem dX2_init_25 : decode cX2_init 25 = .ok (.newarray .int, 2) := by decide +kernel
theorem dX2_init_27 : decode cX2_init 27 = .ok (.putfield 20, 3) := by decide +kernel
theorem dX2_init_30 : decode cX2_init 30 = .ok (.aload_n 0, 1) := by decide +kernel
theorem dX2_init_31 : decode cX2_init 31 = .ok (.iconst 0, 1) := by decide +kernel
theorem dX2_init_32 : decode cX2_init 32 = .ok (.putfield 24, 3) := by decide +kernel
theorem dX2_init_35 : decode cX2_init 35 = .ok (.aload_n 0, 1) := by decide +kernel
theorem dX2_init_36 : decode cX2_init 36 = .ok (.iconst 0, 1) := by decide +kernel
theorem dX2_init_37 : decode cX2_init 37 = .ok (.putfield 28, 3) := by decide +kernel
theorem dX2_init_40 : decode cX2_init 40 = .ok (.return_, 1) := by decide +kernel
set_option maxRecDepth 20000 in
theorem ggX2_isThere_X2_at : GoodIn wsX2_isThere wsX2_at := goodIn_r _ [5, 6, 7, 8, 9, 10, 11] (by decide +kernel) (by decide +kernel)
set_option maxRecDepth 20000 in
theorem gX2_isThere_X2_at : GoodIn wsX2_isThere (wsV RX2 31 RX2 yX2_at wsX2_at) := goodIn_app (goodIn_of _ (by decide +kernel)) ggX2_isThere_X2_at
theorem dX2_isThere_0 : decode cX2_isThere 0 = .ok (.aload_n 0, 1) := by decide +kernel
theorem dX2_isThere_1 : decode cX2_isThere 1 = .ok (.iconst 1, 1) := by decide +kernel
theorem dX2_isThere_2 : decode cX2_isThere 2 = .ok (.iload_n 1, 1) := by decide +kernel
theorem dX2_isThere_3 : decode cX2_isThere 3 = .ok (.iload_n 2, 1) := by decide +kernel
theorem dX2_isThere_4 : decode cX2_isThere 4 = .ok (.invokevirtual 31, 3) := by decide +kernel
theorem dX2_isThere_7 : decode cX2_isThere 7 = .ok (.lconst 0, 1) := by decide +kernel
theorem dX2_isThere_8 : decode cX2_isThere 8 = .ok (.lcmp, 1) := by decide +kernel
theorem dX2_isThere_9 : decode cX2_isThere 9 = .ok (.ifCond .le 7, 3) := by decide +kernel
theorem dX2_isThere_12 : decode cX2_isThere 12 = .ok (.iconst 1, 1) := by decide +kernel
theorem dX2_isThere_13 : decode cX2_isThere 13 = .ok (.goto 4, 3) := by decide +kernel
theorem dX2_isThere_16 : decode cX2_isThere 16 = .ok (.iconst 0, 1) := by decide +kernel
theorem dX2_isThere_17 : decode cX2_isThere 17 = .ok (.ireturn, 1) := by decide +kernel
theorem dX2_at_0 : decode cX2_at 0 = .ok (.iload_n 1, 1) := by decide +kernel
theorem dX2_at_1 : decode cX2_at 1 = .ok (.ifCond .lt 28, 3) := by decide +kernel
theorem dX2_at_4 : decode cX2_at 4 = .ok (.iload_n 1, 1) := by decide +kernel
theorem dX2_at_5 : decode cX2_at 5 = .ok (.bipush 8, 2) := by decide +kernel
theorem dX2_at_7 : decode cX2_at 7 = .ok (.if_icmp .ge 22, 3) := by decide +kernel
theorem dX2_at_10 : decode cX2_at 10 = .ok (.iload_n 2, 1) := by decide +kernel
theorem dX2_at_11 : decode cX2_at 11 = .ok (.ifCond .lt 18, 3) := by decide +kernel
theorem dX2_at_14 : decode cX2_at 14 = .ok (.iload_n 2, 1) := by decide +kernel
theorem dX2_at_15 : decode cX2_at 15 = .ok (.iconst 5, 1) := by decide +kernel
theorem dX2_at_16 : decode cX2_at 16 = .ok (.if_icmp .gt 13, 3) := by decide +kernel
theorem dX2_at_19 : decode cX2_at 19 = .ok (.iload_n 3, 1) := by decide +kernel
theorem dX2_at_20 : decode cX2_at 20 = .ok (.ifCond .lt 9, 3) := by decide +kernel
theorem dX2_at_23 : decode cX2_at 23 = .ok (.iload_n 3, 1) := by decide +kernel
theorem dX2_at_24 : decode cX2_at 24 = .ok (.bipush 61, 2) := by decide +kernel
theorem dX2_at_26 : decode cX2_at 26 = .ok (.if_icmp .lt 5, 3) := by decide +kernel
theorem dX2_at_29 : decode cX2_at 29 = .ok (.lconst 0, 1) := by decide +kernel
theorem dX2_at_30 : decode cX2_at 30 = .ok (.lreturn, 1) := by decide +kernel
theorem dX2_at_31 : decode cX2_at 31 = .ok (.aload_n 0, 1) := by decide +kernel
theorem dX2_at_32 : decode cX2_at 32 = .ok (.getfield 17, 3) := by decide +kernel
theorem dX2_at_35 : decode cX2_at 35 = .ok (.iload_n 1, 1) := by decide +kernel
theorem dX2_at_36 : decode cX2_at 36 = .ok (.aaload, 1) := by decide +kernel
theorem dX2_at_37 : decode cX2_at 37 = .ok (.iload_n 2, 1) := by decide +kernel
theorem dX2_at_38 : decode cX2_at 38 = .ok (.bipush 61, 2) := by decide +kernel
theorem dX2_at_40 : decode cX2_at 40 = .ok (.imul, 1) := by decide +kernel
theorem dX2_at_41 : decode cX2_at 41 = .ok (.iload_n 3, 1) := by decide +kernel
theorem dX2_at_42 : decode cX2_at 42 = .ok (.iadd, 1) := by decide +kernel
theorem dX2_at_43 : decode cX2_at 43 = .ok (.laload, 1) := by decide +kernel
theorem dX2_at_44 : decode cX2_at 44 = .ok (.lreturn, 1) := by decide +kernel
theorem dX2_put_0 : decode cX2_put 0 = .ok (.iload_n 1, 1) := by decide +kernel
theorem dX2_put_1 : decode cX2_put 1 = .ok (.ifCond .lt 28, 3) := by decide +kernel
theorem dX2_put_4 : decode cX2_put 4 = .ok (.iload_n 1, 1) := by decide +kernel
theorem dX2_put_5 : decode cX2_put 5 = .ok (.bipush 8, 2) := by decide +kernel
theorem dX2_put_7 : decode cX2_put 7 = .ok (.if_icmp .ge 22, 3) := by decide +kernel
theorem dX2_put_10 : decode cX2_put 10 = .ok (.iload_n 2, 1) := by decide +kernel
theorem dX2_put_11 : decode cX2_put 11 = .ok (.ifCond .lt 18, 3) := by decide +kernel
theorem dX2_put_14 : decode cX2_put 14 = .ok (.iload_n 2, 1) := by decide +kernel
theorem dX2_put_15 : decode cX2_put 15 = .ok (.iconst 5, 1) := by decide +kernel
theorem dX2_put_16 : decode cX2_put 16 = .ok (.if_icmp .gt 13, 3) := by decide +kernel
theorem dX2_put_19 : decode cX2_put 19 = .ok (.iload_n 3, 1) := by decide +kernel
theorem dX2_put_20 : decode cX2_put 20 = .ok (.ifCond .lt 9, 3) := by decide +kernel
theorem dX2_put_23 : decode cX2_put 23 = .ok (.iload_n 3, 1) := by decide +kernel
theorem dX2_put_24 : decode cX2_put 24 = .ok (.bipush 61, 2) := by decide +kernel
theorem dX2_put_26 : decode cX2_put 26 = .ok (.if_icmp .lt 4, 3) := by decide +kernel
theorem dX2_put_29 : decode cX2_put 29 = .ok (.return_, 1) := by decide +kernel
theorem dX2_put_30 : decode cX2_put 30 = .ok (.aload_n 0, 1) := by decide +kernel
theorem dX2_put_31 : decode cX2_put 31 = .ok (.getfield 17, 3) := by decide +kernel
theorem dX2_put_34 : decode cX2_put 34 = .ok (.iload_n 1, 1) := by decide +kernel
theorem dX2_put_35 : decode cX2_put 35 = .ok (.aaload, 1) := by decide +kernel
theorem dX2_put_36 : decode cX2_put 36 = .ok (.iload_n 2, 1) := by decide +kernel
theorem dX2_put_37 : decode cX2_put 37 = .ok (.bipush 61, 2) := by decide +kernel
theorem dX2_put_39 : decode cX2_put 39 = .ok (.imul, 1) := by decide +kernel
theorem dX2_put_40 : decode cX2_put 40 = .ok (.iload_n 3, 1) := by decide +kernel
theorem dX2_put_41 : decode cX2_put 41 = .ok (.iadd, 1) := by decide +kernel
theorem dX2_put_42 : decode cX2_put 42 = .ok (.lload 4, 2) := by decide +kernel
theorem dX2_put_44 : decode cX2_put 44 = .ok (.lastore, 1) := by decide +kernel
theorem dX2_put_45 : decode cX2_put 45 = .ok (.return_, 1) := by decide +kernel
theorem dX2_fewest_0 : decode cX2_fewest 0 = .ok (.iload_n 1, 1) := by decide +kernel
theorem dX2_fewest_1 : decode cX2_fewest 1 = .ok (.ifCond .lt 30, 3) := by decide +kernel
theorem dX2_fewest_4 : decode cX2_fewest 4 = .ok (.iload_n 1, 1) := by decide +kernel
theorem dX2_fewest_5 : decode cX2_fewest 5 = .ok (.iconst 5, 1) := by decide +kernel
theorem dX2_fewest_6 : decode cX2_fewest 6 = .ok (.if_icmp .ge 25, 3) := by decide +kernel
theorem dX2_fewest_9 : decode cX2_fewest 9 = .ok (.iconst 0, 1) := by decide +kernel
theorem dX2_fewest_10 : decode cX2_fewest 10 = .ok (.aload_n 0, 1) := by decide +kernel
theorem dX2_fewest_11 : decode cX2_fewest 11 = .ok (.getfield 24, 3) := by decide +kernel
theorem dX2_fewest_14 : decode cX2_fewest 14 = .ok (.iload_n 2, 1) := by decide +kernel
theorem dX2_fewest_15 : decode cX2_fewest 15 = .ok (.isub, 1) := by decide +kernel
theorem dX2_fewest_16 : decode cX2_fewest 16 = .ok (.aload_n 0, 1) := by decide +kernel
theorem dX2_fewest_17 : decode cX2_fewest 17 = .ok (.getfield 20, 3) := by decide +kernel
theorem dX2_fewest_20 : decode cX2_fewest 20 = .ok (.iload_n 1, 1) := by decide +kernel
theorem dX2_fewest_21 : decode cX2_fewest 21 = .ok (.iconst 1, 1) := by decide +kernel
theorem dX2_fewest_22 : decode cX2_fewest 22 = .ok (.iadd, 1) := by decide +kernel
theorem dX2_fewest_23 : decode cX2_fewest 23 = .ok (.iaload, 1) := by decide +kernel
theorem dX2_fewest_24 : decode cX2_fewest 24 = .ok (.isub, 1) := by decide +kernel
theorem dX2_fewest_25 : decode cX2_fewest 25 = .ok (.invokestatic 35, 3) := by decide +kernel
theorem dX2_fewest_28 : decode cX2_fewest 28 = .ok (.goto 4, 3) := by decide +kernel
theorem dX2_fewest_31 : decode cX2_fewest 31 = .ok (.iconst 0, 1) := by decide +kernel
theorem dX2_fewest_32 : decode cX2_fewest 32 = .ok (.ireturn, 1) := by decide +kernel
set_option maxRecDepth 20000 in
theorem ggX2_most_X0_totalOf : GoodIn wsX2_most wsX0_totalOf := goodIn_r _ [11, 12, 13, 19, 20, 21, 22, 23, 24, 25] (by decide +kernel) (by decide +kernel)
set_option maxRecDepth 20000 in
theorem gX2_most_X0_totalOf : GoodIn wsX2_most (wsV RX2 41 RX0 yX0_totalOf wsX0_totalOf) := goodIn_app (goodIn_of _ (by decide +kernel)) ggX2_most_X0_totalOf
theorem dX2_most_0 : decode cX2_most 0 = .ok (.aload_n 0, 1) := by decide +kernel
theorem dX2_most_1 : decode cX2_most 1 = .ok (.getfield 9, 3) := by decide +kernel
theorem dX2_most_4 : decode cX2_most 4 = .ok (.iload_n 1, 1) := by decide +kernel
theorem dX2_most_5 : decode cX2_most 5 = .ok (.invokevirtual 41, 3) := by decide +kernel
theorem dX2_most_8 : decode cX2_most 8 = .ok (.aload_n 0, 1) := by decide +kernel
theorem dX2_most_9 : decode cX2_most 9 = .ok (.getfield 24, 3) := by decide +kernel
theorem dX2_most_12 : decode cX2_most 12 = .ok (.iload_n 2, 1) := by decide +kernel
theorem dX2_most_13 : decode cX2_most 13 = .ok (.isub, 1) := by decide +kernel
theorem dX2_most_14 : decode cX2_most 14 = .ok (.invokestatic 47, 3) := by decide +kernel
theorem dX2_most_17 : decode cX2_most 17 = .ok (.ireturn, 1) := by decide +kernel
set_option maxRecDepth 20000 in
theorem ggX2_refresh_X0_version : GoodIn wsX2_refresh wsX0_version := goodIn_r _ [10, 11, 113, 114, 115, 116, 117, 118, 119] (by decide +kernel) (by decide +kernel)
set_option maxRecDepth 20000 in
theorem gX2_refresh_X0_version : GoodIn wsX2_refresh (wsV RX2 50 RX0 yX0_version wsX0_version) := goodIn_app (goodIn_of _ (by decide +kernel)) ggX2_refresh_X0_version
set_option maxRecDepth 20000 in
theorem ggX2_refresh_X0_allAbove : GoodIn wsX2_refresh wsX0_allAbove := goodIn_r _ [15, 16, 17, 18, 19, 9, 20, 21, 113, 114, 115, 116, 117, 118, 119] (by decide +kernel) (by decide +kernel)
set_option maxRecDepth 20000 in
theorem gX2_refresh_X0_allAbove : GoodIn wsX2_refresh (wsV RX2 53 RX0 yX0_allAbove wsX0_allAbove) := goodIn_app (goodIn_of _ (by decide +kernel)) ggX2_refresh_X0_allAbove
set_option maxRecDepth 20000 in
theorem ggX2_refresh_J7_fill_d0a16 : GoodIn wsX2_refresh wsJ7_fill_d0a16 := goodIn_r _ [25] (by decide +kernel) (by decide +kernel)
set_option maxRecDepth 20000 in
theorem gX2_refresh_J7_fill_d0a16 : GoodIn wsX2_refresh (va_wsS RX2 55 yJ7_fill_d0a16 wsJ7_fill_d0a16) := goodIn_app (goodIn_of _ (by decide +kernel)) ggX2_refresh_J7_fill_d0a16
set_option maxRecDepth 20000 in
theorem ggX2_refresh_J7_fill_53178 : GoodIn wsX2_refresh wsJ7_fill_53178 := goodIn_r _ [28] (by decide +kernel) (by decide +kernel)
set_option maxRecDepth 20000 in
theorem gX2_refresh_J7_fill_53178 : GoodIn wsX2_refresh (va_wsS RX2 61 yJ7_fill_53178 wsJ7_fill_53178) := goodIn_app (goodIn_of _ (by decide +kernel)) ggX2_refresh_J7_fill_53178
set_option maxRecDepth 20000 in
theorem ggX2_refresh_X0_totalOf : GoodIn wsX2_refresh wsX0_totalOf := goodIn_r _ [32, 16, 33, 113, 114, 115, 116, 117, 118, 119] (by decide +kernel) (by decide +kernel)
set_option maxRecDepth 20000 in
theorem gX2_refresh_X0_totalOf : GoodIn wsX2_refresh (wsV RX2 41 RX0 yX0_totalOf wsX0_totalOf) := goodIn_app (goodIn_of _ (by decide +kernel)) ggX2_refresh_X0_totalOf
set_option maxRecDepth 20000 in
theorem ggX2_refresh_X2_countBehind : GoodIn wsX2_refresh wsX2_countBehind := goodIn_r _ [38, 2, 3, 5, 39, 40, 41, 9, 42, 16, 43, 44, 45, 37, 46, 4, 47, 48, 49, 50, 51, 52, 53, 54, 55, 56, 57, 58, 59, 60, 61, 29, 30, 31, 32, 33, 62, 63, 64, 65, 66, 67, 68, 69, 70, 71, 72, 73, 74, 75, 76, 77, 78, 79, 80, 81, 82, 83, 84, 85, 86, 87, 88, 89, 90, 91, 92, 93, 94, 95, 108, 109, 110, 111, 112, 113, 114, 115, 116, 117, 118, 119] (by decide +kernel) (by decide +kernel)
set_option maxRecDepth 20000 in
theorem gX2_refresh_X2_countBehind : GoodIn wsX2_refresh (wsV RX2 64 RX2 yX2_countBehind wsX2_countBehind) := goodIn_app (goodIn_of _ (by decide +kernel)) ggX2_refresh_X2_countBehind
set_option maxRecDepth 20000 in
theorem ggX2_refresh_X2_countAhead : GoodIn wsX2_refresh wsX2_countAhead := goodIn_r _ [99, 2, 3, 43, 44, 45, 37, 46, 4, 39, 40, 41, 9, 42, 16, 100, 101, 102, 103, 78, 79, 80, 81, 104, 105, 106, 107, 29, 30, 31, 32, 33, 73, 74, 75, 76, 77, 108, 109, 110, 111, 112, 113, 114, 115, 116, 117, 118, 119] (by decide +kernel) (by decide +kernel)
set_option maxRecDepth 20000 in
theorem gX2_refresh_X2_countAhead : GoodIn wsX2_refresh (wsV RX2 67 RX2 yX2_countAhead wsX2_countAhead) := goodIn_app (goodIn_of _ (by decide +kernel)) ggX2_refresh_X2_countAhead
theorem dX2_refresh_0 : decode cX2_refresh 0 = .ok (.aload_n 0, 1) := by decide +kernel
theorem dX2_refresh_1 : decode cX2_refresh 1 = .ok (.getfield 28, 3) := by decide +kernel
theorem dX2_refresh_4 : decode cX2_refresh 4 = .ok (.aload_n 0, 1) := by decide +kernel
theorem dX2_refresh_5 : decode cX2_refresh 5 = .ok (.getfield 9, 3) := by decide +kernel
theorem dX2_refresh_8 : decode cX2_refresh 8 = .ok (.invokevirtual 50, 3) := by decide +kernel
theorem dX2_refresh_11 : decode cX2_refresh 11 = .ok (.if_icmp .ne 4, 3) := by decide +kernel
theorem dX2_refresh_14 : decode cX2_refresh 14 = .ok (.return_, 1) := by decide +kernel
theorem dX2_refresh_15 : decode cX2_refresh 15 = .ok (.aload_n 0, 1) := by decide +kernel
theorem dX2_refresh_16 : decode cX2_refresh 16 = .ok (.aload_n 0, 1) := by decide +kernel
theorem dX2_refresh_17 : decode cX2_refresh 17 = .ok (.getfield 9, 3) := by decide +kernel
theorem dX2_refresh_20 : decode cX2_refresh 20 = .ok (.invokevirtual 50, 3) := by decide +kernel
theorem dX2_refresh_23 : decode cX2_refresh 23 = .ok (.putfield 28, 3) := by decide +kernel
theorem dX2_refresh_26 : decode cX2_refresh 26 = .ok (.aload_n 0, 1) := by decide +kernel
theorem dX2_refresh_27 : decode cX2_refresh 27 = .ok (.aload_n 0, 1) := by decide +kernel
theorem dX2_refresh_28 : decode cX2_refresh 28 = .ok (.getfield 9, 3) := by decide +kernel
theorem dX2_refresh_31 : decode cX2_refresh 31 = .ok (.invokevirtual 53, 3) := by decide +kernel
theorem dX2_refresh_34 : decode cX2_refresh 34 = .ok (.putfield 24, 3) := by decide +kernel
theorem dX2_refresh_37 : decode cX2_refresh 37 = .ok (.iconst 0, 1) := by decide +kernel
theorem dX2_refresh_38 : decode cX2_refresh 38 = .ok (.istore_n 1, 1) := by decide +kernel
theorem dX2_refresh_39 : decode cX2_refresh 39 = .ok (.iload_n 1, 1) := by decide +kernel
theorem dX2_refresh_40 : decode cX2_refresh 40 = .ok (.bipush 8, 2) := by decide +kernel
theorem dX2_refresh_42 : decode cX2_refresh 42 = .ok (.if_icmp .ge 19, 3) := by decide +kernel
theorem dX2_refresh_45 : decode cX2_refresh 45 = .ok (.aload_n 0, 1) := by decide +kernel
theorem dX2_refresh_46 : decode cX2_refresh 46 = .ok (.getfield 17, 3) := by decide +kernel
theorem dX2_refresh_49 : decode cX2_refresh 49 = .ok (.iload_n 1, 1) := by decide +kernel
theorem dX2_refresh_50 : decode cX2_refresh 50 = .ok (.aaload, 1) := by decide +kernel
theorem dX2_refresh_51 : decode cX2_refresh 51 = .ok (.lconst 0, 1) := by decide +kernel
theorem dX2_refresh_52 : decode cX2_refresh 52 = .ok (.invokestatic 55, 3) := by decide +kernel
theorem dX2_refresh_55 : decode cX2_refresh 55 = .ok (.iinc 1 1, 3) := by decide +kernel
theorem dX2_refresh_58 : decode cX2_refresh 58 = .ok (.goto (-19), 3) := by decide +kernel
theorem dX2_refresh_61 : decode cX2_refresh 61 = .ok (.aload_n 0, 1) := by decide +kernel
theorem dX2_refresh_62 : decode cX2_refresh 62 = .ok (.getfield 20, 3) := by decide +kernel
theorem dX2_refresh_65 : decode cX2_refresh 65 = .ok (.iconst 0, 1) := by decide +kernel
theorem dX2_refresh_66 : decode cX2_refresh 66 = .ok (.invokestatic 61, 3) := by decide +kernel
theorem dX2_refresh_69 : decode cX2_refresh 69 = .ok (.iconst 4, 1) := by decide +kernel
theorem dX2_refresh_70 : decode cX2_refresh 70 = .ok (.istore_n 1, 1) := by decide +kernel
theorem dX2_refresh_71 : decode cX2_refresh 71 = .ok (.iload_n 1, 1) := by decide +kernel
theorem dX2_refresh_72 : decode cX2_refresh 72 = .ok (.ifCond .lt 32, 3) := by decide +kernel
theorem dX2_refresh_75 : decode cX2_refresh 75 = .ok (.aload_n 0, 1) := by decide +kernel
theorem dX2_refresh_76 : decode cX2_refresh 76 = .ok (.getfield 20, 3) := by decide +kernel
theorem dX2_refresh_79 : decode cX2_refresh 79 = .ok (.iload_n 1, 1) := by decide +kernel
theorem dX2_refresh_80 : decode cX2_refresh 80 = .ok (.aload_n 0, 1) := by decide +kernel
theorem dX2_refresh_81 : decode cX2_refresh 81 = .ok (.getfield 20, 3) := by decide +kernel
theorem dX2_refresh_84 : decode cX2_refresh 84 = .ok (.iload_n 1, 1) := by decide +kernel
theorem dX2_refresh_85 : decode cX2_refresh 85 = .ok (.iconst 1, 1) := by decide +kernel
theorem dX2_refresh_86 : decode cX2_refresh 86 = .ok (.iadd, 1) := by decide +kernel
theorem dX2_refresh_87 : decode cX2_refresh 87 = .ok (.iaload, 1) := by decide +kernel
theorem dX2_refresh_88 : decode cX2_refresh 88 = .ok (.aload_n 0, 1) := by decide +kernel
theorem dX2_refresh_89 : decode cX2_refresh 89 = .ok (.getfield 9, 3) := by decide +kernel
theorem dX2_refresh_92 : decode cX2_refresh 92 = .ok (.iload_n 1, 1) := by decide +kernel
theorem dX2_refresh_93 : decode cX2_refresh 93 = .ok (.invokevirtual 41, 3) := by decide +kernel
theorem dX2_refresh_96 : decode cX2_refresh 96 = .ok (.iadd, 1) := by decide +kernel
theorem dX2_refresh_97 : decode cX2_refresh 97 = .ok (.iastore, 1) := by decide +kernel
theorem dX2_refresh_98 : decode cX2_refresh 98 = .ok (.iinc 1 (-1), 3) := by decide +kernel
theorem dX2_refresh_101 : decode cX2_refresh 101 = .ok (.goto (-30), 3) := by decide +kernel
theorem dX2_refresh_104 : decode cX2_refresh 104 = .ok (.aload_n 0, 1) := by decide +kernel
theorem dX2_refresh_105 : decode cX2_refresh 105 = .ok (.invokevirtual 64, 3) := by decide +kernel
theorem dX2_refresh_108 : decode cX2_refresh 108 = .ok (.aload_n 0, 1) := by decide +kernel
theorem dX2_refresh_109 : decode cX2_refresh 109 = .ok (.invokevirtual 67, 3) := by decide +kernel
theorem dX2_refresh_112 : decode cX2_refresh 112 = .ok (.return_, 1) := by decide +kernel
set_option maxRecDepth 20000 in
theorem ggX2_countBehind_X0_size : GoodIn wsX2_countBehind wsX0_size := goodIn_r _ [8, 9, 75, 76, 77, 78, 79, 80, 81] (by decide +kernel) (by decide +kernel)
set_option maxRecDepth 20000 in
theorem gX2_countBehind_X0_size : GoodIn wsX2_countBehind (wsV RX2 70 RX0 yX0_size wsX0_size) := goodIn_app (goodIn_of _ (by decide +kernel)) ggX2_countBehind_X0_size
set_option maxRecDepth 20000 in
theorem ggX2_countBehind_X2_put : GoodIn wsX2_countBehind wsX2_put := goodIn_r _ [14, 15, 70, 71, 72, 73, 74] (by decide +kernel) (by decide +kernel)
set_option maxRecDepth 20000 in
theorem gX2_countBehind_X2_put : GoodIn wsX2_countBehind (wsV RX2 73 RX2 yX2_put wsX2_put) := goodIn_app (goodIn_of _ (by decide +kernel)) ggX2_countBehind_X2_put
set_option maxRecDepth 20000 in
theorem ggX2_countBehind_X2_fewest : GoodIn wsX2_countBehind wsX2_fewest := goodIn_r _ [19, 2, 3, 20, 21, 22, 23, 70, 71, 72, 73, 74] (by decide +kernel) (by decide +kernel)
set_option maxRecDepth 20000 in
theorem gX2_countBehind_X2_fewest : GoodIn wsX2_countBehind (wsV RX2 77 RX2 yX2_fewest wsX2_fewest) := goodIn_app (goodIn_of _ (by decide +kernel)) ggX2_countBehind_X2_fewest
set_option maxRecDepth 20000 in
theorem ggX2_countBehind_X2_most : GoodIn wsX2_countBehind wsX2_most := goodIn_r _ [27, 1, 2, 28, 29, 22, 30, 31, 32, 33, 7, 34, 9, 35, 70, 71, 72, 73, 74, 75, 76, 77, 78, 79, 80, 81] (by decide +kernel) (by decide +kernel)
set_option maxRecDepth 20000 in
theorem gX2_countBehind_X2_most : GoodIn wsX2_countBehind (wsV RX2 80 RX2 yX2_most wsX2_most) := goodIn_app (goodIn_of _ (by decide +kernel)) ggX2_countBehind_X2_most
set_option maxRecDepth 20000 in
theorem ggX2_countBehind_X2_weighBehind : GoodIn wsX2_countBehind wsX2_weighBehind := goodIn_r _ [39, 40, 1, 41, 42, 22, 43, 44, 45, 46, 24, 25, 26, 13, 27, 2, 28, 29, 30, 31, 32, 33, 7, 34, 9, 35, 16, 17, 18, 19, 3, 20, 21, 23, 47, 48, 49, 50, 51, 52, 53, 54, 55, 15, 10, 11, 12, 14, 70, 71, 72, 73, 74, 75, 76, 77, 78, 79, 80, 81] (by decide +kernel) (by decide +kernel)
set_option maxRecDepth 20000 in
theorem gX2_countBehind_X2_weighBehind : GoodIn wsX2_countBehind (wsV RX2 83 RX2 yX2_weighBehind wsX2_weighBehind) := goodIn_app (goodIn_of _ (by decide +kernel)) ggX2_countBehind_X2_weighBehind
set_option maxRecDepth 20000 in
theorem ggX2_countBehind_X2_countWalksBehind : GoodIn wsX2_countBehind wsX2_countWalksBehind := goodIn_r _ [59, 24, 25, 26, 13, 27, 1, 2, 28, 29, 22, 30, 31, 32, 33, 7, 34, 9, 35, 16, 17, 18, 19, 3, 20, 21, 23, 52, 53, 54, 55, 15, 10, 11, 12, 14, 70, 71, 72, 73, 74, 75, 76, 77, 78, 79, 80, 81] (by decide +kernel) (by decide +kernel)
set_option maxRecDepth 20000 in
theorem gX2_countBehind_X2_countWalksBehind : GoodIn wsX2_countBehind (wsV RX2 87 RX2 yX2_countWalksBehind wsX2_countWalksBehind) := goodIn_app (goodIn_of _ (by decide +kernel)) ggX2_countBehind_X2_countWalksBehind
set_option maxRecDepth 20000 in
theorem ggX2_countBehind_X2_sumBehind : GoodIn wsX2_countBehind wsX2_sumBehind := goodIn_r _ [63, 64, 1, 44, 45, 22, 46, 41, 42, 43, 24, 25, 26, 13, 27, 2, 28, 29, 30, 31, 32, 33, 7, 34, 9, 35, 16, 17, 18, 19, 3, 20, 21, 23, 65, 66, 67, 68, 69, 52, 53, 54, 55, 15, 10, 11, 12, 14, 70, 71, 72, 73, 74, 75, 76, 77, 78, 79, 80, 81] (by decide +kernel) (by decide +kernel)
set_option maxRecDepth 20000 in
theorem gX2_countBehind_X2_sumBehind : GoodIn wsX2_countBehind (wsV RX2 90 RX2 yX2_sumBehind wsX2_sumBehind) := goodIn_app (goodIn_of _ (by decide +kernel)) ggX2_countBehind_X2_sumBehind
theorem dX2_countBehind_0 : decode cX2_countBehind 0 = .ok (.aload_n 0, 1) := by decide +kernel
theorem dX2_countBehind_1 : decode cX2_countBehind 1 = .ok (.getfield 9, 3) := by decide +kernel
theorem dX2_countBehind_4 : decode cX2_countBehind 4 = .ok (.invokevirtual 70, 3) := by decide +kernel
theorem dX2_countBehind_7 : decode cX2_countBehind 7 = .ok (.istore_n 1, 1) := by decide +kernel
theorem dX2_countBehind_8 : decode cX2_countBehind 8 = .ok (.aload_n 0, 1) := by decide +kernel
theorem dX2_countBehind_9 : decode cX2_countBehind 9 = .ok (.iconst 1, 1) := by decide +kernel
theorem dX2_countBehind_10 : decode cX2_countBehind 10 = .ok (.iload_n 1, 1) := by decide +kernel
theorem dX2_countBehind_11 : decode cX2_countBehind 11 = .ok (.aload_n 0, 1) := by decide +kernel
theorem dX2_countBehind_12 : decode cX2_countBehind 12 = .ok (.getfield 24, 3) := by decide +kernel
theorem dX2_countBehind_15 : decode cX2_countBehind 15 = .ok (.lconst 1, 1) := by decide +kernel
theorem dX2_countBehind_16 : decode cX2_countBehind 16 = .ok (.invokevirtual 73, 3) := by decide +kernel
theorem dX2_countBehind_19 : decode cX2_countBehind 19 = .ok (.aload_n 0, 1) := by decide +kernel
theorem dX2_countBehind_20 : decode cX2_countBehind 20 = .ok (.iconst 2, 1) := by decide +kernel
theorem dX2_countBehind_21 : decode cX2_countBehind 21 = .ok (.iload_n 1, 1) := by decide +kernel
theorem dX2_countBehind_22 : decode cX2_countBehind 22 = .ok (.aload_n 0, 1) := by decide +kernel
theorem dX2_countBehind_23 : decode cX2_countBehind 23 = .ok (.getfield 24, 3) := by decide +kernel
theorem dX2_countBehind_26 : decode cX2_countBehind 26 = .ok (.lconst 1, 1) := by decide +kernel
theorem dX2_countBehind_27 : decode cX2_countBehind 27 = .ok (.invokevirtual 73, 3) := by decide +kernel
theorem dX2_countBehind_30 : decode cX2_countBehind 30 = .ok (.aload_n 0, 1) := by decide +kernel
theorem dX2_countBehind_31 : decode cX2_countBehind 31 = .ok (.iconst 3, 1) := by decide +kernel
theorem dX2_countBehind_32 : decode cX2_countBehind 32 = .ok (.iload_n 1, 1) := by decide +kernel
theorem dX2_countBehind_33 : decode cX2_countBehind 33 = .ok (.aload_n 0, 1) := by decide +kernel
theorem dX2_countBehind_34 : decode cX2_countBehind 34 = .ok (.getfield 24, 3) := by decide +kernel
theorem dX2_countBehind_37 : decode cX2_countBehind 37 = .ok (.lconst 1, 1) := by decide +kernel
theorem dX2_countBehind_38 : decode cX2_countBehind 38 = .ok (.invokevirtual 73, 3) := by decide +kernel
theorem dX2_countBehind_41 : decode cX2_countBehind 41 = .ok (.aload_n 0, 1) := by decide +kernel
theorem dX2_countBehind_42 : decode cX2_countBehind 42 = .ok (.iconst 4, 1) := by decide +kernel
theorem dX2_countBehind_43 : decode cX2_countBehind 43 = .ok (.iload_n 1, 1) := by decide +kernel
theorem dX2_countBehind_44 : decode cX2_countBehind 44 = .ok (.aload_n 0, 1) := by decide +kernel
theorem dX2_countBehind_45 : decode cX2_countBehind 45 = .ok (.getfield 24, 3) := by decide +kernel
theorem dX2_countBehind_48 : decode cX2_countBehind 48 = .ok (.lconst 1, 1) := by decide +kernel
theorem dX2_countBehind_49 : decode cX2_countBehind 49 = .ok (.invokevirtual 73, 3) := by decide +kernel
theorem dX2_countBehind_52 : decode cX2_countBehind 52 = .ok (.iload_n 1, 1) := by decide +kernel
theorem dX2_countBehind_53 : decode cX2_countBehind 53 = .ok (.iconst 1, 1) := by decide +kernel
theorem dX2_countBehind_54 : decode cX2_countBehind 54 = .ok (.isub, 1) := by decide +kernel
theorem dX2_countBehind_55 : decode cX2_countBehind 55 = .ok (.istore_n 2, 1) := by decide +kernel
theorem dX2_countBehind_56 : decode cX2_countBehind 56 = .ok (.iload_n 2, 1) := by decide +kernel
theorem dX2_countBehind_57 : decode cX2_countBehind 57 = .ok (.ifCond .lt 90, 3) := by decide +kernel
theorem dX2_countBehind_60 : decode cX2_countBehind 60 = .ok (.iload_n 2, 1) := by decide +kernel
theorem dX2_countBehind_61 : decode cX2_countBehind 61 = .ok (.iconst 5, 1) := by decide +kernel
theorem dX2_countBehind_62 : decode cX2_countBehind 62 = .ok (.if_icmp .gt 85, 3) := by decide +kernel
theorem dX2_countBehind_65 : decode cX2_countBehind 65 = .ok (.aload_n 0, 1) := by decide +kernel
theorem dX2_countBehind_66 : decode cX2_countBehind 66 = .ok (.getfield 20, 3) := by decide +kernel
theorem dX2_countBehind_69 : decode cX2_countBehind 69 = .ok (.iconst 0, 1) := by decide +kernel
theorem dX2_countBehind_70 : decode cX2_countBehind 70 = .ok (.iaload, 1) := by decide +kernel
theorem dX2_countBehind_71 : decode cX2_countBehind 71 = .ok (.aload_n 0, 1) := by decide +kernel
theorem dX2_countBehind_72 : decode cX2_countBehind 72 = .ok (.getfield 20, 3) := by decide +kernel
theorem dX2_countBehind_75 : decode cX2_countBehind 75 = .ok (.iload_n 2, 1) := by decide +kernel
theorem dX2_countBehind_76 : decode cX2_countBehind 76 = .ok (.iaload, 1) := by decide +kernel
theorem dX2_countBehind_77 : decode cX2_countBehind 77 = .ok (.isub, 1) := by decide +kernel
theorem dX2_countBehind_78 : decode cX2_countBehind 78 = .ok (.istore_n 3, 1) := by decide +kernel
theorem dX2_countBehind_79 : decode cX2_countBehind 79 = .ok (.iconst 0, 1) := by decide +kernel
theorem dX2_countBehind_80 : decode cX2_countBehind 80 = .ok (.istore 4, 2) := by decide +kernel
theorem dX2_countBehind_82 : decode cX2_countBehind 82 = .ok (.iload 4, 2) := by decide +kernel
theorem dX2_countBehind_84 : decode cX2_countBehind 84 = .ok (.iload_n 3, 1) := by decide +kernel
theorem dX2_countBehind_85 : decode cX2_countBehind 85 = .ok (.if_icmp .gt 56, 3) := by decide +kernel
theorem dX2_countBehind_88 : decode cX2_countBehind 88 = .ok (.iload 4, 2) := by decide +kernel
theorem dX2_countBehind_90 : decode cX2_countBehind 90 = .ok (.aload_n 0, 1) := by decide +kernel
theorem dX2_countBehind_91 : decode cX2_countBehind 91 = .ok (.getfield 24, 3) := by decide +kernel
theorem dX2_countBehind_94 : decode cX2_countBehind 94 = .ok (.if_icmp .gt 47, 3) := by decide +kernel
theorem dX2_countBehind_97 : decode cX2_countBehind 97 = .ok (.aload_n 0, 1) := by decide +kernel
theorem dX2_countBehind_98 : decode cX2_countBehind 98 = .ok (.iload_n 2, 1) := by decide +kernel
theorem dX2_countBehind_99 : decode cX2_countBehind 99 = .ok (.iload 4, 2) := by decide +kernel
theorem dX2_countBehind_101 : decode cX2_countBehind 101 = .ok (.invokevirtual 77, 3) := by decide +kernel
theorem dX2_countBehind_104 : decode cX2_countBehind 104 = .ok (.aload_n 0, 1) := by decide +kernel
theorem dX2_countBehind_105 : decode cX2_countBehind 105 = .ok (.iload_n 2, 1) := by decide +kernel
theorem dX2_countBehind_106 : decode cX2_countBehind 106 = .ok (.iload 4, 2) := by decide +kernel
theorem dX2_countBehind_108 : decode cX2_countBehind 108 = .ok (.invokevirtual 80, 3) := by decide +kernel
theorem dX2_countBehind_111 : decode cX2_countBehind 111 = .ok (.if_icmp .gt 24, 3) := by decide +kernel
theorem dX2_countBehind_114 : decode cX2_countBehind 114 = .ok (.aload_n 0, 1) := by decide +kernel
theorem dX2_countBehind_115 : decode cX2_countBehind 115 = .ok (.iload_n 2, 1) := by decide +kernel
theorem dX2_countBehind_116 : decode cX2_countBehind 116 = .ok (.iload 4, 2) := by decide +kernel
theorem dX2_countBehind_118 : decode cX2_countBehind 118 = .ok (.invokevirtual 83, 3) := by decide +kernel
theorem dX2_countBehind_121 : decode cX2_countBehind 121 = .ok (.aload_n 0, 1) := by decide +kernel
theorem dX2_countBehind_122 : decode cX2_countBehind 122 = .ok (.iload_n 2, 1) := by decide +kernel
theorem dX2_countBehind_123 : decode cX2_countBehind 123 = .ok (.iload 4, 2) := by decide +kernel
theorem dX2_countBehind_125 : decode cX2_countBehind 125 = .ok (.invokevirtual 87, 3) := by decide +kernel
theorem dX2_countBehind_128 : decode cX2_countBehind 128 = .ok (.aload_n 0, 1) := by decide +kernel
theorem dX2_countBehind_129 : decode cX2_countBehind 129 = .ok (.iload_n 2, 1) := by decide +kernel
theorem dX2_countBehind_130 : decode cX2_countBehind 130 = .ok (.iload 4, 2) := by decide +kernel
theorem dX2_countBehind_132 : decode cX2_countBehind 132 = .ok (.invokevirtual 90, 3) := by decide +kernel
theorem dX2_countBehind_135 : decode cX2_countBehind 135 = .ok (.iinc 4 1, 3) := by decide +kernel
theorem dX2_countBehind_138 : decode cX2_countBehind 138 = .ok (.goto (-56), 3) := by decide +kernel
theorem dX2_countBehind_141 : decode cX2_countBehind 141 = .ok (.iinc 2 (-1), 3) := by decide +kernel
theorem dX2_countBehind_144 : decode cX2_countBehind 144 = .ok (.goto (-88), 3) := by decide +kernel
theorem dX2_countBehind_147 : decode cX2_countBehind 147 = .ok (.return_, 1) := by decide +kernel
set_option maxRecDepth 20000 in
theorem ggX2_weighBehind_X2_most : GoodIn wsX2_weighBehind wsX2_most := goodIn_r _ [14, 2, 15, 16, 17, 5, 18, 19, 20, 21, 22, 23, 24, 25, 48, 49, 50, 51, 52, 53, 54, 55, 56, 57, 58, 59] (by decide +kernel) (by decide +kernel)
set_option maxRecDepth 20000 in
theorem gX2_weighBehind_X2_most : GoodIn wsX2_weighBehind (wsV RX2 80 RX2 yX2_most wsX2_most) := goodIn_app (goodIn_of _ (by decide +kernel)) ggX2_weighBehind_X2_most
set_option maxRecDepth 20000 in
theorem ggX2_weighBehind_X2_fewest : GoodIn wsX2_weighBehind wsX2_fewest := goodIn_r _ [29, 15, 30, 31, 32, 5, 33, 48, 49, 50, 51, 52] (by decide +kernel) (by decide +kernel)
set_option maxRecDepth 20000 in
theorem gX2_weighBehind_X2_fewest : GoodIn wsX2_weighBehind (wsV RX2 77 RX2 yX2_fewest wsX2_fewest) := goodIn_app (goodIn_of _ (by decide +kernel)) ggX2_weighBehind_X2_fewest
set_option maxRecDepth 20000 in
theorem ggX2_weighBehind_X0_waysOf : GoodIn wsX2_weighBehind wsX0_waysOf := goodIn_r _ [37, 24, 38, 53, 54, 55, 56, 57, 58, 59] (by decide +kernel) (by decide +kernel)
set_option maxRecDepth 20000 in
theorem gX2_weighBehind_X0_waysOf : GoodIn wsX2_weighBehind (wsV RX2 95 RX0 yX0_waysOf wsX0_waysOf) := goodIn_app (goodIn_of _ (by decide +kernel)) ggX2_weighBehind_X0_waysOf
set_option maxRecDepth 20000 in
theorem ggX2_weighBehind_X2_at : GoodIn wsX2_weighBehind wsX2_at := goodIn_r _ [42, 43, 48, 49, 50, 51, 52] (by decide +kernel) (by decide +kernel)
set_option maxRecDepth 20000 in
theorem gX2_weighBehind_X2_at : GoodIn wsX2_weighBehind (wsV RX2 31 RX2 yX2_at wsX2_at) := goodIn_app (goodIn_of _ (by decide +kernel)) ggX2_weighBehind_X2_at
set_option maxRecDepth 20000 in
theorem ggX2_weighBehind_X2_put : GoodIn wsX2_weighBehind wsX2_put := goodIn_r _ [47, 43, 48, 49, 50, 51, 52] (by decide +kernel) (by decide +kernel)
set_option maxRecDepth 20000 in
theorem gX2_weighBehind_X2_put : GoodIn wsX2_weighBehind (wsV RX2 73 RX2 yX2_put wsX2_put) := goodIn_app (goodIn_of _ (by decide +kernel)) ggX2_weighBehind_X2_put
theorem dX2_weighBehind_0 : decode cX2_weighBehind 0 = .ok (.lconst 0, 1) := by decide +kernel
theorem dX2_weighBehind_1 : decode cX2_weighBehind 1 = .ok (.lstore_n 3, 1) := by decide +kernel
theorem dX2_weighBehind_2 : decode cX2_weighBehind 2 = .ok (.lconst 0, 1) := by decide +kernel
theorem dX2_weighBehind_3 : decode cX2_weighBehind 3 = .ok (.lstore 5, 2) := by decide +kernel
theorem dX2_weighBehind_5 : decode cX2_weighBehind 5 = .ok (.ldc2_w 93, 3) := by decide +kernel
theorem dX2_weighBehind_8 : decode cX2_weighBehind 8 = .ok (.lstore 7, 2) := by decide +kernel
theorem dX2_weighBehind_10 : decode cX2_weighBehind 10 = .ok (.aload_n 0, 1) := by decide +kernel
theorem dX2_weighBehind_11 : decode cX2_weighBehind 11 = .ok (.iload_n 1, 1) := by decide +kernel
theorem dX2_weighBehind_12 : decode cX2_weighBehind 12 = .ok (.iload_n 2, 1) := by decide +kernel
theorem dX2_weighBehind_13 : decode cX2_weighBehind 13 = .ok (.invokevirtual 80, 3) := by decide +kernel
theorem dX2_weighBehind_16 : decode cX2_weighBehind 16 = .ok (.istore 9, 2) := by decide +kernel
theorem dX2_weighBehind_18 : decode cX2_weighBehind 18 = .ok (.aload_n 0, 1) := by decide +kernel
theorem dX2_weighBehind_19 : decode cX2_weighBehind 19 = .ok (.iload_n 1, 1) := by decide +kernel
theorem dX2_weighBehind_20 : decode cX2_weighBehind 20 = .ok (.iload_n 2, 1) := by decide +kernel
theorem dX2_weighBehind_21 : decode cX2_weighBehind 21 = .ok (.invokevirtual 77, 3) := by decide +kernel
theorem dX2_weighBehind_24 : decode cX2_weighBehind 24 = .ok (.istore 10, 2) := by decide +kernel
theorem dX2_weighBehind_26 : decode cX2_weighBehind 26 = .ok (.iload 10, 2) := by decide +kernel
theorem dX2_weighBehind_28 : decode cX2_weighBehind 28 = .ok (.iload 9, 2) := by decide +kernel
theorem dX2_weighBehind_30 : decode cX2_weighBehind 30 = .ok (.if_icmp .gt 83, 3) := by decide +kernel
theorem dX2_weighBehind_33 : decode cX2_weighBehind 33 = .ok (.aload_n 0, 1) := by decide +kernel
theorem dX2_weighBehind_34 : decode cX2_weighBehind 34 = .ok (.getfield 9, 3) := by decide +kernel
theorem dX2_weighBehind_37 : decode cX2_weighBehind 37 = .ok (.iload_n 1, 1) := by decide +kernel
theorem dX2_weighBehind_38 : decode cX2_weighBehind 38 = .ok (.iload 10, 2) := by decide +kernel
theorem dX2_weighBehind_40 : decode cX2_weighBehind 40 = .ok (.invokevirtual 95, 3) := by decide +kernel
theorem dX2_weighBehind_43 : decode cX2_weighBehind 43 = .ok (.lstore 11, 2) := by decide +kernel
theorem dX2_weighBehind_45 : decode cX2_weighBehind 45 = .ok (.lload_n 3, 1) := by decide +kernel
theorem dX2_weighBehind_46 : decode cX2_weighBehind 46 = .ok (.lload 11, 2) := by decide +kernel
theorem dX2_weighBehind_48 : decode cX2_weighBehind 48 = .ok (.aload_n 0, 1) := by decide +kernel
theorem dX2_weighBehind_49 : decode cX2_weighBehind 49 = .ok (.iconst 1, 1) := by decide +kernel
theorem dX2_weighBehind_50 : decode cX2_weighBehind 50 = .ok (.iload_n 1, 1) := by decide +kernel
theorem dX2_weighBehind_51 : decode cX2_weighBehind 51 = .ok (.iconst 1, 1) := by decide +kernel
theorem dX2_weighBehind_52 : decode cX2_weighBehind 52 = .ok (.iadd, 1) := by decide +kernel
theorem dX2_weighBehind_53 : decode cX2_weighBehind 53 = .ok (.iload_n 2, 1) := by decide +kernel
theorem dX2_weighBehind_54 : decode cX2_weighBehind 54 = .ok (.iload 10, 2) := by decide +kernel
theorem dX2_weighBehind_56 : decode cX2_weighBehind 56 = .ok (.iadd, 1) := by decide +kernel
theorem dX2_weighBehind_57 : decode cX2_weighBehind 57 = .ok (.invokevirtual 31, 3) := by decide +kernel
theorem dX2_weighBehind_60 : decode cX2_weighBehind 60 = .ok (.lmul, 1) := by decide +kernel
theorem dX2_weighBehind_61 : decode cX2_weighBehind 61 = .ok (.ladd, 1) := by decide +kernel
theorem dX2_weighBehind_62 : decode cX2_weighBehind 62 = .ok (.lstore_n 3, 1) := by decide +kernel
theorem dX2_weighBehind_63 : decode cX2_weighBehind 63 = .ok (.lload 5, 2) := by decide +kernel
theorem dX2_weighBehind_65 : decode cX2_weighBehind 65 = .ok (.lload 11, 2) := by decide +kernel
theorem dX2_weighBehind_67 : decode cX2_weighBehind 67 = .ok (.aload_n 0, 1) := by decide +kernel
theorem dX2_weighBehind_68 : decode cX2_weighBehind 68 = .ok (.iconst 2, 1) := by decide +kernel
theorem dX2_weighBehind_69 : decode cX2_weighBehind 69 = .ok (.iload_n 1, 1) := by decide +kernel
theorem dX2_weighBehind_70 : decode cX2_weighBehind 70 = .ok (.iconst 1, 1) := by decide +kernel
theorem dX2_weighBehind_71 : decode cX2_weighBehind 71 = .ok (.iadd, 1) := by decide +kernel
theorem dX2_weighBehind_72 : decode cX2_weighBehind 72 = .ok (.iload_n 2, 1) := by decide +kernel
theorem dX2_weighBehind_73 : decode cX2_weighBehind 73 = .ok (.iload 10, 2) := by decide +kernel
theorem dX2_weighBehind_75 : decode cX2_weighBehind 75 = .ok (.iadd, 1) := by decide +kernel
theorem dX2_weighBehind_76 : decode cX2_weighBehind 76 = .ok (.invokevirtual 31, 3) := by decide +kernel
theorem dX2_weighBehind_79 : decode cX2_weighBehind 79 = .ok (.lmul, 1) := by decide +kernel
theorem dX2_weighBehind_80 : decode cX2_weighBehind 80 = .ok (.invokestatic 99, 3) := by decide +kernel
theorem dX2_weighBehind_83 : decode cX2_weighBehind 83 = .ok (.lstore 5, 2) := by decide +kernel
theorem dX2_weighBehind_85 : decode cX2_weighBehind 85 = .ok (.lload 7, 2) := by decide +kernel
theorem dX2_weighBehind_87 : decode cX2_weighBehind 87 = .ok (.lload 11, 2) := by decide +kernel
theorem dX2_weighBehind_89 : decode cX2_weighBehind 89 = .ok (.aload_n 0, 1) := by decide +kernel
theorem dX2_weighBehind_90 : decode cX2_weighBehind 90 = .ok (.iconst 3, 1) := by decide +kernel
theorem dX2_weighBehind_91 : decode cX2_weighBehind 91 = .ok (.iload_n 1, 1) := by decide +kernel
theorem dX2_weighBehind_92 : decode cX2_weighBehind 92 = .ok (.iconst 1, 1) := by decide +kernel
theorem dX2_weighBehind_93 : decode cX2_weighBehind 93 = .ok (.iadd, 1) := by decide +kernel
theorem dX2_weighBehind_94 : decode cX2_weighBehind 94 = .ok (.iload_n 2, 1) := by decide +kernel
theorem dX2_weighBehind_95 : decode cX2_weighBehind 95 = .ok (.iload 10, 2) := by decide +kernel
theorem dX2_weighBehind_97 : decode cX2_weighBehind 97 = .ok (.iadd, 1) := by decide +kernel
theorem dX2_weighBehind_98 : decode cX2_weighBehind 98 = .ok (.invokevirtual 31, 3) := by decide +kernel
theorem dX2_weighBehind_101 : decode cX2_weighBehind 101 = .ok (.lmul, 1) := by decide +kernel
theorem dX2_weighBehind_102 : decode cX2_weighBehind 102 = .ok (.invokestatic 102, 3) := by decide +kernel
theorem dX2_weighBehind_105 : decode cX2_weighBehind 105 = .ok (.lstore 7, 2) := by decide +kernel
theorem dX2_weighBehind_107 : decode cX2_weighBehind 107 = .ok (.iinc 10 1, 3) := by decide +kernel
theorem dX2_weighBehind_110 : decode cX2_weighBehind 110 = .ok (.goto (-84), 3) := by decide +kernel
theorem dX2_weighBehind_113 : decode cX2_weighBehind 113 = .ok (.aload_n 0, 1) := by decide +kernel
theorem dX2_weighBehind_114 : decode cX2_weighBehind 114 = .ok (.iconst 1, 1) := by decide +kernel
theorem dX2_weighBehind_115 : decode cX2_weighBehind 115 = .ok (.iload_n 1, 1) := by decide +kernel
theorem dX2_weighBehind_116 : decode cX2_weighBehind 116 = .ok (.iload_n 2, 1) := by decide +kernel
theorem dX2_weighBehind_117 : decode cX2_weighBehind 117 = .ok (.lload_n 3, 1) := by decide +kernel
theorem dX2_weighBehind_118 : decode cX2_weighBehind 118 = .ok (.invokevirtual 73, 3) := by decide +kernel
theorem dX2_weighBehind_121 : decode cX2_weighBehind 121 = .ok (.aload_n 0, 1) := by decide +kernel
theorem dX2_weighBehind_122 : decode cX2_weighBehind 122 = .ok (.iconst 2, 1) := by decide +kernel
theorem dX2_weighBehind_123 : decode cX2_weighBehind 123 = .ok (.iload_n 1, 1) := by decide +kernel
theorem dX2_weighBehind_124 : decode cX2_weighBehind 124 = .ok (.iload_n 2, 1) := by decide +kernel
theorem dX2_weighBehind_125 : decode cX2_weighBehind 125 = .ok (.lload 5, 2) := by decide +kernel
theorem dX2_weighBehind_127 : decode cX2_weighBehind 127 = .ok (.invokevirtual 73, 3) := by decide +kernel
theorem dX2_weighBehind_130 : decode cX2_weighBehind 130 = .ok (.aload_n 0, 1) := by decide +kernel
theorem dX2_weighBehind_131 : decode cX2_weighBehind 131 = .ok (.iconst 3, 1) := by decide +kernel
theorem dX2_weighBehind_132 : decode cX2_weighBehind 132 = .ok (.iload_n 1, 1) := by decide +kernel
theorem dX2_weighBehind_133 : decode cX2_weighBehind 133 = .ok (.iload_n 2, 1) := by decide +kernel
theorem dX2_weighBehind_134 : decode cX2_weighBehind 134 = .ok (.lload 7, 2) := by decide +kernel
theorem dX2_weighBehind_136 : decode cX2_weighBehind 136 = .ok (.invokevirtual 73, 3) := by decide +kernel
theorem dX2_weighBehind_139 : decode cX2_weighBehind 139 = .ok (.return_, 1) := by decide +kernel
set_option maxRecDepth 20000 in
theorem ggX2_countWalksBehind_X2_most : GoodIn wsX2_countWalksBehind wsX2_most := goodIn_r _ [5, 6, 7, 8, 9, 10, 11, 12, 13, 14, 15, 16, 17, 18, 36, 37, 38, 39, 40, 41, 42, 43, 44, 45, 46, 47] (by decide +kernel) (by decide +kernel)
set_option maxRecDepth 20000 in
theorem gX2_countWalksBehind_X2_most : GoodIn wsX2_countWalksBehind (wsV RX2 80 RX2 yX2_most wsX2_most) := goodIn_app (goodIn_of _ (by decide +kernel)) ggX2_countWalksBehind_X2_most
set_option maxRecDepth 20000 in
theorem ggX2_countWalksBehind_X2_fewest : GoodIn wsX2_countWalksBehind wsX2_fewest := goodIn_r _ [22, 7, 23, 24, 25, 10, 26, 36, 37, 38, 39, 40] (by decide +kernel) (by decide +kernel)
set_option maxRecDepth 20000 in
theorem gX2_countWalksBehind_X2_fewest : GoodIn wsX2_countWalksBehind (wsV RX2 77 RX2 yX2_fewest wsX2_fewest) := goodIn_app (goodIn_of _ (by decide +kernel)) ggX2_countWalksBehind_X2_fewest
set_option maxRecDepth 20000 in
theorem ggX2_countWalksBehind_X2_at : GoodIn wsX2_countWalksBehind wsX2_at := goodIn_r _ [30, 31, 36, 37, 38, 39, 40] (by decide +kernel) (by decide +kernel)
set_option maxRecDepth 20000 in
theorem gX2_countWalksBehind_X2_at : GoodIn wsX2_countWalksBehind (wsV RX2 31 RX2 yX2_at wsX2_at) := goodIn_app (goodIn_of _ (by decide +kernel)) ggX2_countWalksBehind_X2_at
set_option maxRecDepth 20000 in
theorem ggX2_countWalksBehind_X2_put : GoodIn wsX2_countWalksBehind wsX2_put := goodIn_r _ [35, 31, 36, 37, 38, 39, 40] (by decide +kernel) (by decide +kernel)
set_option maxRecDepth 20000 in
theorem gX2_countWalksBehind_X2_put : GoodIn wsX2_countWalksBehind (wsV RX2 73 RX2 yX2_put wsX2_put) := goodIn_app (goodIn_of _ (by decide +kernel)) ggX2_countWalksBehind_X2_put
theorem dX2_countWalksBehind_0 : decode cX2_countWalksBehind 0 = .ok (.lconst 0, 1) := by decide +kernel
theorem dX2_countWalksBehind_1 : decode cX2_countWalksBehind 1 = .ok (.lstore_n 3, 1) := by decide +kernel
theorem dX2_countWalksBehind_2 : decode cX2_countWalksBehind 2 = .ok (.lconst 0, 1) := by decide +kernel
theorem dX2_countWalksBehind_3 : decode cX2_countWalksBehind 3 = .ok (.lstore 5, 2) := by decide +kernel
theorem dX2_countWalksBehind_5 : decode cX2_countWalksBehind 5 = .ok (.aload_n 0, 1) := by decide +kernel
theorem dX2_countWalksBehind_6 : decode cX2_countWalksBehind 6 = .ok (.iload_n 1, 1) := by decide +kernel
theorem dX2_countWalksBehind_7 : decode cX2_countWalksBehind 7 = .ok (.iload_n 2, 1) := by decide +kernel
theorem dX2_countWalksBehind_8 : decode cX2_countWalksBehind 8 = .ok (.invokevirtual 80, 3) := by decide +kernel
theorem dX2_countWalksBehind_11 : decode cX2_countWalksBehind 11 = .ok (.istore 7, 2) := by decide +kernel
theorem dX2_countWalksBehind_13 : decode cX2_countWalksBehind 13 = .ok (.aload_n 0, 1) := by decide +kernel
theorem dX2_countWalksBehind_14 : decode cX2_countWalksBehind 14 = .ok (.iload_n 1, 1) := by decide +kernel
theorem dX2_countWalksBehind_15 : decode cX2_countWalksBehind 15 = .ok (.iload_n 2, 1) := by decide +kernel
theorem dX2_countWalksBehind_16 : decode cX2_countWalksBehind 16 = .ok (.invokevirtual 77, 3) := by decide +kernel
theorem dX2_countWalksBehind_19 : decode cX2_countWalksBehind 19 = .ok (.istore 8, 2) := by decide +kernel
theorem dX2_countWalksBehind_21 : decode cX2_countWalksBehind 21 = .ok (.iload 8, 2) := by decide +kernel
theorem dX2_countWalksBehind_23 : decode cX2_countWalksBehind 23 = .ok (.iload 7, 2) := by decide +kernel
theorem dX2_countWalksBehind_25 : decode cX2_countWalksBehind 25 = .ok (.if_icmp .gt 43, 3) := by decide +kernel
theorem dX2_countWalksBehind_28 : decode cX2_countWalksBehind 28 = .ok (.lload_n 3, 1) := by decide +kernel
theorem dX2_countWalksBehind_29 : decode cX2_countWalksBehind 29 = .ok (.aload_n 0, 1) := by decide +kernel
theorem dX2_countWalksBehind_30 : decode cX2_countWalksBehind 30 = .ok (.iconst 4, 1) := by decide +kernel
theorem dX2_countWalksBehind_31 : decode cX2_countWalksBehind 31 = .ok (.iload_n 1, 1) := by decide +kernel
theorem dX2_countWalksBehind_32 : decode cX2_countWalksBehind 32 = .ok (.iconst 1, 1) := by decide +kernel
theorem dX2_countWalksBehind_33 : decode cX2_countWalksBehind 33 = .ok (.iadd, 1) := by decide +kernel
theorem dX2_countWalksBehind_34 : decode cX2_countWalksBehind 34 = .ok (.iload_n 2, 1) := by decide +kernel
theorem dX2_countWalksBehind_35 : decode cX2_countWalksBehind 35 = .ok (.iload 8, 2) := by decide +kernel
theorem dX2_countWalksBehind_37 : decode cX2_countWalksBehind 37 = .ok (.iadd, 1) := by decide +kernel
theorem dX2_countWalksBehind_38 : decode cX2_countWalksBehind 38 = .ok (.invokevirtual 31, 3) := by decide +kernel
theorem dX2_countWalksBehind_41 : decode cX2_countWalksBehind 41 = .ok (.ladd, 1) := by decide +kernel
theorem dX2_countWalksBehind_42 : decode cX2_countWalksBehind 42 = .ok (.lstore_n 3, 1) := by decide +kernel
theorem dX2_countWalksBehind_43 : decode cX2_countWalksBehind 43 = .ok (.lload 5, 2) := by decide +kernel
theorem dX2_countWalksBehind_45 : decode cX2_countWalksBehind 45 = .ok (.lconst 1, 1) := by decide +kernel
theorem dX2_countWalksBehind_46 : decode cX2_countWalksBehind 46 = .ok (.aload_n 0, 1) := by decide +kernel
theorem dX2_countWalksBehind_47 : decode cX2_countWalksBehind 47 = .ok (.iconst 5, 1) := by decide +kernel
theorem dX2_countWalksBehind_48 : decode cX2_countWalksBehind 48 = .ok (.iload_n 1, 1) := by decide +kernel
theorem dX2_countWalksBehind_49 : decode cX2_countWalksBehind 49 = .ok (.iconst 1, 1) := by decide +kernel
theorem dX2_countWalksBehind_50 : decode cX2_countWalksBehind 50 = .ok (.iadd, 1) := by decide +kernel
theorem dX2_countWalksBehind_51 : decode cX2_countWalksBehind 51 = .ok (.iload_n 2, 1) := by decide +kernel
theorem dX2_countWalksBehind_52 : decode cX2_countWalksBehind 52 = .ok (.iload 8, 2) := by decide +kernel
theorem dX2_countWalksBehind_54 : decode cX2_countWalksBehind 54 = .ok (.iadd, 1) := by decide +kernel
theorem dX2_countWalksBehind_55 : decode cX2_countWalksBehind 55 = .ok (.invokevirtual 31, 3) := by decide +kernel
theorem dX2_countWalksBehind_58 : decode cX2_countWalksBehind 58 = .ok (.ladd, 1) := by decide +kernel
theorem dX2_countWalksBehind_59 : decode cX2_countWalksBehind 59 = .ok (.ladd, 1) := by decide +kernel
theorem dX2_countWalksBehind_60 : decode cX2_countWalksBehind 60 = .ok (.lstore 5, 2) := by decide +kernel
theorem dX2_countWalksBehind_62 : decode cX2_countWalksBehind 62 = .ok (.iinc 8 1, 3) := by decide +kernel
theorem dX2_countWalksBehind_65 : decode cX2_countWalksBehind 65 = .ok (.goto (-44), 3) := by decide +kernel
theorem dX2_countWalksBehind_68 : decode cX2_countWalksBehind 68 = .ok (.aload_n 0, 1) := by decide +kernel
theorem dX2_countWalksBehind_69 : decode cX2_countWalksBehind 69 = .ok (.iconst 4, 1) := by decide +kernel
theorem dX2_countWalksBehind_70 : decode cX2_countWalksBehind 70 = .ok (.iload_n 1, 1) := by decide +kernel
theorem dX2_countWalksBehind_71 : decode cX2_countWalksBehind 71 = .ok (.iload_n 2, 1) := by decide +kernel
theorem dX2_countWalksBehind_72 : decode cX2_countWalksBehind 72 = .ok (.lload_n 3, 1) := by decide +kernel
theorem dX2_countWalksBehind_73 : decode cX2_countWalksBehind 73 = .ok (.invokevirtual 73, 3) := by decide +kernel
theorem dX2_countWalksBehind_76 : decode cX2_countWalksBehind 76 = .ok (.aload_n 0, 1) := by decide +kernel
theorem dX2_countWalksBehind_77 : decode cX2_countWalksBehind 77 = .ok (.iconst 5, 1) := by decide +kernel
theorem dX2_countWalksBehind_78 : decode cX2_countWalksBehind 78 = .ok (.iload_n 1, 1) := by decide +kernel
theorem dX2_countWalksBehind_79 : decode cX2_countWalksBehind 79 = .ok (.iload_n 2, 1) := by decide +kernel
theorem dX2_countWalksBehind_80 : decode cX2_countWalksBehind 80 = .ok (.lload 5, 2) := by decide +kernel
theorem dX2_countWalksBehind_82 : decode cX2_countWalksBehind 82 = .ok (.invokevirtual 73, 3) := by decide +kernel
theorem dX2_countWalksBehind_85 : decode cX2_countWalksBehind 85 = .ok (.return_, 1) := by decide +kernel
set_option maxRecDepth 20000 in
theorem ggX2_sumBehind_X2_most : GoodIn wsX2_sumBehind wsX2_most := goodIn_r _ [14, 2, 15, 16, 17, 5, 18, 19, 20, 21, 22, 23, 24, 25, 48, 49, 50, 51, 52, 53, 54, 55, 56, 57, 58, 59] (by decide +kernel) (by decide +kernel)
set_option maxRecDepth 20000 in
theorem gX2_sumBehind_X2_most : GoodIn wsX2_sumBehind (wsV RX2 80 RX2 yX2_most wsX2_most) := goodIn_app (goodIn_of _ (by decide +kernel)) ggX2_sumBehind_X2_most
set_option maxRecDepth 20000 in
theorem ggX2_sumBehind_X2_fewest : GoodIn wsX2_sumBehind wsX2_fewest := goodIn_r _ [29, 15, 30, 31, 32, 5, 33, 48, 49, 50, 51, 52] (by decide +kernel) (by decide +kernel)
set_option maxRecDepth 20000 in
theorem gX2_sumBehind_X2_fewest : GoodIn wsX2_sumBehind (wsV RX2 77 RX2 yX2_fewest wsX2_fewest) := goodIn_app (goodIn_of _ (by decide +kernel)) ggX2_sumBehind_X2_fewest
set_option maxRecDepth 20000 in
theorem ggX2_sumBehind_X0_scoreOf : GoodIn wsX2_sumBehind wsX0_scoreOf := goodIn_r _ [37, 24, 38, 53, 54, 55, 56, 57, 58, 59] (by decide +kernel) (by decide +kernel)
set_option maxRecDepth 20000 in
theorem gX2_sumBehind_X0_scoreOf : GoodIn wsX2_sumBehind (wsV RX2 106 RX0 yX0_scoreOf wsX0_scoreOf) := goodIn_app (goodIn_of _ (by decide +kernel)) ggX2_sumBehind_X0_scoreOf
set_option maxRecDepth 20000 in
theorem ggX2_sumBehind_X2_at : GoodIn wsX2_sumBehind wsX2_at := goodIn_r _ [42, 43, 48, 49, 50, 51, 52] (by decide +kernel) (by decide +kernel)
set_option maxRecDepth 20000 in
theorem gX2_sumBehind_X2_at : GoodIn wsX2_sumBehind (wsV RX2 31 RX2 yX2_at wsX2_at) := goodIn_app (goodIn_of _ (by decide +kernel)) ggX2_sumBehind_X2_at
set_option maxRecDepth 20000 in
theorem ggX2_sumBehind_X2_put : GoodIn wsX2_sumBehind wsX2_put := goodIn_r _ [47, 43, 48, 49, 50, 51, 52] (by decide +kernel) (by decide +kernel)
set_option maxRecDepth 20000 in
theorem gX2_sumBehind_X2_put : GoodIn wsX2_sumBehind (wsV RX2 73 RX2 yX2_put wsX2_put) := goodIn_app (goodIn_of _ (by decide +kernel)) ggX2_sumBehind_X2_put
theorem dX2_sumBehind_0 : decode cX2_sumBehind 0 = .ok (.ldc2_w 104, 3) := by decide +kernel
theorem dX2_sumBehind_3 : decode cX2_sumBehind 3 = .ok (.lstore_n 3, 1) := by decide +kernel
theorem dX2_sumBehind_4 : decode cX2_sumBehind 4 = .ok (.lconst 0, 1) := by decide +kernel
theorem dX2_sumBehind_5 : decode cX2_sumBehind 5 = .ok (.lstore 5, 2) := by decide +kernel
theorem dX2_sumBehind_7 : decode cX2_sumBehind 7 = .ok (.aload_n 0, 1) := by decide +kernel
theorem dX2_sumBehind_8 : decode cX2_sumBehind 8 = .ok (.iload_n 1, 1) := by decide +kernel
theorem dX2_sumBehind_9 : decode cX2_sumBehind 9 = .ok (.iload_n 2, 1) := by decide +kernel
theorem dX2_sumBehind_10 : decode cX2_sumBehind 10 = .ok (.invokevirtual 80, 3) := by decide +kernel
theorem dX2_sumBehind_13 : decode cX2_sumBehind 13 = .ok (.istore 7, 2) := by decide +kernel
theorem dX2_sumBehind_15 : decode cX2_sumBehind 15 = .ok (.aload_n 0, 1) := by decide +kernel
theorem dX2_sumBehind_16 : decode cX2_sumBehind 16 = .ok (.iload_n 1, 1) := by decide +kernel
theorem dX2_sumBehind_17 : decode cX2_sumBehind 17 = .ok (.iload_n 2, 1) := by decide +kernel
theorem dX2_sumBehind_18 : decode cX2_sumBehind 18 = .ok (.invokevirtual 77, 3) := by decide +kernel
theorem dX2_sumBehind_21 : decode cX2_sumBehind 21 = .ok (.istore 8, 2) := by decide +kernel
theorem dX2_sumBehind_23 : decode cX2_sumBehind 23 = .ok (.iload 8, 2) := by decide +kernel
theorem dX2_sumBehind_25 : decode cX2_sumBehind 25 = .ok (.iload 7, 2) := by decide +kernel
theorem dX2_sumBehind_27 : decode cX2_sumBehind 27 = .ok (.if_icmp .gt 67, 3) := by decide +kernel
theorem dX2_sumBehind_30 : decode cX2_sumBehind 30 = .ok (.iload 8, 2) := by decide +kernel
theorem dX2_sumBehind_32 : decode cX2_sumBehind 32 = .ok (.aload_n 0, 1) := by decide +kernel
theorem dX2_sumBehind_33 : decode cX2_sumBehind 33 = .ok (.getfield 9, 3) := by decide +kernel
theorem dX2_sumBehind_36 : decode cX2_sumBehind 36 = .ok (.iload_n 1, 1) := by decide +kernel
theorem dX2_sumBehind_37 : decode cX2_sumBehind 37 = .ok (.invokevirtual 106, 3) := by decide +kernel
theorem dX2_sumBehind_40 : decode cX2_sumBehind 40 = .ok (.imul, 1) := by decide +kernel
theorem dX2_sumBehind_41 : decode cX2_sumBehind 41 = .ok (.i2l, 1) := by decide +kernel
theorem dX2_sumBehind_42 : decode cX2_sumBehind 42 = .ok (.lstore 9, 2) := by decide +kernel
theorem dX2_sumBehind_44 : decode cX2_sumBehind 44 = .ok (.lload_n 3, 1) := by decide +kernel
theorem dX2_sumBehind_45 : decode cX2_sumBehind 45 = .ok (.lload 9, 2) := by decide +kernel
theorem dX2_sumBehind_47 : decode cX2_sumBehind 47 = .ok (.aload_n 0, 1) := by decide +kernel
theorem dX2_sumBehind_48 : decode cX2_sumBehind 48 = .ok (.bipush 6, 2) := by decide +kernel
theorem dX2_sumBehind_50 : decode cX2_sumBehind 50 = .ok (.iload_n 1, 1) := by decide +kernel
theorem dX2_sumBehind_51 : decode cX2_sumBehind 51 = .ok (.iconst 1, 1) := by decide +kernel
theorem dX2_sumBehind_52 : decode cX2_sumBehind 52 = .ok (.iadd, 1) := by decide +kernel
theorem dX2_sumBehind_53 : decode cX2_sumBehind 53 = .ok (.iload_n 2, 1) := by decide +kernel
theorem dX2_sumBehind_54 : decode cX2_sumBehind 54 = .ok (.iload 8, 2) := by decide +kernel
theorem dX2_sumBehind_56 : decode cX2_sumBehind 56 = .ok (.iadd, 1) := by decide +kernel
theorem dX2_sumBehind_57 : decode cX2_sumBehind 57 = .ok (.invokevirtual 31, 3) := by decide +kernel
theorem dX2_sumBehind_60 : decode cX2_sumBehind 60 = .ok (.ladd, 1) := by decide +kernel
theorem dX2_sumBehind_61 : decode cX2_sumBehind 61 = .ok (.invokestatic 102, 3) := by decide +kernel
theorem dX2_sumBehind_64 : decode cX2_sumBehind 64 = .ok (.lstore_n 3, 1) := by decide +kernel
theorem dX2_sumBehind_65 : decode cX2_sumBehind 65 = .ok (.lload 5, 2) := by decide +kernel
theorem dX2_sumBehind_67 : decode cX2_sumBehind 67 = .ok (.lload 9, 2) := by decide +kernel
theorem dX2_sumBehind_69 : decode cX2_sumBehind 69 = .ok (.aload_n 0, 1) := by decide +kernel
theorem dX2_sumBehind_70 : decode cX2_sumBehind 70 = .ok (.bipush 7, 2) := by decide +kernel
theorem dX2_sumBehind_72 : decode cX2_sumBehind 72 = .ok (.iload_n 1, 1) := by decide +kernel
theorem dX2_sumBehind_73 : decode cX2_sumBehind 73 = .ok (.iconst 1, 1) := by decide +kernel
theorem dX2_sumBehind_74 : decode cX2_sumBehind 74 = .ok (.iadd, 1) := by decide +kernel
theorem dX2_sumBehind_75 : decode cX2_sumBehind 75 = .ok (.iload_n 2, 1) := by decide +kernel
theorem dX2_sumBehind_76 : decode cX2_sumBehind 76 = .ok (.iload 8, 2) := by decide +kernel
theorem dX2_sumBehind_78 : decode cX2_sumBehind 78 = .ok (.iadd, 1) := by decide +kernel
theorem dX2_sumBehind_79 : decode cX2_sumBehind 79 = .ok (.invokevirtual 31, 3) := by decide +kernel
theorem dX2_sumBehind_82 : decode cX2_sumBehind 82 = .ok (.ladd, 1) := by decide +kernel
theorem dX2_sumBehind_83 : decode cX2_sumBehind 83 = .ok (.invokestatic 99, 3) := by decide +kernel
theorem dX2_sumBehind_86 : decode cX2_sumBehind 86 = .ok (.lstore 5, 2) := by decide +kernel
theorem dX2_sumBehind_88 : decode cX2_sumBehind 88 = .ok (.iinc 8 1, 3) := by decide +kernel
theorem dX2_sumBehind_91 : decode cX2_sumBehind 91 = .ok (.goto (-68), 3) := by decide +kernel
theorem dX2_sumBehind_94 : decode cX2_sumBehind 94 = .ok (.aload_n 0, 1) := by decide +kernel
theorem dX2_sumBehind_95 : decode cX2_sumBehind 95 = .ok (.bipush 6, 2) := by decide +kernel
theorem dX2_sumBehind_97 : decode cX2_sumBehind 97 = .ok (.iload_n 1, 1) := by decide +kernel
theorem dX2_sumBehind_98 : decode cX2_sumBehind 98 = .ok (.iload_n 2, 1) := by decide +kernel
theorem dX2_sumBehind_99 : decode cX2_sumBehind 99 = .ok (.lload_n 3, 1) := by decide +kernel
theorem dX2_sumBehind_100 : decode cX2_sumBehind 100 = .ok (.invokevirtual 73, 3) := by decide +kernel
theorem dX2_sumBehind_103 : decode cX2_sumBehind 103 = .ok (.aload_n 0, 1) := by decide +kernel
theorem dX2_sumBehind_104 : decode cX2_sumBehind 104 = .ok (.bipush 7, 2) := by decide +kernel
theorem dX2_sumBehind_106 : decode cX2_sumBehind 106 = .ok (.iload_n 1, 1) := by decide +kernel
theorem dX2_sumBehind_107 : decode cX2_sumBehind 107 = .ok (.iload_n 2, 1) := by decide +kernel
theorem dX2_sumBehind_108 : decode cX2_sumBehind 108 = .ok (.lload 5, 2) := by decide +kernel
theorem dX2_sumBehind_110 : decode cX2_sumBehind 110 = .ok (.invokevirtual 73, 3) := by decide +kernel
theorem dX2_sumBehind_113 : decode cX2_sumBehind 113 = .ok (.return_, 1) := by decide +kernel
set_option maxRecDepth 20000 in
theorem ggX2_countAhead_X2_put : GoodIn wsX2_countAhead wsX2_put := goodIn_r _ [7, 8, 37, 38, 39, 40, 41] (by decide +kernel) (by decide +kernel)
set_option maxRecDepth 20000 in
theorem gX2_countAhead_X2_put : GoodIn wsX2_countAhead (wsV RX2 73 RX2 yX2_put wsX2_put) := goodIn_app (goodIn_of _ (by decide +kernel)) ggX2_countAhead_X2_put
set_option maxRecDepth 20000 in
theorem ggX2_countAhead_X0_size : GoodIn wsX2_countAhead wsX0_size := goodIn_r _ [13, 14, 42, 43, 44, 45, 46, 47, 48] (by decide +kernel) (by decide +kernel)
set_option maxRecDepth 20000 in
theorem gX2_countAhead_X0_size : GoodIn wsX2_countAhead (wsV RX2 70 RX0 yX0_size wsX0_size) := goodIn_app (goodIn_of _ (by decide +kernel)) ggX2_countAhead_X0_size
set_option maxRecDepth 20000 in
theorem ggX2_countAhead_X2_isThere : GoodIn wsX2_countAhead wsX2_isThere := goodIn_r _ [18, 19, 20, 21, 6, 22, 8, 37, 38, 39, 40, 41] (by decide +kernel) (by decide +kernel)
set_option maxRecDepth 20000 in
theorem gX2_countAhead_X2_isThere : GoodIn wsX2_countAhead (wsV RX2 109 RX2 yX2_isThere wsX2_isThere) := goodIn_app (goodIn_of _ (by decide +kernel)) ggX2_countAhead_X2_isThere
set_option maxRecDepth 20000 in
theorem ggX2_countAhead_X2_waysAhead : GoodIn wsX2_countAhead wsX2_waysAhead := goodIn_r _ [26, 1, 27, 28, 29, 12, 30, 14, 31, 32, 33, 34, 35, 36, 19, 20, 21, 6, 22, 8, 37, 38, 39, 40, 41, 42, 43, 44, 45, 46, 47, 48] (by decide +kernel) (by decide +kernel)
set_option maxRecDepth 20000 in
theorem gX2_countAhead_X2_waysAhead : GoodIn wsX2_countAhead (wsV RX2 113 RX2 yX2_waysAhead wsX2_waysAhead) := goodIn_app (goodIn_of _ (by decide +kernel)) ggX2_countAhead_X2_waysAhead
theorem dX2_countAhead_0 : decode cX2_countAhead 0 = .ok (.aload_n 0, 1) := by decide +kernel
theorem dX2_countAhead_1 : decode cX2_countAhead 1 = .ok (.iconst 0, 1) := by decide +kernel
theorem dX2_countAhead_2 : decode cX2_countAhead 2 = .ok (.iconst 0, 1) := by decide +kernel
theorem dX2_countAhead_3 : decode cX2_countAhead 3 = .ok (.iconst 0, 1) := by decide +kernel
