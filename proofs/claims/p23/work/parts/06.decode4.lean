theorem dX10_ways_13 : decode cX10_ways 13 = .ok (.lreturn, 1) := by decide +kernel
theorem dX10_ways_14 : decode cX10_ways 14 = .ok (.iload_n 2, 1) := by decide +kernel
theorem dX10_ways_15 : decode cX10_ways 15 = .ok (.tableswitch 64 0 3 #[29, 37, 42, 53], 29) := by decide +kernel
theorem dX10_ways_44 : decode cX10_ways 44 = .ok (.aload_n 3, 1) := by decide +kernel
theorem dX10_ways_45 : decode cX10_ways 45 = .ok (.getfield 90, 3) := by decide +kernel
theorem dX10_ways_48 : decode cX10_ways 48 = .ok (.invokevirtual 157, 3) := by decide +kernel
theorem dX10_ways_51 : decode cX10_ways 51 = .ok (.lreturn, 1) := by decide +kernel
theorem dX10_ways_52 : decode cX10_ways 52 = .ok (.aload_n 3, 1) := by decide +kernel
theorem dX10_ways_53 : decode cX10_ways 53 = .ok (.invokevirtual 161, 3) := by decide +kernel
theorem dX10_ways_56 : decode cX10_ways 56 = .ok (.lreturn, 1) := by decide +kernel
theorem dX10_ways_57 : decode cX10_ways 57 = .ok (.aload_n 3, 1) := by decide +kernel
theorem dX10_ways_58 : decode cX10_ways 58 = .ok (.getfield 145, 3) := by decide +kernel
theorem dX10_ways_61 : decode cX10_ways 61 = .ok (.iconst 2, 1) := by decide +kernel
theorem dX10_ways_62 : decode cX10_ways 62 = .ok (.iconst 0, 1) := by decide +kernel
theorem dX10_ways_63 : decode cX10_ways 63 = .ok (.iconst 0, 1) := by decide +kernel
theorem dX10_ways_64 : decode cX10_ways 64 = .ok (.invokevirtual 151, 3) := by decide +kernel
theorem dX10_ways_67 : decode cX10_ways 67 = .ok (.lreturn, 1) := by decide +kernel
theorem dX10_ways_68 : decode cX10_ways 68 = .ok (.aload_n 3, 1) := by decide +kernel
theorem dX10_ways_69 : decode cX10_ways 69 = .ok (.getfield 145, 3) := by decide +kernel
theorem dX10_ways_72 : decode cX10_ways 72 = .ok (.iconst 3, 1) := by decide +kernel
theorem dX10_ways_73 : decode cX10_ways 73 = .ok (.iconst 0, 1) := by decide +kernel
theorem dX10_ways_74 : decode cX10_ways 74 = .ok (.iconst 0, 1) := by decide +kernel
theorem dX10_ways_75 : decode cX10_ways 75 = .ok (.invokevirtual 151, 3) := by decide +kernel
theorem dX10_ways_78 : decode cX10_ways 78 = .ok (.lreturn, 1) := by decide +kernel
theorem dX10_ways_79 : decode cX10_ways 79 = .ok (.ldc2_w 155, 3) := by decide +kernel
theorem dX10_ways_82 : decode cX10_ways 82 = .ok (.lreturn, 1) := by decide +kernel
set_option maxRecDepth 20000 in
theorem ggX10_chance_X10_findFresh : GoodIn wsX10_chance wsX10_findFresh := goodIn_r _ [6, 7, 8, 9, 10, 5, 11, 12, 13, 14, 15, 16, 17, 18, 19, 20, 21, 22, 23, 24, 25, 26, 27, 28, 29, 30, 31, 32, 33, 34, 35, 36, 37, 38, 39, 40, 41, 42, 43, 44, 45, 46, 47, 48, 49, 50, 51, 52, 53, 54, 55, 56, 57, 58, 59, 60, 61, 62, 63, 64, 65, 66, 67, 68, 69, 70, 71, 72, 73, 74, 75, 76, 77, 78, 79, 80, 81, 82, 83, 84, 85, 86, 87, 88, 89, 90, 91, 92, 93, 94, 95, 96, 97, 98, 99, 100, 101, 102, 103, 104, 105, 106, 107, 108, 109, 110, 111, 112, 113, 114, 115, 116, 117, 118, 119, 120, 121, 122, 123, 124, 237, 238, 239, 240, 241, 242, 243, 244, 245, 246, 247, 248, 249, 250, 251, 252, 253, 254, 255, 256, 257, 258] (by decide +kernel) (by decide +kernel)
set_option maxRecDepth 20000 in
theorem gX10_chance_X10_findFresh : GoodIn wsX10_chance (wsV RX10 133 RX10 yX10_findFresh wsX10_findFresh) := goodIn_app (goodIn_of _ (by decide +kernel)) ggX10_chance_X10_findFresh
set_option maxRecDepth 20000 in
theorem ggX10_chance_X7_strangeWays : GoodIn wsX10_chance wsX7_strangeWays := goodIn_r _ [129, 130, 131, 132, 133, 128, 134, 135, 136, 137, 138, 139, 140, 141, 142, 143, 144, 145, 146, 147, 25, 26, 27, 28, 29, 148, 149, 150, 151, 34, 35, 36, 37, 38, 39, 152, 91, 92, 93, 94, 153, 154, 155, 156, 157, 158, 159, 160, 161, 162, 73, 74, 17, 75, 20, 21, 76, 77, 70, 78, 47, 48, 49, 50, 51, 163, 65, 66, 67, 23, 68, 69, 71, 164, 165, 166, 167, 168, 169, 96, 97, 98, 22, 170, 171, 172, 173, 174, 175, 176, 177, 178, 179, 180, 181, 182, 183, 184, 185, 186, 187, 188, 189, 190, 191, 192, 193, 41, 42, 43, 194, 45, 46, 195, 196, 197, 198, 199, 109, 110, 111, 112, 200, 201, 202, 203, 204, 205, 206, 207, 208, 209, 210, 211, 212, 213, 214, 215, 216, 217, 218, 219, 220, 221, 222, 223, 237, 238, 239, 240, 259, 260, 261, 262, 263, 264, 265, 252, 253, 254, 255, 256, 257, 258, 247, 248, 249, 250, 251, 266, 267, 268, 269, 270, 271, 272] (by decide +kernel) (by decide +kernel)
set_option maxRecDepth 20000 in
theorem gX10_chance_X7_strangeWays : GoodIn wsX10_chance (wsV RX10 164 RX7 yX7_strangeWays wsX7_strangeWays) := goodIn_app (goodIn_of _ (by decide +kernel)) ggX10_chance_X7_strangeWays
set_option maxRecDepth 20000 in
theorem ggX10_chance_X7_allWays : GoodIn wsX10_chance wsX7_allWays := goodIn_r _ [227, 228, 229, 96, 97, 17, 98, 22, 237, 238, 239, 240, 247, 248, 249, 250, 251] (by decide +kernel) (by decide +kernel)
set_option maxRecDepth 20000 in
theorem gX10_chance_X7_allWays : GoodIn wsX10_chance (wsV RX10 161 RX7 yX7_allWays wsX7_allWays) := goodIn_app (goodIn_of _ (by decide +kernel)) ggX10_chance_X7_allWays
set_option maxRecDepth 20000 in
theorem ggX10_chance_X10_inLowestTerms : GoodIn wsX10_chance wsX10_inLowestTerms := goodIn_r _ [232, 233, 234, 235, 5, 236] (by decide +kernel) (by decide +kernel)
set_option maxRecDepth 20000 in
theorem gX10_chance_X10_inLowestTerms : GoodIn wsX10_chance (va_wsS RX10 168 yX10_inLowestTerms wsX10_inLowestTerms) := goodIn_app (goodIn_of _ (by decide +kernel)) ggX10_chance_X10_inLowestTerms
theorem dX10_chance_0 : decode cX10_chance 0 = .ok (.aload_n 0, 1) := by decide +kernel
theorem dX10_chance_1 : decode cX10_chance 1 = .ok (.iload_n 1, 1) := by decide +kernel
theorem dX10_chance_2 : decode cX10_chance 2 = .ok (.invokevirtual 133, 3) := by decide +kernel
theorem dX10_chance_5 : decode cX10_chance 5 = .ok (.astore 4, 2) := by decide +kernel
theorem dX10_chance_7 : decode cX10_chance 7 = .ok (.aload 4, 2) := by decide +kernel
theorem dX10_chance_9 : decode cX10_chance 9 = .ok (.ifnull 21, 3) := by decide +kernel
theorem dX10_chance_12 : decode cX10_chance 12 = .ok (.iload_n 2, 1) := by decide +kernel
theorem dX10_chance_13 : decode cX10_chance 13 = .ok (.ifCond .lt 17, 3) := by decide +kernel
theorem dX10_chance_16 : decode cX10_chance 16 = .ok (.iload_n 2, 1) := by decide +kernel
theorem dX10_chance_17 : decode cX10_chance 17 = .ok (.iconst 2, 1) := by decide +kernel
theorem dX10_chance_18 : decode cX10_chance 18 = .ok (.if_icmp .gt 12, 3) := by decide +kernel
theorem dX10_chance_21 : decode cX10_chance 21 = .ok (.iload_n 3, 1) := by decide +kernel
theorem dX10_chance_22 : decode cX10_chance 22 = .ok (.ifCond .lt 8, 3) := by decide +kernel
theorem dX10_chance_25 : decode cX10_chance 25 = .ok (.iload_n 3, 1) := by decide +kernel
theorem dX10_chance_26 : decode cX10_chance 26 = .ok (.iconst 1, 1) := by decide +kernel
theorem dX10_chance_27 : decode cX10_chance 27 = .ok (.if_icmp .le 7, 3) := by decide +kernel
theorem dX10_chance_30 : decode cX10_chance 30 = .ok (.ldc2_w 155, 3) := by decide +kernel
theorem dX10_chance_33 : decode cX10_chance 33 = .ok (.lreturn, 1) := by decide +kernel
theorem dX10_chance_34 : decode cX10_chance 34 = .ok (.aload 4, 2) := by decide +kernel
theorem dX10_chance_36 : decode cX10_chance 36 = .ok (.iload_n 2, 1) := by decide +kernel
theorem dX10_chance_37 : decode cX10_chance 37 = .ok (.invokevirtual 164, 3) := by decide +kernel
theorem dX10_chance_40 : decode cX10_chance 40 = .ok (.aload 4, 2) := by decide +kernel
theorem dX10_chance_42 : decode cX10_chance 42 = .ok (.invokevirtual 161, 3) := by decide +kernel
theorem dX10_chance_45 : decode cX10_chance 45 = .ok (.iload_n 3, 1) := by decide +kernel
theorem dX10_chance_46 : decode cX10_chance 46 = .ok (.invokestatic 168, 3) := by decide +kernel
theorem dX10_chance_49 : decode cX10_chance 49 = .ok (.lreturn, 1) := by decide +kernel
set_option maxRecDepth 20000 in
theorem ggX10_joined_X1_clear : GoodIn wsX10_joined wsX1_clear := goodIn_r _ [11, 12, 13, 14, 15, 16, 17, 238, 239, 240] (by decide +kernel) (by decide +kernel)
set_option maxRecDepth 20000 in
theorem gX10_joined_X1_clear : GoodIn wsX10_joined (wsV RX10 172 RX1 yX1_clear wsX1_clear) := goodIn_app (goodIn_of _ (by decide +kernel)) ggX10_joined_X1_clear
set_option maxRecDepth 20000 in
theorem ggX10_joined_X10_findFresh : GoodIn wsX10_joined wsX10_findFresh := goodIn_r _ [22, 23, 24, 25, 26, 21, 27, 3, 28, 29, 30, 31, 32, 33, 34, 35, 36, 37, 38, 39, 40, 41, 42, 43, 44, 45, 46, 47, 48, 49, 50, 51, 52, 53, 54, 55, 15, 16, 17, 56, 57, 58, 59, 60, 61, 62, 63, 64, 65, 66, 67, 68, 69, 70, 71, 72, 73, 74, 75, 76, 77, 78, 79, 80, 81, 82, 83, 84, 85, 86, 87, 88, 89, 90, 91, 92, 93, 94, 95, 96, 97, 98, 99, 100, 101, 102, 103, 104, 105, 106, 107, 108, 109, 110, 111, 112, 113, 114, 115, 116, 117, 118, 119, 120, 121, 122, 123, 124, 125, 126, 127, 128, 129, 130, 131, 132, 133, 134, 135, 136, 234, 235, 236, 237, 228, 229, 230, 231, 232, 233, 241, 242, 243, 244, 245, 246, 247, 248, 249, 250, 251, 252] (by decide +kernel) (by decide +kernel)
set_option maxRecDepth 20000 in
theorem gX10_joined_X10_findFresh : GoodIn wsX10_joined (wsV RX10 133 RX10 yX10_findFresh wsX10_findFresh) := goodIn_app (goodIn_of _ (by decide +kernel)) ggX10_joined_X10_findFresh
set_option maxRecDepth 20000 in
theorem ggX10_joined_X7_allWays : GoodIn wsX10_joined wsX7_allWays := goodIn_r _ [141, 142, 143, 108, 109, 32, 110, 37, 234, 235, 236, 237, 241, 242, 243, 244, 245] (by decide +kernel) (by decide +kernel)
set_option maxRecDepth 20000 in
theorem gX10_joined_X7_allWays : GoodIn wsX10_joined (wsV RX10 161 RX7 yX7_allWays wsX7_allWays) := goodIn_app (goodIn_of _ (by decide +kernel)) ggX10_joined_X7_allWays
set_option maxRecDepth 20000 in
theorem ggX10_joined_X0_seenSum : GoodIn wsX10_joined wsX0_seenSum := goodIn_r _ [147, 49, 50, 51, 52, 42, 53, 54, 148, 121, 122, 123, 124, 246, 247, 248, 249, 250, 251, 252] (by decide +kernel) (by decide +kernel)
set_option maxRecDepth 20000 in
theorem gX10_joined_X0_seenSum : GoodIn wsX10_joined (wsV RX10 139 RX0 yX0_seenSum wsX0_seenSum) := goodIn_app (goodIn_of _ (by decide +kernel)) ggX10_joined_X0_seenSum
set_option maxRecDepth 20000 in
theorem ggX10_joined_X7_freshSums : GoodIn wsX10_joined wsX7_freshSums := goodIn_r _ [152, 153, 154, 155, 156, 157, 158, 159, 160, 161, 162, 163, 164, 165, 166, 40, 41, 42, 43, 44, 167, 108, 109, 32, 110, 37, 168, 15, 16, 17, 169, 57, 58, 170, 171, 172, 173, 174, 121, 122, 123, 49, 124, 175, 85, 86, 87, 35, 36, 88, 89, 82, 90, 59, 60, 61, 62, 63, 176, 77, 78, 79, 38, 80, 81, 83, 177, 103, 104, 105, 106, 178, 179, 180, 181, 182, 183, 184, 185, 186, 187, 188, 189, 234, 235, 236, 237, 253, 254, 255, 256, 257, 258, 259, 246, 247, 248, 249, 250, 251, 252, 241, 242, 243, 244, 245] (by decide +kernel) (by decide +kernel)
set_option maxRecDepth 20000 in
theorem gX10_joined_X7_freshSums : GoodIn wsX10_joined (wsV RX10 177 RX7 yX7_freshSums wsX7_freshSums) := goodIn_app (goodIn_of _ (by decide +kernel)) ggX10_joined_X7_freshSums
set_option maxRecDepth 20000 in
theorem ggX10_joined_X1_add : GoodIn wsX10_joined wsX1_add := goodIn_r _ [193, 13, 12, 194, 195, 196, 197, 198, 14, 15, 16, 17, 199, 200, 201, 10, 202, 203, 204, 205, 157, 206, 163, 207, 208, 209, 210, 162, 211, 212, 213, 214, 164, 238, 239, 240, 253, 254, 255, 256, 257, 258, 259] (by decide +kernel) (by decide +kernel)
set_option maxRecDepth 20000 in
theorem gX10_joined_X1_add : GoodIn wsX10_joined (wsV RX10 181 RX1 yX1_add wsX1_add) := goodIn_app (goodIn_of _ (by decide +kernel)) ggX10_joined_X1_add
set_option maxRecDepth 20000 in
theorem ggX10_joined_X1_waysBy : GoodIn wsX10_joined wsX1_waysBy := goodIn_r _ [218, 12, 219, 220, 157, 221, 238, 239, 240] (by decide +kernel) (by decide +kernel)
set_option maxRecDepth 20000 in
theorem gX10_joined_X1_waysBy : GoodIn wsX10_joined (wsV RX10 185 RX1 yX1_waysBy wsX1_waysBy) := goodIn_app (goodIn_of _ (by decide +kernel)) ggX10_joined_X1_waysBy
set_option maxRecDepth 20000 in
theorem ggX10_joined_X10_inLowestTerms : GoodIn wsX10_joined wsX10_inLowestTerms := goodIn_r _ [224, 5, 225, 226, 21, 227] (by decide +kernel) (by decide +kernel)
set_option maxRecDepth 20000 in
theorem gX10_joined_X10_inLowestTerms : GoodIn wsX10_joined (va_wsS RX10 168 yX10_inLowestTerms wsX10_inLowestTerms) := goodIn_app (goodIn_of _ (by decide +kernel)) ggX10_joined_X10_inLowestTerms
theorem dX10_joined_0 : decode cX10_joined 0 = .ok (.iload_n 1, 1) := by decide +kernel
theorem dX10_joined_1 : decode cX10_joined 1 = .ok (.iconst 1, 1) := by decide +kernel
theorem dX10_joined_2 : decode cX10_joined 2 = .ok (.if_icmp .lt 17, 3) := by decide +kernel
theorem dX10_joined_5 : decode cX10_joined 5 = .ok (.iload_n 1, 1) := by decide +kernel
theorem dX10_joined_6 : decode cX10_joined 6 = .ok (.iconst 2, 1) := by decide +kernel
theorem dX10_joined_7 : decode cX10_joined 7 = .ok (.if_icmp .gt 12, 3) := by decide +kernel
theorem dX10_joined_10 : decode cX10_joined 10 = .ok (.iload_n 2, 1) := by decide +kernel
theorem dX10_joined_11 : decode cX10_joined 11 = .ok (.ifCond .lt 8, 3) := by decide +kernel
theorem dX10_joined_14 : decode cX10_joined 14 = .ok (.iload_n 2, 1) := by decide +kernel
theorem dX10_joined_15 : decode cX10_joined 15 = .ok (.iconst 1, 1) := by decide +kernel
theorem dX10_joined_16 : decode cX10_joined 16 = .ok (.if_icmp .le 7, 3) := by decide +kernel
theorem dX10_joined_19 : decode cX10_joined 19 = .ok (.ldc2_w 155, 3) := by decide +kernel
theorem dX10_joined_22 : decode cX10_joined 22 = .ok (.lreturn, 1) := by decide +kernel
theorem dX10_joined_23 : decode cX10_joined 23 = .ok (.lconst 1, 1) := by decide +kernel
theorem dX10_joined_24 : decode cX10_joined 24 = .ok (.lstore_n 3, 1) := by decide +kernel
theorem dX10_joined_25 : decode cX10_joined 25 = .ok (.iconst 0, 1) := by decide +kernel
theorem dX10_joined_26 : decode cX10_joined 26 = .ok (.istore 5, 2) := by decide +kernel
theorem dX10_joined_28 : decode cX10_joined 28 = .ok (.aload_n 0, 1) := by decide +kernel
theorem dX10_joined_29 : decode cX10_joined 29 = .ok (.getfield 38, 3) := by decide +kernel
theorem dX10_joined_32 : decode cX10_joined 32 = .ok (.invokevirtual 172, 3) := by decide +kernel
theorem dX10_joined_35 : decode cX10_joined 35 = .ok (.iconst 0, 1) := by decide +kernel
theorem dX10_joined_36 : decode cX10_joined 36 = .ok (.istore 6, 2) := by decide +kernel
theorem dX10_joined_38 : decode cX10_joined 38 = .ok (.iload 6, 2) := by decide +kernel
theorem dX10_joined_40 : decode cX10_joined 40 = .ok (.aload_n 0, 1) := by decide +kernel
theorem dX10_joined_41 : decode cX10_joined 41 = .ok (.getfield 49, 3) := by decide +kernel
theorem dX10_joined_44 : decode cX10_joined 44 = .ok (.if_icmp .ge 90, 3) := by decide +kernel
theorem dX10_joined_47 : decode cX10_joined 47 = .ok (.aload_n 0, 1) := by decide +kernel
theorem dX10_joined_48 : decode cX10_joined 48 = .ok (.iload 6, 2) := by decide +kernel
theorem dX10_joined_50 : decode cX10_joined 50 = .ok (.invokevirtual 133, 3) := by decide +kernel
theorem dX10_joined_53 : decode cX10_joined 53 = .ok (.astore 7, 2) := by decide +kernel
theorem dX10_joined_55 : decode cX10_joined 55 = .ok (.aload 7, 2) := by decide +kernel
theorem dX10_joined_57 : decode cX10_joined 57 = .ok (.ifnonnull 7, 3) := by decide +kernel
theorem dX10_joined_60 : decode cX10_joined 60 = .ok (.lconst 0, 1) := by decide +kernel
theorem dX10_joined_61 : decode cX10_joined 61 = .ok (.goto 8, 3) := by decide +kernel
theorem dX10_joined_64 : decode cX10_joined 64 = .ok (.aload 7, 2) := by decide +kernel
theorem dX10_joined_66 : decode cX10_joined 66 = .ok (.invokevirtual 161, 3) := by decide +kernel
theorem dX10_joined_69 : decode cX10_joined 69 = .ok (.lstore 8, 2) := by decide +kernel
theorem dX10_joined_71 : decode cX10_joined 71 = .ok (.aload 7, 2) := by decide +kernel
theorem dX10_joined_73 : decode cX10_joined 73 = .ok (.ifnull 21, 3) := by decide +kernel
theorem dX10_joined_76 : decode cX10_joined 76 = .ok (.lload 8, 2) := by decide +kernel
theorem dX10_joined_78 : decode cX10_joined 78 = .ok (.lconst 1, 1) := by decide +kernel
theorem dX10_joined_79 : decode cX10_joined 79 = .ok (.lcmp, 1) := by decide +kernel
theorem dX10_joined_80 : decode cX10_joined 80 = .ok (.ifCond .lt 14, 3) := by decide +kernel
theorem dX10_joined_83 : decode cX10_joined 83 = .ok (.lload_n 3, 1) := by decide +kernel
theorem dX10_joined_84 : decode cX10_joined 84 = .ok (.ldc2_w 173, 3) := by decide +kernel
theorem dX10_joined_87 : decode cX10_joined 87 = .ok (.lload 8, 2) := by decide +kernel
theorem dX10_joined_89 : decode cX10_joined 89 = .ok (.ldiv, 1) := by decide +kernel
theorem dX10_joined_90 : decode cX10_joined 90 = .ok (.lcmp, 1) := by decide +kernel
theorem dX10_joined_91 : decode cX10_joined 91 = .ok (.ifCond .le 7, 3) := by decide +kernel
theorem dX10_joined_94 : decode cX10_joined 94 = .ok (.ldc2_w 175, 3) := by decide +kernel
theorem dX10_joined_97 : decode cX10_joined 97 = .ok (.lreturn, 1) := by decide +kernel
theorem dX10_joined_98 : decode cX10_joined 98 = .ok (.lload_n 3, 1) := by decide +kernel
theorem dX10_joined_99 : decode cX10_joined 99 = .ok (.lload 8, 2) := by decide +kernel
theorem dX10_joined_101 : decode cX10_joined 101 = .ok (.lmul, 1) := by decide +kernel
theorem dX10_joined_102 : decode cX10_joined 102 = .ok (.lstore_n 3, 1) := by decide +kernel
theorem dX10_joined_103 : decode cX10_joined 103 = .ok (.iload 5, 2) := by decide +kernel
theorem dX10_joined_105 : decode cX10_joined 105 = .ok (.aload 7, 2) := by decide +kernel
theorem dX10_joined_107 : decode cX10_joined 107 = .ok (.getfield 90, 3) := by decide +kernel
theorem dX10_joined_110 : decode cX10_joined 110 = .ok (.invokevirtual 139, 3) := by decide +kernel
theorem dX10_joined_113 : decode cX10_joined 113 = .ok (.iadd, 1) := by decide +kernel
theorem dX10_joined_114 : decode cX10_joined 114 = .ok (.istore 5, 2) := by decide +kernel
theorem dX10_joined_116 : decode cX10_joined 116 = .ok (.aload_n 0, 1) := by decide +kernel
theorem dX10_joined_117 : decode cX10_joined 117 = .ok (.getfield 38, 3) := by decide +kernel
theorem dX10_joined_120 : decode cX10_joined 120 = .ok (.aload 7, 2) := by decide +kernel
theorem dX10_joined_122 : decode cX10_joined 122 = .ok (.invokevirtual 177, 3) := by decide +kernel
theorem dX10_joined_125 : decode cX10_joined 125 = .ok (.invokevirtual 181, 3) := by decide +kernel
theorem dX10_joined_128 : decode cX10_joined 128 = .ok (.iinc 6 1, 3) := by decide +kernel
theorem dX10_joined_131 : decode cX10_joined 131 = .ok (.goto (-93), 3) := by decide +kernel
theorem dX10_joined_134 : decode cX10_joined 134 = .ok (.aload_n 0, 1) := by decide +kernel
theorem dX10_joined_135 : decode cX10_joined 135 = .ok (.getfield 38, 3) := by decide +kernel
theorem dX10_joined_138 : decode cX10_joined 138 = .ok (.iload_n 1, 1) := by decide +kernel
theorem dX10_joined_139 : decode cX10_joined 139 = .ok (.iload 5, 2) := by decide +kernel
theorem dX10_joined_141 : decode cX10_joined 141 = .ok (.invokevirtual 185, 3) := by decide +kernel
theorem dX10_joined_144 : decode cX10_joined 144 = .ok (.lload_n 3, 1) := by decide +kernel
theorem dX10_joined_145 : decode cX10_joined 145 = .ok (.iload_n 2, 1) := by decide +kernel
theorem dX10_joined_146 : decode cX10_joined 146 = .ok (.invokestatic 168, 3) := by decide +kernel
theorem dX10_joined_149 : decode cX10_joined 149 = .ok (.lreturn, 1) := by decide +kernel
set_option maxRecDepth 20000 in
theorem ggX10_strange_X10_findFresh : GoodIn wsX10_strange wsX10_findFresh := goodIn_r _ [5, 6, 7, 8, 9, 4, 10, 11, 12, 13, 14, 15, 16, 17, 18, 19, 20, 21, 22, 23, 24, 25, 26, 27, 28, 29, 30, 31, 32, 33, 34, 35, 36, 37, 38, 39, 40, 41, 42, 43, 44, 45, 46, 47, 48, 49, 50, 51, 52, 53, 54, 55, 56, 57, 58, 59, 60, 61, 62, 63, 64, 65, 66, 67, 68, 69, 70, 71, 72, 73, 74, 75, 76, 77, 78, 79, 80, 81, 82, 83, 84, 85, 86, 87, 88, 89, 90, 91, 92, 93, 94, 95, 96, 97, 98, 99, 100, 101, 102, 103, 104, 105, 106, 107, 108, 109, 110, 111, 112, 113, 114, 115, 116, 117, 118, 119, 120, 121, 122, 123, 223, 224, 225, 226, 227, 228, 229, 230, 231, 232, 233, 234, 235, 236, 237, 238, 239, 240, 241, 242, 243, 244] (by decide +kernel) (by decide +kernel)
set_option maxRecDepth 20000 in
theorem gX10_strange_X10_findFresh : GoodIn wsX10_strange (wsV RX10 133 RX10 yX10_findFresh wsX10_findFresh) := goodIn_app (goodIn_of _ (by decide +kernel)) ggX10_strange_X10_findFresh
set_option maxRecDepth 20000 in
theorem ggX10_strange_X7_strangeTables : GoodIn wsX10_strange wsX7_strangeTables := goodIn_r _ [128, 129, 130, 131, 132, 127, 133, 134, 135, 136, 137, 138, 139, 140, 141, 142, 143, 144, 145, 146, 24, 25, 26, 27, 28, 147, 148, 149, 150, 33, 34, 35, 36, 37, 38, 151, 90, 91, 92, 93, 152, 153, 154, 155, 156, 157, 158, 159, 160, 161, 72, 73, 16, 74, 19, 20, 75, 76, 69, 77, 46, 47, 48, 49, 50, 162, 64, 65, 66, 22, 67, 68, 70, 163, 164, 165, 166, 167, 168, 95, 96, 97, 21, 169, 170, 171, 172, 173, 174, 175, 176, 177, 178, 179, 180, 181, 182, 183, 184, 185, 186, 187, 188, 189, 190, 191, 192, 40, 41, 42, 193, 44, 45, 194, 195, 196, 197, 198, 108, 109, 110, 111, 199, 200, 201, 202, 203, 204, 205, 206, 207, 208, 209, 210, 211, 212, 213, 214, 215, 216, 217, 218, 219, 220, 221, 222, 223, 224, 225, 226, 245, 246, 247, 248, 249, 250, 251, 238, 239, 240, 241, 242, 243, 244, 233, 234, 235, 236, 237, 252, 253, 254, 255, 256, 257, 258] (by decide +kernel) (by decide +kernel)
set_option maxRecDepth 20000 in
theorem gX10_strange_X7_strangeTables : GoodIn wsX10_strange (wsV RX10 189 RX7 yX7_strangeTables wsX7_strangeTables) := goodIn_app (goodIn_of _ (by decide +kernel)) ggX10_strange_X7_strangeTables
theorem dX10_strange_0 : decode cX10_strange 0 = .ok (.aload_n 0, 1) := by decide +kernel
theorem dX10_strange_1 : decode cX10_strange 1 = .ok (.iload_n 1, 1) := by decide +kernel
theorem dX10_strange_2 : decode cX10_strange 2 = .ok (.invokevirtual 133, 3) := by decide +kernel
theorem dX10_strange_5 : decode cX10_strange 5 = .ok (.astore_n 3, 1) := by decide +kernel
theorem dX10_strange_6 : decode cX10_strange 6 = .ok (.aload_n 3, 1) := by decide +kernel
theorem dX10_strange_7 : decode cX10_strange 7 = .ok (.ifnull 12, 3) := by decide +kernel
theorem dX10_strange_10 : decode cX10_strange 10 = .ok (.iload_n 2, 1) := by decide +kernel
theorem dX10_strange_11 : decode cX10_strange 11 = .ok (.ifCond .lt 8, 3) := by decide +kernel
theorem dX10_strange_14 : decode cX10_strange 14 = .ok (.iload_n 2, 1) := by decide +kernel
theorem dX10_strange_15 : decode cX10_strange 15 = .ok (.iconst 2, 1) := by decide +kernel
theorem dX10_strange_16 : decode cX10_strange 16 = .ok (.if_icmp .le 5, 3) := by decide +kernel
theorem dX10_strange_19 : decode cX10_strange 19 = .ok (.iconst (-1), 1) := by decide +kernel
theorem dX10_strange_20 : decode cX10_strange 20 = .ok (.ireturn, 1) := by decide +kernel
theorem dX10_strange_21 : decode cX10_strange 21 = .ok (.aload_n 3, 1) := by decide +kernel
theorem dX10_strange_22 : decode cX10_strange 22 = .ok (.iload_n 2, 1) := by decide +kernel
theorem dX10_strange_23 : decode cX10_strange 23 = .ok (.invokevirtual 189, 3) := by decide +kernel
theorem dX10_strange_26 : decode cX10_strange 26 = .ok (.ireturn, 1) := by decide +kernel
set_option maxRecDepth 20000 in
theorem ggX10_node_X10_findFresh : GoodIn wsX10_node wsX10_findFresh := goodIn_r _ [9, 3, 10, 11, 12, 8, 13, 14, 15, 16, 17, 18, 19, 20, 21, 22, 23, 24, 25, 26, 27, 28, 29, 30, 31, 32, 33, 34, 35, 36, 37, 38, 39, 40, 41, 42, 43, 44, 45, 46, 47, 48, 49, 50, 51, 52, 53, 54, 55, 56, 57, 58, 59, 60, 61, 62, 63, 64, 65, 66, 67, 68, 69, 70, 71, 72, 73, 74, 75, 76, 77, 78, 79, 80, 81, 82, 83, 84, 85, 86, 87, 88, 89, 90, 91, 92, 93, 94, 95, 96, 97, 98, 99, 100, 101, 102, 103, 104, 105, 106, 107, 108, 109, 110, 111, 112, 113, 114, 115, 116, 117, 118, 119, 120, 121, 122, 123, 124, 125, 126, 131, 132, 133, 134, 135, 136, 137, 138, 139, 140, 141, 142, 143, 144, 145, 146, 147, 148, 149, 150, 151, 152] (by decide +kernel) (by decide +kernel)
set_option maxRecDepth 20000 in
theorem gX10_node_X10_findFresh : GoodIn wsX10_node (wsV RX10 133 RX10 yX10_findFresh wsX10_findFresh) := goodIn_app (goodIn_of _ (by decide +kernel)) ggX10_node_X10_findFresh
set_option maxRecDepth 20000 in
theorem ggX10_node_X0_size : GoodIn wsX10_node wsX0_size := goodIn_r _ [61, 36, 146, 147, 148, 149, 150, 151, 152] (by decide +kernel) (by decide +kernel)
set_option maxRecDepth 20000 in
theorem gX10_node_X0_size : GoodIn wsX10_node (wsV RX10 121 RX0 yX0_size wsX0_size) := goodIn_app (goodIn_of _ (by decide +kernel)) ggX10_node_X0_size
set_option maxRecDepth 20000 in
theorem ggX10_node_X0_allAbove : GoodIn wsX10_node wsX0_allAbove := goodIn_r _ [35, 36, 37, 38, 39, 29, 40, 41, 146, 147, 148, 149, 150, 151, 152] (by decide +kernel) (by decide +kernel)
set_option maxRecDepth 20000 in
theorem gX10_node_X0_allAbove : GoodIn wsX10_node (wsV RX10 122 RX0 yX0_allAbove wsX0_allAbove) := goodIn_app (goodIn_of _ (by decide +kernel)) ggX10_node_X0_allAbove
set_option maxRecDepth 20000 in
theorem ggX10_node_X2_isThere : GoodIn wsX10_node wsX2_isThere := goodIn_r _ [122, 97, 98, 99, 19, 100, 24, 141, 142, 143, 144, 145] (by decide +kernel) (by decide +kernel)
set_option maxRecDepth 20000 in
theorem gX10_node_X2_isThere : GoodIn wsX10_node (wsV RX10 192 RX2 yX2_isThere wsX2_isThere) := goodIn_app (goodIn_of _ (by decide +kernel)) ggX10_node_X2_isThere
set_option maxRecDepth 20000 in
theorem ggX10_node_X2_at : GoodIn wsX10_node wsX2_at := goodIn_r _ [100, 24, 141, 142, 143, 144, 145] (by decide +kernel) (by decide +kernel)
set_option maxRecDepth 20000 in
theorem gX10_node_X2_at : GoodIn wsX10_node (wsV RX10 151 RX2 yX2_at wsX2_at) := goodIn_app (goodIn_of _ (by decide +kernel)) ggX10_node_X2_at
theorem dX10_node_0 : decode cX10_node 0 = .ok (.aload_n 0, 1) := by decide +kernel
theorem dX10_node_1 : decode cX10_node 1 = .ok (.iload_n 1, 1) := by decide +kernel
theorem dX10_node_2 : decode cX10_node 2 = .ok (.invokevirtual 133, 3) := by decide +kernel
theorem dX10_node_5 : decode cX10_node 5 = .ok (.astore 5, 2) := by decide +kernel
theorem dX10_node_7 : decode cX10_node 7 = .ok (.aload 5, 2) := by decide +kernel
theorem dX10_node_9 : decode cX10_node 9 = .ok (.ifnull 14, 3) := by decide +kernel
theorem dX10_node_12 : decode cX10_node 12 = .ok (.iload 4, 2) := by decide +kernel
theorem dX10_node_14 : decode cX10_node 14 = .ok (.ifCond .lt 9, 3) := by decide +kernel
theorem dX10_node_17 : decode cX10_node 17 = .ok (.iload 4, 2) := by decide +kernel
theorem dX10_node_19 : decode cX10_node 19 = .ok (.iconst 3, 1) := by decide +kernel
theorem dX10_node_20 : decode cX10_node 20 = .ok (.if_icmp .le 7, 3) := by decide +kernel
theorem dX10_node_23 : decode cX10_node 23 = .ok (.ldc2_w 155, 3) := by decide +kernel
theorem dX10_node_26 : decode cX10_node 26 = .ok (.lreturn, 1) := by decide +kernel
theorem dX10_node_27 : decode cX10_node 27 = .ok (.iload_n 2, 1) := by decide +kernel
theorem dX10_node_28 : decode cX10_node 28 = .ok (.ifCond .lt 31, 3) := by decide +kernel
theorem dX10_node_31 : decode cX10_node 31 = .ok (.iload_n 2, 1) := by decide +kernel
theorem dX10_node_32 : decode cX10_node 32 = .ok (.aload 5, 2) := by decide +kernel
theorem dX10_node_34 : decode cX10_node 34 = .ok (.getfield 90, 3) := by decide +kernel
theorem dX10_node_37 : decode cX10_node 37 = .ok (.invokevirtual 121, 3) := by decide +kernel
theorem dX10_node_40 : decode cX10_node 40 = .ok (.if_icmp .gt 19, 3) := by decide +kernel
theorem dX10_node_43 : decode cX10_node 43 = .ok (.iload_n 3, 1) := by decide +kernel
theorem dX10_node_44 : decode cX10_node 44 = .ok (.ifCond .lt 15, 3) := by decide +kernel
theorem dX10_node_47 : decode cX10_node 47 = .ok (.iload_n 3, 1) := by decide +kernel
theorem dX10_node_48 : decode cX10_node 48 = .ok (.aload 5, 2) := by decide +kernel
theorem dX10_node_50 : decode cX10_node 50 = .ok (.getfield 90, 3) := by decide +kernel
theorem dX10_node_53 : decode cX10_node 53 = .ok (.invokevirtual 122, 3) := by decide +kernel
theorem dX10_node_56 : decode cX10_node 56 = .ok (.if_icmp .le 7, 3) := by decide +kernel
theorem dX10_node_59 : decode cX10_node 59 = .ok (.ldc2_w 155, 3) := by decide +kernel
theorem dX10_node_62 : decode cX10_node 62 = .ok (.lreturn, 1) := by decide +kernel
theorem dX10_node_63 : decode cX10_node 63 = .ok (.aload 5, 2) := by decide +kernel
theorem dX10_node_65 : decode cX10_node 65 = .ok (.getfield 145, 3) := by decide +kernel
theorem dX10_node_68 : decode cX10_node 68 = .ok (.iload_n 2, 1) := by decide +kernel
theorem dX10_node_69 : decode cX10_node 69 = .ok (.iload_n 3, 1) := by decide +kernel
theorem dX10_node_70 : decode cX10_node 70 = .ok (.invokevirtual 192, 3) := by decide +kernel
theorem dX10_node_73 : decode cX10_node 73 = .ok (.ifCond .eq 18, 3) := by decide +kernel
theorem dX10_node_76 : decode cX10_node 76 = .ok (.aload 5, 2) := by decide +kernel
theorem dX10_node_78 : decode cX10_node 78 = .ok (.getfield 145, 3) := by decide +kernel
theorem dX10_node_81 : decode cX10_node 81 = .ok (.iload 4, 2) := by decide +kernel
theorem dX10_node_83 : decode cX10_node 83 = .ok (.iload_n 2, 1) := by decide +kernel
theorem dX10_node_84 : decode cX10_node 84 = .ok (.iload_n 3, 1) := by decide +kernel
theorem dX10_node_85 : decode cX10_node 85 = .ok (.invokevirtual 151, 3) := by decide +kernel
theorem dX10_node_88 : decode cX10_node 88 = .ok (.goto 6, 3) := by decide +kernel
theorem dX10_node_91 : decode cX10_node 91 = .ok (.ldc2_w 175, 3) := by decide +kernel
theorem dX10_node_94 : decode cX10_node 94 = .ok (.lreturn, 1) := by decide +kernel
set_option maxRecDepth 20000 in
theorem ggX10_looks_X10_findFresh : GoodIn wsX10_looks wsX10_findFresh := goodIn_r _ [6, 1, 7, 8, 9, 5, 10, 11, 12, 13, 14, 15, 16, 17, 18, 19, 20, 21, 22, 23, 24, 25, 26, 27, 28, 29, 30, 31, 32, 33, 34, 35, 36, 37, 38, 39, 40, 41, 42, 43, 44, 45, 46, 47, 48, 49, 50, 51, 52, 53, 54, 55, 56, 57, 58, 59, 60, 61, 62, 63, 64, 65, 66, 67, 68, 69, 70, 71, 72, 73, 74, 75, 76, 77, 78, 79, 80, 81, 82, 83, 84, 85, 86, 87, 88, 89, 90, 91, 92, 93, 94, 95, 96, 97, 98, 99, 100, 101, 102, 103, 104, 105, 106, 107, 108, 109, 110, 111, 112, 113, 114, 115, 116, 117, 118, 119, 120, 121, 122, 123, 169, 170, 171, 172, 173, 174, 175, 176, 177, 178, 179, 180, 181, 182, 183, 184, 185, 186, 187, 188, 189, 190] (by decide +kernel) (by decide +kernel)
set_option maxRecDepth 20000 in
theorem gX10_looks_X10_findFresh : GoodIn wsX10_looks (wsV RX10 133 RX10 yX10_findFresh wsX10_findFresh) := goodIn_app (goodIn_of _ (by decide +kernel)) ggX10_looks_X10_findFresh
set_option maxRecDepth 20000 in
theorem ggX10_looks_X7_freshRare : GoodIn wsX10_looks wsX7_freshRare := goodIn_r _ [128, 129, 130, 131, 132, 133, 134, 135, 136, 137, 138, 139, 140, 141, 24, 25, 26, 27, 28, 142, 143, 144, 145, 33, 34, 35, 36, 37, 38, 146, 90, 91, 92, 93, 147, 148, 149, 150, 151, 152, 153, 154, 155, 156, 72, 73, 16, 74, 19, 20, 75, 76, 69, 77, 46, 47, 48, 49, 50, 157, 64, 65, 66, 22, 67, 68, 70, 158, 159, 160, 161, 162, 163, 95, 96, 97, 21, 169, 170, 171, 172, 191, 192, 193, 194, 195, 196, 197, 184, 185, 186, 187, 188, 189, 190, 179, 180, 181, 182, 183] (by decide +kernel) (by decide +kernel)
set_option maxRecDepth 20000 in
theorem gX10_looks_X7_freshRare : GoodIn wsX10_looks (wsV RX10 196 RX7 yX7_freshRare wsX7_freshRare) := goodIn_app (goodIn_of _ (by decide +kernel)) ggX10_looks_X7_freshRare
set_option maxRecDepth 20000 in
theorem ggX10_looks_X4_lookCount : GoodIn wsX10_looks wsX4_lookCount := goodIn_r _ [167, 140, 191, 192, 193, 194, 195, 196, 197] (by decide +kernel) (by decide +kernel)
set_option maxRecDepth 20000 in
theorem gX10_looks_X4_lookCount : GoodIn wsX10_looks (wsV RX10 200 RX4 yX4_lookCount wsX4_lookCount) := goodIn_app (goodIn_of _ (by decide +kernel)) ggX10_looks_X4_lookCount
set_option maxRecDepth 20000 in
theorem ggX10_looks_X2_at : GoodIn wsX10_looks wsX2_at := goodIn_r _ [97, 21, 179, 180, 181, 182, 183] (by decide +kernel) (by decide +kernel)
set_option maxRecDepth 20000 in
theorem gX10_looks_X2_at : GoodIn wsX10_looks (wsV RX10 151 RX2 yX2_at wsX2_at) := goodIn_app (goodIn_of _ (by decide +kernel)) ggX10_looks_X2_at
theorem dX10_looks_0 : decode cX10_looks 0 = .ok (.aload_n 0, 1) := by decide +kernel
theorem dX10_looks_1 : decode cX10_looks 1 = .ok (.iload_n 1, 1) := by decide +kernel
theorem dX10_looks_2 : decode cX10_looks 2 = .ok (.invokevirtual 133, 3) := by decide +kernel
theorem dX10_looks_5 : decode cX10_looks 5 = .ok (.astore_n 3, 1) := by decide +kernel
theorem dX10_looks_6 : decode cX10_looks 6 = .ok (.aload_n 3, 1) := by decide +kernel
theorem dX10_looks_7 : decode cX10_looks 7 = .ok (.ifnonnull 5, 3) := by decide +kernel
theorem dX10_looks_10 : decode cX10_looks 10 = .ok (.iconst (-1), 1) := by decide +kernel
theorem dX10_looks_11 : decode cX10_looks 11 = .ok (.ireturn, 1) := by decide +kernel
theorem dX10_looks_12 : decode cX10_looks 12 = .ok (.iload_n 2, 1) := by decide +kernel
theorem dX10_looks_13 : decode cX10_looks 13 = .ok (.lookupswitch 47 #[(0, 27), (1, 35)], 27) := by decide +kernel
theorem dX10_looks_40 : decode cX10_looks 40 = .ok (.aload_n 3, 1) := by decide +kernel
theorem dX10_looks_41 : decode cX10_looks 41 = .ok (.invokevirtual 196, 3) := by decide +kernel
theorem dX10_looks_44 : decode cX10_looks 44 = .ok (.invokevirtual 200, 3) := by decide +kernel
theorem dX10_looks_47 : decode cX10_looks 47 = .ok (.ireturn, 1) := by decide +kernel
theorem dX10_looks_48 : decode cX10_looks 48 = .ok (.aload_n 3, 1) := by decide +kernel
theorem dX10_looks_49 : decode cX10_looks 49 = .ok (.getfield 145, 3) := by decide +kernel
theorem dX10_looks_52 : decode cX10_looks 52 = .ok (.iconst 5, 1) := by decide +kernel
theorem dX10_looks_53 : decode cX10_looks 53 = .ok (.iconst 0, 1) := by decide +kernel
theorem dX10_looks_54 : decode cX10_looks 54 = .ok (.iconst 0, 1) := by decide +kernel
theorem dX10_looks_55 : decode cX10_looks 55 = .ok (.invokevirtual 151, 3) := by decide +kernel
theorem dX10_looks_58 : decode cX10_looks 58 = .ok (.l2i, 1) := by decide +kernel
theorem dX10_looks_59 : decode cX10_looks 59 = .ok (.ireturn, 1) := by decide +kernel
theorem dX10_looks_60 : decode cX10_looks 60 = .ok (.iconst (-1), 1) := by decide +kernel
theorem dX10_looks_61 : decode cX10_looks 61 = .ok (.ireturn, 1) := by decide +kernel
set_option maxRecDepth 20000 in
theorem ggX10_table_X10_findFresh : GoodIn wsX10_table wsX10_findFresh := goodIn_r _ [6, 7, 8, 9, 10, 5, 11, 12, 13, 14, 15, 16, 17, 18, 19, 20, 21, 22, 23, 24, 25, 26, 27, 28, 29, 30, 31, 32, 33, 34, 35, 36, 37, 38, 39, 40, 41, 42, 43, 44, 45, 46, 47, 48, 49, 50, 51, 52, 53, 54, 55, 56, 57, 58, 59, 60, 61, 62, 63, 64, 65, 66, 67, 68, 69, 70, 71, 72, 73, 74, 75, 76, 77, 78, 79, 80, 81, 82, 83, 84, 85, 86, 87, 88, 89, 90, 91, 92, 93, 94, 95, 96, 97, 98, 99, 100, 101, 102, 103, 104, 105, 106, 107, 108, 109, 110, 111, 112, 113, 114, 115, 116, 117, 118, 119, 120, 121, 122, 123, 124, 144, 145, 146, 147, 148, 149, 150, 151, 152, 153, 154, 155, 156, 157, 158, 159, 160, 161, 162, 163, 164, 165] (by decide +kernel) (by decide +kernel)
set_option maxRecDepth 20000 in
theorem gX10_table_X10_findFresh : GoodIn wsX10_table (wsV RX10 133 RX10 yX10_findFresh wsX10_findFresh) := goodIn_app (goodIn_of _ (by decide +kernel)) ggX10_table_X10_findFresh
set_option maxRecDepth 20000 in
theorem ggX10_table_X0_has : GoodIn wsX10_table wsX0_has := goodIn_r _ [128, 34, 159, 160, 161, 162, 163, 164, 165] (by decide +kernel) (by decide +kernel)
set_option maxRecDepth 20000 in
theorem gX10_table_X0_has : GoodIn wsX10_table (wsV RX10 94 RX0 yX0_has wsX0_has) := goodIn_app (goodIn_of _ (by decide +kernel)) ggX10_table_X0_has
set_option maxRecDepth 20000 in
theorem ggX10_table_X7_tableCount : GoodIn wsX10_table wsX7_tableCount := goodIn_r _ [133, 134, 135, 96, 97, 17, 98, 22, 144, 145, 146, 147, 154, 155, 156, 157, 158] (by decide +kernel) (by decide +kernel)
set_option maxRecDepth 20000 in
theorem gX10_table_X7_tableCount : GoodIn wsX10_table (wsV RX10 142 RX7 yX7_tableCount wsX7_tableCount) := goodIn_app (goodIn_of _ (by decide +kernel)) ggX10_table_X7_tableCount
set_option maxRecDepth 20000 in
theorem ggX10_table_X7_numberIn : GoodIn wsX10_table wsX7_numberIn := goodIn_r _ [139, 140, 134, 141, 57, 58, 27, 59, 34, 142, 73, 74, 17, 75, 20, 21, 76, 77, 70, 78, 47, 48, 49, 50, 51, 143, 65, 66, 67, 23, 68, 69, 71, 135, 96, 97, 98, 22, 144, 145, 146, 147, 159, 160, 161, 162, 163, 164, 165, 154, 155, 156, 157, 158] (by decide +kernel) (by decide +kernel)
set_option maxRecDepth 20000 in
theorem gX10_table_X7_numberIn : GoodIn wsX10_table (wsV RX10 205 RX7 yX7_numberIn wsX7_numberIn) := goodIn_app (goodIn_of _ (by decide +kernel)) ggX10_table_X7_numberIn
theorem dX10_table_0 : decode cX10_table 0 = .ok (.aload_n 0, 1) := by decide +kernel
theorem dX10_table_1 : decode cX10_table 1 = .ok (.iload_n 1, 1) := by decide +kernel
theorem dX10_table_2 : decode cX10_table 2 = .ok (.invokevirtual 133, 3) := by decide +kernel
theorem dX10_table_5 : decode cX10_table 5 = .ok (.astore 4, 2) := by decide +kernel
theorem dX10_table_7 : decode cX10_table 7 = .ok (.aload 4, 2) := by decide +kernel
theorem dX10_table_9 : decode cX10_table 9 = .ok (.ifnull 28, 3) := by decide +kernel
theorem dX10_table_12 : decode cX10_table 12 = .ok (.aload 4, 2) := by decide +kernel
theorem dX10_table_14 : decode cX10_table 14 = .ok (.getfield 90, 3) := by decide +kernel
theorem dX10_table_17 : decode cX10_table 17 = .ok (.iload_n 3, 1) := by decide +kernel
theorem dX10_table_18 : decode cX10_table 18 = .ok (.invokevirtual 94, 3) := by decide +kernel
theorem dX10_table_21 : decode cX10_table 21 = .ok (.ifCond .eq 16, 3) := by decide +kernel
theorem dX10_table_24 : decode cX10_table 24 = .ok (.iload_n 2, 1) := by decide +kernel
theorem dX10_table_25 : decode cX10_table 25 = .ok (.ifCond .lt 12, 3) := by decide +kernel
theorem dX10_table_28 : decode cX10_table 28 = .ok (.iload_n 2, 1) := by decide +kernel
theorem dX10_table_29 : decode cX10_table 29 = .ok (.aload 4, 2) := by decide +kernel
theorem dX10_table_31 : decode cX10_table 31 = .ok (.invokevirtual 142, 3) := by decide +kernel
theorem dX10_table_34 : decode cX10_table 34 = .ok (.if_icmp .lt 5, 3) := by decide +kernel
theorem dX10_table_37 : decode cX10_table 37 = .ok (.iconst (-1), 1) := by decide +kernel
theorem dX10_table_38 : decode cX10_table 38 = .ok (.ireturn, 1) := by decide +kernel
theorem dX10_table_39 : decode cX10_table 39 = .ok (.aload 4, 2) := by decide +kernel
theorem dX10_table_41 : decode cX10_table 41 = .ok (.iload_n 2, 1) := by decide +kernel
theorem dX10_table_42 : decode cX10_table 42 = .ok (.iload_n 3, 1) := by decide +kernel
theorem dX10_table_43 : decode cX10_table 43 = .ok (.invokevirtual 205, 3) := by decide +kernel
theorem dX10_table_46 : decode cX10_table 46 = .ok (.ireturn, 1) := by decide +kernel
set_option maxRecDepth 20000 in
theorem ggX10_rank_X10_findFresh : GoodIn wsX10_rank wsX10_findFresh := goodIn_r _ [5, 6, 7, 8, 9, 4, 10, 11, 12, 13, 14, 15, 16, 17, 18, 19, 20, 21, 22, 23, 24, 25, 26, 27, 28, 29, 30, 31, 32, 33, 34, 35, 36, 37, 38, 39, 40, 41, 42, 43, 44, 45, 46, 47, 48, 49, 50, 51, 52, 53, 54, 55, 56, 57, 58, 59, 60, 61, 62, 63, 64, 65, 66, 67, 68, 69, 70, 71, 72, 73, 74, 75, 76, 77, 78, 79, 80, 81, 82, 83, 84, 85, 86, 87, 88, 89, 90, 91, 92, 93, 94, 95, 96, 97, 98, 99, 100, 101, 102, 103, 104, 105, 106, 107, 108, 109, 110, 111, 112, 113, 114, 115, 116, 117, 118, 119, 120, 121, 122, 123, 134, 135, 136, 137, 138, 139, 140, 141, 142, 143, 144, 145, 146, 147, 148, 149, 150, 151, 152, 153, 154, 155] (by decide +kernel) (by decide +kernel)
set_option maxRecDepth 20000 in
theorem gX10_rank_X10_findFresh : GoodIn wsX10_rank (wsV RX10 133 RX10 yX10_findFresh wsX10_findFresh) := goodIn_app (goodIn_of _ (by decide +kernel)) ggX10_rank_X10_findFresh
set_option maxRecDepth 20000 in
theorem ggX10_rank_X7_seenRank : GoodIn wsX10_rank wsX7_seenRank := goodIn_r _ [128, 129, 130, 131, 56, 57, 26, 58, 33, 132, 35, 36, 37, 38, 133, 95, 96, 16, 97, 21, 134, 135, 136, 137, 149, 150, 151, 152, 153, 154, 155, 144, 145, 146, 147, 148] (by decide +kernel) (by decide +kernel)
set_option maxRecDepth 20000 in
theorem gX10_rank_X7_seenRank : GoodIn wsX10_rank (wsV RX10 209 RX7 yX7_seenRank wsX7_seenRank) := goodIn_app (goodIn_of _ (by decide +kernel)) ggX10_rank_X7_seenRank
theorem dX10_rank_0 : decode cX10_rank 0 = .ok (.aload_n 0, 1) := by decide +kernel
theorem dX10_rank_1 : decode cX10_rank 1 = .ok (.iload_n 1, 1) := by decide +kernel
theorem dX10_rank_2 : decode cX10_rank 2 = .ok (.invokevirtual 133, 3) := by decide +kernel
theorem dX10_rank_5 : decode cX10_rank 5 = .ok (.astore_n 2, 1) := by decide +kernel
theorem dX10_rank_6 : decode cX10_rank 6 = .ok (.aload_n 2, 1) := by decide +kernel
theorem dX10_rank_7 : decode cX10_rank 7 = .ok (.ifnonnull 7, 3) := by decide +kernel
theorem dX10_rank_10 : decode cX10_rank 10 = .ok (.iconst (-1), 1) := by decide +kernel
theorem dX10_rank_11 : decode cX10_rank 11 = .ok (.goto 7, 3) := by decide +kernel
theorem dX10_rank_14 : decode cX10_rank 14 = .ok (.aload_n 2, 1) := by decide +kernel
theorem dX10_rank_15 : decode cX10_rank 15 = .ok (.invokevirtual 209, 3) := by decide +kernel
theorem dX10_rank_18 : decode cX10_rank 18 = .ok (.ireturn, 1) := by decide +kernel
set_option maxRecDepth 20000 in
theorem ggX10_likeliest_X10_findFresh : GoodIn wsX10_likeliest wsX10_findFresh := goodIn_r _ [6, 7, 8, 9, 10, 5, 11, 12, 13, 14, 15, 16, 17, 18, 19, 20, 21, 22, 23, 24, 25, 26, 27, 28, 29, 30, 31, 32, 33, 34, 35, 36, 37, 38, 39, 40, 41, 42, 43, 44, 45, 46, 47, 48, 49, 50, 51, 52, 53, 54, 55, 56, 57, 58, 59, 60, 61, 62, 63, 64, 65, 66, 67, 68, 69, 70, 71, 72, 73, 74, 75, 76, 77, 78, 79, 80, 81, 82, 83, 84, 85, 86, 87, 88, 89, 90, 91, 92, 93, 94, 95, 96, 97, 98, 99, 100, 101, 102, 103, 104, 105, 106, 107, 108, 109, 110, 111, 112, 113, 114, 115, 116, 117, 118, 119, 120, 121, 122, 123, 124, 141, 142, 143, 144, 145, 146, 147, 148, 149, 150, 151, 152, 153, 154, 155, 156, 157, 158, 159, 160, 161, 162] (by decide +kernel) (by decide +kernel)
set_option maxRecDepth 20000 in
theorem gX10_likeliest_X10_findFresh : GoodIn wsX10_likeliest (wsV RX10 133 RX10 yX10_findFresh wsX10_findFresh) := goodIn_app (goodIn_of _ (by decide +kernel)) ggX10_likeliest_X10_findFresh
set_option maxRecDepth 20000 in
theorem ggX10_likeliest_X0_has : GoodIn wsX10_likeliest wsX0_has := goodIn_r _ [128, 34, 156, 157, 158, 159, 160, 161, 162] (by decide +kernel) (by decide +kernel)
set_option maxRecDepth 20000 in
theorem gX10_likeliest_X0_has : GoodIn wsX10_likeliest (wsV RX10 94 RX0 yX0_has wsX0_has) := goodIn_app (goodIn_of _ (by decide +kernel)) ggX10_likeliest_X0_has
set_option maxRecDepth 20000 in
theorem ggX10_likeliest_X7_numberInLikeliest : GoodIn wsX10_likeliest wsX7_numberInLikeliest := goodIn_r _ [133, 134, 135, 136, 57, 58, 27, 59, 34, 137, 96, 97, 17, 98, 22, 138, 73, 74, 75, 20, 21, 76, 77, 70, 78, 47, 48, 49, 50, 51, 139, 65, 66, 67, 23, 68, 69, 71, 140, 91, 92, 93, 94, 141, 142, 143, 144, 156, 157, 158, 159, 160, 161, 162, 151, 152, 153, 154, 155] (by decide +kernel) (by decide +kernel)
set_option maxRecDepth 20000 in
theorem gX10_likeliest_X7_numberInLikeliest : GoodIn wsX10_likeliest (wsV RX10 212 RX7 yX7_numberInLikeliest wsX7_numberInLikeliest) := goodIn_app (goodIn_of _ (by decide +kernel)) ggX10_likeliest_X7_numberInLikeliest
theorem dX10_likeliest_0 : decode cX10_likeliest 0 = .ok (.aload_n 0, 1) := by decide +kernel
theorem dX10_likeliest_1 : decode cX10_likeliest 1 = .ok (.iload_n 1, 1) := by decide +kernel
theorem dX10_likeliest_2 : decode cX10_likeliest 2 = .ok (.invokevirtual 133, 3) := by decide +kernel
theorem dX10_likeliest_5 : decode cX10_likeliest 5 = .ok (.astore_n 3, 1) := by decide +kernel
theorem dX10_likeliest_6 : decode cX10_likeliest 6 = .ok (.aload_n 3, 1) := by decide +kernel
theorem dX10_likeliest_7 : decode cX10_likeliest 7 = .ok (.ifnull 14, 3) := by decide +kernel
theorem dX10_likeliest_10 : decode cX10_likeliest 10 = .ok (.aload_n 3, 1) := by decide +kernel
theorem dX10_likeliest_11 : decode cX10_likeliest 11 = .ok (.getfield 90, 3) := by decide +kernel
theorem dX10_likeliest_14 : decode cX10_likeliest 14 = .ok (.iload_n 2, 1) := by decide +kernel
theorem dX10_likeliest_15 : decode cX10_likeliest 15 = .ok (.invokevirtual 94, 3) := by decide +kernel
theorem dX10_likeliest_18 : decode cX10_likeliest 18 = .ok (.ifCond .ne 5, 3) := by decide +kernel
theorem dX10_likeliest_21 : decode cX10_likeliest 21 = .ok (.iconst (-1), 1) := by decide +kernel
theorem dX10_likeliest_22 : decode cX10_likeliest 22 = .ok (.ireturn, 1) := by decide +kernel
theorem dX10_likeliest_23 : decode cX10_likeliest 23 = .ok (.aload_n 3, 1) := by decide +kernel
theorem dX10_likeliest_24 : decode cX10_likeliest 24 = .ok (.iload_n 2, 1) := by decide +kernel
theorem dX10_likeliest_25 : decode cX10_likeliest 25 = .ok (.invokevirtual 212, 3) := by decide +kernel
theorem dX10_likeliest_28 : decode cX10_likeliest 28 = .ok (.ireturn, 1) := by decide +kernel
set_option maxRecDepth 20000 in
theorem ggX10_count_X3_size : GoodIn wsX10_count wsX3_size := goodIn_r _ [8, 9, 69, 70, 71, 72] (by decide +kernel) (by decide +kernel)
set_option maxRecDepth 20000 in
theorem gX10_count_X3_size : GoodIn wsX10_count (wsV RX10 132 RX3 yX3_size wsX3_size) := goodIn_app (goodIn_of _ (by decide +kernel)) ggX10_count_X3_size
set_option maxRecDepth 20000 in
theorem ggX10_count_X9_size : GoodIn wsX10_count wsX9_size := goodIn_r _ [14, 15, 73, 74] (by decide +kernel) (by decide +kernel)
set_option maxRecDepth 20000 in
theorem gX10_count_X9_size : GoodIn wsX10_count (wsV RX10 79 RX9 yX9_size wsX9_size) := goodIn_app (goodIn_of _ (by decide +kernel)) ggX10_count_X9_size
set_option maxRecDepth 20000 in
theorem ggX10_count_X10_countInStrata : GoodIn wsX10_count wsX10_countInStrata := goodIn_r _ [20, 1, 21, 22, 23, 24, 19, 25, 26, 27, 28, 29, 30, 31, 32, 33, 34, 35, 36, 37, 38, 39, 40, 41, 42, 43, 44, 45, 46, 47, 48, 49, 50, 51, 52, 53, 54, 55, 56, 57, 58, 59, 60, 61, 62, 63, 64, 65, 66, 67, 68, 75, 76, 77, 78, 79, 80, 81, 82, 83, 84, 85] (by decide +kernel) (by decide +kernel)
set_option maxRecDepth 20000 in
theorem gX10_count_X10_countInStrata : GoodIn wsX10_count (wsV RX10 215 RX10 yX10_countInStrata wsX10_countInStrata) := goodIn_app (goodIn_of _ (by decide +kernel)) ggX10_count_X10_countInStrata
theorem dX10_count_0 : decode cX10_count 0 = .ok (.iload_n 1, 1) := by decide +kernel
theorem dX10_count_1 : decode cX10_count 1 = .ok (.lookupswitch 56 #[(0, 35), (5, 40), (6, 48)], 35) := by decide +kernel
theorem dX10_count_36 : decode cX10_count 36 = .ok (.aload_n 0, 1) := by decide +kernel
theorem dX10_count_37 : decode cX10_count 37 = .ok (.getfield 49, 3) := by decide +kernel
theorem dX10_count_40 : decode cX10_count 40 = .ok (.ireturn, 1) := by decide +kernel
theorem dX10_count_41 : decode cX10_count 41 = .ok (.aload_n 0, 1) := by decide +kernel
theorem dX10_count_42 : decode cX10_count 42 = .ok (.getfield 31, 3) := by decide +kernel
theorem dX10_count_45 : decode cX10_count 45 = .ok (.invokevirtual 132, 3) := by decide +kernel
theorem dX10_count_48 : decode cX10_count 48 = .ok (.ireturn, 1) := by decide +kernel
theorem dX10_count_49 : decode cX10_count 49 = .ok (.aload_n 0, 1) := by decide +kernel
theorem dX10_count_50 : decode cX10_count 50 = .ok (.getfield 15, 3) := by decide +kernel
theorem dX10_count_53 : decode cX10_count 53 = .ok (.invokevirtual 79, 3) := by decide +kernel
theorem dX10_count_56 : decode cX10_count 56 = .ok (.ireturn, 1) := by decide +kernel
theorem dX10_count_57 : decode cX10_count 57 = .ok (.iload_n 1, 1) := by decide +kernel
theorem dX10_count_58 : decode cX10_count 58 = .ok (.ifCond .lt 8, 3) := by decide +kernel
theorem dX10_count_61 : decode cX10_count 61 = .ok (.iload_n 1, 1) := by decide +kernel
theorem dX10_count_62 : decode cX10_count 62 = .ok (.iconst 4, 1) := by decide +kernel
theorem dX10_count_63 : decode cX10_count 63 = .ok (.if_icmp .le 7, 3) := by decide +kernel
theorem dX10_count_66 : decode cX10_count 66 = .ok (.iconst (-1), 1) := by decide +kernel
theorem dX10_count_67 : decode cX10_count 67 = .ok (.goto 8, 3) := by decide +kernel
theorem dX10_count_70 : decode cX10_count 70 = .ok (.aload_n 0, 1) := by decide +kernel
theorem dX10_count_71 : decode cX10_count 71 = .ok (.iload_n 1, 1) := by decide +kernel
theorem dX10_count_72 : decode cX10_count 72 = .ok (.invokevirtual 215, 3) := by decide +kernel
theorem dX10_count_75 : decode cX10_count 75 = .ok (.ireturn, 1) := by decide +kernel
set_option maxRecDepth 20000 in
theorem ggX10_countInStrata_X10_find : GoodIn wsX10_countInStrata wsX10_find := goodIn_r _ [7, 1, 8, 45, 46, 47, 48, 49, 50] (by decide +kernel) (by decide +kernel)
set_option maxRecDepth 20000 in
theorem gX10_countInStrata_X10_find : GoodIn wsX10_countInStrata (wsV RX10 86 RX10 yX10_find wsX10_find) := goodIn_app (goodIn_of _ (by decide +kernel)) ggX10_countInStrata_X10_find
set_option maxRecDepth 20000 in
theorem ggX10_countInStrata_X10_countInColumns : GoodIn wsX10_countInStrata wsX10_countInColumns := goodIn_r _ [11, 12, 13, 14, 15, 16, 17, 18, 19, 20, 21, 22, 23, 24, 25, 26, 27, 28, 29, 30, 31, 32, 33, 34, 35, 36, 37, 38, 39, 40, 41, 42, 43, 44, 55, 56, 57, 58, 59, 60, 61] (by decide +kernel) (by decide +kernel)
set_option maxRecDepth 20000 in
theorem gX10_countInStrata_X10_countInColumns : GoodIn wsX10_countInStrata (va_wsS RX10 218 yX10_countInColumns wsX10_countInColumns) := goodIn_app (goodIn_of _ (by decide +kernel)) ggX10_countInStrata_X10_countInColumns
theorem dX10_countInStrata_0 : decode cX10_countInStrata 0 = .ok (.iconst 0, 1) := by decide +kernel
theorem dX10_countInStrata_1 : decode cX10_countInStrata 1 = .ok (.istore_n 2, 1) := by decide +kernel
theorem dX10_countInStrata_2 : decode cX10_countInStrata 2 = .ok (.iconst 0, 1) := by decide +kernel
theorem dX10_countInStrata_3 : decode cX10_countInStrata 3 = .ok (.istore_n 3, 1) := by decide +kernel
theorem dX10_countInStrata_4 : decode cX10_countInStrata 4 = .ok (.iload_n 3, 1) := by decide +kernel
theorem dX10_countInStrata_5 : decode cX10_countInStrata 5 = .ok (.aload_n 0, 1) := by decide +kernel
theorem dX10_countInStrata_6 : decode cX10_countInStrata 6 = .ok (.getfield 49, 3) := by decide +kernel
theorem dX10_countInStrata_9 : decode cX10_countInStrata 9 = .ok (.if_icmp .ge 33, 3) := by decide +kernel
theorem dX10_countInStrata_12 : decode cX10_countInStrata 12 = .ok (.aload_n 0, 1) := by decide +kernel
theorem dX10_countInStrata_13 : decode cX10_countInStrata 13 = .ok (.iload_n 3, 1) := by decide +kernel
theorem dX10_countInStrata_14 : decode cX10_countInStrata 14 = .ok (.invokevirtual 86, 3) := by decide +kernel
theorem dX10_countInStrata_17 : decode cX10_countInStrata 17 = .ok (.astore 4, 2) := by decide +kernel
theorem dX10_countInStrata_19 : decode cX10_countInStrata 19 = .ok (.aload 4, 2) := by decide +kernel
theorem dX10_countInStrata_21 : decode cX10_countInStrata 21 = .ok (.ifnull 15, 3) := by decide +kernel
theorem dX10_countInStrata_24 : decode cX10_countInStrata 24 = .ok (.iload_n 2, 1) := by decide +kernel
theorem dX10_countInStrata_25 : decode cX10_countInStrata 25 = .ok (.aload 4, 2) := by decide +kernel
theorem dX10_countInStrata_27 : decode cX10_countInStrata 27 = .ok (.getfield 90, 3) := by decide +kernel
theorem dX10_countInStrata_30 : decode cX10_countInStrata 30 = .ok (.iload_n 1, 1) := by decide +kernel
theorem dX10_countInStrata_31 : decode cX10_countInStrata 31 = .ok (.invokestatic 218, 3) := by decide +kernel
theorem dX10_countInStrata_34 : decode cX10_countInStrata 34 = .ok (.iadd, 1) := by decide +kernel
theorem dX10_countInStrata_35 : decode cX10_countInStrata 35 = .ok (.istore_n 2, 1) := by decide +kernel
theorem dX10_countInStrata_36 : decode cX10_countInStrata 36 = .ok (.iinc 3 1, 3) := by decide +kernel
theorem dX10_countInStrata_39 : decode cX10_countInStrata 39 = .ok (.goto (-35), 3) := by decide +kernel
theorem dX10_countInStrata_42 : decode cX10_countInStrata 42 = .ok (.iload_n 2, 1) := by decide +kernel
theorem dX10_countInStrata_43 : decode cX10_countInStrata 43 = .ok (.ireturn, 1) := by decide +kernel
set_option maxRecDepth 20000 in
theorem ggX10_countInColumns_X0_size : GoodIn wsX10_countInColumns wsX0_size := goodIn_r _ [5, 6, 34, 35, 36, 37, 38, 39, 40] (by decide +kernel) (by decide +kernel)
set_option maxRecDepth 20000 in
theorem gX10_countInColumns_X0_size : GoodIn wsX10_countInColumns (wsV RX10 121 RX0 yX0_size wsX0_size) := goodIn_app (goodIn_of _ (by decide +kernel)) ggX10_countInColumns_X0_size
set_option maxRecDepth 20000 in
theorem ggX10_countInColumns_X0_allTotal : GoodIn wsX10_countInColumns wsX0_allTotal := goodIn_r _ [10, 6, 11, 12, 13, 4, 14, 15, 34, 35, 36, 37, 38, 39, 40] (by decide +kernel) (by decide +kernel)
set_option maxRecDepth 20000 in
theorem gX10_countInColumns_X0_allTotal : GoodIn wsX10_countInColumns (wsV RX10 136 RX0 yX0_allTotal wsX0_allTotal) := goodIn_app (goodIn_of _ (by decide +kernel)) ggX10_countInColumns_X0_allTotal
set_option maxRecDepth 20000 in
theorem ggX10_countInColumns_X0_allAbove : GoodIn wsX10_countInColumns wsX0_allAbove := goodIn_r _ [19, 6, 20, 21, 22, 4, 23, 24, 34, 35, 36, 37, 38, 39, 40] (by decide +kernel) (by decide +kernel)
set_option maxRecDepth 20000 in
theorem gX10_countInColumns_X0_allAbove : GoodIn wsX10_countInColumns (wsV RX10 122 RX0 yX0_allAbove wsX0_allAbove) := goodIn_app (goodIn_of _ (by decide +kernel)) ggX10_countInColumns_X0_allAbove
set_option maxRecDepth 20000 in
theorem ggX10_countInColumns_X0_seenSum : GoodIn wsX10_countInColumns wsX0_seenSum := goodIn_r _ [28, 6, 20, 21, 22, 4, 23, 24, 29, 30, 31, 32, 33, 34, 35, 36, 37, 38, 39, 40] (by decide +kernel) (by decide +kernel)
set_option maxRecDepth 20000 in
theorem gX10_countInColumns_X0_seenSum : GoodIn wsX10_countInColumns (wsV RX10 139 RX0 yX0_seenSum wsX0_seenSum) := goodIn_app (goodIn_of _ (by decide +kernel)) ggX10_countInColumns_X0_seenSum
theorem dX10_countInColumns_0 : decode cX10_countInColumns 0 = .ok (.iload_n 1, 1) := by decide +kernel
theorem dX10_countInColumns_1 : decode cX10_countInColumns 1 = .ok (.tableswitch 42 1 3 #[27, 32, 37], 27) := by decide +kernel
theorem dX10_countInColumns_28 : decode cX10_countInColumns 28 = .ok (.aload_n 0, 1) := by decide +kernel
theorem dX10_countInColumns_29 : decode cX10_countInColumns 29 = .ok (.invokevirtual 121, 3) := by decide +kernel
theorem dX10_countInColumns_32 : decode cX10_countInColumns 32 = .ok (.ireturn, 1) := by decide +kernel
theorem dX10_countInColumns_33 : decode cX10_countInColumns 33 = .ok (.aload_n 0, 1) := by decide +kernel
theorem dX10_countInColumns_34 : decode cX10_countInColumns 34 = .ok (.invokevirtual 136, 3) := by decide +kernel
theorem dX10_countInColumns_37 : decode cX10_countInColumns 37 = .ok (.ireturn, 1) := by decide +kernel
theorem dX10_countInColumns_38 : decode cX10_countInColumns 38 = .ok (.aload_n 0, 1) := by decide +kernel
theorem dX10_countInColumns_39 : decode cX10_countInColumns 39 = .ok (.invokevirtual 122, 3) := by decide +kernel
theorem dX10_countInColumns_42 : decode cX10_countInColumns 42 = .ok (.ireturn, 1) := by decide +kernel
theorem dX10_countInColumns_43 : decode cX10_countInColumns 43 = .ok (.aload_n 0, 1) := by decide +kernel
theorem dX10_countInColumns_44 : decode cX10_countInColumns 44 = .ok (.invokevirtual 139, 3) := by decide +kernel
theorem dX10_countInColumns_47 : decode cX10_countInColumns 47 = .ok (.ireturn, 1) := by decide +kernel
theorem dX10_find_0 : decode cX10_find 0 = .ok (.iload_n 1, 1) := by decide +kernel
theorem dX10_find_1 : decode cX10_find 1 = .ok (.ifCond .lt 29, 3) := by decide +kernel
theorem dX10_find_4 : decode cX10_find 4 = .ok (.iload_n 1, 1) := by decide +kernel
theorem dX10_find_5 : decode cX10_find 5 = .ok (.aload_n 0, 1) := by decide +kernel
theorem dX10_find_6 : decode cX10_find 6 = .ok (.getfield 49, 3) := by decide +kernel
theorem dX10_find_9 : decode cX10_find 9 = .ok (.if_icmp .ge 21, 3) := by decide +kernel
theorem dX10_find_12 : decode cX10_find 12 = .ok (.iload_n 1, 1) := by decide +kernel
theorem dX10_find_13 : decode cX10_find 13 = .ok (.aload_n 0, 1) := by decide +kernel
theorem dX10_find_14 : decode cX10_find 14 = .ok (.getfield 44, 3) := by decide +kernel
theorem dX10_find_17 : decode cX10_find 17 = .ok (.arraylength, 1) := by decide +kernel
theorem dX10_find_18 : decode cX10_find 18 = .ok (.if_icmp .ge 12, 3) := by decide +kernel
theorem dX10_find_21 : decode cX10_find 21 = .ok (.aload_n 0, 1) := by decide +kernel
theorem dX10_find_22 : decode cX10_find 22 = .ok (.getfield 44, 3) := by decide +kernel
theorem dX10_find_25 : decode cX10_find 25 = .ok (.iload_n 1, 1) := by decide +kernel
theorem dX10_find_26 : decode cX10_find 26 = .ok (.aaload, 1) := by decide +kernel
theorem dX10_find_27 : decode cX10_find 27 = .ok (.goto 4, 3) := by decide +kernel
theorem dX10_find_30 : decode cX10_find 30 = .ok (.aconst_null, 1) := by decide +kernel
theorem dX10_find_31 : decode cX10_find 31 = .ok (.areturn, 1) := by decide +kernel
set_option maxRecDepth 20000 in
theorem ggX10_findFresh_X10_find : GoodIn wsX10_findFresh wsX10_find := goodIn_r _ [6, 7, 8, 124, 125, 126, 127, 128, 129] (by decide +kernel) (by decide +kernel)
set_option maxRecDepth 20000 in
theorem gX10_findFresh_X10_find : GoodIn wsX10_findFresh (wsV RX10 86 RX10 yX10_find wsX10_find) := goodIn_app (goodIn_of _ (by decide +kernel)) ggX10_findFresh_X10_find
set_option maxRecDepth 20000 in
theorem ggX10_findFresh_X2_refresh : GoodIn wsX10_findFresh wsX2_refresh := goodIn_r _ [13, 14, 15, 16, 17, 18, 19, 20, 21, 22, 23, 24, 25, 26, 27, 28, 29, 30, 31, 32, 33, 34, 35, 36, 37, 38, 39, 40, 41, 42, 43, 44, 45, 46, 47, 48, 49, 12, 50, 51, 52, 53, 54, 55, 56, 57, 58, 59, 60, 61, 62, 63, 64, 65, 66, 67, 68, 69, 70, 71, 72, 73, 74, 75, 76, 77, 78, 79, 80, 81, 82, 83, 84, 85, 86, 87, 88, 89, 90, 91, 92, 93, 94, 95, 96, 97, 98, 99, 100, 101, 102, 103, 104, 105, 106, 107, 108, 109, 110, 111, 112, 113, 114, 115, 116, 117, 118, 119, 130, 131, 132, 133, 134, 135, 136, 137, 138, 139, 140, 141] (by decide +kernel) (by decide +kernel)
set_option maxRecDepth 20000 in
theorem gX10_findFresh_X2_refresh : GoodIn wsX10_findFresh (wsV RX10 222 RX2 yX2_refresh wsX2_refresh) := goodIn_app (goodIn_of _ (by decide +kernel)) ggX10_findFresh_X2_refresh
theorem dX10_findFresh_0 : decode cX10_findFresh 0 = .ok (.aload_n 0, 1) := by decide +kernel
theorem dX10_findFresh_1 : decode cX10_findFresh 1 = .ok (.iload_n 1, 1) := by decide +kernel
theorem dX10_findFresh_2 : decode cX10_findFresh 2 = .ok (.invokevirtual 86, 3) := by decide +kernel
theorem dX10_findFresh_5 : decode cX10_findFresh 5 = .ok (.astore_n 2, 1) := by decide +kernel
theorem dX10_findFresh_6 : decode cX10_findFresh 6 = .ok (.aload_n 2, 1) := by decide +kernel
theorem dX10_findFresh_7 : decode cX10_findFresh 7 = .ok (.ifnull 10, 3) := by decide +kernel
theorem dX10_findFresh_10 : decode cX10_findFresh 10 = .ok (.aload_n 2, 1) := by decide +kernel
theorem dX10_findFresh_11 : decode cX10_findFresh 11 = .ok (.getfield 145, 3) := by decide +kernel
theorem dX10_findFresh_14 : decode cX10_findFresh 14 = .ok (.invokevirtual 222, 3) := by decide +kernel
theorem dX10_findFresh_17 : decode cX10_findFresh 17 = .ok (.aload_n 2, 1) := by decide +kernel
theorem dX10_findFresh_18 : decode cX10_findFresh 18 = .ok (.areturn, 1) := by decide +kernel
set_option maxRecDepth 20000 in
theorem ggX10_takeText_X5_faultOf : GoodIn wsX10_takeText wsX5_faultOf := goodIn_r _ [10, 11, 12, 13, 14, 15, 16, 17, 18, 19, 20, 21, 9, 22, 23, 24, 25, 26, 27, 28, 29, 30, 31, 32, 33, 34, 35, 36, 37, 38, 39, 40, 41, 42, 43, 44, 45, 46, 47, 48, 49, 50, 51, 52, 53, 54, 55, 56, 57, 58, 59, 60, 61, 62, 63, 64, 65, 66, 67, 68, 69, 70, 71, 72, 73, 128, 129, 130, 131, 132, 133, 134, 135, 136, 137, 138, 139, 140] (by decide +kernel) (by decide +kernel)
set_option maxRecDepth 20000 in
theorem gX10_takeText_X5_faultOf : GoodIn wsX10_takeText (wsV RX10 82 RX5 yX5_faultOf wsX5_faultOf) := goodIn_app (goodIn_of _ (by decide +kernel)) ggX10_takeText_X5_faultOf
set_option maxRecDepth 20000 in
theorem ggX10_takeText_X5_canBeLaid : GoodIn wsX10_takeText wsX5_canBeLaid := goodIn_r _ [77, 11, 37, 38, 39, 9, 40, 36, 78, 79, 80, 44, 81, 46, 128, 129, 130, 133, 134, 135, 136, 137, 138, 139] (by decide +kernel) (by decide +kernel)
set_option maxRecDepth 20000 in
theorem gX10_takeText_X5_canBeLaid : GoodIn wsX10_takeText (wsV RX10 225 RX5 yX5_canBeLaid wsX5_canBeLaid) := goodIn_app (goodIn_of _ (by decide +kernel)) ggX10_takeText_X5_canBeLaid
set_option maxRecDepth 20000 in
theorem ggX10_takeText_X5_strataRead : GoodIn wsX10_takeText wsX5_strataRead := goodIn_r _ [85, 11, 128, 129, 130] (by decide +kernel) (by decide +kernel)
set_option maxRecDepth 20000 in
theorem gX10_takeText_X5_strataRead : GoodIn wsX10_takeText (wsV RX10 228 RX5 yX5_strataRead wsX5_strataRead) := goodIn_app (goodIn_of _ (by decide +kernel)) ggX10_takeText_X5_strataRead
set_option maxRecDepth 20000 in
theorem ggX10_takeText_X10_find : GoodIn wsX10_takeText wsX10_find := goodIn_r _ [90, 3, 91, 118, 119, 120, 121, 122, 123] (by decide +kernel) (by decide +kernel)
set_option maxRecDepth 20000 in
theorem gX10_takeText_X10_find : GoodIn wsX10_takeText (wsV RX10 86 RX10 yX10_find wsX10_find) := goodIn_app (goodIn_of _ (by decide +kernel)) ggX10_takeText_X10_find
set_option maxRecDepth 20000 in
theorem ggX10_takeText_X5_draft : GoodIn wsX10_takeText wsX5_draft := goodIn_r _ [40, 11, 36, 128, 129, 130] (by decide +kernel) (by decide +kernel)
set_option maxRecDepth 20000 in
theorem gX10_takeText_X5_draft : GoodIn wsX10_takeText (wsV RX10 231 RX5 yX5_draft wsX5_draft) := goodIn_app (goodIn_of _ (by decide +kernel)) ggX10_takeText_X5_draft
set_option maxRecDepth 20000 in
theorem ggX10_takeText_X0_copyOf : GoodIn wsX10_takeText wsX0_copyOf := goodIn_r _ [96, 97, 42, 43, 44, 45, 46, 47, 98, 79, 80, 81, 99, 100, 101, 102, 63, 103, 104, 105, 106, 64, 107, 108, 109, 110, 65, 111, 60, 61, 62, 66, 67, 68, 69, 70, 71, 72, 73, 133, 134, 135, 136, 137, 138, 139, 140] (by decide +kernel) (by decide +kernel)
set_option maxRecDepth 20000 in
theorem gX10_takeText_X0_copyOf : GoodIn wsX10_takeText (wsV RX10 235 RX0 yX0_copyOf wsX0_copyOf) := goodIn_app (goodIn_of _ (by decide +kernel)) ggX10_takeText_X0_copyOf
set_option maxRecDepth 20000 in
theorem ggX10_takeText_X3_clear : GoodIn wsX10_takeText wsX3_clear := goodIn_r _ [116, 117, 141, 142, 143, 144] (by decide +kernel) (by decide +kernel)
set_option maxRecDepth 20000 in
theorem gX10_takeText_X3_clear : GoodIn wsX10_takeText (wsV RX10 238 RX3 yX3_clear wsX3_clear) := goodIn_app (goodIn_of _ (by decide +kernel)) ggX10_takeText_X3_clear
theorem dX10_takeText_0 : decode cX10_takeText 0 = .ok (.aload_n 0, 1) := by decide +kernel
theorem dX10_takeText_1 : decode cX10_takeText 1 = .ok (.getfield 24, 3) := by decide +kernel
theorem dX10_takeText_4 : decode cX10_takeText 4 = .ok (.aload_n 0, 1) := by decide +kernel
theorem dX10_takeText_5 : decode cX10_takeText 5 = .ok (.getfield 15, 3) := by decide +kernel
theorem dX10_takeText_8 : decode cX10_takeText 8 = .ok (.invokevirtual 82, 3) := by decide +kernel
theorem dX10_takeText_11 : decode cX10_takeText 11 = .ok (.ifCond .ge 13, 3) := by decide +kernel
theorem dX10_takeText_14 : decode cX10_takeText 14 = .ok (.aload_n 0, 1) := by decide +kernel
theorem dX10_takeText_15 : decode cX10_takeText 15 = .ok (.getfield 24, 3) := by decide +kernel
theorem dX10_takeText_18 : decode cX10_takeText 18 = .ok (.invokevirtual 225, 3) := by decide +kernel
theorem dX10_takeText_21 : decode cX10_takeText 21 = .ok (.ifCond .ne 5, 3) := by decide +kernel
theorem dX10_takeText_24 : decode cX10_takeText 24 = .ok (.iconst 0, 1) := by decide +kernel
theorem dX10_takeText_25 : decode cX10_takeText 25 = .ok (.ireturn, 1) := by decide +kernel
theorem dX10_takeText_26 : decode cX10_takeText 26 = .ok (.aload_n 0, 1) := by decide +kernel
theorem dX10_takeText_27 : decode cX10_takeText 27 = .ok (.aload_n 0, 1) := by decide +kernel
theorem dX10_takeText_28 : decode cX10_takeText 28 = .ok (.getfield 24, 3) := by decide +kernel
theorem dX10_takeText_31 : decode cX10_takeText 31 = .ok (.invokevirtual 228, 3) := by decide +kernel
theorem dX10_takeText_34 : decode cX10_takeText 34 = .ok (.putfield 49, 3) := by decide +kernel
theorem dX10_takeText_37 : decode cX10_takeText 37 = .ok (.iconst 0, 1) := by decide +kernel
theorem dX10_takeText_38 : decode cX10_takeText 38 = .ok (.istore_n 1, 1) := by decide +kernel
theorem dX10_takeText_39 : decode cX10_takeText 39 = .ok (.iload_n 1, 1) := by decide +kernel
theorem dX10_takeText_40 : decode cX10_takeText 40 = .ok (.aload_n 0, 1) := by decide +kernel
theorem dX10_takeText_41 : decode cX10_takeText 41 = .ok (.getfield 49, 3) := by decide +kernel
theorem dX10_takeText_44 : decode cX10_takeText 44 = .ok (.if_icmp .ge 34, 3) := by decide +kernel
theorem dX10_takeText_47 : decode cX10_takeText 47 = .ok (.aload_n 0, 1) := by decide +kernel
theorem dX10_takeText_48 : decode cX10_takeText 48 = .ok (.iload_n 1, 1) := by decide +kernel
theorem dX10_takeText_49 : decode cX10_takeText 49 = .ok (.invokevirtual 86, 3) := by decide +kernel
theorem dX10_takeText_52 : decode cX10_takeText 52 = .ok (.astore_n 2, 1) := by decide +kernel
theorem dX10_takeText_53 : decode cX10_takeText 53 = .ok (.aload_n 2, 1) := by decide +kernel
theorem dX10_takeText_54 : decode cX10_takeText 54 = .ok (.ifnull 18, 3) := by decide +kernel
theorem dX10_takeText_57 : decode cX10_takeText 57 = .ok (.aload_n 2, 1) := by decide +kernel
theorem dX10_takeText_58 : decode cX10_takeText 58 = .ok (.getfield 90, 3) := by decide +kernel
theorem dX10_takeText_61 : decode cX10_takeText 61 = .ok (.aload_n 0, 1) := by decide +kernel
theorem dX10_takeText_62 : decode cX10_takeText 62 = .ok (.getfield 24, 3) := by decide +kernel
theorem dX10_takeText_65 : decode cX10_takeText 65 = .ok (.iload_n 1, 1) := by decide +kernel
theorem dX10_takeText_66 : decode cX10_takeText 66 = .ok (.invokevirtual 231, 3) := by decide +kernel
theorem dX10_takeText_69 : decode cX10_takeText 69 = .ok (.invokevirtual 235, 3) := by decide +kernel
theorem dX10_takeText_72 : decode cX10_takeText 72 = .ok (.iinc 1 1, 3) := by decide +kernel
theorem dX10_takeText_75 : decode cX10_takeText 75 = .ok (.goto (-36), 3) := by decide +kernel
theorem dX10_takeText_78 : decode cX10_takeText 78 = .ok (.aload_n 0, 1) := by decide +kernel
theorem dX10_takeText_79 : decode cX10_takeText 79 = .ok (.getfield 31, 3) := by decide +kernel
theorem dX10_takeText_82 : decode cX10_takeText 82 = .ok (.invokevirtual 238, 3) := by decide +kernel
theorem dX10_takeText_85 : decode cX10_takeText 85 = .ok (.iconst 1, 1) := by decide +kernel
theorem dX10_takeText_86 : decode cX10_takeText 86 = .ok (.ireturn, 1) := by decide +kernel
set_option maxRecDepth 20000 in
theorem ggX10_inLowestTerms_X10_commonDivisor : GoodIn wsX10_inLowestTerms wsX10_commonDivisor := goodIn_r _ [5] (by decide +kernel) (by decide +kernel)
set_option maxRecDepth 20000 in
theorem gX10_inLowestTerms_X10_commonDivisor : GoodIn wsX10_inLowestTerms (va_wsS RX10 239 yX10_commonDivisor wsX10_commonDivisor) := goodIn_app (goodIn_of _ (by decide +kernel)) ggX10_inLowestTerms_X10_commonDivisor
theorem dX10_inLowestTerms_0 : decode cX10_inLowestTerms 0 = .ok (.lload_n 0, 1) := by decide +kernel
theorem dX10_inLowestTerms_1 : decode cX10_inLowestTerms 1 = .ok (.lload_n 2, 1) := by decide +kernel
theorem dX10_inLowestTerms_2 : decode cX10_inLowestTerms 2 = .ok (.invokestatic 239, 3) := by decide +kernel
theorem dX10_inLowestTerms_5 : decode cX10_inLowestTerms 5 = .ok (.lstore 5, 2) := by decide +kernel
theorem dX10_inLowestTerms_7 : decode cX10_inLowestTerms 7 = .ok (.lload 5, 2) := by decide +kernel
theorem dX10_inLowestTerms_9 : decode cX10_inLowestTerms 9 = .ok (.lconst 0, 1) := by decide +kernel
theorem dX10_inLowestTerms_10 : decode cX10_inLowestTerms 10 = .ok (.lcmp, 1) := by decide +kernel
theorem dX10_inLowestTerms_11 : decode cX10_inLowestTerms 11 = .ok (.ifCond .ne 7, 3) := by decide +kernel
theorem dX10_inLowestTerms_14 : decode cX10_inLowestTerms 14 = .ok (.ldc2_w 175, 3) := by decide +kernel
theorem dX10_inLowestTerms_17 : decode cX10_inLowestTerms 17 = .ok (.lreturn, 1) := by decide +kernel
theorem dX10_inLowestTerms_18 : decode cX10_inLowestTerms 18 = .ok (.iload 4, 2) := by decide +kernel
theorem dX10_inLowestTerms_20 : decode cX10_inLowestTerms 20 = .ok (.ifCond .ne 7, 3) := by decide +kernel
theorem dX10_inLowestTerms_23 : decode cX10_inLowestTerms 23 = .ok (.lload_n 0, 1) := by decide +kernel
theorem dX10_inLowestTerms_24 : decode cX10_inLowestTerms 24 = .ok (.goto 4, 3) := by decide +kernel
theorem dX10_inLowestTerms_27 : decode cX10_inLowestTerms 27 = .ok (.lload_n 2, 1) := by decide +kernel
theorem dX10_inLowestTerms_28 : decode cX10_inLowestTerms 28 = .ok (.lload 5, 2) := by decide +kernel
theorem dX10_inLowestTerms_30 : decode cX10_inLowestTerms 30 = .ok (.ldiv, 1) := by decide +kernel
theorem dX10_inLowestTerms_31 : decode cX10_inLowestTerms 31 = .ok (.lreturn, 1) := by decide +kernel
theorem dX10_commonDivisor_0 : decode cX10_commonDivisor 0 = .ok (.lload_n 0, 1) := by decide +kernel
theorem dX10_commonDivisor_1 : decode cX10_commonDivisor 1 = .ok (.lstore 4, 2) := by decide +kernel
theorem dX10_commonDivisor_3 : decode cX10_commonDivisor 3 = .ok (.lload_n 2, 1) := by decide +kernel
theorem dX10_commonDivisor_4 : decode cX10_commonDivisor 4 = .ok (.lstore 6, 2) := by decide +kernel
theorem dX10_commonDivisor_6 : decode cX10_commonDivisor 6 = .ok (.iconst 0, 1) := by decide +kernel
theorem dX10_commonDivisor_7 : decode cX10_commonDivisor 7 = .ok (.istore 8, 2) := by decide +kernel
theorem dX10_commonDivisor_9 : decode cX10_commonDivisor 9 = .ok (.iload 8, 2) := by decide +kernel
theorem dX10_commonDivisor_11 : decode cX10_commonDivisor 11 = .ok (.bipush 100, 2) := by decide +kernel
theorem dX10_commonDivisor_13 : decode cX10_commonDivisor 13 = .ok (.if_icmp .ge 31, 3) := by decide +kernel
theorem dX10_commonDivisor_16 : decode cX10_commonDivisor 16 = .ok (.lload 6, 2) := by decide +kernel
theorem dX10_commonDivisor_18 : decode cX10_commonDivisor 18 = .ok (.lconst 0, 1) := by decide +kernel
theorem dX10_commonDivisor_19 : decode cX10_commonDivisor 19 = .ok (.lcmp, 1) := by decide +kernel
theorem dX10_commonDivisor_20 : decode cX10_commonDivisor 20 = .ok (.ifCond .eq 24, 3) := by decide +kernel
theorem dX10_commonDivisor_23 : decode cX10_commonDivisor 23 = .ok (.lload 4, 2) := by decide +kernel
theorem dX10_commonDivisor_25 : decode cX10_commonDivisor 25 = .ok (.lload 6, 2) := by decide +kernel
theorem dX10_commonDivisor_27 : decode cX10_commonDivisor 27 = .ok (.lrem, 1) := by decide +kernel
theorem dX10_commonDivisor_28 : decode cX10_commonDivisor 28 = .ok (.lstore 9, 2) := by decide +kernel
theorem dX10_commonDivisor_30 : decode cX10_commonDivisor 30 = .ok (.lload 6, 2) := by decide +kernel
theorem dX10_commonDivisor_32 : decode cX10_commonDivisor 32 = .ok (.lstore 4, 2) := by decide +kernel
theorem dX10_commonDivisor_34 : decode cX10_commonDivisor 34 = .ok (.lload 9, 2) := by decide +kernel
theorem dX10_commonDivisor_36 : decode cX10_commonDivisor 36 = .ok (.lstore 6, 2) := by decide +kernel
theorem dX10_commonDivisor_38 : decode cX10_commonDivisor 38 = .ok (.iinc 8 1, 3) := by decide +kernel
theorem dX10_commonDivisor_41 : decode cX10_commonDivisor 41 = .ok (.goto (-32), 3) := by decide +kernel
theorem dX10_commonDivisor_44 : decode cX10_commonDivisor 44 = .ok (.lload 4, 2) := by decide +kernel
theorem dX10_commonDivisor_46 : decode cX10_commonDivisor 46 = .ok (.lreturn, 1) := by decide +kernel
theorem dJ9_max_7cf53_0 : decode cJ9_max_7cf53 0 = .ok (.iload_n 0, 1) := by decide +kernel
theorem dJ9_max_7cf53_1 : decode cJ9_max_7cf53 1 = .ok (.iload_n 1, 1) := by decide +kernel
theorem dJ9_max_7cf53_2 : decode cJ9_max_7cf53 2 = .ok (.if_icmp .lt 7, 3) := by decide +kernel
theorem dJ9_max_7cf53_5 : decode cJ9_max_7cf53 5 = .ok (.iload_n 0, 1) := by decide +kernel
theorem dJ9_max_7cf53_6 : decode cJ9_max_7cf53 6 = .ok (.goto 4, 3) := by decide +kernel
theorem dJ9_max_7cf53_9 : decode cJ9_max_7cf53 9 = .ok (.iload_n 1, 1) := by decide +kernel
theorem dJ9_max_7cf53_10 : decode cJ9_max_7cf53 10 = .ok (.ireturn, 1) := by decide +kernel
theorem dJ9_max_f86c9_0 : decode cJ9_max_f86c9 0 = .ok (.lload_n 0, 1) := by decide +kernel
theorem dJ9_max_f86c9_1 : decode cJ9_max_f86c9 1 = .ok (.lload_n 2, 1) := by decide +kernel
theorem dJ9_max_f86c9_2 : decode cJ9_max_f86c9 2 = .ok (.lcmp, 1) := by decide +kernel
theorem dJ9_max_f86c9_3 : decode cJ9_max_f86c9 3 = .ok (.ifCond .lt 7, 3) := by decide +kernel
theorem dJ9_max_f86c9_6 : decode cJ9_max_f86c9 6 = .ok (.lload_n 0, 1) := by decide +kernel
theorem dJ9_max_f86c9_7 : decode cJ9_max_f86c9 7 = .ok (.goto 4, 3) := by decide +kernel
theorem dJ9_max_f86c9_10 : decode cJ9_max_f86c9 10 = .ok (.lload_n 2, 1) := by decide +kernel
theorem dJ9_max_f86c9_11 : decode cJ9_max_f86c9 11 = .ok (.lreturn, 1) := by decide +kernel
theorem dJ9_min_7cf53_0 : decode cJ9_min_7cf53 0 = .ok (.iload_n 0, 1) := by decide +kernel
theorem dJ9_min_7cf53_1 : decode cJ9_min_7cf53 1 = .ok (.iload_n 1, 1) := by decide +kernel
theorem dJ9_min_7cf53_2 : decode cJ9_min_7cf53 2 = .ok (.if_icmp .gt 7, 3) := by decide +kernel
theorem dJ9_min_7cf53_5 : decode cJ9_min_7cf53 5 = .ok (.iload_n 0, 1) := by decide +kernel
theorem dJ9_min_7cf53_6 : decode cJ9_min_7cf53 6 = .ok (.goto 4, 3) := by decide +kernel
theorem dJ9_min_7cf53_9 : decode cJ9_min_7cf53 9 = .ok (.iload_n 1, 1) := by decide +kernel
theorem dJ9_min_7cf53_10 : decode cJ9_min_7cf53 10 = .ok (.ireturn, 1) := by decide +kernel
theorem dJ9_min_f86c9_0 : decode cJ9_min_f86c9 0 = .ok (.lload_n 0, 1) := by decide +kernel
theorem dJ9_min_f86c9_1 : decode cJ9_min_f86c9 1 = .ok (.lload_n 2, 1) := by decide +kernel
theorem dJ9_min_f86c9_2 : decode cJ9_min_f86c9 2 = .ok (.lcmp, 1) := by decide +kernel
theorem dJ9_min_f86c9_3 : decode cJ9_min_f86c9 3 = .ok (.ifCond .gt 7, 3) := by decide +kernel
theorem dJ9_min_f86c9_6 : decode cJ9_min_f86c9 6 = .ok (.lload_n 0, 1) := by decide +kernel
theorem dJ9_min_f86c9_7 : decode cJ9_min_f86c9 7 = .ok (.goto 4, 3) := by decide +kernel
theorem dJ9_min_f86c9_10 : decode cJ9_min_f86c9 10 = .ok (.lload_n 2, 1) := by decide +kernel
theorem dJ9_min_f86c9_11 : decode cJ9_min_f86c9 11 = .ok (.lreturn, 1) := by decide +kernel
set_option maxRecDepth 20000 in
theorem ggJ0_length_8abf5_J0_coder_7d493 : GoodIn wsJ0_length_8abf5 wsJ0_coder_7d493 := goodIn_r _ [6, 7, 8] (by decide +kernel) (by decide +kernel)
set_option maxRecDepth 20000 in
theorem gJ0_length_8abf5_J0_coder_7d493 : GoodIn wsJ0_length_8abf5 (wsV RJ0 335 RJ0 yJ0_coder_7d493 wsJ0_coder_7d493) := goodIn_app (goodIn_of _ (by decide +kernel)) ggJ0_length_8abf5_J0_coder_7d493
theorem dJ0_length_8abf5_0 : decode cJ0_length_8abf5 0 = .ok (.aload_n 0, 1) := by decide +kernel
theorem dJ0_length_8abf5_1 : decode cJ0_length_8abf5 1 = .ok (.getfield 9, 3) := by decide +kernel
theorem dJ0_length_8abf5_4 : decode cJ0_length_8abf5 4 = .ok (.arraylength, 1) := by decide +kernel
theorem dJ0_length_8abf5_5 : decode cJ0_length_8abf5 5 = .ok (.aload_n 0, 1) := by decide +kernel
theorem dJ0_length_8abf5_6 : decode cJ0_length_8abf5 6 = .ok (.invokevirtual 335, 3) := by decide +kernel
theorem dJ0_length_8abf5_9 : decode cJ0_length_8abf5 9 = .ok (.ishr, 1) := by decide +kernel
theorem dJ0_length_8abf5_10 : decode cJ0_length_8abf5 10 = .ok (.ireturn, 1) := by decide +kernel
set_option maxRecDepth 20000 in
theorem ggJ0_charAt_5068e_J0_isLatin1_aae02 : GoodIn wsJ0_charAt_5068e wsJ0_isLatin1_aae02 := goodIn_r _ [6, 7, 8] (by decide +kernel) (by decide +kernel)
set_option maxRecDepth 20000 in
theorem gJ0_charAt_5068e_J0_isLatin1_aae02 : GoodIn wsJ0_charAt_5068e (wsV RJ0 492 RJ0 yJ0_isLatin1_aae02 wsJ0_isLatin1_aae02) := goodIn_app (goodIn_of _ (by decide +kernel)) ggJ0_charAt_5068e_J0_isLatin1_aae02
set_option maxRecDepth 20000 in
theorem ggJ0_charAt_5068e_J1_charAt_3b067 : GoodIn wsJ0_charAt_5068e wsJ1_charAt_3b067 := goodIn_r _ [12, 13, 14, 5, 15, 16, 17, 18, 19, 20] (by decide +kernel) (by decide +kernel)
set_option maxRecDepth 20000 in
theorem gJ0_charAt_5068e_J1_charAt_3b067 : GoodIn wsJ0_charAt_5068e (va_wsS RJ0 495 yJ1_charAt_3b067 wsJ1_charAt_3b067) := goodIn_app (goodIn_of _ (by decide +kernel)) ggJ0_charAt_5068e_J1_charAt_3b067
set_option maxRecDepth 20000 in
theorem ggJ0_charAt_5068e_J2_charAt_3b067 : GoodIn wsJ0_charAt_5068e wsJ2_charAt_3b067 := goodIn_r _ [24, 25, 26, 23, 27, 28, 29, 30, 31, 14, 5, 15, 16, 17, 18, 19, 20, 32, 33, 34, 35, 36, 37] (by decide +kernel) (by decide +kernel)
set_option maxRecDepth 20000 in
theorem gJ0_charAt_5068e_J2_charAt_3b067 : GoodIn wsJ0_charAt_5068e (va_wsS RJ0 498 yJ2_charAt_3b067 wsJ2_charAt_3b067) := goodIn_app (goodIn_of _ (by decide +kernel)) ggJ0_charAt_5068e_J2_charAt_3b067
theorem dJ0_charAt_5068e_0 : decode cJ0_charAt_5068e 0 = .ok (.aload_n 0, 1) := by decide +kernel
theorem dJ0_charAt_5068e_1 : decode cJ0_charAt_5068e 1 = .ok (.invokevirtual 492, 3) := by decide +kernel
theorem dJ0_charAt_5068e_4 : decode cJ0_charAt_5068e 4 = .ok (.ifCond .eq 12, 3) := by decide +kernel
theorem dJ0_charAt_5068e_7 : decode cJ0_charAt_5068e 7 = .ok (.aload_n 0, 1) := by decide +kernel
theorem dJ0_charAt_5068e_8 : decode cJ0_charAt_5068e 8 = .ok (.getfield 9, 3) := by decide +kernel
theorem dJ0_charAt_5068e_11 : decode cJ0_charAt_5068e 11 = .ok (.iload_n 1, 1) := by decide +kernel
theorem dJ0_charAt_5068e_12 : decode cJ0_charAt_5068e 12 = .ok (.invokestatic 495, 3) := by decide +kernel
theorem dJ0_charAt_5068e_15 : decode cJ0_charAt_5068e 15 = .ok (.ireturn, 1) := by decide +kernel
theorem dJ0_charAt_5068e_16 : decode cJ0_charAt_5068e 16 = .ok (.aload_n 0, 1) := by decide +kernel
theorem dJ0_charAt_5068e_17 : decode cJ0_charAt_5068e 17 = .ok (.getfield 9, 3) := by decide +kernel
theorem dJ0_charAt_5068e_20 : decode cJ0_charAt_5068e 20 = .ok (.iload_n 1, 1) := by decide +kernel
theorem dJ0_charAt_5068e_21 : decode cJ0_charAt_5068e 21 = .ok (.invokestatic 498, 3) := by decide +kernel
theorem dJ0_charAt_5068e_24 : decode cJ0_charAt_5068e 24 = .ok (.ireturn, 1) := by decide +kernel
theorem dJ0_coder_7d493_0 : decode cJ0_coder_7d493 0 = .ok (.getstatic 38, 3) := by decide +kernel
theorem dJ0_coder_7d493_3 : decode cJ0_coder_7d493 3 = .ok (.ifCond .eq 10, 3) := by decide +kernel
theorem dJ0_coder_7d493_6 : decode cJ0_coder_7d493 6 = .ok (.aload_n 0, 1) := by decide +kernel
theorem dJ0_coder_7d493_7 : decode cJ0_coder_7d493 7 = .ok (.getfield 15, 3) := by decide +kernel
theorem dJ0_coder_7d493_10 : decode cJ0_coder_7d493 10 = .ok (.goto 4, 3) := by decide +kernel
theorem dJ0_coder_7d493_13 : decode cJ0_coder_7d493 13 = .ok (.iconst 1, 1) := by decide +kernel
theorem dJ0_coder_7d493_14 : decode cJ0_coder_7d493 14 = .ok (.ireturn, 1) := by decide +kernel
theorem dJ0_isLatin1_aae02_0 : decode cJ0_isLatin1_aae02 0 = .ok (.getstatic 38, 3) := by decide +kernel
theorem dJ0_isLatin1_aae02_3 : decode cJ0_isLatin1_aae02 3 = .ok (.ifCond .eq 14, 3) := by decide +kernel
theorem dJ0_isLatin1_aae02_6 : decode cJ0_isLatin1_aae02 6 = .ok (.aload_n 0, 1) := by decide +kernel
theorem dJ0_isLatin1_aae02_7 : decode cJ0_isLatin1_aae02 7 = .ok (.getfield 15, 3) := by decide +kernel
theorem dJ0_isLatin1_aae02_10 : decode cJ0_isLatin1_aae02 10 = .ok (.ifCond .ne 7, 3) := by decide +kernel
theorem dJ0_isLatin1_aae02_13 : decode cJ0_isLatin1_aae02 13 = .ok (.iconst 1, 1) := by decide +kernel
theorem dJ0_isLatin1_aae02_14 : decode cJ0_isLatin1_aae02 14 = .ok (.goto 4, 3) := by decide +kernel
theorem dJ0_isLatin1_aae02_17 : decode cJ0_isLatin1_aae02 17 = .ok (.iconst 0, 1) := by decide +kernel
theorem dJ0_isLatin1_aae02_18 : decode cJ0_isLatin1_aae02 18 = .ok (.ireturn, 1) := by decide +kernel
set_option maxRecDepth 20000 in
theorem ggJ0_checkIndex_df160_J3_checkIndex_8e157 : GoodIn wsJ0_checkIndex_df160 wsJ3_checkIndex_8e157 := goodIn_r _ [5] (by decide +kernel) (by decide +kernel)
set_option maxRecDepth 20000 in
theorem gJ0_checkIndex_df160_J3_checkIndex_8e157 : GoodIn wsJ0_checkIndex_df160 (va_wsS RJ0 1059 yJ3_checkIndex_8e157 wsJ3_checkIndex_8e157) := goodIn_app (goodIn_of _ (by decide +kernel)) ggJ0_checkIndex_df160_J3_checkIndex_8e157
theorem dJ0_checkIndex_df160_0 : decode cJ0_checkIndex_df160 0 = .ok (.iload_n 0, 1) := by decide +kernel
theorem dJ0_checkIndex_df160_1 : decode cJ0_checkIndex_df160 1 = .ok (.iload_n 1, 1) := by decide +kernel
theorem dJ0_checkIndex_df160_2 : decode cJ0_checkIndex_df160 2 = .ok (.getstatic 1053, 3) := by decide +kernel
theorem dJ0_checkIndex_df160_5 : decode cJ0_checkIndex_df160 5 = .ok (.invokestatic 1059, 3) := by decide +kernel
theorem dJ0_checkIndex_df160_8 : decode cJ0_checkIndex_df160 8 = .ok (.pop, 1) := by decide +kernel
theorem dJ0_checkIndex_df160_9 : decode cJ0_checkIndex_df160 9 = .ok (.return_, 1) := by decide +kernel
set_option maxRecDepth 20000 in
theorem ggJ1_charAt_3b067_J0_checkIndex_df160 : GoodIn wsJ1_charAt_3b067 wsJ0_checkIndex_df160 := goodIn_r _ [4, 5, 6, 7, 8, 9] (by decide +kernel) (by decide +kernel)
set_option maxRecDepth 20000 in
theorem gJ1_charAt_3b067_J0_checkIndex_df160 : GoodIn wsJ1_charAt_3b067 (va_wsS RJ1 9 yJ0_checkIndex_df160 wsJ0_checkIndex_df160) := goodIn_app (goodIn_of _ (by decide +kernel)) ggJ1_charAt_3b067_J0_checkIndex_df160
theorem dJ1_charAt_3b067_0 : decode cJ1_charAt_3b067 0 = .ok (.iload_n 1, 1) := by decide +kernel
theorem dJ1_charAt_3b067_1 : decode cJ1_charAt_3b067 1 = .ok (.aload_n 0, 1) := by decide +kernel
theorem dJ1_charAt_3b067_2 : decode cJ1_charAt_3b067 2 = .ok (.arraylength, 1) := by decide +kernel
theorem dJ1_charAt_3b067_3 : decode cJ1_charAt_3b067 3 = .ok (.invokestatic 9, 3) := by decide +kernel
theorem dJ1_charAt_3b067_6 : decode cJ1_charAt_3b067 6 = .ok (.aload_n 0, 1) := by decide +kernel
theorem dJ1_charAt_3b067_7 : decode cJ1_charAt_3b067 7 = .ok (.iload_n 1, 1) := by decide +kernel
theorem dJ1_charAt_3b067_8 : decode cJ1_charAt_3b067 8 = .ok (.baload, 1) := by decide +kernel
theorem dJ1_charAt_3b067_9 : decode cJ1_charAt_3b067 9 = .ok (.sipush 255, 3) := by decide +kernel
theorem dJ1_charAt_3b067_12 : decode cJ1_charAt_3b067 12 = .ok (.iand, 1) := by decide +kernel
theorem dJ1_charAt_3b067_13 : decode cJ1_charAt_3b067 13 = .ok (.i2c, 1) := by decide +kernel
theorem dJ1_charAt_3b067_14 : decode cJ1_charAt_3b067 14 = .ok (.ireturn, 1) := by decide +kernel
set_option maxRecDepth 20000 in
theorem ggJ2_getChar_3b067_J2_length_9d52b : GoodIn wsJ2_getChar_3b067 wsJ2_length_9d52b := goodIn_r _ [7] (by decide +kernel) (by decide +kernel)
set_option maxRecDepth 20000 in
theorem gJ2_getChar_3b067_J2_length_9d52b : GoodIn wsJ2_getChar_3b067 (va_wsS RJ2 48 yJ2_length_9d52b wsJ2_length_9d52b) := goodIn_app (goodIn_of _ (by decide +kernel)) ggJ2_getChar_3b067_J2_length_9d52b
theorem dJ2_getChar_3b067_0 : decode cJ2_getChar_3b067 0 = .ok (.getstatic 44, 3) := by decide +kernel
theorem dJ2_getChar_3b067_3 : decode cJ2_getChar_3b067 3 = .ok (.ifCond .ne 25, 3) := by decide +kernel
theorem dJ2_getChar_3b067_6 : decode cJ2_getChar_3b067 6 = .ok (.iload_n 1, 1) := by decide +kernel
theorem dJ2_getChar_3b067_7 : decode cJ2_getChar_3b067 7 = .ok (.ifCond .lt 11, 3) := by decide +kernel
theorem dJ2_getChar_3b067_10 : decode cJ2_getChar_3b067 10 = .ok (.iload_n 1, 1) := by decide +kernel
theorem dJ2_getChar_3b067_11 : decode cJ2_getChar_3b067 11 = .ok (.aload_n 0, 1) := by decide +kernel
theorem dJ2_getChar_3b067_12 : decode cJ2_getChar_3b067 12 = .ok (.invokestatic 48, 3) := by decide +kernel
theorem dJ2_getChar_3b067_15 : decode cJ2_getChar_3b067 15 = .ok (.if_icmp .lt 13, 3) := by decide +kernel
theorem dJ2_getChar_3b067_18 : decode cJ2_getChar_3b067 18 = .ok (.new 52, 3) := by decide +kernel
theorem dJ2_getChar_3b067_21 : decode cJ2_getChar_3b067 21 = .ok (.dup, 1) := by decide +kernel
theorem dJ2_getChar_3b067_22 : decode cJ2_getChar_3b067 22 = .ok (.ldc 54, 2) := by decide +kernel
theorem dJ2_getChar_3b067_24 : decode cJ2_getChar_3b067 24 = .ok (.invokespecial 56, 3) := by decide +kernel
theorem dJ2_getChar_3b067_27 : decode cJ2_getChar_3b067 27 = .ok (.athrow, 1) := by decide +kernel
theorem dJ2_getChar_3b067_28 : decode cJ2_getChar_3b067 28 = .ok (.iload_n 1, 1) := by decide +kernel
theorem dJ2_getChar_3b067_29 : decode cJ2_getChar_3b067 29 = .ok (.iconst 1, 1) := by decide +kernel
theorem dJ2_getChar_3b067_30 : decode cJ2_getChar_3b067 30 = .ok (.ishl, 1) := by decide +kernel
theorem dJ2_getChar_3b067_31 : decode cJ2_getChar_3b067 31 = .ok (.istore_n 1, 1) := by decide +kernel
theorem dJ2_getChar_3b067_32 : decode cJ2_getChar_3b067 32 = .ok (.aload_n 0, 1) := by decide +kernel
theorem dJ2_getChar_3b067_33 : decode cJ2_getChar_3b067 33 = .ok (.iload_n 1, 1) := by decide +kernel
theorem dJ2_getChar_3b067_34 : decode cJ2_getChar_3b067 34 = .ok (.iinc 1 1, 3) := by decide +kernel
theorem dJ2_getChar_3b067_37 : decode cJ2_getChar_3b067 37 = .ok (.baload, 1) := by decide +kernel
theorem dJ2_getChar_3b067_38 : decode cJ2_getChar_3b067 38 = .ok (.sipush 255, 3) := by decide +kernel
theorem dJ2_getChar_3b067_41 : decode cJ2_getChar_3b067 41 = .ok (.iand, 1) := by decide +kernel
theorem dJ2_getChar_3b067_42 : decode cJ2_getChar_3b067 42 = .ok (.getstatic 59, 3) := by decide +kernel
theorem dJ2_getChar_3b067_45 : decode cJ2_getChar_3b067 45 = .ok (.ishl, 1) := by decide +kernel
theorem dJ2_getChar_3b067_46 : decode cJ2_getChar_3b067 46 = .ok (.aload_n 0, 1) := by decide +kernel
theorem dJ2_getChar_3b067_47 : decode cJ2_getChar_3b067 47 = .ok (.iload_n 1, 1) := by decide +kernel
theorem dJ2_getChar_3b067_48 : decode cJ2_getChar_3b067 48 = .ok (.baload, 1) := by decide +kernel
theorem dJ2_getChar_3b067_49 : decode cJ2_getChar_3b067 49 = .ok (.sipush 255, 3) := by decide +kernel
theorem dJ2_getChar_3b067_52 : decode cJ2_getChar_3b067 52 = .ok (.iand, 1) := by decide +kernel
theorem dJ2_getChar_3b067_53 : decode cJ2_getChar_3b067 53 = .ok (.getstatic 63, 3) := by decide +kernel
theorem dJ2_getChar_3b067_56 : decode cJ2_getChar_3b067 56 = .ok (.ishl, 1) := by decide +kernel
theorem dJ2_getChar_3b067_57 : decode cJ2_getChar_3b067 57 = .ok (.ior, 1) := by decide +kernel
theorem dJ2_getChar_3b067_58 : decode cJ2_getChar_3b067 58 = .ok (.i2c, 1) := by decide +kernel
theorem dJ2_getChar_3b067_59 : decode cJ2_getChar_3b067 59 = .ok (.ireturn, 1) := by decide +kernel
theorem dJ2_length_9d52b_0 : decode cJ2_length_9d52b 0 = .ok (.aload_n 0, 1) := by decide +kernel
theorem dJ2_length_9d52b_1 : decode cJ2_length_9d52b 1 = .ok (.arraylength, 1) := by decide +kernel
theorem dJ2_length_9d52b_2 : decode cJ2_length_9d52b 2 = .ok (.iconst 1, 1) := by decide +kernel
theorem dJ2_length_9d52b_3 : decode cJ2_length_9d52b 3 = .ok (.ishr, 1) := by decide +kernel
theorem dJ2_length_9d52b_4 : decode cJ2_length_9d52b 4 = .ok (.ireturn, 1) := by decide +kernel
set_option maxRecDepth 20000 in
theorem ggJ2_charAt_3b067_J2_checkIndex_2214a : GoodIn wsJ2_charAt_3b067 wsJ2_checkIndex_2214a := goodIn_r _ [4, 5, 6, 3, 7, 8, 9, 10, 11, 12, 13, 14, 15, 16] (by decide +kernel) (by decide +kernel)
set_option maxRecDepth 20000 in
theorem gJ2_charAt_3b067_J2_checkIndex_2214a : GoodIn wsJ2_charAt_3b067 (va_wsS RJ2 67 yJ2_checkIndex_2214a wsJ2_checkIndex_2214a) := goodIn_app (goodIn_of _ (by decide +kernel)) ggJ2_charAt_3b067_J2_checkIndex_2214a
set_option maxRecDepth 20000 in
theorem ggJ2_charAt_3b067_J2_getChar_3b067 : GoodIn wsJ2_charAt_3b067 wsJ2_getChar_3b067 := goodIn_r _ [19, 20, 21, 22, 5, 6, 3, 7] (by decide +kernel) (by decide +kernel)
set_option maxRecDepth 20000 in
theorem gJ2_charAt_3b067_J2_getChar_3b067 : GoodIn wsJ2_charAt_3b067 (va_wsS RJ2 71 yJ2_getChar_3b067 wsJ2_getChar_3b067) := goodIn_app (goodIn_of _ (by decide +kernel)) ggJ2_charAt_3b067_J2_getChar_3b067
theorem dJ2_charAt_3b067_0 : decode cJ2_charAt_3b067 0 = .ok (.iload_n 1, 1) := by decide +kernel
theorem dJ2_charAt_3b067_1 : decode cJ2_charAt_3b067 1 = .ok (.aload_n 0, 1) := by decide +kernel
theorem dJ2_charAt_3b067_2 : decode cJ2_charAt_3b067 2 = .ok (.invokestatic 67, 3) := by decide +kernel
theorem dJ2_charAt_3b067_5 : decode cJ2_charAt_3b067 5 = .ok (.aload_n 0, 1) := by decide +kernel
theorem dJ2_charAt_3b067_6 : decode cJ2_charAt_3b067 6 = .ok (.iload_n 1, 1) := by decide +kernel
theorem dJ2_charAt_3b067_7 : decode cJ2_charAt_3b067 7 = .ok (.invokestatic 71, 3) := by decide +kernel
theorem dJ2_charAt_3b067_10 : decode cJ2_charAt_3b067 10 = .ok (.ireturn, 1) := by decide +kernel
set_option maxRecDepth 20000 in
theorem ggJ2_checkIndex_2214a_J2_length_9d52b : GoodIn wsJ2_checkIndex_2214a wsJ2_length_9d52b := goodIn_r _ [4] (by decide +kernel) (by decide +kernel)
set_option maxRecDepth 20000 in
theorem gJ2_checkIndex_2214a_J2_length_9d52b : GoodIn wsJ2_checkIndex_2214a (va_wsS RJ2 48 yJ2_length_9d52b wsJ2_length_9d52b) := goodIn_app (goodIn_of _ (by decide +kernel)) ggJ2_checkIndex_2214a_J2_length_9d52b
set_option maxRecDepth 20000 in
theorem ggJ2_checkIndex_2214a_J0_checkIndex_df160 : GoodIn wsJ2_checkIndex_2214a wsJ0_checkIndex_df160 := goodIn_r _ [8, 9, 10, 11, 12, 13] (by decide +kernel) (by decide +kernel)
set_option maxRecDepth 20000 in
theorem gJ2_checkIndex_2214a_J0_checkIndex_df160 : GoodIn wsJ2_checkIndex_2214a (va_wsS RJ2 414 yJ0_checkIndex_df160 wsJ0_checkIndex_df160) := goodIn_app (goodIn_of _ (by decide +kernel)) ggJ2_checkIndex_2214a_J0_checkIndex_df160
theorem dJ2_checkIndex_2214a_0 : decode cJ2_checkIndex_2214a 0 = .ok (.iload_n 0, 1) := by decide +kernel
theorem dJ2_checkIndex_2214a_1 : decode cJ2_checkIndex_2214a 1 = .ok (.aload_n 1, 1) := by decide +kernel
theorem dJ2_checkIndex_2214a_2 : decode cJ2_checkIndex_2214a 2 = .ok (.invokestatic 48, 3) := by decide +kernel
theorem dJ2_checkIndex_2214a_5 : decode cJ2_checkIndex_2214a 5 = .ok (.invokestatic 414, 3) := by decide +kernel
theorem dJ2_checkIndex_2214a_8 : decode cJ2_checkIndex_2214a 8 = .ok (.return_, 1) := by decide +kernel
theorem dJ7_fill_d0a16_0 : decode cJ7_fill_d0a16 0 = .ok (.iconst 0, 1) := by decide +kernel
theorem dJ7_fill_d0a16_1 : decode cJ7_fill_d0a16 1 = .ok (.istore_n 3, 1) := by decide +kernel
theorem dJ7_fill_d0a16_2 : decode cJ7_fill_d0a16 2 = .ok (.aload_n 0, 1) := by decide +kernel
theorem dJ7_fill_d0a16_3 : decode cJ7_fill_d0a16 3 = .ok (.arraylength, 1) := by decide +kernel
theorem dJ7_fill_d0a16_4 : decode cJ7_fill_d0a16 4 = .ok (.istore 4, 2) := by decide +kernel
theorem dJ7_fill_d0a16_6 : decode cJ7_fill_d0a16 6 = .ok (.iload_n 3, 1) := by decide +kernel
theorem dJ7_fill_d0a16_7 : decode cJ7_fill_d0a16 7 = .ok (.iload 4, 2) := by decide +kernel
theorem dJ7_fill_d0a16_9 : decode cJ7_fill_d0a16 9 = .ok (.if_icmp .ge 13, 3) := by decide +kernel
theorem dJ7_fill_d0a16_12 : decode cJ7_fill_d0a16 12 = .ok (.aload_n 0, 1) := by decide +kernel
theorem dJ7_fill_d0a16_13 : decode cJ7_fill_d0a16 13 = .ok (.iload_n 3, 1) := by decide +kernel
theorem dJ7_fill_d0a16_14 : decode cJ7_fill_d0a16 14 = .ok (.lload_n 1, 1) := by decide +kernel
theorem dJ7_fill_d0a16_15 : decode cJ7_fill_d0a16 15 = .ok (.lastore, 1) := by decide +kernel
theorem dJ7_fill_d0a16_16 : decode cJ7_fill_d0a16 16 = .ok (.iinc 3 1, 3) := by decide +kernel
theorem dJ7_fill_d0a16_19 : decode cJ7_fill_d0a16 19 = .ok (.goto (-13), 3) := by decide +kernel
theorem dJ7_fill_d0a16_22 : decode cJ7_fill_d0a16 22 = .ok (.return_, 1) := by decide +kernel
theorem dJ7_fill_53178_0 : decode cJ7_fill_53178 0 = .ok (.iconst 0, 1) := by decide +kernel
theorem dJ7_fill_53178_1 : decode cJ7_fill_53178 1 = .ok (.istore_n 2, 1) := by decide +kernel
theorem dJ7_fill_53178_2 : decode cJ7_fill_53178 2 = .ok (.aload_n 0, 1) := by decide +kernel
theorem dJ7_fill_53178_3 : decode cJ7_fill_53178 3 = .ok (.arraylength, 1) := by decide +kernel
theorem dJ7_fill_53178_4 : decode cJ7_fill_53178 4 = .ok (.istore_n 3, 1) := by decide +kernel
theorem dJ7_fill_53178_5 : decode cJ7_fill_53178 5 = .ok (.iload_n 2, 1) := by decide +kernel
theorem dJ7_fill_53178_6 : decode cJ7_fill_53178 6 = .ok (.iload_n 3, 1) := by decide +kernel
theorem dJ7_fill_53178_7 : decode cJ7_fill_53178 7 = .ok (.if_icmp .ge 13, 3) := by decide +kernel
theorem dJ7_fill_53178_10 : decode cJ7_fill_53178 10 = .ok (.aload_n 0, 1) := by decide +kernel
theorem dJ7_fill_53178_11 : decode cJ7_fill_53178 11 = .ok (.iload_n 2, 1) := by decide +kernel
theorem dJ7_fill_53178_12 : decode cJ7_fill_53178 12 = .ok (.iload_n 1, 1) := by decide +kernel
theorem dJ7_fill_53178_13 : decode cJ7_fill_53178 13 = .ok (.iastore, 1) := by decide +kernel
theorem dJ7_fill_53178_14 : decode cJ7_fill_53178 14 = .ok (.iinc 2 1, 3) := by decide +kernel
theorem dJ7_fill_53178_17 : decode cJ7_fill_53178 17 = .ok (.goto (-12), 3) := by decide +kernel
theorem dJ7_fill_53178_20 : decode cJ7_fill_53178 20 = .ok (.return_, 1) := by decide +kernel
theorem dJ3_checkIndex_8e157_0 : decode cJ3_checkIndex_8e157 0 = .ok (.iload_n 0, 1) := by decide +kernel
theorem dJ3_checkIndex_8e157_1 : decode cJ3_checkIndex_8e157 1 = .ok (.ifCond .lt 8, 3) := by decide +kernel
theorem dJ3_checkIndex_8e157_4 : decode cJ3_checkIndex_8e157 4 = .ok (.iload_n 0, 1) := by decide +kernel
theorem dJ3_checkIndex_8e157_5 : decode cJ3_checkIndex_8e157 5 = .ok (.iload_n 1, 1) := by decide +kernel
theorem dJ3_checkIndex_8e157_6 : decode cJ3_checkIndex_8e157 6 = .ok (.if_icmp .lt 10, 3) := by decide +kernel
theorem dJ3_checkIndex_8e157_9 : decode cJ3_checkIndex_8e157 9 = .ok (.aload_n 2, 1) := by decide +kernel
theorem dJ3_checkIndex_8e157_10 : decode cJ3_checkIndex_8e157 10 = .ok (.iload_n 0, 1) := by decide +kernel
theorem dJ3_checkIndex_8e157_11 : decode cJ3_checkIndex_8e157 11 = .ok (.iload_n 1, 1) := by decide +kernel
theorem dJ3_checkIndex_8e157_12 : decode cJ3_checkIndex_8e157 12 = .ok (.invokestatic 95, 3) := by decide +kernel
theorem dJ3_checkIndex_8e157_15 : decode cJ3_checkIndex_8e157 15 = .ok (.athrow, 1) := by decide +kernel
theorem dJ3_checkIndex_8e157_16 : decode cJ3_checkIndex_8e157 16 = .ok (.iload_n 0, 1) := by decide +kernel
theorem dJ3_checkIndex_8e157_17 : decode cJ3_checkIndex_8e157 17 = .ok (.ireturn, 1) := by decide +kernel
