theorem dX11_takesItem_47 : decode cX11_takesItem 47 = .ok (.aload_n 0, 1) := by decide +kernel
theorem dX11_takesItem_48 : decode cX11_takesItem 48 = .ok (.bipush 59, 2) := by decide +kernel
theorem dX11_takesItem_50 : decode cX11_takesItem 50 = .ok (.bipush 59, 2) := by decide +kernel
theorem dX11_takesItem_52 : decode cX11_takesItem 52 = .ok (.invokevirtual 92, 3) := by decide +kernel
theorem dX11_takesItem_55 : decode cX11_takesItem 55 = .ok (.ifCond .eq 7, 3) := by decide +kernel
theorem dX11_takesItem_58 : decode cX11_takesItem 58 = .ok (.iconst 1, 1) := by decide +kernel
theorem dX11_takesItem_59 : decode cX11_takesItem 59 = .ok (.goto 4, 3) := by decide +kernel
theorem dX11_takesItem_62 : decode cX11_takesItem 62 = .ok (.iconst 0, 1) := by decide +kernel
theorem dX11_takesItem_63 : decode cX11_takesItem 63 = .ok (.istore_n 2, 1) := by decide +kernel
theorem dX11_takesItem_64 : decode cX11_takesItem 64 = .ok (.aload_n 0, 1) := by decide +kernel
theorem dX11_takesItem_65 : decode cX11_takesItem 65 = .ok (.dup, 1) := by decide +kernel
theorem dX11_takesItem_66 : decode cX11_takesItem 66 = .ok (.getfield 79, 3) := by decide +kernel
theorem dX11_takesItem_69 : decode cX11_takesItem 69 = .ok (.iconst 1, 1) := by decide +kernel
theorem dX11_takesItem_70 : decode cX11_takesItem 70 = .ok (.iadd, 1) := by decide +kernel
theorem dX11_takesItem_71 : decode cX11_takesItem 71 = .ok (.putfield 79, 3) := by decide +kernel
theorem dX11_takesItem_74 : decode cX11_takesItem 74 = .ok (.aload_n 0, 1) := by decide +kernel
theorem dX11_takesItem_75 : decode cX11_takesItem 75 = .ok (.getfield 13, 3) := by decide +kernel
theorem dX11_takesItem_78 : decode cX11_takesItem 78 = .ok (.iconst 0, 1) := by decide +kernel
theorem dX11_takesItem_79 : decode cX11_takesItem 79 = .ok (.dup2, 1) := by decide +kernel
theorem dX11_takesItem_80 : decode cX11_takesItem 80 = .ok (.iaload, 1) := by decide +kernel
theorem dX11_takesItem_81 : decode cX11_takesItem 81 = .ok (.iload_n 2, 1) := by decide +kernel
theorem dX11_takesItem_82 : decode cX11_takesItem 82 = .ok (.ifCond .eq 7, 3) := by decide +kernel
theorem dX11_takesItem_85 : decode cX11_takesItem 85 = .ok (.iconst 1, 1) := by decide +kernel
theorem dX11_takesItem_86 : decode cX11_takesItem 86 = .ok (.goto 4, 3) := by decide +kernel
theorem dX11_takesItem_89 : decode cX11_takesItem 89 = .ok (.iconst 0, 1) := by decide +kernel
theorem dX11_takesItem_90 : decode cX11_takesItem 90 = .ok (.iadd, 1) := by decide +kernel
theorem dX11_takesItem_91 : decode cX11_takesItem 91 = .ok (.iastore, 1) := by decide +kernel
theorem dX11_takesItem_92 : decode cX11_takesItem 92 = .ok (.iload_n 2, 1) := by decide +kernel
theorem dX11_takesItem_93 : decode cX11_takesItem 93 = .ok (.ireturn, 1) := by decide +kernel
set_option maxRecDepth 20000 in
theorem ggX11_reads_X11_begins : GoodIn wsX11_reads wsX11_begins := goodIn_r _ [7, 8, 34, 35, 36, 37, 38, 39, 40, 41, 42, 43, 44, 45, 46, 47, 48, 49, 50, 51, 52, 53, 54, 55, 56, 57, 58, 59, 60, 61, 62, 63, 64, 65] (by decide +kernel) (by decide +kernel)
set_option maxRecDepth 20000 in
theorem gX11_reads_X11_begins : GoodIn wsX11_reads (wsV RX11 65 RX11 yX11_begins wsX11_begins) := goodIn_app (goodIn_of _ (by decide +kernel)) ggX11_reads_X11_begins
set_option maxRecDepth 20000 in
theorem ggX11_reads_X11_takesItem : GoodIn wsX11_reads wsX11_takesItem := goodIn_r _ [12, 13, 1, 8, 14, 15, 16, 6, 17, 18, 19, 20, 21, 22, 23, 24, 25, 26, 2, 27, 28, 29, 30, 31, 32, 33, 34, 35, 36, 37, 38, 39, 40, 41, 42, 43, 44, 45, 46, 47, 48, 49, 50, 51, 52, 53, 54, 55, 56, 57, 58, 59, 60, 61, 62, 63, 64, 65] (by decide +kernel) (by decide +kernel)
set_option maxRecDepth 20000 in
theorem gX11_reads_X11_takesItem : GoodIn wsX11_reads (wsV RX11 103 RX11 yX11_takesItem wsX11_takesItem) := goodIn_app (goodIn_of _ (by decide +kernel)) ggX11_reads_X11_takesItem
theorem dX11_reads_0 : decode cX11_reads 0 = .ok (.aload_n 0, 1) := by decide +kernel
theorem dX11_reads_1 : decode cX11_reads 1 = .ok (.invokevirtual 65, 3) := by decide +kernel
theorem dX11_reads_4 : decode cX11_reads 4 = .ok (.aload_n 0, 1) := by decide +kernel
theorem dX11_reads_5 : decode cX11_reads 5 = .ok (.iconst 0, 1) := by decide +kernel
theorem dX11_reads_6 : decode cX11_reads 6 = .ok (.putfield 79, 3) := by decide +kernel
theorem dX11_reads_9 : decode cX11_reads 9 = .ok (.aload_n 0, 1) := by decide +kernel
theorem dX11_reads_10 : decode cX11_reads 10 = .ok (.getfield 79, 3) := by decide +kernel
theorem dX11_reads_13 : decode cX11_reads 13 = .ok (.aload_n 0, 1) := by decide +kernel
theorem dX11_reads_14 : decode cX11_reads 14 = .ok (.getfield 82, 3) := by decide +kernel
theorem dX11_reads_17 : decode cX11_reads 17 = .ok (.if_icmp .ge 20, 3) := by decide +kernel
theorem dX11_reads_20 : decode cX11_reads 20 = .ok (.aload_n 0, 1) := by decide +kernel
theorem dX11_reads_21 : decode cX11_reads 21 = .ok (.getfield 79, 3) := by decide +kernel
theorem dX11_reads_24 : decode cX11_reads 24 = .ok (.istore_n 1, 1) := by decide +kernel
theorem dX11_reads_25 : decode cX11_reads 25 = .ok (.aload_n 0, 1) := by decide +kernel
theorem dX11_reads_26 : decode cX11_reads 26 = .ok (.invokevirtual 103, 3) := by decide +kernel
theorem dX11_reads_29 : decode cX11_reads 29 = .ok (.ifCond .ne 5, 3) := by decide +kernel
theorem dX11_reads_32 : decode cX11_reads 32 = .ok (.iload_n 1, 1) := by decide +kernel
theorem dX11_reads_33 : decode cX11_reads 33 = .ok (.ireturn, 1) := by decide +kernel
theorem dX11_reads_34 : decode cX11_reads 34 = .ok (.goto (-25), 3) := by decide +kernel
theorem dX11_reads_37 : decode cX11_reads 37 = .ok (.bipush (-4), 2) := by decide +kernel
theorem dX11_reads_39 : decode cX11_reads 39 = .ok (.ireturn, 1) := by decide +kernel
set_option maxRecDepth 20000 in
theorem ggX11_write_X11_in : GoodIn wsX11_write wsX11_in := goodIn_r _ [6] (by decide +kernel) (by decide +kernel)
set_option maxRecDepth 20000 in
theorem gX11_write_X11_in : GoodIn wsX11_write (va_wsS RX11 85 yX11_in wsX11_in) := goodIn_app (goodIn_of _ (by decide +kernel)) ggX11_write_X11_in
theorem dX11_write_0 : decode cX11_write 0 = .ok (.iload_n 1, 1) := by decide +kernel
theorem dX11_write_1 : decode cX11_write 1 = .ok (.bipush 32, 2) := by decide +kernel
theorem dX11_write_3 : decode cX11_write 3 = .ok (.bipush 126, 2) := by decide +kernel
theorem dX11_write_5 : decode cX11_write 5 = .ok (.invokestatic 85, 3) := by decide +kernel
theorem dX11_write_8 : decode cX11_write 8 = .ok (.ifCond .ne 5, 3) := by decide +kernel
theorem dX11_write_11 : decode cX11_write 11 = .ok (.iconst (-1), 1) := by decide +kernel
theorem dX11_write_12 : decode cX11_write 12 = .ok (.ireturn, 1) := by decide +kernel
theorem dX11_write_13 : decode cX11_write 13 = .ok (.aload_n 0, 1) := by decide +kernel
theorem dX11_write_14 : decode cX11_write 14 = .ok (.getfield 82, 3) := by decide +kernel
theorem dX11_write_17 : decode cX11_write 17 = .ok (.sipush 200, 3) := by decide +kernel
theorem dX11_write_20 : decode cX11_write 20 = .ok (.if_icmp .ne 6, 3) := by decide +kernel
theorem dX11_write_23 : decode cX11_write 23 = .ok (.bipush (-3), 2) := by decide +kernel
theorem dX11_write_25 : decode cX11_write 25 = .ok (.ireturn, 1) := by decide +kernel
theorem dX11_write_26 : decode cX11_write 26 = .ok (.aload_n 0, 1) := by decide +kernel
theorem dX11_write_27 : decode cX11_write 27 = .ok (.getfield 19, 3) := by decide +kernel
theorem dX11_write_30 : decode cX11_write 30 = .ok (.aload_n 0, 1) := by decide +kernel
theorem dX11_write_31 : decode cX11_write 31 = .ok (.getfield 82, 3) := by decide +kernel
theorem dX11_write_34 : decode cX11_write 34 = .ok (.iload_n 1, 1) := by decide +kernel
theorem dX11_write_35 : decode cX11_write 35 = .ok (.iastore, 1) := by decide +kernel
theorem dX11_write_36 : decode cX11_write 36 = .ok (.aload_n 0, 1) := by decide +kernel
theorem dX11_write_37 : decode cX11_write 37 = .ok (.dup, 1) := by decide +kernel
theorem dX11_write_38 : decode cX11_write 38 = .ok (.getfield 82, 3) := by decide +kernel
theorem dX11_write_41 : decode cX11_write 41 = .ok (.iconst 1, 1) := by decide +kernel
theorem dX11_write_42 : decode cX11_write 42 = .ok (.iadd, 1) := by decide +kernel
theorem dX11_write_43 : decode cX11_write 43 = .ok (.putfield 82, 3) := by decide +kernel
theorem dX11_write_46 : decode cX11_write 46 = .ok (.aload_n 0, 1) := by decide +kernel
theorem dX11_write_47 : decode cX11_write 47 = .ok (.getfield 82, 3) := by decide +kernel
theorem dX11_write_50 : decode cX11_write 50 = .ok (.ireturn, 1) := by decide +kernel
theorem dX11_wipe_0 : decode cX11_wipe 0 = .ok (.aload_n 0, 1) := by decide +kernel
theorem dX11_wipe_1 : decode cX11_wipe 1 = .ok (.getfield 82, 3) := by decide +kernel
theorem dX11_wipe_4 : decode cX11_wipe 4 = .ok (.istore_n 1, 1) := by decide +kernel
theorem dX11_wipe_5 : decode cX11_wipe 5 = .ok (.aload_n 0, 1) := by decide +kernel
theorem dX11_wipe_6 : decode cX11_wipe 6 = .ok (.iconst 0, 1) := by decide +kernel
theorem dX11_wipe_7 : decode cX11_wipe 7 = .ok (.putfield 82, 3) := by decide +kernel
theorem dX11_wipe_10 : decode cX11_wipe 10 = .ok (.iload_n 1, 1) := by decide +kernel
theorem dX11_wipe_11 : decode cX11_wipe 11 = .ok (.ireturn, 1) := by decide +kernel
set_option maxRecDepth 20000 in
theorem ggX11_fault_X11_reads : GoodIn wsX11_fault wsX11_reads := goodIn_r _ [5, 6, 7, 8, 9, 10, 4, 11, 12, 13, 14, 15, 16, 17, 18, 19, 20, 21, 22, 23, 24, 25, 26, 27, 28, 29, 30, 31, 32, 33, 34, 35, 36, 37, 38, 39, 40, 41, 42, 43, 44, 45, 46, 47, 48, 49, 50, 51, 52, 53, 54, 55, 56, 57, 58, 59, 60, 61, 62, 63, 64, 65, 66, 67, 68, 69] (by decide +kernel) (by decide +kernel)
set_option maxRecDepth 20000 in
theorem gX11_fault_X11_reads : GoodIn wsX11_fault (wsV RX11 106 RX11 yX11_reads wsX11_reads) := goodIn_app (goodIn_of _ (by decide +kernel)) ggX11_fault_X11_reads
theorem dX11_fault_0 : decode cX11_fault 0 = .ok (.aload_n 0, 1) := by decide +kernel
theorem dX11_fault_1 : decode cX11_fault 1 = .ok (.invokevirtual 106, 3) := by decide +kernel
theorem dX11_fault_4 : decode cX11_fault 4 = .ok (.ireturn, 1) := by decide +kernel
set_option maxRecDepth 20000 in
theorem ggX11_lay_X11_reads : GoodIn wsX11_lay wsX11_reads := goodIn_r _ [7, 8, 9, 10, 11, 12, 6, 13, 1, 14, 15, 16, 17, 18, 19, 20, 21, 22, 23, 24, 25, 26, 27, 28, 29, 30, 31, 32, 33, 34, 35, 36, 37, 38, 44, 45, 46, 47, 48, 49, 50, 51, 52, 53, 54, 55, 56, 57, 58, 59, 60, 61, 62, 63, 64, 65, 66, 67, 68, 69, 70, 71, 72, 73, 74, 75] (by decide +kernel) (by decide +kernel)
set_option maxRecDepth 20000 in
theorem gX11_lay_X11_reads : GoodIn wsX11_lay (wsV RX11 106 RX11 yX11_reads wsX11_reads) := goodIn_app (goodIn_of _ (by decide +kernel)) ggX11_lay_X11_reads
set_option maxRecDepth 20000 in
theorem ggX11_lay_X11_takes : GoodIn wsX11_lay wsX11_takes := goodIn_r _ [42, 2, 1, 43, 44, 45, 46, 47, 48, 49, 50, 51, 52, 53, 54, 55, 56, 57, 58, 59, 60, 61, 62, 63, 64, 65, 66, 67, 68, 69, 70, 71, 72, 73, 74, 75] (by decide +kernel) (by decide +kernel)
set_option maxRecDepth 20000 in
theorem gX11_lay_X11_takes : GoodIn wsX11_lay (wsV RX11 72 RX11 yX11_takes wsX11_takes) := goodIn_app (goodIn_of _ (by decide +kernel)) ggX11_lay_X11_takes
theorem dX11_lay_0 : decode cX11_lay 0 = .ok (.aload_n 0, 1) := by decide +kernel
theorem dX11_lay_1 : decode cX11_lay 1 = .ok (.invokevirtual 106, 3) := by decide +kernel
theorem dX11_lay_4 : decode cX11_lay 4 = .ok (.bipush (-4), 2) := by decide +kernel
theorem dX11_lay_6 : decode cX11_lay 6 = .ok (.if_icmp .ne 16, 3) := by decide +kernel
theorem dX11_lay_9 : decode cX11_lay 9 = .ok (.aload_n 0, 1) := by decide +kernel
theorem dX11_lay_10 : decode cX11_lay 10 = .ok (.getfield 13, 3) := by decide +kernel
theorem dX11_lay_13 : decode cX11_lay 13 = .ok (.iconst 0, 1) := by decide +kernel
theorem dX11_lay_14 : decode cX11_lay 14 = .ok (.iaload, 1) := by decide +kernel
theorem dX11_lay_15 : decode cX11_lay 15 = .ok (.ifCond .le 7, 3) := by decide +kernel
theorem dX11_lay_18 : decode cX11_lay 18 = .ok (.iconst 1, 1) := by decide +kernel
theorem dX11_lay_19 : decode cX11_lay 19 = .ok (.goto 4, 3) := by decide +kernel
theorem dX11_lay_22 : decode cX11_lay 22 = .ok (.iconst 0, 1) := by decide +kernel
theorem dX11_lay_23 : decode cX11_lay 23 = .ok (.istore_n 1, 1) := by decide +kernel
theorem dX11_lay_24 : decode cX11_lay 24 = .ok (.iconst 0, 1) := by decide +kernel
theorem dX11_lay_25 : decode cX11_lay 25 = .ok (.istore_n 2, 1) := by decide +kernel
theorem dX11_lay_26 : decode cX11_lay 26 = .ok (.iload_n 2, 1) := by decide +kernel
theorem dX11_lay_27 : decode cX11_lay 27 = .ok (.aload_n 0, 1) := by decide +kernel
theorem dX11_lay_28 : decode cX11_lay 28 = .ok (.getfield 13, 3) := by decide +kernel
theorem dX11_lay_31 : decode cX11_lay 31 = .ok (.iconst 0, 1) := by decide +kernel
theorem dX11_lay_32 : decode cX11_lay 32 = .ok (.iaload, 1) := by decide +kernel
theorem dX11_lay_33 : decode cX11_lay 33 = .ok (.if_icmp .ge 31, 3) := by decide +kernel
theorem dX11_lay_36 : decode cX11_lay 36 = .ok (.iload_n 1, 1) := by decide +kernel
theorem dX11_lay_37 : decode cX11_lay 37 = .ok (.ifCond .eq 19, 3) := by decide +kernel
theorem dX11_lay_40 : decode cX11_lay 40 = .ok (.aload_n 0, 1) := by decide +kernel
theorem dX11_lay_41 : decode cX11_lay 41 = .ok (.getfield 13, 3) := by decide +kernel
theorem dX11_lay_44 : decode cX11_lay 44 = .ok (.iconst 1, 1) := by decide +kernel
theorem dX11_lay_45 : decode cX11_lay 45 = .ok (.iload_n 2, 1) := by decide +kernel
theorem dX11_lay_46 : decode cX11_lay 46 = .ok (.iadd, 1) := by decide +kernel
theorem dX11_lay_47 : decode cX11_lay 47 = .ok (.iaload, 1) := by decide +kernel
theorem dX11_lay_48 : decode cX11_lay 48 = .ok (.iconst 1, 1) := by decide +kernel
theorem dX11_lay_49 : decode cX11_lay 49 = .ok (.if_icmp .le 7, 3) := by decide +kernel
theorem dX11_lay_52 : decode cX11_lay 52 = .ok (.iconst 1, 1) := by decide +kernel
theorem dX11_lay_53 : decode cX11_lay 53 = .ok (.goto 4, 3) := by decide +kernel
theorem dX11_lay_56 : decode cX11_lay 56 = .ok (.iconst 0, 1) := by decide +kernel
theorem dX11_lay_57 : decode cX11_lay 57 = .ok (.istore_n 1, 1) := by decide +kernel
theorem dX11_lay_58 : decode cX11_lay 58 = .ok (.iinc 2 1, 3) := by decide +kernel
theorem dX11_lay_61 : decode cX11_lay 61 = .ok (.goto (-35), 3) := by decide +kernel
theorem dX11_lay_64 : decode cX11_lay 64 = .ok (.iload_n 1, 1) := by decide +kernel
theorem dX11_lay_65 : decode cX11_lay 65 = .ok (.ifCond .ne 6, 3) := by decide +kernel
theorem dX11_lay_68 : decode cX11_lay 68 = .ok (.bipush (-2), 2) := by decide +kernel
theorem dX11_lay_70 : decode cX11_lay 70 = .ok (.ireturn, 1) := by decide +kernel
theorem dX11_lay_71 : decode cX11_lay 71 = .ok (.aload_n 0, 1) := by decide +kernel
theorem dX11_lay_72 : decode cX11_lay 72 = .ok (.invokevirtual 72, 3) := by decide +kernel
theorem dX11_lay_75 : decode cX11_lay 75 = .ok (.aload_n 0, 1) := by decide +kernel
theorem dX11_lay_76 : decode cX11_lay 76 = .ok (.getfield 7, 3) := by decide +kernel
theorem dX11_lay_79 : decode cX11_lay 79 = .ok (.iconst 0, 1) := by decide +kernel
theorem dX11_lay_80 : decode cX11_lay 80 = .ok (.iaload, 1) := by decide +kernel
theorem dX11_lay_81 : decode cX11_lay 81 = .ok (.ireturn, 1) := by decide +kernel
theorem dX11_keeps_0 : decode cX11_keeps 0 = .ok (.aload_n 0, 1) := by decide +kernel
theorem dX11_keeps_1 : decode cX11_keeps 1 = .ok (.getfield 75, 3) := by decide +kernel
theorem dX11_keeps_4 : decode cX11_keeps 4 = .ok (.bipush 6, 2) := by decide +kernel
theorem dX11_keeps_6 : decode cX11_keeps 6 = .ok (.if_icmp .ne 43, 3) := by decide +kernel
theorem dX11_keeps_9 : decode cX11_keeps 9 = .ok (.iconst 0, 1) := by decide +kernel
theorem dX11_keeps_10 : decode cX11_keeps 10 = .ok (.istore_n 1, 1) := by decide +kernel
theorem dX11_keeps_11 : decode cX11_keeps 11 = .ok (.iload_n 1, 1) := by decide +kernel
theorem dX11_keeps_12 : decode cX11_keeps 12 = .ok (.sipush 245, 3) := by decide +kernel
theorem dX11_keeps_15 : decode cX11_keeps 15 = .ok (.if_icmp .ge 24, 3) := by decide +kernel
theorem dX11_keeps_18 : decode cX11_keeps 18 = .ok (.aload_n 0, 1) := by decide +kernel
theorem dX11_keeps_19 : decode cX11_keeps 19 = .ok (.getfield 16, 3) := by decide +kernel
theorem dX11_keeps_22 : decode cX11_keeps 22 = .ok (.iload_n 1, 1) := by decide +kernel
theorem dX11_keeps_23 : decode cX11_keeps 23 = .ok (.aload_n 0, 1) := by decide +kernel
theorem dX11_keeps_24 : decode cX11_keeps 24 = .ok (.getfield 16, 3) := by decide +kernel
theorem dX11_keeps_27 : decode cX11_keeps 27 = .ok (.iload_n 1, 1) := by decide +kernel
theorem dX11_keeps_28 : decode cX11_keeps 28 = .ok (.bipush 49, 2) := by decide +kernel
theorem dX11_keeps_30 : decode cX11_keeps 30 = .ok (.iadd, 1) := by decide +kernel
theorem dX11_keeps_31 : decode cX11_keeps 31 = .ok (.iaload, 1) := by decide +kernel
theorem dX11_keeps_32 : decode cX11_keeps 32 = .ok (.iastore, 1) := by decide +kernel
theorem dX11_keeps_33 : decode cX11_keeps 33 = .ok (.iinc 1 1, 3) := by decide +kernel
theorem dX11_keeps_36 : decode cX11_keeps 36 = .ok (.goto (-25), 3) := by decide +kernel
theorem dX11_keeps_39 : decode cX11_keeps 39 = .ok (.aload_n 0, 1) := by decide +kernel
theorem dX11_keeps_40 : decode cX11_keeps 40 = .ok (.dup, 1) := by decide +kernel
theorem dX11_keeps_41 : decode cX11_keeps 41 = .ok (.getfield 75, 3) := by decide +kernel
theorem dX11_keeps_44 : decode cX11_keeps 44 = .ok (.iconst 1, 1) := by decide +kernel
theorem dX11_keeps_45 : decode cX11_keeps 45 = .ok (.isub, 1) := by decide +kernel
theorem dX11_keeps_46 : decode cX11_keeps 46 = .ok (.putfield 75, 3) := by decide +kernel
theorem dX11_keeps_49 : decode cX11_keeps 49 = .ok (.iconst 0, 1) := by decide +kernel
theorem dX11_keeps_50 : decode cX11_keeps 50 = .ok (.istore_n 1, 1) := by decide +kernel
theorem dX11_keeps_51 : decode cX11_keeps 51 = .ok (.iload_n 1, 1) := by decide +kernel
theorem dX11_keeps_52 : decode cX11_keeps 52 = .ok (.bipush 49, 2) := by decide +kernel
theorem dX11_keeps_54 : decode cX11_keeps 54 = .ok (.if_icmp .ge 29, 3) := by decide +kernel
theorem dX11_keeps_57 : decode cX11_keeps 57 = .ok (.aload_n 0, 1) := by decide +kernel
theorem dX11_keeps_58 : decode cX11_keeps 58 = .ok (.getfield 16, 3) := by decide +kernel
theorem dX11_keeps_61 : decode cX11_keeps 61 = .ok (.bipush 49, 2) := by decide +kernel
theorem dX11_keeps_63 : decode cX11_keeps 63 = .ok (.aload_n 0, 1) := by decide +kernel
theorem dX11_keeps_64 : decode cX11_keeps 64 = .ok (.getfield 75, 3) := by decide +kernel
theorem dX11_keeps_67 : decode cX11_keeps 67 = .ok (.imul, 1) := by decide +kernel
theorem dX11_keeps_68 : decode cX11_keeps 68 = .ok (.iload_n 1, 1) := by decide +kernel
theorem dX11_keeps_69 : decode cX11_keeps 69 = .ok (.iadd, 1) := by decide +kernel
theorem dX11_keeps_70 : decode cX11_keeps 70 = .ok (.aload_n 0, 1) := by decide +kernel
theorem dX11_keeps_71 : decode cX11_keeps 71 = .ok (.getfield 7, 3) := by decide +kernel
theorem dX11_keeps_74 : decode cX11_keeps 74 = .ok (.iload_n 1, 1) := by decide +kernel
theorem dX11_keeps_75 : decode cX11_keeps 75 = .ok (.iaload, 1) := by decide +kernel
theorem dX11_keeps_76 : decode cX11_keeps 76 = .ok (.iastore, 1) := by decide +kernel
theorem dX11_keeps_77 : decode cX11_keeps 77 = .ok (.iinc 1 1, 3) := by decide +kernel
theorem dX11_keeps_80 : decode cX11_keeps 80 = .ok (.goto (-29), 3) := by decide +kernel
theorem dX11_keeps_83 : decode cX11_keeps 83 = .ok (.aload_n 0, 1) := by decide +kernel
theorem dX11_keeps_84 : decode cX11_keeps 84 = .ok (.dup, 1) := by decide +kernel
theorem dX11_keeps_85 : decode cX11_keeps 85 = .ok (.getfield 75, 3) := by decide +kernel
theorem dX11_keeps_88 : decode cX11_keeps 88 = .ok (.iconst 1, 1) := by decide +kernel
theorem dX11_keeps_89 : decode cX11_keeps 89 = .ok (.iadd, 1) := by decide +kernel
theorem dX11_keeps_90 : decode cX11_keeps 90 = .ok (.putfield 75, 3) := by decide +kernel
theorem dX11_keeps_93 : decode cX11_keeps 93 = .ok (.return_, 1) := by decide +kernel
theorem dX11_undo_0 : decode cX11_undo 0 = .ok (.aload_n 0, 1) := by decide +kernel
theorem dX11_undo_1 : decode cX11_undo 1 = .ok (.getfield 75, 3) := by decide +kernel
theorem dX11_undo_4 : decode cX11_undo 4 = .ok (.ifCond .ne 6, 3) := by decide +kernel
theorem dX11_undo_7 : decode cX11_undo 7 = .ok (.bipush (-2), 2) := by decide +kernel
theorem dX11_undo_9 : decode cX11_undo 9 = .ok (.ireturn, 1) := by decide +kernel
theorem dX11_undo_10 : decode cX11_undo 10 = .ok (.aload_n 0, 1) := by decide +kernel
theorem dX11_undo_11 : decode cX11_undo 11 = .ok (.dup, 1) := by decide +kernel
theorem dX11_undo_12 : decode cX11_undo 12 = .ok (.getfield 75, 3) := by decide +kernel
theorem dX11_undo_15 : decode cX11_undo 15 = .ok (.iconst 1, 1) := by decide +kernel
theorem dX11_undo_16 : decode cX11_undo 16 = .ok (.isub, 1) := by decide +kernel
theorem dX11_undo_17 : decode cX11_undo 17 = .ok (.putfield 75, 3) := by decide +kernel
theorem dX11_undo_20 : decode cX11_undo 20 = .ok (.iconst 0, 1) := by decide +kernel
theorem dX11_undo_21 : decode cX11_undo 21 = .ok (.istore_n 1, 1) := by decide +kernel
theorem dX11_undo_22 : decode cX11_undo 22 = .ok (.iload_n 1, 1) := by decide +kernel
theorem dX11_undo_23 : decode cX11_undo 23 = .ok (.bipush 49, 2) := by decide +kernel
theorem dX11_undo_25 : decode cX11_undo 25 = .ok (.if_icmp .ge 29, 3) := by decide +kernel
theorem dX11_undo_28 : decode cX11_undo 28 = .ok (.aload_n 0, 1) := by decide +kernel
theorem dX11_undo_29 : decode cX11_undo 29 = .ok (.getfield 7, 3) := by decide +kernel
theorem dX11_undo_32 : decode cX11_undo 32 = .ok (.iload_n 1, 1) := by decide +kernel
theorem dX11_undo_33 : decode cX11_undo 33 = .ok (.aload_n 0, 1) := by decide +kernel
theorem dX11_undo_34 : decode cX11_undo 34 = .ok (.getfield 16, 3) := by decide +kernel
theorem dX11_undo_37 : decode cX11_undo 37 = .ok (.bipush 49, 2) := by decide +kernel
theorem dX11_undo_39 : decode cX11_undo 39 = .ok (.aload_n 0, 1) := by decide +kernel
theorem dX11_undo_40 : decode cX11_undo 40 = .ok (.getfield 75, 3) := by decide +kernel
theorem dX11_undo_43 : decode cX11_undo 43 = .ok (.imul, 1) := by decide +kernel
theorem dX11_undo_44 : decode cX11_undo 44 = .ok (.iload_n 1, 1) := by decide +kernel
theorem dX11_undo_45 : decode cX11_undo 45 = .ok (.iadd, 1) := by decide +kernel
theorem dX11_undo_46 : decode cX11_undo 46 = .ok (.iaload, 1) := by decide +kernel
theorem dX11_undo_47 : decode cX11_undo 47 = .ok (.iastore, 1) := by decide +kernel
theorem dX11_undo_48 : decode cX11_undo 48 = .ok (.iinc 1 1, 3) := by decide +kernel
theorem dX11_undo_51 : decode cX11_undo 51 = .ok (.goto (-29), 3) := by decide +kernel
theorem dX11_undo_54 : decode cX11_undo 54 = .ok (.aload_n 0, 1) := by decide +kernel
theorem dX11_undo_55 : decode cX11_undo 55 = .ok (.getfield 75, 3) := by decide +kernel
theorem dX11_undo_58 : decode cX11_undo 58 = .ok (.ireturn, 1) := by decide +kernel
set_option maxRecDepth 20000 in
theorem ggX11_isStratum_X11_in : GoodIn wsX11_isStratum wsX11_in := goodIn_r _ [5] (by decide +kernel) (by decide +kernel)
set_option maxRecDepth 20000 in
theorem gX11_isStratum_X11_in : GoodIn wsX11_isStratum (va_wsS RX11 85 yX11_in wsX11_in) := goodIn_app (goodIn_of _ (by decide +kernel)) ggX11_isStratum_X11_in
theorem dX11_isStratum_0 : decode cX11_isStratum 0 = .ok (.iload_n 1, 1) := by decide +kernel
theorem dX11_isStratum_1 : decode cX11_isStratum 1 = .ok (.iconst 0, 1) := by decide +kernel
theorem dX11_isStratum_2 : decode cX11_isStratum 2 = .ok (.aload_n 0, 1) := by decide +kernel
theorem dX11_isStratum_3 : decode cX11_isStratum 3 = .ok (.getfield 7, 3) := by decide +kernel
theorem dX11_isStratum_6 : decode cX11_isStratum 6 = .ok (.iconst 0, 1) := by decide +kernel
theorem dX11_isStratum_7 : decode cX11_isStratum 7 = .ok (.iaload, 1) := by decide +kernel
theorem dX11_isStratum_8 : decode cX11_isStratum 8 = .ok (.iconst 1, 1) := by decide +kernel
theorem dX11_isStratum_9 : decode cX11_isStratum 9 = .ok (.isub, 1) := by decide +kernel
theorem dX11_isStratum_10 : decode cX11_isStratum 10 = .ok (.invokestatic 85, 3) := by decide +kernel
theorem dX11_isStratum_13 : decode cX11_isStratum 13 = .ok (.ireturn, 1) := by decide +kernel
theorem dX11_columns_0 : decode cX11_columns 0 = .ok (.aload_n 0, 1) := by decide +kernel
theorem dX11_columns_1 : decode cX11_columns 1 = .ok (.getfield 7, 3) := by decide +kernel
theorem dX11_columns_4 : decode cX11_columns 4 = .ok (.iconst 1, 1) := by decide +kernel
theorem dX11_columns_5 : decode cX11_columns 5 = .ok (.iload_n 1, 1) := by decide +kernel
theorem dX11_columns_6 : decode cX11_columns 6 = .ok (.iadd, 1) := by decide +kernel
theorem dX11_columns_7 : decode cX11_columns 7 = .ok (.iaload, 1) := by decide +kernel
theorem dX11_columns_8 : decode cX11_columns 8 = .ok (.ireturn, 1) := by decide +kernel
set_option maxRecDepth 20000 in
theorem ggX11_isColumn_X11_isStratum : GoodIn wsX11_isColumn wsX11_isStratum := goodIn_r _ [5, 6, 7, 8, 4, 9, 14, 15, 16, 17, 18, 19, 20, 21, 22, 23, 24, 25, 26, 27, 28, 29, 30, 31, 32, 33, 34, 35, 36, 37, 38, 39, 40, 41, 42, 43, 44, 45] (by decide +kernel) (by decide +kernel)
set_option maxRecDepth 20000 in
theorem gX11_isColumn_X11_isStratum : GoodIn wsX11_isColumn (wsV RX11 110 RX11 yX11_isStratum wsX11_isStratum) := goodIn_app (goodIn_of _ (by decide +kernel)) ggX11_isColumn_X11_isStratum
set_option maxRecDepth 20000 in
theorem ggX11_isColumn_X11_columns : GoodIn wsX11_isColumn wsX11_columns := goodIn_r _ [13, 6, 14, 15, 16, 17, 18, 19, 20, 21, 22, 23, 24, 25, 26, 27, 28, 29, 30, 31, 32, 33, 34, 35, 36, 37, 38, 39, 40, 41, 42, 43, 44, 45] (by decide +kernel) (by decide +kernel)
set_option maxRecDepth 20000 in
theorem gX11_isColumn_X11_columns : GoodIn wsX11_isColumn (wsV RX11 114 RX11 yX11_columns wsX11_columns) := goodIn_app (goodIn_of _ (by decide +kernel)) ggX11_isColumn_X11_columns
set_option maxRecDepth 20000 in
theorem ggX11_isColumn_X11_in : GoodIn wsX11_isColumn wsX11_in := goodIn_r _ [9] (by decide +kernel) (by decide +kernel)
set_option maxRecDepth 20000 in
theorem gX11_isColumn_X11_in : GoodIn wsX11_isColumn (va_wsS RX11 85 yX11_in wsX11_in) := goodIn_app (goodIn_of _ (by decide +kernel)) ggX11_isColumn_X11_in
theorem dX11_isColumn_0 : decode cX11_isColumn 0 = .ok (.aload_n 0, 1) := by decide +kernel
theorem dX11_isColumn_1 : decode cX11_isColumn 1 = .ok (.iload_n 1, 1) := by decide +kernel
theorem dX11_isColumn_2 : decode cX11_isColumn 2 = .ok (.invokevirtual 110, 3) := by decide +kernel
theorem dX11_isColumn_5 : decode cX11_isColumn 5 = .ok (.ifCond .eq 22, 3) := by decide +kernel
theorem dX11_isColumn_8 : decode cX11_isColumn 8 = .ok (.iload_n 2, 1) := by decide +kernel
theorem dX11_isColumn_9 : decode cX11_isColumn 9 = .ok (.iconst 0, 1) := by decide +kernel
theorem dX11_isColumn_10 : decode cX11_isColumn 10 = .ok (.aload_n 0, 1) := by decide +kernel
theorem dX11_isColumn_11 : decode cX11_isColumn 11 = .ok (.iload_n 1, 1) := by decide +kernel
theorem dX11_isColumn_12 : decode cX11_isColumn 12 = .ok (.invokevirtual 114, 3) := by decide +kernel
theorem dX11_isColumn_15 : decode cX11_isColumn 15 = .ok (.iconst 1, 1) := by decide +kernel
theorem dX11_isColumn_16 : decode cX11_isColumn 16 = .ok (.isub, 1) := by decide +kernel
theorem dX11_isColumn_17 : decode cX11_isColumn 17 = .ok (.invokestatic 85, 3) := by decide +kernel
theorem dX11_isColumn_20 : decode cX11_isColumn 20 = .ok (.ifCond .eq 7, 3) := by decide +kernel
theorem dX11_isColumn_23 : decode cX11_isColumn 23 = .ok (.iconst 1, 1) := by decide +kernel
theorem dX11_isColumn_24 : decode cX11_isColumn 24 = .ok (.goto 4, 3) := by decide +kernel
theorem dX11_isColumn_27 : decode cX11_isColumn 27 = .ok (.iconst 0, 1) := by decide +kernel
theorem dX11_isColumn_28 : decode cX11_isColumn 28 = .ok (.ireturn, 1) := by decide +kernel
theorem dX11_place_0 : decode cX11_place 0 = .ok (.iconst 4, 1) := by decide +kernel
theorem dX11_place_1 : decode cX11_place 1 = .ok (.bipush 15, 2) := by decide +kernel
theorem dX11_place_3 : decode cX11_place 3 = .ok (.iload_n 0, 1) := by decide +kernel
theorem dX11_place_4 : decode cX11_place 4 = .ok (.imul, 1) := by decide +kernel
theorem dX11_place_5 : decode cX11_place 5 = .ok (.iadd, 1) := by decide +kernel
theorem dX11_place_6 : decode cX11_place 6 = .ok (.iconst 3, 1) := by decide +kernel
theorem dX11_place_7 : decode cX11_place 7 = .ok (.iload_n 1, 1) := by decide +kernel
theorem dX11_place_8 : decode cX11_place 8 = .ok (.imul, 1) := by decide +kernel
theorem dX11_place_9 : decode cX11_place 9 = .ok (.iadd, 1) := by decide +kernel
theorem dX11_place_10 : decode cX11_place 10 = .ok (.iload_n 2, 1) := by decide +kernel
theorem dX11_place_11 : decode cX11_place 11 = .ok (.iadd, 1) := by decide +kernel
theorem dX11_place_12 : decode cX11_place 12 = .ok (.ireturn, 1) := by decide +kernel
set_option maxRecDepth 20000 in
theorem ggX11_of_X11_place : GoodIn wsX11_of wsX11_place := goodIn_r _ [5] (by decide +kernel) (by decide +kernel)
set_option maxRecDepth 20000 in
theorem gX11_of_X11_place : GoodIn wsX11_of (va_wsS RX11 118 yX11_place wsX11_place) := goodIn_app (goodIn_of _ (by decide +kernel)) ggX11_of_X11_place
theorem dX11_of_0 : decode cX11_of 0 = .ok (.aload_n 0, 1) := by decide +kernel
theorem dX11_of_1 : decode cX11_of 1 = .ok (.getfield 7, 3) := by decide +kernel
theorem dX11_of_4 : decode cX11_of 4 = .ok (.iload_n 1, 1) := by decide +kernel
theorem dX11_of_5 : decode cX11_of 5 = .ok (.iload_n 2, 1) := by decide +kernel
theorem dX11_of_6 : decode cX11_of 6 = .ok (.iload_n 3, 1) := by decide +kernel
theorem dX11_of_7 : decode cX11_of 7 = .ok (.invokestatic 118, 3) := by decide +kernel
theorem dX11_of_10 : decode cX11_of 10 = .ok (.iaload, 1) := by decide +kernel
theorem dX11_of_11 : decode cX11_of 11 = .ok (.ireturn, 1) := by decide +kernel
set_option maxRecDepth 20000 in
theorem ggX11_set_X11_isColumn : GoodIn wsX11_set wsX11_isColumn := goodIn_r _ [6, 7, 8, 9, 5, 10, 1, 11, 12, 13, 14, 15, 16, 17, 31, 32, 33, 34, 35, 36, 37, 38, 39, 40, 41, 42, 43, 44, 45, 46, 47, 48, 49, 50, 51, 52, 53, 54, 55, 56, 57, 58, 59, 60, 61, 62] (by decide +kernel) (by decide +kernel)
set_option maxRecDepth 20000 in
theorem gX11_set_X11_isColumn : GoodIn wsX11_set (wsV RX11 122 RX11 yX11_isColumn wsX11_isColumn) := goodIn_app (goodIn_of _ (by decide +kernel)) ggX11_set_X11_isColumn
set_option maxRecDepth 20000 in
theorem ggX11_set_X11_in : GoodIn wsX11_set wsX11_in := goodIn_r _ [13] (by decide +kernel) (by decide +kernel)
set_option maxRecDepth 20000 in
theorem gX11_set_X11_in : GoodIn wsX11_set (va_wsS RX11 85 yX11_in wsX11_in) := goodIn_app (goodIn_of _ (by decide +kernel)) ggX11_set_X11_in
set_option maxRecDepth 20000 in
theorem ggX11_set_X11_of : GoodIn wsX11_set wsX11_of := goodIn_r _ [21, 1, 22, 23, 5, 24, 31, 32, 33, 34, 35, 36, 37, 38, 39, 40, 41, 42, 43, 44, 45, 46, 47, 48, 49, 50, 51, 52, 53, 54, 55, 56, 57, 58, 59, 60, 61, 62] (by decide +kernel) (by decide +kernel)
set_option maxRecDepth 20000 in
theorem gX11_set_X11_of : GoodIn wsX11_set (wsV RX11 125 RX11 yX11_of wsX11_of) := goodIn_app (goodIn_of _ (by decide +kernel)) ggX11_set_X11_of
set_option maxRecDepth 20000 in
theorem ggX11_set_X11_keeps : GoodIn wsX11_set wsX11_keeps := goodIn_r _ [28, 29, 30, 1, 31, 32, 33, 34, 35, 36, 37, 38, 39, 40, 41, 42, 43, 44, 45, 46, 47, 48, 49, 50, 51, 52, 53, 54, 55, 56, 57, 58, 59, 60, 61, 62] (by decide +kernel) (by decide +kernel)
set_option maxRecDepth 20000 in
theorem gX11_set_X11_keeps : GoodIn wsX11_set (wsV RX11 128 RX11 yX11_keeps wsX11_keeps) := goodIn_app (goodIn_of _ (by decide +kernel)) ggX11_set_X11_keeps
set_option maxRecDepth 20000 in
theorem ggX11_set_X11_place : GoodIn wsX11_set wsX11_place := goodIn_r _ [24] (by decide +kernel) (by decide +kernel)
set_option maxRecDepth 20000 in
theorem gX11_set_X11_place : GoodIn wsX11_set (va_wsS RX11 118 yX11_place wsX11_place) := goodIn_app (goodIn_of _ (by decide +kernel)) ggX11_set_X11_place
theorem dX11_set_0 : decode cX11_set 0 = .ok (.aload_n 0, 1) := by decide +kernel
theorem dX11_set_1 : decode cX11_set 1 = .ok (.iload_n 1, 1) := by decide +kernel
theorem dX11_set_2 : decode cX11_set 2 = .ok (.iload_n 2, 1) := by decide +kernel
theorem dX11_set_3 : decode cX11_set 3 = .ok (.invokevirtual 122, 3) := by decide +kernel
theorem dX11_set_6 : decode cX11_set 6 = .ok (.ifCond .eq 37, 3) := by decide +kernel
theorem dX11_set_9 : decode cX11_set 9 = .ok (.iload_n 3, 1) := by decide +kernel
theorem dX11_set_10 : decode cX11_set 10 = .ok (.iconst 0, 1) := by decide +kernel
theorem dX11_set_11 : decode cX11_set 11 = .ok (.iconst 1, 1) := by decide +kernel
theorem dX11_set_12 : decode cX11_set 12 = .ok (.invokestatic 85, 3) := by decide +kernel
theorem dX11_set_15 : decode cX11_set 15 = .ok (.ifCond .eq 28, 3) := by decide +kernel
theorem dX11_set_18 : decode cX11_set 18 = .ok (.iload 4, 2) := by decide +kernel
theorem dX11_set_20 : decode cX11_set 20 = .ok (.iconst 0, 1) := by decide +kernel
theorem dX11_set_21 : decode cX11_set 21 = .ok (.iload_n 3, 1) := by decide +kernel
theorem dX11_set_22 : decode cX11_set 22 = .ok (.ifCond .ne 13, 3) := by decide +kernel
theorem dX11_set_25 : decode cX11_set 25 = .ok (.aload_n 0, 1) := by decide +kernel
theorem dX11_set_26 : decode cX11_set 26 = .ok (.iload_n 1, 1) := by decide +kernel
theorem dX11_set_27 : decode cX11_set 27 = .ok (.iload_n 2, 1) := by decide +kernel
theorem dX11_set_28 : decode cX11_set 28 = .ok (.iconst 0, 1) := by decide +kernel
theorem dX11_set_29 : decode cX11_set 29 = .ok (.invokevirtual 125, 3) := by decide +kernel
theorem dX11_set_32 : decode cX11_set 32 = .ok (.goto 5, 3) := by decide +kernel
theorem dX11_set_35 : decode cX11_set 35 = .ok (.bipush 9, 2) := by decide +kernel
theorem dX11_set_37 : decode cX11_set 37 = .ok (.invokestatic 85, 3) := by decide +kernel
theorem dX11_set_40 : decode cX11_set 40 = .ok (.ifCond .ne 5, 3) := by decide +kernel
theorem dX11_set_43 : decode cX11_set 43 = .ok (.iconst (-1), 1) := by decide +kernel
theorem dX11_set_44 : decode cX11_set 44 = .ok (.ireturn, 1) := by decide +kernel
theorem dX11_set_45 : decode cX11_set 45 = .ok (.aload_n 0, 1) := by decide +kernel
theorem dX11_set_46 : decode cX11_set 46 = .ok (.iload_n 1, 1) := by decide +kernel
theorem dX11_set_47 : decode cX11_set 47 = .ok (.iload_n 2, 1) := by decide +kernel
theorem dX11_set_48 : decode cX11_set 48 = .ok (.iload_n 3, 1) := by decide +kernel
theorem dX11_set_49 : decode cX11_set 49 = .ok (.iconst 1, 1) := by decide +kernel
theorem dX11_set_50 : decode cX11_set 50 = .ok (.iadd, 1) := by decide +kernel
theorem dX11_set_51 : decode cX11_set 51 = .ok (.invokevirtual 125, 3) := by decide +kernel
theorem dX11_set_54 : decode cX11_set 54 = .ok (.istore 5, 2) := by decide +kernel
theorem dX11_set_56 : decode cX11_set 56 = .ok (.iload 5, 2) := by decide +kernel
theorem dX11_set_58 : decode cX11_set 58 = .ok (.iload 4, 2) := by decide +kernel
theorem dX11_set_60 : decode cX11_set 60 = .ok (.if_icmp .ne 6, 3) := by decide +kernel
theorem dX11_set_63 : decode cX11_set 63 = .ok (.bipush (-2), 2) := by decide +kernel
theorem dX11_set_65 : decode cX11_set 65 = .ok (.ireturn, 1) := by decide +kernel
theorem dX11_set_66 : decode cX11_set 66 = .ok (.aload_n 0, 1) := by decide +kernel
theorem dX11_set_67 : decode cX11_set 67 = .ok (.invokevirtual 128, 3) := by decide +kernel
theorem dX11_set_70 : decode cX11_set 70 = .ok (.aload_n 0, 1) := by decide +kernel
theorem dX11_set_71 : decode cX11_set 71 = .ok (.getfield 7, 3) := by decide +kernel
theorem dX11_set_74 : decode cX11_set 74 = .ok (.iload_n 1, 1) := by decide +kernel
theorem dX11_set_75 : decode cX11_set 75 = .ok (.iload_n 2, 1) := by decide +kernel
theorem dX11_set_76 : decode cX11_set 76 = .ok (.iload_n 3, 1) := by decide +kernel
theorem dX11_set_77 : decode cX11_set 77 = .ok (.iconst 1, 1) := by decide +kernel
theorem dX11_set_78 : decode cX11_set 78 = .ok (.iadd, 1) := by decide +kernel
theorem dX11_set_79 : decode cX11_set 79 = .ok (.invokestatic 118, 3) := by decide +kernel
theorem dX11_set_82 : decode cX11_set 82 = .ok (.iload 4, 2) := by decide +kernel
theorem dX11_set_84 : decode cX11_set 84 = .ok (.iastore, 1) := by decide +kernel
theorem dX11_set_85 : decode cX11_set 85 = .ok (.iload 5, 2) := by decide +kernel
theorem dX11_set_87 : decode cX11_set 87 = .ok (.ireturn, 1) := by decide +kernel
set_option maxRecDepth 20000 in
theorem ggX11_move_X11_isColumn : GoodIn wsX11_move wsX11_isColumn := goodIn_r _ [6, 7, 8, 9, 5, 10, 1, 11, 12, 13, 14, 15, 16, 17, 31, 32, 33, 34, 35, 36, 37, 38, 39, 40, 41, 42, 43, 44, 45, 46, 47, 48, 49, 50, 51, 52, 53, 54, 55, 56, 57, 58, 59, 60, 61, 62] (by decide +kernel) (by decide +kernel)
set_option maxRecDepth 20000 in
theorem gX11_move_X11_isColumn : GoodIn wsX11_move (wsV RX11 122 RX11 yX11_isColumn wsX11_isColumn) := goodIn_app (goodIn_of _ (by decide +kernel)) ggX11_move_X11_isColumn
set_option maxRecDepth 20000 in
theorem ggX11_move_X11_of : GoodIn wsX11_move wsX11_of := goodIn_r _ [21, 1, 22, 23, 5, 24, 31, 32, 33, 34, 35, 36, 37, 38, 39, 40, 41, 42, 43, 44, 45, 46, 47, 48, 49, 50, 51, 52, 53, 54, 55, 56, 57, 58, 59, 60, 61, 62] (by decide +kernel) (by decide +kernel)
set_option maxRecDepth 20000 in
theorem gX11_move_X11_of : GoodIn wsX11_move (wsV RX11 125 RX11 yX11_of wsX11_of) := goodIn_app (goodIn_of _ (by decide +kernel)) ggX11_move_X11_of
set_option maxRecDepth 20000 in
theorem ggX11_move_X11_keeps : GoodIn wsX11_move wsX11_keeps := goodIn_r _ [28, 29, 30, 1, 31, 32, 33, 34, 35, 36, 37, 38, 39, 40, 41, 42, 43, 44, 45, 46, 47, 48, 49, 50, 51, 52, 53, 54, 55, 56, 57, 58, 59, 60, 61, 62] (by decide +kernel) (by decide +kernel)
set_option maxRecDepth 20000 in
theorem gX11_move_X11_keeps : GoodIn wsX11_move (wsV RX11 128 RX11 yX11_keeps wsX11_keeps) := goodIn_app (goodIn_of _ (by decide +kernel)) ggX11_move_X11_keeps
set_option maxRecDepth 20000 in
theorem ggX11_move_X11_place : GoodIn wsX11_move wsX11_place := goodIn_r _ [24] (by decide +kernel) (by decide +kernel)
set_option maxRecDepth 20000 in
theorem gX11_move_X11_place : GoodIn wsX11_move (va_wsS RX11 118 yX11_place wsX11_place) := goodIn_app (goodIn_of _ (by decide +kernel)) ggX11_move_X11_place
theorem dX11_move_0 : decode cX11_move 0 = .ok (.aload_n 0, 1) := by decide +kernel
theorem dX11_move_1 : decode cX11_move 1 = .ok (.iload_n 1, 1) := by decide +kernel
theorem dX11_move_2 : decode cX11_move 2 = .ok (.iload_n 2, 1) := by decide +kernel
theorem dX11_move_3 : decode cX11_move 3 = .ok (.invokevirtual 122, 3) := by decide +kernel
theorem dX11_move_6 : decode cX11_move 6 = .ok (.ifCond .eq 17, 3) := by decide +kernel
theorem dX11_move_9 : decode cX11_move 9 = .ok (.aload_n 0, 1) := by decide +kernel
theorem dX11_move_10 : decode cX11_move 10 = .ok (.iload_n 1, 1) := by decide +kernel
theorem dX11_move_11 : decode cX11_move 11 = .ok (.iload_n 3, 1) := by decide +kernel
theorem dX11_move_12 : decode cX11_move 12 = .ok (.invokevirtual 122, 3) := by decide +kernel
theorem dX11_move_15 : decode cX11_move 15 = .ok (.ifCond .eq 8, 3) := by decide +kernel
theorem dX11_move_18 : decode cX11_move 18 = .ok (.iload_n 2, 1) := by decide +kernel
theorem dX11_move_19 : decode cX11_move 19 = .ok (.iload_n 3, 1) := by decide +kernel
theorem dX11_move_20 : decode cX11_move 20 = .ok (.if_icmp .ne 5, 3) := by decide +kernel
theorem dX11_move_23 : decode cX11_move 23 = .ok (.iconst (-1), 1) := by decide +kernel
theorem dX11_move_24 : decode cX11_move 24 = .ok (.ireturn, 1) := by decide +kernel
theorem dX11_move_25 : decode cX11_move 25 = .ok (.aload_n 0, 1) := by decide +kernel
theorem dX11_move_26 : decode cX11_move 26 = .ok (.iload_n 1, 1) := by decide +kernel
theorem dX11_move_27 : decode cX11_move 27 = .ok (.iload_n 2, 1) := by decide +kernel
theorem dX11_move_28 : decode cX11_move 28 = .ok (.iconst 1, 1) := by decide +kernel
theorem dX11_move_29 : decode cX11_move 29 = .ok (.invokevirtual 125, 3) := by decide +kernel
theorem dX11_move_32 : decode cX11_move 32 = .ok (.ifCond .eq 20, 3) := by decide +kernel
theorem dX11_move_35 : decode cX11_move 35 = .ok (.aload_n 0, 1) := by decide +kernel
theorem dX11_move_36 : decode cX11_move 36 = .ok (.iload_n 1, 1) := by decide +kernel
theorem dX11_move_37 : decode cX11_move 37 = .ok (.iload_n 3, 1) := by decide +kernel
theorem dX11_move_38 : decode cX11_move 38 = .ok (.iconst 1, 1) := by decide +kernel
theorem dX11_move_39 : decode cX11_move 39 = .ok (.invokevirtual 125, 3) := by decide +kernel
theorem dX11_move_42 : decode cX11_move 42 = .ok (.aload_n 0, 1) := by decide +kernel
theorem dX11_move_43 : decode cX11_move 43 = .ok (.iload_n 1, 1) := by decide +kernel
theorem dX11_move_44 : decode cX11_move 44 = .ok (.iload_n 3, 1) := by decide +kernel
theorem dX11_move_45 : decode cX11_move 45 = .ok (.iconst 0, 1) := by decide +kernel
theorem dX11_move_46 : decode cX11_move 46 = .ok (.invokevirtual 125, 3) := by decide +kernel
theorem dX11_move_49 : decode cX11_move 49 = .ok (.if_icmp .ne 6, 3) := by decide +kernel
theorem dX11_move_52 : decode cX11_move 52 = .ok (.bipush (-2), 2) := by decide +kernel
theorem dX11_move_54 : decode cX11_move 54 = .ok (.ireturn, 1) := by decide +kernel
theorem dX11_move_55 : decode cX11_move 55 = .ok (.aload_n 0, 1) := by decide +kernel
theorem dX11_move_56 : decode cX11_move 56 = .ok (.invokevirtual 128, 3) := by decide +kernel
theorem dX11_move_59 : decode cX11_move 59 = .ok (.aload_n 0, 1) := by decide +kernel
theorem dX11_move_60 : decode cX11_move 60 = .ok (.getfield 7, 3) := by decide +kernel
theorem dX11_move_63 : decode cX11_move 63 = .ok (.iload_n 1, 1) := by decide +kernel
theorem dX11_move_64 : decode cX11_move 64 = .ok (.iload_n 2, 1) := by decide +kernel
theorem dX11_move_65 : decode cX11_move 65 = .ok (.iconst 1, 1) := by decide +kernel
theorem dX11_move_66 : decode cX11_move 66 = .ok (.invokestatic 118, 3) := by decide +kernel
theorem dX11_move_69 : decode cX11_move 69 = .ok (.dup2, 1) := by decide +kernel
theorem dX11_move_70 : decode cX11_move 70 = .ok (.iaload, 1) := by decide +kernel
theorem dX11_move_71 : decode cX11_move 71 = .ok (.iconst 1, 1) := by decide +kernel
theorem dX11_move_72 : decode cX11_move 72 = .ok (.isub, 1) := by decide +kernel
theorem dX11_move_73 : decode cX11_move 73 = .ok (.iastore, 1) := by decide +kernel
theorem dX11_move_74 : decode cX11_move 74 = .ok (.aload_n 0, 1) := by decide +kernel
theorem dX11_move_75 : decode cX11_move 75 = .ok (.getfield 7, 3) := by decide +kernel
theorem dX11_move_78 : decode cX11_move 78 = .ok (.iload_n 1, 1) := by decide +kernel
theorem dX11_move_79 : decode cX11_move 79 = .ok (.iload_n 3, 1) := by decide +kernel
theorem dX11_move_80 : decode cX11_move 80 = .ok (.iconst 1, 1) := by decide +kernel
theorem dX11_move_81 : decode cX11_move 81 = .ok (.invokestatic 118, 3) := by decide +kernel
theorem dX11_move_84 : decode cX11_move 84 = .ok (.dup2, 1) := by decide +kernel
theorem dX11_move_85 : decode cX11_move 85 = .ok (.iaload, 1) := by decide +kernel
theorem dX11_move_86 : decode cX11_move 86 = .ok (.iconst 1, 1) := by decide +kernel
theorem dX11_move_87 : decode cX11_move 87 = .ok (.iadd, 1) := by decide +kernel
theorem dX11_move_88 : decode cX11_move 88 = .ok (.iastore, 1) := by decide +kernel
theorem dX11_move_89 : decode cX11_move 89 = .ok (.aload_n 0, 1) := by decide +kernel
theorem dX11_move_90 : decode cX11_move 90 = .ok (.iload_n 1, 1) := by decide +kernel
theorem dX11_move_91 : decode cX11_move 91 = .ok (.iload_n 3, 1) := by decide +kernel
theorem dX11_move_92 : decode cX11_move 92 = .ok (.iconst 1, 1) := by decide +kernel
theorem dX11_move_93 : decode cX11_move 93 = .ok (.invokevirtual 125, 3) := by decide +kernel
theorem dX11_move_96 : decode cX11_move 96 = .ok (.ireturn, 1) := by decide +kernel
set_option maxRecDepth 20000 in
theorem ggX11_turn_X11_isStratum : GoodIn wsX11_turn wsX11_isStratum := goodIn_r _ [6, 1, 7, 8, 5, 9, 31, 32, 33, 34, 35, 36, 37, 38, 39, 40, 41, 42, 43, 44, 45, 46, 47, 48, 49, 50, 51, 52, 53, 54, 55, 56, 57, 58, 59, 60, 61, 62] (by decide +kernel) (by decide +kernel)
set_option maxRecDepth 20000 in
theorem gX11_turn_X11_isStratum : GoodIn wsX11_turn (wsV RX11 110 RX11 yX11_isStratum wsX11_isStratum) := goodIn_app (goodIn_of _ (by decide +kernel)) ggX11_turn_X11_isStratum
set_option maxRecDepth 20000 in
theorem ggX11_turn_X11_keeps : GoodIn wsX11_turn wsX11_keeps := goodIn_r _ [13, 14, 15, 1, 31, 32, 33, 34, 35, 36, 37, 38, 39, 40, 41, 42, 43, 44, 45, 46, 47, 48, 49, 50, 51, 52, 53, 54, 55, 56, 57, 58, 59, 60, 61, 62] (by decide +kernel) (by decide +kernel)
set_option maxRecDepth 20000 in
theorem gX11_turn_X11_keeps : GoodIn wsX11_turn (wsV RX11 128 RX11 yX11_keeps wsX11_keeps) := goodIn_app (goodIn_of _ (by decide +kernel)) ggX11_turn_X11_keeps
set_option maxRecDepth 20000 in
theorem ggX11_turn_X11_columns : GoodIn wsX11_turn wsX11_columns := goodIn_r _ [19, 1, 31, 32, 33, 34, 35, 36, 37, 38, 39, 40, 41, 42, 43, 44, 45, 46, 47, 48, 49, 50, 51, 52, 53, 54, 55, 56, 57, 58, 59, 60, 61, 62] (by decide +kernel) (by decide +kernel)
set_option maxRecDepth 20000 in
theorem gX11_turn_X11_columns : GoodIn wsX11_turn (wsV RX11 114 RX11 yX11_columns wsX11_columns) := goodIn_app (goodIn_of _ (by decide +kernel)) ggX11_turn_X11_columns
set_option maxRecDepth 20000 in
theorem ggX11_turn_X11_place : GoodIn wsX11_turn wsX11_place := goodIn_r _ [22] (by decide +kernel) (by decide +kernel)
set_option maxRecDepth 20000 in
theorem gX11_turn_X11_place : GoodIn wsX11_turn (va_wsS RX11 118 yX11_place wsX11_place) := goodIn_app (goodIn_of _ (by decide +kernel)) ggX11_turn_X11_place
set_option maxRecDepth 20000 in
theorem ggX11_turn_X11_of : GoodIn wsX11_turn wsX11_of := goodIn_r _ [26, 1, 20, 21, 5, 22, 31, 32, 33, 34, 35, 36, 37, 38, 39, 40, 41, 42, 43, 44, 45, 46, 47, 48, 49, 50, 51, 52, 53, 54, 55, 56, 57, 58, 59, 60, 61, 62] (by decide +kernel) (by decide +kernel)
set_option maxRecDepth 20000 in
theorem gX11_turn_X11_of : GoodIn wsX11_turn (wsV RX11 125 RX11 yX11_of wsX11_of) := goodIn_app (goodIn_of _ (by decide +kernel)) ggX11_turn_X11_of
set_option maxRecDepth 20000 in
theorem ggX11_turn_X11_total : GoodIn wsX11_turn wsX11_total := goodIn_r _ [30, 16, 17, 18, 5, 19, 1, 23, 24, 25, 26, 20, 21, 22, 31, 32, 33, 34, 35, 36, 37, 38, 39, 40, 41, 42, 43, 44, 45, 46, 47, 48, 49, 50, 51, 52, 53, 54, 55, 56, 57, 58, 59, 60, 61, 62] (by decide +kernel) (by decide +kernel)
set_option maxRecDepth 20000 in
theorem gX11_turn_X11_total : GoodIn wsX11_turn (wsV RX11 131 RX11 yX11_total wsX11_total) := goodIn_app (goodIn_of _ (by decide +kernel)) ggX11_turn_X11_total
theorem dX11_turn_0 : decode cX11_turn 0 = .ok (.aload_n 0, 1) := by decide +kernel
theorem dX11_turn_1 : decode cX11_turn 1 = .ok (.iload_n 1, 1) := by decide +kernel
theorem dX11_turn_2 : decode cX11_turn 2 = .ok (.invokevirtual 110, 3) := by decide +kernel
theorem dX11_turn_5 : decode cX11_turn 5 = .ok (.ifCond .ne 5, 3) := by decide +kernel
theorem dX11_turn_8 : decode cX11_turn 8 = .ok (.iconst (-1), 1) := by decide +kernel
theorem dX11_turn_9 : decode cX11_turn 9 = .ok (.ireturn, 1) := by decide +kernel
theorem dX11_turn_10 : decode cX11_turn 10 = .ok (.aload_n 0, 1) := by decide +kernel
theorem dX11_turn_11 : decode cX11_turn 11 = .ok (.invokevirtual 128, 3) := by decide +kernel
theorem dX11_turn_14 : decode cX11_turn 14 = .ok (.iconst 0, 1) := by decide +kernel
theorem dX11_turn_15 : decode cX11_turn 15 = .ok (.istore_n 2, 1) := by decide +kernel
theorem dX11_turn_16 : decode cX11_turn 16 = .ok (.iload_n 2, 1) := by decide +kernel
theorem dX11_turn_17 : decode cX11_turn 17 = .ok (.aload_n 0, 1) := by decide +kernel
theorem dX11_turn_18 : decode cX11_turn 18 = .ok (.iload_n 1, 1) := by decide +kernel
theorem dX11_turn_19 : decode cX11_turn 19 = .ok (.invokevirtual 114, 3) := by decide +kernel
theorem dX11_turn_22 : decode cX11_turn 22 = .ok (.if_icmp .ge 35, 3) := by decide +kernel
theorem dX11_turn_25 : decode cX11_turn 25 = .ok (.aload_n 0, 1) := by decide +kernel
theorem dX11_turn_26 : decode cX11_turn 26 = .ok (.getfield 7, 3) := by decide +kernel
theorem dX11_turn_29 : decode cX11_turn 29 = .ok (.iload_n 1, 1) := by decide +kernel
theorem dX11_turn_30 : decode cX11_turn 30 = .ok (.iload_n 2, 1) := by decide +kernel
theorem dX11_turn_31 : decode cX11_turn 31 = .ok (.iconst 1, 1) := by decide +kernel
theorem dX11_turn_32 : decode cX11_turn 32 = .ok (.invokestatic 118, 3) := by decide +kernel
theorem dX11_turn_35 : decode cX11_turn 35 = .ok (.aload_n 0, 1) := by decide +kernel
theorem dX11_turn_36 : decode cX11_turn 36 = .ok (.iload_n 1, 1) := by decide +kernel
theorem dX11_turn_37 : decode cX11_turn 37 = .ok (.iload_n 2, 1) := by decide +kernel
theorem dX11_turn_38 : decode cX11_turn 38 = .ok (.iconst 0, 1) := by decide +kernel
theorem dX11_turn_39 : decode cX11_turn 39 = .ok (.invokevirtual 125, 3) := by decide +kernel
theorem dX11_turn_42 : decode cX11_turn 42 = .ok (.aload_n 0, 1) := by decide +kernel
theorem dX11_turn_43 : decode cX11_turn 43 = .ok (.iload_n 1, 1) := by decide +kernel
theorem dX11_turn_44 : decode cX11_turn 44 = .ok (.iload_n 2, 1) := by decide +kernel
theorem dX11_turn_45 : decode cX11_turn 45 = .ok (.iconst 1, 1) := by decide +kernel
theorem dX11_turn_46 : decode cX11_turn 46 = .ok (.invokevirtual 125, 3) := by decide +kernel
theorem dX11_turn_49 : decode cX11_turn 49 = .ok (.isub, 1) := by decide +kernel
theorem dX11_turn_50 : decode cX11_turn 50 = .ok (.iastore, 1) := by decide +kernel
theorem dX11_turn_51 : decode cX11_turn 51 = .ok (.iinc 2 1, 3) := by decide +kernel
theorem dX11_turn_54 : decode cX11_turn 54 = .ok (.goto (-38), 3) := by decide +kernel
theorem dX11_turn_57 : decode cX11_turn 57 = .ok (.aload_n 0, 1) := by decide +kernel
theorem dX11_turn_58 : decode cX11_turn 58 = .ok (.iload_n 1, 1) := by decide +kernel
theorem dX11_turn_59 : decode cX11_turn 59 = .ok (.iconst 1, 1) := by decide +kernel
theorem dX11_turn_60 : decode cX11_turn 60 = .ok (.invokevirtual 131, 3) := by decide +kernel
theorem dX11_turn_63 : decode cX11_turn 63 = .ok (.ireturn, 1) := by decide +kernel
set_option maxRecDepth 20000 in
theorem ggX11_total_X11_columns : GoodIn wsX11_total wsX11_columns := goodIn_r _ [5, 6, 14, 15, 16, 17, 18, 19, 20, 21, 22, 23, 24, 25, 26, 27, 28, 29, 30, 31, 32, 33, 34, 35, 36, 37, 38, 39, 40, 41, 42, 43, 44, 45] (by decide +kernel) (by decide +kernel)
set_option maxRecDepth 20000 in
theorem gX11_total_X11_columns : GoodIn wsX11_total (wsV RX11 114 RX11 yX11_columns wsX11_columns) := goodIn_app (goodIn_of _ (by decide +kernel)) ggX11_total_X11_columns
set_option maxRecDepth 20000 in
theorem ggX11_total_X11_of : GoodIn wsX11_total wsX11_of := goodIn_r _ [10, 6, 11, 12, 4, 13, 14, 15, 16, 17, 18, 19, 20, 21, 22, 23, 24, 25, 26, 27, 28, 29, 30, 31, 32, 33, 34, 35, 36, 37, 38, 39, 40, 41, 42, 43, 44, 45] (by decide +kernel) (by decide +kernel)
set_option maxRecDepth 20000 in
theorem gX11_total_X11_of : GoodIn wsX11_total (wsV RX11 125 RX11 yX11_of wsX11_of) := goodIn_app (goodIn_of _ (by decide +kernel)) ggX11_total_X11_of
theorem dX11_total_0 : decode cX11_total 0 = .ok (.iconst 0, 1) := by decide +kernel
theorem dX11_total_1 : decode cX11_total 1 = .ok (.istore_n 3, 1) := by decide +kernel
theorem dX11_total_2 : decode cX11_total 2 = .ok (.iconst 0, 1) := by decide +kernel
theorem dX11_total_3 : decode cX11_total 3 = .ok (.istore 4, 2) := by decide +kernel
theorem dX11_total_5 : decode cX11_total 5 = .ok (.iload 4, 2) := by decide +kernel
theorem dX11_total_7 : decode cX11_total 7 = .ok (.aload_n 0, 1) := by decide +kernel
theorem dX11_total_8 : decode cX11_total 8 = .ok (.iload_n 1, 1) := by decide +kernel
theorem dX11_total_9 : decode cX11_total 9 = .ok (.invokevirtual 114, 3) := by decide +kernel
theorem dX11_total_12 : decode cX11_total 12 = .ok (.if_icmp .ge 20, 3) := by decide +kernel
theorem dX11_total_15 : decode cX11_total 15 = .ok (.iload_n 3, 1) := by decide +kernel
theorem dX11_total_16 : decode cX11_total 16 = .ok (.aload_n 0, 1) := by decide +kernel
theorem dX11_total_17 : decode cX11_total 17 = .ok (.iload_n 1, 1) := by decide +kernel
theorem dX11_total_18 : decode cX11_total 18 = .ok (.iload 4, 2) := by decide +kernel
theorem dX11_total_20 : decode cX11_total 20 = .ok (.iload_n 2, 1) := by decide +kernel
theorem dX11_total_21 : decode cX11_total 21 = .ok (.invokevirtual 125, 3) := by decide +kernel
theorem dX11_total_24 : decode cX11_total 24 = .ok (.iadd, 1) := by decide +kernel
theorem dX11_total_25 : decode cX11_total 25 = .ok (.istore_n 3, 1) := by decide +kernel
theorem dX11_total_26 : decode cX11_total 26 = .ok (.iinc 4 1, 3) := by decide +kernel
theorem dX11_total_29 : decode cX11_total 29 = .ok (.goto (-24), 3) := by decide +kernel
theorem dX11_total_32 : decode cX11_total 32 = .ok (.iload_n 3, 1) := by decide +kernel
theorem dX11_total_33 : decode cX11_total 33 = .ok (.ireturn, 1) := by decide +kernel
set_option maxRecDepth 20000 in
theorem ggX11_setsOf_X11_of : GoodIn wsX11_setsOf wsX11_of := goodIn_r _ [6, 7, 8, 9, 5, 10, 11, 12, 13, 14, 15, 16, 17, 18, 19, 20, 21, 22, 23, 24, 25, 26, 27, 28, 29, 30, 31, 32, 33, 34, 35, 36, 37, 38, 39, 40, 41, 42] (by decide +kernel) (by decide +kernel)
set_option maxRecDepth 20000 in
theorem gX11_setsOf_X11_of : GoodIn wsX11_setsOf (wsV RX11 125 RX11 yX11_of wsX11_of) := goodIn_app (goodIn_of _ (by decide +kernel)) ggX11_setsOf_X11_of
theorem dX11_setsOf_0 : decode cX11_setsOf 0 = .ok (.aload_n 0, 1) := by decide +kernel
theorem dX11_setsOf_1 : decode cX11_setsOf 1 = .ok (.getfield 22, 3) := by decide +kernel
theorem dX11_setsOf_4 : decode cX11_setsOf 4 = .ok (.bipush 13, 2) := by decide +kernel
theorem dX11_setsOf_6 : decode cX11_setsOf 6 = .ok (.aload_n 0, 1) := by decide +kernel
theorem dX11_setsOf_7 : decode cX11_setsOf 7 = .ok (.iload_n 1, 1) := by decide +kernel
theorem dX11_setsOf_8 : decode cX11_setsOf 8 = .ok (.iload_n 2, 1) := by decide +kernel
theorem dX11_setsOf_9 : decode cX11_setsOf 9 = .ok (.iconst 0, 1) := by decide +kernel
theorem dX11_setsOf_10 : decode cX11_setsOf 10 = .ok (.invokevirtual 125, 3) := by decide +kernel
theorem dX11_setsOf_13 : decode cX11_setsOf 13 = .ok (.imul, 1) := by decide +kernel
theorem dX11_setsOf_14 : decode cX11_setsOf 14 = .ok (.iload_n 3, 1) := by decide +kernel
theorem dX11_setsOf_15 : decode cX11_setsOf 15 = .ok (.iadd, 1) := by decide +kernel
theorem dX11_setsOf_16 : decode cX11_setsOf 16 = .ok (.laload, 1) := by decide +kernel
theorem dX11_setsOf_17 : decode cX11_setsOf 17 = .ok (.lreturn, 1) := by decide +kernel
set_option maxRecDepth 20000 in
theorem ggX11_column_X11_isColumn : GoodIn wsX11_column wsX11_isColumn := goodIn_r _ [5, 6, 7, 8, 4, 9, 10, 11, 12, 13, 14, 15, 16, 17, 25, 26, 27, 28, 29, 30, 31, 32, 33, 34, 35, 36, 37, 38, 39, 40, 41, 42, 43, 44, 45, 46, 47, 48, 49, 50, 51, 52, 53, 54, 55, 56] (by decide +kernel) (by decide +kernel)
set_option maxRecDepth 20000 in
theorem gX11_column_X11_isColumn : GoodIn wsX11_column (wsV RX11 122 RX11 yX11_isColumn wsX11_isColumn) := goodIn_app (goodIn_of _ (by decide +kernel)) ggX11_column_X11_isColumn
set_option maxRecDepth 20000 in
theorem ggX11_column_X11_in : GoodIn wsX11_column wsX11_in := goodIn_r _ [13] (by decide +kernel) (by decide +kernel)
set_option maxRecDepth 20000 in
theorem gX11_column_X11_in : GoodIn wsX11_column (va_wsS RX11 85 yX11_in wsX11_in) := goodIn_app (goodIn_of _ (by decide +kernel)) ggX11_column_X11_in
set_option maxRecDepth 20000 in
theorem ggX11_column_X11_of : GoodIn wsX11_column wsX11_of := goodIn_r _ [21, 10, 22, 23, 4, 24, 25, 26, 27, 28, 29, 30, 31, 32, 33, 34, 35, 36, 37, 38, 39, 40, 41, 42, 43, 44, 45, 46, 47, 48, 49, 50, 51, 52, 53, 54, 55, 56] (by decide +kernel) (by decide +kernel)
set_option maxRecDepth 20000 in
theorem gX11_column_X11_of : GoodIn wsX11_column (wsV RX11 125 RX11 yX11_of wsX11_of) := goodIn_app (goodIn_of _ (by decide +kernel)) ggX11_column_X11_of
theorem dX11_column_0 : decode cX11_column 0 = .ok (.aload_n 0, 1) := by decide +kernel
theorem dX11_column_1 : decode cX11_column 1 = .ok (.iload_n 1, 1) := by decide +kernel
theorem dX11_column_2 : decode cX11_column 2 = .ok (.iload_n 2, 1) := by decide +kernel
theorem dX11_column_3 : decode cX11_column 3 = .ok (.invokevirtual 122, 3) := by decide +kernel
theorem dX11_column_6 : decode cX11_column 6 = .ok (.ifCond .eq 22, 3) := by decide +kernel
theorem dX11_column_9 : decode cX11_column 9 = .ok (.iload_n 3, 1) := by decide +kernel
theorem dX11_column_10 : decode cX11_column 10 = .ok (.iconst 0, 1) := by decide +kernel
theorem dX11_column_11 : decode cX11_column 11 = .ok (.iconst 2, 1) := by decide +kernel
theorem dX11_column_12 : decode cX11_column 12 = .ok (.invokestatic 85, 3) := by decide +kernel
theorem dX11_column_15 : decode cX11_column 15 = .ok (.ifCond .eq 13, 3) := by decide +kernel
theorem dX11_column_18 : decode cX11_column 18 = .ok (.aload_n 0, 1) := by decide +kernel
theorem dX11_column_19 : decode cX11_column 19 = .ok (.iload_n 1, 1) := by decide +kernel
theorem dX11_column_20 : decode cX11_column 20 = .ok (.iload_n 2, 1) := by decide +kernel
theorem dX11_column_21 : decode cX11_column 21 = .ok (.iload_n 3, 1) := by decide +kernel
theorem dX11_column_22 : decode cX11_column 22 = .ok (.invokevirtual 125, 3) := by decide +kernel
theorem dX11_column_25 : decode cX11_column 25 = .ok (.goto 4, 3) := by decide +kernel
theorem dX11_column_28 : decode cX11_column 28 = .ok (.iconst (-1), 1) := by decide +kernel
theorem dX11_column_29 : decode cX11_column 29 = .ok (.ireturn, 1) := by decide +kernel
set_option maxRecDepth 20000 in
theorem ggX11_fillsLeast_X11_columns : GoodIn wsX11_fillsLeast wsX11_columns := goodIn_r _ [7, 8, 16, 17, 18, 19, 20, 21, 22, 23, 24, 25, 26, 27, 28, 29, 30, 31, 32, 33, 34, 35, 36, 37, 38, 39, 40, 41, 42, 43, 44, 45, 46, 47] (by decide +kernel) (by decide +kernel)
set_option maxRecDepth 20000 in
theorem gX11_fillsLeast_X11_columns : GoodIn wsX11_fillsLeast (wsV RX11 114 RX11 yX11_columns wsX11_columns) := goodIn_app (goodIn_of _ (by decide +kernel)) ggX11_fillsLeast_X11_columns
set_option maxRecDepth 20000 in
theorem ggX11_fillsLeast_X11_of : GoodIn wsX11_fillsLeast wsX11_of := goodIn_r _ [12, 8, 13, 14, 6, 15, 16, 17, 18, 19, 20, 21, 22, 23, 24, 25, 26, 27, 28, 29, 30, 31, 32, 33, 34, 35, 36, 37, 38, 39, 40, 41, 42, 43, 44, 45, 46, 47] (by decide +kernel) (by decide +kernel)
set_option maxRecDepth 20000 in
theorem gX11_fillsLeast_X11_of : GoodIn wsX11_fillsLeast (wsV RX11 125 RX11 yX11_of wsX11_of) := goodIn_app (goodIn_of _ (by decide +kernel)) ggX11_fillsLeast_X11_of
theorem dX11_fillsLeast_0 : decode cX11_fillsLeast 0 = .ok (.iload_n 2, 1) := by decide +kernel
theorem dX11_fillsLeast_1 : decode cX11_fillsLeast 1 = .ok (.istore_n 3, 1) := by decide +kernel
theorem dX11_fillsLeast_2 : decode cX11_fillsLeast 2 = .ok (.iload_n 1, 1) := by decide +kernel
theorem dX11_fillsLeast_3 : decode cX11_fillsLeast 3 = .ok (.istore 4, 2) := by decide +kernel
theorem dX11_fillsLeast_5 : decode cX11_fillsLeast 5 = .ok (.iload 4, 2) := by decide +kernel
theorem dX11_fillsLeast_7 : decode cX11_fillsLeast 7 = .ok (.aload_n 0, 1) := by decide +kernel
theorem dX11_fillsLeast_8 : decode cX11_fillsLeast 8 = .ok (.aload_n 0, 1) := by decide +kernel
theorem dX11_fillsLeast_9 : decode cX11_fillsLeast 9 = .ok (.getfield 135, 3) := by decide +kernel
theorem dX11_fillsLeast_12 : decode cX11_fillsLeast 12 = .ok (.invokevirtual 114, 3) := by decide +kernel
theorem dX11_fillsLeast_15 : decode cX11_fillsLeast 15 = .ok (.if_icmp .ge 84, 3) := by decide +kernel
theorem dX11_fillsLeast_18 : decode cX11_fillsLeast 18 = .ok (.iconst 0, 1) := by decide +kernel
theorem dX11_fillsLeast_19 : decode cX11_fillsLeast 19 = .ok (.istore 5, 2) := by decide +kernel
theorem dX11_fillsLeast_21 : decode cX11_fillsLeast 21 = .ok (.iload 4, 2) := by decide +kernel
theorem dX11_fillsLeast_23 : decode cX11_fillsLeast 23 = .ok (.iconst 1, 1) := by decide +kernel
theorem dX11_fillsLeast_24 : decode cX11_fillsLeast 24 = .ok (.iadd, 1) := by decide +kernel
theorem dX11_fillsLeast_25 : decode cX11_fillsLeast 25 = .ok (.istore 6, 2) := by decide +kernel
theorem dX11_fillsLeast_27 : decode cX11_fillsLeast 27 = .ok (.iload 6, 2) := by decide +kernel
theorem dX11_fillsLeast_29 : decode cX11_fillsLeast 29 = .ok (.aload_n 0, 1) := by decide +kernel
theorem dX11_fillsLeast_30 : decode cX11_fillsLeast 30 = .ok (.aload_n 0, 1) := by decide +kernel
theorem dX11_fillsLeast_31 : decode cX11_fillsLeast 31 = .ok (.getfield 135, 3) := by decide +kernel
theorem dX11_fillsLeast_34 : decode cX11_fillsLeast 34 = .ok (.invokevirtual 114, 3) := by decide +kernel
theorem dX11_fillsLeast_37 : decode cX11_fillsLeast 37 = .ok (.if_icmp .ge 25, 3) := by decide +kernel
theorem dX11_fillsLeast_40 : decode cX11_fillsLeast 40 = .ok (.iload 5, 2) := by decide +kernel
theorem dX11_fillsLeast_42 : decode cX11_fillsLeast 42 = .ok (.aload_n 0, 1) := by decide +kernel
theorem dX11_fillsLeast_43 : decode cX11_fillsLeast 43 = .ok (.aload_n 0, 1) := by decide +kernel
theorem dX11_fillsLeast_44 : decode cX11_fillsLeast 44 = .ok (.getfield 135, 3) := by decide +kernel
theorem dX11_fillsLeast_47 : decode cX11_fillsLeast 47 = .ok (.iload 6, 2) := by decide +kernel
theorem dX11_fillsLeast_49 : decode cX11_fillsLeast 49 = .ok (.iconst 0, 1) := by decide +kernel
theorem dX11_fillsLeast_50 : decode cX11_fillsLeast 50 = .ok (.invokevirtual 125, 3) := by decide +kernel
theorem dX11_fillsLeast_53 : decode cX11_fillsLeast 53 = .ok (.iadd, 1) := by decide +kernel
theorem dX11_fillsLeast_54 : decode cX11_fillsLeast 54 = .ok (.istore 5, 2) := by decide +kernel
theorem dX11_fillsLeast_56 : decode cX11_fillsLeast 56 = .ok (.iinc 6 1, 3) := by decide +kernel
theorem dX11_fillsLeast_59 : decode cX11_fillsLeast 59 = .ok (.goto (-32), 3) := by decide +kernel
theorem dX11_fillsLeast_62 : decode cX11_fillsLeast 62 = .ok (.aload_n 0, 1) := by decide +kernel
theorem dX11_fillsLeast_63 : decode cX11_fillsLeast 63 = .ok (.getfield 26, 3) := by decide +kernel
theorem dX11_fillsLeast_66 : decode cX11_fillsLeast 66 = .ok (.iload 4, 2) := by decide +kernel
theorem dX11_fillsLeast_68 : decode cX11_fillsLeast 68 = .ok (.iload_n 3, 1) := by decide +kernel
theorem dX11_fillsLeast_69 : decode cX11_fillsLeast 69 = .ok (.iload 5, 2) := by decide +kernel
theorem dX11_fillsLeast_71 : decode cX11_fillsLeast 71 = .ok (.if_icmp .le 10, 3) := by decide +kernel
theorem dX11_fillsLeast_74 : decode cX11_fillsLeast 74 = .ok (.iload_n 3, 1) := by decide +kernel
theorem dX11_fillsLeast_75 : decode cX11_fillsLeast 75 = .ok (.iload 5, 2) := by decide +kernel
theorem dX11_fillsLeast_77 : decode cX11_fillsLeast 77 = .ok (.isub, 1) := by decide +kernel
theorem dX11_fillsLeast_78 : decode cX11_fillsLeast 78 = .ok (.goto 4, 3) := by decide +kernel
theorem dX11_fillsLeast_81 : decode cX11_fillsLeast 81 = .ok (.iconst 0, 1) := by decide +kernel
theorem dX11_fillsLeast_82 : decode cX11_fillsLeast 82 = .ok (.iastore, 1) := by decide +kernel
theorem dX11_fillsLeast_83 : decode cX11_fillsLeast 83 = .ok (.iload_n 3, 1) := by decide +kernel
theorem dX11_fillsLeast_84 : decode cX11_fillsLeast 84 = .ok (.aload_n 0, 1) := by decide +kernel
theorem dX11_fillsLeast_85 : decode cX11_fillsLeast 85 = .ok (.getfield 26, 3) := by decide +kernel
theorem dX11_fillsLeast_88 : decode cX11_fillsLeast 88 = .ok (.iload 4, 2) := by decide +kernel
theorem dX11_fillsLeast_90 : decode cX11_fillsLeast 90 = .ok (.iaload, 1) := by decide +kernel
theorem dX11_fillsLeast_91 : decode cX11_fillsLeast 91 = .ok (.isub, 1) := by decide +kernel
theorem dX11_fillsLeast_92 : decode cX11_fillsLeast 92 = .ok (.istore_n 3, 1) := by decide +kernel
theorem dX11_fillsLeast_93 : decode cX11_fillsLeast 93 = .ok (.iinc 4 1, 3) := by decide +kernel
theorem dX11_fillsLeast_96 : decode cX11_fillsLeast 96 = .ok (.goto (-91), 3) := by decide +kernel
theorem dX11_fillsLeast_99 : decode cX11_fillsLeast 99 = .ok (.return_, 1) := by decide +kernel
set_option maxRecDepth 20000 in
theorem ggX11_first_X11_total : GoodIn wsX11_first wsX11_total := goodIn_r _ [6, 7, 8, 9, 5, 10, 11, 12, 13, 14, 15, 16, 17, 18, 24, 25, 26, 27, 28, 29, 30, 31, 32, 33, 34, 35, 36, 37, 38, 39, 40, 41, 42, 43, 44, 45, 46, 47, 48, 49, 50, 51, 52, 53, 54, 55] (by decide +kernel) (by decide +kernel)
set_option maxRecDepth 20000 in
theorem gX11_first_X11_total : GoodIn wsX11_first (wsV RX11 131 RX11 yX11_total wsX11_total) := goodIn_app (goodIn_of _ (by decide +kernel)) ggX11_first_X11_total
set_option maxRecDepth 20000 in
theorem ggX11_first_X11_fillsLeast : GoodIn wsX11_first wsX11_fillsLeast := goodIn_r _ [22, 1, 23, 7, 8, 9, 5, 10, 11, 12, 13, 14, 15, 16, 17, 18, 24, 25, 26, 27, 28, 29, 30, 31, 32, 33, 34, 35, 36, 37, 38, 39, 40, 41, 42, 43, 44, 45, 46, 47, 48, 49, 50, 51, 52, 53, 54, 55] (by decide +kernel) (by decide +kernel)
set_option maxRecDepth 20000 in
theorem gX11_first_X11_fillsLeast : GoodIn wsX11_first (wsV RX11 138 RX11 yX11_fillsLeast wsX11_fillsLeast) := goodIn_app (goodIn_of _ (by decide +kernel)) ggX11_first_X11_fillsLeast
theorem dX11_first_0 : decode cX11_first 0 = .ok (.aload_n 0, 1) := by decide +kernel
theorem dX11_first_1 : decode cX11_first 1 = .ok (.iload_n 1, 1) := by decide +kernel
theorem dX11_first_2 : decode cX11_first 2 = .ok (.putfield 135, 3) := by decide +kernel
theorem dX11_first_5 : decode cX11_first 5 = .ok (.aload_n 0, 1) := by decide +kernel
theorem dX11_first_6 : decode cX11_first 6 = .ok (.iconst 0, 1) := by decide +kernel
theorem dX11_first_7 : decode cX11_first 7 = .ok (.aload_n 0, 1) := by decide +kernel
theorem dX11_first_8 : decode cX11_first 8 = .ok (.iload_n 1, 1) := by decide +kernel
theorem dX11_first_9 : decode cX11_first 9 = .ok (.iconst 1, 1) := by decide +kernel
theorem dX11_first_10 : decode cX11_first 10 = .ok (.invokevirtual 131, 3) := by decide +kernel
theorem dX11_first_13 : decode cX11_first 13 = .ok (.invokevirtual 138, 3) := by decide +kernel
theorem dX11_first_16 : decode cX11_first 16 = .ok (.return_, 1) := by decide +kernel
set_option maxRecDepth 20000 in
theorem ggX11_next_X11_columns : GoodIn wsX11_next wsX11_columns := goodIn_r _ [7, 8, 20, 21, 22, 23, 24, 25, 26, 27, 28, 29, 30, 31, 32, 33, 34, 35, 36, 37, 38, 39, 40, 41, 42, 43, 44, 45, 46, 47, 48, 49, 50, 51] (by decide +kernel) (by decide +kernel)
set_option maxRecDepth 20000 in
theorem gX11_next_X11_columns : GoodIn wsX11_next (wsV RX11 114 RX11 yX11_columns wsX11_columns) := goodIn_app (goodIn_of _ (by decide +kernel)) ggX11_next_X11_columns
set_option maxRecDepth 20000 in
theorem ggX11_next_X11_of : GoodIn wsX11_next wsX11_of := goodIn_r _ [12, 8, 13, 14, 6, 15, 20, 21, 22, 23, 24, 25, 26, 27, 28, 29, 30, 31, 32, 33, 34, 35, 36, 37, 38, 39, 40, 41, 42, 43, 44, 45, 46, 47, 48, 49, 50, 51] (by decide +kernel) (by decide +kernel)
set_option maxRecDepth 20000 in
theorem gX11_next_X11_of : GoodIn wsX11_next (wsV RX11 125 RX11 yX11_of wsX11_of) := goodIn_app (goodIn_of _ (by decide +kernel)) ggX11_next_X11_of
set_option maxRecDepth 20000 in
theorem ggX11_next_X11_fillsLeast : GoodIn wsX11_next wsX11_fillsLeast := goodIn_r _ [19, 2, 1, 3, 4, 5, 6, 7, 8, 9, 10, 11, 12, 13, 14, 15, 20, 21, 22, 23, 24, 25, 26, 27, 28, 29, 30, 31, 32, 33, 34, 35, 36, 37, 38, 39, 40, 41, 42, 43, 44, 45, 46, 47, 48, 49, 50, 51] (by decide +kernel) (by decide +kernel)
set_option maxRecDepth 20000 in
theorem gX11_next_X11_fillsLeast : GoodIn wsX11_next (wsV RX11 138 RX11 yX11_fillsLeast wsX11_fillsLeast) := goodIn_app (goodIn_of _ (by decide +kernel)) ggX11_next_X11_fillsLeast
theorem dX11_next_0 : decode cX11_next 0 = .ok (.aload_n 0, 1) := by decide +kernel
theorem dX11_next_1 : decode cX11_next 1 = .ok (.getfield 26, 3) := by decide +kernel
theorem dX11_next_4 : decode cX11_next 4 = .ok (.aload_n 0, 1) := by decide +kernel
theorem dX11_next_5 : decode cX11_next 5 = .ok (.aload_n 0, 1) := by decide +kernel
theorem dX11_next_6 : decode cX11_next 6 = .ok (.getfield 135, 3) := by decide +kernel
theorem dX11_next_9 : decode cX11_next 9 = .ok (.invokevirtual 114, 3) := by decide +kernel
theorem dX11_next_12 : decode cX11_next 12 = .ok (.iconst 1, 1) := by decide +kernel
theorem dX11_next_13 : decode cX11_next 13 = .ok (.isub, 1) := by decide +kernel
theorem dX11_next_14 : decode cX11_next 14 = .ok (.iaload, 1) := by decide +kernel
theorem dX11_next_15 : decode cX11_next 15 = .ok (.istore_n 1, 1) := by decide +kernel
theorem dX11_next_16 : decode cX11_next 16 = .ok (.aload_n 0, 1) := by decide +kernel
theorem dX11_next_17 : decode cX11_next 17 = .ok (.aload_n 0, 1) := by decide +kernel
theorem dX11_next_18 : decode cX11_next 18 = .ok (.getfield 135, 3) := by decide +kernel
theorem dX11_next_21 : decode cX11_next 21 = .ok (.invokevirtual 114, 3) := by decide +kernel
theorem dX11_next_24 : decode cX11_next 24 = .ok (.iconst 2, 1) := by decide +kernel
theorem dX11_next_25 : decode cX11_next 25 = .ok (.isub, 1) := by decide +kernel
theorem dX11_next_26 : decode cX11_next 26 = .ok (.istore_n 2, 1) := by decide +kernel
theorem dX11_next_27 : decode cX11_next 27 = .ok (.iload_n 2, 1) := by decide +kernel
theorem dX11_next_28 : decode cX11_next 28 = .ok (.ifCond .lt 63, 3) := by decide +kernel
theorem dX11_next_31 : decode cX11_next 31 = .ok (.iload_n 1, 1) := by decide +kernel
theorem dX11_next_32 : decode cX11_next 32 = .ok (.ifCond .le 44, 3) := by decide +kernel
theorem dX11_next_35 : decode cX11_next 35 = .ok (.aload_n 0, 1) := by decide +kernel
theorem dX11_next_36 : decode cX11_next 36 = .ok (.getfield 26, 3) := by decide +kernel
theorem dX11_next_39 : decode cX11_next 39 = .ok (.iload_n 2, 1) := by decide +kernel
theorem dX11_next_40 : decode cX11_next 40 = .ok (.iaload, 1) := by decide +kernel
theorem dX11_next_41 : decode cX11_next 41 = .ok (.aload_n 0, 1) := by decide +kernel
theorem dX11_next_42 : decode cX11_next 42 = .ok (.aload_n 0, 1) := by decide +kernel
theorem dX11_next_43 : decode cX11_next 43 = .ok (.getfield 135, 3) := by decide +kernel
theorem dX11_next_46 : decode cX11_next 46 = .ok (.iload_n 2, 1) := by decide +kernel
theorem dX11_next_47 : decode cX11_next 47 = .ok (.iconst 0, 1) := by decide +kernel
theorem dX11_next_48 : decode cX11_next 48 = .ok (.invokevirtual 125, 3) := by decide +kernel
theorem dX11_next_51 : decode cX11_next 51 = .ok (.if_icmp .ge 25, 3) := by decide +kernel
theorem dX11_next_54 : decode cX11_next 54 = .ok (.aload_n 0, 1) := by decide +kernel
theorem dX11_next_55 : decode cX11_next 55 = .ok (.getfield 26, 3) := by decide +kernel
theorem dX11_next_58 : decode cX11_next 58 = .ok (.iload_n 2, 1) := by decide +kernel
theorem dX11_next_59 : decode cX11_next 59 = .ok (.dup2, 1) := by decide +kernel
theorem dX11_next_60 : decode cX11_next 60 = .ok (.iaload, 1) := by decide +kernel
theorem dX11_next_61 : decode cX11_next 61 = .ok (.iconst 1, 1) := by decide +kernel
theorem dX11_next_62 : decode cX11_next 62 = .ok (.iadd, 1) := by decide +kernel
theorem dX11_next_63 : decode cX11_next 63 = .ok (.iastore, 1) := by decide +kernel
theorem dX11_next_64 : decode cX11_next 64 = .ok (.aload_n 0, 1) := by decide +kernel
theorem dX11_next_65 : decode cX11_next 65 = .ok (.iload_n 2, 1) := by decide +kernel
theorem dX11_next_66 : decode cX11_next 66 = .ok (.iconst 1, 1) := by decide +kernel
theorem dX11_next_67 : decode cX11_next 67 = .ok (.iadd, 1) := by decide +kernel
theorem dX11_next_68 : decode cX11_next 68 = .ok (.iload_n 1, 1) := by decide +kernel
theorem dX11_next_69 : decode cX11_next 69 = .ok (.iconst 1, 1) := by decide +kernel
theorem dX11_next_70 : decode cX11_next 70 = .ok (.isub, 1) := by decide +kernel
theorem dX11_next_71 : decode cX11_next 71 = .ok (.invokevirtual 138, 3) := by decide +kernel
theorem dX11_next_74 : decode cX11_next 74 = .ok (.iconst 1, 1) := by decide +kernel
theorem dX11_next_75 : decode cX11_next 75 = .ok (.ireturn, 1) := by decide +kernel
theorem dX11_next_76 : decode cX11_next 76 = .ok (.iload_n 1, 1) := by decide +kernel
theorem dX11_next_77 : decode cX11_next 77 = .ok (.aload_n 0, 1) := by decide +kernel
theorem dX11_next_78 : decode cX11_next 78 = .ok (.getfield 26, 3) := by decide +kernel
theorem dX11_next_81 : decode cX11_next 81 = .ok (.iload_n 2, 1) := by decide +kernel
theorem dX11_next_82 : decode cX11_next 82 = .ok (.iaload, 1) := by decide +kernel
theorem dX11_next_83 : decode cX11_next 83 = .ok (.iadd, 1) := by decide +kernel
theorem dX11_next_84 : decode cX11_next 84 = .ok (.istore_n 1, 1) := by decide +kernel
theorem dX11_next_85 : decode cX11_next 85 = .ok (.iinc 2 (-1), 3) := by decide +kernel
theorem dX11_next_88 : decode cX11_next 88 = .ok (.goto (-61), 3) := by decide +kernel
theorem dX11_next_91 : decode cX11_next 91 = .ok (.iconst 0, 1) := by decide +kernel
theorem dX11_next_92 : decode cX11_next 92 = .ok (.ireturn, 1) := by decide +kernel
set_option maxRecDepth 20000 in
theorem ggX11_tableWays_X11_columns : GoodIn wsX11_tableWays wsX11_columns := goodIn_r _ [7, 8, 21, 22, 23, 24, 25, 26, 27, 28, 29, 30, 31, 32, 33, 34, 35, 36, 37, 38, 39, 40, 41, 42, 43, 44, 45, 46, 47, 48, 49, 50, 51, 52] (by decide +kernel) (by decide +kernel)
set_option maxRecDepth 20000 in
theorem gX11_tableWays_X11_columns : GoodIn wsX11_tableWays (wsV RX11 114 RX11 yX11_columns wsX11_columns) := goodIn_app (goodIn_of _ (by decide +kernel)) ggX11_tableWays_X11_columns
set_option maxRecDepth 20000 in
theorem ggX11_tableWays_X11_setsOf : GoodIn wsX11_tableWays wsX11_setsOf := goodIn_r _ [12, 13, 14, 15, 16, 6, 17, 8, 18, 19, 20, 21, 22, 23, 24, 25, 26, 27, 28, 29, 30, 31, 32, 33, 34, 35, 36, 37, 38, 39, 40, 41, 42, 43, 44, 45, 46, 47, 48, 49, 50, 51, 52] (by decide +kernel) (by decide +kernel)
set_option maxRecDepth 20000 in
theorem gX11_tableWays_X11_setsOf : GoodIn wsX11_tableWays (wsV RX11 142 RX11 yX11_setsOf wsX11_setsOf) := goodIn_app (goodIn_of _ (by decide +kernel)) ggX11_tableWays_X11_setsOf
theorem dX11_tableWays_0 : decode cX11_tableWays 0 = .ok (.lconst 1, 1) := by decide +kernel
theorem dX11_tableWays_1 : decode cX11_tableWays 1 = .ok (.lstore_n 1, 1) := by decide +kernel
theorem dX11_tableWays_2 : decode cX11_tableWays 2 = .ok (.iconst 0, 1) := by decide +kernel
theorem dX11_tableWays_3 : decode cX11_tableWays 3 = .ok (.istore_n 3, 1) := by decide +kernel
theorem dX11_tableWays_4 : decode cX11_tableWays 4 = .ok (.iload_n 3, 1) := by decide +kernel
theorem dX11_tableWays_5 : decode cX11_tableWays 5 = .ok (.aload_n 0, 1) := by decide +kernel
theorem dX11_tableWays_6 : decode cX11_tableWays 6 = .ok (.aload_n 0, 1) := by decide +kernel
theorem dX11_tableWays_7 : decode cX11_tableWays 7 = .ok (.getfield 135, 3) := by decide +kernel
theorem dX11_tableWays_10 : decode cX11_tableWays 10 = .ok (.invokevirtual 114, 3) := by decide +kernel
theorem dX11_tableWays_13 : decode cX11_tableWays 13 = .ok (.if_icmp .ge 27, 3) := by decide +kernel
theorem dX11_tableWays_16 : decode cX11_tableWays 16 = .ok (.lload_n 1, 1) := by decide +kernel
theorem dX11_tableWays_17 : decode cX11_tableWays 17 = .ok (.aload_n 0, 1) := by decide +kernel
theorem dX11_tableWays_18 : decode cX11_tableWays 18 = .ok (.aload_n 0, 1) := by decide +kernel
theorem dX11_tableWays_19 : decode cX11_tableWays 19 = .ok (.getfield 135, 3) := by decide +kernel
theorem dX11_tableWays_22 : decode cX11_tableWays 22 = .ok (.iload_n 3, 1) := by decide +kernel
theorem dX11_tableWays_23 : decode cX11_tableWays 23 = .ok (.aload_n 0, 1) := by decide +kernel
theorem dX11_tableWays_24 : decode cX11_tableWays 24 = .ok (.getfield 26, 3) := by decide +kernel
theorem dX11_tableWays_27 : decode cX11_tableWays 27 = .ok (.iload_n 3, 1) := by decide +kernel
theorem dX11_tableWays_28 : decode cX11_tableWays 28 = .ok (.iaload, 1) := by decide +kernel
theorem dX11_tableWays_29 : decode cX11_tableWays 29 = .ok (.invokevirtual 142, 3) := by decide +kernel
theorem dX11_tableWays_32 : decode cX11_tableWays 32 = .ok (.lmul, 1) := by decide +kernel
theorem dX11_tableWays_33 : decode cX11_tableWays 33 = .ok (.lstore_n 1, 1) := by decide +kernel
theorem dX11_tableWays_34 : decode cX11_tableWays 34 = .ok (.iinc 3 1, 3) := by decide +kernel
theorem dX11_tableWays_37 : decode cX11_tableWays 37 = .ok (.goto (-33), 3) := by decide +kernel
theorem dX11_tableWays_40 : decode cX11_tableWays 40 = .ok (.lload_n 1, 1) := by decide +kernel
theorem dX11_tableWays_41 : decode cX11_tableWays 41 = .ok (.lreturn, 1) := by decide +kernel
set_option maxRecDepth 20000 in
theorem ggX11_tableSum_X11_columns : GoodIn wsX11_tableSum wsX11_columns := goodIn_r _ [7, 8, 16, 17, 18, 19, 20, 21, 22, 23, 24, 25, 26, 27, 28, 29, 30, 31, 32, 33, 34, 35, 36, 37, 38, 39, 40, 41, 42, 43, 44, 45, 46, 47] (by decide +kernel) (by decide +kernel)
set_option maxRecDepth 20000 in
theorem gX11_tableSum_X11_columns : GoodIn wsX11_tableSum (wsV RX11 114 RX11 yX11_columns wsX11_columns) := goodIn_app (goodIn_of _ (by decide +kernel)) ggX11_tableSum_X11_columns
set_option maxRecDepth 20000 in
theorem ggX11_tableSum_X11_of : GoodIn wsX11_tableSum wsX11_of := goodIn_r _ [12, 8, 13, 14, 6, 15, 16, 17, 18, 19, 20, 21, 22, 23, 24, 25, 26, 27, 28, 29, 30, 31, 32, 33, 34, 35, 36, 37, 38, 39, 40, 41, 42, 43, 44, 45, 46, 47] (by decide +kernel) (by decide +kernel)
set_option maxRecDepth 20000 in
theorem gX11_tableSum_X11_of : GoodIn wsX11_tableSum (wsV RX11 125 RX11 yX11_of wsX11_of) := goodIn_app (goodIn_of _ (by decide +kernel)) ggX11_tableSum_X11_of
theorem dX11_tableSum_0 : decode cX11_tableSum 0 = .ok (.iconst 0, 1) := by decide +kernel
theorem dX11_tableSum_1 : decode cX11_tableSum 1 = .ok (.istore_n 1, 1) := by decide +kernel
theorem dX11_tableSum_2 : decode cX11_tableSum 2 = .ok (.iconst 0, 1) := by decide +kernel
theorem dX11_tableSum_3 : decode cX11_tableSum 3 = .ok (.istore_n 2, 1) := by decide +kernel
theorem dX11_tableSum_4 : decode cX11_tableSum 4 = .ok (.iload_n 2, 1) := by decide +kernel
theorem dX11_tableSum_5 : decode cX11_tableSum 5 = .ok (.aload_n 0, 1) := by decide +kernel
theorem dX11_tableSum_6 : decode cX11_tableSum 6 = .ok (.aload_n 0, 1) := by decide +kernel
theorem dX11_tableSum_7 : decode cX11_tableSum 7 = .ok (.getfield 135, 3) := by decide +kernel
theorem dX11_tableSum_10 : decode cX11_tableSum 10 = .ok (.invokevirtual 114, 3) := by decide +kernel
theorem dX11_tableSum_13 : decode cX11_tableSum 13 = .ok (.if_icmp .ge 29, 3) := by decide +kernel
theorem dX11_tableSum_16 : decode cX11_tableSum 16 = .ok (.iload_n 1, 1) := by decide +kernel
theorem dX11_tableSum_17 : decode cX11_tableSum 17 = .ok (.aload_n 0, 1) := by decide +kernel
theorem dX11_tableSum_18 : decode cX11_tableSum 18 = .ok (.getfield 26, 3) := by decide +kernel
theorem dX11_tableSum_21 : decode cX11_tableSum 21 = .ok (.iload_n 2, 1) := by decide +kernel
theorem dX11_tableSum_22 : decode cX11_tableSum 22 = .ok (.iaload, 1) := by decide +kernel
theorem dX11_tableSum_23 : decode cX11_tableSum 23 = .ok (.aload_n 0, 1) := by decide +kernel
theorem dX11_tableSum_24 : decode cX11_tableSum 24 = .ok (.aload_n 0, 1) := by decide +kernel
theorem dX11_tableSum_25 : decode cX11_tableSum 25 = .ok (.getfield 135, 3) := by decide +kernel
theorem dX11_tableSum_28 : decode cX11_tableSum 28 = .ok (.iload_n 2, 1) := by decide +kernel
theorem dX11_tableSum_29 : decode cX11_tableSum 29 = .ok (.iconst 2, 1) := by decide +kernel
theorem dX11_tableSum_30 : decode cX11_tableSum 30 = .ok (.invokevirtual 125, 3) := by decide +kernel
theorem dX11_tableSum_33 : decode cX11_tableSum 33 = .ok (.imul, 1) := by decide +kernel
theorem dX11_tableSum_34 : decode cX11_tableSum 34 = .ok (.iadd, 1) := by decide +kernel
theorem dX11_tableSum_35 : decode cX11_tableSum 35 = .ok (.istore_n 1, 1) := by decide +kernel
theorem dX11_tableSum_36 : decode cX11_tableSum 36 = .ok (.iinc 2 1, 3) := by decide +kernel
theorem dX11_tableSum_39 : decode cX11_tableSum 39 = .ok (.goto (-35), 3) := by decide +kernel
theorem dX11_tableSum_42 : decode cX11_tableSum 42 = .ok (.iload_n 1, 1) := by decide +kernel
theorem dX11_tableSum_43 : decode cX11_tableSum 43 = .ok (.ireturn, 1) := by decide +kernel
set_option maxRecDepth 20000 in
theorem ggX11_seenWays_X11_columns : GoodIn wsX11_seenWays wsX11_columns := goodIn_r _ [5, 6, 19, 20, 21, 22, 23, 24, 25, 26, 27, 28, 29, 30, 31, 32, 33, 34, 35, 36, 37, 38, 39, 40, 41, 42, 43, 44, 45, 46, 47, 48, 49, 50] (by decide +kernel) (by decide +kernel)
set_option maxRecDepth 20000 in
theorem gX11_seenWays_X11_columns : GoodIn wsX11_seenWays (wsV RX11 114 RX11 yX11_columns wsX11_columns) := goodIn_app (goodIn_of _ (by decide +kernel)) ggX11_seenWays_X11_columns
set_option maxRecDepth 20000 in
theorem ggX11_seenWays_X11_of : GoodIn wsX11_seenWays wsX11_of := goodIn_r _ [10, 6, 11, 12, 4, 13, 19, 20, 21, 22, 23, 24, 25, 26, 27, 28, 29, 30, 31, 32, 33, 34, 35, 36, 37, 38, 39, 40, 41, 42, 43, 44, 45, 46, 47, 48, 49, 50] (by decide +kernel) (by decide +kernel)
set_option maxRecDepth 20000 in
theorem gX11_seenWays_X11_of : GoodIn wsX11_seenWays (wsV RX11 125 RX11 yX11_of wsX11_of) := goodIn_app (goodIn_of _ (by decide +kernel)) ggX11_seenWays_X11_of
set_option maxRecDepth 20000 in
theorem ggX11_seenWays_X11_setsOf : GoodIn wsX11_seenWays wsX11_setsOf := goodIn_r _ [17, 18, 7, 8, 9, 4, 10, 6, 11, 12, 13, 19, 20, 21, 22, 23, 24, 25, 26, 27, 28, 29, 30, 31, 32, 33, 34, 35, 36, 37, 38, 39, 40, 41, 42, 43, 44, 45, 46, 47, 48, 49, 50] (by decide +kernel) (by decide +kernel)
set_option maxRecDepth 20000 in
theorem gX11_seenWays_X11_setsOf : GoodIn wsX11_seenWays (wsV RX11 142 RX11 yX11_setsOf wsX11_setsOf) := goodIn_app (goodIn_of _ (by decide +kernel)) ggX11_seenWays_X11_setsOf
theorem dX11_seenWays_0 : decode cX11_seenWays 0 = .ok (.lconst 1, 1) := by decide +kernel
theorem dX11_seenWays_1 : decode cX11_seenWays 1 = .ok (.lstore_n 2, 1) := by decide +kernel
theorem dX11_seenWays_2 : decode cX11_seenWays 2 = .ok (.iconst 0, 1) := by decide +kernel
theorem dX11_seenWays_3 : decode cX11_seenWays 3 = .ok (.istore 4, 2) := by decide +kernel
theorem dX11_seenWays_5 : decode cX11_seenWays 5 = .ok (.iload 4, 2) := by decide +kernel
theorem dX11_seenWays_7 : decode cX11_seenWays 7 = .ok (.aload_n 0, 1) := by decide +kernel
theorem dX11_seenWays_8 : decode cX11_seenWays 8 = .ok (.iload_n 1, 1) := by decide +kernel
theorem dX11_seenWays_9 : decode cX11_seenWays 9 = .ok (.invokevirtual 114, 3) := by decide +kernel
theorem dX11_seenWays_12 : decode cX11_seenWays 12 = .ok (.if_icmp .ge 27, 3) := by decide +kernel
theorem dX11_seenWays_15 : decode cX11_seenWays 15 = .ok (.lload_n 2, 1) := by decide +kernel
theorem dX11_seenWays_16 : decode cX11_seenWays 16 = .ok (.aload_n 0, 1) := by decide +kernel
theorem dX11_seenWays_17 : decode cX11_seenWays 17 = .ok (.iload_n 1, 1) := by decide +kernel
theorem dX11_seenWays_18 : decode cX11_seenWays 18 = .ok (.iload 4, 2) := by decide +kernel
theorem dX11_seenWays_20 : decode cX11_seenWays 20 = .ok (.aload_n 0, 1) := by decide +kernel
theorem dX11_seenWays_21 : decode cX11_seenWays 21 = .ok (.iload_n 1, 1) := by decide +kernel
theorem dX11_seenWays_22 : decode cX11_seenWays 22 = .ok (.iload 4, 2) := by decide +kernel
theorem dX11_seenWays_24 : decode cX11_seenWays 24 = .ok (.iconst 1, 1) := by decide +kernel
theorem dX11_seenWays_25 : decode cX11_seenWays 25 = .ok (.invokevirtual 125, 3) := by decide +kernel
theorem dX11_seenWays_28 : decode cX11_seenWays 28 = .ok (.invokevirtual 142, 3) := by decide +kernel
theorem dX11_seenWays_31 : decode cX11_seenWays 31 = .ok (.lmul, 1) := by decide +kernel
theorem dX11_seenWays_32 : decode cX11_seenWays 32 = .ok (.lstore_n 2, 1) := by decide +kernel
theorem dX11_seenWays_33 : decode cX11_seenWays 33 = .ok (.iinc 4 1, 3) := by decide +kernel
theorem dX11_seenWays_36 : decode cX11_seenWays 36 = .ok (.goto (-31), 3) := by decide +kernel
theorem dX11_seenWays_39 : decode cX11_seenWays 39 = .ok (.lload_n 2, 1) := by decide +kernel
theorem dX11_seenWays_40 : decode cX11_seenWays 40 = .ok (.lreturn, 1) := by decide +kernel
set_option maxRecDepth 20000 in
theorem ggX11_seenSum_X11_columns : GoodIn wsX11_seenSum wsX11_columns := goodIn_r _ [5, 6, 14, 15, 16, 17, 18, 19, 20, 21, 22, 23, 24, 25, 26, 27, 28, 29, 30, 31, 32, 33, 34, 35, 36, 37, 38, 39, 40, 41, 42, 43, 44, 45] (by decide +kernel) (by decide +kernel)
set_option maxRecDepth 20000 in
theorem gX11_seenSum_X11_columns : GoodIn wsX11_seenSum (wsV RX11 114 RX11 yX11_columns wsX11_columns) := goodIn_app (goodIn_of _ (by decide +kernel)) ggX11_seenSum_X11_columns
set_option maxRecDepth 20000 in
theorem ggX11_seenSum_X11_of : GoodIn wsX11_seenSum wsX11_of := goodIn_r _ [10, 6, 11, 12, 4, 13, 14, 15, 16, 17, 18, 19, 20, 21, 22, 23, 24, 25, 26, 27, 28, 29, 30, 31, 32, 33, 34, 35, 36, 37, 38, 39, 40, 41, 42, 43, 44, 45] (by decide +kernel) (by decide +kernel)
set_option maxRecDepth 20000 in
theorem gX11_seenSum_X11_of : GoodIn wsX11_seenSum (wsV RX11 125 RX11 yX11_of wsX11_of) := goodIn_app (goodIn_of _ (by decide +kernel)) ggX11_seenSum_X11_of
theorem dX11_seenSum_0 : decode cX11_seenSum 0 = .ok (.iconst 0, 1) := by decide +kernel
theorem dX11_seenSum_1 : decode cX11_seenSum 1 = .ok (.istore_n 2, 1) := by decide +kernel
theorem dX11_seenSum_2 : decode cX11_seenSum 2 = .ok (.iconst 0, 1) := by decide +kernel
theorem dX11_seenSum_3 : decode cX11_seenSum 3 = .ok (.istore_n 3, 1) := by decide +kernel
theorem dX11_seenSum_4 : decode cX11_seenSum 4 = .ok (.iload_n 3, 1) := by decide +kernel
theorem dX11_seenSum_5 : decode cX11_seenSum 5 = .ok (.aload_n 0, 1) := by decide +kernel
theorem dX11_seenSum_6 : decode cX11_seenSum 6 = .ok (.iload_n 1, 1) := by decide +kernel
theorem dX11_seenSum_7 : decode cX11_seenSum 7 = .ok (.invokevirtual 114, 3) := by decide +kernel
theorem dX11_seenSum_10 : decode cX11_seenSum 10 = .ok (.if_icmp .ge 27, 3) := by decide +kernel
theorem dX11_seenSum_13 : decode cX11_seenSum 13 = .ok (.iload_n 2, 1) := by decide +kernel
theorem dX11_seenSum_14 : decode cX11_seenSum 14 = .ok (.aload_n 0, 1) := by decide +kernel
theorem dX11_seenSum_15 : decode cX11_seenSum 15 = .ok (.iload_n 1, 1) := by decide +kernel
theorem dX11_seenSum_16 : decode cX11_seenSum 16 = .ok (.iload_n 3, 1) := by decide +kernel
theorem dX11_seenSum_17 : decode cX11_seenSum 17 = .ok (.iconst 1, 1) := by decide +kernel
theorem dX11_seenSum_18 : decode cX11_seenSum 18 = .ok (.invokevirtual 125, 3) := by decide +kernel
theorem dX11_seenSum_21 : decode cX11_seenSum 21 = .ok (.aload_n 0, 1) := by decide +kernel
theorem dX11_seenSum_22 : decode cX11_seenSum 22 = .ok (.iload_n 1, 1) := by decide +kernel
theorem dX11_seenSum_23 : decode cX11_seenSum 23 = .ok (.iload_n 3, 1) := by decide +kernel
theorem dX11_seenSum_24 : decode cX11_seenSum 24 = .ok (.iconst 2, 1) := by decide +kernel
theorem dX11_seenSum_25 : decode cX11_seenSum 25 = .ok (.invokevirtual 125, 3) := by decide +kernel
theorem dX11_seenSum_28 : decode cX11_seenSum 28 = .ok (.imul, 1) := by decide +kernel
theorem dX11_seenSum_29 : decode cX11_seenSum 29 = .ok (.iadd, 1) := by decide +kernel
theorem dX11_seenSum_30 : decode cX11_seenSum 30 = .ok (.istore_n 2, 1) := by decide +kernel
theorem dX11_seenSum_31 : decode cX11_seenSum 31 = .ok (.iinc 3 1, 3) := by decide +kernel
theorem dX11_seenSum_34 : decode cX11_seenSum 34 = .ok (.goto (-30), 3) := by decide +kernel
theorem dX11_seenSum_37 : decode cX11_seenSum 37 = .ok (.iload_n 2, 1) := by decide +kernel
theorem dX11_seenSum_38 : decode cX11_seenSum 38 = .ok (.ireturn, 1) := by decide +kernel
set_option maxRecDepth 20000 in
theorem ggX11_isSeen_X11_columns : GoodIn wsX11_isSeen wsX11_columns := goodIn_r _ [7, 8, 16, 17, 18, 19, 20, 21, 22, 23, 24, 25, 26, 27, 28, 29, 30, 31, 32, 33, 34, 35, 36, 37, 38, 39, 40, 41, 42, 43, 44, 45, 46, 47] (by decide +kernel) (by decide +kernel)
set_option maxRecDepth 20000 in
theorem gX11_isSeen_X11_columns : GoodIn wsX11_isSeen (wsV RX11 114 RX11 yX11_columns wsX11_columns) := goodIn_app (goodIn_of _ (by decide +kernel)) ggX11_isSeen_X11_columns
set_option maxRecDepth 20000 in
theorem ggX11_isSeen_X11_of : GoodIn wsX11_isSeen wsX11_of := goodIn_r _ [12, 8, 13, 14, 6, 15, 16, 17, 18, 19, 20, 21, 22, 23, 24, 25, 26, 27, 28, 29, 30, 31, 32, 33, 34, 35, 36, 37, 38, 39, 40, 41, 42, 43, 44, 45, 46, 47] (by decide +kernel) (by decide +kernel)
set_option maxRecDepth 20000 in
theorem gX11_isSeen_X11_of : GoodIn wsX11_isSeen (wsV RX11 125 RX11 yX11_of wsX11_of) := goodIn_app (goodIn_of _ (by decide +kernel)) ggX11_isSeen_X11_of
theorem dX11_isSeen_0 : decode cX11_isSeen 0 = .ok (.iconst 1, 1) := by decide +kernel
theorem dX11_isSeen_1 : decode cX11_isSeen 1 = .ok (.istore_n 1, 1) := by decide +kernel
theorem dX11_isSeen_2 : decode cX11_isSeen 2 = .ok (.iconst 0, 1) := by decide +kernel
theorem dX11_isSeen_3 : decode cX11_isSeen 3 = .ok (.istore_n 2, 1) := by decide +kernel
theorem dX11_isSeen_4 : decode cX11_isSeen 4 = .ok (.iload_n 2, 1) := by decide +kernel
theorem dX11_isSeen_5 : decode cX11_isSeen 5 = .ok (.aload_n 0, 1) := by decide +kernel
theorem dX11_isSeen_6 : decode cX11_isSeen 6 = .ok (.aload_n 0, 1) := by decide +kernel
theorem dX11_isSeen_7 : decode cX11_isSeen 7 = .ok (.getfield 135, 3) := by decide +kernel
theorem dX11_isSeen_10 : decode cX11_isSeen 10 = .ok (.invokevirtual 114, 3) := by decide +kernel
theorem dX11_isSeen_13 : decode cX11_isSeen 13 = .ok (.if_icmp .ge 38, 3) := by decide +kernel
theorem dX11_isSeen_16 : decode cX11_isSeen 16 = .ok (.iload_n 1, 1) := by decide +kernel
theorem dX11_isSeen_17 : decode cX11_isSeen 17 = .ok (.ifCond .eq 26, 3) := by decide +kernel
theorem dX11_isSeen_20 : decode cX11_isSeen 20 = .ok (.aload_n 0, 1) := by decide +kernel
theorem dX11_isSeen_21 : decode cX11_isSeen 21 = .ok (.getfield 26, 3) := by decide +kernel
theorem dX11_isSeen_24 : decode cX11_isSeen 24 = .ok (.iload_n 2, 1) := by decide +kernel
theorem dX11_isSeen_25 : decode cX11_isSeen 25 = .ok (.iaload, 1) := by decide +kernel
theorem dX11_isSeen_26 : decode cX11_isSeen 26 = .ok (.aload_n 0, 1) := by decide +kernel
theorem dX11_isSeen_27 : decode cX11_isSeen 27 = .ok (.aload_n 0, 1) := by decide +kernel
theorem dX11_isSeen_28 : decode cX11_isSeen 28 = .ok (.getfield 135, 3) := by decide +kernel
theorem dX11_isSeen_31 : decode cX11_isSeen 31 = .ok (.iload_n 2, 1) := by decide +kernel
theorem dX11_isSeen_32 : decode cX11_isSeen 32 = .ok (.iconst 1, 1) := by decide +kernel
theorem dX11_isSeen_33 : decode cX11_isSeen 33 = .ok (.invokevirtual 125, 3) := by decide +kernel
theorem dX11_isSeen_36 : decode cX11_isSeen 36 = .ok (.if_icmp .ne 7, 3) := by decide +kernel
theorem dX11_isSeen_39 : decode cX11_isSeen 39 = .ok (.iconst 1, 1) := by decide +kernel
theorem dX11_isSeen_40 : decode cX11_isSeen 40 = .ok (.goto 4, 3) := by decide +kernel
theorem dX11_isSeen_43 : decode cX11_isSeen 43 = .ok (.iconst 0, 1) := by decide +kernel
theorem dX11_isSeen_44 : decode cX11_isSeen 44 = .ok (.istore_n 1, 1) := by decide +kernel
theorem dX11_isSeen_45 : decode cX11_isSeen 45 = .ok (.iinc 2 1, 3) := by decide +kernel
theorem dX11_isSeen_48 : decode cX11_isSeen 48 = .ok (.goto (-44), 3) := by decide +kernel
theorem dX11_isSeen_51 : decode cX11_isSeen 51 = .ok (.iload_n 1, 1) := by decide +kernel
theorem dX11_isSeen_52 : decode cX11_isSeen 52 = .ok (.ireturn, 1) := by decide +kernel
set_option maxRecDepth 20000 in
theorem ggX11_looksAtTable_X11_tableWays : GoodIn wsX11_looksAtTable wsX11_tableWays := goodIn_r _ [18, 4, 6, 19, 20, 21, 17, 22, 23, 24, 25, 26, 27, 28, 29, 30, 31, 32, 33, 34, 35, 44, 45, 46, 47, 48, 49, 50, 51, 52, 53, 54, 55, 56, 57, 58, 59, 60, 61, 62, 63, 64, 65, 66, 67, 68, 69, 70, 71, 72, 73, 74, 75] (by decide +kernel) (by decide +kernel)
set_option maxRecDepth 20000 in
theorem gX11_looksAtTable_X11_tableWays : GoodIn wsX11_looksAtTable (wsV RX11 146 RX11 yX11_tableWays wsX11_tableWays) := goodIn_app (goodIn_of _ (by decide +kernel)) ggX11_looksAtTable_X11_tableWays
set_option maxRecDepth 20000 in
theorem ggX11_looksAtTable_X11_tableSum : GoodIn wsX11_looksAtTable wsX11_tableSum := goodIn_r _ [39, 4, 6, 19, 20, 21, 17, 22, 23, 29, 30, 31, 32, 33, 34, 35, 44, 45, 46, 47, 48, 49, 50, 51, 52, 53, 54, 55, 56, 57, 58, 59, 60, 61, 62, 63, 64, 65, 66, 67, 68, 69, 70, 71, 72, 73, 74, 75] (by decide +kernel) (by decide +kernel)
set_option maxRecDepth 20000 in
theorem gX11_looksAtTable_X11_tableSum : GoodIn wsX11_looksAtTable (wsV RX11 150 RX11 yX11_tableSum wsX11_tableSum) := goodIn_app (goodIn_of _ (by decide +kernel)) ggX11_looksAtTable_X11_tableSum
set_option maxRecDepth 20000 in
theorem ggX11_looksAtTable_X11_columns : GoodIn wsX11_looksAtTable wsX11_columns := goodIn_r _ [22, 23, 44, 45, 46, 47, 48, 49, 50, 51, 52, 53, 54, 55, 56, 57, 58, 59, 60, 61, 62, 63, 64, 65, 66, 67, 68, 69, 70, 71, 72, 73, 74, 75] (by decide +kernel) (by decide +kernel)
set_option maxRecDepth 20000 in
theorem gX11_looksAtTable_X11_columns : GoodIn wsX11_looksAtTable (wsV RX11 114 RX11 yX11_columns wsX11_columns) := goodIn_app (goodIn_of _ (by decide +kernel)) ggX11_looksAtTable_X11_columns
set_option maxRecDepth 20000 in
theorem ggX11_looksAtTable_X11_isSeen : GoodIn wsX11_looksAtTable wsX11_isSeen := goodIn_r _ [43, 4, 6, 19, 20, 21, 17, 22, 23, 29, 30, 31, 32, 33, 34, 35, 44, 45, 46, 47, 48, 49, 50, 51, 52, 53, 54, 55, 56, 57, 58, 59, 60, 61, 62, 63, 64, 65, 66, 67, 68, 69, 70, 71, 72, 73, 74, 75] (by decide +kernel) (by decide +kernel)
set_option maxRecDepth 20000 in
theorem gX11_looksAtTable_X11_isSeen : GoodIn wsX11_looksAtTable (wsV RX11 178 RX11 yX11_isSeen wsX11_isSeen) := goodIn_app (goodIn_of _ (by decide +kernel)) ggX11_looksAtTable_X11_isSeen
theorem dX11_looksAtTable_0 : decode cX11_looksAtTable 0 = .ok (.aload_n 0, 1) := by decide +kernel
theorem dX11_looksAtTable_1 : decode cX11_looksAtTable 1 = .ok (.invokevirtual 146, 3) := by decide +kernel
theorem dX11_looksAtTable_4 : decode cX11_looksAtTable 4 = .ok (.lstore 5, 2) := by decide +kernel
theorem dX11_looksAtTable_6 : decode cX11_looksAtTable 6 = .ok (.aload_n 0, 1) := by decide +kernel
theorem dX11_looksAtTable_7 : decode cX11_looksAtTable 7 = .ok (.invokevirtual 150, 3) := by decide +kernel
theorem dX11_looksAtTable_10 : decode cX11_looksAtTable 10 = .ok (.istore 7, 2) := by decide +kernel
theorem dX11_looksAtTable_12 : decode cX11_looksAtTable 12 = .ok (.aload_n 0, 1) := by decide +kernel
theorem dX11_looksAtTable_13 : decode cX11_looksAtTable 13 = .ok (.dup, 1) := by decide +kernel
theorem dX11_looksAtTable_14 : decode cX11_looksAtTable 14 = .ok (.getfield 153, 3) := by decide +kernel
theorem dX11_looksAtTable_17 : decode cX11_looksAtTable 17 = .ok (.lload 5, 2) := by decide +kernel
theorem dX11_looksAtTable_19 : decode cX11_looksAtTable 19 = .ok (.ladd, 1) := by decide +kernel
theorem dX11_looksAtTable_20 : decode cX11_looksAtTable 20 = .ok (.putfield 153, 3) := by decide +kernel
theorem dX11_looksAtTable_23 : decode cX11_looksAtTable 23 = .ok (.aload_n 0, 1) := by decide +kernel
theorem dX11_looksAtTable_24 : decode cX11_looksAtTable 24 = .ok (.getfield 157, 3) := by decide +kernel
theorem dX11_looksAtTable_27 : decode cX11_looksAtTable 27 = .ok (.ifCond .eq 13, 3) := by decide +kernel
theorem dX11_looksAtTable_30 : decode cX11_looksAtTable 30 = .ok (.lload 5, 2) := by decide +kernel
theorem dX11_looksAtTable_32 : decode cX11_looksAtTable 32 = .ok (.aload_n 0, 1) := by decide +kernel
theorem dX11_looksAtTable_33 : decode cX11_looksAtTable 33 = .ok (.getfield 160, 3) := by decide +kernel
theorem dX11_looksAtTable_36 : decode cX11_looksAtTable 36 = .ok (.lcmp, 1) := by decide +kernel
theorem dX11_looksAtTable_37 : decode cX11_looksAtTable 37 = .ok (.ifCond .le 45, 3) := by decide +kernel
theorem dX11_looksAtTable_40 : decode cX11_looksAtTable 40 = .ok (.aload_n 0, 1) := by decide +kernel
theorem dX11_looksAtTable_41 : decode cX11_looksAtTable 41 = .ok (.lload 5, 2) := by decide +kernel
theorem dX11_looksAtTable_43 : decode cX11_looksAtTable 43 = .ok (.putfield 160, 3) := by decide +kernel
theorem dX11_looksAtTable_46 : decode cX11_looksAtTable 46 = .ok (.iconst 0, 1) := by decide +kernel
theorem dX11_looksAtTable_47 : decode cX11_looksAtTable 47 = .ok (.istore 8, 2) := by decide +kernel
theorem dX11_looksAtTable_49 : decode cX11_looksAtTable 49 = .ok (.iload 8, 2) := by decide +kernel
theorem dX11_looksAtTable_51 : decode cX11_looksAtTable 51 = .ok (.aload_n 0, 1) := by decide +kernel
theorem dX11_looksAtTable_52 : decode cX11_looksAtTable 52 = .ok (.aload_n 0, 1) := by decide +kernel
theorem dX11_looksAtTable_53 : decode cX11_looksAtTable 53 = .ok (.getfield 135, 3) := by decide +kernel
theorem dX11_looksAtTable_56 : decode cX11_looksAtTable 56 = .ok (.invokevirtual 114, 3) := by decide +kernel
theorem dX11_looksAtTable_59 : decode cX11_looksAtTable 59 = .ok (.if_icmp .ge 23, 3) := by decide +kernel
theorem dX11_looksAtTable_62 : decode cX11_looksAtTable 62 = .ok (.aload_n 0, 1) := by decide +kernel
theorem dX11_looksAtTable_63 : decode cX11_looksAtTable 63 = .ok (.getfield 29, 3) := by decide +kernel
theorem dX11_looksAtTable_66 : decode cX11_looksAtTable 66 = .ok (.iload 8, 2) := by decide +kernel
theorem dX11_looksAtTable_68 : decode cX11_looksAtTable 68 = .ok (.aload_n 0, 1) := by decide +kernel
theorem dX11_looksAtTable_69 : decode cX11_looksAtTable 69 = .ok (.getfield 26, 3) := by decide +kernel
theorem dX11_looksAtTable_72 : decode cX11_looksAtTable 72 = .ok (.iload 8, 2) := by decide +kernel
theorem dX11_looksAtTable_74 : decode cX11_looksAtTable 74 = .ok (.iaload, 1) := by decide +kernel
theorem dX11_looksAtTable_75 : decode cX11_looksAtTable 75 = .ok (.iastore, 1) := by decide +kernel
theorem dX11_looksAtTable_76 : decode cX11_looksAtTable 76 = .ok (.iinc 8 1, 3) := by decide +kernel
theorem dX11_looksAtTable_79 : decode cX11_looksAtTable 79 = .ok (.goto (-30), 3) := by decide +kernel
theorem dX11_looksAtTable_82 : decode cX11_looksAtTable 82 = .ok (.aload_n 0, 1) := by decide +kernel
theorem dX11_looksAtTable_83 : decode cX11_looksAtTable 83 = .ok (.aload_n 0, 1) := by decide +kernel
theorem dX11_looksAtTable_84 : decode cX11_looksAtTable 84 = .ok (.getfield 157, 3) := by decide +kernel
theorem dX11_looksAtTable_87 : decode cX11_looksAtTable 87 = .ok (.ifCond .eq 13, 3) := by decide +kernel
theorem dX11_looksAtTable_90 : decode cX11_looksAtTable 90 = .ok (.lload 5, 2) := by decide +kernel
theorem dX11_looksAtTable_92 : decode cX11_looksAtTable 92 = .ok (.aload_n 0, 1) := by decide +kernel
theorem dX11_looksAtTable_93 : decode cX11_looksAtTable 93 = .ok (.getfield 163, 3) := by decide +kernel
theorem dX11_looksAtTable_96 : decode cX11_looksAtTable 96 = .ok (.lcmp, 1) := by decide +kernel
theorem dX11_looksAtTable_97 : decode cX11_looksAtTable 97 = .ok (.ifCond .ge 8, 3) := by decide +kernel
theorem dX11_looksAtTable_100 : decode cX11_looksAtTable 100 = .ok (.lload 5, 2) := by decide +kernel
theorem dX11_looksAtTable_102 : decode cX11_looksAtTable 102 = .ok (.goto 7, 3) := by decide +kernel
theorem dX11_looksAtTable_105 : decode cX11_looksAtTable 105 = .ok (.aload_n 0, 1) := by decide +kernel
theorem dX11_looksAtTable_106 : decode cX11_looksAtTable 106 = .ok (.getfield 163, 3) := by decide +kernel
theorem dX11_looksAtTable_109 : decode cX11_looksAtTable 109 = .ok (.putfield 163, 3) := by decide +kernel
theorem dX11_looksAtTable_112 : decode cX11_looksAtTable 112 = .ok (.aload_n 0, 1) := by decide +kernel
theorem dX11_looksAtTable_113 : decode cX11_looksAtTable 113 = .ok (.aload_n 0, 1) := by decide +kernel
theorem dX11_looksAtTable_114 : decode cX11_looksAtTable 114 = .ok (.getfield 157, 3) := by decide +kernel
theorem dX11_looksAtTable_117 : decode cX11_looksAtTable 117 = .ok (.ifCond .eq 12, 3) := by decide +kernel
theorem dX11_looksAtTable_120 : decode cX11_looksAtTable 120 = .ok (.iload 7, 2) := by decide +kernel
theorem dX11_looksAtTable_122 : decode cX11_looksAtTable 122 = .ok (.aload_n 0, 1) := by decide +kernel
theorem dX11_looksAtTable_123 : decode cX11_looksAtTable 123 = .ok (.getfield 166, 3) := by decide +kernel
theorem dX11_looksAtTable_126 : decode cX11_looksAtTable 126 = .ok (.if_icmp .ge 8, 3) := by decide +kernel
theorem dX11_looksAtTable_129 : decode cX11_looksAtTable 129 = .ok (.iload 7, 2) := by decide +kernel
theorem dX11_looksAtTable_131 : decode cX11_looksAtTable 131 = .ok (.goto 7, 3) := by decide +kernel
theorem dX11_looksAtTable_134 : decode cX11_looksAtTable 134 = .ok (.aload_n 0, 1) := by decide +kernel
theorem dX11_looksAtTable_135 : decode cX11_looksAtTable 135 = .ok (.getfield 166, 3) := by decide +kernel
theorem dX11_looksAtTable_138 : decode cX11_looksAtTable 138 = .ok (.putfield 166, 3) := by decide +kernel
theorem dX11_looksAtTable_141 : decode cX11_looksAtTable 141 = .ok (.aload_n 0, 1) := by decide +kernel
theorem dX11_looksAtTable_142 : decode cX11_looksAtTable 142 = .ok (.aload_n 0, 1) := by decide +kernel
theorem dX11_looksAtTable_143 : decode cX11_looksAtTable 143 = .ok (.getfield 157, 3) := by decide +kernel
theorem dX11_looksAtTable_146 : decode cX11_looksAtTable 146 = .ok (.ifCond .eq 12, 3) := by decide +kernel
theorem dX11_looksAtTable_149 : decode cX11_looksAtTable 149 = .ok (.iload 7, 2) := by decide +kernel
theorem dX11_looksAtTable_151 : decode cX11_looksAtTable 151 = .ok (.aload_n 0, 1) := by decide +kernel
theorem dX11_looksAtTable_152 : decode cX11_looksAtTable 152 = .ok (.getfield 169, 3) := by decide +kernel
theorem dX11_looksAtTable_155 : decode cX11_looksAtTable 155 = .ok (.if_icmp .le 8, 3) := by decide +kernel
theorem dX11_looksAtTable_158 : decode cX11_looksAtTable 158 = .ok (.iload 7, 2) := by decide +kernel
theorem dX11_looksAtTable_160 : decode cX11_looksAtTable 160 = .ok (.goto 7, 3) := by decide +kernel
theorem dX11_looksAtTable_163 : decode cX11_looksAtTable 163 = .ok (.aload_n 0, 1) := by decide +kernel
theorem dX11_looksAtTable_164 : decode cX11_looksAtTable 164 = .ok (.getfield 169, 3) := by decide +kernel
theorem dX11_looksAtTable_167 : decode cX11_looksAtTable 167 = .ok (.putfield 169, 3) := by decide +kernel
theorem dX11_looksAtTable_170 : decode cX11_looksAtTable 170 = .ok (.iload_n 1, 1) := by decide +kernel
theorem dX11_looksAtTable_171 : decode cX11_looksAtTable 171 = .ok (.ifCond .ne 18, 3) := by decide +kernel
theorem dX11_looksAtTable_174 : decode cX11_looksAtTable 174 = .ok (.lload 5, 2) := by decide +kernel
theorem dX11_looksAtTable_176 : decode cX11_looksAtTable 176 = .ok (.lload_n 2, 1) := by decide +kernel
theorem dX11_looksAtTable_177 : decode cX11_looksAtTable 177 = .ok (.lcmp, 1) := by decide +kernel
theorem dX11_looksAtTable_178 : decode cX11_looksAtTable 178 = .ok (.ifCond .gt 7, 3) := by decide +kernel
theorem dX11_looksAtTable_181 : decode cX11_looksAtTable 181 = .ok (.iconst 1, 1) := by decide +kernel
theorem dX11_looksAtTable_182 : decode cX11_looksAtTable 182 = .ok (.goto 39, 3) := by decide +kernel
theorem dX11_looksAtTable_185 : decode cX11_looksAtTable 185 = .ok (.iconst 0, 1) := by decide +kernel
theorem dX11_looksAtTable_186 : decode cX11_looksAtTable 186 = .ok (.goto 35, 3) := by decide +kernel
theorem dX11_looksAtTable_189 : decode cX11_looksAtTable 189 = .ok (.iload_n 1, 1) := by decide +kernel
theorem dX11_looksAtTable_190 : decode cX11_looksAtTable 190 = .ok (.iconst 1, 1) := by decide +kernel
theorem dX11_looksAtTable_191 : decode cX11_looksAtTable 191 = .ok (.if_icmp .ne 18, 3) := by decide +kernel
theorem dX11_looksAtTable_194 : decode cX11_looksAtTable 194 = .ok (.iload 7, 2) := by decide +kernel
theorem dX11_looksAtTable_196 : decode cX11_looksAtTable 196 = .ok (.iload 4, 2) := by decide +kernel
theorem dX11_looksAtTable_198 : decode cX11_looksAtTable 198 = .ok (.if_icmp .lt 7, 3) := by decide +kernel
theorem dX11_looksAtTable_201 : decode cX11_looksAtTable 201 = .ok (.iconst 1, 1) := by decide +kernel
theorem dX11_looksAtTable_202 : decode cX11_looksAtTable 202 = .ok (.goto 19, 3) := by decide +kernel
theorem dX11_looksAtTable_205 : decode cX11_looksAtTable 205 = .ok (.iconst 0, 1) := by decide +kernel
theorem dX11_looksAtTable_206 : decode cX11_looksAtTable 206 = .ok (.goto 15, 3) := by decide +kernel
theorem dX11_looksAtTable_209 : decode cX11_looksAtTable 209 = .ok (.iload 7, 2) := by decide +kernel
theorem dX11_looksAtTable_211 : decode cX11_looksAtTable 211 = .ok (.iload 4, 2) := by decide +kernel
theorem dX11_looksAtTable_213 : decode cX11_looksAtTable 213 = .ok (.if_icmp .gt 7, 3) := by decide +kernel
theorem dX11_looksAtTable_216 : decode cX11_looksAtTable 216 = .ok (.iconst 1, 1) := by decide +kernel
theorem dX11_looksAtTable_217 : decode cX11_looksAtTable 217 = .ok (.goto 4, 3) := by decide +kernel
theorem dX11_looksAtTable_220 : decode cX11_looksAtTable 220 = .ok (.iconst 0, 1) := by decide +kernel
theorem dX11_looksAtTable_221 : decode cX11_looksAtTable 221 = .ok (.istore 8, 2) := by decide +kernel
theorem dX11_looksAtTable_223 : decode cX11_looksAtTable 223 = .ok (.aload_n 0, 1) := by decide +kernel
theorem dX11_looksAtTable_224 : decode cX11_looksAtTable 224 = .ok (.dup, 1) := by decide +kernel
theorem dX11_looksAtTable_225 : decode cX11_looksAtTable 225 = .ok (.getfield 172, 3) := by decide +kernel
theorem dX11_looksAtTable_228 : decode cX11_looksAtTable 228 = .ok (.iload 8, 2) := by decide +kernel
theorem dX11_looksAtTable_230 : decode cX11_looksAtTable 230 = .ok (.ifCond .eq 7, 3) := by decide +kernel
theorem dX11_looksAtTable_233 : decode cX11_looksAtTable 233 = .ok (.iconst 1, 1) := by decide +kernel
theorem dX11_looksAtTable_234 : decode cX11_looksAtTable 234 = .ok (.goto 4, 3) := by decide +kernel
theorem dX11_looksAtTable_237 : decode cX11_looksAtTable 237 = .ok (.iconst 0, 1) := by decide +kernel
theorem dX11_looksAtTable_238 : decode cX11_looksAtTable 238 = .ok (.iadd, 1) := by decide +kernel
theorem dX11_looksAtTable_239 : decode cX11_looksAtTable 239 = .ok (.putfield 172, 3) := by decide +kernel
theorem dX11_looksAtTable_242 : decode cX11_looksAtTable 242 = .ok (.aload_n 0, 1) := by decide +kernel
theorem dX11_looksAtTable_243 : decode cX11_looksAtTable 243 = .ok (.dup, 1) := by decide +kernel
theorem dX11_looksAtTable_244 : decode cX11_looksAtTable 244 = .ok (.getfield 175, 3) := by decide +kernel
theorem dX11_looksAtTable_247 : decode cX11_looksAtTable 247 = .ok (.iload 8, 2) := by decide +kernel
theorem dX11_looksAtTable_249 : decode cX11_looksAtTable 249 = .ok (.ifCond .eq 8, 3) := by decide +kernel
theorem dX11_looksAtTable_252 : decode cX11_looksAtTable 252 = .ok (.lload 5, 2) := by decide +kernel
theorem dX11_looksAtTable_254 : decode cX11_looksAtTable 254 = .ok (.goto 4, 3) := by decide +kernel
theorem dX11_looksAtTable_257 : decode cX11_looksAtTable 257 = .ok (.lconst 0, 1) := by decide +kernel
theorem dX11_looksAtTable_258 : decode cX11_looksAtTable 258 = .ok (.ladd, 1) := by decide +kernel
theorem dX11_looksAtTable_259 : decode cX11_looksAtTable 259 = .ok (.putfield 175, 3) := by decide +kernel
theorem dX11_looksAtTable_262 : decode cX11_looksAtTable 262 = .ok (.aload_n 0, 1) := by decide +kernel
theorem dX11_looksAtTable_263 : decode cX11_looksAtTable 263 = .ok (.aload_n 0, 1) := by decide +kernel
theorem dX11_looksAtTable_264 : decode cX11_looksAtTable 264 = .ok (.invokevirtual 178, 3) := by decide +kernel
theorem dX11_looksAtTable_267 : decode cX11_looksAtTable 267 = .ok (.ifCond .eq 10, 3) := by decide +kernel
theorem dX11_looksAtTable_270 : decode cX11_looksAtTable 270 = .ok (.aload_n 0, 1) := by decide +kernel
theorem dX11_looksAtTable_271 : decode cX11_looksAtTable 271 = .ok (.getfield 157, 3) := by decide +kernel
theorem dX11_looksAtTable_274 : decode cX11_looksAtTable 274 = .ok (.goto 7, 3) := by decide +kernel
theorem dX11_looksAtTable_277 : decode cX11_looksAtTable 277 = .ok (.aload_n 0, 1) := by decide +kernel
theorem dX11_looksAtTable_278 : decode cX11_looksAtTable 278 = .ok (.getfield 181, 3) := by decide +kernel
theorem dX11_looksAtTable_281 : decode cX11_looksAtTable 281 = .ok (.putfield 181, 3) := by decide +kernel
theorem dX11_looksAtTable_284 : decode cX11_looksAtTable 284 = .ok (.aload_n 0, 1) := by decide +kernel
theorem dX11_looksAtTable_285 : decode cX11_looksAtTable 285 = .ok (.getfield 32, 3) := by decide +kernel
theorem dX11_looksAtTable_288 : decode cX11_looksAtTable 288 = .ok (.iload 7, 2) := by decide +kernel
theorem dX11_looksAtTable_290 : decode cX11_looksAtTable 290 = .ok (.dup2, 1) := by decide +kernel
theorem dX11_looksAtTable_291 : decode cX11_looksAtTable 291 = .ok (.laload, 1) := by decide +kernel
theorem dX11_looksAtTable_292 : decode cX11_looksAtTable 292 = .ok (.lload 5, 2) := by decide +kernel
theorem dX11_looksAtTable_294 : decode cX11_looksAtTable 294 = .ok (.ladd, 1) := by decide +kernel
theorem dX11_looksAtTable_295 : decode cX11_looksAtTable 295 = .ok (.lastore, 1) := by decide +kernel
theorem dX11_looksAtTable_296 : decode cX11_looksAtTable 296 = .ok (.aload_n 0, 1) := by decide +kernel
theorem dX11_looksAtTable_297 : decode cX11_looksAtTable 297 = .ok (.dup, 1) := by decide +kernel
theorem dX11_looksAtTable_298 : decode cX11_looksAtTable 298 = .ok (.getfield 157, 3) := by decide +kernel
theorem dX11_looksAtTable_301 : decode cX11_looksAtTable 301 = .ok (.iconst 1, 1) := by decide +kernel
theorem dX11_looksAtTable_302 : decode cX11_looksAtTable 302 = .ok (.iadd, 1) := by decide +kernel
theorem dX11_looksAtTable_303 : decode cX11_looksAtTable 303 = .ok (.putfield 157, 3) := by decide +kernel
theorem dX11_looksAtTable_306 : decode cX11_looksAtTable 306 = .ok (.return_, 1) := by decide +kernel
set_option maxRecDepth 20000 in
theorem ggX11_goesThrough_X11_seenWays : GoodIn wsX11_goesThrough wsX11_seenWays := goodIn_r _ [10, 11, 12, 13, 9, 14, 15, 16, 17, 18, 19, 20, 21, 22, 23, 24, 25, 26, 27, 72, 73, 74, 75, 76, 77, 78, 79, 80, 81, 82, 83, 84, 85, 86, 87, 88, 89, 90, 91, 92, 93, 94, 95, 96, 97, 98, 99, 100, 101, 102, 103] (by decide +kernel) (by decide +kernel)
set_option maxRecDepth 20000 in
theorem gX11_goesThrough_X11_seenWays : GoodIn wsX11_goesThrough (wsV RX11 184 RX11 yX11_seenWays wsX11_seenWays) := goodIn_app (goodIn_of _ (by decide +kernel)) ggX11_goesThrough_X11_seenWays
set_option maxRecDepth 20000 in
theorem ggX11_goesThrough_X11_seenSum : GoodIn wsX11_goesThrough wsX11_seenSum := goodIn_r _ [31, 11, 12, 13, 9, 14, 15, 16, 17, 18, 19, 20, 21, 22, 72, 73, 74, 75, 76, 77, 78, 79, 80, 81, 82, 83, 84, 85, 86, 87, 88, 89, 90, 91, 92, 93, 94, 95, 96, 97, 98, 99, 100, 101, 102, 103] (by decide +kernel) (by decide +kernel)
set_option maxRecDepth 20000 in
theorem gX11_goesThrough_X11_seenSum : GoodIn wsX11_goesThrough (wsV RX11 188 RX11 yX11_seenSum wsX11_seenSum) := goodIn_app (goodIn_of _ (by decide +kernel)) ggX11_goesThrough_X11_seenSum
set_option maxRecDepth 20000 in
theorem ggX11_goesThrough_X11_first : GoodIn wsX11_goesThrough wsX11_first := goodIn_r _ [35, 36, 37, 38, 39, 9, 40, 11, 12, 13, 14, 15, 16, 17, 18, 19, 20, 21, 22, 41, 42, 43, 44, 45, 72, 73, 74, 75, 76, 77, 78, 79, 80, 81, 82, 83, 84, 85, 86, 87, 88, 89, 90, 91, 92, 93, 94, 95, 96, 97, 98, 99, 100, 101, 102, 103] (by decide +kernel) (by decide +kernel)
set_option maxRecDepth 20000 in
theorem gX11_goesThrough_X11_first : GoodIn wsX11_goesThrough (wsV RX11 191 RX11 yX11_first wsX11_first) := goodIn_app (goodIn_of _ (by decide +kernel)) ggX11_goesThrough_X11_first
set_option maxRecDepth 20000 in
theorem ggX11_goesThrough_X11_looksAtTable : GoodIn wsX11_goesThrough wsX11_looksAtTable := goodIn_r _ [49, 2, 1, 50, 36, 51, 45, 52, 53, 54, 3, 4, 55, 5, 56, 57, 58, 9, 59, 11, 12, 13, 14, 15, 23, 24, 25, 26, 27, 16, 17, 18, 19, 20, 21, 22, 60, 61, 62, 63, 64, 65, 66, 67, 72, 73, 74, 75, 76, 77, 78, 79, 80, 81, 82, 83, 84, 85, 86, 87, 88, 89, 90, 91, 92, 93, 94, 95, 96, 97, 98, 99, 100, 101, 102, 103] (by decide +kernel) (by decide +kernel)
set_option maxRecDepth 20000 in
theorem gX11_goesThrough_X11_looksAtTable : GoodIn wsX11_goesThrough (wsV RX11 195 RX11 yX11_looksAtTable wsX11_looksAtTable) := goodIn_app (goodIn_of _ (by decide +kernel)) ggX11_goesThrough_X11_looksAtTable
set_option maxRecDepth 20000 in
theorem ggX11_goesThrough_X11_next : GoodIn wsX11_goesThrough wsX11_next := goodIn_r _ [71, 45, 36, 11, 12, 13, 9, 14, 15, 16, 17, 18, 19, 20, 21, 22, 41, 42, 43, 44, 72, 73, 74, 75, 76, 77, 78, 79, 80, 81, 82, 83, 84, 85, 86, 87, 88, 89, 90, 91, 92, 93, 94, 95, 96, 97, 98, 99, 100, 101, 102, 103] (by decide +kernel) (by decide +kernel)
set_option maxRecDepth 20000 in
theorem gX11_goesThrough_X11_next : GoodIn wsX11_goesThrough (wsV RX11 199 RX11 yX11_next wsX11_next) := goodIn_app (goodIn_of _ (by decide +kernel)) ggX11_goesThrough_X11_next
theorem dX11_goesThrough_0 : decode cX11_goesThrough 0 = .ok (.aload_n 0, 1) := by decide +kernel
theorem dX11_goesThrough_1 : decode cX11_goesThrough 1 = .ok (.iconst 0, 1) := by decide +kernel
theorem dX11_goesThrough_2 : decode cX11_goesThrough 2 = .ok (.putfield 157, 3) := by decide +kernel
theorem dX11_goesThrough_5 : decode cX11_goesThrough 5 = .ok (.aload_n 0, 1) := by decide +kernel
theorem dX11_goesThrough_6 : decode cX11_goesThrough 6 = .ok (.lconst 0, 1) := by decide +kernel
