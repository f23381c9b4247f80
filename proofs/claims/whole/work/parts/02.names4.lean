theorem dX5_rests_26 : decode cX5_rests 26 = .ok (.iconst 0, 1) := by decide +kernel
theorem dX5_rests_27 : decode cX5_rests 27 = .ok (.istore 4, 2) := by decide +kernel
theorem dX5_rests_29 : decode cX5_rests 29 = .ok (.iload 4, 2) := by decide +kernel
theorem dX5_rests_31 : decode cX5_rests 31 = .ok (.aload_n 0, 1) := by decide +kernel
theorem dX5_rests_32 : decode cX5_rests 32 = .ok (.getfield 12, 3) := by decide +kernel
theorem dX5_rests_35 : decode cX5_rests 35 = .ok (.getfield 74, 3) := by decide +kernel
theorem dX5_rests_38 : decode cX5_rests 38 = .ok (.getfield 77, 3) := by decide +kernel
theorem dX5_rests_41 : decode cX5_rests 41 = .ok (.if_icmp .ge 40, 3) := by decide +kernel
theorem dX5_rests_44 : decode cX5_rests 44 = .ok (.aload_n 0, 1) := by decide +kernel
theorem dX5_rests_45 : decode cX5_rests 45 = .ok (.getfield 12, 3) := by decide +kernel
theorem dX5_rests_48 : decode cX5_rests 48 = .ok (.getfield 74, 3) := by decide +kernel
theorem dX5_rests_51 : decode cX5_rests 51 = .ok (.getfield 144, 3) := by decide +kernel
theorem dX5_rests_54 : decode cX5_rests 54 = .ok (.iload 4, 2) := by decide +kernel
theorem dX5_rests_56 : decode cX5_rests 56 = .ok (.iaload, 1) := by decide +kernel
theorem dX5_rests_57 : decode cX5_rests 57 = .ok (.ifCond .ne 18, 3) := by decide +kernel
theorem dX5_rests_60 : decode cX5_rests 60 = .ok (.aload_n 0, 1) := by decide +kernel
theorem dX5_rests_61 : decode cX5_rests 61 = .ok (.getfield 63, 3) := by decide +kernel
theorem dX5_rests_64 : decode cX5_rests 64 = .ok (.iload 4, 2) := by decide +kernel
theorem dX5_rests_66 : decode cX5_rests 66 = .ok (.aaload, 1) := by decide +kernel
theorem dX5_rests_67 : decode cX5_rests 67 = .ok (.iload_n 2, 1) := by decide +kernel
theorem dX5_rests_68 : decode cX5_rests 68 = .ok (.iaload, 1) := by decide +kernel
theorem dX5_rests_69 : decode cX5_rests 69 = .ok (.iload_n 3, 1) := by decide +kernel
theorem dX5_rests_70 : decode cX5_rests 70 = .ok (.if_icmp .le 5, 3) := by decide +kernel
theorem dX5_rests_73 : decode cX5_rests 73 = .ok (.iconst 0, 1) := by decide +kernel
theorem dX5_rests_74 : decode cX5_rests 74 = .ok (.ireturn, 1) := by decide +kernel
theorem dX5_rests_75 : decode cX5_rests 75 = .ok (.iinc 4 1, 3) := by decide +kernel
theorem dX5_rests_78 : decode cX5_rests 78 = .ok (.goto (-49), 3) := by decide +kernel
theorem dX5_rests_81 : decode cX5_rests 81 = .ok (.iconst 0, 1) := by decide +kernel
theorem dX5_rests_82 : decode cX5_rests 82 = .ok (.istore 4, 2) := by decide +kernel
theorem dX5_rests_84 : decode cX5_rests 84 = .ok (.iload 4, 2) := by decide +kernel
theorem dX5_rests_86 : decode cX5_rests 86 = .ok (.bipush 6, 2) := by decide +kernel
theorem dX5_rests_88 : decode cX5_rests 88 = .ok (.if_icmp .ge 24, 3) := by decide +kernel
theorem dX5_rests_91 : decode cX5_rests 91 = .ok (.aload_n 0, 1) := by decide +kernel
theorem dX5_rests_92 : decode cX5_rests 92 = .ok (.getfield 63, 3) := by decide +kernel
theorem dX5_rests_95 : decode cX5_rests 95 = .ok (.iload_n 1, 1) := by decide +kernel
theorem dX5_rests_96 : decode cX5_rests 96 = .ok (.aaload, 1) := by decide +kernel
theorem dX5_rests_97 : decode cX5_rests 97 = .ok (.iload 4, 2) := by decide +kernel
theorem dX5_rests_99 : decode cX5_rests 99 = .ok (.iaload, 1) := by decide +kernel
theorem dX5_rests_100 : decode cX5_rests 100 = .ok (.iload_n 3, 1) := by decide +kernel
theorem dX5_rests_101 : decode cX5_rests 101 = .ok (.if_icmp .ge 5, 3) := by decide +kernel
theorem dX5_rests_104 : decode cX5_rests 104 = .ok (.iconst 0, 1) := by decide +kernel
theorem dX5_rests_105 : decode cX5_rests 105 = .ok (.ireturn, 1) := by decide +kernel
theorem dX5_rests_106 : decode cX5_rests 106 = .ok (.iinc 4 1, 3) := by decide +kernel
theorem dX5_rests_109 : decode cX5_rests 109 = .ok (.goto (-25), 3) := by decide +kernel
theorem dX5_rests_112 : decode cX5_rests 112 = .ok (.iconst 1, 1) := by decide +kernel
theorem dX5_rests_113 : decode cX5_rests 113 = .ok (.ireturn, 1) := by decide +kernel
set_option maxRecDepth 20000 in
theorem ggX5_keepFraction_X5_commonDivisor : GoodIn wsX5_keepFraction wsX5_commonDivisor := goodIn_r _ [6] (by decide +kernel) (by decide +kernel)
set_option maxRecDepth 20000 in
theorem gX5_keepFraction_X5_commonDivisor : GoodIn wsX5_keepFraction (va_wsS RX5 289 yX5_commonDivisor wsX5_commonDivisor) := goodIn_app (goodIn_of _ (by decide +kernel)) ggX5_keepFraction_X5_commonDivisor
theorem dX5_keepFraction_0 : decode cX5_keepFraction 0 = .ok (.lload_n 1, 1) := by decide +kernel
theorem dX5_keepFraction_1 : decode cX5_keepFraction 1 = .ok (.lload_n 3, 1) := by decide +kernel
theorem dX5_keepFraction_2 : decode cX5_keepFraction 2 = .ok (.invokestatic 289, 3) := by decide +kernel
theorem dX5_keepFraction_5 : decode cX5_keepFraction 5 = .ok (.lstore 5, 2) := by decide +kernel
theorem dX5_keepFraction_7 : decode cX5_keepFraction 7 = .ok (.lload 5, 2) := by decide +kernel
theorem dX5_keepFraction_9 : decode cX5_keepFraction 9 = .ok (.lconst 1, 1) := by decide +kernel
theorem dX5_keepFraction_10 : decode cX5_keepFraction 10 = .ok (.lcmp, 1) := by decide +kernel
theorem dX5_keepFraction_11 : decode cX5_keepFraction 11 = .ok (.ifCond .ge 6, 3) := by decide +kernel
theorem dX5_keepFraction_14 : decode cX5_keepFraction 14 = .ok (.lconst 1, 1) := by decide +kernel
theorem dX5_keepFraction_15 : decode cX5_keepFraction 15 = .ok (.lstore 5, 2) := by decide +kernel
theorem dX5_keepFraction_17 : decode cX5_keepFraction 17 = .ok (.aload_n 0, 1) := by decide +kernel
theorem dX5_keepFraction_18 : decode cX5_keepFraction 18 = .ok (.lload_n 1, 1) := by decide +kernel
theorem dX5_keepFraction_19 : decode cX5_keepFraction 19 = .ok (.lload 5, 2) := by decide +kernel
theorem dX5_keepFraction_21 : decode cX5_keepFraction 21 = .ok (.ldiv, 1) := by decide +kernel
theorem dX5_keepFraction_22 : decode cX5_keepFraction 22 = .ok (.putfield 246, 3) := by decide +kernel
theorem dX5_keepFraction_25 : decode cX5_keepFraction 25 = .ok (.aload_n 0, 1) := by decide +kernel
theorem dX5_keepFraction_26 : decode cX5_keepFraction 26 = .ok (.lload_n 3, 1) := by decide +kernel
theorem dX5_keepFraction_27 : decode cX5_keepFraction 27 = .ok (.lload 5, 2) := by decide +kernel
theorem dX5_keepFraction_29 : decode cX5_keepFraction 29 = .ok (.ldiv, 1) := by decide +kernel
theorem dX5_keepFraction_30 : decode cX5_keepFraction 30 = .ok (.putfield 24, 3) := by decide +kernel
theorem dX5_keepFraction_33 : decode cX5_keepFraction 33 = .ok (.return_, 1) := by decide +kernel
theorem dX5_commonDivisor_0 : decode cX5_commonDivisor 0 = .ok (.iconst 0, 1) := by decide +kernel
theorem dX5_commonDivisor_1 : decode cX5_commonDivisor 1 = .ok (.istore 4, 2) := by decide +kernel
theorem dX5_commonDivisor_3 : decode cX5_commonDivisor 3 = .ok (.iload 4, 2) := by decide +kernel
theorem dX5_commonDivisor_5 : decode cX5_commonDivisor 5 = .ok (.bipush 100, 2) := by decide +kernel
theorem dX5_commonDivisor_7 : decode cX5_commonDivisor 7 = .ok (.if_icmp .ge 25, 3) := by decide +kernel
theorem dX5_commonDivisor_10 : decode cX5_commonDivisor 10 = .ok (.lload_n 2, 1) := by decide +kernel
theorem dX5_commonDivisor_11 : decode cX5_commonDivisor 11 = .ok (.lconst 0, 1) := by decide +kernel
theorem dX5_commonDivisor_12 : decode cX5_commonDivisor 12 = .ok (.lcmp, 1) := by decide +kernel
theorem dX5_commonDivisor_13 : decode cX5_commonDivisor 13 = .ok (.ifCond .eq 19, 3) := by decide +kernel
theorem dX5_commonDivisor_16 : decode cX5_commonDivisor 16 = .ok (.lload_n 0, 1) := by decide +kernel
theorem dX5_commonDivisor_17 : decode cX5_commonDivisor 17 = .ok (.lload_n 2, 1) := by decide +kernel
theorem dX5_commonDivisor_18 : decode cX5_commonDivisor 18 = .ok (.lrem, 1) := by decide +kernel
theorem dX5_commonDivisor_19 : decode cX5_commonDivisor 19 = .ok (.lstore 5, 2) := by decide +kernel
theorem dX5_commonDivisor_21 : decode cX5_commonDivisor 21 = .ok (.lload_n 2, 1) := by decide +kernel
theorem dX5_commonDivisor_22 : decode cX5_commonDivisor 22 = .ok (.lstore_n 0, 1) := by decide +kernel
theorem dX5_commonDivisor_23 : decode cX5_commonDivisor 23 = .ok (.lload 5, 2) := by decide +kernel
theorem dX5_commonDivisor_25 : decode cX5_commonDivisor 25 = .ok (.lstore_n 2, 1) := by decide +kernel
theorem dX5_commonDivisor_26 : decode cX5_commonDivisor 26 = .ok (.iinc 4 1, 3) := by decide +kernel
theorem dX5_commonDivisor_29 : decode cX5_commonDivisor 29 = .ok (.goto (-26), 3) := by decide +kernel
theorem dX5_commonDivisor_32 : decode cX5_commonDivisor 32 = .ok (.lload_n 0, 1) := by decide +kernel
theorem dX5_commonDivisor_33 : decode cX5_commonDivisor 33 = .ok (.lreturn, 1) := by decide +kernel
set_option maxRecDepth 20000 in
theorem ggX5_fitsNotes_X4_size : GoodIn wsX5_fitsNotes wsX4_size := goodIn_r _ [7, 8, 9, 45, 46, 47] (by decide +kernel) (by decide +kernel)
set_option maxRecDepth 20000 in
theorem gX5_fitsNotes_X4_size : GoodIn wsX5_fitsNotes (wsV RX5 153 RX4 yX4_size wsX4_size) := goodIn_app (goodIn_of _ (by decide +kernel)) ggX5_fitsNotes_X4_size
set_option maxRecDepth 20000 in
theorem ggX5_fitsNotes_X4_cell : GoodIn wsX5_fitsNotes wsX4_cell := goodIn_r _ [13, 8, 9, 14, 45, 46, 47] (by decide +kernel) (by decide +kernel)
set_option maxRecDepth 20000 in
theorem gX5_fitsNotes_X4_cell : GoodIn wsX5_fitsNotes (wsV RX5 293 RX4 yX4_cell wsX4_cell) := goodIn_app (goodIn_of _ (by decide +kernel)) ggX5_fitsNotes_X4_cell
set_option maxRecDepth 20000 in
theorem ggX5_fitsNotes_X5_hitWorth : GoodIn wsX5_fitsNotes wsX5_hitWorth := goodIn_r _ [18, 19, 20, 21, 22, 23, 24, 25] (by decide +kernel) (by decide +kernel)
set_option maxRecDepth 20000 in
theorem gX5_fitsNotes_X5_hitWorth : GoodIn wsX5_fitsNotes (va_wsS RX5 213 yX5_hitWorth wsX5_hitWorth) := goodIn_app (goodIn_of _ (by decide +kernel)) ggX5_fitsNotes_X5_hitWorth
theorem dX5_fitsNotes_0 : decode cX5_fitsNotes 0 = .ok (.iconst 0, 1) := by decide +kernel
theorem dX5_fitsNotes_1 : decode cX5_fitsNotes 1 = .ok (.istore_n 2, 1) := by decide +kernel
theorem dX5_fitsNotes_2 : decode cX5_fitsNotes 2 = .ok (.iload_n 2, 1) := by decide +kernel
theorem dX5_fitsNotes_3 : decode cX5_fitsNotes 3 = .ok (.aload_n 0, 1) := by decide +kernel
theorem dX5_fitsNotes_4 : decode cX5_fitsNotes 4 = .ok (.getfield 12, 3) := by decide +kernel
theorem dX5_fitsNotes_7 : decode cX5_fitsNotes 7 = .ok (.getfield 195, 3) := by decide +kernel
theorem dX5_fitsNotes_10 : decode cX5_fitsNotes 10 = .ok (.invokevirtual 153, 3) := by decide +kernel
theorem dX5_fitsNotes_13 : decode cX5_fitsNotes 13 = .ok (.if_icmp .ge 60, 3) := by decide +kernel
theorem dX5_fitsNotes_16 : decode cX5_fitsNotes 16 = .ok (.aload_n 0, 1) := by decide +kernel
theorem dX5_fitsNotes_17 : decode cX5_fitsNotes 17 = .ok (.getfield 12, 3) := by decide +kernel
theorem dX5_fitsNotes_20 : decode cX5_fitsNotes 20 = .ok (.getfield 195, 3) := by decide +kernel
theorem dX5_fitsNotes_23 : decode cX5_fitsNotes 23 = .ok (.iload_n 2, 1) := by decide +kernel
theorem dX5_fitsNotes_24 : decode cX5_fitsNotes 24 = .ok (.iconst 0, 1) := by decide +kernel
theorem dX5_fitsNotes_25 : decode cX5_fitsNotes 25 = .ok (.invokevirtual 293, 3) := by decide +kernel
theorem dX5_fitsNotes_28 : decode cX5_fitsNotes 28 = .ok (.istore_n 3, 1) := by decide +kernel
theorem dX5_fitsNotes_29 : decode cX5_fitsNotes 29 = .ok (.aload_n 0, 1) := by decide +kernel
theorem dX5_fitsNotes_30 : decode cX5_fitsNotes 30 = .ok (.getfield 12, 3) := by decide +kernel
theorem dX5_fitsNotes_33 : decode cX5_fitsNotes 33 = .ok (.getfield 195, 3) := by decide +kernel
theorem dX5_fitsNotes_36 : decode cX5_fitsNotes 36 = .ok (.iload_n 2, 1) := by decide +kernel
theorem dX5_fitsNotes_37 : decode cX5_fitsNotes 37 = .ok (.iconst 1, 1) := by decide +kernel
theorem dX5_fitsNotes_38 : decode cX5_fitsNotes 38 = .ok (.invokevirtual 293, 3) := by decide +kernel
theorem dX5_fitsNotes_41 : decode cX5_fitsNotes 41 = .ok (.istore 4, 2) := by decide +kernel
theorem dX5_fitsNotes_43 : decode cX5_fitsNotes 43 = .ok (.iload_n 1, 1) := by decide +kernel
theorem dX5_fitsNotes_44 : decode cX5_fitsNotes 44 = .ok (.iload 4, 2) := by decide +kernel
theorem dX5_fitsNotes_46 : decode cX5_fitsNotes 46 = .ok (.iload_n 3, 1) := by decide +kernel
theorem dX5_fitsNotes_47 : decode cX5_fitsNotes 47 = .ok (.invokestatic 213, 3) := by decide +kernel
theorem dX5_fitsNotes_50 : decode cX5_fitsNotes 50 = .ok (.aload_n 0, 1) := by decide +kernel
theorem dX5_fitsNotes_51 : decode cX5_fitsNotes 51 = .ok (.getfield 12, 3) := by decide +kernel
theorem dX5_fitsNotes_54 : decode cX5_fitsNotes 54 = .ok (.getfield 195, 3) := by decide +kernel
theorem dX5_fitsNotes_57 : decode cX5_fitsNotes 57 = .ok (.iload_n 2, 1) := by decide +kernel
theorem dX5_fitsNotes_58 : decode cX5_fitsNotes 58 = .ok (.iconst 2, 1) := by decide +kernel
theorem dX5_fitsNotes_59 : decode cX5_fitsNotes 59 = .ok (.invokevirtual 293, 3) := by decide +kernel
theorem dX5_fitsNotes_62 : decode cX5_fitsNotes 62 = .ok (.if_icmp .eq 5, 3) := by decide +kernel
theorem dX5_fitsNotes_65 : decode cX5_fitsNotes 65 = .ok (.iconst 0, 1) := by decide +kernel
theorem dX5_fitsNotes_66 : decode cX5_fitsNotes 66 = .ok (.ireturn, 1) := by decide +kernel
theorem dX5_fitsNotes_67 : decode cX5_fitsNotes 67 = .ok (.iinc 2 1, 3) := by decide +kernel
theorem dX5_fitsNotes_70 : decode cX5_fitsNotes 70 = .ok (.goto (-68), 3) := by decide +kernel
theorem dX5_fitsNotes_73 : decode cX5_fitsNotes 73 = .ok (.iconst 1, 1) := by decide +kernel
theorem dX5_fitsNotes_74 : decode cX5_fitsNotes 74 = .ok (.ireturn, 1) := by decide +kernel
set_option maxRecDepth 20000 in
theorem ggX5_battersThatFit_X5_fitsMarks : GoodIn wsX5_battersThatFit wsX5_fitsMarks := goodIn_r _ [5, 6, 7, 8, 9, 10, 11, 12, 13, 14, 15, 16, 17, 18, 19, 20, 21, 4, 22, 23, 24, 25, 26, 27, 28, 29, 30, 31, 32, 33, 34, 35, 36, 37, 38, 39, 40, 41, 42, 43, 44, 45, 46, 47, 48] (by decide +kernel) (by decide +kernel)
set_option maxRecDepth 20000 in
theorem gX5_battersThatFit_X5_fitsMarks : GoodIn wsX5_battersThatFit (wsV RX5 296 RX5 yX5_fitsMarks wsX5_fitsMarks) := goodIn_app (goodIn_of _ (by decide +kernel)) ggX5_battersThatFit_X5_fitsMarks
theorem dX5_battersThatFit_0 : decode cX5_battersThatFit 0 = .ok (.iconst 0, 1) := by decide +kernel
theorem dX5_battersThatFit_1 : decode cX5_battersThatFit 1 = .ok (.istore_n 2, 1) := by decide +kernel
theorem dX5_battersThatFit_2 : decode cX5_battersThatFit 2 = .ok (.iconst 0, 1) := by decide +kernel
theorem dX5_battersThatFit_3 : decode cX5_battersThatFit 3 = .ok (.istore_n 3, 1) := by decide +kernel
theorem dX5_battersThatFit_4 : decode cX5_battersThatFit 4 = .ok (.iload_n 3, 1) := by decide +kernel
theorem dX5_battersThatFit_5 : decode cX5_battersThatFit 5 = .ok (.bipush 6, 2) := by decide +kernel
theorem dX5_battersThatFit_7 : decode cX5_battersThatFit 7 = .ok (.if_icmp .ge 24, 3) := by decide +kernel
theorem dX5_battersThatFit_10 : decode cX5_battersThatFit 10 = .ok (.aload_n 0, 1) := by decide +kernel
theorem dX5_battersThatFit_11 : decode cX5_battersThatFit 11 = .ok (.iload_n 1, 1) := by decide +kernel
theorem dX5_battersThatFit_12 : decode cX5_battersThatFit 12 = .ok (.iload_n 3, 1) := by decide +kernel
theorem dX5_battersThatFit_13 : decode cX5_battersThatFit 13 = .ok (.invokevirtual 296, 3) := by decide +kernel
theorem dX5_battersThatFit_16 : decode cX5_battersThatFit 16 = .ok (.ifCond .eq 9, 3) := by decide +kernel
theorem dX5_battersThatFit_19 : decode cX5_battersThatFit 19 = .ok (.iload_n 2, 1) := by decide +kernel
theorem dX5_battersThatFit_20 : decode cX5_battersThatFit 20 = .ok (.iconst 1, 1) := by decide +kernel
theorem dX5_battersThatFit_21 : decode cX5_battersThatFit 21 = .ok (.iload_n 3, 1) := by decide +kernel
theorem dX5_battersThatFit_22 : decode cX5_battersThatFit 22 = .ok (.ishl, 1) := by decide +kernel
theorem dX5_battersThatFit_23 : decode cX5_battersThatFit 23 = .ok (.ior, 1) := by decide +kernel
theorem dX5_battersThatFit_24 : decode cX5_battersThatFit 24 = .ok (.istore_n 2, 1) := by decide +kernel
theorem dX5_battersThatFit_25 : decode cX5_battersThatFit 25 = .ok (.iinc 3 1, 3) := by decide +kernel
theorem dX5_battersThatFit_28 : decode cX5_battersThatFit 28 = .ok (.goto (-24), 3) := by decide +kernel
theorem dX5_battersThatFit_31 : decode cX5_battersThatFit 31 = .ok (.iload_n 2, 1) := by decide +kernel
theorem dX5_battersThatFit_32 : decode cX5_battersThatFit 32 = .ok (.ireturn, 1) := by decide +kernel
set_option maxRecDepth 20000 in
theorem ggX5_fitsMarks_X4_size : GoodIn wsX5_fitsMarks wsX4_size := goodIn_r _ [7, 8, 9, 42, 43, 44] (by decide +kernel) (by decide +kernel)
set_option maxRecDepth 20000 in
theorem gX5_fitsMarks_X4_size : GoodIn wsX5_fitsMarks (wsV RX5 153 RX4 yX4_size wsX4_size) := goodIn_app (goodIn_of _ (by decide +kernel)) ggX5_fitsMarks_X4_size
set_option maxRecDepth 20000 in
theorem ggX5_fitsMarks_X4_cell : GoodIn wsX5_fitsMarks wsX4_cell := goodIn_r _ [13, 8, 9, 14, 42, 43, 44] (by decide +kernel) (by decide +kernel)
set_option maxRecDepth 20000 in
theorem gX5_fitsMarks_X4_cell : GoodIn wsX5_fitsMarks (wsV RX5 293 RX4 yX4_cell wsX4_cell) := goodIn_app (goodIn_of _ (by decide +kernel)) ggX5_fitsMarks_X4_cell
set_option maxRecDepth 20000 in
theorem ggX5_fitsMarks_X5_postsRun : GoodIn wsX5_fitsMarks wsX5_postsRun := goodIn_r _ [18, 19, 20, 21, 22] (by decide +kernel) (by decide +kernel)
set_option maxRecDepth 20000 in
theorem gX5_fitsMarks_X5_postsRun : GoodIn wsX5_fitsMarks (va_wsS RX5 225 yX5_postsRun wsX5_postsRun) := goodIn_app (goodIn_of _ (by decide +kernel)) ggX5_fitsMarks_X5_postsRun
theorem dX5_fitsMarks_0 : decode cX5_fitsMarks 0 = .ok (.iconst 0, 1) := by decide +kernel
theorem dX5_fitsMarks_1 : decode cX5_fitsMarks 1 = .ok (.istore_n 3, 1) := by decide +kernel
theorem dX5_fitsMarks_2 : decode cX5_fitsMarks 2 = .ok (.iload_n 3, 1) := by decide +kernel
theorem dX5_fitsMarks_3 : decode cX5_fitsMarks 3 = .ok (.aload_n 0, 1) := by decide +kernel
theorem dX5_fitsMarks_4 : decode cX5_fitsMarks 4 = .ok (.getfield 12, 3) := by decide +kernel
theorem dX5_fitsMarks_7 : decode cX5_fitsMarks 7 = .ok (.getfield 204, 3) := by decide +kernel
theorem dX5_fitsMarks_10 : decode cX5_fitsMarks 10 = .ok (.invokevirtual 153, 3) := by decide +kernel
theorem dX5_fitsMarks_13 : decode cX5_fitsMarks 13 = .ok (.if_icmp .ge 78, 3) := by decide +kernel
theorem dX5_fitsMarks_16 : decode cX5_fitsMarks 16 = .ok (.aload_n 0, 1) := by decide +kernel
theorem dX5_fitsMarks_17 : decode cX5_fitsMarks 17 = .ok (.getfield 12, 3) := by decide +kernel
theorem dX5_fitsMarks_20 : decode cX5_fitsMarks 20 = .ok (.getfield 204, 3) := by decide +kernel
theorem dX5_fitsMarks_23 : decode cX5_fitsMarks 23 = .ok (.iload_n 3, 1) := by decide +kernel
theorem dX5_fitsMarks_24 : decode cX5_fitsMarks 24 = .ok (.iconst 1, 1) := by decide +kernel
theorem dX5_fitsMarks_25 : decode cX5_fitsMarks 25 = .ok (.invokevirtual 293, 3) := by decide +kernel
theorem dX5_fitsMarks_28 : decode cX5_fitsMarks 28 = .ok (.istore 4, 2) := by decide +kernel
theorem dX5_fitsMarks_30 : decode cX5_fitsMarks 30 = .ok (.aload_n 0, 1) := by decide +kernel
theorem dX5_fitsMarks_31 : decode cX5_fitsMarks 31 = .ok (.getfield 12, 3) := by decide +kernel
theorem dX5_fitsMarks_34 : decode cX5_fitsMarks 34 = .ok (.getfield 204, 3) := by decide +kernel
theorem dX5_fitsMarks_37 : decode cX5_fitsMarks 37 = .ok (.iload_n 3, 1) := by decide +kernel
theorem dX5_fitsMarks_38 : decode cX5_fitsMarks 38 = .ok (.iconst 2, 1) := by decide +kernel
theorem dX5_fitsMarks_39 : decode cX5_fitsMarks 39 = .ok (.invokevirtual 293, 3) := by decide +kernel
theorem dX5_fitsMarks_42 : decode cX5_fitsMarks 42 = .ok (.istore 5, 2) := by decide +kernel
theorem dX5_fitsMarks_44 : decode cX5_fitsMarks 44 = .ok (.aload_n 0, 1) := by decide +kernel
theorem dX5_fitsMarks_45 : decode cX5_fitsMarks 45 = .ok (.getfield 12, 3) := by decide +kernel
theorem dX5_fitsMarks_48 : decode cX5_fitsMarks 48 = .ok (.getfield 204, 3) := by decide +kernel
theorem dX5_fitsMarks_51 : decode cX5_fitsMarks 51 = .ok (.iload_n 3, 1) := by decide +kernel
theorem dX5_fitsMarks_52 : decode cX5_fitsMarks 52 = .ok (.iconst 0, 1) := by decide +kernel
theorem dX5_fitsMarks_53 : decode cX5_fitsMarks 53 = .ok (.invokevirtual 293, 3) := by decide +kernel
theorem dX5_fitsMarks_56 : decode cX5_fitsMarks 56 = .ok (.iload_n 1, 1) := by decide +kernel
theorem dX5_fitsMarks_57 : decode cX5_fitsMarks 57 = .ok (.if_icmp .ne 28, 3) := by decide +kernel
theorem dX5_fitsMarks_60 : decode cX5_fitsMarks 60 = .ok (.iload_n 2, 1) := by decide +kernel
theorem dX5_fitsMarks_61 : decode cX5_fitsMarks 61 = .ok (.iload 4, 2) := by decide +kernel
theorem dX5_fitsMarks_63 : decode cX5_fitsMarks 63 = .ok (.iload 5, 2) := by decide +kernel
theorem dX5_fitsMarks_65 : decode cX5_fitsMarks 65 = .ok (.invokestatic 225, 3) := by decide +kernel
theorem dX5_fitsMarks_68 : decode cX5_fitsMarks 68 = .ok (.aload_n 0, 1) := by decide +kernel
theorem dX5_fitsMarks_69 : decode cX5_fitsMarks 69 = .ok (.getfield 12, 3) := by decide +kernel
theorem dX5_fitsMarks_72 : decode cX5_fitsMarks 72 = .ok (.getfield 204, 3) := by decide +kernel
theorem dX5_fitsMarks_75 : decode cX5_fitsMarks 75 = .ok (.iload_n 3, 1) := by decide +kernel
theorem dX5_fitsMarks_76 : decode cX5_fitsMarks 76 = .ok (.iconst 3, 1) := by decide +kernel
theorem dX5_fitsMarks_77 : decode cX5_fitsMarks 77 = .ok (.invokevirtual 293, 3) := by decide +kernel
theorem dX5_fitsMarks_80 : decode cX5_fitsMarks 80 = .ok (.if_icmp .eq 5, 3) := by decide +kernel
theorem dX5_fitsMarks_83 : decode cX5_fitsMarks 83 = .ok (.iconst 0, 1) := by decide +kernel
theorem dX5_fitsMarks_84 : decode cX5_fitsMarks 84 = .ok (.ireturn, 1) := by decide +kernel
theorem dX5_fitsMarks_85 : decode cX5_fitsMarks 85 = .ok (.iinc 3 1, 3) := by decide +kernel
theorem dX5_fitsMarks_88 : decode cX5_fitsMarks 88 = .ok (.goto (-86), 3) := by decide +kernel
theorem dX5_fitsMarks_91 : decode cX5_fitsMarks 91 = .ok (.iconst 1, 1) := by decide +kernel
theorem dX5_fitsMarks_92 : decode cX5_fitsMarks 92 = .ok (.ireturn, 1) := by decide +kernel
theorem dX5_mostAlike_0 : decode cX5_mostAlike 0 = .ok (.iconst 0, 1) := by decide +kernel
theorem dX5_mostAlike_1 : decode cX5_mostAlike 1 = .ok (.istore_n 2, 1) := by decide +kernel
theorem dX5_mostAlike_2 : decode cX5_mostAlike 2 = .ok (.iconst 0, 1) := by decide +kernel
theorem dX5_mostAlike_3 : decode cX5_mostAlike 3 = .ok (.istore_n 3, 1) := by decide +kernel
theorem dX5_mostAlike_4 : decode cX5_mostAlike 4 = .ok (.iload_n 3, 1) := by decide +kernel
theorem dX5_mostAlike_5 : decode cX5_mostAlike 5 = .ok (.bipush 6, 2) := by decide +kernel
theorem dX5_mostAlike_7 : decode cX5_mostAlike 7 = .ok (.if_icmp .ge 73, 3) := by decide +kernel
theorem dX5_mostAlike_10 : decode cX5_mostAlike 10 = .ok (.iconst 0, 1) := by decide +kernel
theorem dX5_mostAlike_11 : decode cX5_mostAlike 11 = .ok (.istore 4, 2) := by decide +kernel
theorem dX5_mostAlike_13 : decode cX5_mostAlike 13 = .ok (.iconst 0, 1) := by decide +kernel
theorem dX5_mostAlike_14 : decode cX5_mostAlike 14 = .ok (.istore 5, 2) := by decide +kernel
theorem dX5_mostAlike_16 : decode cX5_mostAlike 16 = .ok (.iload 5, 2) := by decide +kernel
theorem dX5_mostAlike_18 : decode cX5_mostAlike 18 = .ok (.bipush 6, 2) := by decide +kernel
theorem dX5_mostAlike_20 : decode cX5_mostAlike 20 = .ok (.if_icmp .ge 47, 3) := by decide +kernel
theorem dX5_mostAlike_23 : decode cX5_mostAlike 23 = .ok (.iload_n 1, 1) := by decide +kernel
theorem dX5_mostAlike_24 : decode cX5_mostAlike 24 = .ok (.iload_n 3, 1) := by decide +kernel
theorem dX5_mostAlike_25 : decode cX5_mostAlike 25 = .ok (.ishr, 1) := by decide +kernel
theorem dX5_mostAlike_26 : decode cX5_mostAlike 26 = .ok (.iconst 1, 1) := by decide +kernel
theorem dX5_mostAlike_27 : decode cX5_mostAlike 27 = .ok (.iand, 1) := by decide +kernel
theorem dX5_mostAlike_28 : decode cX5_mostAlike 28 = .ok (.iconst 1, 1) := by decide +kernel
theorem dX5_mostAlike_29 : decode cX5_mostAlike 29 = .ok (.if_icmp .ne 32, 3) := by decide +kernel
theorem dX5_mostAlike_32 : decode cX5_mostAlike 32 = .ok (.iload_n 1, 1) := by decide +kernel
theorem dX5_mostAlike_33 : decode cX5_mostAlike 33 = .ok (.iload 5, 2) := by decide +kernel
theorem dX5_mostAlike_35 : decode cX5_mostAlike 35 = .ok (.ishr, 1) := by decide +kernel
theorem dX5_mostAlike_36 : decode cX5_mostAlike 36 = .ok (.iconst 1, 1) := by decide +kernel
theorem dX5_mostAlike_37 : decode cX5_mostAlike 37 = .ok (.iand, 1) := by decide +kernel
theorem dX5_mostAlike_38 : decode cX5_mostAlike 38 = .ok (.iconst 1, 1) := by decide +kernel
theorem dX5_mostAlike_39 : decode cX5_mostAlike 39 = .ok (.if_icmp .ne 22, 3) := by decide +kernel
theorem dX5_mostAlike_42 : decode cX5_mostAlike 42 = .ok (.aload_n 0, 1) := by decide +kernel
theorem dX5_mostAlike_43 : decode cX5_mostAlike 43 = .ok (.getfield 58, 3) := by decide +kernel
theorem dX5_mostAlike_46 : decode cX5_mostAlike 46 = .ok (.iload_n 3, 1) := by decide +kernel
theorem dX5_mostAlike_47 : decode cX5_mostAlike 47 = .ok (.iaload, 1) := by decide +kernel
theorem dX5_mostAlike_48 : decode cX5_mostAlike 48 = .ok (.aload_n 0, 1) := by decide +kernel
theorem dX5_mostAlike_49 : decode cX5_mostAlike 49 = .ok (.getfield 58, 3) := by decide +kernel
theorem dX5_mostAlike_52 : decode cX5_mostAlike 52 = .ok (.iload 5, 2) := by decide +kernel
theorem dX5_mostAlike_54 : decode cX5_mostAlike 54 = .ok (.iaload, 1) := by decide +kernel
theorem dX5_mostAlike_55 : decode cX5_mostAlike 55 = .ok (.if_icmp .ne 6, 3) := by decide +kernel
theorem dX5_mostAlike_58 : decode cX5_mostAlike 58 = .ok (.iinc 4 1, 3) := by decide +kernel
theorem dX5_mostAlike_61 : decode cX5_mostAlike 61 = .ok (.iinc 5 1, 3) := by decide +kernel
theorem dX5_mostAlike_64 : decode cX5_mostAlike 64 = .ok (.goto (-48), 3) := by decide +kernel
theorem dX5_mostAlike_67 : decode cX5_mostAlike 67 = .ok (.iload_n 2, 1) := by decide +kernel
theorem dX5_mostAlike_68 : decode cX5_mostAlike 68 = .ok (.iload 4, 2) := by decide +kernel
theorem dX5_mostAlike_70 : decode cX5_mostAlike 70 = .ok (.invokestatic 168, 3) := by decide +kernel
theorem dX5_mostAlike_73 : decode cX5_mostAlike 73 = .ok (.istore_n 2, 1) := by decide +kernel
theorem dX5_mostAlike_74 : decode cX5_mostAlike 74 = .ok (.iinc 3 1, 3) := by decide +kernel
theorem dX5_mostAlike_77 : decode cX5_mostAlike 77 = .ok (.goto (-73), 3) := by decide +kernel
theorem dX5_mostAlike_80 : decode cX5_mostAlike 80 = .ok (.iload_n 2, 1) := by decide +kernel
theorem dX5_mostAlike_81 : decode cX5_mostAlike 81 = .ok (.ireturn, 1) := by decide +kernel
set_option maxRecDepth 20000 in
theorem ggX6_init_X6_begins : GoodIn wsX6_init wsX6_begins := goodIn_r _ [19, 5, 20, 21, 22, 18, 23, 24, 25, 26, 27, 28, 29, 30, 31, 32, 33, 34, 35, 36, 37] (by decide +kernel) (by decide +kernel)
set_option maxRecDepth 20000 in
theorem gX6_init_X6_begins : GoodIn wsX6_init (wsV RX6 39 RX6 yX6_begins wsX6_begins) := goodIn_app (goodIn_of _ (by decide +kernel)) ggX6_init_X6_begins
theorem dX6_init_0 : decode cX6_init 0 = .ok (.aload_n 0, 1) := by decide +kernel
theorem dX6_init_1 : decode cX6_init 1 = .ok (.invokespecial 1, 3) := by decide +kernel
theorem dX6_init_4 : decode cX6_init 4 = .ok (.aload_n 0, 1) := by decide +kernel
theorem dX6_init_5 : decode cX6_init 5 = .ok (.sipush 624, 3) := by decide +kernel
theorem dX6_init_8 : decode cX6_init 8 = .ok (.newarray .int, 2) := by decide +kernel
theorem dX6_init_10 : decode cX6_init 10 = .ok (.putfield 7, 3) := by decide +kernel
theorem dX6_init_13 : decode cX6_init 13 = .ok (.aload_n 0, 1) := by decide +kernel
theorem dX6_init_14 : decode cX6_init 14 = .ok (.iconst 2, 1) := by decide +kernel
theorem dX6_init_15 : decode cX6_init 15 = .ok (.newarray .boolean, 2) := by decide +kernel
theorem dX6_init_17 : decode cX6_init 17 = .ok (.putfield 13, 3) := by decide +kernel
theorem dX6_init_20 : decode cX6_init 20 = .ok (.aload_n 0, 1) := by decide +kernel
theorem dX6_init_21 : decode cX6_init 21 = .ok (.sipush 150, 3) := by decide +kernel
theorem dX6_init_24 : decode cX6_init 24 = .ok (.newarray .int, 2) := by decide +kernel
theorem dX6_init_26 : decode cX6_init 26 = .ok (.putfield 17, 3) := by decide +kernel
theorem dX6_init_29 : decode cX6_init 29 = .ok (.aload_n 0, 1) := by decide +kernel
theorem dX6_init_30 : decode cX6_init 30 = .ok (.lconst 0, 1) := by decide +kernel
theorem dX6_init_31 : decode cX6_init 31 = .ok (.putfield 20, 3) := by decide +kernel
theorem dX6_init_34 : decode cX6_init 34 = .ok (.aload_n 0, 1) := by decide +kernel
theorem dX6_init_35 : decode cX6_init 35 = .ok (.lconst 1, 1) := by decide +kernel
theorem dX6_init_36 : decode cX6_init 36 = .ok (.putfield 24, 3) := by decide +kernel
theorem dX6_init_39 : decode cX6_init 39 = .ok (.aload_n 0, 1) := by decide +kernel
theorem dX6_init_40 : decode cX6_init 40 = .ok (.iconst 3, 1) := by decide +kernel
theorem dX6_init_41 : decode cX6_init 41 = .ok (.newarray .int, 2) := by decide +kernel
theorem dX6_init_43 : decode cX6_init 43 = .ok (.putfield 27, 3) := by decide +kernel
theorem dX6_init_46 : decode cX6_init 46 = .ok (.aload_n 0, 1) := by decide +kernel
theorem dX6_init_47 : decode cX6_init 47 = .ok (.bipush 6, 2) := by decide +kernel
theorem dX6_init_49 : decode cX6_init 49 = .ok (.newarray .int, 2) := by decide +kernel
theorem dX6_init_51 : decode cX6_init 51 = .ok (.putfield 30, 3) := by decide +kernel
theorem dX6_init_54 : decode cX6_init 54 = .ok (.aload_n 0, 1) := by decide +kernel
theorem dX6_init_55 : decode cX6_init 55 = .ok (.bipush 6, 2) := by decide +kernel
theorem dX6_init_57 : decode cX6_init 57 = .ok (.newarray .int, 2) := by decide +kernel
theorem dX6_init_59 : decode cX6_init 59 = .ok (.putfield 33, 3) := by decide +kernel
theorem dX6_init_62 : decode cX6_init 62 = .ok (.aload_n 0, 1) := by decide +kernel
theorem dX6_init_63 : decode cX6_init 63 = .ok (.bipush 36, 2) := by decide +kernel
theorem dX6_init_65 : decode cX6_init 65 = .ok (.newarray .int, 2) := by decide +kernel
theorem dX6_init_67 : decode cX6_init 67 = .ok (.putfield 36, 3) := by decide +kernel
theorem dX6_init_70 : decode cX6_init 70 = .ok (.aload_n 0, 1) := by decide +kernel
theorem dX6_init_71 : decode cX6_init 71 = .ok (.iconst 0, 1) := by decide +kernel
theorem dX6_init_72 : decode cX6_init 72 = .ok (.iconst 0, 1) := by decide +kernel
theorem dX6_init_73 : decode cX6_init 73 = .ok (.invokevirtual 39, 3) := by decide +kernel
theorem dX6_init_76 : decode cX6_init 76 = .ok (.return_, 1) := by decide +kernel
theorem dX6_in_0 : decode cX6_in 0 = .ok (.lload_n 0, 1) := by decide +kernel
theorem dX6_in_1 : decode cX6_in 1 = .ok (.lload_n 2, 1) := by decide +kernel
theorem dX6_in_2 : decode cX6_in 2 = .ok (.lcmp, 1) := by decide +kernel
theorem dX6_in_3 : decode cX6_in 3 = .ok (.ifCond .lt 14, 3) := by decide +kernel
theorem dX6_in_6 : decode cX6_in 6 = .ok (.lload_n 0, 1) := by decide +kernel
theorem dX6_in_7 : decode cX6_in 7 = .ok (.lload 4, 2) := by decide +kernel
theorem dX6_in_9 : decode cX6_in 9 = .ok (.lcmp, 1) := by decide +kernel
theorem dX6_in_10 : decode cX6_in 10 = .ok (.ifCond .gt 7, 3) := by decide +kernel
theorem dX6_in_13 : decode cX6_in 13 = .ok (.iconst 1, 1) := by decide +kernel
theorem dX6_in_14 : decode cX6_in 14 = .ok (.goto 4, 3) := by decide +kernel
theorem dX6_in_17 : decode cX6_in 17 = .ok (.iconst 0, 1) := by decide +kernel
theorem dX6_in_18 : decode cX6_in 18 = .ok (.ireturn, 1) := by decide +kernel
theorem dX6_has_0 : decode cX6_has 0 = .ok (.iload_n 0, 1) := by decide +kernel
theorem dX6_has_1 : decode cX6_has 1 = .ok (.iload_n 1, 1) := by decide +kernel
theorem dX6_has_2 : decode cX6_has 2 = .ok (.ishr, 1) := by decide +kernel
theorem dX6_has_3 : decode cX6_has 3 = .ok (.iconst 1, 1) := by decide +kernel
theorem dX6_has_4 : decode cX6_has 4 = .ok (.iand, 1) := by decide +kernel
theorem dX6_has_5 : decode cX6_has 5 = .ok (.iconst 1, 1) := by decide +kernel
theorem dX6_has_6 : decode cX6_has 6 = .ok (.if_icmp .ne 7, 3) := by decide +kernel
theorem dX6_has_9 : decode cX6_has 9 = .ok (.iconst 1, 1) := by decide +kernel
theorem dX6_has_10 : decode cX6_has 10 = .ok (.goto 4, 3) := by decide +kernel
theorem dX6_has_13 : decode cX6_has 13 = .ok (.iconst 0, 1) := by decide +kernel
theorem dX6_has_14 : decode cX6_has 14 = .ok (.ireturn, 1) := by decide +kernel
theorem dX6_bad_0 : decode cX6_bad 0 = .ok (.aload_n 0, 1) := by decide +kernel
theorem dX6_bad_1 : decode cX6_bad 1 = .ok (.getfield 27, 3) := by decide +kernel
theorem dX6_bad_4 : decode cX6_bad 4 = .ok (.iconst 0, 1) := by decide +kernel
theorem dX6_bad_5 : decode cX6_bad 5 = .ok (.dup2, 1) := by decide +kernel
theorem dX6_bad_6 : decode cX6_bad 6 = .ok (.iaload, 1) := by decide +kernel
theorem dX6_bad_7 : decode cX6_bad 7 = .ok (.iconst 1, 1) := by decide +kernel
theorem dX6_bad_8 : decode cX6_bad 8 = .ok (.iadd, 1) := by decide +kernel
theorem dX6_bad_9 : decode cX6_bad 9 = .ok (.iastore, 1) := by decide +kernel
theorem dX6_bad_10 : decode cX6_bad 10 = .ok (.iload_n 1, 1) := by decide +kernel
theorem dX6_bad_11 : decode cX6_bad 11 = .ok (.ireturn, 1) := by decide +kernel
theorem dX6_no_0 : decode cX6_no 0 = .ok (.aload_n 0, 1) := by decide +kernel
theorem dX6_no_1 : decode cX6_no 1 = .ok (.getfield 27, 3) := by decide +kernel
theorem dX6_no_4 : decode cX6_no 4 = .ok (.iconst 1, 1) := by decide +kernel
theorem dX6_no_5 : decode cX6_no 5 = .ok (.dup2, 1) := by decide +kernel
theorem dX6_no_6 : decode cX6_no 6 = .ok (.iaload, 1) := by decide +kernel
theorem dX6_no_7 : decode cX6_no 7 = .ok (.iconst 1, 1) := by decide +kernel
theorem dX6_no_8 : decode cX6_no 8 = .ok (.iadd, 1) := by decide +kernel
theorem dX6_no_9 : decode cX6_no 9 = .ok (.iastore, 1) := by decide +kernel
theorem dX6_no_10 : decode cX6_no 10 = .ok (.bipush (-3), 2) := by decide +kernel
theorem dX6_no_12 : decode cX6_no 12 = .ok (.ireturn, 1) := by decide +kernel
theorem dX6_full_0 : decode cX6_full 0 = .ok (.aload_n 0, 1) := by decide +kernel
theorem dX6_full_1 : decode cX6_full 1 = .ok (.getfield 27, 3) := by decide +kernel
theorem dX6_full_4 : decode cX6_full 4 = .ok (.iconst 2, 1) := by decide +kernel
theorem dX6_full_5 : decode cX6_full 5 = .ok (.dup2, 1) := by decide +kernel
theorem dX6_full_6 : decode cX6_full 6 = .ok (.iaload, 1) := by decide +kernel
theorem dX6_full_7 : decode cX6_full 7 = .ok (.iconst 1, 1) := by decide +kernel
theorem dX6_full_8 : decode cX6_full 8 = .ok (.iadd, 1) := by decide +kernel
theorem dX6_full_9 : decode cX6_full 9 = .ok (.iastore, 1) := by decide +kernel
theorem dX6_full_10 : decode cX6_full 10 = .ok (.bipush (-4), 2) := by decide +kernel
theorem dX6_full_12 : decode cX6_full 12 = .ok (.ireturn, 1) := by decide +kernel
theorem dX6_copy_0 : decode cX6_copy 0 = .ok (.iconst 0, 1) := by decide +kernel
theorem dX6_copy_1 : decode cX6_copy 1 = .ok (.istore_n 3, 1) := by decide +kernel
theorem dX6_copy_2 : decode cX6_copy 2 = .ok (.iload_n 3, 1) := by decide +kernel
theorem dX6_copy_3 : decode cX6_copy 3 = .ok (.sipush 148, 3) := by decide +kernel
theorem dX6_copy_6 : decode cX6_copy 6 = .ok (.if_icmp .ge 25, 3) := by decide +kernel
theorem dX6_copy_9 : decode cX6_copy 9 = .ok (.aload_n 0, 1) := by decide +kernel
theorem dX6_copy_10 : decode cX6_copy 10 = .ok (.getfield 7, 3) := by decide +kernel
theorem dX6_copy_13 : decode cX6_copy 13 = .ok (.iload_n 2, 1) := by decide +kernel
theorem dX6_copy_14 : decode cX6_copy 14 = .ok (.iload_n 3, 1) := by decide +kernel
theorem dX6_copy_15 : decode cX6_copy 15 = .ok (.iadd, 1) := by decide +kernel
theorem dX6_copy_16 : decode cX6_copy 16 = .ok (.aload_n 0, 1) := by decide +kernel
theorem dX6_copy_17 : decode cX6_copy 17 = .ok (.getfield 7, 3) := by decide +kernel
theorem dX6_copy_20 : decode cX6_copy 20 = .ok (.iload_n 1, 1) := by decide +kernel
theorem dX6_copy_21 : decode cX6_copy 21 = .ok (.iload_n 3, 1) := by decide +kernel
theorem dX6_copy_22 : decode cX6_copy 22 = .ok (.iadd, 1) := by decide +kernel
theorem dX6_copy_23 : decode cX6_copy 23 = .ok (.iaload, 1) := by decide +kernel
theorem dX6_copy_24 : decode cX6_copy 24 = .ok (.iastore, 1) := by decide +kernel
theorem dX6_copy_25 : decode cX6_copy 25 = .ok (.iinc 3 1, 3) := by decide +kernel
theorem dX6_copy_28 : decode cX6_copy 28 = .ok (.goto (-26), 3) := by decide +kernel
theorem dX6_copy_31 : decode cX6_copy 31 = .ok (.return_, 1) := by decide +kernel
theorem dX6_empties_0 : decode cX6_empties 0 = .ok (.iconst 0, 1) := by decide +kernel
theorem dX6_empties_1 : decode cX6_empties 1 = .ok (.istore_n 2, 1) := by decide +kernel
theorem dX6_empties_2 : decode cX6_empties 2 = .ok (.iload_n 2, 1) := by decide +kernel
theorem dX6_empties_3 : decode cX6_empties 3 = .ok (.sipush 148, 3) := by decide +kernel
theorem dX6_empties_6 : decode cX6_empties 6 = .ok (.if_icmp .ge 18, 3) := by decide +kernel
theorem dX6_empties_9 : decode cX6_empties 9 = .ok (.aload_n 0, 1) := by decide +kernel
theorem dX6_empties_10 : decode cX6_empties 10 = .ok (.getfield 7, 3) := by decide +kernel
theorem dX6_empties_13 : decode cX6_empties 13 = .ok (.iload_n 1, 1) := by decide +kernel
theorem dX6_empties_14 : decode cX6_empties 14 = .ok (.iload_n 2, 1) := by decide +kernel
theorem dX6_empties_15 : decode cX6_empties 15 = .ok (.iadd, 1) := by decide +kernel
theorem dX6_empties_16 : decode cX6_empties 16 = .ok (.iconst 0, 1) := by decide +kernel
theorem dX6_empties_17 : decode cX6_empties 17 = .ok (.iastore, 1) := by decide +kernel
theorem dX6_empties_18 : decode cX6_empties 18 = .ok (.iinc 2 1, 3) := by decide +kernel
theorem dX6_empties_21 : decode cX6_empties 21 = .ok (.goto (-19), 3) := by decide +kernel
theorem dX6_empties_24 : decode cX6_empties 24 = .ok (.return_, 1) := by decide +kernel
set_option maxRecDepth 20000 in
theorem ggX6_begins_X6_empties : GoodIn wsX6_begins wsX6_empties := goodIn_r _ [6, 1, 7, 8, 9, 10, 11, 12, 13, 14, 15, 16, 17, 18, 19, 20] (by decide +kernel) (by decide +kernel)
set_option maxRecDepth 20000 in
theorem gX6_begins_X6_empties : GoodIn wsX6_begins (wsV RX6 43 RX6 yX6_empties wsX6_empties) := goodIn_app (goodIn_of _ (by decide +kernel)) ggX6_begins_X6_empties
theorem dX6_begins_0 : decode cX6_begins 0 = .ok (.aload_n 0, 1) := by decide +kernel
theorem dX6_begins_1 : decode cX6_begins 1 = .ok (.iload_n 1, 1) := by decide +kernel
theorem dX6_begins_2 : decode cX6_begins 2 = .ok (.invokevirtual 43, 3) := by decide +kernel
theorem dX6_begins_5 : decode cX6_begins 5 = .ok (.aload_n 0, 1) := by decide +kernel
theorem dX6_begins_6 : decode cX6_begins 6 = .ok (.getfield 7, 3) := by decide +kernel
theorem dX6_begins_9 : decode cX6_begins 9 = .ok (.iload_n 1, 1) := by decide +kernel
theorem dX6_begins_10 : decode cX6_begins 10 = .ok (.iconst 1, 1) := by decide +kernel
theorem dX6_begins_11 : decode cX6_begins 11 = .ok (.iadd, 1) := by decide +kernel
theorem dX6_begins_12 : decode cX6_begins 12 = .ok (.iload_n 2, 1) := by decide +kernel
theorem dX6_begins_13 : decode cX6_begins 13 = .ok (.iastore, 1) := by decide +kernel
theorem dX6_begins_14 : decode cX6_begins 14 = .ok (.aload_n 0, 1) := by decide +kernel
theorem dX6_begins_15 : decode cX6_begins 15 = .ok (.getfield 7, 3) := by decide +kernel
theorem dX6_begins_18 : decode cX6_begins 18 = .ok (.iload_n 1, 1) := by decide +kernel
theorem dX6_begins_19 : decode cX6_begins 19 = .ok (.iconst 2, 1) := by decide +kernel
theorem dX6_begins_20 : decode cX6_begins 20 = .ok (.iadd, 1) := by decide +kernel
theorem dX6_begins_21 : decode cX6_begins 21 = .ok (.iconst (-1), 1) := by decide +kernel
theorem dX6_begins_22 : decode cX6_begins 22 = .ok (.iastore, 1) := by decide +kernel
theorem dX6_begins_23 : decode cX6_begins 23 = .ok (.iconst 0, 1) := by decide +kernel
theorem dX6_begins_24 : decode cX6_begins 24 = .ok (.istore_n 3, 1) := by decide +kernel
theorem dX6_begins_25 : decode cX6_begins 25 = .ok (.iload_n 3, 1) := by decide +kernel
theorem dX6_begins_26 : decode cX6_begins 26 = .ok (.bipush 8, 2) := by decide +kernel
theorem dX6_begins_28 : decode cX6_begins 28 = .ok (.if_icmp .ge 21, 3) := by decide +kernel
theorem dX6_begins_31 : decode cX6_begins 31 = .ok (.aload_n 0, 1) := by decide +kernel
theorem dX6_begins_32 : decode cX6_begins 32 = .ok (.getfield 7, 3) := by decide +kernel
theorem dX6_begins_35 : decode cX6_begins 35 = .ok (.iload_n 1, 1) := by decide +kernel
theorem dX6_begins_36 : decode cX6_begins 36 = .ok (.bipush 23, 2) := by decide +kernel
theorem dX6_begins_38 : decode cX6_begins 38 = .ok (.iadd, 1) := by decide +kernel
theorem dX6_begins_39 : decode cX6_begins 39 = .ok (.iload_n 3, 1) := by decide +kernel
theorem dX6_begins_40 : decode cX6_begins 40 = .ok (.iadd, 1) := by decide +kernel
theorem dX6_begins_41 : decode cX6_begins 41 = .ok (.iconst 5, 1) := by decide +kernel
theorem dX6_begins_42 : decode cX6_begins 42 = .ok (.iastore, 1) := by decide +kernel
theorem dX6_begins_43 : decode cX6_begins 43 = .ok (.iinc 3 1, 3) := by decide +kernel
theorem dX6_begins_46 : decode cX6_begins 46 = .ok (.goto (-21), 3) := by decide +kernel
theorem dX6_begins_49 : decode cX6_begins 49 = .ok (.return_, 1) := by decide +kernel
set_option maxRecDepth 20000 in
theorem ggX6_isBatter_X6_in : GoodIn wsX6_isBatter wsX6_in := goodIn_r _ [5] (by decide +kernel) (by decide +kernel)
set_option maxRecDepth 20000 in
theorem gX6_isBatter_X6_in : GoodIn wsX6_isBatter (va_wsS RX6 47 yX6_in wsX6_in) := goodIn_app (goodIn_of _ (by decide +kernel)) ggX6_isBatter_X6_in
theorem dX6_isBatter_0 : decode cX6_isBatter 0 = .ok (.iload_n 1, 1) := by decide +kernel
theorem dX6_isBatter_1 : decode cX6_isBatter 1 = .ok (.i2l, 1) := by decide +kernel
theorem dX6_isBatter_2 : decode cX6_isBatter 2 = .ok (.lconst 0, 1) := by decide +kernel
theorem dX6_isBatter_3 : decode cX6_isBatter 3 = .ok (.aload_n 0, 1) := by decide +kernel
theorem dX6_isBatter_4 : decode cX6_isBatter 4 = .ok (.getfield 7, 3) := by decide +kernel
theorem dX6_isBatter_7 : decode cX6_isBatter 7 = .ok (.iconst 0, 1) := by decide +kernel
theorem dX6_isBatter_8 : decode cX6_isBatter 8 = .ok (.iaload, 1) := by decide +kernel
theorem dX6_isBatter_9 : decode cX6_isBatter 9 = .ok (.iconst 1, 1) := by decide +kernel
theorem dX6_isBatter_10 : decode cX6_isBatter 10 = .ok (.isub, 1) := by decide +kernel
theorem dX6_isBatter_11 : decode cX6_isBatter 11 = .ok (.i2l, 1) := by decide +kernel
theorem dX6_isBatter_12 : decode cX6_isBatter 12 = .ok (.invokestatic 47, 3) := by decide +kernel
theorem dX6_isBatter_15 : decode cX6_isBatter 15 = .ok (.ireturn, 1) := by decide +kernel
theorem dX6_fast_0 : decode cX6_fast 0 = .ok (.iload_n 0, 1) := by decide +kernel
theorem dX6_fast_1 : decode cX6_fast 1 = .ok (.ifCond .ne 7, 3) := by decide +kernel
theorem dX6_fast_4 : decode cX6_fast 4 = .ok (.iconst 0, 1) := by decide +kernel
theorem dX6_fast_5 : decode cX6_fast 5 = .ok (.goto 6, 3) := by decide +kernel
theorem dX6_fast_8 : decode cX6_fast 8 = .ok (.iload_n 0, 1) := by decide +kernel
theorem dX6_fast_9 : decode cX6_fast 9 = .ok (.iconst 1, 1) := by decide +kernel
theorem dX6_fast_10 : decode cX6_fast 10 = .ok (.isub, 1) := by decide +kernel
theorem dX6_fast_11 : decode cX6_fast 11 = .ok (.ireturn, 1) := by decide +kernel
theorem dX6_slow_0 : decode cX6_slow 0 = .ok (.iload_n 0, 1) := by decide +kernel
theorem dX6_slow_1 : decode cX6_slow 1 = .ok (.iload_n 1, 1) := by decide +kernel
theorem dX6_slow_2 : decode cX6_slow 2 = .ok (.iconst 2, 1) := by decide +kernel
theorem dX6_slow_3 : decode cX6_slow 3 = .ok (.irem, 1) := by decide +kernel
theorem dX6_slow_4 : decode cX6_slow 4 = .ok (.iadd, 1) := by decide +kernel
theorem dX6_slow_5 : decode cX6_slow 5 = .ok (.ireturn, 1) := by decide +kernel
set_option maxRecDepth 20000 in
theorem ggX6_comesTo_X6_fast : GoodIn wsX6_comesTo wsX6_fast := goodIn_r _ [4] (by decide +kernel) (by decide +kernel)
set_option maxRecDepth 20000 in
theorem gX6_comesTo_X6_fast : GoodIn wsX6_comesTo (va_wsS RX6 51 yX6_fast wsX6_fast) := goodIn_app (goodIn_of _ (by decide +kernel)) ggX6_comesTo_X6_fast
set_option maxRecDepth 20000 in
theorem ggX6_comesTo_X6_slow : GoodIn wsX6_comesTo wsX6_slow := goodIn_r _ [7] (by decide +kernel) (by decide +kernel)
set_option maxRecDepth 20000 in
theorem gX6_comesTo_X6_slow : GoodIn wsX6_comesTo (va_wsS RX6 55 yX6_slow wsX6_slow) := goodIn_app (goodIn_of _ (by decide +kernel)) ggX6_comesTo_X6_slow
theorem dX6_comesTo_0 : decode cX6_comesTo 0 = .ok (.iload_n 0, 1) := by decide +kernel
theorem dX6_comesTo_1 : decode cX6_comesTo 1 = .ok (.tableswitch 101 1 5 #[35, 40, 46, 58, 78], 35) := by decide +kernel
theorem dX6_comesTo_36 : decode cX6_comesTo 36 = .ok (.iload_n 1, 1) := by decide +kernel
theorem dX6_comesTo_37 : decode cX6_comesTo 37 = .ok (.invokestatic 51, 3) := by decide +kernel
theorem dX6_comesTo_40 : decode cX6_comesTo 40 = .ok (.ireturn, 1) := by decide +kernel
theorem dX6_comesTo_41 : decode cX6_comesTo 41 = .ok (.iload_n 1, 1) := by decide +kernel
theorem dX6_comesTo_42 : decode cX6_comesTo 42 = .ok (.iload_n 2, 1) := by decide +kernel
theorem dX6_comesTo_43 : decode cX6_comesTo 43 = .ok (.invokestatic 55, 3) := by decide +kernel
theorem dX6_comesTo_46 : decode cX6_comesTo 46 = .ok (.ireturn, 1) := by decide +kernel
theorem dX6_comesTo_47 : decode cX6_comesTo 47 = .ok (.iload_n 2, 1) := by decide +kernel
theorem dX6_comesTo_48 : decode cX6_comesTo 48 = .ok (.iconst 4, 1) := by decide +kernel
theorem dX6_comesTo_49 : decode cX6_comesTo 49 = .ok (.irem, 1) := by decide +kernel
theorem dX6_comesTo_50 : decode cX6_comesTo 50 = .ok (.ifCond .ne 7, 3) := by decide +kernel
theorem dX6_comesTo_53 : decode cX6_comesTo 53 = .ok (.iconst 0, 1) := by decide +kernel
theorem dX6_comesTo_54 : decode cX6_comesTo 54 = .ok (.goto 4, 3) := by decide +kernel
theorem dX6_comesTo_57 : decode cX6_comesTo 57 = .ok (.iload_n 1, 1) := by decide +kernel
theorem dX6_comesTo_58 : decode cX6_comesTo 58 = .ok (.ireturn, 1) := by decide +kernel
theorem dX6_comesTo_59 : decode cX6_comesTo 59 = .ok (.iload_n 1, 1) := by decide +kernel
theorem dX6_comesTo_60 : decode cX6_comesTo 60 = .ok (.bipush 7, 2) := by decide +kernel
theorem dX6_comesTo_62 : decode cX6_comesTo 62 = .ok (.if_icmp .lt 12, 3) := by decide +kernel
theorem dX6_comesTo_65 : decode cX6_comesTo 65 = .ok (.iload_n 1, 1) := by decide +kernel
theorem dX6_comesTo_66 : decode cX6_comesTo 66 = .ok (.invokestatic 51, 3) := by decide +kernel
theorem dX6_comesTo_69 : decode cX6_comesTo 69 = .ok (.iconst 2, 1) := by decide +kernel
theorem dX6_comesTo_70 : decode cX6_comesTo 70 = .ok (.isub, 1) := by decide +kernel
theorem dX6_comesTo_71 : decode cX6_comesTo 71 = .ok (.goto 7, 3) := by decide +kernel
theorem dX6_comesTo_74 : decode cX6_comesTo 74 = .ok (.iload_n 1, 1) := by decide +kernel
theorem dX6_comesTo_75 : decode cX6_comesTo 75 = .ok (.invokestatic 51, 3) := by decide +kernel
theorem dX6_comesTo_78 : decode cX6_comesTo 78 = .ok (.ireturn, 1) := by decide +kernel
theorem dX6_comesTo_79 : decode cX6_comesTo 79 = .ok (.iload_n 1, 1) := by decide +kernel
theorem dX6_comesTo_80 : decode cX6_comesTo 80 = .ok (.iload_n 2, 1) := by decide +kernel
theorem dX6_comesTo_81 : decode cX6_comesTo 81 = .ok (.invokestatic 55, 3) := by decide +kernel
theorem dX6_comesTo_84 : decode cX6_comesTo 84 = .ok (.iload_n 2, 1) := by decide +kernel
theorem dX6_comesTo_85 : decode cX6_comesTo 85 = .ok (.bipush 20, 2) := by decide +kernel
theorem dX6_comesTo_87 : decode cX6_comesTo 87 = .ok (.idiv, 1) := by decide +kernel
theorem dX6_comesTo_88 : decode cX6_comesTo 88 = .ok (.iconst 3, 1) := by decide +kernel
theorem dX6_comesTo_89 : decode cX6_comesTo 89 = .ok (.if_icmp .le 7, 3) := by decide +kernel
theorem dX6_comesTo_92 : decode cX6_comesTo 92 = .ok (.iconst 3, 1) := by decide +kernel
theorem dX6_comesTo_93 : decode cX6_comesTo 93 = .ok (.goto 7, 3) := by decide +kernel
theorem dX6_comesTo_96 : decode cX6_comesTo 96 = .ok (.iload_n 2, 1) := by decide +kernel
theorem dX6_comesTo_97 : decode cX6_comesTo 97 = .ok (.bipush 20, 2) := by decide +kernel
theorem dX6_comesTo_99 : decode cX6_comesTo 99 = .ok (.idiv, 1) := by decide +kernel
theorem dX6_comesTo_100 : decode cX6_comesTo 100 = .ok (.iadd, 1) := by decide +kernel
theorem dX6_comesTo_101 : decode cX6_comesTo 101 = .ok (.ireturn, 1) := by decide +kernel
theorem dX6_comesTo_102 : decode cX6_comesTo 102 = .ok (.iload_n 1, 1) := by decide +kernel
theorem dX6_comesTo_103 : decode cX6_comesTo 103 = .ok (.ireturn, 1) := by decide +kernel
theorem dX6_plain_0 : decode cX6_plain 0 = .ok (.iload_n 1, 1) := by decide +kernel
theorem dX6_plain_1 : decode cX6_plain 1 = .ok (.iload_n 0, 1) := by decide +kernel
theorem dX6_plain_2 : decode cX6_plain 2 = .ok (.iadd, 1) := by decide +kernel
theorem dX6_plain_3 : decode cX6_plain 3 = .ok (.iconst 3, 1) := by decide +kernel
theorem dX6_plain_4 : decode cX6_plain 4 = .ok (.idiv, 1) := by decide +kernel
theorem dX6_plain_5 : decode cX6_plain 5 = .ok (.iconst 4, 1) := by decide +kernel
theorem dX6_plain_6 : decode cX6_plain 6 = .ok (.if_icmp .le 7, 3) := by decide +kernel
theorem dX6_plain_9 : decode cX6_plain 9 = .ok (.iconst 4, 1) := by decide +kernel
theorem dX6_plain_10 : decode cX6_plain 10 = .ok (.goto 8, 3) := by decide +kernel
theorem dX6_plain_13 : decode cX6_plain 13 = .ok (.iload_n 1, 1) := by decide +kernel
theorem dX6_plain_14 : decode cX6_plain 14 = .ok (.iload_n 0, 1) := by decide +kernel
theorem dX6_plain_15 : decode cX6_plain 15 = .ok (.iadd, 1) := by decide +kernel
theorem dX6_plain_16 : decode cX6_plain 16 = .ok (.iconst 3, 1) := by decide +kernel
theorem dX6_plain_17 : decode cX6_plain 17 = .ok (.idiv, 1) := by decide +kernel
theorem dX6_plain_18 : decode cX6_plain 18 = .ok (.ireturn, 1) := by decide +kernel
set_option maxRecDepth 20000 in
theorem ggX6_timid_X6_plain : GoodIn wsX6_timid wsX6_plain := goodIn_r _ [4] (by decide +kernel) (by decide +kernel)
set_option maxRecDepth 20000 in
theorem gX6_timid_X6_plain : GoodIn wsX6_timid (va_wsS RX6 59 yX6_plain wsX6_plain) := goodIn_app (goodIn_of _ (by decide +kernel)) ggX6_timid_X6_plain
theorem dX6_timid_0 : decode cX6_timid 0 = .ok (.iload_n 0, 1) := by decide +kernel
theorem dX6_timid_1 : decode cX6_timid 1 = .ok (.iload_n 1, 1) := by decide +kernel
theorem dX6_timid_2 : decode cX6_timid 2 = .ok (.invokestatic 59, 3) := by decide +kernel
theorem dX6_timid_5 : decode cX6_timid 5 = .ok (.iconst 1, 1) := by decide +kernel
theorem dX6_timid_6 : decode cX6_timid 6 = .ok (.if_icmp .le 7, 3) := by decide +kernel
theorem dX6_timid_9 : decode cX6_timid 9 = .ok (.iconst 1, 1) := by decide +kernel
theorem dX6_timid_10 : decode cX6_timid 10 = .ok (.goto 8, 3) := by decide +kernel
theorem dX6_timid_13 : decode cX6_timid 13 = .ok (.iload_n 0, 1) := by decide +kernel
theorem dX6_timid_14 : decode cX6_timid 14 = .ok (.iload_n 1, 1) := by decide +kernel
theorem dX6_timid_15 : decode cX6_timid 15 = .ok (.invokestatic 59, 3) := by decide +kernel
theorem dX6_timid_18 : decode cX6_timid 18 = .ok (.ireturn, 1) := by decide +kernel
set_option maxRecDepth 20000 in
theorem ggX6_runsBy_X6_plain : GoodIn wsX6_runsBy wsX6_plain := goodIn_r _ [4] (by decide +kernel) (by decide +kernel)
set_option maxRecDepth 20000 in
theorem gX6_runsBy_X6_plain : GoodIn wsX6_runsBy (va_wsS RX6 59 yX6_plain wsX6_plain) := goodIn_app (goodIn_of _ (by decide +kernel)) ggX6_runsBy_X6_plain
set_option maxRecDepth 20000 in
theorem ggX6_runsBy_X6_timid : GoodIn wsX6_runsBy wsX6_timid := goodIn_r _ [7, 1, 2, 3, 4] (by decide +kernel) (by decide +kernel)
set_option maxRecDepth 20000 in
theorem gX6_runsBy_X6_timid : GoodIn wsX6_runsBy (va_wsS RX6 62 yX6_timid wsX6_timid) := goodIn_app (goodIn_of _ (by decide +kernel)) ggX6_runsBy_X6_timid
theorem dX6_runsBy_0 : decode cX6_runsBy 0 = .ok (.iload_n 0, 1) := by decide +kernel
theorem dX6_runsBy_1 : decode cX6_runsBy 1 = .ok (.tableswitch 92 1 5 #[35, 53, 59, 67, 75], 35) := by decide +kernel
theorem dX6_runsBy_36 : decode cX6_runsBy 36 = .ok (.iload_n 1, 1) := by decide +kernel
theorem dX6_runsBy_37 : decode cX6_runsBy 37 = .ok (.iload_n 2, 1) := by decide +kernel
theorem dX6_runsBy_38 : decode cX6_runsBy 38 = .ok (.invokestatic 59, 3) := by decide +kernel
theorem dX6_runsBy_41 : decode cX6_runsBy 41 = .ok (.iload_n 2, 1) := by decide +kernel
theorem dX6_runsBy_42 : decode cX6_runsBy 42 = .ok (.bipush 6, 2) := by decide +kernel
theorem dX6_runsBy_44 : decode cX6_runsBy 44 = .ok (.if_icmp .lt 7, 3) := by decide +kernel
theorem dX6_runsBy_47 : decode cX6_runsBy 47 = .ok (.iconst 1, 1) := by decide +kernel
theorem dX6_runsBy_48 : decode cX6_runsBy 48 = .ok (.goto 4, 3) := by decide +kernel
theorem dX6_runsBy_51 : decode cX6_runsBy 51 = .ok (.iconst 0, 1) := by decide +kernel
theorem dX6_runsBy_52 : decode cX6_runsBy 52 = .ok (.iadd, 1) := by decide +kernel
theorem dX6_runsBy_53 : decode cX6_runsBy 53 = .ok (.ireturn, 1) := by decide +kernel
theorem dX6_runsBy_54 : decode cX6_runsBy 54 = .ok (.iload_n 1, 1) := by decide +kernel
theorem dX6_runsBy_55 : decode cX6_runsBy 55 = .ok (.iload_n 2, 1) := by decide +kernel
theorem dX6_runsBy_56 : decode cX6_runsBy 56 = .ok (.invokestatic 62, 3) := by decide +kernel
theorem dX6_runsBy_59 : decode cX6_runsBy 59 = .ok (.ireturn, 1) := by decide +kernel
theorem dX6_runsBy_60 : decode cX6_runsBy 60 = .ok (.iload_n 1, 1) := by decide +kernel
theorem dX6_runsBy_61 : decode cX6_runsBy 61 = .ok (.iload_n 2, 1) := by decide +kernel
theorem dX6_runsBy_62 : decode cX6_runsBy 62 = .ok (.invokestatic 59, 3) := by decide +kernel
theorem dX6_runsBy_65 : decode cX6_runsBy 65 = .ok (.iconst 1, 1) := by decide +kernel
theorem dX6_runsBy_66 : decode cX6_runsBy 66 = .ok (.iadd, 1) := by decide +kernel
theorem dX6_runsBy_67 : decode cX6_runsBy 67 = .ok (.ireturn, 1) := by decide +kernel
theorem dX6_runsBy_68 : decode cX6_runsBy 68 = .ok (.iload_n 1, 1) := by decide +kernel
theorem dX6_runsBy_69 : decode cX6_runsBy 69 = .ok (.iload_n 2, 1) := by decide +kernel
theorem dX6_runsBy_70 : decode cX6_runsBy 70 = .ok (.invokestatic 59, 3) := by decide +kernel
theorem dX6_runsBy_73 : decode cX6_runsBy 73 = .ok (.iconst 2, 1) := by decide +kernel
theorem dX6_runsBy_74 : decode cX6_runsBy 74 = .ok (.iadd, 1) := by decide +kernel
theorem dX6_runsBy_75 : decode cX6_runsBy 75 = .ok (.ireturn, 1) := by decide +kernel
theorem dX6_runsBy_76 : decode cX6_runsBy 76 = .ok (.iload_n 2, 1) := by decide +kernel
theorem dX6_runsBy_77 : decode cX6_runsBy 77 = .ok (.iconst 2, 1) := by decide +kernel
theorem dX6_runsBy_78 : decode cX6_runsBy 78 = .ok (.irem, 1) := by decide +kernel
theorem dX6_runsBy_79 : decode cX6_runsBy 79 = .ok (.iconst 1, 1) := by decide +kernel
theorem dX6_runsBy_80 : decode cX6_runsBy 80 = .ok (.if_icmp .ne 7, 3) := by decide +kernel
theorem dX6_runsBy_83 : decode cX6_runsBy 83 = .ok (.iconst 0, 1) := by decide +kernel
theorem dX6_runsBy_84 : decode cX6_runsBy 84 = .ok (.goto 8, 3) := by decide +kernel
theorem dX6_runsBy_87 : decode cX6_runsBy 87 = .ok (.iload_n 1, 1) := by decide +kernel
theorem dX6_runsBy_88 : decode cX6_runsBy 88 = .ok (.iload_n 2, 1) := by decide +kernel
theorem dX6_runsBy_89 : decode cX6_runsBy 89 = .ok (.invokestatic 62, 3) := by decide +kernel
theorem dX6_runsBy_92 : decode cX6_runsBy 92 = .ok (.ireturn, 1) := by decide +kernel
theorem dX6_runsBy_93 : decode cX6_runsBy 93 = .ok (.iload_n 1, 1) := by decide +kernel
theorem dX6_runsBy_94 : decode cX6_runsBy 94 = .ok (.iload_n 2, 1) := by decide +kernel
theorem dX6_runsBy_95 : decode cX6_runsBy 95 = .ok (.invokestatic 59, 3) := by decide +kernel
theorem dX6_runsBy_98 : decode cX6_runsBy 98 = .ok (.ireturn, 1) := by decide +kernel
theorem dX6_nextOf_0 : decode cX6_nextOf 0 = .ok (.aload_n 0, 1) := by decide +kernel
theorem dX6_nextOf_1 : decode cX6_nextOf 1 = .ok (.getfield 7, 3) := by decide +kernel
theorem dX6_nextOf_4 : decode cX6_nextOf 4 = .ok (.iload_n 1, 1) := by decide +kernel
theorem dX6_nextOf_5 : decode cX6_nextOf 5 = .ok (.iconst 2, 1) := by decide +kernel
theorem dX6_nextOf_6 : decode cX6_nextOf 6 = .ok (.iadd, 1) := by decide +kernel
theorem dX6_nextOf_7 : decode cX6_nextOf 7 = .ok (.iaload, 1) := by decide +kernel
theorem dX6_nextOf_8 : decode cX6_nextOf 8 = .ok (.istore_n 2, 1) := by decide +kernel
theorem dX6_nextOf_9 : decode cX6_nextOf 9 = .ok (.aload_n 0, 1) := by decide +kernel
theorem dX6_nextOf_10 : decode cX6_nextOf 10 = .ok (.getfield 7, 3) := by decide +kernel
theorem dX6_nextOf_13 : decode cX6_nextOf 13 = .ok (.iload_n 1, 1) := by decide +kernel
theorem dX6_nextOf_14 : decode cX6_nextOf 14 = .ok (.iconst 0, 1) := by decide +kernel
theorem dX6_nextOf_15 : decode cX6_nextOf 15 = .ok (.iadd, 1) := by decide +kernel
theorem dX6_nextOf_16 : decode cX6_nextOf 16 = .ok (.iaload, 1) := by decide +kernel
theorem dX6_nextOf_17 : decode cX6_nextOf 17 = .ok (.istore_n 3, 1) := by decide +kernel
theorem dX6_nextOf_18 : decode cX6_nextOf 18 = .ok (.iconst (-1), 1) := by decide +kernel
theorem dX6_nextOf_19 : decode cX6_nextOf 19 = .ok (.istore 4, 2) := by decide +kernel
theorem dX6_nextOf_21 : decode cX6_nextOf 21 = .ok (.iload_n 3, 1) := by decide +kernel
theorem dX6_nextOf_22 : decode cX6_nextOf 22 = .ok (.istore 5, 2) := by decide +kernel
theorem dX6_nextOf_24 : decode cX6_nextOf 24 = .ok (.iload 5, 2) := by decide +kernel
theorem dX6_nextOf_26 : decode cX6_nextOf 26 = .ok (.iconst 1, 1) := by decide +kernel
theorem dX6_nextOf_27 : decode cX6_nextOf 27 = .ok (.if_icmp .lt 41, 3) := by decide +kernel
theorem dX6_nextOf_30 : decode cX6_nextOf 30 = .ok (.iload_n 2, 1) := by decide +kernel
theorem dX6_nextOf_31 : decode cX6_nextOf 31 = .ok (.iload 5, 2) := by decide +kernel
theorem dX6_nextOf_33 : decode cX6_nextOf 33 = .ok (.iadd, 1) := by decide +kernel
theorem dX6_nextOf_34 : decode cX6_nextOf 34 = .ok (.iload_n 3, 1) := by decide +kernel
theorem dX6_nextOf_35 : decode cX6_nextOf 35 = .ok (.irem, 1) := by decide +kernel
theorem dX6_nextOf_36 : decode cX6_nextOf 36 = .ok (.istore 6, 2) := by decide +kernel
theorem dX6_nextOf_38 : decode cX6_nextOf 38 = .ok (.aload_n 0, 1) := by decide +kernel
theorem dX6_nextOf_39 : decode cX6_nextOf 39 = .ok (.getfield 7, 3) := by decide +kernel
theorem dX6_nextOf_42 : decode cX6_nextOf 42 = .ok (.iload_n 1, 1) := by decide +kernel
theorem dX6_nextOf_43 : decode cX6_nextOf 43 = .ok (.bipush 17, 2) := by decide +kernel
theorem dX6_nextOf_45 : decode cX6_nextOf 45 = .ok (.iadd, 1) := by decide +kernel
theorem dX6_nextOf_46 : decode cX6_nextOf 46 = .ok (.iload 6, 2) := by decide +kernel
theorem dX6_nextOf_48 : decode cX6_nextOf 48 = .ok (.iadd, 1) := by decide +kernel
theorem dX6_nextOf_49 : decode cX6_nextOf 49 = .ok (.iaload, 1) := by decide +kernel
theorem dX6_nextOf_50 : decode cX6_nextOf 50 = .ok (.ifCond .ne 8, 3) := by decide +kernel
theorem dX6_nextOf_53 : decode cX6_nextOf 53 = .ok (.iload 6, 2) := by decide +kernel
theorem dX6_nextOf_55 : decode cX6_nextOf 55 = .ok (.goto 5, 3) := by decide +kernel
theorem dX6_nextOf_58 : decode cX6_nextOf 58 = .ok (.iload 4, 2) := by decide +kernel
theorem dX6_nextOf_60 : decode cX6_nextOf 60 = .ok (.istore 4, 2) := by decide +kernel
theorem dX6_nextOf_62 : decode cX6_nextOf 62 = .ok (.iinc 5 (-1), 3) := by decide +kernel
theorem dX6_nextOf_65 : decode cX6_nextOf 65 = .ok (.goto (-41), 3) := by decide +kernel
theorem dX6_nextOf_68 : decode cX6_nextOf 68 = .ok (.aload_n 0, 1) := by decide +kernel
theorem dX6_nextOf_69 : decode cX6_nextOf 69 = .ok (.getfield 7, 3) := by decide +kernel
theorem dX6_nextOf_72 : decode cX6_nextOf 72 = .ok (.iload_n 1, 1) := by decide +kernel
theorem dX6_nextOf_73 : decode cX6_nextOf 73 = .ok (.iconst 2, 1) := by decide +kernel
theorem dX6_nextOf_74 : decode cX6_nextOf 74 = .ok (.iadd, 1) := by decide +kernel
theorem dX6_nextOf_75 : decode cX6_nextOf 75 = .ok (.iload 4, 2) := by decide +kernel
theorem dX6_nextOf_77 : decode cX6_nextOf 77 = .ok (.iastore, 1) := by decide +kernel
theorem dX6_nextOf_78 : decode cX6_nextOf 78 = .ok (.return_, 1) := by decide +kernel
set_option maxRecDepth 20000 in
theorem ggX6_comesNow_X6_comesTo : GoodIn wsX6_comesNow wsX6_comesTo := goodIn_r _ [5, 6, 7, 4, 8, 9, 10, 11] (by decide +kernel) (by decide +kernel)
set_option maxRecDepth 20000 in
theorem gX6_comesNow_X6_comesTo : GoodIn wsX6_comesNow (va_wsS RX6 65 yX6_comesTo wsX6_comesTo) := goodIn_app (goodIn_of _ (by decide +kernel)) ggX6_comesNow_X6_comesTo
theorem dX6_comesNow_0 : decode cX6_comesNow 0 = .ok (.aload_n 0, 1) := by decide +kernel
theorem dX6_comesNow_1 : decode cX6_comesNow 1 = .ok (.getfield 7, 3) := by decide +kernel
theorem dX6_comesNow_4 : decode cX6_comesNow 4 = .ok (.iload_n 1, 1) := by decide +kernel
theorem dX6_comesNow_5 : decode cX6_comesNow 5 = .ok (.iconst 1, 1) := by decide +kernel
theorem dX6_comesNow_6 : decode cX6_comesNow 6 = .ok (.iadd, 1) := by decide +kernel
theorem dX6_comesNow_7 : decode cX6_comesNow 7 = .ok (.iaload, 1) := by decide +kernel
theorem dX6_comesNow_8 : decode cX6_comesNow 8 = .ok (.iload_n 2, 1) := by decide +kernel
theorem dX6_comesNow_9 : decode cX6_comesNow 9 = .ok (.aload_n 0, 1) := by decide +kernel
theorem dX6_comesNow_10 : decode cX6_comesNow 10 = .ok (.getfield 7, 3) := by decide +kernel
theorem dX6_comesNow_13 : decode cX6_comesNow 13 = .ok (.iload_n 1, 1) := by decide +kernel
theorem dX6_comesNow_14 : decode cX6_comesNow 14 = .ok (.iconst 4, 1) := by decide +kernel
theorem dX6_comesNow_15 : decode cX6_comesNow 15 = .ok (.iadd, 1) := by decide +kernel
theorem dX6_comesNow_16 : decode cX6_comesNow 16 = .ok (.iaload, 1) := by decide +kernel
theorem dX6_comesNow_17 : decode cX6_comesNow 17 = .ok (.iconst 1, 1) := by decide +kernel
theorem dX6_comesNow_18 : decode cX6_comesNow 18 = .ok (.iadd, 1) := by decide +kernel
theorem dX6_comesNow_19 : decode cX6_comesNow 19 = .ok (.invokestatic 65, 3) := by decide +kernel
theorem dX6_comesNow_22 : decode cX6_comesNow 22 = .ok (.ireturn, 1) := by decide +kernel
set_option maxRecDepth 20000 in
theorem ggX6_runsNow_X6_runsBy : GoodIn wsX6_runsNow wsX6_runsBy := goodIn_r _ [5, 6, 7, 4, 8, 9, 10, 11] (by decide +kernel) (by decide +kernel)
set_option maxRecDepth 20000 in
theorem gX6_runsNow_X6_runsBy : GoodIn wsX6_runsNow (va_wsS RX6 69 yX6_runsBy wsX6_runsBy) := goodIn_app (goodIn_of _ (by decide +kernel)) ggX6_runsNow_X6_runsBy
theorem dX6_runsNow_0 : decode cX6_runsNow 0 = .ok (.aload_n 0, 1) := by decide +kernel
theorem dX6_runsNow_1 : decode cX6_runsNow 1 = .ok (.getfield 7, 3) := by decide +kernel
theorem dX6_runsNow_4 : decode cX6_runsNow 4 = .ok (.iload_n 1, 1) := by decide +kernel
theorem dX6_runsNow_5 : decode cX6_runsNow 5 = .ok (.iconst 2, 1) := by decide +kernel
theorem dX6_runsNow_6 : decode cX6_runsNow 6 = .ok (.iadd, 1) := by decide +kernel
theorem dX6_runsNow_7 : decode cX6_runsNow 7 = .ok (.iaload, 1) := by decide +kernel
theorem dX6_runsNow_8 : decode cX6_runsNow 8 = .ok (.istore_n 3, 1) := by decide +kernel
theorem dX6_runsNow_9 : decode cX6_runsNow 9 = .ok (.aload_n 0, 1) := by decide +kernel
theorem dX6_runsNow_10 : decode cX6_runsNow 10 = .ok (.getfield 7, 3) := by decide +kernel
theorem dX6_runsNow_13 : decode cX6_runsNow 13 = .ok (.iload_n 1, 1) := by decide +kernel
theorem dX6_runsNow_14 : decode cX6_runsNow 14 = .ok (.iconst 5, 1) := by decide +kernel
theorem dX6_runsNow_15 : decode cX6_runsNow 15 = .ok (.iadd, 1) := by decide +kernel
theorem dX6_runsNow_16 : decode cX6_runsNow 16 = .ok (.iload_n 3, 1) := by decide +kernel
theorem dX6_runsNow_17 : decode cX6_runsNow 17 = .ok (.iadd, 1) := by decide +kernel
theorem dX6_runsNow_18 : decode cX6_runsNow 18 = .ok (.iaload, 1) := by decide +kernel
theorem dX6_runsNow_19 : decode cX6_runsNow 19 = .ok (.aload_n 0, 1) := by decide +kernel
theorem dX6_runsNow_20 : decode cX6_runsNow 20 = .ok (.getfield 7, 3) := by decide +kernel
theorem dX6_runsNow_23 : decode cX6_runsNow 23 = .ok (.iload_n 1, 1) := by decide +kernel
theorem dX6_runsNow_24 : decode cX6_runsNow 24 = .ok (.bipush 11, 2) := by decide +kernel
theorem dX6_runsNow_26 : decode cX6_runsNow 26 = .ok (.iadd, 1) := by decide +kernel
theorem dX6_runsNow_27 : decode cX6_runsNow 27 = .ok (.iload_n 3, 1) := by decide +kernel
theorem dX6_runsNow_28 : decode cX6_runsNow 28 = .ok (.iadd, 1) := by decide +kernel
theorem dX6_runsNow_29 : decode cX6_runsNow 29 = .ok (.iaload, 1) := by decide +kernel
theorem dX6_runsNow_30 : decode cX6_runsNow 30 = .ok (.iload_n 2, 1) := by decide +kernel
theorem dX6_runsNow_31 : decode cX6_runsNow 31 = .ok (.invokestatic 69, 3) := by decide +kernel
theorem dX6_runsNow_34 : decode cX6_runsNow 34 = .ok (.ireturn, 1) := by decide +kernel
set_option maxRecDepth 20000 in
theorem ggX6_bats_X6_comesNow : GoodIn wsX6_bats wsX6_comesNow := goodIn_r _ [7, 1, 8, 9, 6, 10, 11, 12, 13, 14, 15, 16, 37, 38, 39, 40, 41, 42, 43, 44, 45, 46, 47, 48, 49, 50] (by decide +kernel) (by decide +kernel)
set_option maxRecDepth 20000 in
theorem gX6_bats_X6_comesNow : GoodIn wsX6_bats (wsV RX6 72 RX6 yX6_comesNow wsX6_comesNow) := goodIn_app (goodIn_of _ (by decide +kernel)) ggX6_bats_X6_comesNow
set_option maxRecDepth 20000 in
theorem ggX6_bats_X6_runsNow : GoodIn wsX6_bats wsX6_runsNow := goodIn_r _ [20, 1, 21, 22, 6, 23, 24, 25, 26, 27, 28, 29, 37, 38, 39, 40, 41, 42, 43, 44, 45, 46, 47, 48, 49, 50] (by decide +kernel) (by decide +kernel)
set_option maxRecDepth 20000 in
theorem gX6_bats_X6_runsNow : GoodIn wsX6_bats (wsV RX6 75 RX6 yX6_runsNow wsX6_runsNow) := goodIn_app (goodIn_of _ (by decide +kernel)) ggX6_bats_X6_runsNow
set_option maxRecDepth 20000 in
theorem ggX6_bats_X6_in : GoodIn wsX6_bats wsX6_in := goodIn_r _ [32] (by decide +kernel) (by decide +kernel)
set_option maxRecDepth 20000 in
theorem gX6_bats_X6_in : GoodIn wsX6_bats (va_wsS RX6 47 yX6_in wsX6_in) := goodIn_app (goodIn_of _ (by decide +kernel)) ggX6_bats_X6_in
set_option maxRecDepth 20000 in
theorem ggX6_bats_X6_nextOf : GoodIn wsX6_bats wsX6_nextOf := goodIn_r _ [36, 1, 37, 38, 39, 40, 41, 42, 43, 44, 45, 46, 47, 48, 49, 50] (by decide +kernel) (by decide +kernel)
set_option maxRecDepth 20000 in
theorem gX6_bats_X6_nextOf : GoodIn wsX6_bats (wsV RX6 80 RX6 yX6_nextOf wsX6_nextOf) := goodIn_app (goodIn_of _ (by decide +kernel)) ggX6_bats_X6_nextOf
theorem dX6_bats_0 : decode cX6_bats 0 = .ok (.aload_n 0, 1) := by decide +kernel
theorem dX6_bats_1 : decode cX6_bats 1 = .ok (.iload_n 1, 1) := by decide +kernel
theorem dX6_bats_2 : decode cX6_bats 2 = .ok (.iload_n 2, 1) := by decide +kernel
theorem dX6_bats_3 : decode cX6_bats 3 = .ok (.invokevirtual 72, 3) := by decide +kernel
theorem dX6_bats_6 : decode cX6_bats 6 = .ok (.istore_n 3, 1) := by decide +kernel
theorem dX6_bats_7 : decode cX6_bats 7 = .ok (.aload_n 0, 1) := by decide +kernel
theorem dX6_bats_8 : decode cX6_bats 8 = .ok (.getfield 7, 3) := by decide +kernel
theorem dX6_bats_11 : decode cX6_bats 11 = .ok (.iload_n 1, 1) := by decide +kernel
theorem dX6_bats_12 : decode cX6_bats 12 = .ok (.iconst 2, 1) := by decide +kernel
theorem dX6_bats_13 : decode cX6_bats 13 = .ok (.iadd, 1) := by decide +kernel
theorem dX6_bats_14 : decode cX6_bats 14 = .ok (.iaload, 1) := by decide +kernel
theorem dX6_bats_15 : decode cX6_bats 15 = .ok (.istore 4, 2) := by decide +kernel
theorem dX6_bats_17 : decode cX6_bats 17 = .ok (.iconst 0, 1) := by decide +kernel
theorem dX6_bats_18 : decode cX6_bats 18 = .ok (.istore 5, 2) := by decide +kernel
theorem dX6_bats_20 : decode cX6_bats 20 = .ok (.aload_n 0, 1) := by decide +kernel
theorem dX6_bats_21 : decode cX6_bats 21 = .ok (.getfield 7, 3) := by decide +kernel
theorem dX6_bats_24 : decode cX6_bats 24 = .ok (.iload_n 1, 1) := by decide +kernel
theorem dX6_bats_25 : decode cX6_bats 25 = .ok (.iconst 4, 1) := by decide +kernel
theorem dX6_bats_26 : decode cX6_bats 26 = .ok (.iadd, 1) := by decide +kernel
theorem dX6_bats_27 : decode cX6_bats 27 = .ok (.dup2, 1) := by decide +kernel
theorem dX6_bats_28 : decode cX6_bats 28 = .ok (.iaload, 1) := by decide +kernel
theorem dX6_bats_29 : decode cX6_bats 29 = .ok (.iconst 1, 1) := by decide +kernel
theorem dX6_bats_30 : decode cX6_bats 30 = .ok (.iadd, 1) := by decide +kernel
theorem dX6_bats_31 : decode cX6_bats 31 = .ok (.iastore, 1) := by decide +kernel
theorem dX6_bats_32 : decode cX6_bats 32 = .ok (.iload_n 3, 1) := by decide +kernel
theorem dX6_bats_33 : decode cX6_bats 33 = .ok (.ifCond .ne 19, 3) := by decide +kernel
theorem dX6_bats_36 : decode cX6_bats 36 = .ok (.aload_n 0, 1) := by decide +kernel
theorem dX6_bats_37 : decode cX6_bats 37 = .ok (.getfield 7, 3) := by decide +kernel
theorem dX6_bats_40 : decode cX6_bats 40 = .ok (.iload_n 1, 1) := by decide +kernel
theorem dX6_bats_41 : decode cX6_bats 41 = .ok (.bipush 17, 2) := by decide +kernel
theorem dX6_bats_43 : decode cX6_bats 43 = .ok (.iadd, 1) := by decide +kernel
theorem dX6_bats_44 : decode cX6_bats 44 = .ok (.iload 4, 2) := by decide +kernel
theorem dX6_bats_46 : decode cX6_bats 46 = .ok (.iadd, 1) := by decide +kernel
theorem dX6_bats_47 : decode cX6_bats 47 = .ok (.iconst 4, 1) := by decide +kernel
theorem dX6_bats_48 : decode cX6_bats 48 = .ok (.iastore, 1) := by decide +kernel
theorem dX6_bats_49 : decode cX6_bats 49 = .ok (.goto 135, 3) := by decide +kernel
theorem dX6_bats_52 : decode cX6_bats 52 = .ok (.aload_n 0, 1) := by decide +kernel
theorem dX6_bats_53 : decode cX6_bats 53 = .ok (.iload_n 1, 1) := by decide +kernel
theorem dX6_bats_54 : decode cX6_bats 54 = .ok (.iload_n 3, 1) := by decide +kernel
theorem dX6_bats_55 : decode cX6_bats 55 = .ok (.invokevirtual 75, 3) := by decide +kernel
theorem dX6_bats_58 : decode cX6_bats 58 = .ok (.istore 6, 2) := by decide +kernel
theorem dX6_bats_60 : decode cX6_bats 60 = .ok (.iconst 0, 1) := by decide +kernel
theorem dX6_bats_61 : decode cX6_bats 61 = .ok (.istore 7, 2) := by decide +kernel
theorem dX6_bats_63 : decode cX6_bats 63 = .ok (.iload 7, 2) := by decide +kernel
theorem dX6_bats_65 : decode cX6_bats 65 = .ok (.aload_n 0, 1) := by decide +kernel
theorem dX6_bats_66 : decode cX6_bats 66 = .ok (.getfield 7, 3) := by decide +kernel
theorem dX6_bats_69 : decode cX6_bats 69 = .ok (.iload_n 1, 1) := by decide +kernel
theorem dX6_bats_70 : decode cX6_bats 70 = .ok (.iconst 0, 1) := by decide +kernel
theorem dX6_bats_71 : decode cX6_bats 71 = .ok (.iadd, 1) := by decide +kernel
theorem dX6_bats_72 : decode cX6_bats 72 = .ok (.iaload, 1) := by decide +kernel
theorem dX6_bats_73 : decode cX6_bats 73 = .ok (.if_icmp .ge 111, 3) := by decide +kernel
theorem dX6_bats_76 : decode cX6_bats 76 = .ok (.aload_n 0, 1) := by decide +kernel
theorem dX6_bats_77 : decode cX6_bats 77 = .ok (.getfield 7, 3) := by decide +kernel
theorem dX6_bats_80 : decode cX6_bats 80 = .ok (.iload_n 1, 1) := by decide +kernel
theorem dX6_bats_81 : decode cX6_bats 81 = .ok (.bipush 17, 2) := by decide +kernel
theorem dX6_bats_83 : decode cX6_bats 83 = .ok (.iadd, 1) := by decide +kernel
theorem dX6_bats_84 : decode cX6_bats 84 = .ok (.iload 7, 2) := by decide +kernel
theorem dX6_bats_86 : decode cX6_bats 86 = .ok (.iadd, 1) := by decide +kernel
theorem dX6_bats_87 : decode cX6_bats 87 = .ok (.iaload, 1) := by decide +kernel
theorem dX6_bats_88 : decode cX6_bats 88 = .ok (.istore 8, 2) := by decide +kernel
theorem dX6_bats_90 : decode cX6_bats 90 = .ok (.iload 7, 2) := by decide +kernel
theorem dX6_bats_92 : decode cX6_bats 92 = .ok (.iload 4, 2) := by decide +kernel
theorem dX6_bats_94 : decode cX6_bats 94 = .ok (.if_icmp .eq 16, 3) := by decide +kernel
theorem dX6_bats_97 : decode cX6_bats 97 = .ok (.iload 8, 2) := by decide +kernel
theorem dX6_bats_99 : decode cX6_bats 99 = .ok (.i2l, 1) := by decide +kernel
theorem dX6_bats_100 : decode cX6_bats 100 = .ok (.lconst 1, 1) := by decide +kernel
theorem dX6_bats_101 : decode cX6_bats 101 = .ok (.ldc2_w 78, 3) := by decide +kernel
theorem dX6_bats_104 : decode cX6_bats 104 = .ok (.invokestatic 47, 3) := by decide +kernel
theorem dX6_bats_107 : decode cX6_bats 107 = .ok (.ifCond .eq 71, 3) := by decide +kernel
theorem dX6_bats_110 : decode cX6_bats 110 = .ok (.iload 8, 2) := by decide +kernel
theorem dX6_bats_112 : decode cX6_bats 112 = .ok (.iload 6, 2) := by decide +kernel
theorem dX6_bats_114 : decode cX6_bats 114 = .ok (.iadd, 1) := by decide +kernel
theorem dX6_bats_115 : decode cX6_bats 115 = .ok (.iconst 3, 1) := by decide +kernel
theorem dX6_bats_116 : decode cX6_bats 116 = .ok (.if_icmp .le 7, 3) := by decide +kernel
theorem dX6_bats_119 : decode cX6_bats 119 = .ok (.iconst 1, 1) := by decide +kernel
theorem dX6_bats_120 : decode cX6_bats 120 = .ok (.goto 4, 3) := by decide +kernel
theorem dX6_bats_123 : decode cX6_bats 123 = .ok (.iconst 0, 1) := by decide +kernel
theorem dX6_bats_124 : decode cX6_bats 124 = .ok (.istore 9, 2) := by decide +kernel
theorem dX6_bats_126 : decode cX6_bats 126 = .ok (.aload_n 0, 1) := by decide +kernel
theorem dX6_bats_127 : decode cX6_bats 127 = .ok (.getfield 7, 3) := by decide +kernel
theorem dX6_bats_130 : decode cX6_bats 130 = .ok (.iload_n 1, 1) := by decide +kernel
theorem dX6_bats_131 : decode cX6_bats 131 = .ok (.bipush 17, 2) := by decide +kernel
theorem dX6_bats_133 : decode cX6_bats 133 = .ok (.iadd, 1) := by decide +kernel
theorem dX6_bats_134 : decode cX6_bats 134 = .ok (.iload 7, 2) := by decide +kernel
theorem dX6_bats_136 : decode cX6_bats 136 = .ok (.iadd, 1) := by decide +kernel
theorem dX6_bats_137 : decode cX6_bats 137 = .ok (.iload 9, 2) := by decide +kernel
theorem dX6_bats_139 : decode cX6_bats 139 = .ok (.ifCond .eq 7, 3) := by decide +kernel
theorem dX6_bats_142 : decode cX6_bats 142 = .ok (.iconst 0, 1) := by decide +kernel
theorem dX6_bats_143 : decode cX6_bats 143 = .ok (.goto 8, 3) := by decide +kernel
theorem dX6_bats_146 : decode cX6_bats 146 = .ok (.iload 8, 2) := by decide +kernel
theorem dX6_bats_148 : decode cX6_bats 148 = .ok (.iload 6, 2) := by decide +kernel
theorem dX6_bats_150 : decode cX6_bats 150 = .ok (.iadd, 1) := by decide +kernel
theorem dX6_bats_151 : decode cX6_bats 151 = .ok (.iastore, 1) := by decide +kernel
theorem dX6_bats_152 : decode cX6_bats 152 = .ok (.iload 5, 2) := by decide +kernel
theorem dX6_bats_154 : decode cX6_bats 154 = .ok (.iload 9, 2) := by decide +kernel
theorem dX6_bats_156 : decode cX6_bats 156 = .ok (.ifCond .eq 18, 3) := by decide +kernel
theorem dX6_bats_159 : decode cX6_bats 159 = .ok (.iload 7, 2) := by decide +kernel
theorem dX6_bats_161 : decode cX6_bats 161 = .ok (.iload 4, 2) := by decide +kernel
theorem dX6_bats_163 : decode cX6_bats 163 = .ok (.if_icmp .ne 7, 3) := by decide +kernel
theorem dX6_bats_166 : decode cX6_bats 166 = .ok (.iconst 2, 1) := by decide +kernel
theorem dX6_bats_167 : decode cX6_bats 167 = .ok (.goto 8, 3) := by decide +kernel
theorem dX6_bats_170 : decode cX6_bats 170 = .ok (.iconst 1, 1) := by decide +kernel
theorem dX6_bats_171 : decode cX6_bats 171 = .ok (.goto 4, 3) := by decide +kernel
theorem dX6_bats_174 : decode cX6_bats 174 = .ok (.iconst 0, 1) := by decide +kernel
theorem dX6_bats_175 : decode cX6_bats 175 = .ok (.iadd, 1) := by decide +kernel
theorem dX6_bats_176 : decode cX6_bats 176 = .ok (.istore 5, 2) := by decide +kernel
theorem dX6_bats_178 : decode cX6_bats 178 = .ok (.iinc 7 1, 3) := by decide +kernel
theorem dX6_bats_181 : decode cX6_bats 181 = .ok (.goto (-118), 3) := by decide +kernel
theorem dX6_bats_184 : decode cX6_bats 184 = .ok (.aload_n 0, 1) := by decide +kernel
theorem dX6_bats_185 : decode cX6_bats 185 = .ok (.iload_n 1, 1) := by decide +kernel
theorem dX6_bats_186 : decode cX6_bats 186 = .ok (.invokevirtual 80, 3) := by decide +kernel
theorem dX6_bats_189 : decode cX6_bats 189 = .ok (.iload 5, 2) := by decide +kernel
theorem dX6_bats_191 : decode cX6_bats 191 = .ok (.ireturn, 1) := by decide +kernel
theorem dX6_isDone_0 : decode cX6_isDone 0 = .ok (.aload_n 0, 1) := by decide +kernel
theorem dX6_isDone_1 : decode cX6_isDone 1 = .ok (.getfield 7, 3) := by decide +kernel
theorem dX6_isDone_4 : decode cX6_isDone 4 = .ok (.iload_n 1, 1) := by decide +kernel
theorem dX6_isDone_5 : decode cX6_isDone 5 = .ok (.iconst 2, 1) := by decide +kernel
theorem dX6_isDone_6 : decode cX6_isDone 6 = .ok (.iadd, 1) := by decide +kernel
theorem dX6_isDone_7 : decode cX6_isDone 7 = .ok (.iaload, 1) := by decide +kernel
theorem dX6_isDone_8 : decode cX6_isDone 8 = .ok (.iconst (-1), 1) := by decide +kernel
theorem dX6_isDone_9 : decode cX6_isDone 9 = .ok (.if_icmp .ne 7, 3) := by decide +kernel
theorem dX6_isDone_12 : decode cX6_isDone 12 = .ok (.iconst 1, 1) := by decide +kernel
theorem dX6_isDone_13 : decode cX6_isDone 13 = .ok (.goto 4, 3) := by decide +kernel
theorem dX6_isDone_16 : decode cX6_isDone 16 = .ok (.iconst 0, 1) := by decide +kernel
theorem dX6_isDone_17 : decode cX6_isDone 17 = .ok (.ireturn, 1) := by decide +kernel
set_option maxRecDepth 20000 in
theorem ggX6_addsBatter_X6_isDone : GoodIn wsX6_addsBatter wsX6_isDone := goodIn_r _ [6, 1, 7, 8, 9, 10, 11, 12, 13, 14, 15, 16, 17, 18, 19, 20] (by decide +kernel) (by decide +kernel)
set_option maxRecDepth 20000 in
theorem gX6_addsBatter_X6_isDone : GoodIn wsX6_addsBatter (wsV RX6 83 RX6 yX6_isDone wsX6_isDone) := goodIn_app (goodIn_of _ (by decide +kernel)) ggX6_addsBatter_X6_isDone
theorem dX6_addsBatter_0 : decode cX6_addsBatter 0 = .ok (.aload_n 0, 1) := by decide +kernel
theorem dX6_addsBatter_1 : decode cX6_addsBatter 1 = .ok (.getfield 7, 3) := by decide +kernel
theorem dX6_addsBatter_4 : decode cX6_addsBatter 4 = .ok (.iload_n 1, 1) := by decide +kernel
theorem dX6_addsBatter_5 : decode cX6_addsBatter 5 = .ok (.iconst 0, 1) := by decide +kernel
theorem dX6_addsBatter_6 : decode cX6_addsBatter 6 = .ok (.iadd, 1) := by decide +kernel
theorem dX6_addsBatter_7 : decode cX6_addsBatter 7 = .ok (.iaload, 1) := by decide +kernel
theorem dX6_addsBatter_8 : decode cX6_addsBatter 8 = .ok (.istore 4, 2) := by decide +kernel
theorem dX6_addsBatter_10 : decode cX6_addsBatter 10 = .ok (.aload_n 0, 1) := by decide +kernel
theorem dX6_addsBatter_11 : decode cX6_addsBatter 11 = .ok (.getfield 7, 3) := by decide +kernel
theorem dX6_addsBatter_14 : decode cX6_addsBatter 14 = .ok (.iload_n 1, 1) := by decide +kernel
theorem dX6_addsBatter_15 : decode cX6_addsBatter 15 = .ok (.iconst 5, 1) := by decide +kernel
theorem dX6_addsBatter_16 : decode cX6_addsBatter 16 = .ok (.iadd, 1) := by decide +kernel
theorem dX6_addsBatter_17 : decode cX6_addsBatter 17 = .ok (.iload 4, 2) := by decide +kernel
theorem dX6_addsBatter_19 : decode cX6_addsBatter 19 = .ok (.iadd, 1) := by decide +kernel
theorem dX6_addsBatter_20 : decode cX6_addsBatter 20 = .ok (.iload_n 2, 1) := by decide +kernel
theorem dX6_addsBatter_21 : decode cX6_addsBatter 21 = .ok (.iastore, 1) := by decide +kernel
theorem dX6_addsBatter_22 : decode cX6_addsBatter 22 = .ok (.aload_n 0, 1) := by decide +kernel
theorem dX6_addsBatter_23 : decode cX6_addsBatter 23 = .ok (.getfield 7, 3) := by decide +kernel
theorem dX6_addsBatter_26 : decode cX6_addsBatter 26 = .ok (.iload_n 1, 1) := by decide +kernel
theorem dX6_addsBatter_27 : decode cX6_addsBatter 27 = .ok (.bipush 11, 2) := by decide +kernel
theorem dX6_addsBatter_29 : decode cX6_addsBatter 29 = .ok (.iadd, 1) := by decide +kernel
theorem dX6_addsBatter_30 : decode cX6_addsBatter 30 = .ok (.iload 4, 2) := by decide +kernel
theorem dX6_addsBatter_32 : decode cX6_addsBatter 32 = .ok (.iadd, 1) := by decide +kernel
theorem dX6_addsBatter_33 : decode cX6_addsBatter 33 = .ok (.iload_n 3, 1) := by decide +kernel
theorem dX6_addsBatter_34 : decode cX6_addsBatter 34 = .ok (.iastore, 1) := by decide +kernel
theorem dX6_addsBatter_35 : decode cX6_addsBatter 35 = .ok (.aload_n 0, 1) := by decide +kernel
theorem dX6_addsBatter_36 : decode cX6_addsBatter 36 = .ok (.getfield 7, 3) := by decide +kernel
theorem dX6_addsBatter_39 : decode cX6_addsBatter 39 = .ok (.iload_n 1, 1) := by decide +kernel
theorem dX6_addsBatter_40 : decode cX6_addsBatter 40 = .ok (.bipush 17, 2) := by decide +kernel
theorem dX6_addsBatter_42 : decode cX6_addsBatter 42 = .ok (.iadd, 1) := by decide +kernel
theorem dX6_addsBatter_43 : decode cX6_addsBatter 43 = .ok (.iload 4, 2) := by decide +kernel
theorem dX6_addsBatter_45 : decode cX6_addsBatter 45 = .ok (.iadd, 1) := by decide +kernel
theorem dX6_addsBatter_46 : decode cX6_addsBatter 46 = .ok (.iconst 0, 1) := by decide +kernel
theorem dX6_addsBatter_47 : decode cX6_addsBatter 47 = .ok (.iastore, 1) := by decide +kernel
theorem dX6_addsBatter_48 : decode cX6_addsBatter 48 = .ok (.aload_n 0, 1) := by decide +kernel
theorem dX6_addsBatter_49 : decode cX6_addsBatter 49 = .ok (.getfield 7, 3) := by decide +kernel
theorem dX6_addsBatter_52 : decode cX6_addsBatter 52 = .ok (.iload_n 1, 1) := by decide +kernel
theorem dX6_addsBatter_53 : decode cX6_addsBatter 53 = .ok (.iconst 0, 1) := by decide +kernel
theorem dX6_addsBatter_54 : decode cX6_addsBatter 54 = .ok (.iadd, 1) := by decide +kernel
theorem dX6_addsBatter_55 : decode cX6_addsBatter 55 = .ok (.dup2, 1) := by decide +kernel
theorem dX6_addsBatter_56 : decode cX6_addsBatter 56 = .ok (.iaload, 1) := by decide +kernel
theorem dX6_addsBatter_57 : decode cX6_addsBatter 57 = .ok (.iconst 1, 1) := by decide +kernel
theorem dX6_addsBatter_58 : decode cX6_addsBatter 58 = .ok (.iadd, 1) := by decide +kernel
theorem dX6_addsBatter_59 : decode cX6_addsBatter 59 = .ok (.iastore, 1) := by decide +kernel
theorem dX6_addsBatter_60 : decode cX6_addsBatter 60 = .ok (.aload_n 0, 1) := by decide +kernel
theorem dX6_addsBatter_61 : decode cX6_addsBatter 61 = .ok (.getfield 7, 3) := by decide +kernel
theorem dX6_addsBatter_64 : decode cX6_addsBatter 64 = .ok (.iload_n 1, 1) := by decide +kernel
theorem dX6_addsBatter_65 : decode cX6_addsBatter 65 = .ok (.iconst 2, 1) := by decide +kernel
theorem dX6_addsBatter_66 : decode cX6_addsBatter 66 = .ok (.iadd, 1) := by decide +kernel
theorem dX6_addsBatter_67 : decode cX6_addsBatter 67 = .ok (.aload_n 0, 1) := by decide +kernel
theorem dX6_addsBatter_68 : decode cX6_addsBatter 68 = .ok (.iload_n 1, 1) := by decide +kernel
theorem dX6_addsBatter_69 : decode cX6_addsBatter 69 = .ok (.invokevirtual 83, 3) := by decide +kernel
theorem dX6_addsBatter_72 : decode cX6_addsBatter 72 = .ok (.ifCond .eq 8, 3) := by decide +kernel
theorem dX6_addsBatter_75 : decode cX6_addsBatter 75 = .ok (.iload 4, 2) := by decide +kernel
theorem dX6_addsBatter_77 : decode cX6_addsBatter 77 = .ok (.goto 11, 3) := by decide +kernel
theorem dX6_addsBatter_80 : decode cX6_addsBatter 80 = .ok (.aload_n 0, 1) := by decide +kernel
theorem dX6_addsBatter_81 : decode cX6_addsBatter 81 = .ok (.getfield 7, 3) := by decide +kernel
theorem dX6_addsBatter_84 : decode cX6_addsBatter 84 = .ok (.iload_n 1, 1) := by decide +kernel
theorem dX6_addsBatter_85 : decode cX6_addsBatter 85 = .ok (.iconst 2, 1) := by decide +kernel
theorem dX6_addsBatter_86 : decode cX6_addsBatter 86 = .ok (.iadd, 1) := by decide +kernel
theorem dX6_addsBatter_87 : decode cX6_addsBatter 87 = .ok (.iaload, 1) := by decide +kernel
theorem dX6_addsBatter_88 : decode cX6_addsBatter 88 = .ok (.iastore, 1) := by decide +kernel
theorem dX6_addsBatter_89 : decode cX6_addsBatter 89 = .ok (.return_, 1) := by decide +kernel
theorem dX6_scores_0 : decode cX6_scores 0 = .ok (.aload_n 0, 1) := by decide +kernel
theorem dX6_scores_1 : decode cX6_scores 1 = .ok (.getfield 7, 3) := by decide +kernel
theorem dX6_scores_4 : decode cX6_scores 4 = .ok (.iload_n 1, 1) := by decide +kernel
theorem dX6_scores_5 : decode cX6_scores 5 = .ok (.iconst 3, 1) := by decide +kernel
theorem dX6_scores_6 : decode cX6_scores 6 = .ok (.iadd, 1) := by decide +kernel
theorem dX6_scores_7 : decode cX6_scores 7 = .ok (.iaload, 1) := by decide +kernel
theorem dX6_scores_8 : decode cX6_scores 8 = .ok (.istore_n 3, 1) := by decide +kernel
theorem dX6_scores_9 : decode cX6_scores 9 = .ok (.aload_n 0, 1) := by decide +kernel
theorem dX6_scores_10 : decode cX6_scores 10 = .ok (.getfield 7, 3) := by decide +kernel
theorem dX6_scores_13 : decode cX6_scores 13 = .ok (.iload_n 1, 1) := by decide +kernel
theorem dX6_scores_14 : decode cX6_scores 14 = .ok (.iconst 3, 1) := by decide +kernel
theorem dX6_scores_15 : decode cX6_scores 15 = .ok (.iadd, 1) := by decide +kernel
theorem dX6_scores_16 : decode cX6_scores 16 = .ok (.iload_n 3, 1) := by decide +kernel
theorem dX6_scores_17 : decode cX6_scores 17 = .ok (.iload_n 2, 1) := by decide +kernel
theorem dX6_scores_18 : decode cX6_scores 18 = .ok (.iadd, 1) := by decide +kernel
theorem dX6_scores_19 : decode cX6_scores 19 = .ok (.sipush 9999, 3) := by decide +kernel
theorem dX6_scores_22 : decode cX6_scores 22 = .ok (.if_icmp .le 9, 3) := by decide +kernel
theorem dX6_scores_25 : decode cX6_scores 25 = .ok (.sipush 9999, 3) := by decide +kernel
theorem dX6_scores_28 : decode cX6_scores 28 = .ok (.goto 6, 3) := by decide +kernel
theorem dX6_scores_31 : decode cX6_scores 31 = .ok (.iload_n 3, 1) := by decide +kernel
theorem dX6_scores_32 : decode cX6_scores 32 = .ok (.iload_n 2, 1) := by decide +kernel
theorem dX6_scores_33 : decode cX6_scores 33 = .ok (.iadd, 1) := by decide +kernel
theorem dX6_scores_34 : decode cX6_scores 34 = .ok (.iastore, 1) := by decide +kernel
theorem dX6_scores_35 : decode cX6_scores 35 = .ok (.aload_n 0, 1) := by decide +kernel
theorem dX6_scores_36 : decode cX6_scores 36 = .ok (.getfield 7, 3) := by decide +kernel
theorem dX6_scores_39 : decode cX6_scores 39 = .ok (.iload_n 1, 1) := by decide +kernel
theorem dX6_scores_40 : decode cX6_scores 40 = .ok (.iconst 3, 1) := by decide +kernel
theorem dX6_scores_41 : decode cX6_scores 41 = .ok (.iadd, 1) := by decide +kernel
theorem dX6_scores_42 : decode cX6_scores 42 = .ok (.iaload, 1) := by decide +kernel
theorem dX6_scores_43 : decode cX6_scores 43 = .ok (.iload_n 3, 1) := by decide +kernel
theorem dX6_scores_44 : decode cX6_scores 44 = .ok (.isub, 1) := by decide +kernel
theorem dX6_scores_45 : decode cX6_scores 45 = .ok (.ireturn, 1) := by decide +kernel
set_option maxRecDepth 20000 in
theorem ggX6_field_X6_in : GoodIn wsX6_field wsX6_in := goodIn_r _ [6] (by decide +kernel) (by decide +kernel)
set_option maxRecDepth 20000 in
theorem gX6_field_X6_in : GoodIn wsX6_field (va_wsS RX6 47 yX6_in wsX6_in) := goodIn_app (goodIn_of _ (by decide +kernel)) ggX6_field_X6_in
set_option maxRecDepth 20000 in
theorem ggX6_field_X6_bad : GoodIn wsX6_field wsX6_bad := goodIn_r _ [10, 11, 20, 21, 22, 23, 24, 25, 26, 27, 28, 29, 30, 31, 32, 33] (by decide +kernel) (by decide +kernel)
set_option maxRecDepth 20000 in
theorem gX6_field_X6_bad : GoodIn wsX6_field (wsV RX6 89 RX6 yX6_bad wsX6_bad) := goodIn_app (goodIn_of _ (by decide +kernel)) ggX6_field_X6_bad
set_option maxRecDepth 20000 in
theorem ggX6_field_X6_begins : GoodIn wsX6_field wsX6_begins := goodIn_r _ [15, 2, 16, 17, 18, 5, 19, 20, 21, 22, 23, 24, 25, 26, 27, 28, 29, 30, 31, 32, 33] (by decide +kernel) (by decide +kernel)
set_option maxRecDepth 20000 in
theorem gX6_field_X6_begins : GoodIn wsX6_field (wsV RX6 39 RX6 yX6_begins wsX6_begins) := goodIn_app (goodIn_of _ (by decide +kernel)) ggX6_field_X6_begins
theorem dX6_field_0 : decode cX6_field 0 = .ok (.iload_n 1, 1) := by decide +kernel
theorem dX6_field_1 : decode cX6_field 1 = .ok (.i2l, 1) := by decide +kernel
theorem dX6_field_2 : decode cX6_field 2 = .ok (.lconst 0, 1) := by decide +kernel
theorem dX6_field_3 : decode cX6_field 3 = .ok (.ldc2_w 87, 3) := by decide +kernel
theorem dX6_field_6 : decode cX6_field 6 = .ok (.invokestatic 47, 3) := by decide +kernel
theorem dX6_field_9 : decode cX6_field 9 = .ok (.ifCond .ne 10, 3) := by decide +kernel
theorem dX6_field_12 : decode cX6_field 12 = .ok (.aload_n 0, 1) := by decide +kernel
theorem dX6_field_13 : decode cX6_field 13 = .ok (.bipush (-2), 2) := by decide +kernel
theorem dX6_field_15 : decode cX6_field 15 = .ok (.invokevirtual 89, 3) := by decide +kernel
theorem dX6_field_18 : decode cX6_field 18 = .ok (.ireturn, 1) := by decide +kernel
theorem dX6_field_19 : decode cX6_field 19 = .ok (.aload_n 0, 1) := by decide +kernel
theorem dX6_field_20 : decode cX6_field 20 = .ok (.getfield 7, 3) := by decide +kernel
theorem dX6_field_23 : decode cX6_field 23 = .ok (.iconst 0, 1) := by decide +kernel
theorem dX6_field_24 : decode cX6_field 24 = .ok (.iaload, 1) := by decide +kernel
theorem dX6_field_25 : decode cX6_field 25 = .ok (.istore_n 2, 1) := by decide +kernel
theorem dX6_field_26 : decode cX6_field 26 = .ok (.aload_n 0, 1) := by decide +kernel
theorem dX6_field_27 : decode cX6_field 27 = .ok (.iconst 0, 1) := by decide +kernel
theorem dX6_field_28 : decode cX6_field 28 = .ok (.iload_n 1, 1) := by decide +kernel
theorem dX6_field_29 : decode cX6_field 29 = .ok (.invokevirtual 39, 3) := by decide +kernel
theorem dX6_field_32 : decode cX6_field 32 = .ok (.iload_n 2, 1) := by decide +kernel
theorem dX6_field_33 : decode cX6_field 33 = .ok (.ireturn, 1) := by decide +kernel
set_option maxRecDepth 20000 in
theorem ggX6_bowler_X6_in : GoodIn wsX6_bowler wsX6_in := goodIn_r _ [6] (by decide +kernel) (by decide +kernel)
set_option maxRecDepth 20000 in
theorem gX6_bowler_X6_in : GoodIn wsX6_bowler (va_wsS RX6 47 yX6_in wsX6_in) := goodIn_app (goodIn_of _ (by decide +kernel)) ggX6_bowler_X6_in
set_option maxRecDepth 20000 in
theorem ggX6_bowler_X6_bad : GoodIn wsX6_bowler wsX6_bad := goodIn_r _ [10, 11, 12, 13, 14, 15, 16, 17, 18, 19, 20, 21, 22, 23, 24, 25] (by decide +kernel) (by decide +kernel)
set_option maxRecDepth 20000 in
theorem gX6_bowler_X6_bad : GoodIn wsX6_bowler (wsV RX6 89 RX6 yX6_bad wsX6_bad) := goodIn_app (goodIn_of _ (by decide +kernel)) ggX6_bowler_X6_bad
theorem dX6_bowler_0 : decode cX6_bowler 0 = .ok (.iload_n 1, 1) := by decide +kernel
theorem dX6_bowler_1 : decode cX6_bowler 1 = .ok (.i2l, 1) := by decide +kernel
theorem dX6_bowler_2 : decode cX6_bowler 2 = .ok (.lconst 0, 1) := by decide +kernel
theorem dX6_bowler_3 : decode cX6_bowler 3 = .ok (.ldc2_w 87, 3) := by decide +kernel
theorem dX6_bowler_6 : decode cX6_bowler 6 = .ok (.invokestatic 47, 3) := by decide +kernel
theorem dX6_bowler_9 : decode cX6_bowler 9 = .ok (.ifCond .ne 10, 3) := by decide +kernel
theorem dX6_bowler_12 : decode cX6_bowler 12 = .ok (.aload_n 0, 1) := by decide +kernel
theorem dX6_bowler_13 : decode cX6_bowler 13 = .ok (.bipush (-2), 2) := by decide +kernel
theorem dX6_bowler_15 : decode cX6_bowler 15 = .ok (.invokevirtual 89, 3) := by decide +kernel
theorem dX6_bowler_18 : decode cX6_bowler 18 = .ok (.ireturn, 1) := by decide +kernel
theorem dX6_bowler_19 : decode cX6_bowler 19 = .ok (.aload_n 0, 1) := by decide +kernel
theorem dX6_bowler_20 : decode cX6_bowler 20 = .ok (.getfield 7, 3) := by decide +kernel
theorem dX6_bowler_23 : decode cX6_bowler 23 = .ok (.iconst 1, 1) := by decide +kernel
theorem dX6_bowler_24 : decode cX6_bowler 24 = .ok (.iaload, 1) := by decide +kernel
theorem dX6_bowler_25 : decode cX6_bowler 25 = .ok (.istore_n 2, 1) := by decide +kernel
theorem dX6_bowler_26 : decode cX6_bowler 26 = .ok (.aload_n 0, 1) := by decide +kernel
theorem dX6_bowler_27 : decode cX6_bowler 27 = .ok (.getfield 7, 3) := by decide +kernel
theorem dX6_bowler_30 : decode cX6_bowler 30 = .ok (.iconst 1, 1) := by decide +kernel
theorem dX6_bowler_31 : decode cX6_bowler 31 = .ok (.iload_n 1, 1) := by decide +kernel
theorem dX6_bowler_32 : decode cX6_bowler 32 = .ok (.iastore, 1) := by decide +kernel
theorem dX6_bowler_33 : decode cX6_bowler 33 = .ok (.aload_n 0, 1) := by decide +kernel
theorem dX6_bowler_34 : decode cX6_bowler 34 = .ok (.getfield 7, 3) := by decide +kernel
theorem dX6_bowler_37 : decode cX6_bowler 37 = .ok (.bipush 75, 2) := by decide +kernel
theorem dX6_bowler_39 : decode cX6_bowler 39 = .ok (.iconst 0, 1) := by decide +kernel
theorem dX6_bowler_40 : decode cX6_bowler 40 = .ok (.iastore, 1) := by decide +kernel
theorem dX6_bowler_41 : decode cX6_bowler 41 = .ok (.iload_n 2, 1) := by decide +kernel
theorem dX6_bowler_42 : decode cX6_bowler 42 = .ok (.ireturn, 1) := by decide +kernel
set_option maxRecDepth 20000 in
theorem ggX6_batter_X6_in : GoodIn wsX6_batter wsX6_in := goodIn_r _ [6] (by decide +kernel) (by decide +kernel)
set_option maxRecDepth 20000 in
theorem gX6_batter_X6_in : GoodIn wsX6_batter (va_wsS RX6 47 yX6_in wsX6_in) := goodIn_app (goodIn_of _ (by decide +kernel)) ggX6_batter_X6_in
set_option maxRecDepth 20000 in
theorem ggX6_batter_X6_bad : GoodIn wsX6_batter wsX6_bad := goodIn_r _ [10, 11, 24, 25, 26, 27, 28, 29, 30, 31, 32, 33, 34, 35, 36, 37] (by decide +kernel) (by decide +kernel)
set_option maxRecDepth 20000 in
theorem gX6_batter_X6_bad : GoodIn wsX6_batter (wsV RX6 89 RX6 yX6_bad wsX6_bad) := goodIn_app (goodIn_of _ (by decide +kernel)) ggX6_batter_X6_bad
set_option maxRecDepth 20000 in
theorem ggX6_batter_X6_full : GoodIn wsX6_batter wsX6_full := goodIn_r _ [15, 11, 24, 25, 26, 27, 28, 29, 30, 31, 32, 33, 34, 35, 36, 37] (by decide +kernel) (by decide +kernel)
set_option maxRecDepth 20000 in
theorem gX6_batter_X6_full : GoodIn wsX6_batter (wsV RX6 92 RX6 yX6_full wsX6_full) := goodIn_app (goodIn_of _ (by decide +kernel)) ggX6_batter_X6_full
set_option maxRecDepth 20000 in
theorem ggX6_batter_X6_addsBatter : GoodIn wsX6_batter wsX6_addsBatter := goodIn_r _ [19, 2, 20, 21, 22, 5, 23, 24, 25, 26, 27, 28, 29, 30, 31, 32, 33, 34, 35, 36, 37] (by decide +kernel) (by decide +kernel)
set_option maxRecDepth 20000 in
theorem gX6_batter_X6_addsBatter : GoodIn wsX6_batter (wsV RX6 96 RX6 yX6_addsBatter wsX6_addsBatter) := goodIn_app (goodIn_of _ (by decide +kernel)) ggX6_batter_X6_addsBatter
theorem dX6_batter_0 : decode cX6_batter 0 = .ok (.iload_n 1, 1) := by decide +kernel
theorem dX6_batter_1 : decode cX6_batter 1 = .ok (.i2l, 1) := by decide +kernel
theorem dX6_batter_2 : decode cX6_batter 2 = .ok (.lconst 0, 1) := by decide +kernel
theorem dX6_batter_3 : decode cX6_batter 3 = .ok (.ldc2_w 87, 3) := by decide +kernel
theorem dX6_batter_6 : decode cX6_batter 6 = .ok (.invokestatic 47, 3) := by decide +kernel
theorem dX6_batter_9 : decode cX6_batter 9 = .ok (.ifCond .eq 15, 3) := by decide +kernel
theorem dX6_batter_12 : decode cX6_batter 12 = .ok (.iload_n 2, 1) := by decide +kernel
theorem dX6_batter_13 : decode cX6_batter 13 = .ok (.i2l, 1) := by decide +kernel
theorem dX6_batter_14 : decode cX6_batter 14 = .ok (.lconst 1, 1) := by decide +kernel
theorem dX6_batter_15 : decode cX6_batter 15 = .ok (.ldc2_w 87, 3) := by decide +kernel
theorem dX6_batter_18 : decode cX6_batter 18 = .ok (.invokestatic 47, 3) := by decide +kernel
theorem dX6_batter_21 : decode cX6_batter 21 = .ok (.ifCond .ne 10, 3) := by decide +kernel
theorem dX6_batter_24 : decode cX6_batter 24 = .ok (.aload_n 0, 1) := by decide +kernel
theorem dX6_batter_25 : decode cX6_batter 25 = .ok (.bipush (-2), 2) := by decide +kernel
theorem dX6_batter_27 : decode cX6_batter 27 = .ok (.invokevirtual 89, 3) := by decide +kernel
theorem dX6_batter_30 : decode cX6_batter 30 = .ok (.ireturn, 1) := by decide +kernel
theorem dX6_batter_31 : decode cX6_batter 31 = .ok (.aload_n 0, 1) := by decide +kernel
theorem dX6_batter_32 : decode cX6_batter 32 = .ok (.getfield 7, 3) := by decide +kernel
theorem dX6_batter_35 : decode cX6_batter 35 = .ok (.iconst 0, 1) := by decide +kernel
theorem dX6_batter_36 : decode cX6_batter 36 = .ok (.iaload, 1) := by decide +kernel
theorem dX6_batter_37 : decode cX6_batter 37 = .ok (.bipush 6, 2) := by decide +kernel
theorem dX6_batter_39 : decode cX6_batter 39 = .ok (.if_icmp .ne 8, 3) := by decide +kernel
theorem dX6_batter_42 : decode cX6_batter 42 = .ok (.aload_n 0, 1) := by decide +kernel
theorem dX6_batter_43 : decode cX6_batter 43 = .ok (.invokevirtual 92, 3) := by decide +kernel
theorem dX6_batter_46 : decode cX6_batter 46 = .ok (.ireturn, 1) := by decide +kernel
theorem dX6_batter_47 : decode cX6_batter 47 = .ok (.aload_n 0, 1) := by decide +kernel
theorem dX6_batter_48 : decode cX6_batter 48 = .ok (.iconst 0, 1) := by decide +kernel
theorem dX6_batter_49 : decode cX6_batter 49 = .ok (.iload_n 1, 1) := by decide +kernel
theorem dX6_batter_50 : decode cX6_batter 50 = .ok (.iload_n 2, 1) := by decide +kernel
theorem dX6_batter_51 : decode cX6_batter 51 = .ok (.invokevirtual 96, 3) := by decide +kernel
theorem dX6_batter_54 : decode cX6_batter 54 = .ok (.aload_n 0, 1) := by decide +kernel
theorem dX6_batter_55 : decode cX6_batter 55 = .ok (.getfield 7, 3) := by decide +kernel
theorem dX6_batter_58 : decode cX6_batter 58 = .ok (.bipush 75, 2) := by decide +kernel
theorem dX6_batter_60 : decode cX6_batter 60 = .ok (.iconst 0, 1) := by decide +kernel
theorem dX6_batter_61 : decode cX6_batter 61 = .ok (.iastore, 1) := by decide +kernel
theorem dX6_batter_62 : decode cX6_batter 62 = .ok (.aload_n 0, 1) := by decide +kernel
theorem dX6_batter_63 : decode cX6_batter 63 = .ok (.getfield 7, 3) := by decide +kernel
theorem dX6_batter_66 : decode cX6_batter 66 = .ok (.iconst 0, 1) := by decide +kernel
theorem dX6_batter_67 : decode cX6_batter 67 = .ok (.iaload, 1) := by decide +kernel
theorem dX6_batter_68 : decode cX6_batter 68 = .ok (.iconst 1, 1) := by decide +kernel
theorem dX6_batter_69 : decode cX6_batter 69 = .ok (.isub, 1) := by decide +kernel
theorem dX6_batter_70 : decode cX6_batter 70 = .ok (.ireturn, 1) := by decide +kernel
set_option maxRecDepth 20000 in
theorem ggX6_type_X6_in : GoodIn wsX6_type wsX6_in := goodIn_r _ [7] (by decide +kernel) (by decide +kernel)
set_option maxRecDepth 20000 in
theorem gX6_type_X6_in : GoodIn wsX6_type (va_wsS RX6 47 yX6_in wsX6_in) := goodIn_app (goodIn_of _ (by decide +kernel)) ggX6_type_X6_in
set_option maxRecDepth 20000 in
theorem ggX6_type_X6_bad : GoodIn wsX6_type wsX6_bad := goodIn_r _ [11, 12, 17, 18, 19, 20, 21, 22, 23, 24, 25, 26, 27, 28, 29, 30] (by decide +kernel) (by decide +kernel)
set_option maxRecDepth 20000 in
theorem gX6_type_X6_bad : GoodIn wsX6_type (wsV RX6 89 RX6 yX6_bad wsX6_bad) := goodIn_app (goodIn_of _ (by decide +kernel)) ggX6_type_X6_bad
set_option maxRecDepth 20000 in
theorem ggX6_type_X6_full : GoodIn wsX6_type wsX6_full := goodIn_r _ [16, 12, 17, 18, 19, 20, 21, 22, 23, 24, 25, 26, 27, 28, 29, 30] (by decide +kernel) (by decide +kernel)
set_option maxRecDepth 20000 in
theorem gX6_type_X6_full : GoodIn wsX6_type (wsV RX6 92 RX6 yX6_full wsX6_full) := goodIn_app (goodIn_of _ (by decide +kernel)) ggX6_type_X6_full
theorem dX6_type_0 : decode cX6_type 0 = .ok (.iload_n 1, 1) := by decide +kernel
theorem dX6_type_1 : decode cX6_type 1 = .ok (.i2l, 1) := by decide +kernel
theorem dX6_type_2 : decode cX6_type 2 = .ok (.lconst 0, 1) := by decide +kernel
theorem dX6_type_3 : decode cX6_type 3 = .ok (.ldc2_w 100, 3) := by decide +kernel
theorem dX6_type_6 : decode cX6_type 6 = .ok (.invokestatic 47, 3) := by decide +kernel
theorem dX6_type_9 : decode cX6_type 9 = .ok (.ifCond .ne 10, 3) := by decide +kernel
theorem dX6_type_12 : decode cX6_type 12 = .ok (.aload_n 0, 1) := by decide +kernel
theorem dX6_type_13 : decode cX6_type 13 = .ok (.bipush (-2), 2) := by decide +kernel
theorem dX6_type_15 : decode cX6_type 15 = .ok (.invokevirtual 89, 3) := by decide +kernel
theorem dX6_type_18 : decode cX6_type 18 = .ok (.ireturn, 1) := by decide +kernel
theorem dX6_type_19 : decode cX6_type 19 = .ok (.aload_n 0, 1) := by decide +kernel
theorem dX6_type_20 : decode cX6_type 20 = .ok (.getfield 102, 3) := by decide +kernel
theorem dX6_type_23 : decode cX6_type 23 = .ok (.sipush 150, 3) := by decide +kernel
theorem dX6_type_26 : decode cX6_type 26 = .ok (.if_icmp .ne 8, 3) := by decide +kernel
theorem dX6_type_29 : decode cX6_type 29 = .ok (.aload_n 0, 1) := by decide +kernel
theorem dX6_type_30 : decode cX6_type 30 = .ok (.invokevirtual 92, 3) := by decide +kernel
theorem dX6_type_33 : decode cX6_type 33 = .ok (.ireturn, 1) := by decide +kernel
theorem dX6_type_34 : decode cX6_type 34 = .ok (.aload_n 0, 1) := by decide +kernel
theorem dX6_type_35 : decode cX6_type 35 = .ok (.getfield 17, 3) := by decide +kernel
theorem dX6_type_38 : decode cX6_type 38 = .ok (.aload_n 0, 1) := by decide +kernel
theorem dX6_type_39 : decode cX6_type 39 = .ok (.getfield 102, 3) := by decide +kernel
theorem dX6_type_42 : decode cX6_type 42 = .ok (.iload_n 1, 1) := by decide +kernel
theorem dX6_type_43 : decode cX6_type 43 = .ok (.iastore, 1) := by decide +kernel
theorem dX6_type_44 : decode cX6_type 44 = .ok (.aload_n 0, 1) := by decide +kernel
theorem dX6_type_45 : decode cX6_type 45 = .ok (.dup, 1) := by decide +kernel
theorem dX6_type_46 : decode cX6_type 46 = .ok (.getfield 102, 3) := by decide +kernel
theorem dX6_type_49 : decode cX6_type 49 = .ok (.iconst 1, 1) := by decide +kernel
theorem dX6_type_50 : decode cX6_type 50 = .ok (.iadd, 1) := by decide +kernel
theorem dX6_type_51 : decode cX6_type 51 = .ok (.putfield 102, 3) := by decide +kernel
theorem dX6_type_54 : decode cX6_type 54 = .ok (.aload_n 0, 1) := by decide +kernel
theorem dX6_type_55 : decode cX6_type 55 = .ok (.getfield 102, 3) := by decide +kernel
theorem dX6_type_58 : decode cX6_type 58 = .ok (.ireturn, 1) := by decide +kernel
theorem dX6_clear_0 : decode cX6_clear 0 = .ok (.aload_n 0, 1) := by decide +kernel
theorem dX6_clear_1 : decode cX6_clear 1 = .ok (.getfield 102, 3) := by decide +kernel
theorem dX6_clear_4 : decode cX6_clear 4 = .ok (.istore_n 1, 1) := by decide +kernel
theorem dX6_clear_5 : decode cX6_clear 5 = .ok (.aload_n 0, 1) := by decide +kernel
theorem dX6_clear_6 : decode cX6_clear 6 = .ok (.iconst 0, 1) := by decide +kernel
theorem dX6_clear_7 : decode cX6_clear 7 = .ok (.putfield 102, 3) := by decide +kernel
theorem dX6_clear_10 : decode cX6_clear 10 = .ok (.iload_n 1, 1) := by decide +kernel
theorem dX6_clear_11 : decode cX6_clear 11 = .ok (.ireturn, 1) := by decide +kernel
theorem dX6_byteAt_0 : decode cX6_byteAt 0 = .ok (.iload_n 1, 1) := by decide +kernel
theorem dX6_byteAt_1 : decode cX6_byteAt 1 = .ok (.aload_n 0, 1) := by decide +kernel
theorem dX6_byteAt_2 : decode cX6_byteAt 2 = .ok (.getfield 102, 3) := by decide +kernel
theorem dX6_byteAt_5 : decode cX6_byteAt 5 = .ok (.if_icmp .ge 12, 3) := by decide +kernel
theorem dX6_byteAt_8 : decode cX6_byteAt 8 = .ok (.aload_n 0, 1) := by decide +kernel
theorem dX6_byteAt_9 : decode cX6_byteAt 9 = .ok (.getfield 17, 3) := by decide +kernel
theorem dX6_byteAt_12 : decode cX6_byteAt 12 = .ok (.iload_n 1, 1) := by decide +kernel
theorem dX6_byteAt_13 : decode cX6_byteAt 13 = .ok (.iaload, 1) := by decide +kernel
theorem dX6_byteAt_14 : decode cX6_byteAt 14 = .ok (.goto 4, 3) := by decide +kernel
theorem dX6_byteAt_17 : decode cX6_byteAt 17 = .ok (.iconst (-1), 1) := by decide +kernel
theorem dX6_byteAt_18 : decode cX6_byteAt 18 = .ok (.ireturn, 1) := by decide +kernel
set_option maxRecDepth 20000 in
theorem ggX6_blanks_X6_byteAt : GoodIn wsX6_blanks wsX6_byteAt := goodIn_r _ [7, 8, 9, 10, 11, 12, 13, 14, 15, 16, 17, 18, 19, 20, 21, 22, 23] (by decide +kernel) (by decide +kernel)
set_option maxRecDepth 20000 in
theorem gX6_blanks_X6_byteAt : GoodIn wsX6_blanks (wsV RX6 109 RX6 yX6_byteAt wsX6_byteAt) := goodIn_app (goodIn_of _ (by decide +kernel)) ggX6_blanks_X6_byteAt
theorem dX6_blanks_0 : decode cX6_blanks 0 = .ok (.aload_n 0, 1) := by decide +kernel
theorem dX6_blanks_1 : decode cX6_blanks 1 = .ok (.aload_n 0, 1) := by decide +kernel
theorem dX6_blanks_2 : decode cX6_blanks 2 = .ok (.getfield 106, 3) := by decide +kernel
theorem dX6_blanks_5 : decode cX6_blanks 5 = .ok (.invokevirtual 109, 3) := by decide +kernel
theorem dX6_blanks_8 : decode cX6_blanks 8 = .ok (.bipush 32, 2) := by decide +kernel
theorem dX6_blanks_10 : decode cX6_blanks 10 = .ok (.if_icmp .ne 16, 3) := by decide +kernel
theorem dX6_blanks_13 : decode cX6_blanks 13 = .ok (.aload_n 0, 1) := by decide +kernel
theorem dX6_blanks_14 : decode cX6_blanks 14 = .ok (.dup, 1) := by decide +kernel
theorem dX6_blanks_15 : decode cX6_blanks 15 = .ok (.getfield 106, 3) := by decide +kernel
theorem dX6_blanks_18 : decode cX6_blanks 18 = .ok (.iconst 1, 1) := by decide +kernel
theorem dX6_blanks_19 : decode cX6_blanks 19 = .ok (.iadd, 1) := by decide +kernel
theorem dX6_blanks_20 : decode cX6_blanks 20 = .ok (.putfield 106, 3) := by decide +kernel
theorem dX6_blanks_23 : decode cX6_blanks 23 = .ok (.goto (-23), 3) := by decide +kernel
theorem dX6_blanks_26 : decode cX6_blanks 26 = .ok (.aload_n 0, 1) := by decide +kernel
theorem dX6_blanks_27 : decode cX6_blanks 27 = .ok (.aload_n 0, 1) := by decide +kernel
theorem dX6_blanks_28 : decode cX6_blanks 28 = .ok (.getfield 106, 3) := by decide +kernel
theorem dX6_blanks_31 : decode cX6_blanks 31 = .ok (.putfield 112, 3) := by decide +kernel
theorem dX6_blanks_34 : decode cX6_blanks 34 = .ok (.return_, 1) := by decide +kernel
set_option maxRecDepth 20000 in
theorem ggX6_takesWord_X6_blanks : GoodIn wsX6_takesWord wsX6_blanks := goodIn_r _ [8, 1, 9, 10, 11, 12, 7, 13, 14, 15, 19, 20, 21, 22, 23, 24, 25, 26, 27, 28, 29, 30, 31, 32] (by decide +kernel) (by decide +kernel)
set_option maxRecDepth 20000 in
theorem gX6_takesWord_X6_blanks : GoodIn wsX6_takesWord (wsV RX6 115 RX6 yX6_blanks wsX6_blanks) := goodIn_app (goodIn_of _ (by decide +kernel)) ggX6_takesWord_X6_blanks
set_option maxRecDepth 20000 in
theorem ggX6_takesWord_X6_byteAt : GoodIn wsX6_takesWord wsX6_byteAt := goodIn_r _ [13, 14, 15, 19, 20, 21, 22, 23, 24, 25, 26, 27, 28, 29, 30, 31, 32] (by decide +kernel) (by decide +kernel)
set_option maxRecDepth 20000 in
theorem gX6_takesWord_X6_byteAt : GoodIn wsX6_takesWord (wsV RX6 109 RX6 yX6_byteAt wsX6_byteAt) := goodIn_app (goodIn_of _ (by decide +kernel)) ggX6_takesWord_X6_byteAt
set_option maxRecDepth 20000 in
theorem ggX6_takesWord_X6_in : GoodIn wsX6_takesWord wsX6_in := goodIn_r _ [18] (by decide +kernel) (by decide +kernel)
set_option maxRecDepth 20000 in
theorem gX6_takesWord_X6_in : GoodIn wsX6_takesWord (va_wsS RX6 47 yX6_in wsX6_in) := goodIn_app (goodIn_of _ (by decide +kernel)) ggX6_takesWord_X6_in
theorem dX6_takesWord_0 : decode cX6_takesWord 0 = .ok (.aload_n 0, 1) := by decide +kernel
theorem dX6_takesWord_1 : decode cX6_takesWord 1 = .ok (.invokevirtual 115, 3) := by decide +kernel
theorem dX6_takesWord_4 : decode cX6_takesWord 4 = .ok (.aload_n 0, 1) := by decide +kernel
theorem dX6_takesWord_5 : decode cX6_takesWord 5 = .ok (.aload_n 0, 1) := by decide +kernel
theorem dX6_takesWord_6 : decode cX6_takesWord 6 = .ok (.getfield 106, 3) := by decide +kernel
theorem dX6_takesWord_9 : decode cX6_takesWord 9 = .ok (.invokevirtual 109, 3) := by decide +kernel
theorem dX6_takesWord_12 : decode cX6_takesWord 12 = .ok (.i2l, 1) := by decide +kernel
theorem dX6_takesWord_13 : decode cX6_takesWord 13 = .ok (.ldc2_w 118, 3) := by decide +kernel
theorem dX6_takesWord_16 : decode cX6_takesWord 16 = .ok (.ldc2_w 120, 3) := by decide +kernel
theorem dX6_takesWord_19 : decode cX6_takesWord 19 = .ok (.invokestatic 47, 3) := by decide +kernel
theorem dX6_takesWord_22 : decode cX6_takesWord 22 = .ok (.ifCond .eq 16, 3) := by decide +kernel
theorem dX6_takesWord_25 : decode cX6_takesWord 25 = .ok (.aload_n 0, 1) := by decide +kernel
theorem dX6_takesWord_26 : decode cX6_takesWord 26 = .ok (.dup, 1) := by decide +kernel
theorem dX6_takesWord_27 : decode cX6_takesWord 27 = .ok (.getfield 106, 3) := by decide +kernel
theorem dX6_takesWord_30 : decode cX6_takesWord 30 = .ok (.iconst 1, 1) := by decide +kernel
theorem dX6_takesWord_31 : decode cX6_takesWord 31 = .ok (.iadd, 1) := by decide +kernel
theorem dX6_takesWord_32 : decode cX6_takesWord 32 = .ok (.putfield 106, 3) := by decide +kernel
theorem dX6_takesWord_35 : decode cX6_takesWord 35 = .ok (.goto (-31), 3) := by decide +kernel
theorem dX6_takesWord_38 : decode cX6_takesWord 38 = .ok (.return_, 1) := by decide +kernel
set_option maxRecDepth 20000 in
theorem ggX6_isWord_X6_isLetter : GoodIn wsX6_isWord wsX6_isLetter := goodIn_r _ [7, 8, 2, 9, 10, 11, 12, 13, 14, 15, 16, 17, 18, 19, 20, 21, 22] (by decide +kernel) (by decide +kernel)
set_option maxRecDepth 20000 in
theorem gX6_isWord_X6_isLetter : GoodIn wsX6_isWord (wsV RX6 122 RX6 yX6_isLetter wsX6_isLetter) := goodIn_app (goodIn_of _ (by decide +kernel)) ggX6_isWord_X6_isLetter
theorem dX6_isWord_0 : decode cX6_isWord 0 = .ok (.aload_n 0, 1) := by decide +kernel
theorem dX6_isWord_1 : decode cX6_isWord 1 = .ok (.getfield 106, 3) := by decide +kernel
theorem dX6_isWord_4 : decode cX6_isWord 4 = .ok (.aload_n 0, 1) := by decide +kernel
theorem dX6_isWord_5 : decode cX6_isWord 5 = .ok (.getfield 112, 3) := by decide +kernel
theorem dX6_isWord_8 : decode cX6_isWord 8 = .ok (.isub, 1) := by decide +kernel
theorem dX6_isWord_9 : decode cX6_isWord 9 = .ok (.istore 7, 2) := by decide +kernel
theorem dX6_isWord_11 : decode cX6_isWord 11 = .ok (.aload_n 0, 1) := by decide +kernel
theorem dX6_isWord_12 : decode cX6_isWord 12 = .ok (.iconst 0, 1) := by decide +kernel
theorem dX6_isWord_13 : decode cX6_isWord 13 = .ok (.iload_n 1, 1) := by decide +kernel
theorem dX6_isWord_14 : decode cX6_isWord 14 = .ok (.iload 7, 2) := by decide +kernel
theorem dX6_isWord_16 : decode cX6_isWord 16 = .ok (.invokevirtual 122, 3) := by decide +kernel
theorem dX6_isWord_19 : decode cX6_isWord 19 = .ok (.ifCond .eq 72, 3) := by decide +kernel
theorem dX6_isWord_22 : decode cX6_isWord 22 = .ok (.aload_n 0, 1) := by decide +kernel
theorem dX6_isWord_23 : decode cX6_isWord 23 = .ok (.iconst 1, 1) := by decide +kernel
theorem dX6_isWord_24 : decode cX6_isWord 24 = .ok (.iload_n 2, 1) := by decide +kernel
theorem dX6_isWord_25 : decode cX6_isWord 25 = .ok (.iload 7, 2) := by decide +kernel
theorem dX6_isWord_27 : decode cX6_isWord 27 = .ok (.invokevirtual 122, 3) := by decide +kernel
theorem dX6_isWord_30 : decode cX6_isWord 30 = .ok (.ifCond .eq 61, 3) := by decide +kernel
theorem dX6_isWord_33 : decode cX6_isWord 33 = .ok (.aload_n 0, 1) := by decide +kernel
theorem dX6_isWord_34 : decode cX6_isWord 34 = .ok (.iconst 2, 1) := by decide +kernel
theorem dX6_isWord_35 : decode cX6_isWord 35 = .ok (.iload_n 3, 1) := by decide +kernel
theorem dX6_isWord_36 : decode cX6_isWord 36 = .ok (.iload 7, 2) := by decide +kernel
theorem dX6_isWord_38 : decode cX6_isWord 38 = .ok (.invokevirtual 122, 3) := by decide +kernel
theorem dX6_isWord_41 : decode cX6_isWord 41 = .ok (.ifCond .eq 50, 3) := by decide +kernel
theorem dX6_isWord_44 : decode cX6_isWord 44 = .ok (.aload_n 0, 1) := by decide +kernel
theorem dX6_isWord_45 : decode cX6_isWord 45 = .ok (.iconst 3, 1) := by decide +kernel
theorem dX6_isWord_46 : decode cX6_isWord 46 = .ok (.iload 4, 2) := by decide +kernel
theorem dX6_isWord_48 : decode cX6_isWord 48 = .ok (.iload 7, 2) := by decide +kernel
theorem dX6_isWord_50 : decode cX6_isWord 50 = .ok (.invokevirtual 122, 3) := by decide +kernel
theorem dX6_isWord_53 : decode cX6_isWord 53 = .ok (.ifCond .eq 38, 3) := by decide +kernel
theorem dX6_isWord_56 : decode cX6_isWord 56 = .ok (.aload_n 0, 1) := by decide +kernel
theorem dX6_isWord_57 : decode cX6_isWord 57 = .ok (.iconst 4, 1) := by decide +kernel
theorem dX6_isWord_58 : decode cX6_isWord 58 = .ok (.iload 5, 2) := by decide +kernel
theorem dX6_isWord_60 : decode cX6_isWord 60 = .ok (.iload 7, 2) := by decide +kernel
theorem dX6_isWord_62 : decode cX6_isWord 62 = .ok (.invokevirtual 122, 3) := by decide +kernel
theorem dX6_isWord_65 : decode cX6_isWord 65 = .ok (.ifCond .eq 26, 3) := by decide +kernel
theorem dX6_isWord_68 : decode cX6_isWord 68 = .ok (.aload_n 0, 1) := by decide +kernel
theorem dX6_isWord_69 : decode cX6_isWord 69 = .ok (.iconst 5, 1) := by decide +kernel
theorem dX6_isWord_70 : decode cX6_isWord 70 = .ok (.iload 6, 2) := by decide +kernel
theorem dX6_isWord_72 : decode cX6_isWord 72 = .ok (.iload 7, 2) := by decide +kernel
theorem dX6_isWord_74 : decode cX6_isWord 74 = .ok (.invokevirtual 122, 3) := by decide +kernel
theorem dX6_isWord_77 : decode cX6_isWord 77 = .ok (.ifCond .eq 14, 3) := by decide +kernel
theorem dX6_isWord_80 : decode cX6_isWord 80 = .ok (.iload 7, 2) := by decide +kernel
theorem dX6_isWord_82 : decode cX6_isWord 82 = .ok (.bipush 7, 2) := by decide +kernel
theorem dX6_isWord_84 : decode cX6_isWord 84 = .ok (.if_icmp .ge 7, 3) := by decide +kernel
theorem dX6_isWord_87 : decode cX6_isWord 87 = .ok (.iconst 1, 1) := by decide +kernel
theorem dX6_isWord_88 : decode cX6_isWord 88 = .ok (.goto 4, 3) := by decide +kernel
theorem dX6_isWord_91 : decode cX6_isWord 91 = .ok (.iconst 0, 1) := by decide +kernel
theorem dX6_isWord_92 : decode cX6_isWord 92 = .ok (.ireturn, 1) := by decide +kernel
theorem dX6_isLetter_0 : decode cX6_isLetter 0 = .ok (.iload_n 2, 1) := by decide +kernel
theorem dX6_isLetter_1 : decode cX6_isLetter 1 = .ok (.ifCond .ne 16, 3) := by decide +kernel
theorem dX6_isLetter_4 : decode cX6_isLetter 4 = .ok (.iload_n 3, 1) := by decide +kernel
theorem dX6_isLetter_5 : decode cX6_isLetter 5 = .ok (.iload_n 1, 1) := by decide +kernel
theorem dX6_isLetter_6 : decode cX6_isLetter 6 = .ok (.if_icmp .gt 7, 3) := by decide +kernel
theorem dX6_isLetter_9 : decode cX6_isLetter 9 = .ok (.iconst 1, 1) := by decide +kernel
theorem dX6_isLetter_10 : decode cX6_isLetter 10 = .ok (.goto 32, 3) := by decide +kernel
theorem dX6_isLetter_13 : decode cX6_isLetter 13 = .ok (.iconst 0, 1) := by decide +kernel
theorem dX6_isLetter_14 : decode cX6_isLetter 14 = .ok (.goto 28, 3) := by decide +kernel
theorem dX6_isLetter_17 : decode cX6_isLetter 17 = .ok (.iload_n 3, 1) := by decide +kernel
theorem dX6_isLetter_18 : decode cX6_isLetter 18 = .ok (.iload_n 1, 1) := by decide +kernel
theorem dX6_isLetter_19 : decode cX6_isLetter 19 = .ok (.if_icmp .le 22, 3) := by decide +kernel
theorem dX6_isLetter_22 : decode cX6_isLetter 22 = .ok (.aload_n 0, 1) := by decide +kernel
theorem dX6_isLetter_23 : decode cX6_isLetter 23 = .ok (.getfield 17, 3) := by decide +kernel
theorem dX6_isLetter_26 : decode cX6_isLetter 26 = .ok (.aload_n 0, 1) := by decide +kernel
theorem dX6_isLetter_27 : decode cX6_isLetter 27 = .ok (.getfield 112, 3) := by decide +kernel
theorem dX6_isLetter_30 : decode cX6_isLetter 30 = .ok (.iload_n 1, 1) := by decide +kernel
theorem dX6_isLetter_31 : decode cX6_isLetter 31 = .ok (.iadd, 1) := by decide +kernel
theorem dX6_isLetter_32 : decode cX6_isLetter 32 = .ok (.iaload, 1) := by decide +kernel
theorem dX6_isLetter_33 : decode cX6_isLetter 33 = .ok (.iload_n 2, 1) := by decide +kernel
theorem dX6_isLetter_34 : decode cX6_isLetter 34 = .ok (.if_icmp .ne 7, 3) := by decide +kernel
theorem dX6_isLetter_37 : decode cX6_isLetter 37 = .ok (.iconst 1, 1) := by decide +kernel
theorem dX6_isLetter_38 : decode cX6_isLetter 38 = .ok (.goto 4, 3) := by decide +kernel
theorem dX6_isLetter_41 : decode cX6_isLetter 41 = .ok (.iconst 0, 1) := by decide +kernel
theorem dX6_isLetter_42 : decode cX6_isLetter 42 = .ok (.ireturn, 1) := by decide +kernel
set_option maxRecDepth 20000 in
theorem ggX6_wordOf_X6_isWord : GoodIn wsX6_wordOf wsX6_isWord := goodIn_r _ [5, 6, 7, 8, 9, 10, 4, 11, 12, 13, 14, 15, 16, 17, 18, 19, 20, 21, 22, 23, 24, 25, 26] (by decide +kernel) (by decide +kernel)
set_option maxRecDepth 20000 in
theorem gX6_wordOf_X6_isWord : GoodIn wsX6_wordOf (wsV RX6 126 RX6 yX6_isWord wsX6_isWord) := goodIn_app (goodIn_of _ (by decide +kernel)) ggX6_wordOf_X6_isWord
theorem dX6_wordOf_0 : decode cX6_wordOf 0 = .ok (.aload_n 0, 1) := by decide +kernel
theorem dX6_wordOf_1 : decode cX6_wordOf 1 = .ok (.bipush 102, 2) := by decide +kernel
theorem dX6_wordOf_3 : decode cX6_wordOf 3 = .ok (.bipush 105, 2) := by decide +kernel
theorem dX6_wordOf_5 : decode cX6_wordOf 5 = .ok (.bipush 101, 2) := by decide +kernel
theorem dX6_wordOf_7 : decode cX6_wordOf 7 = .ok (.bipush 108, 2) := by decide +kernel
theorem dX6_wordOf_9 : decode cX6_wordOf 9 = .ok (.bipush 100, 2) := by decide +kernel
theorem dX6_wordOf_11 : decode cX6_wordOf 11 = .ok (.iconst 0, 1) := by decide +kernel
theorem dX6_wordOf_12 : decode cX6_wordOf 12 = .ok (.invokevirtual 126, 3) := by decide +kernel
theorem dX6_wordOf_15 : decode cX6_wordOf 15 = .ok (.ifCond .eq 7, 3) := by decide +kernel
theorem dX6_wordOf_18 : decode cX6_wordOf 18 = .ok (.iconst 1, 1) := by decide +kernel
theorem dX6_wordOf_19 : decode cX6_wordOf 19 = .ok (.goto 48, 3) := by decide +kernel
theorem dX6_wordOf_22 : decode cX6_wordOf 22 = .ok (.aload_n 0, 1) := by decide +kernel
theorem dX6_wordOf_23 : decode cX6_wordOf 23 = .ok (.bipush 98, 2) := by decide +kernel
theorem dX6_wordOf_25 : decode cX6_wordOf 25 = .ok (.bipush 97, 2) := by decide +kernel
theorem dX6_wordOf_27 : decode cX6_wordOf 27 = .ok (.bipush 116, 2) := by decide +kernel
theorem dX6_wordOf_29 : decode cX6_wordOf 29 = .ok (.bipush 116, 2) := by decide +kernel
theorem dX6_wordOf_31 : decode cX6_wordOf 31 = .ok (.bipush 101, 2) := by decide +kernel
theorem dX6_wordOf_33 : decode cX6_wordOf 33 = .ok (.bipush 114, 2) := by decide +kernel
theorem dX6_wordOf_35 : decode cX6_wordOf 35 = .ok (.invokevirtual 126, 3) := by decide +kernel
theorem dX6_wordOf_38 : decode cX6_wordOf 38 = .ok (.ifCond .eq 7, 3) := by decide +kernel
theorem dX6_wordOf_41 : decode cX6_wordOf 41 = .ok (.iconst 2, 1) := by decide +kernel
theorem dX6_wordOf_42 : decode cX6_wordOf 42 = .ok (.goto 25, 3) := by decide +kernel
theorem dX6_wordOf_45 : decode cX6_wordOf 45 = .ok (.aload_n 0, 1) := by decide +kernel
theorem dX6_wordOf_46 : decode cX6_wordOf 46 = .ok (.bipush 98, 2) := by decide +kernel
theorem dX6_wordOf_48 : decode cX6_wordOf 48 = .ok (.bipush 97, 2) := by decide +kernel
theorem dX6_wordOf_50 : decode cX6_wordOf 50 = .ok (.bipush 108, 2) := by decide +kernel
theorem dX6_wordOf_52 : decode cX6_wordOf 52 = .ok (.bipush 108, 2) := by decide +kernel
theorem dX6_wordOf_54 : decode cX6_wordOf 54 = .ok (.iconst 0, 1) := by decide +kernel
theorem dX6_wordOf_55 : decode cX6_wordOf 55 = .ok (.iconst 0, 1) := by decide +kernel
theorem dX6_wordOf_56 : decode cX6_wordOf 56 = .ok (.invokevirtual 126, 3) := by decide +kernel
theorem dX6_wordOf_59 : decode cX6_wordOf 59 = .ok (.ifCond .eq 7, 3) := by decide +kernel
theorem dX6_wordOf_62 : decode cX6_wordOf 62 = .ok (.iconst 3, 1) := by decide +kernel
theorem dX6_wordOf_63 : decode cX6_wordOf 63 = .ok (.goto 4, 3) := by decide +kernel
theorem dX6_wordOf_66 : decode cX6_wordOf 66 = .ok (.iconst 0, 1) := by decide +kernel
theorem dX6_wordOf_67 : decode cX6_wordOf 67 = .ok (.ireturn, 1) := by decide +kernel
set_option maxRecDepth 20000 in
theorem ggX6_takesNumber_X6_blanks : GoodIn wsX6_takesNumber wsX6_blanks := goodIn_r _ [11, 2, 5, 12, 13, 14, 10, 15, 16, 17, 21, 22, 23, 24, 25, 26, 27, 28, 29, 30, 31, 32, 33, 34] (by decide +kernel) (by decide +kernel)
set_option maxRecDepth 20000 in
theorem gX6_takesNumber_X6_blanks : GoodIn wsX6_takesNumber (wsV RX6 115 RX6 yX6_blanks wsX6_blanks) := goodIn_app (goodIn_of _ (by decide +kernel)) ggX6_takesNumber_X6_blanks
set_option maxRecDepth 20000 in
theorem ggX6_takesNumber_X6_byteAt : GoodIn wsX6_takesNumber wsX6_byteAt := goodIn_r _ [15, 16, 17, 21, 22, 23, 24, 25, 26, 27, 28, 29, 30, 31, 32, 33, 34] (by decide +kernel) (by decide +kernel)
set_option maxRecDepth 20000 in
theorem gX6_takesNumber_X6_byteAt : GoodIn wsX6_takesNumber (wsV RX6 109 RX6 yX6_byteAt wsX6_byteAt) := goodIn_app (goodIn_of _ (by decide +kernel)) ggX6_takesNumber_X6_byteAt
set_option maxRecDepth 20000 in
theorem ggX6_takesNumber_X6_in : GoodIn wsX6_takesNumber wsX6_in := goodIn_r _ [20] (by decide +kernel) (by decide +kernel)
set_option maxRecDepth 20000 in
theorem gX6_takesNumber_X6_in : GoodIn wsX6_takesNumber (va_wsS RX6 47 yX6_in wsX6_in) := goodIn_app (goodIn_of _ (by decide +kernel)) ggX6_takesNumber_X6_in
theorem dX6_takesNumber_0 : decode cX6_takesNumber 0 = .ok (.aload_n 0, 1) := by decide +kernel
theorem dX6_takesNumber_1 : decode cX6_takesNumber 1 = .ok (.invokevirtual 115, 3) := by decide +kernel
theorem dX6_takesNumber_4 : decode cX6_takesNumber 4 = .ok (.aload_n 0, 1) := by decide +kernel
theorem dX6_takesNumber_5 : decode cX6_takesNumber 5 = .ok (.iconst 0, 1) := by decide +kernel
theorem dX6_takesNumber_6 : decode cX6_takesNumber 6 = .ok (.putfield 130, 3) := by decide +kernel
theorem dX6_takesNumber_9 : decode cX6_takesNumber 9 = .ok (.aload_n 0, 1) := by decide +kernel
theorem dX6_takesNumber_10 : decode cX6_takesNumber 10 = .ok (.aload_n 0, 1) := by decide +kernel
theorem dX6_takesNumber_11 : decode cX6_takesNumber 11 = .ok (.getfield 106, 3) := by decide +kernel
theorem dX6_takesNumber_14 : decode cX6_takesNumber 14 = .ok (.invokevirtual 109, 3) := by decide +kernel
theorem dX6_takesNumber_17 : decode cX6_takesNumber 17 = .ok (.i2l, 1) := by decide +kernel
theorem dX6_takesNumber_18 : decode cX6_takesNumber 18 = .ok (.ldc2_w 133, 3) := by decide +kernel
theorem dX6_takesNumber_21 : decode cX6_takesNumber 21 = .ok (.ldc2_w 135, 3) := by decide +kernel
theorem dX6_takesNumber_24 : decode cX6_takesNumber 24 = .ok (.invokestatic 47, 3) := by decide +kernel
theorem dX6_takesNumber_27 : decode cX6_takesNumber 27 = .ok (.ifCond .eq 59, 3) := by decide +kernel
theorem dX6_takesNumber_30 : decode cX6_takesNumber 30 = .ok (.aload_n 0, 1) := by decide +kernel
theorem dX6_takesNumber_31 : decode cX6_takesNumber 31 = .ok (.aload_n 0, 1) := by decide +kernel
theorem dX6_takesNumber_32 : decode cX6_takesNumber 32 = .ok (.getfield 106, 3) := by decide +kernel
theorem dX6_takesNumber_35 : decode cX6_takesNumber 35 = .ok (.aload_n 0, 1) := by decide +kernel
theorem dX6_takesNumber_36 : decode cX6_takesNumber 36 = .ok (.getfield 112, 3) := by decide +kernel
theorem dX6_takesNumber_39 : decode cX6_takesNumber 39 = .ok (.isub, 1) := by decide +kernel
theorem dX6_takesNumber_40 : decode cX6_takesNumber 40 = .ok (.iconst 2, 1) := by decide +kernel
theorem dX6_takesNumber_41 : decode cX6_takesNumber 41 = .ok (.if_icmp .ge 25, 3) := by decide +kernel
theorem dX6_takesNumber_44 : decode cX6_takesNumber 44 = .ok (.bipush 10, 2) := by decide +kernel
theorem dX6_takesNumber_46 : decode cX6_takesNumber 46 = .ok (.aload_n 0, 1) := by decide +kernel
theorem dX6_takesNumber_47 : decode cX6_takesNumber 47 = .ok (.getfield 130, 3) := by decide +kernel
theorem dX6_takesNumber_50 : decode cX6_takesNumber 50 = .ok (.imul, 1) := by decide +kernel
theorem dX6_takesNumber_51 : decode cX6_takesNumber 51 = .ok (.aload_n 0, 1) := by decide +kernel
theorem dX6_takesNumber_52 : decode cX6_takesNumber 52 = .ok (.aload_n 0, 1) := by decide +kernel
theorem dX6_takesNumber_53 : decode cX6_takesNumber 53 = .ok (.getfield 106, 3) := by decide +kernel
theorem dX6_takesNumber_56 : decode cX6_takesNumber 56 = .ok (.invokevirtual 109, 3) := by decide +kernel
theorem dX6_takesNumber_59 : decode cX6_takesNumber 59 = .ok (.iadd, 1) := by decide +kernel
theorem dX6_takesNumber_60 : decode cX6_takesNumber 60 = .ok (.bipush 48, 2) := by decide +kernel
theorem dX6_takesNumber_62 : decode cX6_takesNumber 62 = .ok (.isub, 1) := by decide +kernel
theorem dX6_takesNumber_63 : decode cX6_takesNumber 63 = .ok (.goto 7, 3) := by decide +kernel
theorem dX6_takesNumber_66 : decode cX6_takesNumber 66 = .ok (.aload_n 0, 1) := by decide +kernel
theorem dX6_takesNumber_67 : decode cX6_takesNumber 67 = .ok (.getfield 130, 3) := by decide +kernel
theorem dX6_takesNumber_70 : decode cX6_takesNumber 70 = .ok (.putfield 130, 3) := by decide +kernel
theorem dX6_takesNumber_73 : decode cX6_takesNumber 73 = .ok (.aload_n 0, 1) := by decide +kernel
theorem dX6_takesNumber_74 : decode cX6_takesNumber 74 = .ok (.dup, 1) := by decide +kernel
theorem dX6_takesNumber_75 : decode cX6_takesNumber 75 = .ok (.getfield 106, 3) := by decide +kernel
theorem dX6_takesNumber_78 : decode cX6_takesNumber 78 = .ok (.iconst 1, 1) := by decide +kernel
theorem dX6_takesNumber_79 : decode cX6_takesNumber 79 = .ok (.iadd, 1) := by decide +kernel
theorem dX6_takesNumber_80 : decode cX6_takesNumber 80 = .ok (.putfield 106, 3) := by decide +kernel
theorem dX6_takesNumber_83 : decode cX6_takesNumber 83 = .ok (.goto (-74), 3) := by decide +kernel
theorem dX6_takesNumber_86 : decode cX6_takesNumber 86 = .ok (.aload_n 0, 1) := by decide +kernel
theorem dX6_takesNumber_87 : decode cX6_takesNumber 87 = .ok (.getfield 106, 3) := by decide +kernel
theorem dX6_takesNumber_90 : decode cX6_takesNumber 90 = .ok (.aload_n 0, 1) := by decide +kernel
theorem dX6_takesNumber_91 : decode cX6_takesNumber 91 = .ok (.getfield 112, 3) := by decide +kernel
theorem dX6_takesNumber_94 : decode cX6_takesNumber 94 = .ok (.isub, 1) := by decide +kernel
theorem dX6_takesNumber_95 : decode cX6_takesNumber 95 = .ok (.i2l, 1) := by decide +kernel
theorem dX6_takesNumber_96 : decode cX6_takesNumber 96 = .ok (.lconst 1, 1) := by decide +kernel
theorem dX6_takesNumber_97 : decode cX6_takesNumber 97 = .ok (.ldc2_w 137, 3) := by decide +kernel
theorem dX6_takesNumber_100 : decode cX6_takesNumber 100 = .ok (.invokestatic 47, 3) := by decide +kernel
theorem dX6_takesNumber_103 : decode cX6_takesNumber 103 = .ok (.ifCond .eq 22, 3) := by decide +kernel
theorem dX6_takesNumber_106 : decode cX6_takesNumber 106 = .ok (.aload_n 0, 1) := by decide +kernel
theorem dX6_takesNumber_107 : decode cX6_takesNumber 107 = .ok (.getfield 130, 3) := by decide +kernel
theorem dX6_takesNumber_110 : decode cX6_takesNumber 110 = .ok (.i2l, 1) := by decide +kernel
theorem dX6_takesNumber_111 : decode cX6_takesNumber 111 = .ok (.iload_n 1, 1) := by decide +kernel
theorem dX6_takesNumber_112 : decode cX6_takesNumber 112 = .ok (.i2l, 1) := by decide +kernel
theorem dX6_takesNumber_113 : decode cX6_takesNumber 113 = .ok (.iload_n 2, 1) := by decide +kernel
theorem dX6_takesNumber_114 : decode cX6_takesNumber 114 = .ok (.i2l, 1) := by decide +kernel
theorem dX6_takesNumber_115 : decode cX6_takesNumber 115 = .ok (.invokestatic 47, 3) := by decide +kernel
theorem dX6_takesNumber_118 : decode cX6_takesNumber 118 = .ok (.ifCond .eq 7, 3) := by decide +kernel
theorem dX6_takesNumber_121 : decode cX6_takesNumber 121 = .ok (.iconst 1, 1) := by decide +kernel
theorem dX6_takesNumber_122 : decode cX6_takesNumber 122 = .ok (.goto 4, 3) := by decide +kernel
theorem dX6_takesNumber_125 : decode cX6_takesNumber 125 = .ok (.iconst 0, 1) := by decide +kernel
theorem dX6_takesNumber_126 : decode cX6_takesNumber 126 = .ok (.ireturn, 1) := by decide +kernel
set_option maxRecDepth 20000 in
theorem ggX6_takesEnd_X6_blanks : GoodIn wsX6_takesEnd wsX6_blanks := goodIn_r _ [7, 1, 2, 8, 9, 10, 6, 11, 12, 13, 14, 15, 16, 17, 18, 19, 20, 21, 22, 23, 24, 25, 26, 27] (by decide +kernel) (by decide +kernel)
set_option maxRecDepth 20000 in
theorem gX6_takesEnd_X6_blanks : GoodIn wsX6_takesEnd (wsV RX6 115 RX6 yX6_blanks wsX6_blanks) := goodIn_app (goodIn_of _ (by decide +kernel)) ggX6_takesEnd_X6_blanks
set_option maxRecDepth 20000 in
theorem ggX6_takesEnd_X6_byteAt : GoodIn wsX6_takesEnd wsX6_byteAt := goodIn_r _ [11, 12, 13, 14, 15, 16, 17, 18, 19, 20, 21, 22, 23, 24, 25, 26, 27] (by decide +kernel) (by decide +kernel)
set_option maxRecDepth 20000 in
theorem gX6_takesEnd_X6_byteAt : GoodIn wsX6_takesEnd (wsV RX6 109 RX6 yX6_byteAt wsX6_byteAt) := goodIn_app (goodIn_of _ (by decide +kernel)) ggX6_takesEnd_X6_byteAt
theorem dX6_takesEnd_0 : decode cX6_takesEnd 0 = .ok (.aload_n 0, 1) := by decide +kernel
theorem dX6_takesEnd_1 : decode cX6_takesEnd 1 = .ok (.invokevirtual 115, 3) := by decide +kernel
theorem dX6_takesEnd_4 : decode cX6_takesEnd 4 = .ok (.aload_n 0, 1) := by decide +kernel
theorem dX6_takesEnd_5 : decode cX6_takesEnd 5 = .ok (.dup, 1) := by decide +kernel
theorem dX6_takesEnd_6 : decode cX6_takesEnd 6 = .ok (.getfield 106, 3) := by decide +kernel
theorem dX6_takesEnd_9 : decode cX6_takesEnd 9 = .ok (.iconst 1, 1) := by decide +kernel
theorem dX6_takesEnd_10 : decode cX6_takesEnd 10 = .ok (.iadd, 1) := by decide +kernel
theorem dX6_takesEnd_11 : decode cX6_takesEnd 11 = .ok (.putfield 106, 3) := by decide +kernel
theorem dX6_takesEnd_14 : decode cX6_takesEnd 14 = .ok (.aload_n 0, 1) := by decide +kernel
theorem dX6_takesEnd_15 : decode cX6_takesEnd 15 = .ok (.aload_n 0, 1) := by decide +kernel
theorem dX6_takesEnd_16 : decode cX6_takesEnd 16 = .ok (.getfield 112, 3) := by decide +kernel
theorem dX6_takesEnd_19 : decode cX6_takesEnd 19 = .ok (.invokevirtual 109, 3) := by decide +kernel
theorem dX6_takesEnd_22 : decode cX6_takesEnd 22 = .ok (.bipush 59, 2) := by decide +kernel
theorem dX6_takesEnd_24 : decode cX6_takesEnd 24 = .ok (.if_icmp .ne 7, 3) := by decide +kernel
theorem dX6_takesEnd_27 : decode cX6_takesEnd 27 = .ok (.iconst 1, 1) := by decide +kernel
theorem dX6_takesEnd_28 : decode cX6_takesEnd 28 = .ok (.goto 4, 3) := by decide +kernel
theorem dX6_takesEnd_31 : decode cX6_takesEnd 31 = .ok (.iconst 0, 1) := by decide +kernel
theorem dX6_takesEnd_32 : decode cX6_takesEnd 32 = .ok (.ireturn, 1) := by decide +kernel
set_option maxRecDepth 20000 in
theorem ggX6_readsField_X6_takesNumber : GoodIn wsX6_readsField wsX6_takesNumber := goodIn_r _ [6, 1, 7, 8, 9, 10, 11, 12, 13, 14, 5, 15, 16, 17, 18, 19, 20, 21, 22, 23, 24, 34, 35, 36, 37, 38, 39, 40, 41, 42, 43, 44, 45, 46, 47] (by decide +kernel) (by decide +kernel)
set_option maxRecDepth 20000 in
theorem gX6_readsField_X6_takesNumber : GoodIn wsX6_readsField (wsV RX6 139 RX6 yX6_takesNumber wsX6_takesNumber) := goodIn_app (goodIn_of _ (by decide +kernel)) ggX6_readsField_X6_takesNumber
set_option maxRecDepth 20000 in
theorem ggX6_readsField_X6_begins : GoodIn wsX6_readsField wsX6_begins := goodIn_r _ [28, 29, 30, 31, 32, 5, 33, 34, 35, 36, 37, 38, 39, 40, 41, 42, 43, 44, 45, 46, 47] (by decide +kernel) (by decide +kernel)
set_option maxRecDepth 20000 in
theorem gX6_readsField_X6_begins : GoodIn wsX6_readsField (wsV RX6 39 RX6 yX6_begins wsX6_begins) := goodIn_app (goodIn_of _ (by decide +kernel)) ggX6_readsField_X6_begins
theorem dX6_readsField_0 : decode cX6_readsField 0 = .ok (.aload_n 0, 1) := by decide +kernel
theorem dX6_readsField_1 : decode cX6_readsField 1 = .ok (.iconst 0, 1) := by decide +kernel
theorem dX6_readsField_2 : decode cX6_readsField 2 = .ok (.iconst 5, 1) := by decide +kernel
theorem dX6_readsField_3 : decode cX6_readsField 3 = .ok (.invokevirtual 139, 3) := by decide +kernel
theorem dX6_readsField_6 : decode cX6_readsField 6 = .ok (.ifCond .ne 5, 3) := by decide +kernel
theorem dX6_readsField_9 : decode cX6_readsField 9 = .ok (.iconst 0, 1) := by decide +kernel
theorem dX6_readsField_10 : decode cX6_readsField 10 = .ok (.ireturn, 1) := by decide +kernel
theorem dX6_readsField_11 : decode cX6_readsField 11 = .ok (.aload_n 0, 1) := by decide +kernel
theorem dX6_readsField_12 : decode cX6_readsField 12 = .ok (.sipush 444, 3) := by decide +kernel
theorem dX6_readsField_15 : decode cX6_readsField 15 = .ok (.aload_n 0, 1) := by decide +kernel
theorem dX6_readsField_16 : decode cX6_readsField 16 = .ok (.getfield 130, 3) := by decide +kernel
theorem dX6_readsField_19 : decode cX6_readsField 19 = .ok (.invokevirtual 39, 3) := by decide +kernel
theorem dX6_readsField_22 : decode cX6_readsField 22 = .ok (.iconst 1, 1) := by decide +kernel
theorem dX6_readsField_23 : decode cX6_readsField 23 = .ok (.ireturn, 1) := by decide +kernel
set_option maxRecDepth 20000 in
theorem ggX6_readsBatter_X6_takesNumber : GoodIn wsX6_readsBatter wsX6_takesNumber := goodIn_r _ [7, 2, 8, 9, 10, 11, 12, 13, 14, 15, 6, 16, 17, 18, 19, 20, 21, 22, 23, 24, 25, 34, 35, 36, 37, 38, 39, 40, 41, 42, 43, 44, 45, 46, 47] (by decide +kernel) (by decide +kernel)
set_option maxRecDepth 20000 in
theorem gX6_readsBatter_X6_takesNumber : GoodIn wsX6_readsBatter (wsV RX6 139 RX6 yX6_takesNumber wsX6_takesNumber) := goodIn_app (goodIn_of _ (by decide +kernel)) ggX6_readsBatter_X6_takesNumber
set_option maxRecDepth 20000 in
theorem ggX6_readsBatter_X6_addsBatter : GoodIn wsX6_readsBatter wsX6_addsBatter := goodIn_r _ [29, 1, 30, 31, 32, 6, 33, 34, 35, 36, 37, 38, 39, 40, 41, 42, 43, 44, 45, 46, 47] (by decide +kernel) (by decide +kernel)
set_option maxRecDepth 20000 in
theorem gX6_readsBatter_X6_addsBatter : GoodIn wsX6_readsBatter (wsV RX6 96 RX6 yX6_addsBatter wsX6_addsBatter) := goodIn_app (goodIn_of _ (by decide +kernel)) ggX6_readsBatter_X6_addsBatter
theorem dX6_readsBatter_0 : decode cX6_readsBatter 0 = .ok (.aload_n 0, 1) := by decide +kernel
theorem dX6_readsBatter_1 : decode cX6_readsBatter 1 = .ok (.getfield 7, 3) := by decide +kernel
theorem dX6_readsBatter_4 : decode cX6_readsBatter 4 = .ok (.sipush 444, 3) := by decide +kernel
theorem dX6_readsBatter_7 : decode cX6_readsBatter 7 = .ok (.iaload, 1) := by decide +kernel
theorem dX6_readsBatter_8 : decode cX6_readsBatter 8 = .ok (.bipush 6, 2) := by decide +kernel
theorem dX6_readsBatter_10 : decode cX6_readsBatter 10 = .ok (.if_icmp .eq 12, 3) := by decide +kernel
theorem dX6_readsBatter_13 : decode cX6_readsBatter 13 = .ok (.aload_n 0, 1) := by decide +kernel
theorem dX6_readsBatter_14 : decode cX6_readsBatter 14 = .ok (.iconst 0, 1) := by decide +kernel
theorem dX6_readsBatter_15 : decode cX6_readsBatter 15 = .ok (.iconst 5, 1) := by decide +kernel
theorem dX6_readsBatter_16 : decode cX6_readsBatter 16 = .ok (.invokevirtual 139, 3) := by decide +kernel
theorem dX6_readsBatter_19 : decode cX6_readsBatter 19 = .ok (.ifCond .ne 5, 3) := by decide +kernel
theorem dX6_readsBatter_22 : decode cX6_readsBatter 22 = .ok (.iconst 0, 1) := by decide +kernel
theorem dX6_readsBatter_23 : decode cX6_readsBatter 23 = .ok (.ireturn, 1) := by decide +kernel
theorem dX6_readsBatter_24 : decode cX6_readsBatter 24 = .ok (.aload_n 0, 1) := by decide +kernel
theorem dX6_readsBatter_25 : decode cX6_readsBatter 25 = .ok (.getfield 130, 3) := by decide +kernel
theorem dX6_readsBatter_28 : decode cX6_readsBatter 28 = .ok (.istore_n 1, 1) := by decide +kernel
theorem dX6_readsBatter_29 : decode cX6_readsBatter 29 = .ok (.aload_n 0, 1) := by decide +kernel
theorem dX6_readsBatter_30 : decode cX6_readsBatter 30 = .ok (.iconst 1, 1) := by decide +kernel
theorem dX6_readsBatter_31 : decode cX6_readsBatter 31 = .ok (.iconst 5, 1) := by decide +kernel
theorem dX6_readsBatter_32 : decode cX6_readsBatter 32 = .ok (.invokevirtual 139, 3) := by decide +kernel
theorem dX6_readsBatter_35 : decode cX6_readsBatter 35 = .ok (.ifCond .ne 5, 3) := by decide +kernel
theorem dX6_readsBatter_38 : decode cX6_readsBatter 38 = .ok (.iconst 0, 1) := by decide +kernel
theorem dX6_readsBatter_39 : decode cX6_readsBatter 39 = .ok (.ireturn, 1) := by decide +kernel
theorem dX6_readsBatter_40 : decode cX6_readsBatter 40 = .ok (.aload_n 0, 1) := by decide +kernel
theorem dX6_readsBatter_41 : decode cX6_readsBatter 41 = .ok (.sipush 444, 3) := by decide +kernel
theorem dX6_readsBatter_44 : decode cX6_readsBatter 44 = .ok (.iload_n 1, 1) := by decide +kernel
theorem dX6_readsBatter_45 : decode cX6_readsBatter 45 = .ok (.aload_n 0, 1) := by decide +kernel
theorem dX6_readsBatter_46 : decode cX6_readsBatter 46 = .ok (.getfield 130, 3) := by decide +kernel
theorem dX6_readsBatter_49 : decode cX6_readsBatter 49 = .ok (.invokevirtual 96, 3) := by decide +kernel
theorem dX6_readsBatter_52 : decode cX6_readsBatter 52 = .ok (.iconst 1, 1) := by decide +kernel
theorem dX6_readsBatter_53 : decode cX6_readsBatter 53 = .ok (.ireturn, 1) := by decide +kernel
set_option maxRecDepth 20000 in
theorem ggX6_readsBall_X6_takesNumber : GoodIn wsX6_readsBall wsX6_takesNumber := goodIn_r _ [7, 1, 2, 8, 9, 10, 11, 12, 13, 14, 6, 15, 16, 17, 18, 19, 20, 21, 22, 23, 24, 69, 70, 71, 72, 73, 74, 75, 76, 77, 78, 79, 80, 81, 82] (by decide +kernel) (by decide +kernel)
set_option maxRecDepth 20000 in
theorem gX6_readsBall_X6_takesNumber : GoodIn wsX6_readsBall (wsV RX6 139 RX6 yX6_takesNumber wsX6_takesNumber) := goodIn_app (goodIn_of _ (by decide +kernel)) ggX6_readsBall_X6_takesNumber
set_option maxRecDepth 20000 in
theorem ggX6_readsBall_X6_isDone : GoodIn wsX6_readsBall wsX6_isDone := goodIn_r _ [28, 29, 69, 70, 71, 72, 73, 74, 75, 76, 77, 78, 79, 80, 81, 82] (by decide +kernel) (by decide +kernel)
set_option maxRecDepth 20000 in
theorem gX6_readsBall_X6_isDone : GoodIn wsX6_readsBall (wsV RX6 83 RX6 yX6_isDone wsX6_isDone) := goodIn_app (goodIn_of _ (by decide +kernel)) ggX6_readsBall_X6_isDone
set_option maxRecDepth 20000 in
theorem ggX6_readsBall_X6_bats : GoodIn wsX6_readsBall wsX6_bats := goodIn_r _ [33, 29, 34, 35, 36, 37, 6, 38, 39, 40, 41, 42, 43, 44, 45, 46, 47, 48, 49, 50, 51, 52, 53, 54, 55, 56, 57, 58, 59, 60, 22, 23, 24, 61, 62, 63, 64, 69, 70, 71, 72, 73, 74, 75, 76, 77, 78, 79, 80, 81, 82] (by decide +kernel) (by decide +kernel)
set_option maxRecDepth 20000 in
theorem gX6_readsBall_X6_bats : GoodIn wsX6_readsBall (wsV RX6 143 RX6 yX6_bats wsX6_bats) := goodIn_app (goodIn_of _ (by decide +kernel)) ggX6_readsBall_X6_bats
set_option maxRecDepth 20000 in
theorem ggX6_readsBall_X6_scores : GoodIn wsX6_readsBall wsX6_scores := goodIn_r _ [68, 29, 69, 70, 71, 72, 73, 74, 75, 76, 77, 78, 79, 80, 81, 82] (by decide +kernel) (by decide +kernel)
set_option maxRecDepth 20000 in
theorem gX6_readsBall_X6_scores : GoodIn wsX6_readsBall (wsV RX6 146 RX6 yX6_scores wsX6_scores) := goodIn_app (goodIn_of _ (by decide +kernel)) ggX6_readsBall_X6_scores
set_option maxRecDepth 20000 in
theorem ggX6_readsBall_X6_blanks : GoodIn wsX6_readsBall wsX6_blanks := goodIn_r _ [15, 2, 10, 16, 17, 18, 6, 19, 20, 21, 69, 70, 71, 72, 73, 74, 75, 76, 77, 78, 79, 80, 81, 82] (by decide +kernel) (by decide +kernel)
set_option maxRecDepth 20000 in
theorem gX6_readsBall_X6_blanks : GoodIn wsX6_readsBall (wsV RX6 115 RX6 yX6_blanks wsX6_blanks) := goodIn_app (goodIn_of _ (by decide +kernel)) ggX6_readsBall_X6_blanks
set_option maxRecDepth 20000 in
theorem ggX6_readsBall_X6_byteAt : GoodIn wsX6_readsBall wsX6_byteAt := goodIn_r _ [19, 20, 21, 69, 70, 71, 72, 73, 74, 75, 76, 77, 78, 79, 80, 81, 82] (by decide +kernel) (by decide +kernel)
set_option maxRecDepth 20000 in
theorem gX6_readsBall_X6_byteAt : GoodIn wsX6_readsBall (wsV RX6 109 RX6 yX6_byteAt wsX6_byteAt) := goodIn_app (goodIn_of _ (by decide +kernel)) ggX6_readsBall_X6_byteAt
theorem dX6_readsBall_0 : decode cX6_readsBall 0 = .ok (.iconst 0, 1) := by decide +kernel
theorem dX6_readsBall_1 : decode cX6_readsBall 1 = .ok (.istore_n 1, 1) := by decide +kernel
theorem dX6_readsBall_2 : decode cX6_readsBall 2 = .ok (.iconst 1, 1) := by decide +kernel
theorem dX6_readsBall_3 : decode cX6_readsBall 3 = .ok (.istore_n 2, 1) := by decide +kernel
theorem dX6_readsBall_4 : decode cX6_readsBall 4 = .ok (.iload_n 2, 1) := by decide +kernel
theorem dX6_readsBall_5 : decode cX6_readsBall 5 = .ok (.ifCond .eq 88, 3) := by decide +kernel
theorem dX6_readsBall_8 : decode cX6_readsBall 8 = .ok (.iload_n 1, 1) := by decide +kernel
theorem dX6_readsBall_9 : decode cX6_readsBall 9 = .ok (.bipush 9, 2) := by decide +kernel
theorem dX6_readsBall_11 : decode cX6_readsBall 11 = .ok (.if_icmp .eq 23, 3) := by decide +kernel
theorem dX6_readsBall_14 : decode cX6_readsBall 14 = .ok (.aload_n 0, 1) := by decide +kernel
theorem dX6_readsBall_15 : decode cX6_readsBall 15 = .ok (.iconst 0, 1) := by decide +kernel
theorem dX6_readsBall_16 : decode cX6_readsBall 16 = .ok (.bipush 9, 2) := by decide +kernel
theorem dX6_readsBall_18 : decode cX6_readsBall 18 = .ok (.invokevirtual 139, 3) := by decide +kernel
theorem dX6_readsBall_21 : decode cX6_readsBall 21 = .ok (.ifCond .eq 13, 3) := by decide +kernel
theorem dX6_readsBall_24 : decode cX6_readsBall 24 = .ok (.aload_n 0, 1) := by decide +kernel
theorem dX6_readsBall_25 : decode cX6_readsBall 25 = .ok (.sipush 444, 3) := by decide +kernel
theorem dX6_readsBall_28 : decode cX6_readsBall 28 = .ok (.invokevirtual 83, 3) := by decide +kernel
theorem dX6_readsBall_31 : decode cX6_readsBall 31 = .ok (.ifCond .eq 5, 3) := by decide +kernel
theorem dX6_readsBall_34 : decode cX6_readsBall 34 = .ok (.iconst 0, 1) := by decide +kernel
theorem dX6_readsBall_35 : decode cX6_readsBall 35 = .ok (.ireturn, 1) := by decide +kernel
theorem dX6_readsBall_36 : decode cX6_readsBall 36 = .ok (.aload_n 0, 1) := by decide +kernel
theorem dX6_readsBall_37 : decode cX6_readsBall 37 = .ok (.sipush 444, 3) := by decide +kernel
theorem dX6_readsBall_40 : decode cX6_readsBall 40 = .ok (.aload_n 0, 1) := by decide +kernel
theorem dX6_readsBall_41 : decode cX6_readsBall 41 = .ok (.sipush 444, 3) := by decide +kernel
theorem dX6_readsBall_44 : decode cX6_readsBall 44 = .ok (.aload_n 0, 1) := by decide +kernel
theorem dX6_readsBall_45 : decode cX6_readsBall 45 = .ok (.getfield 130, 3) := by decide +kernel
theorem dX6_readsBall_48 : decode cX6_readsBall 48 = .ok (.invokevirtual 143, 3) := by decide +kernel
theorem dX6_readsBall_51 : decode cX6_readsBall 51 = .ok (.invokevirtual 146, 3) := by decide +kernel
theorem dX6_readsBall_54 : decode cX6_readsBall 54 = .ok (.istore_n 3, 1) := by decide +kernel
theorem dX6_readsBall_55 : decode cX6_readsBall 55 = .ok (.iload_n 1, 1) := by decide +kernel
theorem dX6_readsBall_56 : decode cX6_readsBall 56 = .ok (.iload_n 3, 1) := by decide +kernel
theorem dX6_readsBall_57 : decode cX6_readsBall 57 = .ok (.ifCond .lt 7, 3) := by decide +kernel
theorem dX6_readsBall_60 : decode cX6_readsBall 60 = .ok (.iconst 1, 1) := by decide +kernel
theorem dX6_readsBall_61 : decode cX6_readsBall 61 = .ok (.goto 4, 3) := by decide +kernel
theorem dX6_readsBall_64 : decode cX6_readsBall 64 = .ok (.iconst 0, 1) := by decide +kernel
theorem dX6_readsBall_65 : decode cX6_readsBall 65 = .ok (.iadd, 1) := by decide +kernel
theorem dX6_readsBall_66 : decode cX6_readsBall 66 = .ok (.istore_n 1, 1) := by decide +kernel
theorem dX6_readsBall_67 : decode cX6_readsBall 67 = .ok (.aload_n 0, 1) := by decide +kernel
theorem dX6_readsBall_68 : decode cX6_readsBall 68 = .ok (.invokevirtual 115, 3) := by decide +kernel
theorem dX6_readsBall_71 : decode cX6_readsBall 71 = .ok (.aload_n 0, 1) := by decide +kernel
theorem dX6_readsBall_72 : decode cX6_readsBall 72 = .ok (.aload_n 0, 1) := by decide +kernel
theorem dX6_readsBall_73 : decode cX6_readsBall 73 = .ok (.getfield 106, 3) := by decide +kernel
theorem dX6_readsBall_76 : decode cX6_readsBall 76 = .ok (.invokevirtual 109, 3) := by decide +kernel
theorem dX6_readsBall_79 : decode cX6_readsBall 79 = .ok (.bipush 59, 2) := by decide +kernel
theorem dX6_readsBall_81 : decode cX6_readsBall 81 = .ok (.if_icmp .eq 7, 3) := by decide +kernel
theorem dX6_readsBall_84 : decode cX6_readsBall 84 = .ok (.iconst 1, 1) := by decide +kernel
theorem dX6_readsBall_85 : decode cX6_readsBall 85 = .ok (.goto 4, 3) := by decide +kernel
theorem dX6_readsBall_88 : decode cX6_readsBall 88 = .ok (.iconst 0, 1) := by decide +kernel
theorem dX6_readsBall_89 : decode cX6_readsBall 89 = .ok (.istore_n 2, 1) := by decide +kernel
theorem dX6_readsBall_90 : decode cX6_readsBall 90 = .ok (.goto (-86), 3) := by decide +kernel
theorem dX6_readsBall_93 : decode cX6_readsBall 93 = .ok (.iconst 1, 1) := by decide +kernel
theorem dX6_readsBall_94 : decode cX6_readsBall 94 = .ok (.ireturn, 1) := by decide +kernel
set_option maxRecDepth 20000 in
theorem ggX6_readsItem_X6_takesWord : GoodIn wsX6_readsItem wsX6_takesWord := goodIn_r _ [5, 6, 7, 8, 9, 10, 11, 4, 12, 13, 14, 15, 16, 17, 18, 19, 20, 21, 22, 115, 116, 117, 118, 119, 120, 121, 122, 123, 124, 125, 126, 127, 128] (by decide +kernel) (by decide +kernel)
set_option maxRecDepth 20000 in
theorem gX6_readsItem_X6_takesWord : GoodIn wsX6_readsItem (wsV RX6 149 RX6 yX6_takesWord wsX6_takesWord) := goodIn_app (goodIn_of _ (by decide +kernel)) ggX6_readsItem_X6_takesWord
set_option maxRecDepth 20000 in
theorem ggX6_readsItem_X6_wordOf : GoodIn wsX6_readsItem wsX6_wordOf := goodIn_r _ [26, 27, 28, 29, 4, 30, 6, 13, 31, 32, 33, 34, 19, 115, 116, 117, 118, 119, 120, 121, 122, 123, 124, 125, 126, 127, 128] (by decide +kernel) (by decide +kernel)
set_option maxRecDepth 20000 in
theorem gX6_readsItem_X6_wordOf : GoodIn wsX6_readsItem (wsV RX6 152 RX6 yX6_wordOf wsX6_wordOf) := goodIn_app (goodIn_of _ (by decide +kernel)) ggX6_readsItem_X6_wordOf
set_option maxRecDepth 20000 in
theorem ggX6_readsItem_X6_readsField : GoodIn wsX6_readsItem wsX6_readsField := goodIn_r _ [38, 39, 40, 41, 42, 4, 43, 6, 44, 45, 13, 46, 9, 10, 11, 12, 14, 15, 16, 17, 18, 19, 20, 21, 22, 47, 48, 49, 50, 51, 52, 53, 54, 55, 115, 116, 117, 118, 119, 120, 121, 122, 123, 124, 125, 126, 127, 128] (by decide +kernel) (by decide +kernel)
set_option maxRecDepth 20000 in
theorem gX6_readsItem_X6_readsField : GoodIn wsX6_readsItem (wsV RX6 155 RX6 yX6_readsField wsX6_readsField) := goodIn_app (goodIn_of _ (by decide +kernel)) ggX6_readsItem_X6_readsField
set_option maxRecDepth 20000 in
theorem ggX6_readsItem_X6_readsBatter : GoodIn wsX6_readsItem wsX6_readsBatter := goodIn_r _ [59, 51, 39, 40, 41, 42, 4, 43, 6, 44, 45, 13, 46, 9, 10, 11, 12, 14, 15, 16, 17, 18, 19, 20, 21, 22, 60, 61, 62, 63, 64, 65, 66, 67, 115, 116, 117, 118, 119, 120, 121, 122, 123, 124, 125, 126, 127, 128] (by decide +kernel) (by decide +kernel)
set_option maxRecDepth 20000 in
theorem gX6_readsItem_X6_readsBatter : GoodIn wsX6_readsItem (wsV RX6 159 RX6 yX6_readsBatter wsX6_readsBatter) := goodIn_app (goodIn_of _ (by decide +kernel)) ggX6_readsItem_X6_readsBatter
set_option maxRecDepth 20000 in
theorem ggX6_readsItem_X6_readsBall : GoodIn wsX6_readsItem wsX6_readsBall := goodIn_r _ [71, 39, 6, 40, 41, 42, 4, 43, 44, 45, 13, 46, 9, 10, 11, 12, 14, 15, 16, 17, 18, 19, 20, 21, 22, 64, 65, 66, 67, 51, 72, 73, 74, 75, 76, 77, 78, 79, 80, 81, 82, 83, 84, 85, 86, 87, 88, 89, 90, 91, 92, 93, 94, 95, 96, 97, 98, 99, 100, 101, 102, 103, 104, 105, 106, 107, 108, 109, 110, 115, 116, 117, 118, 119, 120, 121, 122, 123, 124, 125, 126, 127, 128] (by decide +kernel) (by decide +kernel)
set_option maxRecDepth 20000 in
theorem gX6_readsItem_X6_readsBall : GoodIn wsX6_readsItem (wsV RX6 162 RX6 yX6_readsBall wsX6_readsBall) := goodIn_app (goodIn_of _ (by decide +kernel)) ggX6_readsItem_X6_readsBall
set_option maxRecDepth 20000 in
theorem ggX6_readsItem_X6_takesEnd : GoodIn wsX6_readsItem wsX6_takesEnd := goodIn_r _ [114, 6, 13, 9, 10, 11, 4, 12, 14, 15, 16, 17, 18, 19, 115, 116, 117, 118, 119, 120, 121, 122, 123, 124, 125, 126, 127, 128] (by decide +kernel) (by decide +kernel)
set_option maxRecDepth 20000 in
theorem gX6_readsItem_X6_takesEnd : GoodIn wsX6_readsItem (wsV RX6 165 RX6 yX6_takesEnd wsX6_takesEnd) := goodIn_app (goodIn_of _ (by decide +kernel)) ggX6_readsItem_X6_takesEnd
theorem dX6_readsItem_0 : decode cX6_readsItem 0 = .ok (.aload_n 0, 1) := by decide +kernel
theorem dX6_readsItem_1 : decode cX6_readsItem 1 = .ok (.invokevirtual 149, 3) := by decide +kernel
theorem dX6_readsItem_4 : decode cX6_readsItem 4 = .ok (.aload_n 0, 1) := by decide +kernel
theorem dX6_readsItem_5 : decode cX6_readsItem 5 = .ok (.invokevirtual 152, 3) := by decide +kernel
theorem dX6_readsItem_8 : decode cX6_readsItem 8 = .ok (.istore_n 2, 1) := by decide +kernel
theorem dX6_readsItem_9 : decode cX6_readsItem 9 = .ok (.iload_n 1, 1) := by decide +kernel
theorem dX6_readsItem_10 : decode cX6_readsItem 10 = .ok (.iload_n 2, 1) := by decide +kernel
theorem dX6_readsItem_11 : decode cX6_readsItem 11 = .ok (.iconst 1, 1) := by decide +kernel
theorem dX6_readsItem_12 : decode cX6_readsItem 12 = .ok (.if_icmp .ne 7, 3) := by decide +kernel
theorem dX6_readsItem_15 : decode cX6_readsItem 15 = .ok (.iconst 1, 1) := by decide +kernel
theorem dX6_readsItem_16 : decode cX6_readsItem 16 = .ok (.goto 4, 3) := by decide +kernel
theorem dX6_readsItem_19 : decode cX6_readsItem 19 = .ok (.iconst 0, 1) := by decide +kernel
theorem dX6_readsItem_20 : decode cX6_readsItem 20 = .ok (.if_icmp .eq 5, 3) := by decide +kernel
theorem dX6_readsItem_23 : decode cX6_readsItem 23 = .ok (.iconst 0, 1) := by decide +kernel
theorem dX6_readsItem_24 : decode cX6_readsItem 24 = .ok (.ireturn, 1) := by decide +kernel
theorem dX6_readsItem_25 : decode cX6_readsItem 25 = .ok (.iload_n 2, 1) := by decide +kernel
theorem dX6_readsItem_26 : decode cX6_readsItem 26 = .ok (.iconst 1, 1) := by decide +kernel
theorem dX6_readsItem_27 : decode cX6_readsItem 27 = .ok (.if_icmp .ne 10, 3) := by decide +kernel
theorem dX6_readsItem_30 : decode cX6_readsItem 30 = .ok (.aload_n 0, 1) := by decide +kernel
theorem dX6_readsItem_31 : decode cX6_readsItem 31 = .ok (.invokevirtual 155, 3) := by decide +kernel
theorem dX6_readsItem_34 : decode cX6_readsItem 34 = .ok (.goto 32, 3) := by decide +kernel
theorem dX6_readsItem_37 : decode cX6_readsItem 37 = .ok (.iload_n 2, 1) := by decide +kernel
theorem dX6_readsItem_38 : decode cX6_readsItem 38 = .ok (.iconst 2, 1) := by decide +kernel
theorem dX6_readsItem_39 : decode cX6_readsItem 39 = .ok (.if_icmp .ne 10, 3) := by decide +kernel
theorem dX6_readsItem_42 : decode cX6_readsItem 42 = .ok (.aload_n 0, 1) := by decide +kernel
theorem dX6_readsItem_43 : decode cX6_readsItem 43 = .ok (.invokevirtual 159, 3) := by decide +kernel
theorem dX6_readsItem_46 : decode cX6_readsItem 46 = .ok (.goto 20, 3) := by decide +kernel
theorem dX6_readsItem_49 : decode cX6_readsItem 49 = .ok (.iload_n 2, 1) := by decide +kernel
theorem dX6_readsItem_50 : decode cX6_readsItem 50 = .ok (.iconst 3, 1) := by decide +kernel
theorem dX6_readsItem_51 : decode cX6_readsItem 51 = .ok (.if_icmp .ne 14, 3) := by decide +kernel
theorem dX6_readsItem_54 : decode cX6_readsItem 54 = .ok (.aload_n 0, 1) := by decide +kernel
theorem dX6_readsItem_55 : decode cX6_readsItem 55 = .ok (.invokevirtual 162, 3) := by decide +kernel
theorem dX6_readsItem_58 : decode cX6_readsItem 58 = .ok (.ifCond .eq 7, 3) := by decide +kernel
theorem dX6_readsItem_61 : decode cX6_readsItem 61 = .ok (.iconst 1, 1) := by decide +kernel
theorem dX6_readsItem_62 : decode cX6_readsItem 62 = .ok (.goto 4, 3) := by decide +kernel
theorem dX6_readsItem_65 : decode cX6_readsItem 65 = .ok (.iconst 0, 1) := by decide +kernel
theorem dX6_readsItem_66 : decode cX6_readsItem 66 = .ok (.istore_n 3, 1) := by decide +kernel
theorem dX6_readsItem_67 : decode cX6_readsItem 67 = .ok (.iload_n 3, 1) := by decide +kernel
theorem dX6_readsItem_68 : decode cX6_readsItem 68 = .ok (.ifCond .eq 14, 3) := by decide +kernel
theorem dX6_readsItem_71 : decode cX6_readsItem 71 = .ok (.aload_n 0, 1) := by decide +kernel
theorem dX6_readsItem_72 : decode cX6_readsItem 72 = .ok (.invokevirtual 165, 3) := by decide +kernel
theorem dX6_readsItem_75 : decode cX6_readsItem 75 = .ok (.ifCond .eq 7, 3) := by decide +kernel
theorem dX6_readsItem_78 : decode cX6_readsItem 78 = .ok (.iconst 1, 1) := by decide +kernel
theorem dX6_readsItem_79 : decode cX6_readsItem 79 = .ok (.goto 4, 3) := by decide +kernel
theorem dX6_readsItem_82 : decode cX6_readsItem 82 = .ok (.iconst 0, 1) := by decide +kernel
theorem dX6_readsItem_83 : decode cX6_readsItem 83 = .ok (.ireturn, 1) := by decide +kernel
set_option maxRecDepth 20000 in
theorem ggX6_read_X6_empties : GoodIn wsX6_read wsX6_empties := goodIn_r _ [8, 9, 123, 124, 125, 126, 127, 128, 129, 130, 131, 132, 133, 134, 135, 136] (by decide +kernel) (by decide +kernel)
set_option maxRecDepth 20000 in
theorem gX6_read_X6_empties : GoodIn wsX6_read (wsV RX6 43 RX6 yX6_empties wsX6_empties) := goodIn_app (goodIn_of _ (by decide +kernel)) ggX6_read_X6_empties
set_option maxRecDepth 20000 in
theorem ggX6_read_X6_blanks : GoodIn wsX6_read wsX6_blanks := goodIn_r _ [13, 1, 2, 14, 15, 16, 7, 17, 3, 18, 123, 124, 125, 126, 127, 128, 129, 130, 131, 132, 133, 134, 135, 136] (by decide +kernel) (by decide +kernel)
set_option maxRecDepth 20000 in
theorem gX6_read_X6_blanks : GoodIn wsX6_read (wsV RX6 115 RX6 yX6_blanks wsX6_blanks) := goodIn_app (goodIn_of _ (by decide +kernel)) ggX6_read_X6_blanks
set_option maxRecDepth 20000 in
theorem ggX6_read_X6_readsItem : GoodIn wsX6_read wsX6_readsItem := goodIn_r _ [22, 23, 24, 25, 7, 26, 1, 27, 28, 10, 11, 12, 13, 2, 14, 15, 16, 17, 3, 18, 29, 30, 31, 32, 33, 34, 35, 36, 37, 38, 39, 40, 41, 42, 43, 44, 45, 46, 47, 48, 49, 50, 51, 52, 53, 54, 55, 56, 57, 58, 59, 9, 4, 5, 6, 8, 60, 61, 62, 63, 64, 65, 66, 67, 68, 69, 70, 71, 72, 73, 74, 75, 76, 77, 78, 79, 80, 81, 82, 83, 84, 85, 86, 87, 88, 89, 90, 91, 92, 93, 94, 95, 96, 97, 98, 99, 100, 101, 102, 103, 104, 105, 106, 107, 108, 109, 110, 111, 112, 113, 114, 115, 116, 117, 118, 123, 124, 125, 126, 127, 128, 129, 130, 131, 132, 133, 134, 135, 136] (by decide +kernel) (by decide +kernel)
set_option maxRecDepth 20000 in
theorem gX6_read_X6_readsItem : GoodIn wsX6_read (wsV RX6 168 RX6 yX6_readsItem wsX6_readsItem) := goodIn_app (goodIn_of _ (by decide +kernel)) ggX6_read_X6_readsItem
set_option maxRecDepth 20000 in
theorem ggX6_read_X6_copy : GoodIn wsX6_read wsX6_copy := goodIn_r _ [122, 9, 123, 124, 125, 126, 127, 128, 129, 130, 131, 132, 133, 134, 135, 136] (by decide +kernel) (by decide +kernel)
set_option maxRecDepth 20000 in
theorem gX6_read_X6_copy : GoodIn wsX6_read (wsV RX6 172 RX6 yX6_copy wsX6_copy) := goodIn_app (goodIn_of _ (by decide +kernel)) ggX6_read_X6_copy
theorem dX6_read_0 : decode cX6_read 0 = .ok (.aload_n 0, 1) := by decide +kernel
theorem dX6_read_1 : decode cX6_read 1 = .ok (.sipush 444, 3) := by decide +kernel
theorem dX6_read_4 : decode cX6_read 4 = .ok (.invokevirtual 43, 3) := by decide +kernel
theorem dX6_read_7 : decode cX6_read 7 = .ok (.aload_n 0, 1) := by decide +kernel
theorem dX6_read_8 : decode cX6_read 8 = .ok (.iconst 0, 1) := by decide +kernel
theorem dX6_read_9 : decode cX6_read 9 = .ok (.putfield 106, 3) := by decide +kernel
theorem dX6_read_12 : decode cX6_read 12 = .ok (.iconst 0, 1) := by decide +kernel
theorem dX6_read_13 : decode cX6_read 13 = .ok (.istore_n 1, 1) := by decide +kernel
theorem dX6_read_14 : decode cX6_read 14 = .ok (.aload_n 0, 1) := by decide +kernel
theorem dX6_read_15 : decode cX6_read 15 = .ok (.invokevirtual 115, 3) := by decide +kernel
theorem dX6_read_18 : decode cX6_read 18 = .ok (.iconst 1, 1) := by decide +kernel
theorem dX6_read_19 : decode cX6_read 19 = .ok (.istore_n 2, 1) := by decide +kernel
theorem dX6_read_20 : decode cX6_read 20 = .ok (.iload_n 2, 1) := by decide +kernel
theorem dX6_read_21 : decode cX6_read 21 = .ok (.ifCond .eq 46, 3) := by decide +kernel
theorem dX6_read_24 : decode cX6_read 24 = .ok (.aload_n 0, 1) := by decide +kernel
theorem dX6_read_25 : decode cX6_read 25 = .ok (.getfield 112, 3) := by decide +kernel
theorem dX6_read_28 : decode cX6_read 28 = .ok (.aload_n 0, 1) := by decide +kernel
theorem dX6_read_29 : decode cX6_read 29 = .ok (.getfield 102, 3) := by decide +kernel
theorem dX6_read_32 : decode cX6_read 32 = .ok (.if_icmp .lt 7, 3) := by decide +kernel
theorem dX6_read_35 : decode cX6_read 35 = .ok (.iload_n 1, 1) := by decide +kernel
theorem dX6_read_36 : decode cX6_read 36 = .ok (.ifCond .ne 31, 3) := by decide +kernel
theorem dX6_read_39 : decode cX6_read 39 = .ok (.aload_n 0, 1) := by decide +kernel
theorem dX6_read_40 : decode cX6_read 40 = .ok (.iload_n 1, 1) := by decide +kernel
theorem dX6_read_41 : decode cX6_read 41 = .ok (.ifCond .ne 7, 3) := by decide +kernel
theorem dX6_read_44 : decode cX6_read 44 = .ok (.iconst 1, 1) := by decide +kernel
theorem dX6_read_45 : decode cX6_read 45 = .ok (.goto 4, 3) := by decide +kernel
theorem dX6_read_48 : decode cX6_read 48 = .ok (.iconst 0, 1) := by decide +kernel
theorem dX6_read_49 : decode cX6_read 49 = .ok (.invokevirtual 168, 3) := by decide +kernel
theorem dX6_read_52 : decode cX6_read 52 = .ok (.istore_n 2, 1) := by decide +kernel
theorem dX6_read_53 : decode cX6_read 53 = .ok (.iinc 1 1, 3) := by decide +kernel
theorem dX6_read_56 : decode cX6_read 56 = .ok (.iload_n 2, 1) := by decide +kernel
theorem dX6_read_57 : decode cX6_read 57 = .ok (.ifCond .eq (-37), 3) := by decide +kernel
theorem dX6_read_60 : decode cX6_read 60 = .ok (.aload_n 0, 1) := by decide +kernel
theorem dX6_read_61 : decode cX6_read 61 = .ok (.invokevirtual 115, 3) := by decide +kernel
theorem dX6_read_64 : decode cX6_read 64 = .ok (.goto (-44), 3) := by decide +kernel
theorem dX6_read_67 : decode cX6_read 67 = .ok (.iload_n 2, 1) := by decide +kernel
theorem dX6_read_68 : decode cX6_read 68 = .ok (.ifCond .ne 11, 3) := by decide +kernel
theorem dX6_read_71 : decode cX6_read 71 = .ok (.bipush (-10), 2) := by decide +kernel
theorem dX6_read_73 : decode cX6_read 73 = .ok (.aload_n 0, 1) := by decide +kernel
theorem dX6_read_74 : decode cX6_read 74 = .ok (.getfield 112, 3) := by decide +kernel
theorem dX6_read_77 : decode cX6_read 77 = .ok (.isub, 1) := by decide +kernel
theorem dX6_read_78 : decode cX6_read 78 = .ok (.ireturn, 1) := by decide +kernel
theorem dX6_read_79 : decode cX6_read 79 = .ok (.aload_n 0, 1) := by decide +kernel
theorem dX6_read_80 : decode cX6_read 80 = .ok (.sipush 444, 3) := by decide +kernel
theorem dX6_read_83 : decode cX6_read 83 = .ok (.iconst 0, 1) := by decide +kernel
theorem dX6_read_84 : decode cX6_read 84 = .ok (.invokevirtual 172, 3) := by decide +kernel
theorem dX6_read_87 : decode cX6_read 87 = .ok (.iload_n 1, 1) := by decide +kernel
theorem dX6_read_88 : decode cX6_read 88 = .ok (.ireturn, 1) := by decide +kernel
theorem dX6_minds_0 : decode cX6_minds 0 = .ok (.aload_n 0, 1) := by decide +kernel
theorem dX6_minds_1 : decode cX6_minds 1 = .ok (.getfield 7, 3) := by decide +kernel
theorem dX6_minds_4 : decode cX6_minds 4 = .ok (.bipush 75, 2) := by decide +kernel
theorem dX6_minds_6 : decode cX6_minds 6 = .ok (.iaload, 1) := by decide +kernel
theorem dX6_minds_7 : decode cX6_minds 7 = .ok (.bipush 8, 2) := by decide +kernel
theorem dX6_minds_9 : decode cX6_minds 9 = .ok (.if_icmp .ne 49, 3) := by decide +kernel
theorem dX6_minds_12 : decode cX6_minds 12 = .ok (.iconst 0, 1) := by decide +kernel
theorem dX6_minds_13 : decode cX6_minds 13 = .ok (.istore_n 1, 1) := by decide +kernel
theorem dX6_minds_14 : decode cX6_minds 14 = .ok (.iload_n 1, 1) := by decide +kernel
theorem dX6_minds_15 : decode cX6_minds 15 = .ok (.bipush 63, 2) := by decide +kernel
theorem dX6_minds_17 : decode cX6_minds 17 = .ok (.if_icmp .ge 30, 3) := by decide +kernel
theorem dX6_minds_20 : decode cX6_minds 20 = .ok (.aload_n 0, 1) := by decide +kernel
theorem dX6_minds_21 : decode cX6_minds 21 = .ok (.getfield 7, 3) := by decide +kernel
theorem dX6_minds_24 : decode cX6_minds 24 = .ok (.bipush 76, 2) := by decide +kernel
theorem dX6_minds_26 : decode cX6_minds 26 = .ok (.iload_n 1, 1) := by decide +kernel
theorem dX6_minds_27 : decode cX6_minds 27 = .ok (.iadd, 1) := by decide +kernel
theorem dX6_minds_28 : decode cX6_minds 28 = .ok (.aload_n 0, 1) := by decide +kernel
theorem dX6_minds_29 : decode cX6_minds 29 = .ok (.getfield 7, 3) := by decide +kernel
theorem dX6_minds_32 : decode cX6_minds 32 = .ok (.bipush 76, 2) := by decide +kernel
theorem dX6_minds_34 : decode cX6_minds 34 = .ok (.iload_n 1, 1) := by decide +kernel
theorem dX6_minds_35 : decode cX6_minds 35 = .ok (.iadd, 1) := by decide +kernel
theorem dX6_minds_36 : decode cX6_minds 36 = .ok (.bipush 9, 2) := by decide +kernel
theorem dX6_minds_38 : decode cX6_minds 38 = .ok (.iadd, 1) := by decide +kernel
theorem dX6_minds_39 : decode cX6_minds 39 = .ok (.iaload, 1) := by decide +kernel
theorem dX6_minds_40 : decode cX6_minds 40 = .ok (.iastore, 1) := by decide +kernel
theorem dX6_minds_41 : decode cX6_minds 41 = .ok (.iinc 1 1, 3) := by decide +kernel
theorem dX6_minds_44 : decode cX6_minds 44 = .ok (.goto (-30), 3) := by decide +kernel
theorem dX6_minds_47 : decode cX6_minds 47 = .ok (.aload_n 0, 1) := by decide +kernel
theorem dX6_minds_48 : decode cX6_minds 48 = .ok (.getfield 7, 3) := by decide +kernel
theorem dX6_minds_51 : decode cX6_minds 51 = .ok (.bipush 75, 2) := by decide +kernel
theorem dX6_minds_53 : decode cX6_minds 53 = .ok (.dup2, 1) := by decide +kernel
theorem dX6_minds_54 : decode cX6_minds 54 = .ok (.iaload, 1) := by decide +kernel
theorem dX6_minds_55 : decode cX6_minds 55 = .ok (.iconst 1, 1) := by decide +kernel
theorem dX6_minds_56 : decode cX6_minds 56 = .ok (.isub, 1) := by decide +kernel
theorem dX6_minds_57 : decode cX6_minds 57 = .ok (.iastore, 1) := by decide +kernel
theorem dX6_minds_58 : decode cX6_minds 58 = .ok (.bipush 76, 2) := by decide +kernel
theorem dX6_minds_60 : decode cX6_minds 60 = .ok (.bipush 9, 2) := by decide +kernel
theorem dX6_minds_62 : decode cX6_minds 62 = .ok (.aload_n 0, 1) := by decide +kernel
theorem dX6_minds_63 : decode cX6_minds 63 = .ok (.getfield 7, 3) := by decide +kernel
theorem dX6_minds_66 : decode cX6_minds 66 = .ok (.bipush 75, 2) := by decide +kernel
theorem dX6_minds_68 : decode cX6_minds 68 = .ok (.iaload, 1) := by decide +kernel
theorem dX6_minds_69 : decode cX6_minds 69 = .ok (.imul, 1) := by decide +kernel
theorem dX6_minds_70 : decode cX6_minds 70 = .ok (.iadd, 1) := by decide +kernel
theorem dX6_minds_71 : decode cX6_minds 71 = .ok (.istore_n 1, 1) := by decide +kernel
theorem dX6_minds_72 : decode cX6_minds 72 = .ok (.aload_n 0, 1) := by decide +kernel
theorem dX6_minds_73 : decode cX6_minds 73 = .ok (.getfield 7, 3) := by decide +kernel
theorem dX6_minds_76 : decode cX6_minds 76 = .ok (.iload_n 1, 1) := by decide +kernel
theorem dX6_minds_77 : decode cX6_minds 77 = .ok (.aload_n 0, 1) := by decide +kernel
theorem dX6_minds_78 : decode cX6_minds 78 = .ok (.getfield 7, 3) := by decide +kernel
theorem dX6_minds_81 : decode cX6_minds 81 = .ok (.iconst 2, 1) := by decide +kernel
theorem dX6_minds_82 : decode cX6_minds 82 = .ok (.iaload, 1) := by decide +kernel
theorem dX6_minds_83 : decode cX6_minds 83 = .ok (.iastore, 1) := by decide +kernel
theorem dX6_minds_84 : decode cX6_minds 84 = .ok (.aload_n 0, 1) := by decide +kernel
theorem dX6_minds_85 : decode cX6_minds 85 = .ok (.getfield 7, 3) := by decide +kernel
theorem dX6_minds_88 : decode cX6_minds 88 = .ok (.iload_n 1, 1) := by decide +kernel
theorem dX6_minds_89 : decode cX6_minds 89 = .ok (.iconst 1, 1) := by decide +kernel
theorem dX6_minds_90 : decode cX6_minds 90 = .ok (.iadd, 1) := by decide +kernel
theorem dX6_minds_91 : decode cX6_minds 91 = .ok (.aload_n 0, 1) := by decide +kernel
theorem dX6_minds_92 : decode cX6_minds 92 = .ok (.getfield 7, 3) := by decide +kernel
theorem dX6_minds_95 : decode cX6_minds 95 = .ok (.iconst 3, 1) := by decide +kernel
theorem dX6_minds_96 : decode cX6_minds 96 = .ok (.iaload, 1) := by decide +kernel
theorem dX6_minds_97 : decode cX6_minds 97 = .ok (.iastore, 1) := by decide +kernel
theorem dX6_minds_98 : decode cX6_minds 98 = .ok (.aload_n 0, 1) := by decide +kernel
theorem dX6_minds_99 : decode cX6_minds 99 = .ok (.getfield 7, 3) := by decide +kernel
theorem dX6_minds_102 : decode cX6_minds 102 = .ok (.iload_n 1, 1) := by decide +kernel
theorem dX6_minds_103 : decode cX6_minds 103 = .ok (.iconst 2, 1) := by decide +kernel
theorem dX6_minds_104 : decode cX6_minds 104 = .ok (.iadd, 1) := by decide +kernel
theorem dX6_minds_105 : decode cX6_minds 105 = .ok (.aload_n 0, 1) := by decide +kernel
theorem dX6_minds_106 : decode cX6_minds 106 = .ok (.getfield 7, 3) := by decide +kernel
theorem dX6_minds_109 : decode cX6_minds 109 = .ok (.iconst 4, 1) := by decide +kernel
theorem dX6_minds_110 : decode cX6_minds 110 = .ok (.iaload, 1) := by decide +kernel
theorem dX6_minds_111 : decode cX6_minds 111 = .ok (.iastore, 1) := by decide +kernel
theorem dX6_minds_112 : decode cX6_minds 112 = .ok (.iconst 0, 1) := by decide +kernel
theorem dX6_minds_113 : decode cX6_minds 113 = .ok (.istore_n 2, 1) := by decide +kernel
theorem dX6_minds_114 : decode cX6_minds 114 = .ok (.iload_n 2, 1) := by decide +kernel
theorem dX6_minds_115 : decode cX6_minds 115 = .ok (.bipush 6, 2) := by decide +kernel
theorem dX6_minds_117 : decode cX6_minds 117 = .ok (.if_icmp .ge 28, 3) := by decide +kernel
theorem dX6_minds_120 : decode cX6_minds 120 = .ok (.aload_n 0, 1) := by decide +kernel
theorem dX6_minds_121 : decode cX6_minds 121 = .ok (.getfield 7, 3) := by decide +kernel
theorem dX6_minds_124 : decode cX6_minds 124 = .ok (.iload_n 1, 1) := by decide +kernel
theorem dX6_minds_125 : decode cX6_minds 125 = .ok (.iconst 3, 1) := by decide +kernel
theorem dX6_minds_126 : decode cX6_minds 126 = .ok (.iadd, 1) := by decide +kernel
theorem dX6_minds_127 : decode cX6_minds 127 = .ok (.iload_n 2, 1) := by decide +kernel
theorem dX6_minds_128 : decode cX6_minds 128 = .ok (.iadd, 1) := by decide +kernel
theorem dX6_minds_129 : decode cX6_minds 129 = .ok (.aload_n 0, 1) := by decide +kernel
theorem dX6_minds_130 : decode cX6_minds 130 = .ok (.getfield 7, 3) := by decide +kernel
theorem dX6_minds_133 : decode cX6_minds 133 = .ok (.bipush 17, 2) := by decide +kernel
theorem dX6_minds_135 : decode cX6_minds 135 = .ok (.iload_n 2, 1) := by decide +kernel
theorem dX6_minds_136 : decode cX6_minds 136 = .ok (.iadd, 1) := by decide +kernel
theorem dX6_minds_137 : decode cX6_minds 137 = .ok (.iaload, 1) := by decide +kernel
theorem dX6_minds_138 : decode cX6_minds 138 = .ok (.iastore, 1) := by decide +kernel
theorem dX6_minds_139 : decode cX6_minds 139 = .ok (.iinc 2 1, 3) := by decide +kernel
theorem dX6_minds_142 : decode cX6_minds 142 = .ok (.goto (-28), 3) := by decide +kernel
theorem dX6_minds_145 : decode cX6_minds 145 = .ok (.aload_n 0, 1) := by decide +kernel
theorem dX6_minds_146 : decode cX6_minds 146 = .ok (.getfield 7, 3) := by decide +kernel
theorem dX6_minds_149 : decode cX6_minds 149 = .ok (.bipush 75, 2) := by decide +kernel
theorem dX6_minds_151 : decode cX6_minds 151 = .ok (.dup2, 1) := by decide +kernel
theorem dX6_minds_152 : decode cX6_minds 152 = .ok (.iaload, 1) := by decide +kernel
theorem dX6_minds_153 : decode cX6_minds 153 = .ok (.iconst 1, 1) := by decide +kernel
theorem dX6_minds_154 : decode cX6_minds 154 = .ok (.iadd, 1) := by decide +kernel
theorem dX6_minds_155 : decode cX6_minds 155 = .ok (.iastore, 1) := by decide +kernel
theorem dX6_minds_156 : decode cX6_minds 156 = .ok (.return_, 1) := by decide +kernel
set_option maxRecDepth 20000 in
theorem ggX6_hits_X6_in : GoodIn wsX6_hits wsX6_in := goodIn_r _ [6] (by decide +kernel) (by decide +kernel)
set_option maxRecDepth 20000 in
theorem gX6_hits_X6_in : GoodIn wsX6_hits (va_wsS RX6 47 yX6_in wsX6_in) := goodIn_app (goodIn_of _ (by decide +kernel)) ggX6_hits_X6_in
set_option maxRecDepth 20000 in
theorem ggX6_hits_X6_bad : GoodIn wsX6_hits wsX6_bad := goodIn_r _ [10, 11, 63, 64, 65, 66, 67, 68, 69, 70, 71, 72, 73, 74, 75, 76] (by decide +kernel) (by decide +kernel)
set_option maxRecDepth 20000 in
theorem gX6_hits_X6_bad : GoodIn wsX6_hits (wsV RX6 89 RX6 yX6_bad wsX6_bad) := goodIn_app (goodIn_of _ (by decide +kernel)) ggX6_hits_X6_bad
set_option maxRecDepth 20000 in
theorem ggX6_hits_X6_isDone : GoodIn wsX6_hits wsX6_isDone := goodIn_r _ [15, 2, 63, 64, 65, 66, 67, 68, 69, 70, 71, 72, 73, 74, 75, 76] (by decide +kernel) (by decide +kernel)
set_option maxRecDepth 20000 in
theorem gX6_hits_X6_isDone : GoodIn wsX6_hits (wsV RX6 83 RX6 yX6_isDone wsX6_isDone) := goodIn_app (goodIn_of _ (by decide +kernel)) ggX6_hits_X6_isDone
set_option maxRecDepth 20000 in
theorem ggX6_hits_X6_no : GoodIn wsX6_hits wsX6_no := goodIn_r _ [19, 11, 63, 64, 65, 66, 67, 68, 69, 70, 71, 72, 73, 74, 75, 76] (by decide +kernel) (by decide +kernel)
set_option maxRecDepth 20000 in
theorem gX6_hits_X6_no : GoodIn wsX6_hits (wsV RX6 177 RX6 yX6_no wsX6_no) := goodIn_app (goodIn_of _ (by decide +kernel)) ggX6_hits_X6_no
set_option maxRecDepth 20000 in
theorem ggX6_hits_X6_minds : GoodIn wsX6_hits wsX6_minds := goodIn_r _ [23, 2, 63, 64, 65, 66, 67, 68, 69, 70, 71, 72, 73, 74, 75, 76] (by decide +kernel) (by decide +kernel)
set_option maxRecDepth 20000 in
theorem gX6_hits_X6_minds : GoodIn wsX6_hits (wsV RX6 180 RX6 yX6_minds wsX6_minds) := goodIn_app (goodIn_of _ (by decide +kernel)) ggX6_hits_X6_minds
set_option maxRecDepth 20000 in
theorem ggX6_hits_X6_bats : GoodIn wsX6_hits wsX6_bats := goodIn_r _ [27, 2, 28, 29, 30, 31, 5, 32, 33, 34, 35, 36, 37, 38, 39, 40, 41, 42, 43, 44, 45, 46, 47, 48, 49, 50, 51, 52, 53, 54, 3, 4, 6, 55, 56, 57, 58, 63, 64, 65, 66, 67, 68, 69, 70, 71, 72, 73, 74, 75, 76] (by decide +kernel) (by decide +kernel)
set_option maxRecDepth 20000 in
theorem gX6_hits_X6_bats : GoodIn wsX6_hits (wsV RX6 143 RX6 yX6_bats wsX6_bats) := goodIn_app (goodIn_of _ (by decide +kernel)) ggX6_hits_X6_bats
set_option maxRecDepth 20000 in
theorem ggX6_hits_X6_scores : GoodIn wsX6_hits wsX6_scores := goodIn_r _ [62, 2, 63, 64, 65, 66, 67, 68, 69, 70, 71, 72, 73, 74, 75, 76] (by decide +kernel) (by decide +kernel)
set_option maxRecDepth 20000 in
theorem gX6_hits_X6_scores : GoodIn wsX6_hits (wsV RX6 146 RX6 yX6_scores wsX6_scores) := goodIn_app (goodIn_of _ (by decide +kernel)) ggX6_hits_X6_scores
theorem dX6_hits_0 : decode cX6_hits 0 = .ok (.iload_n 1, 1) := by decide +kernel
theorem dX6_hits_1 : decode cX6_hits 1 = .ok (.i2l, 1) := by decide +kernel
theorem dX6_hits_2 : decode cX6_hits 2 = .ok (.lconst 0, 1) := by decide +kernel
theorem dX6_hits_3 : decode cX6_hits 3 = .ok (.ldc2_w 175, 3) := by decide +kernel
theorem dX6_hits_6 : decode cX6_hits 6 = .ok (.invokestatic 47, 3) := by decide +kernel
theorem dX6_hits_9 : decode cX6_hits 9 = .ok (.ifCond .ne 10, 3) := by decide +kernel
theorem dX6_hits_12 : decode cX6_hits 12 = .ok (.aload_n 0, 1) := by decide +kernel
theorem dX6_hits_13 : decode cX6_hits 13 = .ok (.bipush (-2), 2) := by decide +kernel
theorem dX6_hits_15 : decode cX6_hits 15 = .ok (.invokevirtual 89, 3) := by decide +kernel
theorem dX6_hits_18 : decode cX6_hits 18 = .ok (.ireturn, 1) := by decide +kernel
theorem dX6_hits_19 : decode cX6_hits 19 = .ok (.aload_n 0, 1) := by decide +kernel
theorem dX6_hits_20 : decode cX6_hits 20 = .ok (.iconst 0, 1) := by decide +kernel
theorem dX6_hits_21 : decode cX6_hits 21 = .ok (.invokevirtual 83, 3) := by decide +kernel
theorem dX6_hits_24 : decode cX6_hits 24 = .ok (.ifCond .ne 15, 3) := by decide +kernel
theorem dX6_hits_27 : decode cX6_hits 27 = .ok (.aload_n 0, 1) := by decide +kernel
theorem dX6_hits_28 : decode cX6_hits 28 = .ok (.getfield 7, 3) := by decide +kernel
theorem dX6_hits_31 : decode cX6_hits 31 = .ok (.iconst 4, 1) := by decide +kernel
theorem dX6_hits_32 : decode cX6_hits 32 = .ok (.iaload, 1) := by decide +kernel
theorem dX6_hits_33 : decode cX6_hits 33 = .ok (.sipush 9999, 3) := by decide +kernel
theorem dX6_hits_36 : decode cX6_hits 36 = .ok (.if_icmp .ne 8, 3) := by decide +kernel
theorem dX6_hits_39 : decode cX6_hits 39 = .ok (.aload_n 0, 1) := by decide +kernel
theorem dX6_hits_40 : decode cX6_hits 40 = .ok (.invokevirtual 177, 3) := by decide +kernel
theorem dX6_hits_43 : decode cX6_hits 43 = .ok (.ireturn, 1) := by decide +kernel
theorem dX6_hits_44 : decode cX6_hits 44 = .ok (.aload_n 0, 1) := by decide +kernel
theorem dX6_hits_45 : decode cX6_hits 45 = .ok (.invokevirtual 180, 3) := by decide +kernel
theorem dX6_hits_48 : decode cX6_hits 48 = .ok (.aload_n 0, 1) := by decide +kernel
theorem dX6_hits_49 : decode cX6_hits 49 = .ok (.iconst 0, 1) := by decide +kernel
theorem dX6_hits_50 : decode cX6_hits 50 = .ok (.aload_n 0, 1) := by decide +kernel
theorem dX6_hits_51 : decode cX6_hits 51 = .ok (.iconst 0, 1) := by decide +kernel
theorem dX6_hits_52 : decode cX6_hits 52 = .ok (.iload_n 1, 1) := by decide +kernel
theorem dX6_hits_53 : decode cX6_hits 53 = .ok (.invokevirtual 143, 3) := by decide +kernel
theorem dX6_hits_56 : decode cX6_hits 56 = .ok (.invokevirtual 146, 3) := by decide +kernel
theorem dX6_hits_59 : decode cX6_hits 59 = .ok (.ireturn, 1) := by decide +kernel
set_option maxRecDepth 20000 in
theorem ggX6_sends_X6_isBatter : GoodIn wsX6_sends wsX6_isBatter := goodIn_r _ [6, 1, 7, 8, 5, 9, 23, 24, 25, 26, 27, 28, 29, 30, 31, 32, 33, 34, 35, 36] (by decide +kernel) (by decide +kernel)
set_option maxRecDepth 20000 in
theorem gX6_sends_X6_isBatter : GoodIn wsX6_sends (wsV RX6 183 RX6 yX6_isBatter wsX6_isBatter) := goodIn_app (goodIn_of _ (by decide +kernel)) ggX6_sends_X6_isBatter
set_option maxRecDepth 20000 in
theorem ggX6_sends_X6_bad : GoodIn wsX6_sends wsX6_bad := goodIn_r _ [13, 14, 23, 24, 25, 26, 27, 28, 29, 30, 31, 32, 33, 34, 35, 36] (by decide +kernel) (by decide +kernel)
set_option maxRecDepth 20000 in
theorem gX6_sends_X6_bad : GoodIn wsX6_sends (wsV RX6 89 RX6 yX6_bad wsX6_bad) := goodIn_app (goodIn_of _ (by decide +kernel)) ggX6_sends_X6_bad
set_option maxRecDepth 20000 in
theorem ggX6_sends_X6_no : GoodIn wsX6_sends wsX6_no := goodIn_r _ [18, 14, 23, 24, 25, 26, 27, 28, 29, 30, 31, 32, 33, 34, 35, 36] (by decide +kernel) (by decide +kernel)
set_option maxRecDepth 20000 in
theorem gX6_sends_X6_no : GoodIn wsX6_sends (wsV RX6 177 RX6 yX6_no wsX6_no) := goodIn_app (goodIn_of _ (by decide +kernel)) ggX6_sends_X6_no
set_option maxRecDepth 20000 in
theorem ggX6_sends_X6_minds : GoodIn wsX6_sends wsX6_minds := goodIn_r _ [22, 1, 23, 24, 25, 26, 27, 28, 29, 30, 31, 32, 33, 34, 35, 36] (by decide +kernel) (by decide +kernel)
set_option maxRecDepth 20000 in
theorem gX6_sends_X6_minds : GoodIn wsX6_sends (wsV RX6 180 RX6 yX6_minds wsX6_minds) := goodIn_app (goodIn_of _ (by decide +kernel)) ggX6_sends_X6_minds
theorem dX6_sends_0 : decode cX6_sends 0 = .ok (.aload_n 0, 1) := by decide +kernel
theorem dX6_sends_1 : decode cX6_sends 1 = .ok (.iload_n 1, 1) := by decide +kernel
theorem dX6_sends_2 : decode cX6_sends 2 = .ok (.invokevirtual 183, 3) := by decide +kernel
theorem dX6_sends_5 : decode cX6_sends 5 = .ok (.ifCond .ne 10, 3) := by decide +kernel
theorem dX6_sends_8 : decode cX6_sends 8 = .ok (.aload_n 0, 1) := by decide +kernel
theorem dX6_sends_9 : decode cX6_sends 9 = .ok (.bipush (-2), 2) := by decide +kernel
theorem dX6_sends_11 : decode cX6_sends 11 = .ok (.invokevirtual 89, 3) := by decide +kernel
theorem dX6_sends_14 : decode cX6_sends 14 = .ok (.ireturn, 1) := by decide +kernel
theorem dX6_sends_15 : decode cX6_sends 15 = .ok (.aload_n 0, 1) := by decide +kernel
theorem dX6_sends_16 : decode cX6_sends 16 = .ok (.getfield 7, 3) := by decide +kernel
theorem dX6_sends_19 : decode cX6_sends 19 = .ok (.iconst 2, 1) := by decide +kernel
theorem dX6_sends_20 : decode cX6_sends 20 = .ok (.iaload, 1) := by decide +kernel
theorem dX6_sends_21 : decode cX6_sends 21 = .ok (.istore_n 2, 1) := by decide +kernel
theorem dX6_sends_22 : decode cX6_sends 22 = .ok (.aload_n 0, 1) := by decide +kernel
theorem dX6_sends_23 : decode cX6_sends 23 = .ok (.getfield 7, 3) := by decide +kernel
theorem dX6_sends_26 : decode cX6_sends 26 = .ok (.bipush 17, 2) := by decide +kernel
theorem dX6_sends_28 : decode cX6_sends 28 = .ok (.iload_n 1, 1) := by decide +kernel
theorem dX6_sends_29 : decode cX6_sends 29 = .ok (.iadd, 1) := by decide +kernel
theorem dX6_sends_30 : decode cX6_sends 30 = .ok (.iaload, 1) := by decide +kernel
theorem dX6_sends_31 : decode cX6_sends 31 = .ok (.ifCond .ne 8, 3) := by decide +kernel
theorem dX6_sends_34 : decode cX6_sends 34 = .ok (.iload_n 2, 1) := by decide +kernel
theorem dX6_sends_35 : decode cX6_sends 35 = .ok (.iload_n 1, 1) := by decide +kernel
theorem dX6_sends_36 : decode cX6_sends 36 = .ok (.if_icmp .ne 8, 3) := by decide +kernel
theorem dX6_sends_39 : decode cX6_sends 39 = .ok (.aload_n 0, 1) := by decide +kernel
theorem dX6_sends_40 : decode cX6_sends 40 = .ok (.invokevirtual 177, 3) := by decide +kernel
theorem dX6_sends_43 : decode cX6_sends 43 = .ok (.ireturn, 1) := by decide +kernel
theorem dX6_sends_44 : decode cX6_sends 44 = .ok (.aload_n 0, 1) := by decide +kernel
theorem dX6_sends_45 : decode cX6_sends 45 = .ok (.invokevirtual 180, 3) := by decide +kernel
theorem dX6_sends_48 : decode cX6_sends 48 = .ok (.aload_n 0, 1) := by decide +kernel
theorem dX6_sends_49 : decode cX6_sends 49 = .ok (.getfield 7, 3) := by decide +kernel
theorem dX6_sends_52 : decode cX6_sends 52 = .ok (.iconst 2, 1) := by decide +kernel
theorem dX6_sends_53 : decode cX6_sends 53 = .ok (.iload_n 1, 1) := by decide +kernel
theorem dX6_sends_54 : decode cX6_sends 54 = .ok (.iastore, 1) := by decide +kernel
