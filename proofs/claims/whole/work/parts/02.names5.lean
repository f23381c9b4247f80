theorem dX6_sends_55 : decode cX6_sends 55 = .ok (.iload_n 2, 1) := by decide +kernel
theorem dX6_sends_56 : decode cX6_sends 56 = .ok (.ireturn, 1) := by decide +kernel
set_option maxRecDepth 20000 in
theorem ggX6_row_X6_in : GoodIn wsX6_row wsX6_in := goodIn_r _ [7] (by decide +kernel) (by decide +kernel)
set_option maxRecDepth 20000 in
theorem gX6_row_X6_in : GoodIn wsX6_row (va_wsS RX6 47 yX6_in wsX6_in) := goodIn_app (goodIn_of _ (by decide +kernel)) ggX6_row_X6_in
set_option maxRecDepth 20000 in
theorem ggX6_row_X6_bad : GoodIn wsX6_row wsX6_bad := goodIn_r _ [11, 12, 13, 14, 15, 16, 17, 18, 19, 20, 21, 22, 23, 24, 25, 26] (by decide +kernel) (by decide +kernel)
set_option maxRecDepth 20000 in
theorem gX6_row_X6_bad : GoodIn wsX6_row (wsV RX6 89 RX6 yX6_bad wsX6_bad) := goodIn_app (goodIn_of _ (by decide +kernel)) ggX6_row_X6_bad
theorem dX6_row_0 : decode cX6_row 0 = .ok (.iload_n 1, 1) := by decide +kernel
theorem dX6_row_1 : decode cX6_row 1 = .ok (.i2l, 1) := by decide +kernel
theorem dX6_row_2 : decode cX6_row 2 = .ok (.lconst 0, 1) := by decide +kernel
theorem dX6_row_3 : decode cX6_row 3 = .ok (.ldc2_w 186, 3) := by decide +kernel
theorem dX6_row_6 : decode cX6_row 6 = .ok (.invokestatic 47, 3) := by decide +kernel
theorem dX6_row_9 : decode cX6_row 9 = .ok (.ifCond .eq 15, 3) := by decide +kernel
theorem dX6_row_12 : decode cX6_row 12 = .ok (.iload_n 2, 1) := by decide +kernel
theorem dX6_row_13 : decode cX6_row 13 = .ok (.i2l, 1) := by decide +kernel
theorem dX6_row_14 : decode cX6_row 14 = .ok (.lconst 0, 1) := by decide +kernel
theorem dX6_row_15 : decode cX6_row 15 = .ok (.ldc2_w 175, 3) := by decide +kernel
theorem dX6_row_18 : decode cX6_row 18 = .ok (.invokestatic 47, 3) := by decide +kernel
theorem dX6_row_21 : decode cX6_row 21 = .ok (.ifCond .ne 10, 3) := by decide +kernel
theorem dX6_row_24 : decode cX6_row 24 = .ok (.aload_n 0, 1) := by decide +kernel
theorem dX6_row_25 : decode cX6_row 25 = .ok (.bipush (-2), 2) := by decide +kernel
theorem dX6_row_27 : decode cX6_row 27 = .ok (.invokevirtual 89, 3) := by decide +kernel
theorem dX6_row_30 : decode cX6_row 30 = .ok (.ireturn, 1) := by decide +kernel
theorem dX6_row_31 : decode cX6_row 31 = .ok (.aload_n 0, 1) := by decide +kernel
theorem dX6_row_32 : decode cX6_row 32 = .ok (.getfield 7, 3) := by decide +kernel
theorem dX6_row_35 : decode cX6_row 35 = .ok (.bipush 23, 2) := by decide +kernel
theorem dX6_row_37 : decode cX6_row 37 = .ok (.iload_n 1, 1) := by decide +kernel
theorem dX6_row_38 : decode cX6_row 38 = .ok (.iadd, 1) := by decide +kernel
theorem dX6_row_39 : decode cX6_row 39 = .ok (.iaload, 1) := by decide +kernel
theorem dX6_row_40 : decode cX6_row 40 = .ok (.istore_n 3, 1) := by decide +kernel
theorem dX6_row_41 : decode cX6_row 41 = .ok (.aload_n 0, 1) := by decide +kernel
theorem dX6_row_42 : decode cX6_row 42 = .ok (.getfield 7, 3) := by decide +kernel
theorem dX6_row_45 : decode cX6_row 45 = .ok (.bipush 23, 2) := by decide +kernel
theorem dX6_row_47 : decode cX6_row 47 = .ok (.iload_n 1, 1) := by decide +kernel
theorem dX6_row_48 : decode cX6_row 48 = .ok (.iadd, 1) := by decide +kernel
theorem dX6_row_49 : decode cX6_row 49 = .ok (.iload_n 2, 1) := by decide +kernel
theorem dX6_row_50 : decode cX6_row 50 = .ok (.iastore, 1) := by decide +kernel
theorem dX6_row_51 : decode cX6_row 51 = .ok (.iload_n 3, 1) := by decide +kernel
theorem dX6_row_52 : decode cX6_row 52 = .ok (.ireturn, 1) := by decide +kernel
set_option maxRecDepth 20000 in
theorem ggX6_undo_X6_no : GoodIn wsX6_undo wsX6_no := goodIn_r _ [6, 7, 8, 9, 10, 11, 12, 13, 14, 15, 16, 17, 18, 19, 20, 21] (by decide +kernel) (by decide +kernel)
set_option maxRecDepth 20000 in
theorem gX6_undo_X6_no : GoodIn wsX6_undo (wsV RX6 177 RX6 yX6_no wsX6_no) := goodIn_app (goodIn_of _ (by decide +kernel)) ggX6_undo_X6_no
theorem dX6_undo_0 : decode cX6_undo 0 = .ok (.aload_n 0, 1) := by decide +kernel
theorem dX6_undo_1 : decode cX6_undo 1 = .ok (.getfield 7, 3) := by decide +kernel
theorem dX6_undo_4 : decode cX6_undo 4 = .ok (.bipush 75, 2) := by decide +kernel
theorem dX6_undo_6 : decode cX6_undo 6 = .ok (.iaload, 1) := by decide +kernel
theorem dX6_undo_7 : decode cX6_undo 7 = .ok (.ifCond .ne 8, 3) := by decide +kernel
theorem dX6_undo_10 : decode cX6_undo 10 = .ok (.aload_n 0, 1) := by decide +kernel
theorem dX6_undo_11 : decode cX6_undo 11 = .ok (.invokevirtual 177, 3) := by decide +kernel
theorem dX6_undo_14 : decode cX6_undo 14 = .ok (.ireturn, 1) := by decide +kernel
theorem dX6_undo_15 : decode cX6_undo 15 = .ok (.aload_n 0, 1) := by decide +kernel
theorem dX6_undo_16 : decode cX6_undo 16 = .ok (.getfield 7, 3) := by decide +kernel
theorem dX6_undo_19 : decode cX6_undo 19 = .ok (.bipush 75, 2) := by decide +kernel
theorem dX6_undo_21 : decode cX6_undo 21 = .ok (.dup2, 1) := by decide +kernel
theorem dX6_undo_22 : decode cX6_undo 22 = .ok (.iaload, 1) := by decide +kernel
theorem dX6_undo_23 : decode cX6_undo 23 = .ok (.iconst 1, 1) := by decide +kernel
theorem dX6_undo_24 : decode cX6_undo 24 = .ok (.isub, 1) := by decide +kernel
theorem dX6_undo_25 : decode cX6_undo 25 = .ok (.iastore, 1) := by decide +kernel
theorem dX6_undo_26 : decode cX6_undo 26 = .ok (.bipush 76, 2) := by decide +kernel
theorem dX6_undo_28 : decode cX6_undo 28 = .ok (.bipush 9, 2) := by decide +kernel
theorem dX6_undo_30 : decode cX6_undo 30 = .ok (.aload_n 0, 1) := by decide +kernel
theorem dX6_undo_31 : decode cX6_undo 31 = .ok (.getfield 7, 3) := by decide +kernel
theorem dX6_undo_34 : decode cX6_undo 34 = .ok (.bipush 75, 2) := by decide +kernel
theorem dX6_undo_36 : decode cX6_undo 36 = .ok (.iaload, 1) := by decide +kernel
theorem dX6_undo_37 : decode cX6_undo 37 = .ok (.imul, 1) := by decide +kernel
theorem dX6_undo_38 : decode cX6_undo 38 = .ok (.iadd, 1) := by decide +kernel
theorem dX6_undo_39 : decode cX6_undo 39 = .ok (.istore_n 1, 1) := by decide +kernel
theorem dX6_undo_40 : decode cX6_undo 40 = .ok (.aload_n 0, 1) := by decide +kernel
theorem dX6_undo_41 : decode cX6_undo 41 = .ok (.getfield 7, 3) := by decide +kernel
theorem dX6_undo_44 : decode cX6_undo 44 = .ok (.iconst 2, 1) := by decide +kernel
theorem dX6_undo_45 : decode cX6_undo 45 = .ok (.aload_n 0, 1) := by decide +kernel
theorem dX6_undo_46 : decode cX6_undo 46 = .ok (.getfield 7, 3) := by decide +kernel
theorem dX6_undo_49 : decode cX6_undo 49 = .ok (.iload_n 1, 1) := by decide +kernel
theorem dX6_undo_50 : decode cX6_undo 50 = .ok (.iaload, 1) := by decide +kernel
theorem dX6_undo_51 : decode cX6_undo 51 = .ok (.iastore, 1) := by decide +kernel
theorem dX6_undo_52 : decode cX6_undo 52 = .ok (.aload_n 0, 1) := by decide +kernel
theorem dX6_undo_53 : decode cX6_undo 53 = .ok (.getfield 7, 3) := by decide +kernel
theorem dX6_undo_56 : decode cX6_undo 56 = .ok (.iconst 3, 1) := by decide +kernel
theorem dX6_undo_57 : decode cX6_undo 57 = .ok (.aload_n 0, 1) := by decide +kernel
theorem dX6_undo_58 : decode cX6_undo 58 = .ok (.getfield 7, 3) := by decide +kernel
theorem dX6_undo_61 : decode cX6_undo 61 = .ok (.iload_n 1, 1) := by decide +kernel
theorem dX6_undo_62 : decode cX6_undo 62 = .ok (.iconst 1, 1) := by decide +kernel
theorem dX6_undo_63 : decode cX6_undo 63 = .ok (.iadd, 1) := by decide +kernel
theorem dX6_undo_64 : decode cX6_undo 64 = .ok (.iaload, 1) := by decide +kernel
theorem dX6_undo_65 : decode cX6_undo 65 = .ok (.iastore, 1) := by decide +kernel
theorem dX6_undo_66 : decode cX6_undo 66 = .ok (.aload_n 0, 1) := by decide +kernel
theorem dX6_undo_67 : decode cX6_undo 67 = .ok (.getfield 7, 3) := by decide +kernel
theorem dX6_undo_70 : decode cX6_undo 70 = .ok (.iconst 4, 1) := by decide +kernel
theorem dX6_undo_71 : decode cX6_undo 71 = .ok (.aload_n 0, 1) := by decide +kernel
theorem dX6_undo_72 : decode cX6_undo 72 = .ok (.getfield 7, 3) := by decide +kernel
theorem dX6_undo_75 : decode cX6_undo 75 = .ok (.iload_n 1, 1) := by decide +kernel
theorem dX6_undo_76 : decode cX6_undo 76 = .ok (.iconst 2, 1) := by decide +kernel
theorem dX6_undo_77 : decode cX6_undo 77 = .ok (.iadd, 1) := by decide +kernel
theorem dX6_undo_78 : decode cX6_undo 78 = .ok (.iaload, 1) := by decide +kernel
theorem dX6_undo_79 : decode cX6_undo 79 = .ok (.iastore, 1) := by decide +kernel
theorem dX6_undo_80 : decode cX6_undo 80 = .ok (.iconst 0, 1) := by decide +kernel
theorem dX6_undo_81 : decode cX6_undo 81 = .ok (.istore_n 2, 1) := by decide +kernel
theorem dX6_undo_82 : decode cX6_undo 82 = .ok (.iload_n 2, 1) := by decide +kernel
theorem dX6_undo_83 : decode cX6_undo 83 = .ok (.bipush 6, 2) := by decide +kernel
theorem dX6_undo_85 : decode cX6_undo 85 = .ok (.if_icmp .ge 28, 3) := by decide +kernel
theorem dX6_undo_88 : decode cX6_undo 88 = .ok (.aload_n 0, 1) := by decide +kernel
theorem dX6_undo_89 : decode cX6_undo 89 = .ok (.getfield 7, 3) := by decide +kernel
theorem dX6_undo_92 : decode cX6_undo 92 = .ok (.bipush 17, 2) := by decide +kernel
theorem dX6_undo_94 : decode cX6_undo 94 = .ok (.iload_n 2, 1) := by decide +kernel
theorem dX6_undo_95 : decode cX6_undo 95 = .ok (.iadd, 1) := by decide +kernel
theorem dX6_undo_96 : decode cX6_undo 96 = .ok (.aload_n 0, 1) := by decide +kernel
theorem dX6_undo_97 : decode cX6_undo 97 = .ok (.getfield 7, 3) := by decide +kernel
theorem dX6_undo_100 : decode cX6_undo 100 = .ok (.iload_n 1, 1) := by decide +kernel
theorem dX6_undo_101 : decode cX6_undo 101 = .ok (.iconst 3, 1) := by decide +kernel
theorem dX6_undo_102 : decode cX6_undo 102 = .ok (.iadd, 1) := by decide +kernel
theorem dX6_undo_103 : decode cX6_undo 103 = .ok (.iload_n 2, 1) := by decide +kernel
theorem dX6_undo_104 : decode cX6_undo 104 = .ok (.iadd, 1) := by decide +kernel
theorem dX6_undo_105 : decode cX6_undo 105 = .ok (.iaload, 1) := by decide +kernel
theorem dX6_undo_106 : decode cX6_undo 106 = .ok (.iastore, 1) := by decide +kernel
theorem dX6_undo_107 : decode cX6_undo 107 = .ok (.iinc 2 1, 3) := by decide +kernel
theorem dX6_undo_110 : decode cX6_undo 110 = .ok (.goto (-28), 3) := by decide +kernel
theorem dX6_undo_113 : decode cX6_undo 113 = .ok (.aload_n 0, 1) := by decide +kernel
theorem dX6_undo_114 : decode cX6_undo 114 = .ok (.getfield 7, 3) := by decide +kernel
theorem dX6_undo_117 : decode cX6_undo 117 = .ok (.iconst 4, 1) := by decide +kernel
theorem dX6_undo_118 : decode cX6_undo 118 = .ok (.iaload, 1) := by decide +kernel
theorem dX6_undo_119 : decode cX6_undo 119 = .ok (.ireturn, 1) := by decide +kernel
set_option maxRecDepth 20000 in
theorem ggX6_of_X6_isBatter : GoodIn wsX6_of wsX6_isBatter := goodIn_r _ [7, 2, 8, 9, 6, 10, 16, 17, 18, 19, 20, 21, 22, 23, 24, 25, 26, 27, 28, 29] (by decide +kernel) (by decide +kernel)
set_option maxRecDepth 20000 in
theorem gX6_of_X6_isBatter : GoodIn wsX6_of (wsV RX6 183 RX6 yX6_isBatter wsX6_isBatter) := goodIn_app (goodIn_of _ (by decide +kernel)) ggX6_of_X6_isBatter
set_option maxRecDepth 20000 in
theorem ggX6_of_X6_in : GoodIn wsX6_of wsX6_in := goodIn_r _ [10] (by decide +kernel) (by decide +kernel)
set_option maxRecDepth 20000 in
theorem gX6_of_X6_in : GoodIn wsX6_of (va_wsS RX6 47 yX6_in wsX6_in) := goodIn_app (goodIn_of _ (by decide +kernel)) ggX6_of_X6_in
set_option maxRecDepth 20000 in
theorem ggX6_of_X6_bad : GoodIn wsX6_of wsX6_bad := goodIn_r _ [14, 15, 16, 17, 18, 19, 20, 21, 22, 23, 24, 25, 26, 27, 28, 29] (by decide +kernel) (by decide +kernel)
set_option maxRecDepth 20000 in
theorem gX6_of_X6_bad : GoodIn wsX6_of (wsV RX6 89 RX6 yX6_bad wsX6_bad) := goodIn_app (goodIn_of _ (by decide +kernel)) ggX6_of_X6_bad
theorem dX6_of_0 : decode cX6_of 0 = .ok (.aload_n 0, 1) := by decide +kernel
theorem dX6_of_1 : decode cX6_of 1 = .ok (.iload_n 1, 1) := by decide +kernel
theorem dX6_of_2 : decode cX6_of 2 = .ok (.invokevirtual 183, 3) := by decide +kernel
theorem dX6_of_5 : decode cX6_of 5 = .ok (.ifCond .eq 15, 3) := by decide +kernel
theorem dX6_of_8 : decode cX6_of 8 = .ok (.iload_n 2, 1) := by decide +kernel
theorem dX6_of_9 : decode cX6_of 9 = .ok (.i2l, 1) := by decide +kernel
theorem dX6_of_10 : decode cX6_of 10 = .ok (.lconst 0, 1) := by decide +kernel
theorem dX6_of_11 : decode cX6_of 11 = .ok (.ldc2_w 137, 3) := by decide +kernel
theorem dX6_of_14 : decode cX6_of 14 = .ok (.invokestatic 47, 3) := by decide +kernel
theorem dX6_of_17 : decode cX6_of 17 = .ok (.ifCond .ne 10, 3) := by decide +kernel
theorem dX6_of_20 : decode cX6_of 20 = .ok (.aload_n 0, 1) := by decide +kernel
theorem dX6_of_21 : decode cX6_of 21 = .ok (.bipush (-2), 2) := by decide +kernel
theorem dX6_of_23 : decode cX6_of 23 = .ok (.invokevirtual 89, 3) := by decide +kernel
theorem dX6_of_26 : decode cX6_of 26 = .ok (.ireturn, 1) := by decide +kernel
theorem dX6_of_27 : decode cX6_of 27 = .ok (.aload_n 0, 1) := by decide +kernel
theorem dX6_of_28 : decode cX6_of 28 = .ok (.getfield 7, 3) := by decide +kernel
theorem dX6_of_31 : decode cX6_of 31 = .ok (.iconst 5, 1) := by decide +kernel
theorem dX6_of_32 : decode cX6_of 32 = .ok (.bipush 6, 2) := by decide +kernel
theorem dX6_of_34 : decode cX6_of 34 = .ok (.iload_n 2, 1) := by decide +kernel
theorem dX6_of_35 : decode cX6_of 35 = .ok (.imul, 1) := by decide +kernel
theorem dX6_of_36 : decode cX6_of 36 = .ok (.iadd, 1) := by decide +kernel
theorem dX6_of_37 : decode cX6_of 37 = .ok (.iload_n 1, 1) := by decide +kernel
theorem dX6_of_38 : decode cX6_of 38 = .ok (.iadd, 1) := by decide +kernel
theorem dX6_of_39 : decode cX6_of 39 = .ok (.iaload, 1) := by decide +kernel
theorem dX6_of_40 : decode cX6_of 40 = .ok (.ireturn, 1) := by decide +kernel
set_option maxRecDepth 20000 in
theorem ggX6_worth_X6_in : GoodIn wsX6_worth wsX6_in := goodIn_r _ [5] (by decide +kernel) (by decide +kernel)
set_option maxRecDepth 20000 in
theorem gX6_worth_X6_in : GoodIn wsX6_worth (va_wsS RX6 47 yX6_in wsX6_in) := goodIn_app (goodIn_of _ (by decide +kernel)) ggX6_worth_X6_in
set_option maxRecDepth 20000 in
theorem ggX6_worth_X6_bad : GoodIn wsX6_worth wsX6_bad := goodIn_r _ [9, 10, 42, 43, 44, 45, 46, 47, 48, 49, 50, 51, 52, 53, 54, 55] (by decide +kernel) (by decide +kernel)
set_option maxRecDepth 20000 in
theorem gX6_worth_X6_bad : GoodIn wsX6_worth (wsV RX6 89 RX6 yX6_bad wsX6_bad) := goodIn_app (goodIn_of _ (by decide +kernel)) ggX6_worth_X6_bad
set_option maxRecDepth 20000 in
theorem ggX6_worth_X6_comesNow : GoodIn wsX6_worth wsX6_comesNow := goodIn_r _ [14, 15, 16, 17, 4, 18, 19, 20, 21, 22, 23, 24, 42, 43, 44, 45, 46, 47, 48, 49, 50, 51, 52, 53, 54, 55] (by decide +kernel) (by decide +kernel)
set_option maxRecDepth 20000 in
theorem gX6_worth_X6_comesNow : GoodIn wsX6_worth (wsV RX6 72 RX6 yX6_comesNow wsX6_comesNow) := goodIn_app (goodIn_of _ (by decide +kernel)) ggX6_worth_X6_comesNow
set_option maxRecDepth 20000 in
theorem ggX6_worth_X6_isDone : GoodIn wsX6_worth wsX6_isDone := goodIn_r _ [28, 15, 42, 43, 44, 45, 46, 47, 48, 49, 50, 51, 52, 53, 54, 55] (by decide +kernel) (by decide +kernel)
set_option maxRecDepth 20000 in
theorem gX6_worth_X6_isDone : GoodIn wsX6_worth (wsV RX6 83 RX6 yX6_isDone wsX6_isDone) := goodIn_app (goodIn_of _ (by decide +kernel)) ggX6_worth_X6_isDone
set_option maxRecDepth 20000 in
theorem ggX6_worth_X6_runsNow : GoodIn wsX6_worth wsX6_runsNow := goodIn_r _ [32, 15, 33, 34, 4, 35, 36, 37, 38, 39, 40, 41, 42, 43, 44, 45, 46, 47, 48, 49, 50, 51, 52, 53, 54, 55] (by decide +kernel) (by decide +kernel)
set_option maxRecDepth 20000 in
theorem gX6_worth_X6_runsNow : GoodIn wsX6_worth (wsV RX6 75 RX6 yX6_runsNow wsX6_runsNow) := goodIn_app (goodIn_of _ (by decide +kernel)) ggX6_worth_X6_runsNow
theorem dX6_worth_0 : decode cX6_worth 0 = .ok (.iload_n 1, 1) := by decide +kernel
theorem dX6_worth_1 : decode cX6_worth 1 = .ok (.i2l, 1) := by decide +kernel
theorem dX6_worth_2 : decode cX6_worth 2 = .ok (.lconst 0, 1) := by decide +kernel
theorem dX6_worth_3 : decode cX6_worth 3 = .ok (.ldc2_w 175, 3) := by decide +kernel
theorem dX6_worth_6 : decode cX6_worth 6 = .ok (.invokestatic 47, 3) := by decide +kernel
theorem dX6_worth_9 : decode cX6_worth 9 = .ok (.ifCond .eq 13, 3) := by decide +kernel
theorem dX6_worth_12 : decode cX6_worth 12 = .ok (.iload_n 2, 1) := by decide +kernel
theorem dX6_worth_13 : decode cX6_worth 13 = .ok (.i2l, 1) := by decide +kernel
theorem dX6_worth_14 : decode cX6_worth 14 = .ok (.lconst 0, 1) := by decide +kernel
theorem dX6_worth_15 : decode cX6_worth 15 = .ok (.lconst 1, 1) := by decide +kernel
theorem dX6_worth_16 : decode cX6_worth 16 = .ok (.invokestatic 47, 3) := by decide +kernel
theorem dX6_worth_19 : decode cX6_worth 19 = .ok (.ifCond .ne 10, 3) := by decide +kernel
theorem dX6_worth_22 : decode cX6_worth 22 = .ok (.aload_n 0, 1) := by decide +kernel
theorem dX6_worth_23 : decode cX6_worth 23 = .ok (.bipush (-2), 2) := by decide +kernel
theorem dX6_worth_25 : decode cX6_worth 25 = .ok (.invokevirtual 89, 3) := by decide +kernel
theorem dX6_worth_28 : decode cX6_worth 28 = .ok (.ireturn, 1) := by decide +kernel
theorem dX6_worth_29 : decode cX6_worth 29 = .ok (.aload_n 0, 1) := by decide +kernel
theorem dX6_worth_30 : decode cX6_worth 30 = .ok (.iconst 0, 1) := by decide +kernel
theorem dX6_worth_31 : decode cX6_worth 31 = .ok (.iload_n 1, 1) := by decide +kernel
theorem dX6_worth_32 : decode cX6_worth 32 = .ok (.invokevirtual 72, 3) := by decide +kernel
theorem dX6_worth_35 : decode cX6_worth 35 = .ok (.istore_n 3, 1) := by decide +kernel
theorem dX6_worth_36 : decode cX6_worth 36 = .ok (.iload_n 2, 1) := by decide +kernel
theorem dX6_worth_37 : decode cX6_worth 37 = .ok (.ifCond .ne 7, 3) := by decide +kernel
theorem dX6_worth_40 : decode cX6_worth 40 = .ok (.iload_n 3, 1) := by decide +kernel
theorem dX6_worth_41 : decode cX6_worth 41 = .ok (.goto 25, 3) := by decide +kernel
theorem dX6_worth_44 : decode cX6_worth 44 = .ok (.iload_n 3, 1) := by decide +kernel
theorem dX6_worth_45 : decode cX6_worth 45 = .ok (.ifCond .eq 11, 3) := by decide +kernel
theorem dX6_worth_48 : decode cX6_worth 48 = .ok (.aload_n 0, 1) := by decide +kernel
theorem dX6_worth_49 : decode cX6_worth 49 = .ok (.iconst 0, 1) := by decide +kernel
theorem dX6_worth_50 : decode cX6_worth 50 = .ok (.invokevirtual 83, 3) := by decide +kernel
theorem dX6_worth_53 : decode cX6_worth 53 = .ok (.ifCond .eq 7, 3) := by decide +kernel
theorem dX6_worth_56 : decode cX6_worth 56 = .ok (.iconst 0, 1) := by decide +kernel
theorem dX6_worth_57 : decode cX6_worth 57 = .ok (.goto 9, 3) := by decide +kernel
theorem dX6_worth_60 : decode cX6_worth 60 = .ok (.aload_n 0, 1) := by decide +kernel
theorem dX6_worth_61 : decode cX6_worth 61 = .ok (.iconst 0, 1) := by decide +kernel
theorem dX6_worth_62 : decode cX6_worth 62 = .ok (.iload_n 3, 1) := by decide +kernel
theorem dX6_worth_63 : decode cX6_worth 63 = .ok (.invokevirtual 75, 3) := by decide +kernel
theorem dX6_worth_66 : decode cX6_worth 66 = .ok (.ireturn, 1) := by decide +kernel
theorem dX6_tries_0 : decode cX6_tries 0 = .ok (.iconst 0, 1) := by decide +kernel
theorem dX6_tries_1 : decode cX6_tries 1 = .ok (.istore_n 1, 1) := by decide +kernel
theorem dX6_tries_2 : decode cX6_tries 2 = .ok (.iload_n 1, 1) := by decide +kernel
theorem dX6_tries_3 : decode cX6_tries 3 = .ok (.bipush 31, 2) := by decide +kernel
theorem dX6_tries_5 : decode cX6_tries 5 = .ok (.if_icmp .ge 25, 3) := by decide +kernel
theorem dX6_tries_8 : decode cX6_tries 8 = .ok (.aload_n 0, 1) := by decide +kernel
theorem dX6_tries_9 : decode cX6_tries 9 = .ok (.getfield 7, 3) := by decide +kernel
theorem dX6_tries_12 : decode cX6_tries 12 = .ok (.sipush 592, 3) := by decide +kernel
theorem dX6_tries_15 : decode cX6_tries 15 = .ok (.iload_n 1, 1) := by decide +kernel
theorem dX6_tries_16 : decode cX6_tries 16 = .ok (.iadd, 1) := by decide +kernel
theorem dX6_tries_17 : decode cX6_tries 17 = .ok (.aload_n 0, 1) := by decide +kernel
theorem dX6_tries_18 : decode cX6_tries 18 = .ok (.getfield 7, 3) := by decide +kernel
theorem dX6_tries_21 : decode cX6_tries 21 = .ok (.iload_n 1, 1) := by decide +kernel
theorem dX6_tries_22 : decode cX6_tries 22 = .ok (.iaload, 1) := by decide +kernel
theorem dX6_tries_23 : decode cX6_tries 23 = .ok (.iastore, 1) := by decide +kernel
theorem dX6_tries_24 : decode cX6_tries 24 = .ok (.iinc 1 1, 3) := by decide +kernel
theorem dX6_tries_27 : decode cX6_tries 27 = .ok (.goto (-25), 3) := by decide +kernel
theorem dX6_tries_30 : decode cX6_tries 30 = .ok (.return_, 1) := by decide +kernel
set_option maxRecDepth 20000 in
theorem ggX6_batsTried_X6_isDone : GoodIn wsX6_batsTried wsX6_isDone := goodIn_r _ [5, 6, 45, 46, 47, 48, 49, 50, 51, 52, 53, 54, 55, 56, 57, 58] (by decide +kernel) (by decide +kernel)
set_option maxRecDepth 20000 in
theorem gX6_batsTried_X6_isDone : GoodIn wsX6_batsTried (wsV RX6 83 RX6 yX6_isDone wsX6_isDone) := goodIn_app (goodIn_of _ (by decide +kernel)) ggX6_batsTried_X6_isDone
set_option maxRecDepth 20000 in
theorem ggX6_batsTried_X6_bats : GoodIn wsX6_batsTried wsX6_bats := goodIn_r _ [10, 6, 11, 12, 13, 14, 4, 15, 16, 17, 18, 19, 20, 21, 22, 23, 24, 25, 26, 27, 28, 29, 30, 31, 32, 33, 34, 35, 36, 37, 38, 39, 40, 41, 42, 43, 44, 45, 46, 47, 48, 49, 50, 51, 52, 53, 54, 55, 56, 57, 58] (by decide +kernel) (by decide +kernel)
set_option maxRecDepth 20000 in
theorem gX6_batsTried_X6_bats : GoodIn wsX6_batsTried (wsV RX6 143 RX6 yX6_bats wsX6_bats) := goodIn_app (goodIn_of _ (by decide +kernel)) ggX6_batsTried_X6_bats
theorem dX6_batsTried_0 : decode cX6_batsTried 0 = .ok (.aload_n 0, 1) := by decide +kernel
theorem dX6_batsTried_1 : decode cX6_batsTried 1 = .ok (.sipush 592, 3) := by decide +kernel
theorem dX6_batsTried_4 : decode cX6_batsTried 4 = .ok (.invokevirtual 83, 3) := by decide +kernel
theorem dX6_batsTried_7 : decode cX6_batsTried 7 = .ok (.ifCond .eq 7, 3) := by decide +kernel
theorem dX6_batsTried_10 : decode cX6_batsTried 10 = .ok (.iconst 0, 1) := by decide +kernel
theorem dX6_batsTried_11 : decode cX6_batsTried 11 = .ok (.goto 11, 3) := by decide +kernel
theorem dX6_batsTried_14 : decode cX6_batsTried 14 = .ok (.aload_n 0, 1) := by decide +kernel
theorem dX6_batsTried_15 : decode cX6_batsTried 15 = .ok (.sipush 592, 3) := by decide +kernel
theorem dX6_batsTried_18 : decode cX6_batsTried 18 = .ok (.iload_n 1, 1) := by decide +kernel
theorem dX6_batsTried_19 : decode cX6_batsTried 19 = .ok (.invokevirtual 143, 3) := by decide +kernel
theorem dX6_batsTried_22 : decode cX6_batsTried 22 = .ok (.ireturn, 1) := by decide +kernel
set_option maxRecDepth 20000 in
theorem ggX6_scoreTried_X6_batsTried : GoodIn wsX6_scoreTried wsX6_batsTried := goodIn_r _ [6, 7, 8, 9, 5, 10, 1, 11, 12, 13, 14, 15, 16, 17, 18, 19, 20, 21, 22, 23, 24, 25, 26, 27, 28, 29, 30, 31, 32, 33, 34, 35, 36, 37, 38, 39, 40, 41, 42, 43, 44, 45, 46, 47, 48, 49, 50, 51, 52, 53, 54, 55, 56, 57, 58, 59, 60, 61, 62] (by decide +kernel) (by decide +kernel)
set_option maxRecDepth 20000 in
theorem gX6_scoreTried_X6_batsTried : GoodIn wsX6_scoreTried (wsV RX6 188 RX6 yX6_batsTried wsX6_batsTried) := goodIn_app (goodIn_of _ (by decide +kernel)) ggX6_scoreTried_X6_batsTried
theorem dX6_scoreTried_0 : decode cX6_scoreTried 0 = .ok (.iconst 0, 1) := by decide +kernel
theorem dX6_scoreTried_1 : decode cX6_scoreTried 1 = .ok (.istore_n 2, 1) := by decide +kernel
theorem dX6_scoreTried_2 : decode cX6_scoreTried 2 = .ok (.iconst 0, 1) := by decide +kernel
theorem dX6_scoreTried_3 : decode cX6_scoreTried 3 = .ok (.istore_n 3, 1) := by decide +kernel
theorem dX6_scoreTried_4 : decode cX6_scoreTried 4 = .ok (.iload_n 3, 1) := by decide +kernel
theorem dX6_scoreTried_5 : decode cX6_scoreTried 5 = .ok (.iload_n 1, 1) := by decide +kernel
theorem dX6_scoreTried_6 : decode cX6_scoreTried 6 = .ok (.if_icmp .ge 25, 3) := by decide +kernel
theorem dX6_scoreTried_9 : decode cX6_scoreTried 9 = .ok (.iload_n 2, 1) := by decide +kernel
theorem dX6_scoreTried_10 : decode cX6_scoreTried 10 = .ok (.aload_n 0, 1) := by decide +kernel
theorem dX6_scoreTried_11 : decode cX6_scoreTried 11 = .ok (.aload_n 0, 1) := by decide +kernel
theorem dX6_scoreTried_12 : decode cX6_scoreTried 12 = .ok (.getfield 7, 3) := by decide +kernel
theorem dX6_scoreTried_15 : decode cX6_scoreTried 15 = .ok (.bipush 23, 2) := by decide +kernel
theorem dX6_scoreTried_17 : decode cX6_scoreTried 17 = .ok (.iload_n 3, 1) := by decide +kernel
theorem dX6_scoreTried_18 : decode cX6_scoreTried 18 = .ok (.iadd, 1) := by decide +kernel
theorem dX6_scoreTried_19 : decode cX6_scoreTried 19 = .ok (.iaload, 1) := by decide +kernel
theorem dX6_scoreTried_20 : decode cX6_scoreTried 20 = .ok (.invokevirtual 188, 3) := by decide +kernel
theorem dX6_scoreTried_23 : decode cX6_scoreTried 23 = .ok (.iadd, 1) := by decide +kernel
theorem dX6_scoreTried_24 : decode cX6_scoreTried 24 = .ok (.istore_n 2, 1) := by decide +kernel
theorem dX6_scoreTried_25 : decode cX6_scoreTried 25 = .ok (.iinc 3 1, 3) := by decide +kernel
theorem dX6_scoreTried_28 : decode cX6_scoreTried 28 = .ok (.goto (-24), 3) := by decide +kernel
theorem dX6_scoreTried_31 : decode cX6_scoreTried 31 = .ok (.iload_n 2, 1) := by decide +kernel
theorem dX6_scoreTried_32 : decode cX6_scoreTried 32 = .ok (.ireturn, 1) := by decide +kernel
set_option maxRecDepth 20000 in
theorem ggX6_score_X6_in : GoodIn wsX6_score wsX6_in := goodIn_r _ [5] (by decide +kernel) (by decide +kernel)
set_option maxRecDepth 20000 in
theorem gX6_score_X6_in : GoodIn wsX6_score (va_wsS RX6 47 yX6_in wsX6_in) := goodIn_app (goodIn_of _ (by decide +kernel)) ggX6_score_X6_in
set_option maxRecDepth 20000 in
theorem ggX6_score_X6_bad : GoodIn wsX6_score wsX6_bad := goodIn_r _ [9, 10, 63, 64, 65, 66, 67, 68, 69, 70, 71, 72, 73, 74, 75, 76] (by decide +kernel) (by decide +kernel)
set_option maxRecDepth 20000 in
theorem gX6_score_X6_bad : GoodIn wsX6_score (wsV RX6 89 RX6 yX6_bad wsX6_bad) := goodIn_app (goodIn_of _ (by decide +kernel)) ggX6_score_X6_bad
set_option maxRecDepth 20000 in
theorem ggX6_score_X6_tries : GoodIn wsX6_score wsX6_tries := goodIn_r _ [14, 15, 63, 64, 65, 66, 67, 68, 69, 70, 71, 72, 73, 74, 75, 76] (by decide +kernel) (by decide +kernel)
set_option maxRecDepth 20000 in
theorem gX6_score_X6_tries : GoodIn wsX6_score (wsV RX6 193 RX6 yX6_tries wsX6_tries) := goodIn_app (goodIn_of _ (by decide +kernel)) ggX6_score_X6_tries
set_option maxRecDepth 20000 in
theorem ggX6_score_X6_scoreTried : GoodIn wsX6_score wsX6_scoreTried := goodIn_r _ [19, 15, 20, 21, 22, 4, 23, 24, 25, 26, 27, 28, 29, 30, 31, 32, 33, 34, 35, 36, 37, 38, 39, 40, 41, 42, 43, 44, 45, 46, 47, 48, 49, 50, 51, 52, 53, 54, 55, 56, 57, 58, 2, 3, 5, 59, 60, 61, 62, 63, 64, 65, 66, 67, 68, 69, 70, 71, 72, 73, 74, 75, 76] (by decide +kernel) (by decide +kernel)
set_option maxRecDepth 20000 in
theorem gX6_score_X6_scoreTried : GoodIn wsX6_score (wsV RX6 196 RX6 yX6_scoreTried wsX6_scoreTried) := goodIn_app (goodIn_of _ (by decide +kernel)) ggX6_score_X6_scoreTried
theorem dX6_score_0 : decode cX6_score 0 = .ok (.iload_n 1, 1) := by decide +kernel
theorem dX6_score_1 : decode cX6_score 1 = .ok (.i2l, 1) := by decide +kernel
theorem dX6_score_2 : decode cX6_score 2 = .ok (.lconst 0, 1) := by decide +kernel
theorem dX6_score_3 : decode cX6_score 3 = .ok (.ldc2_w 191, 3) := by decide +kernel
theorem dX6_score_6 : decode cX6_score 6 = .ok (.invokestatic 47, 3) := by decide +kernel
theorem dX6_score_9 : decode cX6_score 9 = .ok (.ifCond .ne 10, 3) := by decide +kernel
theorem dX6_score_12 : decode cX6_score 12 = .ok (.aload_n 0, 1) := by decide +kernel
theorem dX6_score_13 : decode cX6_score 13 = .ok (.bipush (-2), 2) := by decide +kernel
theorem dX6_score_15 : decode cX6_score 15 = .ok (.invokevirtual 89, 3) := by decide +kernel
theorem dX6_score_18 : decode cX6_score 18 = .ok (.ireturn, 1) := by decide +kernel
theorem dX6_score_19 : decode cX6_score 19 = .ok (.aload_n 0, 1) := by decide +kernel
theorem dX6_score_20 : decode cX6_score 20 = .ok (.invokevirtual 193, 3) := by decide +kernel
theorem dX6_score_23 : decode cX6_score 23 = .ok (.aload_n 0, 1) := by decide +kernel
theorem dX6_score_24 : decode cX6_score 24 = .ok (.iload_n 1, 1) := by decide +kernel
theorem dX6_score_25 : decode cX6_score 25 = .ok (.invokevirtual 196, 3) := by decide +kernel
theorem dX6_score_28 : decode cX6_score 28 = .ok (.ireturn, 1) := by decide +kernel
set_option maxRecDepth 20000 in
theorem ggX6_nextLine_X6_swaps : GoodIn wsX6_nextLine wsX6_swaps := goodIn_r _ [6, 1, 7, 8, 9, 10, 11, 12, 13, 14, 15, 16, 17, 18, 19, 20] (by decide +kernel) (by decide +kernel)
set_option maxRecDepth 20000 in
theorem gX6_nextLine_X6_swaps : GoodIn wsX6_nextLine (wsV RX6 199 RX6 yX6_swaps wsX6_swaps) := goodIn_app (goodIn_of _ (by decide +kernel)) ggX6_nextLine_X6_swaps
theorem dX6_nextLine_0 : decode cX6_nextLine 0 = .ok (.iload_n 1, 1) := by decide +kernel
theorem dX6_nextLine_1 : decode cX6_nextLine 1 = .ok (.iconst 2, 1) := by decide +kernel
theorem dX6_nextLine_2 : decode cX6_nextLine 2 = .ok (.isub, 1) := by decide +kernel
theorem dX6_nextLine_3 : decode cX6_nextLine 3 = .ok (.istore_n 2, 1) := by decide +kernel
theorem dX6_nextLine_4 : decode cX6_nextLine 4 = .ok (.iload_n 2, 1) := by decide +kernel
theorem dX6_nextLine_5 : decode cX6_nextLine 5 = .ok (.ifCond .lt 26, 3) := by decide +kernel
theorem dX6_nextLine_8 : decode cX6_nextLine 8 = .ok (.aload_n 0, 1) := by decide +kernel
theorem dX6_nextLine_9 : decode cX6_nextLine 9 = .ok (.getfield 30, 3) := by decide +kernel
theorem dX6_nextLine_12 : decode cX6_nextLine 12 = .ok (.iload_n 2, 1) := by decide +kernel
theorem dX6_nextLine_13 : decode cX6_nextLine 13 = .ok (.iaload, 1) := by decide +kernel
theorem dX6_nextLine_14 : decode cX6_nextLine 14 = .ok (.aload_n 0, 1) := by decide +kernel
theorem dX6_nextLine_15 : decode cX6_nextLine 15 = .ok (.getfield 30, 3) := by decide +kernel
theorem dX6_nextLine_18 : decode cX6_nextLine 18 = .ok (.iload_n 2, 1) := by decide +kernel
theorem dX6_nextLine_19 : decode cX6_nextLine 19 = .ok (.iconst 1, 1) := by decide +kernel
theorem dX6_nextLine_20 : decode cX6_nextLine 20 = .ok (.iadd, 1) := by decide +kernel
theorem dX6_nextLine_21 : decode cX6_nextLine 21 = .ok (.iaload, 1) := by decide +kernel
theorem dX6_nextLine_22 : decode cX6_nextLine 22 = .ok (.if_icmp .le 9, 3) := by decide +kernel
theorem dX6_nextLine_25 : decode cX6_nextLine 25 = .ok (.iinc 2 (-1), 3) := by decide +kernel
theorem dX6_nextLine_28 : decode cX6_nextLine 28 = .ok (.goto (-24), 3) := by decide +kernel
theorem dX6_nextLine_31 : decode cX6_nextLine 31 = .ok (.iload_n 2, 1) := by decide +kernel
theorem dX6_nextLine_32 : decode cX6_nextLine 32 = .ok (.ifCond .ge 5, 3) := by decide +kernel
theorem dX6_nextLine_35 : decode cX6_nextLine 35 = .ok (.iconst 0, 1) := by decide +kernel
theorem dX6_nextLine_36 : decode cX6_nextLine 36 = .ok (.ireturn, 1) := by decide +kernel
theorem dX6_nextLine_37 : decode cX6_nextLine 37 = .ok (.iload_n 1, 1) := by decide +kernel
theorem dX6_nextLine_38 : decode cX6_nextLine 38 = .ok (.iconst 1, 1) := by decide +kernel
theorem dX6_nextLine_39 : decode cX6_nextLine 39 = .ok (.isub, 1) := by decide +kernel
theorem dX6_nextLine_40 : decode cX6_nextLine 40 = .ok (.istore_n 3, 1) := by decide +kernel
theorem dX6_nextLine_41 : decode cX6_nextLine 41 = .ok (.aload_n 0, 1) := by decide +kernel
theorem dX6_nextLine_42 : decode cX6_nextLine 42 = .ok (.getfield 30, 3) := by decide +kernel
theorem dX6_nextLine_45 : decode cX6_nextLine 45 = .ok (.iload_n 3, 1) := by decide +kernel
theorem dX6_nextLine_46 : decode cX6_nextLine 46 = .ok (.iaload, 1) := by decide +kernel
theorem dX6_nextLine_47 : decode cX6_nextLine 47 = .ok (.aload_n 0, 1) := by decide +kernel
theorem dX6_nextLine_48 : decode cX6_nextLine 48 = .ok (.getfield 30, 3) := by decide +kernel
theorem dX6_nextLine_51 : decode cX6_nextLine 51 = .ok (.iload_n 2, 1) := by decide +kernel
theorem dX6_nextLine_52 : decode cX6_nextLine 52 = .ok (.iaload, 1) := by decide +kernel
theorem dX6_nextLine_53 : decode cX6_nextLine 53 = .ok (.if_icmp .ge 9, 3) := by decide +kernel
theorem dX6_nextLine_56 : decode cX6_nextLine 56 = .ok (.iinc 3 (-1), 3) := by decide +kernel
theorem dX6_nextLine_59 : decode cX6_nextLine 59 = .ok (.goto (-18), 3) := by decide +kernel
theorem dX6_nextLine_62 : decode cX6_nextLine 62 = .ok (.aload_n 0, 1) := by decide +kernel
theorem dX6_nextLine_63 : decode cX6_nextLine 63 = .ok (.iload_n 2, 1) := by decide +kernel
theorem dX6_nextLine_64 : decode cX6_nextLine 64 = .ok (.iload_n 3, 1) := by decide +kernel
theorem dX6_nextLine_65 : decode cX6_nextLine 65 = .ok (.invokevirtual 199, 3) := by decide +kernel
theorem dX6_nextLine_68 : decode cX6_nextLine 68 = .ok (.iload_n 2, 1) := by decide +kernel
theorem dX6_nextLine_69 : decode cX6_nextLine 69 = .ok (.iconst 1, 1) := by decide +kernel
theorem dX6_nextLine_70 : decode cX6_nextLine 70 = .ok (.iadd, 1) := by decide +kernel
theorem dX6_nextLine_71 : decode cX6_nextLine 71 = .ok (.istore 4, 2) := by decide +kernel
theorem dX6_nextLine_73 : decode cX6_nextLine 73 = .ok (.iload_n 1, 1) := by decide +kernel
theorem dX6_nextLine_74 : decode cX6_nextLine 74 = .ok (.iconst 1, 1) := by decide +kernel
theorem dX6_nextLine_75 : decode cX6_nextLine 75 = .ok (.isub, 1) := by decide +kernel
theorem dX6_nextLine_76 : decode cX6_nextLine 76 = .ok (.istore 5, 2) := by decide +kernel
theorem dX6_nextLine_78 : decode cX6_nextLine 78 = .ok (.iload 4, 2) := by decide +kernel
theorem dX6_nextLine_80 : decode cX6_nextLine 80 = .ok (.iload 5, 2) := by decide +kernel
theorem dX6_nextLine_82 : decode cX6_nextLine 82 = .ok (.if_icmp .ge 20, 3) := by decide +kernel
theorem dX6_nextLine_85 : decode cX6_nextLine 85 = .ok (.aload_n 0, 1) := by decide +kernel
theorem dX6_nextLine_86 : decode cX6_nextLine 86 = .ok (.iload 4, 2) := by decide +kernel
theorem dX6_nextLine_88 : decode cX6_nextLine 88 = .ok (.iload 5, 2) := by decide +kernel
theorem dX6_nextLine_90 : decode cX6_nextLine 90 = .ok (.invokevirtual 199, 3) := by decide +kernel
theorem dX6_nextLine_93 : decode cX6_nextLine 93 = .ok (.iinc 4 1, 3) := by decide +kernel
theorem dX6_nextLine_96 : decode cX6_nextLine 96 = .ok (.iinc 5 (-1), 3) := by decide +kernel
theorem dX6_nextLine_99 : decode cX6_nextLine 99 = .ok (.goto (-21), 3) := by decide +kernel
theorem dX6_nextLine_102 : decode cX6_nextLine 102 = .ok (.iconst 1, 1) := by decide +kernel
theorem dX6_nextLine_103 : decode cX6_nextLine 103 = .ok (.ireturn, 1) := by decide +kernel
theorem dX6_swaps_0 : decode cX6_swaps 0 = .ok (.aload_n 0, 1) := by decide +kernel
theorem dX6_swaps_1 : decode cX6_swaps 1 = .ok (.getfield 30, 3) := by decide +kernel
theorem dX6_swaps_4 : decode cX6_swaps 4 = .ok (.iload_n 1, 1) := by decide +kernel
theorem dX6_swaps_5 : decode cX6_swaps 5 = .ok (.iaload, 1) := by decide +kernel
theorem dX6_swaps_6 : decode cX6_swaps 6 = .ok (.istore_n 3, 1) := by decide +kernel
theorem dX6_swaps_7 : decode cX6_swaps 7 = .ok (.aload_n 0, 1) := by decide +kernel
theorem dX6_swaps_8 : decode cX6_swaps 8 = .ok (.getfield 30, 3) := by decide +kernel
theorem dX6_swaps_11 : decode cX6_swaps 11 = .ok (.iload_n 1, 1) := by decide +kernel
theorem dX6_swaps_12 : decode cX6_swaps 12 = .ok (.aload_n 0, 1) := by decide +kernel
theorem dX6_swaps_13 : decode cX6_swaps 13 = .ok (.getfield 30, 3) := by decide +kernel
theorem dX6_swaps_16 : decode cX6_swaps 16 = .ok (.iload_n 2, 1) := by decide +kernel
theorem dX6_swaps_17 : decode cX6_swaps 17 = .ok (.iaload, 1) := by decide +kernel
theorem dX6_swaps_18 : decode cX6_swaps 18 = .ok (.iastore, 1) := by decide +kernel
theorem dX6_swaps_19 : decode cX6_swaps 19 = .ok (.aload_n 0, 1) := by decide +kernel
theorem dX6_swaps_20 : decode cX6_swaps 20 = .ok (.getfield 30, 3) := by decide +kernel
theorem dX6_swaps_23 : decode cX6_swaps 23 = .ok (.iload_n 2, 1) := by decide +kernel
theorem dX6_swaps_24 : decode cX6_swaps 24 = .ok (.iload_n 3, 1) := by decide +kernel
theorem dX6_swaps_25 : decode cX6_swaps 25 = .ok (.iastore, 1) := by decide +kernel
theorem dX6_swaps_26 : decode cX6_swaps 26 = .ok (.return_, 1) := by decide +kernel
set_option maxRecDepth 20000 in
theorem ggX6_scoreInLine_X6_tries : GoodIn wsX6_scoreInLine wsX6_tries := goodIn_r _ [7, 1, 58, 59, 60, 61, 62, 63, 64, 65, 66, 67, 68, 69, 70, 71] (by decide +kernel) (by decide +kernel)
set_option maxRecDepth 20000 in
theorem gX6_scoreInLine_X6_tries : GoodIn wsX6_scoreInLine (wsV RX6 193 RX6 yX6_tries wsX6_tries) := goodIn_app (goodIn_of _ (by decide +kernel)) ggX6_scoreInLine_X6_tries
set_option maxRecDepth 20000 in
theorem ggX6_scoreInLine_X6_scoreTried : GoodIn wsX6_scoreInLine wsX6_scoreTried := goodIn_r _ [11, 1, 12, 13, 14, 6, 15, 16, 17, 18, 19, 20, 21, 22, 23, 24, 25, 26, 27, 28, 29, 30, 31, 32, 33, 34, 35, 36, 37, 38, 39, 40, 41, 42, 43, 44, 45, 46, 47, 48, 49, 50, 51, 52, 53, 54, 55, 56, 57, 58, 59, 60, 61, 62, 63, 64, 65, 66, 67, 68, 69, 70, 71] (by decide +kernel) (by decide +kernel)
set_option maxRecDepth 20000 in
theorem gX6_scoreInLine_X6_scoreTried : GoodIn wsX6_scoreInLine (wsV RX6 196 RX6 yX6_scoreTried wsX6_scoreTried) := goodIn_app (goodIn_of _ (by decide +kernel)) ggX6_scoreInLine_X6_scoreTried
theorem dX6_scoreInLine_0 : decode cX6_scoreInLine 0 = .ok (.aload_n 0, 1) := by decide +kernel
theorem dX6_scoreInLine_1 : decode cX6_scoreInLine 1 = .ok (.invokevirtual 193, 3) := by decide +kernel
theorem dX6_scoreInLine_4 : decode cX6_scoreInLine 4 = .ok (.iconst 0, 1) := by decide +kernel
theorem dX6_scoreInLine_5 : decode cX6_scoreInLine 5 = .ok (.istore_n 2, 1) := by decide +kernel
theorem dX6_scoreInLine_6 : decode cX6_scoreInLine 6 = .ok (.iload_n 2, 1) := by decide +kernel
theorem dX6_scoreInLine_7 : decode cX6_scoreInLine 7 = .ok (.aload_n 0, 1) := by decide +kernel
theorem dX6_scoreInLine_8 : decode cX6_scoreInLine 8 = .ok (.getfield 7, 3) := by decide +kernel
theorem dX6_scoreInLine_11 : decode cX6_scoreInLine 11 = .ok (.iconst 0, 1) := by decide +kernel
theorem dX6_scoreInLine_12 : decode cX6_scoreInLine 12 = .ok (.iaload, 1) := by decide +kernel
theorem dX6_scoreInLine_13 : decode cX6_scoreInLine 13 = .ok (.if_icmp .ge 67, 3) := by decide +kernel
theorem dX6_scoreInLine_16 : decode cX6_scoreInLine 16 = .ok (.aload_n 0, 1) := by decide +kernel
theorem dX6_scoreInLine_17 : decode cX6_scoreInLine 17 = .ok (.getfield 7, 3) := by decide +kernel
theorem dX6_scoreInLine_20 : decode cX6_scoreInLine 20 = .ok (.sipush 597, 3) := by decide +kernel
theorem dX6_scoreInLine_23 : decode cX6_scoreInLine 23 = .ok (.iload_n 2, 1) := by decide +kernel
theorem dX6_scoreInLine_24 : decode cX6_scoreInLine 24 = .ok (.iadd, 1) := by decide +kernel
theorem dX6_scoreInLine_25 : decode cX6_scoreInLine 25 = .ok (.aload_n 0, 1) := by decide +kernel
theorem dX6_scoreInLine_26 : decode cX6_scoreInLine 26 = .ok (.getfield 7, 3) := by decide +kernel
theorem dX6_scoreInLine_29 : decode cX6_scoreInLine 29 = .ok (.iconst 5, 1) := by decide +kernel
theorem dX6_scoreInLine_30 : decode cX6_scoreInLine 30 = .ok (.aload_n 0, 1) := by decide +kernel
theorem dX6_scoreInLine_31 : decode cX6_scoreInLine 31 = .ok (.getfield 30, 3) := by decide +kernel
theorem dX6_scoreInLine_34 : decode cX6_scoreInLine 34 = .ok (.iload_n 2, 1) := by decide +kernel
theorem dX6_scoreInLine_35 : decode cX6_scoreInLine 35 = .ok (.iaload, 1) := by decide +kernel
theorem dX6_scoreInLine_36 : decode cX6_scoreInLine 36 = .ok (.iadd, 1) := by decide +kernel
theorem dX6_scoreInLine_37 : decode cX6_scoreInLine 37 = .ok (.iaload, 1) := by decide +kernel
theorem dX6_scoreInLine_38 : decode cX6_scoreInLine 38 = .ok (.iastore, 1) := by decide +kernel
theorem dX6_scoreInLine_39 : decode cX6_scoreInLine 39 = .ok (.aload_n 0, 1) := by decide +kernel
theorem dX6_scoreInLine_40 : decode cX6_scoreInLine 40 = .ok (.getfield 7, 3) := by decide +kernel
theorem dX6_scoreInLine_43 : decode cX6_scoreInLine 43 = .ok (.sipush 603, 3) := by decide +kernel
theorem dX6_scoreInLine_46 : decode cX6_scoreInLine 46 = .ok (.iload_n 2, 1) := by decide +kernel
theorem dX6_scoreInLine_47 : decode cX6_scoreInLine 47 = .ok (.iadd, 1) := by decide +kernel
theorem dX6_scoreInLine_48 : decode cX6_scoreInLine 48 = .ok (.aload_n 0, 1) := by decide +kernel
theorem dX6_scoreInLine_49 : decode cX6_scoreInLine 49 = .ok (.getfield 7, 3) := by decide +kernel
theorem dX6_scoreInLine_52 : decode cX6_scoreInLine 52 = .ok (.bipush 11, 2) := by decide +kernel
theorem dX6_scoreInLine_54 : decode cX6_scoreInLine 54 = .ok (.aload_n 0, 1) := by decide +kernel
theorem dX6_scoreInLine_55 : decode cX6_scoreInLine 55 = .ok (.getfield 30, 3) := by decide +kernel
theorem dX6_scoreInLine_58 : decode cX6_scoreInLine 58 = .ok (.iload_n 2, 1) := by decide +kernel
theorem dX6_scoreInLine_59 : decode cX6_scoreInLine 59 = .ok (.iaload, 1) := by decide +kernel
theorem dX6_scoreInLine_60 : decode cX6_scoreInLine 60 = .ok (.iadd, 1) := by decide +kernel
theorem dX6_scoreInLine_61 : decode cX6_scoreInLine 61 = .ok (.iaload, 1) := by decide +kernel
theorem dX6_scoreInLine_62 : decode cX6_scoreInLine 62 = .ok (.iastore, 1) := by decide +kernel
theorem dX6_scoreInLine_63 : decode cX6_scoreInLine 63 = .ok (.aload_n 0, 1) := by decide +kernel
theorem dX6_scoreInLine_64 : decode cX6_scoreInLine 64 = .ok (.getfield 7, 3) := by decide +kernel
theorem dX6_scoreInLine_67 : decode cX6_scoreInLine 67 = .ok (.sipush 609, 3) := by decide +kernel
theorem dX6_scoreInLine_70 : decode cX6_scoreInLine 70 = .ok (.iload_n 2, 1) := by decide +kernel
theorem dX6_scoreInLine_71 : decode cX6_scoreInLine 71 = .ok (.iadd, 1) := by decide +kernel
theorem dX6_scoreInLine_72 : decode cX6_scoreInLine 72 = .ok (.iconst 0, 1) := by decide +kernel
theorem dX6_scoreInLine_73 : decode cX6_scoreInLine 73 = .ok (.iastore, 1) := by decide +kernel
theorem dX6_scoreInLine_74 : decode cX6_scoreInLine 74 = .ok (.iinc 2 1, 3) := by decide +kernel
theorem dX6_scoreInLine_77 : decode cX6_scoreInLine 77 = .ok (.goto (-71), 3) := by decide +kernel
theorem dX6_scoreInLine_80 : decode cX6_scoreInLine 80 = .ok (.aload_n 0, 1) := by decide +kernel
theorem dX6_scoreInLine_81 : decode cX6_scoreInLine 81 = .ok (.getfield 7, 3) := by decide +kernel
theorem dX6_scoreInLine_84 : decode cX6_scoreInLine 84 = .ok (.sipush 594, 3) := by decide +kernel
theorem dX6_scoreInLine_87 : decode cX6_scoreInLine 87 = .ok (.iconst 0, 1) := by decide +kernel
theorem dX6_scoreInLine_88 : decode cX6_scoreInLine 88 = .ok (.iastore, 1) := by decide +kernel
theorem dX6_scoreInLine_89 : decode cX6_scoreInLine 89 = .ok (.aload_n 0, 1) := by decide +kernel
theorem dX6_scoreInLine_90 : decode cX6_scoreInLine 90 = .ok (.iload_n 1, 1) := by decide +kernel
theorem dX6_scoreInLine_91 : decode cX6_scoreInLine 91 = .ok (.invokevirtual 196, 3) := by decide +kernel
theorem dX6_scoreInLine_94 : decode cX6_scoreInLine 94 = .ok (.ireturn, 1) := by decide +kernel
set_option maxRecDepth 20000 in
theorem ggX6_order_X6_in : GoodIn wsX6_order wsX6_in := goodIn_r _ [8] (by decide +kernel) (by decide +kernel)
set_option maxRecDepth 20000 in
theorem gX6_order_X6_in : GoodIn wsX6_order (va_wsS RX6 47 yX6_in wsX6_in) := goodIn_app (goodIn_of _ (by decide +kernel)) ggX6_order_X6_in
set_option maxRecDepth 20000 in
theorem ggX6_order_X6_bad : GoodIn wsX6_order wsX6_bad := goodIn_r _ [12, 13, 77, 78, 79, 80, 81, 82, 83, 84, 85, 86, 87, 88, 89, 90] (by decide +kernel) (by decide +kernel)
set_option maxRecDepth 20000 in
theorem gX6_order_X6_bad : GoodIn wsX6_order (wsV RX6 89 RX6 yX6_bad wsX6_bad) := goodIn_app (goodIn_of _ (by decide +kernel)) ggX6_order_X6_bad
set_option maxRecDepth 20000 in
theorem ggX6_order_X6_scoreInLine : GoodIn wsX6_order wsX6_scoreInLine := goodIn_r _ [17, 2, 3, 18, 19, 20, 7, 21, 22, 23, 24, 25, 26, 27, 28, 29, 30, 31, 32, 33, 34, 35, 36, 37, 38, 39, 40, 41, 42, 43, 44, 45, 46, 47, 48, 49, 50, 51, 52, 53, 54, 55, 56, 57, 58, 59, 60, 61, 62, 63, 64, 5, 6, 8, 65, 66, 67, 68, 77, 78, 79, 80, 81, 82, 83, 84, 85, 86, 87, 88, 89, 90] (by decide +kernel) (by decide +kernel)
set_option maxRecDepth 20000 in
theorem gX6_order_X6_scoreInLine : GoodIn wsX6_order (wsV RX6 202 RX6 yX6_scoreInLine wsX6_scoreInLine) := goodIn_app (goodIn_of _ (by decide +kernel)) ggX6_order_X6_scoreInLine
set_option maxRecDepth 20000 in
theorem ggX6_order_X6_nextLine : GoodIn wsX6_order wsX6_nextLine := goodIn_r _ [72, 3, 73, 74, 75, 7, 76, 77, 78, 79, 80, 81, 82, 83, 84, 85, 86, 87, 88, 89, 90] (by decide +kernel) (by decide +kernel)
set_option maxRecDepth 20000 in
theorem gX6_order_X6_nextLine : GoodIn wsX6_order (wsV RX6 205 RX6 yX6_nextLine wsX6_nextLine) := goodIn_app (goodIn_of _ (by decide +kernel)) ggX6_order_X6_nextLine
theorem dX6_order_0 : decode cX6_order 0 = .ok (.iload_n 1, 1) := by decide +kernel
theorem dX6_order_1 : decode cX6_order 1 = .ok (.i2l, 1) := by decide +kernel
theorem dX6_order_2 : decode cX6_order 2 = .ok (.lconst 1, 1) := by decide +kernel
theorem dX6_order_3 : decode cX6_order 3 = .ok (.ldc2_w 191, 3) := by decide +kernel
theorem dX6_order_6 : decode cX6_order 6 = .ok (.invokestatic 47, 3) := by decide +kernel
theorem dX6_order_9 : decode cX6_order 9 = .ok (.ifCond .eq 8, 3) := by decide +kernel
theorem dX6_order_12 : decode cX6_order 12 = .ok (.iload_n 2, 1) := by decide +kernel
theorem dX6_order_13 : decode cX6_order 13 = .ok (.iconst (-1), 1) := by decide +kernel
theorem dX6_order_14 : decode cX6_order 14 = .ok (.if_icmp .ge 10, 3) := by decide +kernel
theorem dX6_order_17 : decode cX6_order 17 = .ok (.aload_n 0, 1) := by decide +kernel
theorem dX6_order_18 : decode cX6_order 18 = .ok (.bipush (-10), 2) := by decide +kernel
theorem dX6_order_20 : decode cX6_order 20 = .ok (.invokevirtual 89, 3) := by decide +kernel
theorem dX6_order_23 : decode cX6_order 23 = .ok (.ireturn, 1) := by decide +kernel
theorem dX6_order_24 : decode cX6_order 24 = .ok (.aload_n 0, 1) := by decide +kernel
theorem dX6_order_25 : decode cX6_order 25 = .ok (.getfield 7, 3) := by decide +kernel
theorem dX6_order_28 : decode cX6_order 28 = .ok (.iconst 0, 1) := by decide +kernel
theorem dX6_order_29 : decode cX6_order 29 = .ok (.iaload, 1) := by decide +kernel
theorem dX6_order_30 : decode cX6_order 30 = .ok (.ifCond .ne 15, 3) := by decide +kernel
theorem dX6_order_33 : decode cX6_order 33 = .ok (.iload_n 2, 1) := by decide +kernel
theorem dX6_order_34 : decode cX6_order 34 = .ok (.iconst (-1), 1) := by decide +kernel
theorem dX6_order_35 : decode cX6_order 35 = .ok (.if_icmp .ne 7, 3) := by decide +kernel
theorem dX6_order_38 : decode cX6_order 38 = .ok (.iconst 0, 1) := by decide +kernel
theorem dX6_order_39 : decode cX6_order 39 = .ok (.goto 5, 3) := by decide +kernel
theorem dX6_order_42 : decode cX6_order 42 = .ok (.bipush (-5), 2) := by decide +kernel
theorem dX6_order_44 : decode cX6_order 44 = .ok (.ireturn, 1) := by decide +kernel
theorem dX6_order_45 : decode cX6_order 45 = .ok (.iconst 0, 1) := by decide +kernel
theorem dX6_order_46 : decode cX6_order 46 = .ok (.istore_n 3, 1) := by decide +kernel
theorem dX6_order_47 : decode cX6_order 47 = .ok (.iload_n 3, 1) := by decide +kernel
theorem dX6_order_48 : decode cX6_order 48 = .ok (.bipush 6, 2) := by decide +kernel
theorem dX6_order_50 : decode cX6_order 50 = .ok (.if_icmp .ge 16, 3) := by decide +kernel
theorem dX6_order_53 : decode cX6_order 53 = .ok (.aload_n 0, 1) := by decide +kernel
theorem dX6_order_54 : decode cX6_order 54 = .ok (.getfield 30, 3) := by decide +kernel
theorem dX6_order_57 : decode cX6_order 57 = .ok (.iload_n 3, 1) := by decide +kernel
theorem dX6_order_58 : decode cX6_order 58 = .ok (.iload_n 3, 1) := by decide +kernel
theorem dX6_order_59 : decode cX6_order 59 = .ok (.iastore, 1) := by decide +kernel
theorem dX6_order_60 : decode cX6_order 60 = .ok (.iinc 3 1, 3) := by decide +kernel
theorem dX6_order_63 : decode cX6_order 63 = .ok (.goto (-16), 3) := by decide +kernel
theorem dX6_order_66 : decode cX6_order 66 = .ok (.iconst (-1), 1) := by decide +kernel
theorem dX6_order_67 : decode cX6_order 67 = .ok (.istore_n 3, 1) := by decide +kernel
theorem dX6_order_68 : decode cX6_order 68 = .ok (.iconst 1, 1) := by decide +kernel
theorem dX6_order_69 : decode cX6_order 69 = .ok (.istore 4, 2) := by decide +kernel
theorem dX6_order_71 : decode cX6_order 71 = .ok (.iload 4, 2) := by decide +kernel
theorem dX6_order_73 : decode cX6_order 73 = .ok (.ifCond .eq 74, 3) := by decide +kernel
theorem dX6_order_76 : decode cX6_order 76 = .ok (.aload_n 0, 1) := by decide +kernel
theorem dX6_order_77 : decode cX6_order 77 = .ok (.iload_n 1, 1) := by decide +kernel
theorem dX6_order_78 : decode cX6_order 78 = .ok (.invokevirtual 202, 3) := by decide +kernel
theorem dX6_order_81 : decode cX6_order 81 = .ok (.istore 5, 2) := by decide +kernel
theorem dX6_order_83 : decode cX6_order 83 = .ok (.iconst 0, 1) := by decide +kernel
theorem dX6_order_84 : decode cX6_order 84 = .ok (.istore 6, 2) := by decide +kernel
theorem dX6_order_86 : decode cX6_order 86 = .ok (.iload 6, 2) := by decide +kernel
theorem dX6_order_88 : decode cX6_order 88 = .ok (.bipush 6, 2) := by decide +kernel
theorem dX6_order_90 : decode cX6_order 90 = .ok (.if_icmp .ge 29, 3) := by decide +kernel
theorem dX6_order_93 : decode cX6_order 93 = .ok (.iload 5, 2) := by decide +kernel
theorem dX6_order_95 : decode cX6_order 95 = .ok (.iload_n 3, 1) := by decide +kernel
theorem dX6_order_96 : decode cX6_order 96 = .ok (.if_icmp .le 23, 3) := by decide +kernel
theorem dX6_order_99 : decode cX6_order 99 = .ok (.aload_n 0, 1) := by decide +kernel
theorem dX6_order_100 : decode cX6_order 100 = .ok (.getfield 33, 3) := by decide +kernel
theorem dX6_order_103 : decode cX6_order 103 = .ok (.iload 6, 2) := by decide +kernel
theorem dX6_order_105 : decode cX6_order 105 = .ok (.aload_n 0, 1) := by decide +kernel
theorem dX6_order_106 : decode cX6_order 106 = .ok (.getfield 30, 3) := by decide +kernel
theorem dX6_order_109 : decode cX6_order 109 = .ok (.iload 6, 2) := by decide +kernel
theorem dX6_order_111 : decode cX6_order 111 = .ok (.iaload, 1) := by decide +kernel
theorem dX6_order_112 : decode cX6_order 112 = .ok (.iastore, 1) := by decide +kernel
theorem dX6_order_113 : decode cX6_order 113 = .ok (.iinc 6 1, 3) := by decide +kernel
theorem dX6_order_116 : decode cX6_order 116 = .ok (.goto (-30), 3) := by decide +kernel
theorem dX6_order_119 : decode cX6_order 119 = .ok (.iload 5, 2) := by decide +kernel
theorem dX6_order_121 : decode cX6_order 121 = .ok (.iload_n 3, 1) := by decide +kernel
theorem dX6_order_122 : decode cX6_order 122 = .ok (.if_icmp .le 8, 3) := by decide +kernel
theorem dX6_order_125 : decode cX6_order 125 = .ok (.iload 5, 2) := by decide +kernel
theorem dX6_order_127 : decode cX6_order 127 = .ok (.goto 4, 3) := by decide +kernel
theorem dX6_order_130 : decode cX6_order 130 = .ok (.iload_n 3, 1) := by decide +kernel
theorem dX6_order_131 : decode cX6_order 131 = .ok (.istore_n 3, 1) := by decide +kernel
theorem dX6_order_132 : decode cX6_order 132 = .ok (.aload_n 0, 1) := by decide +kernel
theorem dX6_order_133 : decode cX6_order 133 = .ok (.aload_n 0, 1) := by decide +kernel
theorem dX6_order_134 : decode cX6_order 134 = .ok (.getfield 7, 3) := by decide +kernel
theorem dX6_order_137 : decode cX6_order 137 = .ok (.iconst 0, 1) := by decide +kernel
theorem dX6_order_138 : decode cX6_order 138 = .ok (.iaload, 1) := by decide +kernel
theorem dX6_order_139 : decode cX6_order 139 = .ok (.invokevirtual 205, 3) := by decide +kernel
theorem dX6_order_142 : decode cX6_order 142 = .ok (.istore 4, 2) := by decide +kernel
theorem dX6_order_144 : decode cX6_order 144 = .ok (.goto (-73), 3) := by decide +kernel
theorem dX6_order_147 : decode cX6_order 147 = .ok (.iload_n 2, 1) := by decide +kernel
theorem dX6_order_148 : decode cX6_order 148 = .ok (.iconst (-1), 1) := by decide +kernel
theorem dX6_order_149 : decode cX6_order 149 = .ok (.if_icmp .ne 7, 3) := by decide +kernel
theorem dX6_order_152 : decode cX6_order 152 = .ok (.iload_n 3, 1) := by decide +kernel
theorem dX6_order_153 : decode cX6_order 153 = .ok (.goto 24, 3) := by decide +kernel
theorem dX6_order_156 : decode cX6_order 156 = .ok (.iload_n 2, 1) := by decide +kernel
theorem dX6_order_157 : decode cX6_order 157 = .ok (.aload_n 0, 1) := by decide +kernel
theorem dX6_order_158 : decode cX6_order 158 = .ok (.getfield 7, 3) := by decide +kernel
theorem dX6_order_161 : decode cX6_order 161 = .ok (.iconst 0, 1) := by decide +kernel
theorem dX6_order_162 : decode cX6_order 162 = .ok (.iaload, 1) := by decide +kernel
theorem dX6_order_163 : decode cX6_order 163 = .ok (.if_icmp .ge 12, 3) := by decide +kernel
theorem dX6_order_166 : decode cX6_order 166 = .ok (.aload_n 0, 1) := by decide +kernel
theorem dX6_order_167 : decode cX6_order 167 = .ok (.getfield 33, 3) := by decide +kernel
theorem dX6_order_170 : decode cX6_order 170 = .ok (.iload_n 2, 1) := by decide +kernel
theorem dX6_order_171 : decode cX6_order 171 = .ok (.iaload, 1) := by decide +kernel
theorem dX6_order_172 : decode cX6_order 172 = .ok (.goto 5, 3) := by decide +kernel
theorem dX6_order_175 : decode cX6_order 175 = .ok (.bipush (-5), 2) := by decide +kernel
theorem dX6_order_177 : decode cX6_order 177 = .ok (.ireturn, 1) := by decide +kernel
set_option maxRecDepth 20000 in
theorem ggX6_against_X6_in : GoodIn wsX6_against wsX6_in := goodIn_r _ [7] (by decide +kernel) (by decide +kernel)
set_option maxRecDepth 20000 in
theorem gX6_against_X6_in : GoodIn wsX6_against (va_wsS RX6 47 yX6_in wsX6_in) := goodIn_app (goodIn_of _ (by decide +kernel)) ggX6_against_X6_in
set_option maxRecDepth 20000 in
theorem ggX6_against_X6_bad : GoodIn wsX6_against wsX6_bad := goodIn_r _ [11, 12, 64, 65, 66, 67, 68, 69, 70, 71, 72, 73, 74, 75, 76, 77] (by decide +kernel) (by decide +kernel)
set_option maxRecDepth 20000 in
theorem gX6_against_X6_bad : GoodIn wsX6_against (wsV RX6 89 RX6 yX6_bad wsX6_bad) := goodIn_app (goodIn_of _ (by decide +kernel)) ggX6_against_X6_bad
set_option maxRecDepth 20000 in
theorem ggX6_against_X6_tries : GoodIn wsX6_against wsX6_tries := goodIn_r _ [16, 3, 64, 65, 66, 67, 68, 69, 70, 71, 72, 73, 74, 75, 76, 77] (by decide +kernel) (by decide +kernel)
set_option maxRecDepth 20000 in
theorem gX6_against_X6_tries : GoodIn wsX6_against (wsV RX6 193 RX6 yX6_tries wsX6_tries) := goodIn_app (goodIn_of _ (by decide +kernel)) ggX6_against_X6_tries
set_option maxRecDepth 20000 in
theorem ggX6_against_X6_scoreTried : GoodIn wsX6_against wsX6_scoreTried := goodIn_r _ [20, 3, 21, 22, 23, 6, 24, 25, 26, 27, 28, 29, 30, 31, 32, 33, 34, 35, 36, 37, 38, 39, 40, 41, 42, 43, 44, 45, 46, 47, 48, 49, 50, 51, 52, 53, 54, 55, 56, 57, 58, 59, 4, 5, 7, 60, 61, 62, 63, 64, 65, 66, 67, 68, 69, 70, 71, 72, 73, 74, 75, 76, 77] (by decide +kernel) (by decide +kernel)
set_option maxRecDepth 20000 in
theorem gX6_against_X6_scoreTried : GoodIn wsX6_against (wsV RX6 196 RX6 yX6_scoreTried wsX6_scoreTried) := goodIn_app (goodIn_of _ (by decide +kernel)) ggX6_against_X6_scoreTried
theorem dX6_against_0 : decode cX6_against 0 = .ok (.iload_n 1, 1) := by decide +kernel
theorem dX6_against_1 : decode cX6_against 1 = .ok (.i2l, 1) := by decide +kernel
theorem dX6_against_2 : decode cX6_against 2 = .ok (.lconst 1, 1) := by decide +kernel
theorem dX6_against_3 : decode cX6_against 3 = .ok (.ldc2_w 191, 3) := by decide +kernel
theorem dX6_against_6 : decode cX6_against 6 = .ok (.invokestatic 47, 3) := by decide +kernel
theorem dX6_against_9 : decode cX6_against 9 = .ok (.ifCond .eq 13, 3) := by decide +kernel
theorem dX6_against_12 : decode cX6_against 12 = .ok (.iload_n 2, 1) := by decide +kernel
theorem dX6_against_13 : decode cX6_against 13 = .ok (.i2l, 1) := by decide +kernel
theorem dX6_against_14 : decode cX6_against 14 = .ok (.lconst 0, 1) := by decide +kernel
theorem dX6_against_15 : decode cX6_against 15 = .ok (.lconst 1, 1) := by decide +kernel
theorem dX6_against_16 : decode cX6_against 16 = .ok (.invokestatic 47, 3) := by decide +kernel
theorem dX6_against_19 : decode cX6_against 19 = .ok (.ifCond .ne 10, 3) := by decide +kernel
theorem dX6_against_22 : decode cX6_against 22 = .ok (.aload_n 0, 1) := by decide +kernel
theorem dX6_against_23 : decode cX6_against 23 = .ok (.bipush (-2), 2) := by decide +kernel
theorem dX6_against_25 : decode cX6_against 25 = .ok (.invokevirtual 89, 3) := by decide +kernel
theorem dX6_against_28 : decode cX6_against 28 = .ok (.ireturn, 1) := by decide +kernel
theorem dX6_against_29 : decode cX6_against 29 = .ok (.iconst 0, 1) := by decide +kernel
theorem dX6_against_30 : decode cX6_against 30 = .ok (.istore_n 3, 1) := by decide +kernel
theorem dX6_against_31 : decode cX6_against 31 = .ok (.ldc 208, 2) := by decide +kernel
theorem dX6_against_33 : decode cX6_against 33 = .ok (.istore 4, 2) := by decide +kernel
theorem dX6_against_35 : decode cX6_against 35 = .ok (.iconst 0, 1) := by decide +kernel
theorem dX6_against_36 : decode cX6_against 36 = .ok (.istore 5, 2) := by decide +kernel
theorem dX6_against_38 : decode cX6_against 38 = .ok (.iload 5, 2) := by decide +kernel
theorem dX6_against_40 : decode cX6_against 40 = .ok (.iconst 5, 1) := by decide +kernel
theorem dX6_against_41 : decode cX6_against 41 = .ok (.if_icmp .gt 60, 3) := by decide +kernel
theorem dX6_against_44 : decode cX6_against 44 = .ok (.aload_n 0, 1) := by decide +kernel
theorem dX6_against_45 : decode cX6_against 45 = .ok (.invokevirtual 193, 3) := by decide +kernel
theorem dX6_against_48 : decode cX6_against 48 = .ok (.aload_n 0, 1) := by decide +kernel
theorem dX6_against_49 : decode cX6_against 49 = .ok (.getfield 7, 3) := by decide +kernel
theorem dX6_against_52 : decode cX6_against 52 = .ok (.sipush 593, 3) := by decide +kernel
theorem dX6_against_55 : decode cX6_against 55 = .ok (.iload 5, 2) := by decide +kernel
theorem dX6_against_57 : decode cX6_against 57 = .ok (.iastore, 1) := by decide +kernel
theorem dX6_against_58 : decode cX6_against 58 = .ok (.aload_n 0, 1) := by decide +kernel
theorem dX6_against_59 : decode cX6_against 59 = .ok (.iload_n 1, 1) := by decide +kernel
theorem dX6_against_60 : decode cX6_against 60 = .ok (.invokevirtual 196, 3) := by decide +kernel
theorem dX6_against_63 : decode cX6_against 63 = .ok (.istore 6, 2) := by decide +kernel
theorem dX6_against_65 : decode cX6_against 65 = .ok (.iload 6, 2) := by decide +kernel
theorem dX6_against_67 : decode cX6_against 67 = .ok (.iload 4, 2) := by decide +kernel
theorem dX6_against_69 : decode cX6_against 69 = .ok (.if_icmp .ge 8, 3) := by decide +kernel
theorem dX6_against_72 : decode cX6_against 72 = .ok (.iload 5, 2) := by decide +kernel
theorem dX6_against_74 : decode cX6_against 74 = .ok (.goto 4, 3) := by decide +kernel
theorem dX6_against_77 : decode cX6_against 77 = .ok (.iload_n 3, 1) := by decide +kernel
theorem dX6_against_78 : decode cX6_against 78 = .ok (.istore_n 3, 1) := by decide +kernel
theorem dX6_against_79 : decode cX6_against 79 = .ok (.iload 6, 2) := by decide +kernel
theorem dX6_against_81 : decode cX6_against 81 = .ok (.iload 4, 2) := by decide +kernel
theorem dX6_against_83 : decode cX6_against 83 = .ok (.if_icmp .ge 8, 3) := by decide +kernel
theorem dX6_against_86 : decode cX6_against 86 = .ok (.iload 6, 2) := by decide +kernel
theorem dX6_against_88 : decode cX6_against 88 = .ok (.goto 5, 3) := by decide +kernel
theorem dX6_against_91 : decode cX6_against 91 = .ok (.iload 4, 2) := by decide +kernel
theorem dX6_against_93 : decode cX6_against 93 = .ok (.istore 4, 2) := by decide +kernel
theorem dX6_against_95 : decode cX6_against 95 = .ok (.iinc 5 1, 3) := by decide +kernel
theorem dX6_against_98 : decode cX6_against 98 = .ok (.goto (-60), 3) := by decide +kernel
theorem dX6_against_101 : decode cX6_against 101 = .ok (.iload_n 2, 1) := by decide +kernel
theorem dX6_against_102 : decode cX6_against 102 = .ok (.ifCond .ne 7, 3) := by decide +kernel
theorem dX6_against_105 : decode cX6_against 105 = .ok (.iload_n 3, 1) := by decide +kernel
theorem dX6_against_106 : decode cX6_against 106 = .ok (.goto 5, 3) := by decide +kernel
theorem dX6_against_109 : decode cX6_against 109 = .ok (.iload 4, 2) := by decide +kernel
theorem dX6_against_111 : decode cX6_against 111 = .ok (.ireturn, 1) := by decide +kernel
theorem dX6_rows_0 : decode cX6_rows 0 = .ok (.iconst 1, 1) := by decide +kernel
theorem dX6_rows_1 : decode cX6_rows 1 = .ok (.istore_n 1, 1) := by decide +kernel
theorem dX6_rows_2 : decode cX6_rows 2 = .ok (.iconst 0, 1) := by decide +kernel
theorem dX6_rows_3 : decode cX6_rows 3 = .ok (.istore_n 2, 1) := by decide +kernel
theorem dX6_rows_4 : decode cX6_rows 4 = .ok (.iload_n 2, 1) := by decide +kernel
theorem dX6_rows_5 : decode cX6_rows 5 = .ok (.iload_n 0, 1) := by decide +kernel
theorem dX6_rows_6 : decode cX6_rows 6 = .ok (.if_icmp .ge 14, 3) := by decide +kernel
theorem dX6_rows_9 : decode cX6_rows 9 = .ok (.iload_n 1, 1) := by decide +kernel
theorem dX6_rows_10 : decode cX6_rows 10 = .ok (.bipush 10, 2) := by decide +kernel
theorem dX6_rows_12 : decode cX6_rows 12 = .ok (.imul, 1) := by decide +kernel
theorem dX6_rows_13 : decode cX6_rows 13 = .ok (.istore_n 1, 1) := by decide +kernel
theorem dX6_rows_14 : decode cX6_rows 14 = .ok (.iinc 2 1, 3) := by decide +kernel
theorem dX6_rows_17 : decode cX6_rows 17 = .ok (.goto (-13), 3) := by decide +kernel
theorem dX6_rows_20 : decode cX6_rows 20 = .ok (.iload_n 1, 1) := by decide +kernel
theorem dX6_rows_21 : decode cX6_rows 21 = .ok (.ireturn, 1) := by decide +kernel
set_option maxRecDepth 20000 in
theorem ggX6_scoreBy_X6_rows : GoodIn wsX6_scoreBy wsX6_rows := goodIn_r _ [4] (by decide +kernel) (by decide +kernel)
set_option maxRecDepth 20000 in
theorem gX6_scoreBy_X6_rows : GoodIn wsX6_scoreBy (va_wsS RX6 209 yX6_rows wsX6_rows) := goodIn_app (goodIn_of _ (by decide +kernel)) ggX6_scoreBy_X6_rows
set_option maxRecDepth 20000 in
theorem ggX6_scoreBy_X6_batsTried : GoodIn wsX6_scoreBy wsX6_batsTried := goodIn_r _ [8, 9, 10, 11, 3, 12, 13, 14, 15, 16, 17, 18, 19, 20, 21, 22, 23, 24, 25, 26, 27, 28, 29, 30, 31, 32, 33, 34, 35, 36, 37, 38, 39, 40, 41, 42, 43, 44, 45, 46, 47, 48, 49, 50, 51, 52, 53, 54, 55, 56, 57, 58, 59, 60, 61, 62, 63, 64, 65] (by decide +kernel) (by decide +kernel)
set_option maxRecDepth 20000 in
theorem gX6_scoreBy_X6_batsTried : GoodIn wsX6_scoreBy (wsV RX6 188 RX6 yX6_batsTried wsX6_batsTried) := goodIn_app (goodIn_of _ (by decide +kernel)) ggX6_scoreBy_X6_batsTried
theorem dX6_scoreBy_0 : decode cX6_scoreBy 0 = .ok (.iconst 0, 1) := by decide +kernel
theorem dX6_scoreBy_1 : decode cX6_scoreBy 1 = .ok (.istore_n 3, 1) := by decide +kernel
theorem dX6_scoreBy_2 : decode cX6_scoreBy 2 = .ok (.iload_n 2, 1) := by decide +kernel
theorem dX6_scoreBy_3 : decode cX6_scoreBy 3 = .ok (.invokestatic 209, 3) := by decide +kernel
theorem dX6_scoreBy_6 : decode cX6_scoreBy 6 = .ok (.istore 4, 2) := by decide +kernel
theorem dX6_scoreBy_8 : decode cX6_scoreBy 8 = .ok (.iconst 0, 1) := by decide +kernel
theorem dX6_scoreBy_9 : decode cX6_scoreBy 9 = .ok (.istore 5, 2) := by decide +kernel
theorem dX6_scoreBy_11 : decode cX6_scoreBy 11 = .ok (.iload 5, 2) := by decide +kernel
theorem dX6_scoreBy_13 : decode cX6_scoreBy 13 = .ok (.iload_n 2, 1) := by decide +kernel
theorem dX6_scoreBy_14 : decode cX6_scoreBy 14 = .ok (.if_icmp .ge 30, 3) := by decide +kernel
theorem dX6_scoreBy_17 : decode cX6_scoreBy 17 = .ok (.iload 4, 2) := by decide +kernel
theorem dX6_scoreBy_19 : decode cX6_scoreBy 19 = .ok (.bipush 10, 2) := by decide +kernel
theorem dX6_scoreBy_21 : decode cX6_scoreBy 21 = .ok (.idiv, 1) := by decide +kernel
theorem dX6_scoreBy_22 : decode cX6_scoreBy 22 = .ok (.istore 4, 2) := by decide +kernel
theorem dX6_scoreBy_24 : decode cX6_scoreBy 24 = .ok (.iload_n 3, 1) := by decide +kernel
theorem dX6_scoreBy_25 : decode cX6_scoreBy 25 = .ok (.aload_n 0, 1) := by decide +kernel
theorem dX6_scoreBy_26 : decode cX6_scoreBy 26 = .ok (.iload_n 1, 1) := by decide +kernel
theorem dX6_scoreBy_27 : decode cX6_scoreBy 27 = .ok (.iload 4, 2) := by decide +kernel
theorem dX6_scoreBy_29 : decode cX6_scoreBy 29 = .ok (.idiv, 1) := by decide +kernel
theorem dX6_scoreBy_30 : decode cX6_scoreBy 30 = .ok (.bipush 10, 2) := by decide +kernel
theorem dX6_scoreBy_32 : decode cX6_scoreBy 32 = .ok (.irem, 1) := by decide +kernel
theorem dX6_scoreBy_33 : decode cX6_scoreBy 33 = .ok (.invokevirtual 188, 3) := by decide +kernel
theorem dX6_scoreBy_36 : decode cX6_scoreBy 36 = .ok (.iadd, 1) := by decide +kernel
theorem dX6_scoreBy_37 : decode cX6_scoreBy 37 = .ok (.istore_n 3, 1) := by decide +kernel
theorem dX6_scoreBy_38 : decode cX6_scoreBy 38 = .ok (.iinc 5 1, 3) := by decide +kernel
theorem dX6_scoreBy_41 : decode cX6_scoreBy 41 = .ok (.goto (-30), 3) := by decide +kernel
theorem dX6_scoreBy_44 : decode cX6_scoreBy 44 = .ok (.iload_n 3, 1) := by decide +kernel
theorem dX6_scoreBy_45 : decode cX6_scoreBy 45 = .ok (.ireturn, 1) := by decide +kernel
theorem dX6_told_0 : decode cX6_told 0 = .ok (.lload_n 1, 1) := by decide +kernel
theorem dX6_told_1 : decode cX6_told 1 = .ok (.lstore 5, 2) := by decide +kernel
theorem dX6_told_3 : decode cX6_told 3 = .ok (.lload_n 3, 1) := by decide +kernel
theorem dX6_told_4 : decode cX6_told 4 = .ok (.lstore 7, 2) := by decide +kernel
theorem dX6_told_6 : decode cX6_told 6 = .ok (.lload 7, 2) := by decide +kernel
theorem dX6_told_8 : decode cX6_told 8 = .ok (.lconst 0, 1) := by decide +kernel
theorem dX6_told_9 : decode cX6_told 9 = .ok (.lcmp, 1) := by decide +kernel
theorem dX6_told_10 : decode cX6_told 10 = .ok (.ifCond .eq 21, 3) := by decide +kernel
theorem dX6_told_13 : decode cX6_told 13 = .ok (.lload 5, 2) := by decide +kernel
theorem dX6_told_15 : decode cX6_told 15 = .ok (.lload 7, 2) := by decide +kernel
theorem dX6_told_17 : decode cX6_told 17 = .ok (.lrem, 1) := by decide +kernel
theorem dX6_told_18 : decode cX6_told 18 = .ok (.lstore 9, 2) := by decide +kernel
theorem dX6_told_20 : decode cX6_told 20 = .ok (.lload 7, 2) := by decide +kernel
theorem dX6_told_22 : decode cX6_told 22 = .ok (.lstore 5, 2) := by decide +kernel
theorem dX6_told_24 : decode cX6_told 24 = .ok (.lload 9, 2) := by decide +kernel
theorem dX6_told_26 : decode cX6_told 26 = .ok (.lstore 7, 2) := by decide +kernel
theorem dX6_told_28 : decode cX6_told 28 = .ok (.goto (-22), 3) := by decide +kernel
theorem dX6_told_31 : decode cX6_told 31 = .ok (.aload_n 0, 1) := by decide +kernel
theorem dX6_told_32 : decode cX6_told 32 = .ok (.lload_n 1, 1) := by decide +kernel
theorem dX6_told_33 : decode cX6_told 33 = .ok (.lload 5, 2) := by decide +kernel
theorem dX6_told_35 : decode cX6_told 35 = .ok (.ldiv, 1) := by decide +kernel
theorem dX6_told_36 : decode cX6_told 36 = .ok (.putfield 20, 3) := by decide +kernel
theorem dX6_told_39 : decode cX6_told 39 = .ok (.aload_n 0, 1) := by decide +kernel
theorem dX6_told_40 : decode cX6_told 40 = .ok (.lload_n 3, 1) := by decide +kernel
theorem dX6_told_41 : decode cX6_told 41 = .ok (.lload 5, 2) := by decide +kernel
theorem dX6_told_43 : decode cX6_told 43 = .ok (.ldiv, 1) := by decide +kernel
theorem dX6_told_44 : decode cX6_told 44 = .ok (.putfield 24, 3) := by decide +kernel
theorem dX6_told_47 : decode cX6_told 47 = .ok (.iconst 1, 1) := by decide +kernel
theorem dX6_told_48 : decode cX6_told 48 = .ok (.ireturn, 1) := by decide +kernel
set_option maxRecDepth 20000 in
theorem ggX6_chance_X6_in : GoodIn wsX6_chance wsX6_in := goodIn_r _ [6] (by decide +kernel) (by decide +kernel)
set_option maxRecDepth 20000 in
theorem gX6_chance_X6_in : GoodIn wsX6_chance (va_wsS RX6 47 yX6_in wsX6_in) := goodIn_app (goodIn_of _ (by decide +kernel)) ggX6_chance_X6_in
set_option maxRecDepth 20000 in
theorem ggX6_chance_X6_bad : GoodIn wsX6_chance wsX6_bad := goodIn_r _ [10, 11, 73, 74, 75, 76, 77, 78, 79, 80, 81, 82, 83, 84, 85, 86] (by decide +kernel) (by decide +kernel)
set_option maxRecDepth 20000 in
theorem gX6_chance_X6_bad : GoodIn wsX6_chance (wsV RX6 89 RX6 yX6_bad wsX6_bad) := goodIn_app (goodIn_of _ (by decide +kernel)) ggX6_chance_X6_bad
set_option maxRecDepth 20000 in
theorem ggX6_chance_X6_rows : GoodIn wsX6_chance wsX6_rows := goodIn_r _ [14] (by decide +kernel) (by decide +kernel)
set_option maxRecDepth 20000 in
theorem gX6_chance_X6_rows : GoodIn wsX6_chance (va_wsS RX6 209 yX6_rows wsX6_rows) := goodIn_app (goodIn_of _ (by decide +kernel)) ggX6_chance_X6_rows
set_option maxRecDepth 20000 in
theorem ggX6_chance_X6_tries : GoodIn wsX6_chance wsX6_tries := goodIn_r _ [18, 19, 73, 74, 75, 76, 77, 78, 79, 80, 81, 82, 83, 84, 85, 86] (by decide +kernel) (by decide +kernel)
set_option maxRecDepth 20000 in
theorem gX6_chance_X6_tries : GoodIn wsX6_chance (wsV RX6 193 RX6 yX6_tries wsX6_tries) := goodIn_app (goodIn_of _ (by decide +kernel)) ggX6_chance_X6_tries
set_option maxRecDepth 20000 in
theorem ggX6_chance_X6_scoreBy : GoodIn wsX6_chance wsX6_scoreBy := goodIn_r _ [23, 12, 13, 5, 14, 24, 25, 26, 27, 28, 29, 30, 31, 19, 32, 33, 34, 35, 36, 37, 38, 39, 40, 41, 42, 43, 44, 45, 46, 47, 48, 49, 50, 51, 52, 53, 54, 55, 56, 57, 58, 59, 60, 61, 62, 3, 4, 6, 63, 64, 65, 66, 73, 74, 75, 76, 77, 78, 79, 80, 81, 82, 83, 84, 85, 86] (by decide +kernel) (by decide +kernel)
set_option maxRecDepth 20000 in
theorem gX6_chance_X6_scoreBy : GoodIn wsX6_chance (wsV RX6 216 RX6 yX6_scoreBy wsX6_scoreBy) := goodIn_app (goodIn_of _ (by decide +kernel)) ggX6_chance_X6_scoreBy
set_option maxRecDepth 20000 in
theorem ggX6_chance_X6_told : GoodIn wsX6_chance wsX6_told := goodIn_r _ [70, 71, 72, 73, 74, 75, 76, 77, 78, 79, 80, 81, 82, 83, 84, 85, 86] (by decide +kernel) (by decide +kernel)
set_option maxRecDepth 20000 in
theorem gX6_chance_X6_told : GoodIn wsX6_chance (wsV RX6 219 RX6 yX6_told wsX6_told) := goodIn_app (goodIn_of _ (by decide +kernel)) ggX6_chance_X6_told
theorem dX6_chance_0 : decode cX6_chance 0 = .ok (.iload_n 1, 1) := by decide +kernel
theorem dX6_chance_1 : decode cX6_chance 1 = .ok (.i2l, 1) := by decide +kernel
theorem dX6_chance_2 : decode cX6_chance 2 = .ok (.lconst 0, 1) := by decide +kernel
theorem dX6_chance_3 : decode cX6_chance 3 = .ok (.ldc2_w 212, 3) := by decide +kernel
theorem dX6_chance_6 : decode cX6_chance 6 = .ok (.invokestatic 47, 3) := by decide +kernel
theorem dX6_chance_9 : decode cX6_chance 9 = .ok (.ifCond .eq 15, 3) := by decide +kernel
theorem dX6_chance_12 : decode cX6_chance 12 = .ok (.iload_n 2, 1) := by decide +kernel
theorem dX6_chance_13 : decode cX6_chance 13 = .ok (.i2l, 1) := by decide +kernel
theorem dX6_chance_14 : decode cX6_chance 14 = .ok (.lconst 0, 1) := by decide +kernel
theorem dX6_chance_15 : decode cX6_chance 15 = .ok (.ldc2_w 214, 3) := by decide +kernel
theorem dX6_chance_18 : decode cX6_chance 18 = .ok (.invokestatic 47, 3) := by decide +kernel
theorem dX6_chance_21 : decode cX6_chance 21 = .ok (.ifCond .ne 10, 3) := by decide +kernel
theorem dX6_chance_24 : decode cX6_chance 24 = .ok (.aload_n 0, 1) := by decide +kernel
theorem dX6_chance_25 : decode cX6_chance 25 = .ok (.bipush (-2), 2) := by decide +kernel
theorem dX6_chance_27 : decode cX6_chance 27 = .ok (.invokevirtual 89, 3) := by decide +kernel
theorem dX6_chance_30 : decode cX6_chance 30 = .ok (.ireturn, 1) := by decide +kernel
theorem dX6_chance_31 : decode cX6_chance 31 = .ok (.iconst 0, 1) := by decide +kernel
theorem dX6_chance_32 : decode cX6_chance 32 = .ok (.istore_n 3, 1) := by decide +kernel
theorem dX6_chance_33 : decode cX6_chance 33 = .ok (.iload_n 1, 1) := by decide +kernel
theorem dX6_chance_34 : decode cX6_chance 34 = .ok (.invokestatic 209, 3) := by decide +kernel
theorem dX6_chance_37 : decode cX6_chance 37 = .ok (.istore 4, 2) := by decide +kernel
theorem dX6_chance_39 : decode cX6_chance 39 = .ok (.iconst 0, 1) := by decide +kernel
theorem dX6_chance_40 : decode cX6_chance 40 = .ok (.istore 5, 2) := by decide +kernel
theorem dX6_chance_42 : decode cX6_chance 42 = .ok (.iload 5, 2) := by decide +kernel
theorem dX6_chance_44 : decode cX6_chance 44 = .ok (.iload 4, 2) := by decide +kernel
theorem dX6_chance_46 : decode cX6_chance 46 = .ok (.if_icmp .ge 32, 3) := by decide +kernel
theorem dX6_chance_49 : decode cX6_chance 49 = .ok (.aload_n 0, 1) := by decide +kernel
theorem dX6_chance_50 : decode cX6_chance 50 = .ok (.invokevirtual 193, 3) := by decide +kernel
theorem dX6_chance_53 : decode cX6_chance 53 = .ok (.iload_n 3, 1) := by decide +kernel
theorem dX6_chance_54 : decode cX6_chance 54 = .ok (.aload_n 0, 1) := by decide +kernel
theorem dX6_chance_55 : decode cX6_chance 55 = .ok (.iload 5, 2) := by decide +kernel
theorem dX6_chance_57 : decode cX6_chance 57 = .ok (.iload_n 1, 1) := by decide +kernel
theorem dX6_chance_58 : decode cX6_chance 58 = .ok (.invokevirtual 216, 3) := by decide +kernel
theorem dX6_chance_61 : decode cX6_chance 61 = .ok (.iload_n 2, 1) := by decide +kernel
theorem dX6_chance_62 : decode cX6_chance 62 = .ok (.if_icmp .lt 7, 3) := by decide +kernel
theorem dX6_chance_65 : decode cX6_chance 65 = .ok (.iconst 1, 1) := by decide +kernel
theorem dX6_chance_66 : decode cX6_chance 66 = .ok (.goto 4, 3) := by decide +kernel
theorem dX6_chance_69 : decode cX6_chance 69 = .ok (.iconst 0, 1) := by decide +kernel
theorem dX6_chance_70 : decode cX6_chance 70 = .ok (.iadd, 1) := by decide +kernel
theorem dX6_chance_71 : decode cX6_chance 71 = .ok (.istore_n 3, 1) := by decide +kernel
theorem dX6_chance_72 : decode cX6_chance 72 = .ok (.iinc 5 1, 3) := by decide +kernel
theorem dX6_chance_75 : decode cX6_chance 75 = .ok (.goto (-33), 3) := by decide +kernel
theorem dX6_chance_78 : decode cX6_chance 78 = .ok (.aload_n 0, 1) := by decide +kernel
theorem dX6_chance_79 : decode cX6_chance 79 = .ok (.iload_n 3, 1) := by decide +kernel
theorem dX6_chance_80 : decode cX6_chance 80 = .ok (.i2l, 1) := by decide +kernel
theorem dX6_chance_81 : decode cX6_chance 81 = .ok (.iload 4, 2) := by decide +kernel
theorem dX6_chance_83 : decode cX6_chance 83 = .ok (.i2l, 1) := by decide +kernel
theorem dX6_chance_84 : decode cX6_chance 84 = .ok (.invokevirtual 219, 3) := by decide +kernel
theorem dX6_chance_87 : decode cX6_chance 87 = .ok (.ireturn, 1) := by decide +kernel
set_option maxRecDepth 20000 in
theorem ggX6_sumBy_X6_rows : GoodIn wsX6_sumBy wsX6_rows := goodIn_r _ [5] (by decide +kernel) (by decide +kernel)
set_option maxRecDepth 20000 in
theorem gX6_sumBy_X6_rows : GoodIn wsX6_sumBy (va_wsS RX6 209 yX6_rows wsX6_rows) := goodIn_app (goodIn_of _ (by decide +kernel)) ggX6_sumBy_X6_rows
set_option maxRecDepth 20000 in
theorem ggX6_sumBy_X6_tries : GoodIn wsX6_sumBy wsX6_tries := goodIn_r _ [9, 1, 60, 61, 62, 63, 64, 65, 66, 67, 68, 69, 70, 71, 72, 73] (by decide +kernel) (by decide +kernel)
set_option maxRecDepth 20000 in
theorem gX6_sumBy_X6_tries : GoodIn wsX6_sumBy (wsV RX6 193 RX6 yX6_tries wsX6_tries) := goodIn_app (goodIn_of _ (by decide +kernel)) ggX6_sumBy_X6_tries
set_option maxRecDepth 20000 in
theorem ggX6_sumBy_X6_scoreBy : GoodIn wsX6_sumBy wsX6_scoreBy := goodIn_r _ [13, 2, 3, 4, 5, 14, 15, 16, 17, 18, 19, 20, 21, 1, 22, 23, 24, 25, 26, 27, 28, 29, 30, 31, 32, 33, 34, 35, 36, 37, 38, 39, 40, 41, 42, 43, 44, 45, 46, 47, 48, 49, 50, 51, 52, 53, 54, 55, 56, 57, 58, 59, 60, 61, 62, 63, 64, 65, 66, 67, 68, 69, 70, 71, 72, 73] (by decide +kernel) (by decide +kernel)
set_option maxRecDepth 20000 in
theorem gX6_sumBy_X6_scoreBy : GoodIn wsX6_sumBy (wsV RX6 216 RX6 yX6_scoreBy wsX6_scoreBy) := goodIn_app (goodIn_of _ (by decide +kernel)) ggX6_sumBy_X6_scoreBy
theorem dX6_sumBy_0 : decode cX6_sumBy 0 = .ok (.iconst 0, 1) := by decide +kernel
theorem dX6_sumBy_1 : decode cX6_sumBy 1 = .ok (.istore_n 3, 1) := by decide +kernel
theorem dX6_sumBy_2 : decode cX6_sumBy 2 = .ok (.iload_n 2, 1) := by decide +kernel
theorem dX6_sumBy_3 : decode cX6_sumBy 3 = .ok (.invokestatic 209, 3) := by decide +kernel
theorem dX6_sumBy_6 : decode cX6_sumBy 6 = .ok (.istore 4, 2) := by decide +kernel
theorem dX6_sumBy_8 : decode cX6_sumBy 8 = .ok (.iconst 0, 1) := by decide +kernel
theorem dX6_sumBy_9 : decode cX6_sumBy 9 = .ok (.istore 5, 2) := by decide +kernel
theorem dX6_sumBy_11 : decode cX6_sumBy 11 = .ok (.iload 5, 2) := by decide +kernel
theorem dX6_sumBy_13 : decode cX6_sumBy 13 = .ok (.iload 4, 2) := by decide +kernel
theorem dX6_sumBy_15 : decode cX6_sumBy 15 = .ok (.if_icmp .ge 32, 3) := by decide +kernel
theorem dX6_sumBy_18 : decode cX6_sumBy 18 = .ok (.aload_n 0, 1) := by decide +kernel
theorem dX6_sumBy_19 : decode cX6_sumBy 19 = .ok (.invokevirtual 193, 3) := by decide +kernel
theorem dX6_sumBy_22 : decode cX6_sumBy 22 = .ok (.aload_n 0, 1) := by decide +kernel
theorem dX6_sumBy_23 : decode cX6_sumBy 23 = .ok (.getfield 7, 3) := by decide +kernel
theorem dX6_sumBy_26 : decode cX6_sumBy 26 = .ok (.sipush 594, 3) := by decide +kernel
theorem dX6_sumBy_29 : decode cX6_sumBy 29 = .ok (.iload_n 1, 1) := by decide +kernel
theorem dX6_sumBy_30 : decode cX6_sumBy 30 = .ok (.iastore, 1) := by decide +kernel
theorem dX6_sumBy_31 : decode cX6_sumBy 31 = .ok (.iload_n 3, 1) := by decide +kernel
theorem dX6_sumBy_32 : decode cX6_sumBy 32 = .ok (.aload_n 0, 1) := by decide +kernel
theorem dX6_sumBy_33 : decode cX6_sumBy 33 = .ok (.iload 5, 2) := by decide +kernel
theorem dX6_sumBy_35 : decode cX6_sumBy 35 = .ok (.iload_n 2, 1) := by decide +kernel
theorem dX6_sumBy_36 : decode cX6_sumBy 36 = .ok (.invokevirtual 216, 3) := by decide +kernel
theorem dX6_sumBy_39 : decode cX6_sumBy 39 = .ok (.iadd, 1) := by decide +kernel
theorem dX6_sumBy_40 : decode cX6_sumBy 40 = .ok (.istore_n 3, 1) := by decide +kernel
theorem dX6_sumBy_41 : decode cX6_sumBy 41 = .ok (.iinc 5 1, 3) := by decide +kernel
theorem dX6_sumBy_44 : decode cX6_sumBy 44 = .ok (.goto (-33), 3) := by decide +kernel
theorem dX6_sumBy_47 : decode cX6_sumBy 47 = .ok (.iload_n 3, 1) := by decide +kernel
theorem dX6_sumBy_48 : decode cX6_sumBy 48 = .ok (.ireturn, 1) := by decide +kernel
set_option maxRecDepth 20000 in
theorem ggX6_mean_X6_in : GoodIn wsX6_mean wsX6_in := goodIn_r _ [6] (by decide +kernel) (by decide +kernel)
set_option maxRecDepth 20000 in
theorem gX6_mean_X6_in : GoodIn wsX6_mean (va_wsS RX6 47 yX6_in wsX6_in) := goodIn_app (goodIn_of _ (by decide +kernel)) ggX6_mean_X6_in
set_option maxRecDepth 20000 in
theorem ggX6_mean_X6_bad : GoodIn wsX6_mean wsX6_bad := goodIn_r _ [10, 11, 76, 77, 78, 79, 80, 81, 82, 83, 84, 85, 86, 87, 88, 89] (by decide +kernel) (by decide +kernel)
set_option maxRecDepth 20000 in
theorem gX6_mean_X6_bad : GoodIn wsX6_mean (wsV RX6 89 RX6 yX6_bad wsX6_bad) := goodIn_app (goodIn_of _ (by decide +kernel)) ggX6_mean_X6_bad
set_option maxRecDepth 20000 in
theorem ggX6_mean_X6_sumBy : GoodIn wsX6_mean wsX6_sumBy := goodIn_r _ [15, 2, 16, 17, 5, 18, 19, 20, 21, 22, 23, 24, 25, 26, 27, 28, 29, 30, 31, 32, 33, 34, 35, 36, 37, 38, 39, 40, 41, 42, 43, 44, 45, 46, 47, 48, 49, 50, 51, 52, 53, 54, 55, 56, 57, 58, 59, 60, 61, 62, 63, 64, 65, 3, 4, 6, 66, 67, 68, 69, 76, 77, 78, 79, 80, 81, 82, 83, 84, 85, 86, 87, 88, 89] (by decide +kernel) (by decide +kernel)
set_option maxRecDepth 20000 in
theorem gX6_mean_X6_sumBy : GoodIn wsX6_mean (wsV RX6 223 RX6 yX6_sumBy wsX6_sumBy) := goodIn_app (goodIn_of _ (by decide +kernel)) ggX6_mean_X6_sumBy
set_option maxRecDepth 20000 in
theorem ggX6_mean_X6_rows : GoodIn wsX6_mean wsX6_rows := goodIn_r _ [18] (by decide +kernel) (by decide +kernel)
set_option maxRecDepth 20000 in
theorem gX6_mean_X6_rows : GoodIn wsX6_mean (va_wsS RX6 209 yX6_rows wsX6_rows) := goodIn_app (goodIn_of _ (by decide +kernel)) ggX6_mean_X6_rows
set_option maxRecDepth 20000 in
theorem ggX6_mean_X6_told : GoodIn wsX6_mean wsX6_told := goodIn_r _ [73, 74, 75, 76, 77, 78, 79, 80, 81, 82, 83, 84, 85, 86, 87, 88, 89] (by decide +kernel) (by decide +kernel)
set_option maxRecDepth 20000 in
theorem gX6_mean_X6_told : GoodIn wsX6_mean (wsV RX6 219 RX6 yX6_told wsX6_told) := goodIn_app (goodIn_of _ (by decide +kernel)) ggX6_mean_X6_told
theorem dX6_mean_0 : decode cX6_mean 0 = .ok (.iload_n 1, 1) := by decide +kernel
theorem dX6_mean_1 : decode cX6_mean 1 = .ok (.i2l, 1) := by decide +kernel
theorem dX6_mean_2 : decode cX6_mean 2 = .ok (.lconst 0, 1) := by decide +kernel
theorem dX6_mean_3 : decode cX6_mean 3 = .ok (.ldc2_w 212, 3) := by decide +kernel
theorem dX6_mean_6 : decode cX6_mean 6 = .ok (.invokestatic 47, 3) := by decide +kernel
theorem dX6_mean_9 : decode cX6_mean 9 = .ok (.ifCond .ne 10, 3) := by decide +kernel
theorem dX6_mean_12 : decode cX6_mean 12 = .ok (.aload_n 0, 1) := by decide +kernel
theorem dX6_mean_13 : decode cX6_mean 13 = .ok (.bipush (-2), 2) := by decide +kernel
theorem dX6_mean_15 : decode cX6_mean 15 = .ok (.invokevirtual 89, 3) := by decide +kernel
theorem dX6_mean_18 : decode cX6_mean 18 = .ok (.ireturn, 1) := by decide +kernel
theorem dX6_mean_19 : decode cX6_mean 19 = .ok (.aload_n 0, 1) := by decide +kernel
theorem dX6_mean_20 : decode cX6_mean 20 = .ok (.aload_n 0, 1) := by decide +kernel
theorem dX6_mean_21 : decode cX6_mean 21 = .ok (.aload_n 0, 1) := by decide +kernel
theorem dX6_mean_22 : decode cX6_mean 22 = .ok (.getfield 7, 3) := by decide +kernel
theorem dX6_mean_25 : decode cX6_mean 25 = .ok (.iconst 2, 1) := by decide +kernel
theorem dX6_mean_26 : decode cX6_mean 26 = .ok (.iaload, 1) := by decide +kernel
theorem dX6_mean_27 : decode cX6_mean 27 = .ok (.iload_n 1, 1) := by decide +kernel
theorem dX6_mean_28 : decode cX6_mean 28 = .ok (.invokevirtual 223, 3) := by decide +kernel
theorem dX6_mean_31 : decode cX6_mean 31 = .ok (.i2l, 1) := by decide +kernel
theorem dX6_mean_32 : decode cX6_mean 32 = .ok (.iload_n 1, 1) := by decide +kernel
theorem dX6_mean_33 : decode cX6_mean 33 = .ok (.invokestatic 209, 3) := by decide +kernel
theorem dX6_mean_36 : decode cX6_mean 36 = .ok (.i2l, 1) := by decide +kernel
theorem dX6_mean_37 : decode cX6_mean 37 = .ok (.invokevirtual 219, 3) := by decide +kernel
theorem dX6_mean_40 : decode cX6_mean 40 = .ok (.ireturn, 1) := by decide +kernel
set_option maxRecDepth 20000 in
theorem ggX6_send_X6_in : GoodIn wsX6_send wsX6_in := goodIn_r _ [6] (by decide +kernel) (by decide +kernel)
set_option maxRecDepth 20000 in
theorem gX6_send_X6_in : GoodIn wsX6_send (va_wsS RX6 47 yX6_in wsX6_in) := goodIn_app (goodIn_of _ (by decide +kernel)) ggX6_send_X6_in
set_option maxRecDepth 20000 in
theorem ggX6_send_X6_bad : GoodIn wsX6_send wsX6_bad := goodIn_r _ [10, 11, 69, 70, 71, 72, 73, 74, 75, 76, 77, 78, 79, 80, 81, 82] (by decide +kernel) (by decide +kernel)
set_option maxRecDepth 20000 in
theorem gX6_send_X6_bad : GoodIn wsX6_send (wsV RX6 89 RX6 yX6_bad wsX6_bad) := goodIn_app (goodIn_of _ (by decide +kernel)) ggX6_send_X6_bad
set_option maxRecDepth 20000 in
theorem ggX6_send_X6_sumBy : GoodIn wsX6_send wsX6_sumBy := goodIn_r _ [15, 2, 16, 17, 5, 18, 19, 20, 21, 22, 23, 24, 25, 26, 27, 28, 29, 30, 31, 32, 33, 34, 35, 36, 37, 38, 1, 39, 40, 41, 42, 43, 44, 45, 46, 47, 48, 49, 50, 51, 52, 53, 54, 55, 56, 57, 58, 59, 60, 61, 62, 63, 64, 3, 4, 6, 65, 66, 67, 68, 69, 70, 71, 72, 73, 74, 75, 76, 77, 78, 79, 80, 81, 82] (by decide +kernel) (by decide +kernel)
set_option maxRecDepth 20000 in
theorem gX6_send_X6_sumBy : GoodIn wsX6_send (wsV RX6 223 RX6 yX6_sumBy wsX6_sumBy) := goodIn_app (goodIn_of _ (by decide +kernel)) ggX6_send_X6_sumBy
theorem dX6_send_0 : decode cX6_send 0 = .ok (.iload_n 1, 1) := by decide +kernel
theorem dX6_send_1 : decode cX6_send 1 = .ok (.i2l, 1) := by decide +kernel
theorem dX6_send_2 : decode cX6_send 2 = .ok (.lconst 1, 1) := by decide +kernel
theorem dX6_send_3 : decode cX6_send 3 = .ok (.ldc2_w 78, 3) := by decide +kernel
theorem dX6_send_6 : decode cX6_send 6 = .ok (.invokestatic 47, 3) := by decide +kernel
theorem dX6_send_9 : decode cX6_send 9 = .ok (.ifCond .ne 10, 3) := by decide +kernel
theorem dX6_send_12 : decode cX6_send 12 = .ok (.aload_n 0, 1) := by decide +kernel
theorem dX6_send_13 : decode cX6_send 13 = .ok (.bipush (-2), 2) := by decide +kernel
theorem dX6_send_15 : decode cX6_send 15 = .ok (.invokevirtual 89, 3) := by decide +kernel
theorem dX6_send_18 : decode cX6_send 18 = .ok (.ireturn, 1) := by decide +kernel
theorem dX6_send_19 : decode cX6_send 19 = .ok (.iconst (-1), 1) := by decide +kernel
theorem dX6_send_20 : decode cX6_send 20 = .ok (.istore_n 2, 1) := by decide +kernel
theorem dX6_send_21 : decode cX6_send 21 = .ok (.iconst (-1), 1) := by decide +kernel
theorem dX6_send_22 : decode cX6_send 22 = .ok (.istore_n 3, 1) := by decide +kernel
theorem dX6_send_23 : decode cX6_send 23 = .ok (.iconst 0, 1) := by decide +kernel
theorem dX6_send_24 : decode cX6_send 24 = .ok (.istore 4, 2) := by decide +kernel
theorem dX6_send_26 : decode cX6_send 26 = .ok (.iload 4, 2) := by decide +kernel
theorem dX6_send_28 : decode cX6_send 28 = .ok (.aload_n 0, 1) := by decide +kernel
theorem dX6_send_29 : decode cX6_send 29 = .ok (.getfield 7, 3) := by decide +kernel
theorem dX6_send_32 : decode cX6_send 32 = .ok (.iconst 0, 1) := by decide +kernel
theorem dX6_send_33 : decode cX6_send 33 = .ok (.iaload, 1) := by decide +kernel
theorem dX6_send_34 : decode cX6_send 34 = .ok (.if_icmp .ge 57, 3) := by decide +kernel
theorem dX6_send_37 : decode cX6_send 37 = .ok (.aload_n 0, 1) := by decide +kernel
theorem dX6_send_38 : decode cX6_send 38 = .ok (.getfield 7, 3) := by decide +kernel
theorem dX6_send_41 : decode cX6_send 41 = .ok (.bipush 17, 2) := by decide +kernel
theorem dX6_send_43 : decode cX6_send 43 = .ok (.iload 4, 2) := by decide +kernel
theorem dX6_send_45 : decode cX6_send 45 = .ok (.iadd, 1) := by decide +kernel
theorem dX6_send_46 : decode cX6_send 46 = .ok (.iaload, 1) := by decide +kernel
theorem dX6_send_47 : decode cX6_send 47 = .ok (.ifCond .ne 38, 3) := by decide +kernel
theorem dX6_send_50 : decode cX6_send 50 = .ok (.aload_n 0, 1) := by decide +kernel
theorem dX6_send_51 : decode cX6_send 51 = .ok (.iload 4, 2) := by decide +kernel
theorem dX6_send_53 : decode cX6_send 53 = .ok (.iload_n 1, 1) := by decide +kernel
theorem dX6_send_54 : decode cX6_send 54 = .ok (.invokevirtual 223, 3) := by decide +kernel
theorem dX6_send_57 : decode cX6_send 57 = .ok (.istore 5, 2) := by decide +kernel
theorem dX6_send_59 : decode cX6_send 59 = .ok (.iload 5, 2) := by decide +kernel
theorem dX6_send_61 : decode cX6_send 61 = .ok (.iload_n 3, 1) := by decide +kernel
theorem dX6_send_62 : decode cX6_send 62 = .ok (.if_icmp .le 8, 3) := by decide +kernel
theorem dX6_send_65 : decode cX6_send 65 = .ok (.iload 4, 2) := by decide +kernel
theorem dX6_send_67 : decode cX6_send 67 = .ok (.goto 4, 3) := by decide +kernel
theorem dX6_send_70 : decode cX6_send 70 = .ok (.iload_n 2, 1) := by decide +kernel
theorem dX6_send_71 : decode cX6_send 71 = .ok (.istore_n 2, 1) := by decide +kernel
theorem dX6_send_72 : decode cX6_send 72 = .ok (.iload 5, 2) := by decide +kernel
theorem dX6_send_74 : decode cX6_send 74 = .ok (.iload_n 3, 1) := by decide +kernel
theorem dX6_send_75 : decode cX6_send 75 = .ok (.if_icmp .le 8, 3) := by decide +kernel
theorem dX6_send_78 : decode cX6_send 78 = .ok (.iload 5, 2) := by decide +kernel
theorem dX6_send_80 : decode cX6_send 80 = .ok (.goto 4, 3) := by decide +kernel
theorem dX6_send_83 : decode cX6_send 83 = .ok (.iload_n 3, 1) := by decide +kernel
theorem dX6_send_84 : decode cX6_send 84 = .ok (.istore_n 3, 1) := by decide +kernel
theorem dX6_send_85 : decode cX6_send 85 = .ok (.iinc 4 1, 3) := by decide +kernel
theorem dX6_send_88 : decode cX6_send 88 = .ok (.goto (-62), 3) := by decide +kernel
theorem dX6_send_91 : decode cX6_send 91 = .ok (.iload_n 2, 1) := by decide +kernel
theorem dX6_send_92 : decode cX6_send 92 = .ok (.ireturn, 1) := by decide +kernel
set_option maxRecDepth 20000 in
theorem ggX6_note_X6_in : GoodIn wsX6_note wsX6_in := goodIn_r _ [8] (by decide +kernel) (by decide +kernel)
set_option maxRecDepth 20000 in
theorem gX6_note_X6_in : GoodIn wsX6_note (va_wsS RX6 47 yX6_in wsX6_in) := goodIn_app (goodIn_of _ (by decide +kernel)) ggX6_note_X6_in
set_option maxRecDepth 20000 in
theorem ggX6_note_X6_bad : GoodIn wsX6_note wsX6_bad := goodIn_r _ [12, 13, 18, 19, 20, 21, 22, 23, 24, 25, 26, 27, 28, 29, 30, 31] (by decide +kernel) (by decide +kernel)
set_option maxRecDepth 20000 in
theorem gX6_note_X6_bad : GoodIn wsX6_note (wsV RX6 89 RX6 yX6_bad wsX6_bad) := goodIn_app (goodIn_of _ (by decide +kernel)) ggX6_note_X6_bad
set_option maxRecDepth 20000 in
theorem ggX6_note_X6_full : GoodIn wsX6_note wsX6_full := goodIn_r _ [17, 13, 18, 19, 20, 21, 22, 23, 24, 25, 26, 27, 28, 29, 30, 31] (by decide +kernel) (by decide +kernel)
set_option maxRecDepth 20000 in
theorem gX6_note_X6_full : GoodIn wsX6_note (wsV RX6 92 RX6 yX6_full wsX6_full) := goodIn_app (goodIn_of _ (by decide +kernel)) ggX6_note_X6_full
theorem dX6_note_0 : decode cX6_note 0 = .ok (.iload_n 1, 1) := by decide +kernel
theorem dX6_note_1 : decode cX6_note 1 = .ok (.i2l, 1) := by decide +kernel
theorem dX6_note_2 : decode cX6_note 2 = .ok (.lconst 0, 1) := by decide +kernel
theorem dX6_note_3 : decode cX6_note 3 = .ok (.ldc2_w 226, 3) := by decide +kernel
theorem dX6_note_6 : decode cX6_note 6 = .ok (.invokestatic 47, 3) := by decide +kernel
theorem dX6_note_9 : decode cX6_note 9 = .ok (.ifCond .eq 27, 3) := by decide +kernel
theorem dX6_note_12 : decode cX6_note 12 = .ok (.iload_n 2, 1) := by decide +kernel
theorem dX6_note_13 : decode cX6_note 13 = .ok (.i2l, 1) := by decide +kernel
theorem dX6_note_14 : decode cX6_note 14 = .ok (.lconst 0, 1) := by decide +kernel
theorem dX6_note_15 : decode cX6_note 15 = .ok (.ldc2_w 175, 3) := by decide +kernel
theorem dX6_note_18 : decode cX6_note 18 = .ok (.invokestatic 47, 3) := by decide +kernel
theorem dX6_note_21 : decode cX6_note 21 = .ok (.ifCond .eq 15, 3) := by decide +kernel
theorem dX6_note_24 : decode cX6_note 24 = .ok (.iload_n 3, 1) := by decide +kernel
theorem dX6_note_25 : decode cX6_note 25 = .ok (.i2l, 1) := by decide +kernel
theorem dX6_note_26 : decode cX6_note 26 = .ok (.lconst 0, 1) := by decide +kernel
theorem dX6_note_27 : decode cX6_note 27 = .ok (.ldc2_w 214, 3) := by decide +kernel
theorem dX6_note_30 : decode cX6_note 30 = .ok (.invokestatic 47, 3) := by decide +kernel
theorem dX6_note_33 : decode cX6_note 33 = .ok (.ifCond .ne 10, 3) := by decide +kernel
theorem dX6_note_36 : decode cX6_note 36 = .ok (.aload_n 0, 1) := by decide +kernel
theorem dX6_note_37 : decode cX6_note 37 = .ok (.bipush (-2), 2) := by decide +kernel
theorem dX6_note_39 : decode cX6_note 39 = .ok (.invokevirtual 89, 3) := by decide +kernel
theorem dX6_note_42 : decode cX6_note 42 = .ok (.ireturn, 1) := by decide +kernel
theorem dX6_note_43 : decode cX6_note 43 = .ok (.aload_n 0, 1) := by decide +kernel
theorem dX6_note_44 : decode cX6_note 44 = .ok (.getfield 7, 3) := by decide +kernel
theorem dX6_note_47 : decode cX6_note 47 = .ok (.bipush 31, 2) := by decide +kernel
theorem dX6_note_49 : decode cX6_note 49 = .ok (.iaload, 1) := by decide +kernel
theorem dX6_note_50 : decode cX6_note 50 = .ok (.bipush 6, 2) := by decide +kernel
theorem dX6_note_52 : decode cX6_note 52 = .ok (.if_icmp .ne 8, 3) := by decide +kernel
theorem dX6_note_55 : decode cX6_note 55 = .ok (.aload_n 0, 1) := by decide +kernel
theorem dX6_note_56 : decode cX6_note 56 = .ok (.invokevirtual 92, 3) := by decide +kernel
theorem dX6_note_59 : decode cX6_note 59 = .ok (.ireturn, 1) := by decide +kernel
theorem dX6_note_60 : decode cX6_note 60 = .ok (.bipush 32, 2) := by decide +kernel
theorem dX6_note_62 : decode cX6_note 62 = .ok (.iconst 3, 1) := by decide +kernel
theorem dX6_note_63 : decode cX6_note 63 = .ok (.aload_n 0, 1) := by decide +kernel
theorem dX6_note_64 : decode cX6_note 64 = .ok (.getfield 7, 3) := by decide +kernel
theorem dX6_note_67 : decode cX6_note 67 = .ok (.bipush 31, 2) := by decide +kernel
theorem dX6_note_69 : decode cX6_note 69 = .ok (.iaload, 1) := by decide +kernel
theorem dX6_note_70 : decode cX6_note 70 = .ok (.imul, 1) := by decide +kernel
theorem dX6_note_71 : decode cX6_note 71 = .ok (.iadd, 1) := by decide +kernel
theorem dX6_note_72 : decode cX6_note 72 = .ok (.istore 4, 2) := by decide +kernel
theorem dX6_note_74 : decode cX6_note 74 = .ok (.aload_n 0, 1) := by decide +kernel
theorem dX6_note_75 : decode cX6_note 75 = .ok (.getfield 7, 3) := by decide +kernel
theorem dX6_note_78 : decode cX6_note 78 = .ok (.iload 4, 2) := by decide +kernel
theorem dX6_note_80 : decode cX6_note 80 = .ok (.iload_n 1, 1) := by decide +kernel
theorem dX6_note_81 : decode cX6_note 81 = .ok (.iastore, 1) := by decide +kernel
theorem dX6_note_82 : decode cX6_note 82 = .ok (.aload_n 0, 1) := by decide +kernel
theorem dX6_note_83 : decode cX6_note 83 = .ok (.getfield 7, 3) := by decide +kernel
theorem dX6_note_86 : decode cX6_note 86 = .ok (.iload 4, 2) := by decide +kernel
theorem dX6_note_88 : decode cX6_note 88 = .ok (.iconst 1, 1) := by decide +kernel
theorem dX6_note_89 : decode cX6_note 89 = .ok (.iadd, 1) := by decide +kernel
theorem dX6_note_90 : decode cX6_note 90 = .ok (.iload_n 2, 1) := by decide +kernel
theorem dX6_note_91 : decode cX6_note 91 = .ok (.iastore, 1) := by decide +kernel
theorem dX6_note_92 : decode cX6_note 92 = .ok (.aload_n 0, 1) := by decide +kernel
theorem dX6_note_93 : decode cX6_note 93 = .ok (.getfield 7, 3) := by decide +kernel
theorem dX6_note_96 : decode cX6_note 96 = .ok (.iload 4, 2) := by decide +kernel
theorem dX6_note_98 : decode cX6_note 98 = .ok (.iconst 2, 1) := by decide +kernel
theorem dX6_note_99 : decode cX6_note 99 = .ok (.iadd, 1) := by decide +kernel
theorem dX6_note_100 : decode cX6_note 100 = .ok (.iload_n 3, 1) := by decide +kernel
theorem dX6_note_101 : decode cX6_note 101 = .ok (.iastore, 1) := by decide +kernel
theorem dX6_note_102 : decode cX6_note 102 = .ok (.aload_n 0, 1) := by decide +kernel
theorem dX6_note_103 : decode cX6_note 103 = .ok (.getfield 7, 3) := by decide +kernel
theorem dX6_note_106 : decode cX6_note 106 = .ok (.bipush 31, 2) := by decide +kernel
theorem dX6_note_108 : decode cX6_note 108 = .ok (.dup2, 1) := by decide +kernel
theorem dX6_note_109 : decode cX6_note 109 = .ok (.iaload, 1) := by decide +kernel
theorem dX6_note_110 : decode cX6_note 110 = .ok (.iconst 1, 1) := by decide +kernel
theorem dX6_note_111 : decode cX6_note 111 = .ok (.iadd, 1) := by decide +kernel
theorem dX6_note_112 : decode cX6_note 112 = .ok (.iastore, 1) := by decide +kernel
theorem dX6_note_113 : decode cX6_note 113 = .ok (.aload_n 0, 1) := by decide +kernel
theorem dX6_note_114 : decode cX6_note 114 = .ok (.getfield 7, 3) := by decide +kernel
theorem dX6_note_117 : decode cX6_note 117 = .ok (.bipush 31, 2) := by decide +kernel
theorem dX6_note_119 : decode cX6_note 119 = .ok (.iaload, 1) := by decide +kernel
theorem dX6_note_120 : decode cX6_note 120 = .ok (.ireturn, 1) := by decide +kernel
set_option maxRecDepth 20000 in
theorem ggX6_mark_X6_isBatter : GoodIn wsX6_mark wsX6_isBatter := goodIn_r _ [9, 4, 10, 11, 8, 12, 22, 23, 24, 25, 26, 27, 28, 29, 30, 31, 32, 33, 34, 35] (by decide +kernel) (by decide +kernel)
set_option maxRecDepth 20000 in
theorem gX6_mark_X6_isBatter : GoodIn wsX6_mark (wsV RX6 183 RX6 yX6_isBatter wsX6_isBatter) := goodIn_app (goodIn_of _ (by decide +kernel)) ggX6_mark_X6_isBatter
set_option maxRecDepth 20000 in
theorem ggX6_mark_X6_in : GoodIn wsX6_mark wsX6_in := goodIn_r _ [12] (by decide +kernel) (by decide +kernel)
set_option maxRecDepth 20000 in
theorem gX6_mark_X6_in : GoodIn wsX6_mark (va_wsS RX6 47 yX6_in wsX6_in) := goodIn_app (goodIn_of _ (by decide +kernel)) ggX6_mark_X6_in
set_option maxRecDepth 20000 in
theorem ggX6_mark_X6_bad : GoodIn wsX6_mark wsX6_bad := goodIn_r _ [16, 17, 22, 23, 24, 25, 26, 27, 28, 29, 30, 31, 32, 33, 34, 35] (by decide +kernel) (by decide +kernel)
set_option maxRecDepth 20000 in
theorem gX6_mark_X6_bad : GoodIn wsX6_mark (wsV RX6 89 RX6 yX6_bad wsX6_bad) := goodIn_app (goodIn_of _ (by decide +kernel)) ggX6_mark_X6_bad
set_option maxRecDepth 20000 in
theorem ggX6_mark_X6_full : GoodIn wsX6_mark wsX6_full := goodIn_r _ [21, 17, 22, 23, 24, 25, 26, 27, 28, 29, 30, 31, 32, 33, 34, 35] (by decide +kernel) (by decide +kernel)
set_option maxRecDepth 20000 in
theorem gX6_mark_X6_full : GoodIn wsX6_mark (wsV RX6 92 RX6 yX6_full wsX6_full) := goodIn_app (goodIn_of _ (by decide +kernel)) ggX6_mark_X6_full
theorem dX6_mark_0 : decode cX6_mark 0 = .ok (.aload_n 0, 1) := by decide +kernel
theorem dX6_mark_1 : decode cX6_mark 1 = .ok (.iload_n 1, 1) := by decide +kernel
theorem dX6_mark_2 : decode cX6_mark 2 = .ok (.invokevirtual 183, 3) := by decide +kernel
theorem dX6_mark_5 : decode cX6_mark 5 = .ok (.ifCond .eq 40, 3) := by decide +kernel
theorem dX6_mark_8 : decode cX6_mark 8 = .ok (.iload_n 2, 1) := by decide +kernel
theorem dX6_mark_9 : decode cX6_mark 9 = .ok (.i2l, 1) := by decide +kernel
theorem dX6_mark_10 : decode cX6_mark 10 = .ok (.lconst 1, 1) := by decide +kernel
theorem dX6_mark_11 : decode cX6_mark 11 = .ok (.ldc2_w 87, 3) := by decide +kernel
theorem dX6_mark_14 : decode cX6_mark 14 = .ok (.invokestatic 47, 3) := by decide +kernel
theorem dX6_mark_17 : decode cX6_mark 17 = .ok (.ifCond .eq 28, 3) := by decide +kernel
theorem dX6_mark_20 : decode cX6_mark 20 = .ok (.iload_n 3, 1) := by decide +kernel
theorem dX6_mark_21 : decode cX6_mark 21 = .ok (.i2l, 1) := by decide +kernel
theorem dX6_mark_22 : decode cX6_mark 22 = .ok (.lconst 0, 1) := by decide +kernel
theorem dX6_mark_23 : decode cX6_mark 23 = .ok (.ldc2_w 214, 3) := by decide +kernel
theorem dX6_mark_26 : decode cX6_mark 26 = .ok (.invokestatic 47, 3) := by decide +kernel
theorem dX6_mark_29 : decode cX6_mark 29 = .ok (.ifCond .eq 16, 3) := by decide +kernel
theorem dX6_mark_32 : decode cX6_mark 32 = .ok (.iload 4, 2) := by decide +kernel
theorem dX6_mark_34 : decode cX6_mark 34 = .ok (.i2l, 1) := by decide +kernel
theorem dX6_mark_35 : decode cX6_mark 35 = .ok (.lconst 0, 1) := by decide +kernel
theorem dX6_mark_36 : decode cX6_mark 36 = .ok (.ldc2_w 175, 3) := by decide +kernel
theorem dX6_mark_39 : decode cX6_mark 39 = .ok (.invokestatic 47, 3) := by decide +kernel
theorem dX6_mark_42 : decode cX6_mark 42 = .ok (.ifCond .ne 10, 3) := by decide +kernel
theorem dX6_mark_45 : decode cX6_mark 45 = .ok (.aload_n 0, 1) := by decide +kernel
theorem dX6_mark_46 : decode cX6_mark 46 = .ok (.bipush (-2), 2) := by decide +kernel
theorem dX6_mark_48 : decode cX6_mark 48 = .ok (.invokevirtual 89, 3) := by decide +kernel
theorem dX6_mark_51 : decode cX6_mark 51 = .ok (.ireturn, 1) := by decide +kernel
theorem dX6_mark_52 : decode cX6_mark 52 = .ok (.aload_n 0, 1) := by decide +kernel
theorem dX6_mark_53 : decode cX6_mark 53 = .ok (.getfield 7, 3) := by decide +kernel
theorem dX6_mark_56 : decode cX6_mark 56 = .ok (.bipush 50, 2) := by decide +kernel
theorem dX6_mark_58 : decode cX6_mark 58 = .ok (.iaload, 1) := by decide +kernel
theorem dX6_mark_59 : decode cX6_mark 59 = .ok (.bipush 6, 2) := by decide +kernel
theorem dX6_mark_61 : decode cX6_mark 61 = .ok (.if_icmp .ne 8, 3) := by decide +kernel
theorem dX6_mark_64 : decode cX6_mark 64 = .ok (.aload_n 0, 1) := by decide +kernel
theorem dX6_mark_65 : decode cX6_mark 65 = .ok (.invokevirtual 92, 3) := by decide +kernel
theorem dX6_mark_68 : decode cX6_mark 68 = .ok (.ireturn, 1) := by decide +kernel
theorem dX6_mark_69 : decode cX6_mark 69 = .ok (.bipush 51, 2) := by decide +kernel
theorem dX6_mark_71 : decode cX6_mark 71 = .ok (.iconst 4, 1) := by decide +kernel
theorem dX6_mark_72 : decode cX6_mark 72 = .ok (.aload_n 0, 1) := by decide +kernel
theorem dX6_mark_73 : decode cX6_mark 73 = .ok (.getfield 7, 3) := by decide +kernel
theorem dX6_mark_76 : decode cX6_mark 76 = .ok (.bipush 50, 2) := by decide +kernel
theorem dX6_mark_78 : decode cX6_mark 78 = .ok (.iaload, 1) := by decide +kernel
theorem dX6_mark_79 : decode cX6_mark 79 = .ok (.imul, 1) := by decide +kernel
theorem dX6_mark_80 : decode cX6_mark 80 = .ok (.iadd, 1) := by decide +kernel
theorem dX6_mark_81 : decode cX6_mark 81 = .ok (.istore 5, 2) := by decide +kernel
theorem dX6_mark_83 : decode cX6_mark 83 = .ok (.aload_n 0, 1) := by decide +kernel
theorem dX6_mark_84 : decode cX6_mark 84 = .ok (.getfield 7, 3) := by decide +kernel
theorem dX6_mark_87 : decode cX6_mark 87 = .ok (.iload 5, 2) := by decide +kernel
theorem dX6_mark_89 : decode cX6_mark 89 = .ok (.iload_n 1, 1) := by decide +kernel
theorem dX6_mark_90 : decode cX6_mark 90 = .ok (.iastore, 1) := by decide +kernel
theorem dX6_mark_91 : decode cX6_mark 91 = .ok (.aload_n 0, 1) := by decide +kernel
theorem dX6_mark_92 : decode cX6_mark 92 = .ok (.getfield 7, 3) := by decide +kernel
theorem dX6_mark_95 : decode cX6_mark 95 = .ok (.iload 5, 2) := by decide +kernel
theorem dX6_mark_97 : decode cX6_mark 97 = .ok (.iconst 1, 1) := by decide +kernel
theorem dX6_mark_98 : decode cX6_mark 98 = .ok (.iadd, 1) := by decide +kernel
theorem dX6_mark_99 : decode cX6_mark 99 = .ok (.iload_n 2, 1) := by decide +kernel
theorem dX6_mark_100 : decode cX6_mark 100 = .ok (.iastore, 1) := by decide +kernel
theorem dX6_mark_101 : decode cX6_mark 101 = .ok (.aload_n 0, 1) := by decide +kernel
theorem dX6_mark_102 : decode cX6_mark 102 = .ok (.getfield 7, 3) := by decide +kernel
theorem dX6_mark_105 : decode cX6_mark 105 = .ok (.iload 5, 2) := by decide +kernel
theorem dX6_mark_107 : decode cX6_mark 107 = .ok (.iconst 2, 1) := by decide +kernel
theorem dX6_mark_108 : decode cX6_mark 108 = .ok (.iadd, 1) := by decide +kernel
theorem dX6_mark_109 : decode cX6_mark 109 = .ok (.iload_n 3, 1) := by decide +kernel
theorem dX6_mark_110 : decode cX6_mark 110 = .ok (.iastore, 1) := by decide +kernel
theorem dX6_mark_111 : decode cX6_mark 111 = .ok (.aload_n 0, 1) := by decide +kernel
theorem dX6_mark_112 : decode cX6_mark 112 = .ok (.getfield 7, 3) := by decide +kernel
theorem dX6_mark_115 : decode cX6_mark 115 = .ok (.iload 5, 2) := by decide +kernel
theorem dX6_mark_117 : decode cX6_mark 117 = .ok (.iconst 3, 1) := by decide +kernel
theorem dX6_mark_118 : decode cX6_mark 118 = .ok (.iadd, 1) := by decide +kernel
theorem dX6_mark_119 : decode cX6_mark 119 = .ok (.iload 4, 2) := by decide +kernel
theorem dX6_mark_121 : decode cX6_mark 121 = .ok (.iastore, 1) := by decide +kernel
theorem dX6_mark_122 : decode cX6_mark 122 = .ok (.aload_n 0, 1) := by decide +kernel
theorem dX6_mark_123 : decode cX6_mark 123 = .ok (.getfield 7, 3) := by decide +kernel
theorem dX6_mark_126 : decode cX6_mark 126 = .ok (.bipush 50, 2) := by decide +kernel
theorem dX6_mark_128 : decode cX6_mark 128 = .ok (.dup2, 1) := by decide +kernel
theorem dX6_mark_129 : decode cX6_mark 129 = .ok (.iaload, 1) := by decide +kernel
theorem dX6_mark_130 : decode cX6_mark 130 = .ok (.iconst 1, 1) := by decide +kernel
theorem dX6_mark_131 : decode cX6_mark 131 = .ok (.iadd, 1) := by decide +kernel
theorem dX6_mark_132 : decode cX6_mark 132 = .ok (.iastore, 1) := by decide +kernel
theorem dX6_mark_133 : decode cX6_mark 133 = .ok (.aload_n 0, 1) := by decide +kernel
theorem dX6_mark_134 : decode cX6_mark 134 = .ok (.getfield 7, 3) := by decide +kernel
theorem dX6_mark_137 : decode cX6_mark 137 = .ok (.bipush 50, 2) := by decide +kernel
theorem dX6_mark_139 : decode cX6_mark 139 = .ok (.iaload, 1) := by decide +kernel
theorem dX6_mark_140 : decode cX6_mark 140 = .ok (.ireturn, 1) := by decide +kernel
set_option maxRecDepth 20000 in
theorem ggX6_forget_X6_in : GoodIn wsX6_forget wsX6_in := goodIn_r _ [5] (by decide +kernel) (by decide +kernel)
set_option maxRecDepth 20000 in
theorem gX6_forget_X6_in : GoodIn wsX6_forget (va_wsS RX6 47 yX6_in wsX6_in) := goodIn_app (goodIn_of _ (by decide +kernel)) ggX6_forget_X6_in
set_option maxRecDepth 20000 in
theorem ggX6_forget_X6_bad : GoodIn wsX6_forget wsX6_bad := goodIn_r _ [9, 10, 11, 12, 13, 14, 15, 16, 17, 18, 19, 20, 21, 22, 23, 24] (by decide +kernel) (by decide +kernel)
set_option maxRecDepth 20000 in
theorem gX6_forget_X6_bad : GoodIn wsX6_forget (wsV RX6 89 RX6 yX6_bad wsX6_bad) := goodIn_app (goodIn_of _ (by decide +kernel)) ggX6_forget_X6_bad
theorem dX6_forget_0 : decode cX6_forget 0 = .ok (.iload_n 1, 1) := by decide +kernel
theorem dX6_forget_1 : decode cX6_forget 1 = .ok (.i2l, 1) := by decide +kernel
theorem dX6_forget_2 : decode cX6_forget 2 = .ok (.lconst 0, 1) := by decide +kernel
theorem dX6_forget_3 : decode cX6_forget 3 = .ok (.lconst 1, 1) := by decide +kernel
theorem dX6_forget_4 : decode cX6_forget 4 = .ok (.invokestatic 47, 3) := by decide +kernel
theorem dX6_forget_7 : decode cX6_forget 7 = .ok (.ifCond .ne 10, 3) := by decide +kernel
theorem dX6_forget_10 : decode cX6_forget 10 = .ok (.aload_n 0, 1) := by decide +kernel
theorem dX6_forget_11 : decode cX6_forget 11 = .ok (.bipush (-2), 2) := by decide +kernel
theorem dX6_forget_13 : decode cX6_forget 13 = .ok (.invokevirtual 89, 3) := by decide +kernel
theorem dX6_forget_16 : decode cX6_forget 16 = .ok (.ireturn, 1) := by decide +kernel
theorem dX6_forget_17 : decode cX6_forget 17 = .ok (.iload_n 1, 1) := by decide +kernel
theorem dX6_forget_18 : decode cX6_forget 18 = .ok (.ifCond .ne 8, 3) := by decide +kernel
theorem dX6_forget_21 : decode cX6_forget 21 = .ok (.bipush 31, 2) := by decide +kernel
theorem dX6_forget_23 : decode cX6_forget 23 = .ok (.goto 5, 3) := by decide +kernel
theorem dX6_forget_26 : decode cX6_forget 26 = .ok (.bipush 50, 2) := by decide +kernel
theorem dX6_forget_28 : decode cX6_forget 28 = .ok (.istore_n 2, 1) := by decide +kernel
theorem dX6_forget_29 : decode cX6_forget 29 = .ok (.aload_n 0, 1) := by decide +kernel
theorem dX6_forget_30 : decode cX6_forget 30 = .ok (.getfield 7, 3) := by decide +kernel
theorem dX6_forget_33 : decode cX6_forget 33 = .ok (.iload_n 2, 1) := by decide +kernel
theorem dX6_forget_34 : decode cX6_forget 34 = .ok (.iaload, 1) := by decide +kernel
theorem dX6_forget_35 : decode cX6_forget 35 = .ok (.istore_n 3, 1) := by decide +kernel
theorem dX6_forget_36 : decode cX6_forget 36 = .ok (.aload_n 0, 1) := by decide +kernel
theorem dX6_forget_37 : decode cX6_forget 37 = .ok (.getfield 7, 3) := by decide +kernel
theorem dX6_forget_40 : decode cX6_forget 40 = .ok (.iload_n 2, 1) := by decide +kernel
theorem dX6_forget_41 : decode cX6_forget 41 = .ok (.iconst 0, 1) := by decide +kernel
theorem dX6_forget_42 : decode cX6_forget 42 = .ok (.iastore, 1) := by decide +kernel
theorem dX6_forget_43 : decode cX6_forget 43 = .ok (.iload_n 3, 1) := by decide +kernel
theorem dX6_forget_44 : decode cX6_forget 44 = .ok (.ireturn, 1) := by decide +kernel
set_option maxRecDepth 20000 in
theorem ggX6_is_X6_comesTo : GoodIn wsX6_is wsX6_comesTo := goodIn_r _ [5, 6, 7, 4, 8, 9, 10, 11] (by decide +kernel) (by decide +kernel)
set_option maxRecDepth 20000 in
theorem gX6_is_X6_comesTo : GoodIn wsX6_is (va_wsS RX6 65 yX6_comesTo wsX6_comesTo) := goodIn_app (goodIn_of _ (by decide +kernel)) ggX6_is_X6_comesTo
theorem dX6_is_0 : decode cX6_is 0 = .ok (.bipush 63, 2) := by decide +kernel
theorem dX6_is_2 : decode cX6_is 2 = .ok (.istore_n 1, 1) := by decide +kernel
theorem dX6_is_3 : decode cX6_is 3 = .ok (.iconst 0, 1) := by decide +kernel
theorem dX6_is_4 : decode cX6_is 4 = .ok (.istore_n 2, 1) := by decide +kernel
theorem dX6_is_5 : decode cX6_is 5 = .ok (.iload_n 2, 1) := by decide +kernel
theorem dX6_is_6 : decode cX6_is 6 = .ok (.bipush 6, 2) := by decide +kernel
theorem dX6_is_8 : decode cX6_is 8 = .ok (.if_icmp .ge 76, 3) := by decide +kernel
theorem dX6_is_11 : decode cX6_is 11 = .ok (.iconst 0, 1) := by decide +kernel
theorem dX6_is_12 : decode cX6_is 12 = .ok (.istore_n 3, 1) := by decide +kernel
theorem dX6_is_13 : decode cX6_is 13 = .ok (.iload_n 3, 1) := by decide +kernel
theorem dX6_is_14 : decode cX6_is 14 = .ok (.aload_n 0, 1) := by decide +kernel
theorem dX6_is_15 : decode cX6_is 15 = .ok (.getfield 7, 3) := by decide +kernel
theorem dX6_is_18 : decode cX6_is 18 = .ok (.bipush 31, 2) := by decide +kernel
theorem dX6_is_20 : decode cX6_is 20 = .ok (.iaload, 1) := by decide +kernel
theorem dX6_is_21 : decode cX6_is 21 = .ok (.if_icmp .ge 57, 3) := by decide +kernel
theorem dX6_is_24 : decode cX6_is 24 = .ok (.bipush 32, 2) := by decide +kernel
theorem dX6_is_26 : decode cX6_is 26 = .ok (.iconst 3, 1) := by decide +kernel
theorem dX6_is_27 : decode cX6_is 27 = .ok (.iload_n 3, 1) := by decide +kernel
theorem dX6_is_28 : decode cX6_is 28 = .ok (.imul, 1) := by decide +kernel
theorem dX6_is_29 : decode cX6_is 29 = .ok (.iadd, 1) := by decide +kernel
theorem dX6_is_30 : decode cX6_is 30 = .ok (.istore 4, 2) := by decide +kernel
theorem dX6_is_32 : decode cX6_is 32 = .ok (.iload_n 2, 1) := by decide +kernel
theorem dX6_is_33 : decode cX6_is 33 = .ok (.aload_n 0, 1) := by decide +kernel
theorem dX6_is_34 : decode cX6_is 34 = .ok (.getfield 7, 3) := by decide +kernel
theorem dX6_is_37 : decode cX6_is 37 = .ok (.iload 4, 2) := by decide +kernel
theorem dX6_is_39 : decode cX6_is 39 = .ok (.iconst 1, 1) := by decide +kernel
theorem dX6_is_40 : decode cX6_is 40 = .ok (.iadd, 1) := by decide +kernel
theorem dX6_is_41 : decode cX6_is 41 = .ok (.iaload, 1) := by decide +kernel
theorem dX6_is_42 : decode cX6_is 42 = .ok (.aload_n 0, 1) := by decide +kernel
theorem dX6_is_43 : decode cX6_is 43 = .ok (.getfield 7, 3) := by decide +kernel
theorem dX6_is_46 : decode cX6_is 46 = .ok (.iload 4, 2) := by decide +kernel
theorem dX6_is_48 : decode cX6_is 48 = .ok (.iaload, 1) := by decide +kernel
theorem dX6_is_49 : decode cX6_is 49 = .ok (.invokestatic 65, 3) := by decide +kernel
theorem dX6_is_52 : decode cX6_is 52 = .ok (.aload_n 0, 1) := by decide +kernel
theorem dX6_is_53 : decode cX6_is 53 = .ok (.getfield 7, 3) := by decide +kernel
theorem dX6_is_56 : decode cX6_is 56 = .ok (.iload 4, 2) := by decide +kernel
theorem dX6_is_58 : decode cX6_is 58 = .ok (.iconst 2, 1) := by decide +kernel
theorem dX6_is_59 : decode cX6_is 59 = .ok (.iadd, 1) := by decide +kernel
theorem dX6_is_60 : decode cX6_is 60 = .ok (.iaload, 1) := by decide +kernel
theorem dX6_is_61 : decode cX6_is 61 = .ok (.if_icmp .eq 11, 3) := by decide +kernel
theorem dX6_is_64 : decode cX6_is 64 = .ok (.iload_n 1, 1) := by decide +kernel
theorem dX6_is_65 : decode cX6_is 65 = .ok (.iconst 1, 1) := by decide +kernel
theorem dX6_is_66 : decode cX6_is 66 = .ok (.iload_n 2, 1) := by decide +kernel
theorem dX6_is_67 : decode cX6_is 67 = .ok (.ishl, 1) := by decide +kernel
theorem dX6_is_68 : decode cX6_is 68 = .ok (.iconst (-1), 1) := by decide +kernel
theorem dX6_is_69 : decode cX6_is 69 = .ok (.ixor, 1) := by decide +kernel
theorem dX6_is_70 : decode cX6_is 70 = .ok (.iand, 1) := by decide +kernel
theorem dX6_is_71 : decode cX6_is 71 = .ok (.istore_n 1, 1) := by decide +kernel
theorem dX6_is_72 : decode cX6_is 72 = .ok (.iinc 3 1, 3) := by decide +kernel
theorem dX6_is_75 : decode cX6_is 75 = .ok (.goto (-62), 3) := by decide +kernel
theorem dX6_is_78 : decode cX6_is 78 = .ok (.iinc 2 1, 3) := by decide +kernel
theorem dX6_is_81 : decode cX6_is 81 = .ok (.goto (-76), 3) := by decide +kernel
theorem dX6_is_84 : decode cX6_is 84 = .ok (.iload_n 1, 1) := by decide +kernel
theorem dX6_is_85 : decode cX6_is 85 = .ok (.ireturn, 1) := by decide +kernel
set_option maxRecDepth 20000 in
theorem ggX6_look_X6_is : GoodIn wsX6_look wsX6_is := goodIn_r _ [6, 7, 8, 9, 5, 10, 11, 12, 13, 14, 15, 16, 20, 21, 22, 23, 24, 25, 26, 27, 28, 29, 30, 31, 32, 33] (by decide +kernel) (by decide +kernel)
set_option maxRecDepth 20000 in
theorem gX6_look_X6_is : GoodIn wsX6_look (wsV RX6 228 RX6 yX6_is wsX6_is) := goodIn_app (goodIn_of _ (by decide +kernel)) ggX6_look_X6_is
set_option maxRecDepth 20000 in
theorem ggX6_look_X6_has : GoodIn wsX6_look wsX6_has := goodIn_r _ [19] (by decide +kernel) (by decide +kernel)
set_option maxRecDepth 20000 in
theorem gX6_look_X6_has : GoodIn wsX6_look (va_wsS RX6 231 yX6_has wsX6_has) := goodIn_app (goodIn_of _ (by decide +kernel)) ggX6_look_X6_has
set_option maxRecDepth 20000 in
theorem ggX6_look_X6_comesTo : GoodIn wsX6_look wsX6_comesTo := goodIn_r _ [10, 11, 12, 5, 13, 14, 15, 16] (by decide +kernel) (by decide +kernel)
set_option maxRecDepth 20000 in
theorem gX6_look_X6_comesTo : GoodIn wsX6_look (va_wsS RX6 65 yX6_comesTo wsX6_comesTo) := goodIn_app (goodIn_of _ (by decide +kernel)) ggX6_look_X6_comesTo
theorem dX6_look_0 : decode cX6_look 0 = .ok (.aload_n 0, 1) := by decide +kernel
theorem dX6_look_1 : decode cX6_look 1 = .ok (.invokevirtual 228, 3) := by decide +kernel
theorem dX6_look_4 : decode cX6_look 4 = .ok (.istore_n 1, 1) := by decide +kernel
theorem dX6_look_5 : decode cX6_look 5 = .ok (.iconst (-1), 1) := by decide +kernel
theorem dX6_look_6 : decode cX6_look 6 = .ok (.istore_n 2, 1) := by decide +kernel
theorem dX6_look_7 : decode cX6_look 7 = .ok (.ldc 208, 2) := by decide +kernel
theorem dX6_look_9 : decode cX6_look 9 = .ok (.istore_n 3, 1) := by decide +kernel
theorem dX6_look_10 : decode cX6_look 10 = .ok (.iconst 0, 1) := by decide +kernel
theorem dX6_look_11 : decode cX6_look 11 = .ok (.istore 4, 2) := by decide +kernel
theorem dX6_look_13 : decode cX6_look 13 = .ok (.iload 4, 2) := by decide +kernel
theorem dX6_look_15 : decode cX6_look 15 = .ok (.bipush 100, 2) := by decide +kernel
theorem dX6_look_17 : decode cX6_look 17 = .ok (.if_icmp .ge 150, 3) := by decide +kernel
theorem dX6_look_20 : decode cX6_look 20 = .ok (.iconst 0, 1) := by decide +kernel
theorem dX6_look_21 : decode cX6_look 21 = .ok (.istore 5, 2) := by decide +kernel
theorem dX6_look_23 : decode cX6_look 23 = .ok (.iconst 0, 1) := by decide +kernel
theorem dX6_look_24 : decode cX6_look 24 = .ok (.istore 6, 2) := by decide +kernel
theorem dX6_look_26 : decode cX6_look 26 = .ok (.iload 6, 2) := by decide +kernel
theorem dX6_look_28 : decode cX6_look 28 = .ok (.bipush 6, 2) := by decide +kernel
theorem dX6_look_30 : decode cX6_look 30 = .ok (.if_icmp .ge 105, 3) := by decide +kernel
theorem dX6_look_33 : decode cX6_look 33 = .ok (.iconst 0, 1) := by decide +kernel
theorem dX6_look_34 : decode cX6_look 34 = .ok (.istore 7, 2) := by decide +kernel
theorem dX6_look_36 : decode cX6_look 36 = .ok (.iconst 0, 1) := by decide +kernel
theorem dX6_look_37 : decode cX6_look 37 = .ok (.istore 8, 2) := by decide +kernel
theorem dX6_look_39 : decode cX6_look 39 = .ok (.iload 8, 2) := by decide +kernel
theorem dX6_look_41 : decode cX6_look 41 = .ok (.bipush 6, 2) := by decide +kernel
theorem dX6_look_43 : decode cX6_look 43 = .ok (.if_icmp .ge 70, 3) := by decide +kernel
theorem dX6_look_46 : decode cX6_look 46 = .ok (.iload 7, 2) := by decide +kernel
theorem dX6_look_48 : decode cX6_look 48 = .ok (.iload_n 1, 1) := by decide +kernel
theorem dX6_look_49 : decode cX6_look 49 = .ok (.iload 6, 2) := by decide +kernel
theorem dX6_look_51 : decode cX6_look 51 = .ok (.invokestatic 231, 3) := by decide +kernel
theorem dX6_look_54 : decode cX6_look 54 = .ok (.ifCond .eq 49, 3) := by decide +kernel
theorem dX6_look_57 : decode cX6_look 57 = .ok (.iload_n 1, 1) := by decide +kernel
theorem dX6_look_58 : decode cX6_look 58 = .ok (.iload 8, 2) := by decide +kernel
theorem dX6_look_60 : decode cX6_look 60 = .ok (.invokestatic 231, 3) := by decide +kernel
theorem dX6_look_63 : decode cX6_look 63 = .ok (.ifCond .eq 40, 3) := by decide +kernel
theorem dX6_look_66 : decode cX6_look 66 = .ok (.iload 6, 2) := by decide +kernel
theorem dX6_look_68 : decode cX6_look 68 = .ok (.iload 4, 2) := by decide +kernel
theorem dX6_look_70 : decode cX6_look 70 = .ok (.bipush 10, 2) := by decide +kernel
theorem dX6_look_72 : decode cX6_look 72 = .ok (.irem, 1) := by decide +kernel
theorem dX6_look_73 : decode cX6_look 73 = .ok (.iload 4, 2) := by decide +kernel
theorem dX6_look_75 : decode cX6_look 75 = .ok (.bipush 10, 2) := by decide +kernel
theorem dX6_look_77 : decode cX6_look 77 = .ok (.idiv, 1) := by decide +kernel
theorem dX6_look_78 : decode cX6_look 78 = .ok (.invokestatic 65, 3) := by decide +kernel
theorem dX6_look_81 : decode cX6_look 81 = .ok (.iload 8, 2) := by decide +kernel
theorem dX6_look_83 : decode cX6_look 83 = .ok (.iload 4, 2) := by decide +kernel
theorem dX6_look_85 : decode cX6_look 85 = .ok (.bipush 10, 2) := by decide +kernel
theorem dX6_look_87 : decode cX6_look 87 = .ok (.irem, 1) := by decide +kernel
theorem dX6_look_88 : decode cX6_look 88 = .ok (.iload 4, 2) := by decide +kernel
theorem dX6_look_90 : decode cX6_look 90 = .ok (.bipush 10, 2) := by decide +kernel
theorem dX6_look_92 : decode cX6_look 92 = .ok (.idiv, 1) := by decide +kernel
theorem dX6_look_93 : decode cX6_look 93 = .ok (.invokestatic 65, 3) := by decide +kernel
theorem dX6_look_96 : decode cX6_look 96 = .ok (.if_icmp .ne 7, 3) := by decide +kernel
theorem dX6_look_99 : decode cX6_look 99 = .ok (.iconst 1, 1) := by decide +kernel
theorem dX6_look_100 : decode cX6_look 100 = .ok (.goto 4, 3) := by decide +kernel
theorem dX6_look_103 : decode cX6_look 103 = .ok (.iconst 0, 1) := by decide +kernel
theorem dX6_look_104 : decode cX6_look 104 = .ok (.iadd, 1) := by decide +kernel
theorem dX6_look_105 : decode cX6_look 105 = .ok (.istore 7, 2) := by decide +kernel
theorem dX6_look_107 : decode cX6_look 107 = .ok (.iinc 8 1, 3) := by decide +kernel
theorem dX6_look_110 : decode cX6_look 110 = .ok (.goto (-71), 3) := by decide +kernel
theorem dX6_look_113 : decode cX6_look 113 = .ok (.iload 7, 2) := by decide +kernel
theorem dX6_look_115 : decode cX6_look 115 = .ok (.iload 5, 2) := by decide +kernel
theorem dX6_look_117 : decode cX6_look 117 = .ok (.if_icmp .le 8, 3) := by decide +kernel
theorem dX6_look_120 : decode cX6_look 120 = .ok (.iload 7, 2) := by decide +kernel
theorem dX6_look_122 : decode cX6_look 122 = .ok (.goto 5, 3) := by decide +kernel
theorem dX6_look_125 : decode cX6_look 125 = .ok (.iload 5, 2) := by decide +kernel
theorem dX6_look_127 : decode cX6_look 127 = .ok (.istore 5, 2) := by decide +kernel
theorem dX6_look_129 : decode cX6_look 129 = .ok (.iinc 6 1, 3) := by decide +kernel
theorem dX6_look_132 : decode cX6_look 132 = .ok (.goto (-106), 3) := by decide +kernel
theorem dX6_look_135 : decode cX6_look 135 = .ok (.iload 5, 2) := by decide +kernel
theorem dX6_look_137 : decode cX6_look 137 = .ok (.iload_n 3, 1) := by decide +kernel
theorem dX6_look_138 : decode cX6_look 138 = .ok (.if_icmp .ge 8, 3) := by decide +kernel
theorem dX6_look_141 : decode cX6_look 141 = .ok (.iload 4, 2) := by decide +kernel
theorem dX6_look_143 : decode cX6_look 143 = .ok (.goto 4, 3) := by decide +kernel
theorem dX6_look_146 : decode cX6_look 146 = .ok (.iload_n 2, 1) := by decide +kernel
theorem dX6_look_147 : decode cX6_look 147 = .ok (.istore_n 2, 1) := by decide +kernel
theorem dX6_look_148 : decode cX6_look 148 = .ok (.iload 5, 2) := by decide +kernel
theorem dX6_look_150 : decode cX6_look 150 = .ok (.iload_n 3, 1) := by decide +kernel
theorem dX6_look_151 : decode cX6_look 151 = .ok (.if_icmp .ge 8, 3) := by decide +kernel
theorem dX6_look_154 : decode cX6_look 154 = .ok (.iload 5, 2) := by decide +kernel
theorem dX6_look_156 : decode cX6_look 156 = .ok (.goto 4, 3) := by decide +kernel
theorem dX6_look_159 : decode cX6_look 159 = .ok (.iload_n 3, 1) := by decide +kernel
theorem dX6_look_160 : decode cX6_look 160 = .ok (.istore_n 3, 1) := by decide +kernel
theorem dX6_look_161 : decode cX6_look 161 = .ok (.iinc 4 1, 3) := by decide +kernel
theorem dX6_look_164 : decode cX6_look 164 = .ok (.goto (-151), 3) := by decide +kernel
theorem dX6_look_167 : decode cX6_look 167 = .ok (.iload_n 1, 1) := by decide +kernel
theorem dX6_look_168 : decode cX6_look 168 = .ok (.ifCond .ne 7, 3) := by decide +kernel
theorem dX6_look_171 : decode cX6_look 171 = .ok (.iconst (-1), 1) := by decide +kernel
theorem dX6_look_172 : decode cX6_look 172 = .ok (.goto 4, 3) := by decide +kernel
theorem dX6_look_175 : decode cX6_look 175 = .ok (.iload_n 2, 1) := by decide +kernel
theorem dX6_look_176 : decode cX6_look 176 = .ok (.ireturn, 1) := by decide +kernel
set_option maxRecDepth 20000 in
theorem ggX6_whatOf_X6_runsBy : GoodIn wsX6_whatOf wsX6_runsBy := goodIn_r _ [5, 6, 7, 4, 8, 9, 10, 11] (by decide +kernel) (by decide +kernel)
set_option maxRecDepth 20000 in
theorem gX6_whatOf_X6_runsBy : GoodIn wsX6_whatOf (va_wsS RX6 69 yX6_runsBy wsX6_runsBy) := goodIn_app (goodIn_of _ (by decide +kernel)) ggX6_whatOf_X6_runsBy
theorem dX6_whatOf_0 : decode cX6_whatOf 0 = .ok (.bipush 63, 2) := by decide +kernel
theorem dX6_whatOf_2 : decode cX6_whatOf 2 = .ok (.istore_n 2, 1) := by decide +kernel
theorem dX6_whatOf_3 : decode cX6_whatOf 3 = .ok (.iconst 0, 1) := by decide +kernel
theorem dX6_whatOf_4 : decode cX6_whatOf 4 = .ok (.istore_n 3, 1) := by decide +kernel
theorem dX6_whatOf_5 : decode cX6_whatOf 5 = .ok (.iload_n 3, 1) := by decide +kernel
theorem dX6_whatOf_6 : decode cX6_whatOf 6 = .ok (.bipush 6, 2) := by decide +kernel
theorem dX6_whatOf_8 : decode cX6_whatOf 8 = .ok (.if_icmp .ge 92, 3) := by decide +kernel
theorem dX6_whatOf_11 : decode cX6_whatOf 11 = .ok (.iconst 0, 1) := by decide +kernel
theorem dX6_whatOf_12 : decode cX6_whatOf 12 = .ok (.istore 4, 2) := by decide +kernel
theorem dX6_whatOf_14 : decode cX6_whatOf 14 = .ok (.iload 4, 2) := by decide +kernel
theorem dX6_whatOf_16 : decode cX6_whatOf 16 = .ok (.aload_n 0, 1) := by decide +kernel
theorem dX6_whatOf_17 : decode cX6_whatOf 17 = .ok (.getfield 7, 3) := by decide +kernel
theorem dX6_whatOf_20 : decode cX6_whatOf 20 = .ok (.bipush 50, 2) := by decide +kernel
theorem dX6_whatOf_22 : decode cX6_whatOf 22 = .ok (.iaload, 1) := by decide +kernel
theorem dX6_whatOf_23 : decode cX6_whatOf 23 = .ok (.if_icmp .ge 71, 3) := by decide +kernel
theorem dX6_whatOf_26 : decode cX6_whatOf 26 = .ok (.bipush 51, 2) := by decide +kernel
theorem dX6_whatOf_28 : decode cX6_whatOf 28 = .ok (.iconst 4, 1) := by decide +kernel
theorem dX6_whatOf_29 : decode cX6_whatOf 29 = .ok (.iload 4, 2) := by decide +kernel
theorem dX6_whatOf_31 : decode cX6_whatOf 31 = .ok (.imul, 1) := by decide +kernel
theorem dX6_whatOf_32 : decode cX6_whatOf 32 = .ok (.iadd, 1) := by decide +kernel
theorem dX6_whatOf_33 : decode cX6_whatOf 33 = .ok (.istore 5, 2) := by decide +kernel
theorem dX6_whatOf_35 : decode cX6_whatOf 35 = .ok (.aload_n 0, 1) := by decide +kernel
theorem dX6_whatOf_36 : decode cX6_whatOf 36 = .ok (.getfield 7, 3) := by decide +kernel
theorem dX6_whatOf_39 : decode cX6_whatOf 39 = .ok (.iload 5, 2) := by decide +kernel
theorem dX6_whatOf_41 : decode cX6_whatOf 41 = .ok (.iaload, 1) := by decide +kernel
theorem dX6_whatOf_42 : decode cX6_whatOf 42 = .ok (.iload_n 1, 1) := by decide +kernel
theorem dX6_whatOf_43 : decode cX6_whatOf 43 = .ok (.if_icmp .ne 45, 3) := by decide +kernel
theorem dX6_whatOf_46 : decode cX6_whatOf 46 = .ok (.iload_n 3, 1) := by decide +kernel
theorem dX6_whatOf_47 : decode cX6_whatOf 47 = .ok (.aload_n 0, 1) := by decide +kernel
theorem dX6_whatOf_48 : decode cX6_whatOf 48 = .ok (.getfield 7, 3) := by decide +kernel
theorem dX6_whatOf_51 : decode cX6_whatOf 51 = .ok (.iload 5, 2) := by decide +kernel
theorem dX6_whatOf_53 : decode cX6_whatOf 53 = .ok (.iconst 1, 1) := by decide +kernel
theorem dX6_whatOf_54 : decode cX6_whatOf 54 = .ok (.iadd, 1) := by decide +kernel
theorem dX6_whatOf_55 : decode cX6_whatOf 55 = .ok (.iaload, 1) := by decide +kernel
theorem dX6_whatOf_56 : decode cX6_whatOf 56 = .ok (.aload_n 0, 1) := by decide +kernel
theorem dX6_whatOf_57 : decode cX6_whatOf 57 = .ok (.getfield 7, 3) := by decide +kernel
theorem dX6_whatOf_60 : decode cX6_whatOf 60 = .ok (.iload 5, 2) := by decide +kernel
theorem dX6_whatOf_62 : decode cX6_whatOf 62 = .ok (.iconst 2, 1) := by decide +kernel
theorem dX6_whatOf_63 : decode cX6_whatOf 63 = .ok (.iadd, 1) := by decide +kernel
theorem dX6_whatOf_64 : decode cX6_whatOf 64 = .ok (.iaload, 1) := by decide +kernel
theorem dX6_whatOf_65 : decode cX6_whatOf 65 = .ok (.invokestatic 69, 3) := by decide +kernel
theorem dX6_whatOf_68 : decode cX6_whatOf 68 = .ok (.aload_n 0, 1) := by decide +kernel
theorem dX6_whatOf_69 : decode cX6_whatOf 69 = .ok (.getfield 7, 3) := by decide +kernel
theorem dX6_whatOf_72 : decode cX6_whatOf 72 = .ok (.iload 5, 2) := by decide +kernel
theorem dX6_whatOf_74 : decode cX6_whatOf 74 = .ok (.iconst 3, 1) := by decide +kernel
theorem dX6_whatOf_75 : decode cX6_whatOf 75 = .ok (.iadd, 1) := by decide +kernel
theorem dX6_whatOf_76 : decode cX6_whatOf 76 = .ok (.iaload, 1) := by decide +kernel
theorem dX6_whatOf_77 : decode cX6_whatOf 77 = .ok (.if_icmp .eq 11, 3) := by decide +kernel
theorem dX6_whatOf_80 : decode cX6_whatOf 80 = .ok (.iload_n 2, 1) := by decide +kernel
theorem dX6_whatOf_81 : decode cX6_whatOf 81 = .ok (.iconst 1, 1) := by decide +kernel
theorem dX6_whatOf_82 : decode cX6_whatOf 82 = .ok (.iload_n 3, 1) := by decide +kernel
theorem dX6_whatOf_83 : decode cX6_whatOf 83 = .ok (.ishl, 1) := by decide +kernel
theorem dX6_whatOf_84 : decode cX6_whatOf 84 = .ok (.iconst (-1), 1) := by decide +kernel
theorem dX6_whatOf_85 : decode cX6_whatOf 85 = .ok (.ixor, 1) := by decide +kernel
theorem dX6_whatOf_86 : decode cX6_whatOf 86 = .ok (.iand, 1) := by decide +kernel
theorem dX6_whatOf_87 : decode cX6_whatOf 87 = .ok (.istore_n 2, 1) := by decide +kernel
theorem dX6_whatOf_88 : decode cX6_whatOf 88 = .ok (.iinc 4 1, 3) := by decide +kernel
theorem dX6_whatOf_91 : decode cX6_whatOf 91 = .ok (.goto (-77), 3) := by decide +kernel
theorem dX6_whatOf_94 : decode cX6_whatOf 94 = .ok (.iinc 3 1, 3) := by decide +kernel
theorem dX6_whatOf_97 : decode cX6_whatOf 97 = .ok (.goto (-92), 3) := by decide +kernel
theorem dX6_whatOf_100 : decode cX6_whatOf 100 = .ok (.iload_n 2, 1) := by decide +kernel
theorem dX6_whatOf_101 : decode cX6_whatOf 101 = .ok (.ireturn, 1) := by decide +kernel
set_option maxRecDepth 20000 in
theorem ggX6_kinds_X6_isBatter : GoodIn wsX6_kinds wsX6_isBatter := goodIn_r _ [5, 6, 7, 8, 4, 9, 28, 29, 30, 31, 32, 33, 34, 35, 36, 37, 38, 39, 40, 41] (by decide +kernel) (by decide +kernel)
set_option maxRecDepth 20000 in
theorem gX6_kinds_X6_isBatter : GoodIn wsX6_kinds (wsV RX6 183 RX6 yX6_isBatter wsX6_isBatter) := goodIn_app (goodIn_of _ (by decide +kernel)) ggX6_kinds_X6_isBatter
set_option maxRecDepth 20000 in
theorem ggX6_kinds_X6_whatOf : GoodIn wsX6_kinds wsX6_whatOf := goodIn_r _ [13, 6, 14, 15, 4, 16, 17, 18, 19, 20, 21, 22, 28, 29, 30, 31, 32, 33, 34, 35, 36, 37, 38, 39, 40, 41] (by decide +kernel) (by decide +kernel)
set_option maxRecDepth 20000 in
theorem gX6_kinds_X6_whatOf : GoodIn wsX6_kinds (wsV RX6 234 RX6 yX6_whatOf wsX6_whatOf) := goodIn_app (goodIn_of _ (by decide +kernel)) ggX6_kinds_X6_whatOf
set_option maxRecDepth 20000 in
theorem ggX6_kinds_X6_bad : GoodIn wsX6_kinds wsX6_bad := goodIn_r _ [26, 27, 28, 29, 30, 31, 32, 33, 34, 35, 36, 37, 38, 39, 40, 41] (by decide +kernel) (by decide +kernel)
set_option maxRecDepth 20000 in
theorem gX6_kinds_X6_bad : GoodIn wsX6_kinds (wsV RX6 89 RX6 yX6_bad wsX6_bad) := goodIn_app (goodIn_of _ (by decide +kernel)) ggX6_kinds_X6_bad
theorem dX6_kinds_0 : decode cX6_kinds 0 = .ok (.aload_n 0, 1) := by decide +kernel
theorem dX6_kinds_1 : decode cX6_kinds 1 = .ok (.iload_n 1, 1) := by decide +kernel
theorem dX6_kinds_2 : decode cX6_kinds 2 = .ok (.invokevirtual 183, 3) := by decide +kernel
theorem dX6_kinds_5 : decode cX6_kinds 5 = .ok (.ifCond .eq 11, 3) := by decide +kernel
theorem dX6_kinds_8 : decode cX6_kinds 8 = .ok (.aload_n 0, 1) := by decide +kernel
theorem dX6_kinds_9 : decode cX6_kinds 9 = .ok (.iload_n 1, 1) := by decide +kernel
theorem dX6_kinds_10 : decode cX6_kinds 10 = .ok (.invokevirtual 234, 3) := by decide +kernel
theorem dX6_kinds_13 : decode cX6_kinds 13 = .ok (.goto 9, 3) := by decide +kernel
theorem dX6_kinds_16 : decode cX6_kinds 16 = .ok (.aload_n 0, 1) := by decide +kernel
theorem dX6_kinds_17 : decode cX6_kinds 17 = .ok (.bipush (-2), 2) := by decide +kernel
theorem dX6_kinds_19 : decode cX6_kinds 19 = .ok (.invokevirtual 89, 3) := by decide +kernel
theorem dX6_kinds_22 : decode cX6_kinds 22 = .ok (.ireturn, 1) := by decide +kernel
set_option maxRecDepth 20000 in
theorem ggX6_ask_X6_isBatter : GoodIn wsX6_ask wsX6_isBatter := goodIn_r _ [7, 1, 8, 9, 6, 10, 32, 33, 34, 35, 36, 37, 38, 39, 40, 41, 42, 43, 44, 45] (by decide +kernel) (by decide +kernel)
set_option maxRecDepth 20000 in
theorem gX6_ask_X6_isBatter : GoodIn wsX6_ask (wsV RX6 183 RX6 yX6_isBatter wsX6_isBatter) := goodIn_app (goodIn_of _ (by decide +kernel)) ggX6_ask_X6_isBatter
set_option maxRecDepth 20000 in
theorem ggX6_ask_X6_bad : GoodIn wsX6_ask wsX6_bad := goodIn_r _ [14, 15, 32, 33, 34, 35, 36, 37, 38, 39, 40, 41, 42, 43, 44, 45] (by decide +kernel) (by decide +kernel)
set_option maxRecDepth 20000 in
theorem gX6_ask_X6_bad : GoodIn wsX6_ask (wsV RX6 89 RX6 yX6_bad wsX6_bad) := goodIn_app (goodIn_of _ (by decide +kernel)) ggX6_ask_X6_bad
set_option maxRecDepth 20000 in
theorem ggX6_ask_X6_whatOf : GoodIn wsX6_ask wsX6_whatOf := goodIn_r _ [19, 1, 20, 21, 6, 22, 23, 24, 25, 26, 27, 28, 32, 33, 34, 35, 36, 37, 38, 39, 40, 41, 42, 43, 44, 45] (by decide +kernel) (by decide +kernel)
set_option maxRecDepth 20000 in
theorem gX6_ask_X6_whatOf : GoodIn wsX6_ask (wsV RX6 234 RX6 yX6_whatOf wsX6_whatOf) := goodIn_app (goodIn_of _ (by decide +kernel)) ggX6_ask_X6_whatOf
set_option maxRecDepth 20000 in
theorem ggX6_ask_X6_has : GoodIn wsX6_ask wsX6_has := goodIn_r _ [31] (by decide +kernel) (by decide +kernel)
set_option maxRecDepth 20000 in
theorem gX6_ask_X6_has : GoodIn wsX6_ask (va_wsS RX6 231 yX6_has wsX6_has) := goodIn_app (goodIn_of _ (by decide +kernel)) ggX6_ask_X6_has
set_option maxRecDepth 20000 in
theorem ggX6_ask_X6_runsBy : GoodIn wsX6_ask wsX6_runsBy := goodIn_r _ [22, 23, 24, 6, 25, 26, 27, 28] (by decide +kernel) (by decide +kernel)
set_option maxRecDepth 20000 in
theorem gX6_ask_X6_runsBy : GoodIn wsX6_ask (va_wsS RX6 69 yX6_runsBy wsX6_runsBy) := goodIn_app (goodIn_of _ (by decide +kernel)) ggX6_ask_X6_runsBy
theorem dX6_ask_0 : decode cX6_ask 0 = .ok (.aload_n 0, 1) := by decide +kernel
theorem dX6_ask_1 : decode cX6_ask 1 = .ok (.iload_n 1, 1) := by decide +kernel
theorem dX6_ask_2 : decode cX6_ask 2 = .ok (.invokevirtual 183, 3) := by decide +kernel
theorem dX6_ask_5 : decode cX6_ask 5 = .ok (.ifCond .ne 10, 3) := by decide +kernel
theorem dX6_ask_8 : decode cX6_ask 8 = .ok (.aload_n 0, 1) := by decide +kernel
theorem dX6_ask_9 : decode cX6_ask 9 = .ok (.bipush (-2), 2) := by decide +kernel
theorem dX6_ask_11 : decode cX6_ask 11 = .ok (.invokevirtual 89, 3) := by decide +kernel
theorem dX6_ask_14 : decode cX6_ask 14 = .ok (.ireturn, 1) := by decide +kernel
theorem dX6_ask_15 : decode cX6_ask 15 = .ok (.aload_n 0, 1) := by decide +kernel
theorem dX6_ask_16 : decode cX6_ask 16 = .ok (.iload_n 1, 1) := by decide +kernel
theorem dX6_ask_17 : decode cX6_ask 17 = .ok (.invokevirtual 234, 3) := by decide +kernel
theorem dX6_ask_20 : decode cX6_ask 20 = .ok (.istore_n 2, 1) := by decide +kernel
theorem dX6_ask_21 : decode cX6_ask 21 = .ok (.aload_n 0, 1) := by decide +kernel
theorem dX6_ask_22 : decode cX6_ask 22 = .ok (.getfield 7, 3) := by decide +kernel
theorem dX6_ask_25 : decode cX6_ask 25 = .ok (.bipush 11, 2) := by decide +kernel
theorem dX6_ask_27 : decode cX6_ask 27 = .ok (.iload_n 1, 1) := by decide +kernel
theorem dX6_ask_28 : decode cX6_ask 28 = .ok (.iadd, 1) := by decide +kernel
theorem dX6_ask_29 : decode cX6_ask 29 = .ok (.iaload, 1) := by decide +kernel
theorem dX6_ask_30 : decode cX6_ask 30 = .ok (.istore_n 3, 1) := by decide +kernel
theorem dX6_ask_31 : decode cX6_ask 31 = .ok (.iconst (-1), 1) := by decide +kernel
theorem dX6_ask_32 : decode cX6_ask 32 = .ok (.istore 4, 2) := by decide +kernel
theorem dX6_ask_34 : decode cX6_ask 34 = .ok (.ldc 208, 2) := by decide +kernel
theorem dX6_ask_36 : decode cX6_ask 36 = .ok (.istore 5, 2) := by decide +kernel
theorem dX6_ask_38 : decode cX6_ask 38 = .ok (.iconst 1, 1) := by decide +kernel
theorem dX6_ask_39 : decode cX6_ask 39 = .ok (.istore 6, 2) := by decide +kernel
theorem dX6_ask_41 : decode cX6_ask 41 = .ok (.iload 6, 2) := by decide +kernel
theorem dX6_ask_43 : decode cX6_ask 43 = .ok (.bipush 20, 2) := by decide +kernel
theorem dX6_ask_45 : decode cX6_ask 45 = .ok (.if_icmp .gt 142, 3) := by decide +kernel
theorem dX6_ask_48 : decode cX6_ask 48 = .ok (.iconst 0, 1) := by decide +kernel
theorem dX6_ask_49 : decode cX6_ask 49 = .ok (.istore 7, 2) := by decide +kernel
theorem dX6_ask_51 : decode cX6_ask 51 = .ok (.iconst 0, 1) := by decide +kernel
theorem dX6_ask_52 : decode cX6_ask 52 = .ok (.istore 8, 2) := by decide +kernel
theorem dX6_ask_54 : decode cX6_ask 54 = .ok (.iload 8, 2) := by decide +kernel
theorem dX6_ask_56 : decode cX6_ask 56 = .ok (.bipush 6, 2) := by decide +kernel
theorem dX6_ask_58 : decode cX6_ask 58 = .ok (.if_icmp .ge 91, 3) := by decide +kernel
theorem dX6_ask_61 : decode cX6_ask 61 = .ok (.iconst 0, 1) := by decide +kernel
theorem dX6_ask_62 : decode cX6_ask 62 = .ok (.istore 9, 2) := by decide +kernel
theorem dX6_ask_64 : decode cX6_ask 64 = .ok (.iconst 0, 1) := by decide +kernel
theorem dX6_ask_65 : decode cX6_ask 65 = .ok (.istore 10, 2) := by decide +kernel
theorem dX6_ask_67 : decode cX6_ask 67 = .ok (.iload 10, 2) := by decide +kernel
theorem dX6_ask_69 : decode cX6_ask 69 = .ok (.bipush 6, 2) := by decide +kernel
theorem dX6_ask_71 : decode cX6_ask 71 = .ok (.if_icmp .ge 56, 3) := by decide +kernel
theorem dX6_ask_74 : decode cX6_ask 74 = .ok (.iload 9, 2) := by decide +kernel
theorem dX6_ask_76 : decode cX6_ask 76 = .ok (.iload_n 2, 1) := by decide +kernel
theorem dX6_ask_77 : decode cX6_ask 77 = .ok (.iload 8, 2) := by decide +kernel
theorem dX6_ask_79 : decode cX6_ask 79 = .ok (.invokestatic 231, 3) := by decide +kernel
theorem dX6_ask_82 : decode cX6_ask 82 = .ok (.ifCond .eq 35, 3) := by decide +kernel
theorem dX6_ask_85 : decode cX6_ask 85 = .ok (.iload_n 2, 1) := by decide +kernel
theorem dX6_ask_86 : decode cX6_ask 86 = .ok (.iload 10, 2) := by decide +kernel
theorem dX6_ask_88 : decode cX6_ask 88 = .ok (.invokestatic 231, 3) := by decide +kernel
theorem dX6_ask_91 : decode cX6_ask 91 = .ok (.ifCond .eq 26, 3) := by decide +kernel
theorem dX6_ask_94 : decode cX6_ask 94 = .ok (.iload 8, 2) := by decide +kernel
theorem dX6_ask_96 : decode cX6_ask 96 = .ok (.iload_n 3, 1) := by decide +kernel
theorem dX6_ask_97 : decode cX6_ask 97 = .ok (.iload 6, 2) := by decide +kernel
theorem dX6_ask_99 : decode cX6_ask 99 = .ok (.invokestatic 69, 3) := by decide +kernel
theorem dX6_ask_102 : decode cX6_ask 102 = .ok (.iload 10, 2) := by decide +kernel
theorem dX6_ask_104 : decode cX6_ask 104 = .ok (.iload_n 3, 1) := by decide +kernel
theorem dX6_ask_105 : decode cX6_ask 105 = .ok (.iload 6, 2) := by decide +kernel
theorem dX6_ask_107 : decode cX6_ask 107 = .ok (.invokestatic 69, 3) := by decide +kernel
theorem dX6_ask_110 : decode cX6_ask 110 = .ok (.if_icmp .ne 7, 3) := by decide +kernel
theorem dX6_ask_113 : decode cX6_ask 113 = .ok (.iconst 1, 1) := by decide +kernel
theorem dX6_ask_114 : decode cX6_ask 114 = .ok (.goto 4, 3) := by decide +kernel
theorem dX6_ask_117 : decode cX6_ask 117 = .ok (.iconst 0, 1) := by decide +kernel
theorem dX6_ask_118 : decode cX6_ask 118 = .ok (.iadd, 1) := by decide +kernel
theorem dX6_ask_119 : decode cX6_ask 119 = .ok (.istore 9, 2) := by decide +kernel
theorem dX6_ask_121 : decode cX6_ask 121 = .ok (.iinc 10 1, 3) := by decide +kernel
theorem dX6_ask_124 : decode cX6_ask 124 = .ok (.goto (-57), 3) := by decide +kernel
theorem dX6_ask_127 : decode cX6_ask 127 = .ok (.iload 9, 2) := by decide +kernel
theorem dX6_ask_129 : decode cX6_ask 129 = .ok (.iload 7, 2) := by decide +kernel
theorem dX6_ask_131 : decode cX6_ask 131 = .ok (.if_icmp .le 8, 3) := by decide +kernel
theorem dX6_ask_134 : decode cX6_ask 134 = .ok (.iload 9, 2) := by decide +kernel
theorem dX6_ask_136 : decode cX6_ask 136 = .ok (.goto 5, 3) := by decide +kernel
theorem dX6_ask_139 : decode cX6_ask 139 = .ok (.iload 7, 2) := by decide +kernel
theorem dX6_ask_141 : decode cX6_ask 141 = .ok (.istore 7, 2) := by decide +kernel
theorem dX6_ask_143 : decode cX6_ask 143 = .ok (.iinc 8 1, 3) := by decide +kernel
theorem dX6_ask_146 : decode cX6_ask 146 = .ok (.goto (-92), 3) := by decide +kernel
theorem dX6_ask_149 : decode cX6_ask 149 = .ok (.iload 7, 2) := by decide +kernel
theorem dX6_ask_151 : decode cX6_ask 151 = .ok (.iload 5, 2) := by decide +kernel
theorem dX6_ask_153 : decode cX6_ask 153 = .ok (.if_icmp .ge 8, 3) := by decide +kernel
theorem dX6_ask_156 : decode cX6_ask 156 = .ok (.iload 6, 2) := by decide +kernel
theorem dX6_ask_158 : decode cX6_ask 158 = .ok (.goto 5, 3) := by decide +kernel
theorem dX6_ask_161 : decode cX6_ask 161 = .ok (.iload 4, 2) := by decide +kernel
theorem dX6_ask_163 : decode cX6_ask 163 = .ok (.istore 4, 2) := by decide +kernel
theorem dX6_ask_165 : decode cX6_ask 165 = .ok (.iload 7, 2) := by decide +kernel
theorem dX6_ask_167 : decode cX6_ask 167 = .ok (.iload 5, 2) := by decide +kernel
theorem dX6_ask_169 : decode cX6_ask 169 = .ok (.if_icmp .ge 8, 3) := by decide +kernel
theorem dX6_ask_172 : decode cX6_ask 172 = .ok (.iload 7, 2) := by decide +kernel
theorem dX6_ask_174 : decode cX6_ask 174 = .ok (.goto 5, 3) := by decide +kernel
theorem dX6_ask_177 : decode cX6_ask 177 = .ok (.iload 5, 2) := by decide +kernel
theorem dX6_ask_179 : decode cX6_ask 179 = .ok (.istore 5, 2) := by decide +kernel
theorem dX6_ask_181 : decode cX6_ask 181 = .ok (.iinc 6 1, 3) := by decide +kernel
theorem dX6_ask_184 : decode cX6_ask 184 = .ok (.goto (-143), 3) := by decide +kernel
theorem dX6_ask_187 : decode cX6_ask 187 = .ok (.iload_n 2, 1) := by decide +kernel
theorem dX6_ask_188 : decode cX6_ask 188 = .ok (.ifCond .ne 7, 3) := by decide +kernel
theorem dX6_ask_191 : decode cX6_ask 191 = .ok (.iconst (-1), 1) := by decide +kernel
theorem dX6_ask_192 : decode cX6_ask 192 = .ok (.goto 5, 3) := by decide +kernel
theorem dX6_ask_195 : decode cX6_ask 195 = .ok (.iload 4, 2) := by decide +kernel
theorem dX6_ask_197 : decode cX6_ask 197 = .ok (.ireturn, 1) := by decide +kernel
theorem dX6_rests_0 : decode cX6_rests 0 = .ok (.iconst 1, 1) := by decide +kernel
theorem dX6_rests_1 : decode cX6_rests 1 = .ok (.istore_n 3, 1) := by decide +kernel
theorem dX6_rests_2 : decode cX6_rests 2 = .ok (.iconst 0, 1) := by decide +kernel
theorem dX6_rests_3 : decode cX6_rests 3 = .ok (.istore 4, 2) := by decide +kernel
theorem dX6_rests_5 : decode cX6_rests 5 = .ok (.iload 4, 2) := by decide +kernel
theorem dX6_rests_7 : decode cX6_rests 7 = .ok (.bipush 6, 2) := by decide +kernel
theorem dX6_rests_9 : decode cX6_rests 9 = .ok (.if_icmp .ge 95, 3) := by decide +kernel
theorem dX6_rests_12 : decode cX6_rests 12 = .ok (.iload_n 3, 1) := by decide +kernel
theorem dX6_rests_13 : decode cX6_rests 13 = .ok (.ifCond .eq 83, 3) := by decide +kernel
theorem dX6_rests_16 : decode cX6_rests 16 = .ok (.iload 4, 2) := by decide +kernel
theorem dX6_rests_18 : decode cX6_rests 18 = .ok (.aload_n 0, 1) := by decide +kernel
theorem dX6_rests_19 : decode cX6_rests 19 = .ok (.getfield 7, 3) := by decide +kernel
theorem dX6_rests_22 : decode cX6_rests 22 = .ok (.iconst 0, 1) := by decide +kernel
theorem dX6_rests_23 : decode cX6_rests 23 = .ok (.iaload, 1) := by decide +kernel
theorem dX6_rests_24 : decode cX6_rests 24 = .ok (.if_icmp .ge 42, 3) := by decide +kernel
theorem dX6_rests_27 : decode cX6_rests 27 = .ok (.aload_n 0, 1) := by decide +kernel
theorem dX6_rests_28 : decode cX6_rests 28 = .ok (.getfield 7, 3) := by decide +kernel
theorem dX6_rests_31 : decode cX6_rests 31 = .ok (.bipush 17, 2) := by decide +kernel
theorem dX6_rests_33 : decode cX6_rests 33 = .ok (.iload 4, 2) := by decide +kernel
theorem dX6_rests_35 : decode cX6_rests 35 = .ok (.iadd, 1) := by decide +kernel
theorem dX6_rests_36 : decode cX6_rests 36 = .ok (.iaload, 1) := by decide +kernel
theorem dX6_rests_37 : decode cX6_rests 37 = .ok (.ifCond .ne 29, 3) := by decide +kernel
theorem dX6_rests_40 : decode cX6_rests 40 = .ok (.aload_n 0, 1) := by decide +kernel
theorem dX6_rests_41 : decode cX6_rests 41 = .ok (.getfield 36, 3) := by decide +kernel
theorem dX6_rests_44 : decode cX6_rests 44 = .ok (.bipush 6, 2) := by decide +kernel
theorem dX6_rests_46 : decode cX6_rests 46 = .ok (.iload 4, 2) := by decide +kernel
theorem dX6_rests_48 : decode cX6_rests 48 = .ok (.imul, 1) := by decide +kernel
theorem dX6_rests_49 : decode cX6_rests 49 = .ok (.iload_n 2, 1) := by decide +kernel
theorem dX6_rests_50 : decode cX6_rests 50 = .ok (.iadd, 1) := by decide +kernel
theorem dX6_rests_51 : decode cX6_rests 51 = .ok (.iaload, 1) := by decide +kernel
theorem dX6_rests_52 : decode cX6_rests 52 = .ok (.aload_n 0, 1) := by decide +kernel
theorem dX6_rests_53 : decode cX6_rests 53 = .ok (.getfield 36, 3) := by decide +kernel
theorem dX6_rests_56 : decode cX6_rests 56 = .ok (.bipush 6, 2) := by decide +kernel
theorem dX6_rests_58 : decode cX6_rests 58 = .ok (.iload_n 1, 1) := by decide +kernel
theorem dX6_rests_59 : decode cX6_rests 59 = .ok (.imul, 1) := by decide +kernel
theorem dX6_rests_60 : decode cX6_rests 60 = .ok (.iload_n 2, 1) := by decide +kernel
theorem dX6_rests_61 : decode cX6_rests 61 = .ok (.iadd, 1) := by decide +kernel
theorem dX6_rests_62 : decode cX6_rests 62 = .ok (.iaload, 1) := by decide +kernel
theorem dX6_rests_63 : decode cX6_rests 63 = .ok (.if_icmp .gt 33, 3) := by decide +kernel
theorem dX6_rests_66 : decode cX6_rests 66 = .ok (.aload_n 0, 1) := by decide +kernel
theorem dX6_rests_67 : decode cX6_rests 67 = .ok (.getfield 36, 3) := by decide +kernel
theorem dX6_rests_70 : decode cX6_rests 70 = .ok (.bipush 6, 2) := by decide +kernel
theorem dX6_rests_72 : decode cX6_rests 72 = .ok (.iload_n 1, 1) := by decide +kernel
theorem dX6_rests_73 : decode cX6_rests 73 = .ok (.imul, 1) := by decide +kernel
theorem dX6_rests_74 : decode cX6_rests 74 = .ok (.iload 4, 2) := by decide +kernel
theorem dX6_rests_76 : decode cX6_rests 76 = .ok (.iadd, 1) := by decide +kernel
theorem dX6_rests_77 : decode cX6_rests 77 = .ok (.iaload, 1) := by decide +kernel
theorem dX6_rests_78 : decode cX6_rests 78 = .ok (.aload_n 0, 1) := by decide +kernel
theorem dX6_rests_79 : decode cX6_rests 79 = .ok (.getfield 36, 3) := by decide +kernel
theorem dX6_rests_82 : decode cX6_rests 82 = .ok (.bipush 6, 2) := by decide +kernel
theorem dX6_rests_84 : decode cX6_rests 84 = .ok (.iload_n 1, 1) := by decide +kernel
theorem dX6_rests_85 : decode cX6_rests 85 = .ok (.imul, 1) := by decide +kernel
theorem dX6_rests_86 : decode cX6_rests 86 = .ok (.iload_n 2, 1) := by decide +kernel
theorem dX6_rests_87 : decode cX6_rests 87 = .ok (.iadd, 1) := by decide +kernel
theorem dX6_rests_88 : decode cX6_rests 88 = .ok (.iaload, 1) := by decide +kernel
theorem dX6_rests_89 : decode cX6_rests 89 = .ok (.if_icmp .lt 7, 3) := by decide +kernel
theorem dX6_rests_92 : decode cX6_rests 92 = .ok (.iconst 1, 1) := by decide +kernel
theorem dX6_rests_93 : decode cX6_rests 93 = .ok (.goto 4, 3) := by decide +kernel
theorem dX6_rests_96 : decode cX6_rests 96 = .ok (.iconst 0, 1) := by decide +kernel
theorem dX6_rests_97 : decode cX6_rests 97 = .ok (.istore_n 3, 1) := by decide +kernel
theorem dX6_rests_98 : decode cX6_rests 98 = .ok (.iinc 4 1, 3) := by decide +kernel
theorem dX6_rests_101 : decode cX6_rests 101 = .ok (.goto (-96), 3) := by decide +kernel
theorem dX6_rests_104 : decode cX6_rests 104 = .ok (.iload_n 3, 1) := by decide +kernel
theorem dX6_rests_105 : decode cX6_rests 105 = .ok (.ireturn, 1) := by decide +kernel
set_option maxRecDepth 20000 in
theorem ggX6_captains_X6_bad : GoodIn wsX6_captains wsX6_bad := goodIn_r _ [7, 8, 67, 68, 69, 70, 71, 72, 73, 74, 75, 76, 77, 78, 79, 80] (by decide +kernel) (by decide +kernel)
set_option maxRecDepth 20000 in
theorem gX6_captains_X6_bad : GoodIn wsX6_captains (wsV RX6 89 RX6 yX6_bad wsX6_bad) := goodIn_app (goodIn_of _ (by decide +kernel)) ggX6_captains_X6_bad
set_option maxRecDepth 20000 in
theorem ggX6_captains_X6_tries : GoodIn wsX6_captains wsX6_tries := goodIn_r _ [12, 1, 67, 68, 69, 70, 71, 72, 73, 74, 75, 76, 77, 78, 79, 80] (by decide +kernel) (by decide +kernel)
set_option maxRecDepth 20000 in
theorem gX6_captains_X6_tries : GoodIn wsX6_captains (wsV RX6 193 RX6 yX6_tries wsX6_tries) := goodIn_app (goodIn_of _ (by decide +kernel)) ggX6_captains_X6_tries
set_option maxRecDepth 20000 in
theorem ggX6_captains_X6_scoreTried : GoodIn wsX6_captains wsX6_scoreTried := goodIn_r _ [16, 1, 17, 18, 19, 6, 20, 21, 22, 23, 24, 25, 26, 27, 28, 29, 30, 31, 32, 33, 34, 35, 36, 37, 38, 39, 40, 41, 42, 43, 44, 45, 46, 47, 48, 49, 50, 51, 52, 53, 54, 55, 56, 57, 58, 59, 60, 61, 62, 67, 68, 69, 70, 71, 72, 73, 74, 75, 76, 77, 78, 79, 80] (by decide +kernel) (by decide +kernel)
set_option maxRecDepth 20000 in
theorem gX6_captains_X6_scoreTried : GoodIn wsX6_captains (wsV RX6 196 RX6 yX6_scoreTried wsX6_scoreTried) := goodIn_app (goodIn_of _ (by decide +kernel)) ggX6_captains_X6_scoreTried
set_option maxRecDepth 20000 in
theorem ggX6_captains_X6_rests : GoodIn wsX6_captains wsX6_rests := goodIn_r _ [66, 1, 2, 67, 68, 69, 70, 71, 72, 73, 74, 75, 76, 77, 78, 79, 80] (by decide +kernel) (by decide +kernel)
set_option maxRecDepth 20000 in
theorem gX6_captains_X6_rests : GoodIn wsX6_captains (wsV RX6 237 RX6 yX6_rests wsX6_rests) := goodIn_app (goodIn_of _ (by decide +kernel)) ggX6_captains_X6_rests
theorem dX6_captains_0 : decode cX6_captains 0 = .ok (.iload_n 1, 1) := by decide +kernel
theorem dX6_captains_1 : decode cX6_captains 1 = .ok (.iconst (-1), 1) := by decide +kernel
theorem dX6_captains_2 : decode cX6_captains 2 = .ok (.if_icmp .ge 10, 3) := by decide +kernel
theorem dX6_captains_5 : decode cX6_captains 5 = .ok (.aload_n 0, 1) := by decide +kernel
theorem dX6_captains_6 : decode cX6_captains 6 = .ok (.bipush (-10), 2) := by decide +kernel
theorem dX6_captains_8 : decode cX6_captains 8 = .ok (.invokevirtual 89, 3) := by decide +kernel
theorem dX6_captains_11 : decode cX6_captains 11 = .ok (.ireturn, 1) := by decide +kernel
theorem dX6_captains_12 : decode cX6_captains 12 = .ok (.iconst 0, 1) := by decide +kernel
theorem dX6_captains_13 : decode cX6_captains 13 = .ok (.istore_n 2, 1) := by decide +kernel
theorem dX6_captains_14 : decode cX6_captains 14 = .ok (.iload_n 2, 1) := by decide +kernel
theorem dX6_captains_15 : decode cX6_captains 15 = .ok (.bipush 6, 2) := by decide +kernel
theorem dX6_captains_17 : decode cX6_captains 17 = .ok (.aload_n 0, 1) := by decide +kernel
theorem dX6_captains_18 : decode cX6_captains 18 = .ok (.getfield 7, 3) := by decide +kernel
theorem dX6_captains_21 : decode cX6_captains 21 = .ok (.iconst 0, 1) := by decide +kernel
theorem dX6_captains_22 : decode cX6_captains 22 = .ok (.iaload, 1) := by decide +kernel
theorem dX6_captains_23 : decode cX6_captains 23 = .ok (.imul, 1) := by decide +kernel
theorem dX6_captains_24 : decode cX6_captains 24 = .ok (.if_icmp .ge 67, 3) := by decide +kernel
theorem dX6_captains_27 : decode cX6_captains 27 = .ok (.aload_n 0, 1) := by decide +kernel
theorem dX6_captains_28 : decode cX6_captains 28 = .ok (.invokevirtual 193, 3) := by decide +kernel
theorem dX6_captains_31 : decode cX6_captains 31 = .ok (.aload_n 0, 1) := by decide +kernel
theorem dX6_captains_32 : decode cX6_captains 32 = .ok (.getfield 7, 3) := by decide +kernel
theorem dX6_captains_35 : decode cX6_captains 35 = .ok (.sipush 594, 3) := by decide +kernel
theorem dX6_captains_38 : decode cX6_captains 38 = .ok (.iload_n 2, 1) := by decide +kernel
theorem dX6_captains_39 : decode cX6_captains 39 = .ok (.bipush 6, 2) := by decide +kernel
theorem dX6_captains_41 : decode cX6_captains 41 = .ok (.idiv, 1) := by decide +kernel
theorem dX6_captains_42 : decode cX6_captains 42 = .ok (.iastore, 1) := by decide +kernel
theorem dX6_captains_43 : decode cX6_captains 43 = .ok (.aload_n 0, 1) := by decide +kernel
theorem dX6_captains_44 : decode cX6_captains 44 = .ok (.getfield 7, 3) := by decide +kernel
theorem dX6_captains_47 : decode cX6_captains 47 = .ok (.sipush 593, 3) := by decide +kernel
theorem dX6_captains_50 : decode cX6_captains 50 = .ok (.iload_n 2, 1) := by decide +kernel
theorem dX6_captains_51 : decode cX6_captains 51 = .ok (.bipush 6, 2) := by decide +kernel
theorem dX6_captains_53 : decode cX6_captains 53 = .ok (.irem, 1) := by decide +kernel
theorem dX6_captains_54 : decode cX6_captains 54 = .ok (.iastore, 1) := by decide +kernel
theorem dX6_captains_55 : decode cX6_captains 55 = .ok (.aload_n 0, 1) := by decide +kernel
theorem dX6_captains_56 : decode cX6_captains 56 = .ok (.getfield 36, 3) := by decide +kernel
theorem dX6_captains_59 : decode cX6_captains 59 = .ok (.iload_n 2, 1) := by decide +kernel
theorem dX6_captains_60 : decode cX6_captains 60 = .ok (.aload_n 0, 1) := by decide +kernel
theorem dX6_captains_61 : decode cX6_captains 61 = .ok (.getfield 7, 3) := by decide +kernel
theorem dX6_captains_64 : decode cX6_captains 64 = .ok (.bipush 17, 2) := by decide +kernel
theorem dX6_captains_66 : decode cX6_captains 66 = .ok (.iload_n 2, 1) := by decide +kernel
theorem dX6_captains_67 : decode cX6_captains 67 = .ok (.bipush 6, 2) := by decide +kernel
theorem dX6_captains_69 : decode cX6_captains 69 = .ok (.idiv, 1) := by decide +kernel
theorem dX6_captains_70 : decode cX6_captains 70 = .ok (.iadd, 1) := by decide +kernel
theorem dX6_captains_71 : decode cX6_captains 71 = .ok (.iaload, 1) := by decide +kernel
theorem dX6_captains_72 : decode cX6_captains 72 = .ok (.ifCond .ne 11, 3) := by decide +kernel
theorem dX6_captains_75 : decode cX6_captains 75 = .ok (.aload_n 0, 1) := by decide +kernel
theorem dX6_captains_76 : decode cX6_captains 76 = .ok (.iconst 4, 1) := by decide +kernel
theorem dX6_captains_77 : decode cX6_captains 77 = .ok (.invokevirtual 196, 3) := by decide +kernel
theorem dX6_captains_80 : decode cX6_captains 80 = .ok (.goto 4, 3) := by decide +kernel
theorem dX6_captains_83 : decode cX6_captains 83 = .ok (.iconst 0, 1) := by decide +kernel
theorem dX6_captains_84 : decode cX6_captains 84 = .ok (.iastore, 1) := by decide +kernel
theorem dX6_captains_85 : decode cX6_captains 85 = .ok (.iinc 2 1, 3) := by decide +kernel
theorem dX6_captains_88 : decode cX6_captains 88 = .ok (.goto (-74), 3) := by decide +kernel
theorem dX6_captains_91 : decode cX6_captains 91 = .ok (.iconst 0, 1) := by decide +kernel
theorem dX6_captains_92 : decode cX6_captains 92 = .ok (.istore_n 2, 1) := by decide +kernel
theorem dX6_captains_93 : decode cX6_captains 93 = .ok (.iconst 0, 1) := by decide +kernel
theorem dX6_captains_94 : decode cX6_captains 94 = .ok (.istore_n 3, 1) := by decide +kernel
theorem dX6_captains_95 : decode cX6_captains 95 = .ok (.iload_n 3, 1) := by decide +kernel
theorem dX6_captains_96 : decode cX6_captains 96 = .ok (.bipush 6, 2) := by decide +kernel
theorem dX6_captains_98 : decode cX6_captains 98 = .ok (.aload_n 0, 1) := by decide +kernel
theorem dX6_captains_99 : decode cX6_captains 99 = .ok (.getfield 7, 3) := by decide +kernel
theorem dX6_captains_102 : decode cX6_captains 102 = .ok (.iconst 0, 1) := by decide +kernel
theorem dX6_captains_103 : decode cX6_captains 103 = .ok (.iaload, 1) := by decide +kernel
theorem dX6_captains_104 : decode cX6_captains 104 = .ok (.imul, 1) := by decide +kernel
theorem dX6_captains_105 : decode cX6_captains 105 = .ok (.if_icmp .ge 60, 3) := by decide +kernel
theorem dX6_captains_108 : decode cX6_captains 108 = .ok (.aload_n 0, 1) := by decide +kernel
theorem dX6_captains_109 : decode cX6_captains 109 = .ok (.getfield 7, 3) := by decide +kernel
theorem dX6_captains_112 : decode cX6_captains 112 = .ok (.bipush 17, 2) := by decide +kernel
theorem dX6_captains_114 : decode cX6_captains 114 = .ok (.iload_n 3, 1) := by decide +kernel
theorem dX6_captains_115 : decode cX6_captains 115 = .ok (.bipush 6, 2) := by decide +kernel
theorem dX6_captains_117 : decode cX6_captains 117 = .ok (.idiv, 1) := by decide +kernel
theorem dX6_captains_118 : decode cX6_captains 118 = .ok (.iadd, 1) := by decide +kernel
theorem dX6_captains_119 : decode cX6_captains 119 = .ok (.iaload, 1) := by decide +kernel
theorem dX6_captains_120 : decode cX6_captains 120 = .ok (.ifCond .ne 39, 3) := by decide +kernel
theorem dX6_captains_123 : decode cX6_captains 123 = .ok (.aload_n 0, 1) := by decide +kernel
theorem dX6_captains_124 : decode cX6_captains 124 = .ok (.iload_n 3, 1) := by decide +kernel
theorem dX6_captains_125 : decode cX6_captains 125 = .ok (.bipush 6, 2) := by decide +kernel
theorem dX6_captains_127 : decode cX6_captains 127 = .ok (.idiv, 1) := by decide +kernel
theorem dX6_captains_128 : decode cX6_captains 128 = .ok (.iload_n 3, 1) := by decide +kernel
theorem dX6_captains_129 : decode cX6_captains 129 = .ok (.bipush 6, 2) := by decide +kernel
theorem dX6_captains_131 : decode cX6_captains 131 = .ok (.irem, 1) := by decide +kernel
theorem dX6_captains_132 : decode cX6_captains 132 = .ok (.invokevirtual 237, 3) := by decide +kernel
theorem dX6_captains_135 : decode cX6_captains 135 = .ok (.ifCond .eq 24, 3) := by decide +kernel
theorem dX6_captains_138 : decode cX6_captains 138 = .ok (.iload_n 2, 1) := by decide +kernel
theorem dX6_captains_139 : decode cX6_captains 139 = .ok (.iload_n 1, 1) := by decide +kernel
theorem dX6_captains_140 : decode cX6_captains 140 = .ok (.if_icmp .ne 16, 3) := by decide +kernel
theorem dX6_captains_143 : decode cX6_captains 143 = .ok (.bipush 10, 2) := by decide +kernel
theorem dX6_captains_145 : decode cX6_captains 145 = .ok (.iload_n 3, 1) := by decide +kernel
theorem dX6_captains_146 : decode cX6_captains 146 = .ok (.bipush 6, 2) := by decide +kernel
theorem dX6_captains_148 : decode cX6_captains 148 = .ok (.idiv, 1) := by decide +kernel
theorem dX6_captains_149 : decode cX6_captains 149 = .ok (.imul, 1) := by decide +kernel
theorem dX6_captains_150 : decode cX6_captains 150 = .ok (.iload_n 3, 1) := by decide +kernel
theorem dX6_captains_151 : decode cX6_captains 151 = .ok (.bipush 6, 2) := by decide +kernel
theorem dX6_captains_153 : decode cX6_captains 153 = .ok (.irem, 1) := by decide +kernel
theorem dX6_captains_154 : decode cX6_captains 154 = .ok (.iadd, 1) := by decide +kernel
theorem dX6_captains_155 : decode cX6_captains 155 = .ok (.ireturn, 1) := by decide +kernel
theorem dX6_captains_156 : decode cX6_captains 156 = .ok (.iinc 2 1, 3) := by decide +kernel
theorem dX6_captains_159 : decode cX6_captains 159 = .ok (.iinc 3 1, 3) := by decide +kernel
theorem dX6_captains_162 : decode cX6_captains 162 = .ok (.goto (-67), 3) := by decide +kernel
theorem dX6_captains_165 : decode cX6_captains 165 = .ok (.iload_n 1, 1) := by decide +kernel
theorem dX6_captains_166 : decode cX6_captains 166 = .ok (.iconst (-1), 1) := by decide +kernel
theorem dX6_captains_167 : decode cX6_captains 167 = .ok (.if_icmp .ne 7, 3) := by decide +kernel
theorem dX6_captains_170 : decode cX6_captains 170 = .ok (.iload_n 2, 1) := by decide +kernel
theorem dX6_captains_171 : decode cX6_captains 171 = .ok (.goto 5, 3) := by decide +kernel
theorem dX6_captains_174 : decode cX6_captains 174 = .ok (.bipush (-5), 2) := by decide +kernel
theorem dX6_captains_176 : decode cX6_captains 176 = .ok (.ireturn, 1) := by decide +kernel
set_option maxRecDepth 20000 in
theorem ggX6_days_X6_in : GoodIn wsX6_days wsX6_in := goodIn_r _ [11] (by decide +kernel) (by decide +kernel)
set_option maxRecDepth 20000 in
theorem gX6_days_X6_in : GoodIn wsX6_days (va_wsS RX6 47 yX6_in wsX6_in) := goodIn_app (goodIn_of _ (by decide +kernel)) ggX6_days_X6_in
set_option maxRecDepth 20000 in
theorem ggX6_days_X6_bad : GoodIn wsX6_days wsX6_bad := goodIn_r _ [15, 16, 61, 62, 63, 64, 65, 66, 67, 68, 69, 70, 71, 72, 73, 74] (by decide +kernel) (by decide +kernel)
set_option maxRecDepth 20000 in
theorem gX6_days_X6_bad : GoodIn wsX6_days (wsV RX6 89 RX6 yX6_bad wsX6_bad) := goodIn_app (goodIn_of _ (by decide +kernel)) ggX6_days_X6_bad
set_option maxRecDepth 20000 in
theorem ggX6_days_X6_tries : GoodIn wsX6_days wsX6_tries := goodIn_r _ [20, 21, 61, 62, 63, 64, 65, 66, 67, 68, 69, 70, 71, 72, 73, 74] (by decide +kernel) (by decide +kernel)
set_option maxRecDepth 20000 in
theorem gX6_days_X6_tries : GoodIn wsX6_days (wsV RX6 193 RX6 yX6_tries wsX6_tries) := goodIn_app (goodIn_of _ (by decide +kernel)) ggX6_days_X6_tries
set_option maxRecDepth 20000 in
theorem ggX6_days_X6_isDone : GoodIn wsX6_days wsX6_isDone := goodIn_r _ [25, 21, 61, 62, 63, 64, 65, 66, 67, 68, 69, 70, 71, 72, 73, 74] (by decide +kernel) (by decide +kernel)
set_option maxRecDepth 20000 in
theorem gX6_days_X6_isDone : GoodIn wsX6_days (wsV RX6 83 RX6 yX6_isDone wsX6_isDone) := goodIn_app (goodIn_of _ (by decide +kernel)) ggX6_days_X6_isDone
set_option maxRecDepth 20000 in
theorem ggX6_days_X6_bats : GoodIn wsX6_days wsX6_bats := goodIn_r _ [29, 21, 30, 31, 32, 33, 10, 34, 35, 36, 37, 38, 39, 40, 41, 42, 43, 44, 45, 46, 47, 48, 49, 50, 51, 52, 53, 54, 55, 56, 8, 9, 11, 57, 58, 59, 60, 61, 62, 63, 64, 65, 66, 67, 68, 69, 70, 71, 72, 73, 74] (by decide +kernel) (by decide +kernel)
set_option maxRecDepth 20000 in
theorem gX6_days_X6_bats : GoodIn wsX6_days (wsV RX6 143 RX6 yX6_bats wsX6_bats) := goodIn_app (goodIn_of _ (by decide +kernel)) ggX6_days_X6_bats
theorem dX6_days_0 : decode cX6_days 0 = .ok (.iload_n 1, 1) := by decide +kernel
theorem dX6_days_1 : decode cX6_days 1 = .ok (.i2l, 1) := by decide +kernel
theorem dX6_days_2 : decode cX6_days 2 = .ok (.lconst 0, 1) := by decide +kernel
theorem dX6_days_3 : decode cX6_days 3 = .ok (.ldc2_w 240, 3) := by decide +kernel
theorem dX6_days_6 : decode cX6_days 6 = .ok (.invokestatic 47, 3) := by decide +kernel
theorem dX6_days_9 : decode cX6_days 9 = .ok (.ifCond .eq 15, 3) := by decide +kernel
theorem dX6_days_12 : decode cX6_days 12 = .ok (.iload_n 2, 1) := by decide +kernel
theorem dX6_days_13 : decode cX6_days 13 = .ok (.i2l, 1) := by decide +kernel
theorem dX6_days_14 : decode cX6_days 14 = .ok (.lconst 0, 1) := by decide +kernel
theorem dX6_days_15 : decode cX6_days 15 = .ok (.ldc2_w 242, 3) := by decide +kernel
theorem dX6_days_18 : decode cX6_days 18 = .ok (.invokestatic 47, 3) := by decide +kernel
theorem dX6_days_21 : decode cX6_days 21 = .ok (.ifCond .ne 10, 3) := by decide +kernel
theorem dX6_days_24 : decode cX6_days 24 = .ok (.aload_n 0, 1) := by decide +kernel
theorem dX6_days_25 : decode cX6_days 25 = .ok (.bipush (-2), 2) := by decide +kernel
theorem dX6_days_27 : decode cX6_days 27 = .ok (.invokevirtual 89, 3) := by decide +kernel
theorem dX6_days_30 : decode cX6_days 30 = .ok (.ireturn, 1) := by decide +kernel
theorem dX6_days_31 : decode cX6_days 31 = .ok (.aload_n 0, 1) := by decide +kernel
theorem dX6_days_32 : decode cX6_days 32 = .ok (.invokevirtual 193, 3) := by decide +kernel
theorem dX6_days_35 : decode cX6_days 35 = .ok (.iload_n 1, 1) := by decide +kernel
theorem dX6_days_36 : decode cX6_days 36 = .ok (.i2l, 1) := by decide +kernel
theorem dX6_days_37 : decode cX6_days 37 = .ok (.lstore_n 3, 1) := by decide +kernel
theorem dX6_days_38 : decode cX6_days 38 = .ok (.iconst 0, 1) := by decide +kernel
theorem dX6_days_39 : decode cX6_days 39 = .ok (.istore 5, 2) := by decide +kernel
theorem dX6_days_41 : decode cX6_days 41 = .ok (.iconst 0, 1) := by decide +kernel
theorem dX6_days_42 : decode cX6_days 42 = .ok (.istore 6, 2) := by decide +kernel
theorem dX6_days_44 : decode cX6_days 44 = .ok (.iload 6, 2) := by decide +kernel
theorem dX6_days_46 : decode cX6_days 46 = .ok (.iload_n 2, 1) := by decide +kernel
theorem dX6_days_47 : decode cX6_days 47 = .ok (.if_icmp .ge 55, 3) := by decide +kernel
theorem dX6_days_50 : decode cX6_days 50 = .ok (.aload_n 0, 1) := by decide +kernel
theorem dX6_days_51 : decode cX6_days 51 = .ok (.sipush 592, 3) := by decide +kernel
theorem dX6_days_54 : decode cX6_days 54 = .ok (.invokevirtual 83, 3) := by decide +kernel
theorem dX6_days_57 : decode cX6_days 57 = .ok (.ifCond .ne 45, 3) := by decide +kernel
theorem dX6_days_60 : decode cX6_days 60 = .ok (.lload_n 3, 1) := by decide +kernel
theorem dX6_days_61 : decode cX6_days 61 = .ok (.ldc2_w 244, 3) := by decide +kernel
theorem dX6_days_64 : decode cX6_days 64 = .ok (.lmul, 1) := by decide +kernel
theorem dX6_days_65 : decode cX6_days 65 = .ok (.ldc2_w 246, 3) := by decide +kernel
theorem dX6_days_68 : decode cX6_days 68 = .ok (.ladd, 1) := by decide +kernel
theorem dX6_days_69 : decode cX6_days 69 = .ok (.ldc2_w 248, 3) := by decide +kernel
theorem dX6_days_72 : decode cX6_days 72 = .ok (.lrem, 1) := by decide +kernel
theorem dX6_days_73 : decode cX6_days 73 = .ok (.lstore_n 3, 1) := by decide +kernel
theorem dX6_days_74 : decode cX6_days 74 = .ok (.iload 5, 2) := by decide +kernel
theorem dX6_days_76 : decode cX6_days 76 = .ok (.aload_n 0, 1) := by decide +kernel
theorem dX6_days_77 : decode cX6_days 77 = .ok (.sipush 592, 3) := by decide +kernel
theorem dX6_days_80 : decode cX6_days 80 = .ok (.lload_n 3, 1) := by decide +kernel
theorem dX6_days_81 : decode cX6_days 81 = .ok (.ldc2_w 250, 3) := by decide +kernel
theorem dX6_days_84 : decode cX6_days 84 = .ok (.ldiv, 1) := by decide +kernel
theorem dX6_days_85 : decode cX6_days 85 = .ok (.ldc2_w 252, 3) := by decide +kernel
theorem dX6_days_88 : decode cX6_days 88 = .ok (.lrem, 1) := by decide +kernel
theorem dX6_days_89 : decode cX6_days 89 = .ok (.l2i, 1) := by decide +kernel
theorem dX6_days_90 : decode cX6_days 90 = .ok (.invokevirtual 143, 3) := by decide +kernel
theorem dX6_days_93 : decode cX6_days 93 = .ok (.iadd, 1) := by decide +kernel
theorem dX6_days_94 : decode cX6_days 94 = .ok (.istore 5, 2) := by decide +kernel
theorem dX6_days_96 : decode cX6_days 96 = .ok (.iinc 6 1, 3) := by decide +kernel
theorem dX6_days_99 : decode cX6_days 99 = .ok (.goto (-55), 3) := by decide +kernel
theorem dX6_days_102 : decode cX6_days 102 = .ok (.iload 5, 2) := by decide +kernel
theorem dX6_days_104 : decode cX6_days 104 = .ok (.ireturn, 1) := by decide +kernel
set_option maxRecDepth 20000 in
theorem ggX6_part_X6_bad : GoodIn wsX6_part wsX6_bad := goodIn_r _ [7, 8, 9, 10, 11, 12, 13, 14, 15, 16, 17, 18, 19, 20, 21, 22] (by decide +kernel) (by decide +kernel)
set_option maxRecDepth 20000 in
theorem gX6_part_X6_bad : GoodIn wsX6_part (wsV RX6 89 RX6 yX6_bad wsX6_bad) := goodIn_app (goodIn_of _ (by decide +kernel)) ggX6_part_X6_bad
theorem dX6_part_0 : decode cX6_part 0 = .ok (.iload_n 1, 1) := by decide +kernel
theorem dX6_part_1 : decode cX6_part 1 = .ok (.ifCond .ne 10, 3) := by decide +kernel
theorem dX6_part_4 : decode cX6_part 4 = .ok (.aload_n 0, 1) := by decide +kernel
theorem dX6_part_5 : decode cX6_part 5 = .ok (.getfield 20, 3) := by decide +kernel
theorem dX6_part_8 : decode cX6_part 8 = .ok (.goto 22, 3) := by decide +kernel
theorem dX6_part_11 : decode cX6_part 11 = .ok (.iload_n 1, 1) := by decide +kernel
theorem dX6_part_12 : decode cX6_part 12 = .ok (.iconst 1, 1) := by decide +kernel
theorem dX6_part_13 : decode cX6_part 13 = .ok (.if_icmp .ne 10, 3) := by decide +kernel
theorem dX6_part_16 : decode cX6_part 16 = .ok (.aload_n 0, 1) := by decide +kernel
theorem dX6_part_17 : decode cX6_part 17 = .ok (.getfield 24, 3) := by decide +kernel
theorem dX6_part_20 : decode cX6_part 20 = .ok (.goto 10, 3) := by decide +kernel
theorem dX6_part_23 : decode cX6_part 23 = .ok (.aload_n 0, 1) := by decide +kernel
theorem dX6_part_24 : decode cX6_part 24 = .ok (.bipush (-2), 2) := by decide +kernel
theorem dX6_part_26 : decode cX6_part 26 = .ok (.invokevirtual 89, 3) := by decide +kernel
theorem dX6_part_29 : decode cX6_part 29 = .ok (.i2l, 1) := by decide +kernel
theorem dX6_part_30 : decode cX6_part 30 = .ok (.lreturn, 1) := by decide +kernel
set_option maxRecDepth 20000 in
theorem ggX6_image_X6_in : GoodIn wsX6_image wsX6_in := goodIn_r _ [5] (by decide +kernel) (by decide +kernel)
set_option maxRecDepth 20000 in
theorem gX6_image_X6_in : GoodIn wsX6_image (va_wsS RX6 47 yX6_in wsX6_in) := goodIn_app (goodIn_of _ (by decide +kernel)) ggX6_image_X6_in
set_option maxRecDepth 20000 in
theorem ggX6_image_X6_bad : GoodIn wsX6_image wsX6_bad := goodIn_r _ [9, 10, 16, 17, 18, 19, 20, 21, 22, 23, 24, 25, 26, 27, 28, 29] (by decide +kernel) (by decide +kernel)
set_option maxRecDepth 20000 in
theorem gX6_image_X6_bad : GoodIn wsX6_image (wsV RX6 89 RX6 yX6_bad wsX6_bad) := goodIn_app (goodIn_of _ (by decide +kernel)) ggX6_image_X6_bad
set_option maxRecDepth 20000 in
theorem ggX6_image_X6_copy : GoodIn wsX6_image wsX6_copy := goodIn_r _ [14, 15, 16, 17, 18, 19, 20, 21, 22, 23, 24, 25, 26, 27, 28, 29] (by decide +kernel) (by decide +kernel)
set_option maxRecDepth 20000 in
theorem gX6_image_X6_copy : GoodIn wsX6_image (wsV RX6 172 RX6 yX6_copy wsX6_copy) := goodIn_app (goodIn_of _ (by decide +kernel)) ggX6_image_X6_copy
theorem dX6_image_0 : decode cX6_image 0 = .ok (.iload_n 1, 1) := by decide +kernel
theorem dX6_image_1 : decode cX6_image 1 = .ok (.i2l, 1) := by decide +kernel
theorem dX6_image_2 : decode cX6_image 2 = .ok (.lconst 0, 1) := by decide +kernel
theorem dX6_image_3 : decode cX6_image 3 = .ok (.lconst 1, 1) := by decide +kernel
theorem dX6_image_4 : decode cX6_image 4 = .ok (.invokestatic 47, 3) := by decide +kernel
theorem dX6_image_7 : decode cX6_image 7 = .ok (.ifCond .ne 10, 3) := by decide +kernel
theorem dX6_image_10 : decode cX6_image 10 = .ok (.aload_n 0, 1) := by decide +kernel
theorem dX6_image_11 : decode cX6_image 11 = .ok (.bipush (-2), 2) := by decide +kernel
theorem dX6_image_13 : decode cX6_image 13 = .ok (.invokevirtual 89, 3) := by decide +kernel
theorem dX6_image_16 : decode cX6_image 16 = .ok (.ireturn, 1) := by decide +kernel
theorem dX6_image_17 : decode cX6_image 17 = .ok (.aload_n 0, 1) := by decide +kernel
theorem dX6_image_18 : decode cX6_image 18 = .ok (.iconst 0, 1) := by decide +kernel
theorem dX6_image_19 : decode cX6_image 19 = .ok (.sipush 148, 3) := by decide +kernel
theorem dX6_image_22 : decode cX6_image 22 = .ok (.sipush 148, 3) := by decide +kernel
theorem dX6_image_25 : decode cX6_image 25 = .ok (.iload_n 1, 1) := by decide +kernel
theorem dX6_image_26 : decode cX6_image 26 = .ok (.imul, 1) := by decide +kernel
theorem dX6_image_27 : decode cX6_image 27 = .ok (.iadd, 1) := by decide +kernel
theorem dX6_image_28 : decode cX6_image 28 = .ok (.invokevirtual 172, 3) := by decide +kernel
theorem dX6_image_31 : decode cX6_image 31 = .ok (.aload_n 0, 1) := by decide +kernel
theorem dX6_image_32 : decode cX6_image 32 = .ok (.getfield 13, 3) := by decide +kernel
theorem dX6_image_35 : decode cX6_image 35 = .ok (.iload_n 1, 1) := by decide +kernel
theorem dX6_image_36 : decode cX6_image 36 = .ok (.iconst 1, 1) := by decide +kernel
theorem dX6_image_37 : decode cX6_image 37 = .ok (.bastore, 1) := by decide +kernel
theorem dX6_image_38 : decode cX6_image 38 = .ok (.iconst 1, 1) := by decide +kernel
theorem dX6_image_39 : decode cX6_image 39 = .ok (.ireturn, 1) := by decide +kernel
set_option maxRecDepth 20000 in
theorem ggX6_from_X6_in : GoodIn wsX6_from wsX6_in := goodIn_r _ [5] (by decide +kernel) (by decide +kernel)
set_option maxRecDepth 20000 in
theorem gX6_from_X6_in : GoodIn wsX6_from (va_wsS RX6 47 yX6_in wsX6_in) := goodIn_app (goodIn_of _ (by decide +kernel)) ggX6_from_X6_in
set_option maxRecDepth 20000 in
theorem ggX6_from_X6_bad : GoodIn wsX6_from wsX6_bad := goodIn_r _ [9, 10, 20, 21, 22, 23, 24, 25, 26, 27, 28, 29, 30, 31, 32, 33] (by decide +kernel) (by decide +kernel)
set_option maxRecDepth 20000 in
theorem gX6_from_X6_bad : GoodIn wsX6_from (wsV RX6 89 RX6 yX6_bad wsX6_bad) := goodIn_app (goodIn_of _ (by decide +kernel)) ggX6_from_X6_bad
set_option maxRecDepth 20000 in
theorem ggX6_from_X6_no : GoodIn wsX6_from wsX6_no := goodIn_r _ [14, 10, 20, 21, 22, 23, 24, 25, 26, 27, 28, 29, 30, 31, 32, 33] (by decide +kernel) (by decide +kernel)
set_option maxRecDepth 20000 in
theorem gX6_from_X6_no : GoodIn wsX6_from (wsV RX6 177 RX6 yX6_no wsX6_no) := goodIn_app (goodIn_of _ (by decide +kernel)) ggX6_from_X6_no
set_option maxRecDepth 20000 in
theorem ggX6_from_X6_copy : GoodIn wsX6_from wsX6_copy := goodIn_r _ [18, 19, 20, 21, 22, 23, 24, 25, 26, 27, 28, 29, 30, 31, 32, 33] (by decide +kernel) (by decide +kernel)
set_option maxRecDepth 20000 in
theorem gX6_from_X6_copy : GoodIn wsX6_from (wsV RX6 172 RX6 yX6_copy wsX6_copy) := goodIn_app (goodIn_of _ (by decide +kernel)) ggX6_from_X6_copy
theorem dX6_from_0 : decode cX6_from 0 = .ok (.iload_n 1, 1) := by decide +kernel
theorem dX6_from_1 : decode cX6_from 1 = .ok (.i2l, 1) := by decide +kernel
theorem dX6_from_2 : decode cX6_from 2 = .ok (.lconst 0, 1) := by decide +kernel
theorem dX6_from_3 : decode cX6_from 3 = .ok (.lconst 1, 1) := by decide +kernel
theorem dX6_from_4 : decode cX6_from 4 = .ok (.invokestatic 47, 3) := by decide +kernel
theorem dX6_from_7 : decode cX6_from 7 = .ok (.ifCond .ne 10, 3) := by decide +kernel
theorem dX6_from_10 : decode cX6_from 10 = .ok (.aload_n 0, 1) := by decide +kernel
theorem dX6_from_11 : decode cX6_from 11 = .ok (.bipush (-2), 2) := by decide +kernel
theorem dX6_from_13 : decode cX6_from 13 = .ok (.invokevirtual 89, 3) := by decide +kernel
theorem dX6_from_16 : decode cX6_from 16 = .ok (.ireturn, 1) := by decide +kernel
theorem dX6_from_17 : decode cX6_from 17 = .ok (.aload_n 0, 1) := by decide +kernel
theorem dX6_from_18 : decode cX6_from 18 = .ok (.getfield 13, 3) := by decide +kernel
theorem dX6_from_21 : decode cX6_from 21 = .ok (.iload_n 1, 1) := by decide +kernel
theorem dX6_from_22 : decode cX6_from 22 = .ok (.baload, 1) := by decide +kernel
theorem dX6_from_23 : decode cX6_from 23 = .ok (.ifCond .ne 8, 3) := by decide +kernel
theorem dX6_from_26 : decode cX6_from 26 = .ok (.aload_n 0, 1) := by decide +kernel
theorem dX6_from_27 : decode cX6_from 27 = .ok (.invokevirtual 177, 3) := by decide +kernel
theorem dX6_from_30 : decode cX6_from 30 = .ok (.ireturn, 1) := by decide +kernel
theorem dX6_from_31 : decode cX6_from 31 = .ok (.aload_n 0, 1) := by decide +kernel
theorem dX6_from_32 : decode cX6_from 32 = .ok (.sipush 148, 3) := by decide +kernel
theorem dX6_from_35 : decode cX6_from 35 = .ok (.sipush 148, 3) := by decide +kernel
theorem dX6_from_38 : decode cX6_from 38 = .ok (.iload_n 1, 1) := by decide +kernel
theorem dX6_from_39 : decode cX6_from 39 = .ok (.imul, 1) := by decide +kernel
