set_option maxRecDepth 20000 in
theorem ggX0_init_X2_init : GoodIn wsX0_init wsX2_init := goodIn_r _ [13, 14, 2, 3, 7, 15, 16, 17, 18, 22, 23, 24, 25, 26, 27, 28, 29] (by decide +kernel) (by decide +kernel)
set_option maxRecDepth 20000 in
theorem gX0_init_X2_init_n26 : GoodIn wsX0_init (wsX2_init) := ggX0_init_X2_init
theorem dX0_init_0 : decode cX0_init 0 = .ok (.aload_n 0, 1) := by decide +kernel
theorem dX0_init_1 : decode cX0_init 1 = .ok (.invokespecial 3, 3) := by decide +kernel
theorem dX0_init_4 : decode cX0_init 4 = .ok (.aload_n 0, 1) := by decide +kernel
theorem dX0_init_5 : decode cX0_init 5 = .ok (.iconst 5, 1) := by decide +kernel
theorem dX0_init_6 : decode cX0_init 6 = .ok (.anewarray 9, 3) := by decide +kernel
theorem dX0_init_9 : decode cX0_init 9 = .ok (.putfield 11, 3) := by decide +kernel
theorem dX0_init_12 : decode cX0_init 12 = .ok (.aload_n 0, 1) := by decide +kernel
theorem dX0_init_13 : decode cX0_init 13 = .ok (.iconst 5, 1) := by decide +kernel
theorem dX0_init_14 : decode cX0_init 14 = .ok (.bipush 6, 2) := by decide +kernel
theorem dX0_init_16 : decode cX0_init 16 = .ok (.multianewarray 17 2, 4) := by decide +kernel
theorem dX0_init_20 : decode cX0_init 20 = .ok (.putfield 19, 3) := by decide +kernel
theorem dX0_init_23 : decode cX0_init 23 = .ok (.aload_n 0, 1) := by decide +kernel
theorem dX0_init_24 : decode cX0_init 24 = .ok (.bipush 21, 2) := by decide +kernel
theorem dX0_init_26 : decode cX0_init 26 = .ok (.newarray .int, 2) := by decide +kernel
theorem dX0_init_28 : decode cX0_init 28 = .ok (.putfield 22, 3) := by decide +kernel
theorem dX0_init_31 : decode cX0_init 31 = .ok (.iconst 0, 1) := by decide +kernel
theorem dX0_init_32 : decode cX0_init 32 = .ok (.istore_n 1, 1) := by decide +kernel
theorem dX0_init_33 : decode cX0_init 33 = .ok (.iload_n 1, 1) := by decide +kernel
theorem dX0_init_34 : decode cX0_init 34 = .ok (.iconst 4, 1) := by decide +kernel
theorem dX0_init_35 : decode cX0_init 35 = .ok (.if_icmp .gt 22, 3) := by decide +kernel
theorem dX0_init_38 : decode cX0_init 38 = .ok (.aload_n 0, 1) := by decide +kernel
theorem dX0_init_39 : decode cX0_init 39 = .ok (.getfield 11, 3) := by decide +kernel
theorem dX0_init_42 : decode cX0_init 42 = .ok (.iload_n 1, 1) := by decide +kernel
theorem dX0_init_43 : decode cX0_init 43 = .ok (.new 9, 3) := by decide +kernel
theorem dX0_init_46 : decode cX0_init 46 = .ok (.dup, 1) := by decide +kernel
theorem dX0_init_47 : decode cX0_init 47 = .ok (.invokespecial 26, 3) := by decide +kernel
theorem dX0_init_50 : decode cX0_init 50 = .ok (.aastore, 1) := by decide +kernel
theorem dX0_init_51 : decode cX0_init 51 = .ok (.iinc 1 1, 3) := by decide +kernel
theorem dX0_init_54 : decode cX0_init 54 = .ok (.goto (-21), 3) := by decide +kernel
theorem dX0_init_57 : decode cX0_init 57 = .ok (.return_, 1) := by decide +kernel
set_option maxRecDepth 20000 in
theorem ggX0_spread_J7_fill_53178 : GoodIn wsX0_spread wsJ7_fill_53178 := goodIn_r _ [6] (by decide +kernel) (by decide +kernel)
set_option maxRecDepth 20000 in
theorem gX0_spread_J7_fill_53178 : GoodIn wsX0_spread (va_wsS RX0 27 yJ7_fill_53178 wsJ7_fill_53178) := goodIn_app (goodIn_of _ (by decide +kernel)) ggX0_spread_J7_fill_53178
set_option maxRecDepth 20000 in
theorem ggX0_spread_X5_within : GoodIn wsX0_spread wsX5_within := goodIn_r _ [9] (by decide +kernel) (by decide +kernel)
set_option maxRecDepth 20000 in
theorem gX0_spread_X5_within_n33 : GoodIn wsX0_spread (wsX5_within) := ggX0_spread_X5_within
set_option maxRecDepth 20000 in
theorem ggX0_spread_X2_copy : GoodIn wsX0_spread wsX2_copy := goodIn_r _ [14, 15, 16, 17, 18, 19, 20, 21, 22, 23, 24, 25, 26, 71, 72, 73, 74, 75, 76, 77, 78] (by decide +kernel) (by decide +kernel)
set_option maxRecDepth 20000 in
theorem gX0_spread_X2_copy : GoodIn wsX0_spread (wsV RX0 37 RX2 yX2_copy wsX2_copy) := goodIn_app (goodIn_of _ (by decide +kernel)) ggX0_spread_X2_copy
set_option maxRecDepth 20000 in
theorem ggX0_spread_X0_spreadLevel : GoodIn wsX0_spread wsX0_spreadLevel := goodIn_r _ [30, 2, 1, 31, 32, 33, 34, 35, 7, 8, 9, 36, 37, 38, 13, 39, 17, 16, 40, 41, 29, 42, 3, 4, 5, 6, 43, 44, 45, 46, 15, 19, 20, 25, 47, 48, 49, 50, 51, 52, 53, 54, 55, 10, 11, 12, 14, 18, 21, 22, 23, 24, 26, 56, 57, 58, 59, 60, 61, 62, 63, 64, 65, 66, 67, 27, 28, 68, 69, 70, 71, 72, 73, 74, 75, 76, 77, 78] (by decide +kernel) (by decide +kernel)
set_option maxRecDepth 20000 in
theorem gX0_spread_X0_spreadLevel : GoodIn wsX0_spread (va_wsS RX0 41 yX0_spreadLevel wsX0_spreadLevel) := goodIn_app (goodIn_of _ (by decide +kernel)) ggX0_spread_X0_spreadLevel
theorem dX0_spread_0 : decode cX0_spread 0 = .ok (.aload_n 0, 1) := by decide +kernel
theorem dX0_spread_1 : decode cX0_spread 1 = .ok (.getfield 22, 3) := by decide +kernel
theorem dX0_spread_4 : decode cX0_spread 4 = .ok (.iconst 0, 1) := by decide +kernel
theorem dX0_spread_5 : decode cX0_spread 5 = .ok (.invokestatic 27, 3) := by decide +kernel
theorem dX0_spread_8 : decode cX0_spread 8 = .ok (.iload_n 2, 1) := by decide +kernel
theorem dX0_spread_9 : decode cX0_spread 9 = .ok (.iconst 0, 1) := by decide +kernel
theorem dX0_spread_10 : decode cX0_spread 10 = .ok (.iconst 4, 1) := by decide +kernel
theorem dX0_spread_11 : decode cX0_spread 11 = .ok (.invokestatic 33, 3) := by decide +kernel
theorem dX0_spread_14 : decode cX0_spread 14 = .ok (.ifCond .eq 20, 3) := by decide +kernel
theorem dX0_spread_17 : decode cX0_spread 17 = .ok (.aload_n 0, 1) := by decide +kernel
theorem dX0_spread_18 : decode cX0_spread 18 = .ok (.getfield 11, 3) := by decide +kernel
theorem dX0_spread_21 : decode cX0_spread 21 = .ok (.iload_n 2, 1) := by decide +kernel
theorem dX0_spread_22 : decode cX0_spread 22 = .ok (.aaload, 1) := by decide +kernel
theorem dX0_spread_23 : decode cX0_spread 23 = .ok (.aload_n 1, 1) := by decide +kernel
theorem dX0_spread_24 : decode cX0_spread 24 = .ok (.invokevirtual 37, 3) := by decide +kernel
theorem dX0_spread_27 : decode cX0_spread 27 = .ok (.aload_n 0, 1) := by decide +kernel
theorem dX0_spread_28 : decode cX0_spread 28 = .ok (.iload_n 2, 1) := by decide +kernel
theorem dX0_spread_29 : decode cX0_spread 29 = .ok (.iconst 0, 1) := by decide +kernel
theorem dX0_spread_30 : decode cX0_spread 30 = .ok (.iconst 1, 1) := by decide +kernel
theorem dX0_spread_31 : decode cX0_spread 31 = .ok (.invokestatic 41, 3) := by decide +kernel
theorem dX0_spread_34 : decode cX0_spread 34 = .ok (.return_, 1) := by decide +kernel
set_option maxRecDepth 20000 in
theorem ggX0_spreadLevel_X5_within : GoodIn wsX0_spreadLevel wsX5_within := goodIn_r _ [10] (by decide +kernel) (by decide +kernel)
set_option maxRecDepth 20000 in
theorem gX0_spreadLevel_X5_within_n33 : GoodIn wsX0_spreadLevel (wsX5_within) := ggX0_spreadLevel_X5_within
set_option maxRecDepth 20000 in
theorem ggX0_spreadLevel_X2_isDone : GoodIn wsX0_spreadLevel wsX2_isDone := goodIn_r _ [15, 16, 17, 70, 71, 72, 73, 74, 75, 76, 77] (by decide +kernel) (by decide +kernel)
set_option maxRecDepth 20000 in
theorem gX0_spreadLevel_X2_isDone : GoodIn wsX0_spreadLevel (wsV RX0 45 RX2 yX2_isDone wsX2_isDone) := goodIn_app (goodIn_of _ (by decide +kernel)) ggX0_spreadLevel_X2_isDone
set_option maxRecDepth 20000 in
theorem ggX0_spreadLevel_X0_fillWays : GoodIn wsX0_spreadLevel wsX0_fillWays := goodIn_r _ [21, 3, 4, 5, 6, 22, 23, 24, 25, 26, 27, 28, 14, 29, 30, 31, 32, 16, 33, 34, 12, 13, 15, 17, 35, 9, 36, 37, 38, 39, 40, 41, 42, 8, 10, 70, 71, 72, 73, 74, 75, 76, 77] (by decide +kernel) (by decide +kernel)
set_option maxRecDepth 20000 in
theorem gX0_spreadLevel_X0_fillWays : GoodIn wsX0_spreadLevel (va_wsS RX0 58 yX0_fillWays wsX0_fillWays) := goodIn_app (goodIn_of _ (by decide +kernel)) ggX0_spreadLevel_X0_fillWays
set_option maxRecDepth 20000 in
theorem ggX0_spreadLevel_X2_copy : GoodIn wsX0_spreadLevel wsX2_copy := goodIn_r _ [46, 30, 17, 16, 47, 31, 32, 48, 49, 50, 51, 33, 52, 70, 71, 72, 73, 74, 75, 76, 77] (by decide +kernel) (by decide +kernel)
set_option maxRecDepth 20000 in
theorem gX0_spreadLevel_X2_copy : GoodIn wsX0_spreadLevel (wsV RX0 37 RX2 yX2_copy wsX2_copy) := goodIn_app (goodIn_of _ (by decide +kernel)) ggX0_spreadLevel_X2_copy
set_option maxRecDepth 20000 in
theorem ggX0_spreadLevel_X2_runBall : GoodIn wsX0_spreadLevel wsX2_runBall := goodIn_r _ [56, 31, 52, 16, 47, 34, 12, 13, 14, 15, 17, 57, 58, 59, 60, 8, 9, 10, 61, 62, 63, 64, 70, 71, 72, 73, 74, 75, 76, 77] (by decide +kernel) (by decide +kernel)
set_option maxRecDepth 20000 in
theorem gX0_spreadLevel_X2_runBall : GoodIn wsX0_spreadLevel (wsV RX0 62 RX2 yX2_runBall wsX2_runBall) := goodIn_app (goodIn_of _ (by decide +kernel)) ggX0_spreadLevel_X2_runBall
set_option maxRecDepth 20000 in
theorem ggX0_spreadLevel_X0_spreadLevel : GoodIn wsX0_spreadLevel wsX0_spreadLevel := goodIn_r _ [0, 1, 2, 3, 4, 5, 6, 7, 8, 9, 10, 11, 12, 13, 14, 15, 16, 17, 18, 19, 20, 21, 22, 23, 24, 25, 26, 27, 28, 29, 30, 31, 32, 33, 34, 35, 36, 37, 38, 39, 40, 41, 42, 43, 44, 45, 46, 47, 48, 49, 50, 51, 52, 53, 54, 55, 56, 57, 58, 59, 60, 61, 62, 63, 64, 65, 66, 67, 68, 69, 70, 71, 72, 73, 74, 75, 76, 77] (by decide +kernel) (by decide +kernel)
set_option maxRecDepth 20000 in
theorem gX0_spreadLevel_X0_spreadLevel : GoodIn wsX0_spreadLevel (va_wsS RX0 41 yX0_spreadLevel wsX0_spreadLevel) := goodIn_app (goodIn_of _ (by decide +kernel)) ggX0_spreadLevel_X0_spreadLevel
theorem dX0_spreadLevel_0 : decode cX0_spreadLevel 0 = .ok (.iload_n 1, 1) := by decide +kernel
theorem dX0_spreadLevel_1 : decode cX0_spreadLevel 1 = .ok (.iconst 0, 1) := by decide +kernel
theorem dX0_spreadLevel_2 : decode cX0_spreadLevel 2 = .ok (.iconst 4, 1) := by decide +kernel
theorem dX0_spreadLevel_3 : decode cX0_spreadLevel 3 = .ok (.invokestatic 33, 3) := by decide +kernel
theorem dX0_spreadLevel_6 : decode cX0_spreadLevel 6 = .ok (.ifCond .ne 4, 3) := by decide +kernel
theorem dX0_spreadLevel_9 : decode cX0_spreadLevel 9 = .ok (.return_, 1) := by decide +kernel
theorem dX0_spreadLevel_10 : decode cX0_spreadLevel 10 = .ok (.aload_n 0, 1) := by decide +kernel
theorem dX0_spreadLevel_11 : decode cX0_spreadLevel 11 = .ok (.getfield 11, 3) := by decide +kernel
theorem dX0_spreadLevel_14 : decode cX0_spreadLevel 14 = .ok (.iload_n 1, 1) := by decide +kernel
theorem dX0_spreadLevel_15 : decode cX0_spreadLevel 15 = .ok (.aaload, 1) := by decide +kernel
theorem dX0_spreadLevel_16 : decode cX0_spreadLevel 16 = .ok (.astore 4, 2) := by decide +kernel
theorem dX0_spreadLevel_18 : decode cX0_spreadLevel 18 = .ok (.iload_n 1, 1) := by decide +kernel
theorem dX0_spreadLevel_19 : decode cX0_spreadLevel 19 = .ok (.ifCond .eq 11, 3) := by decide +kernel
theorem dX0_spreadLevel_22 : decode cX0_spreadLevel 22 = .ok (.aload 4, 2) := by decide +kernel
theorem dX0_spreadLevel_24 : decode cX0_spreadLevel 24 = .ok (.invokevirtual 45, 3) := by decide +kernel
theorem dX0_spreadLevel_27 : decode cX0_spreadLevel 27 = .ok (.ifCond .eq 25, 3) := by decide +kernel
theorem dX0_spreadLevel_30 : decode cX0_spreadLevel 30 = .ok (.aload_n 0, 1) := by decide +kernel
theorem dX0_spreadLevel_31 : decode cX0_spreadLevel 31 = .ok (.getfield 22, 3) := by decide +kernel
theorem dX0_spreadLevel_34 : decode cX0_spreadLevel 34 = .ok (.bipush 20, 2) := by decide +kernel
theorem dX0_spreadLevel_36 : decode cX0_spreadLevel 36 = .ok (.iload_n 2, 1) := by decide +kernel
theorem dX0_spreadLevel_37 : decode cX0_spreadLevel 37 = .ok (.invokestatic 49, 3) := by decide +kernel
theorem dX0_spreadLevel_40 : decode cX0_spreadLevel 40 = .ok (.dup2, 1) := by decide +kernel
theorem dX0_spreadLevel_41 : decode cX0_spreadLevel 41 = .ok (.iaload, 1) := by decide +kernel
theorem dX0_spreadLevel_42 : decode cX0_spreadLevel 42 = .ok (.iload_n 3, 1) := by decide +kernel
theorem dX0_spreadLevel_43 : decode cX0_spreadLevel 43 = .ok (.getstatic 55, 3) := by decide +kernel
theorem dX0_spreadLevel_46 : decode cX0_spreadLevel 46 = .ok (.iload_n 1, 1) := by decide +kernel
theorem dX0_spreadLevel_47 : decode cX0_spreadLevel 47 = .ok (.iaload, 1) := by decide +kernel
theorem dX0_spreadLevel_48 : decode cX0_spreadLevel 48 = .ok (.imul, 1) := by decide +kernel
theorem dX0_spreadLevel_49 : decode cX0_spreadLevel 49 = .ok (.iadd, 1) := by decide +kernel
theorem dX0_spreadLevel_50 : decode cX0_spreadLevel 50 = .ok (.iastore, 1) := by decide +kernel
theorem dX0_spreadLevel_51 : decode cX0_spreadLevel 51 = .ok (.return_, 1) := by decide +kernel
theorem dX0_spreadLevel_52 : decode cX0_spreadLevel 52 = .ok (.aload_n 0, 1) := by decide +kernel
theorem dX0_spreadLevel_53 : decode cX0_spreadLevel 53 = .ok (.getfield 19, 3) := by decide +kernel
theorem dX0_spreadLevel_56 : decode cX0_spreadLevel 56 = .ok (.iload_n 1, 1) := by decide +kernel
theorem dX0_spreadLevel_57 : decode cX0_spreadLevel 57 = .ok (.aaload, 1) := by decide +kernel
theorem dX0_spreadLevel_58 : decode cX0_spreadLevel 58 = .ok (.astore 5, 2) := by decide +kernel
theorem dX0_spreadLevel_60 : decode cX0_spreadLevel 60 = .ok (.aload 4, 2) := by decide +kernel
theorem dX0_spreadLevel_62 : decode cX0_spreadLevel 62 = .ok (.aload 5, 2) := by decide +kernel
theorem dX0_spreadLevel_64 : decode cX0_spreadLevel 64 = .ok (.invokestatic 58, 3) := by decide +kernel
theorem dX0_spreadLevel_67 : decode cX0_spreadLevel 67 = .ok (.aload_n 0, 1) := by decide +kernel
theorem dX0_spreadLevel_68 : decode cX0_spreadLevel 68 = .ok (.getfield 11, 3) := by decide +kernel
theorem dX0_spreadLevel_71 : decode cX0_spreadLevel 71 = .ok (.iload_n 1, 1) := by decide +kernel
theorem dX0_spreadLevel_72 : decode cX0_spreadLevel 72 = .ok (.iconst 1, 1) := by decide +kernel
theorem dX0_spreadLevel_73 : decode cX0_spreadLevel 73 = .ok (.isub, 1) := by decide +kernel
theorem dX0_spreadLevel_74 : decode cX0_spreadLevel 74 = .ok (.aaload, 1) := by decide +kernel
theorem dX0_spreadLevel_75 : decode cX0_spreadLevel 75 = .ok (.astore 6, 2) := by decide +kernel
theorem dX0_spreadLevel_77 : decode cX0_spreadLevel 77 = .ok (.iconst 0, 1) := by decide +kernel
theorem dX0_spreadLevel_78 : decode cX0_spreadLevel 78 = .ok (.istore 7, 2) := by decide +kernel
theorem dX0_spreadLevel_80 : decode cX0_spreadLevel 80 = .ok (.iload 7, 2) := by decide +kernel
theorem dX0_spreadLevel_82 : decode cX0_spreadLevel 82 = .ok (.bipush 6, 2) := by decide +kernel
theorem dX0_spreadLevel_84 : decode cX0_spreadLevel 84 = .ok (.if_icmp .ge 53, 3) := by decide +kernel
theorem dX0_spreadLevel_87 : decode cX0_spreadLevel 87 = .ok (.aload 5, 2) := by decide +kernel
theorem dX0_spreadLevel_89 : decode cX0_spreadLevel 89 = .ok (.iload 7, 2) := by decide +kernel
theorem dX0_spreadLevel_91 : decode cX0_spreadLevel 91 = .ok (.iaload, 1) := by decide +kernel
theorem dX0_spreadLevel_92 : decode cX0_spreadLevel 92 = .ok (.ifCond .le 39, 3) := by decide +kernel
theorem dX0_spreadLevel_95 : decode cX0_spreadLevel 95 = .ok (.aload 6, 2) := by decide +kernel
theorem dX0_spreadLevel_97 : decode cX0_spreadLevel 97 = .ok (.aload 4, 2) := by decide +kernel
theorem dX0_spreadLevel_99 : decode cX0_spreadLevel 99 = .ok (.invokevirtual 37, 3) := by decide +kernel
theorem dX0_spreadLevel_102 : decode cX0_spreadLevel 102 = .ok (.aload 6, 2) := by decide +kernel
theorem dX0_spreadLevel_104 : decode cX0_spreadLevel 104 = .ok (.iload 7, 2) := by decide +kernel
theorem dX0_spreadLevel_106 : decode cX0_spreadLevel 106 = .ok (.iconst 1, 1) := by decide +kernel
theorem dX0_spreadLevel_107 : decode cX0_spreadLevel 107 = .ok (.isub, 1) := by decide +kernel
theorem dX0_spreadLevel_108 : decode cX0_spreadLevel 108 = .ok (.invokevirtual 62, 3) := by decide +kernel
theorem dX0_spreadLevel_111 : decode cX0_spreadLevel 111 = .ok (.istore 8, 2) := by decide +kernel
theorem dX0_spreadLevel_113 : decode cX0_spreadLevel 113 = .ok (.aload_n 0, 1) := by decide +kernel
theorem dX0_spreadLevel_114 : decode cX0_spreadLevel 114 = .ok (.iload_n 1, 1) := by decide +kernel
theorem dX0_spreadLevel_115 : decode cX0_spreadLevel 115 = .ok (.iconst 1, 1) := by decide +kernel
theorem dX0_spreadLevel_116 : decode cX0_spreadLevel 116 = .ok (.isub, 1) := by decide +kernel
theorem dX0_spreadLevel_117 : decode cX0_spreadLevel 117 = .ok (.iload_n 2, 1) := by decide +kernel
theorem dX0_spreadLevel_118 : decode cX0_spreadLevel 118 = .ok (.iload 8, 2) := by decide +kernel
theorem dX0_spreadLevel_120 : decode cX0_spreadLevel 120 = .ok (.iadd, 1) := by decide +kernel
theorem dX0_spreadLevel_121 : decode cX0_spreadLevel 121 = .ok (.iload_n 3, 1) := by decide +kernel
theorem dX0_spreadLevel_122 : decode cX0_spreadLevel 122 = .ok (.aload 5, 2) := by decide +kernel
theorem dX0_spreadLevel_124 : decode cX0_spreadLevel 124 = .ok (.iload 7, 2) := by decide +kernel
theorem dX0_spreadLevel_126 : decode cX0_spreadLevel 126 = .ok (.iaload, 1) := by decide +kernel
theorem dX0_spreadLevel_127 : decode cX0_spreadLevel 127 = .ok (.imul, 1) := by decide +kernel
theorem dX0_spreadLevel_128 : decode cX0_spreadLevel 128 = .ok (.invokestatic 41, 3) := by decide +kernel
theorem dX0_spreadLevel_131 : decode cX0_spreadLevel 131 = .ok (.iinc 7 1, 3) := by decide +kernel
theorem dX0_spreadLevel_134 : decode cX0_spreadLevel 134 = .ok (.goto (-54), 3) := by decide +kernel
theorem dX0_spreadLevel_137 : decode cX0_spreadLevel 137 = .ok (.return_, 1) := by decide +kernel
set_option maxRecDepth 20000 in
theorem ggX0_fillWays_J7_fill_53178 : GoodIn wsX0_fillWays wsJ7_fill_53178 := goodIn_r _ [8] (by decide +kernel) (by decide +kernel)
set_option maxRecDepth 20000 in
theorem gX0_fillWays_J7_fill_53178 : GoodIn wsX0_fillWays (va_wsS RX0 27 yJ7_fill_53178 wsJ7_fill_53178) := goodIn_app (goodIn_of _ (by decide +kernel)) ggX0_fillWays_J7_fill_53178
set_option maxRecDepth 20000 in
theorem ggX0_fillWays_X2_postsBy : GoodIn wsX0_fillWays wsX2_postsBy := goodIn_r _ [13, 14, 15, 16, 17, 18, 19, 20, 21, 12, 22, 23, 24, 25, 26, 27, 28, 3, 29, 30, 2, 4, 31, 32, 35, 36, 37, 38, 39, 40, 41, 42] (by decide +kernel) (by decide +kernel)
set_option maxRecDepth 20000 in
theorem gX0_fillWays_X2_postsBy : GoodIn wsX0_fillWays (wsV RX0 66 RX2 yX2_postsBy wsX2_postsBy) := goodIn_app (goodIn_of _ (by decide +kernel)) ggX0_fillWays_X2_postsBy
set_option maxRecDepth 20000 in
theorem ggX0_fillWays_X5_within : GoodIn wsX0_fillWays wsX5_within := goodIn_r _ [34] (by decide +kernel) (by decide +kernel)
set_option maxRecDepth 20000 in
theorem gX0_fillWays_X5_within_n33 : GoodIn wsX0_fillWays (wsX5_within) := ggX0_fillWays_X5_within
theorem dX0_fillWays_0 : decode cX0_fillWays 0 = .ok (.aload_n 1, 1) := by decide +kernel
theorem dX0_fillWays_1 : decode cX0_fillWays 1 = .ok (.iconst 0, 1) := by decide +kernel
theorem dX0_fillWays_2 : decode cX0_fillWays 2 = .ok (.invokestatic 27, 3) := by decide +kernel
theorem dX0_fillWays_5 : decode cX0_fillWays 5 = .ok (.iconst 0, 1) := by decide +kernel
theorem dX0_fillWays_6 : decode cX0_fillWays 6 = .ok (.istore_n 2, 1) := by decide +kernel
theorem dX0_fillWays_7 : decode cX0_fillWays 7 = .ok (.iload_n 2, 1) := by decide +kernel
theorem dX0_fillWays_8 : decode cX0_fillWays 8 = .ok (.bipush 9, 2) := by decide +kernel
theorem dX0_fillWays_10 : decode cX0_fillWays 10 = .ok (.if_icmp .gt 40, 3) := by decide +kernel
theorem dX0_fillWays_13 : decode cX0_fillWays 13 = .ok (.iconst 1, 1) := by decide +kernel
theorem dX0_fillWays_14 : decode cX0_fillWays 14 = .ok (.iconst 4, 1) := by decide +kernel
theorem dX0_fillWays_15 : decode cX0_fillWays 15 = .ok (.aload_n 0, 1) := by decide +kernel
theorem dX0_fillWays_16 : decode cX0_fillWays 16 = .ok (.iload_n 2, 1) := by decide +kernel
theorem dX0_fillWays_17 : decode cX0_fillWays 17 = .ok (.invokevirtual 66, 3) := by decide +kernel
theorem dX0_fillWays_20 : decode cX0_fillWays 20 = .ok (.invokestatic 49, 3) := by decide +kernel
theorem dX0_fillWays_23 : decode cX0_fillWays 23 = .ok (.iadd, 1) := by decide +kernel
theorem dX0_fillWays_24 : decode cX0_fillWays 24 = .ok (.istore_n 3, 1) := by decide +kernel
theorem dX0_fillWays_25 : decode cX0_fillWays 25 = .ok (.iload_n 3, 1) := by decide +kernel
theorem dX0_fillWays_26 : decode cX0_fillWays 26 = .ok (.iconst 0, 1) := by decide +kernel
theorem dX0_fillWays_27 : decode cX0_fillWays 27 = .ok (.aload_n 1, 1) := by decide +kernel
theorem dX0_fillWays_28 : decode cX0_fillWays 28 = .ok (.arraylength, 1) := by decide +kernel
theorem dX0_fillWays_29 : decode cX0_fillWays 29 = .ok (.iconst 1, 1) := by decide +kernel
theorem dX0_fillWays_30 : decode cX0_fillWays 30 = .ok (.isub, 1) := by decide +kernel
theorem dX0_fillWays_31 : decode cX0_fillWays 31 = .ok (.invokestatic 33, 3) := by decide +kernel
theorem dX0_fillWays_34 : decode cX0_fillWays 34 = .ok (.ifCond .eq 10, 3) := by decide +kernel
theorem dX0_fillWays_37 : decode cX0_fillWays 37 = .ok (.aload_n 1, 1) := by decide +kernel
theorem dX0_fillWays_38 : decode cX0_fillWays 38 = .ok (.iload_n 3, 1) := by decide +kernel
theorem dX0_fillWays_39 : decode cX0_fillWays 39 = .ok (.dup2, 1) := by decide +kernel
theorem dX0_fillWays_40 : decode cX0_fillWays 40 = .ok (.iaload, 1) := by decide +kernel
theorem dX0_fillWays_41 : decode cX0_fillWays 41 = .ok (.iconst 1, 1) := by decide +kernel
theorem dX0_fillWays_42 : decode cX0_fillWays 42 = .ok (.iadd, 1) := by decide +kernel
theorem dX0_fillWays_43 : decode cX0_fillWays 43 = .ok (.iastore, 1) := by decide +kernel
theorem dX0_fillWays_44 : decode cX0_fillWays 44 = .ok (.iinc 2 1, 3) := by decide +kernel
theorem dX0_fillWays_47 : decode cX0_fillWays 47 = .ok (.goto (-40), 3) := by decide +kernel
theorem dX0_fillWays_50 : decode cX0_fillWays 50 = .ok (.return_, 1) := by decide +kernel
theorem dX0_casesFrom_0 : decode cX0_casesFrom 0 = .ok (.iconst 0, 1) := by decide +kernel
theorem dX0_casesFrom_1 : decode cX0_casesFrom 1 = .ok (.istore_n 2, 1) := by decide +kernel
theorem dX0_casesFrom_2 : decode cX0_casesFrom 2 = .ok (.iconst 0, 1) := by decide +kernel
theorem dX0_casesFrom_3 : decode cX0_casesFrom 3 = .ok (.iload_n 1, 1) := by decide +kernel
theorem dX0_casesFrom_4 : decode cX0_casesFrom 4 = .ok (.invokestatic 69, 3) := by decide +kernel
theorem dX0_casesFrom_7 : decode cX0_casesFrom 7 = .ok (.istore_n 3, 1) := by decide +kernel
theorem dX0_casesFrom_8 : decode cX0_casesFrom 8 = .ok (.iload_n 3, 1) := by decide +kernel
theorem dX0_casesFrom_9 : decode cX0_casesFrom 9 = .ok (.bipush 20, 2) := by decide +kernel
theorem dX0_casesFrom_11 : decode cX0_casesFrom 11 = .ok (.if_icmp .gt 18, 3) := by decide +kernel
theorem dX0_casesFrom_14 : decode cX0_casesFrom 14 = .ok (.iload_n 2, 1) := by decide +kernel
theorem dX0_casesFrom_15 : decode cX0_casesFrom 15 = .ok (.aload_n 0, 1) := by decide +kernel
theorem dX0_casesFrom_16 : decode cX0_casesFrom 16 = .ok (.getfield 22, 3) := by decide +kernel
theorem dX0_casesFrom_19 : decode cX0_casesFrom 19 = .ok (.iload_n 3, 1) := by decide +kernel
theorem dX0_casesFrom_20 : decode cX0_casesFrom 20 = .ok (.iaload, 1) := by decide +kernel
theorem dX0_casesFrom_21 : decode cX0_casesFrom 21 = .ok (.iadd, 1) := by decide +kernel
theorem dX0_casesFrom_22 : decode cX0_casesFrom 22 = .ok (.istore_n 2, 1) := by decide +kernel
theorem dX0_casesFrom_23 : decode cX0_casesFrom 23 = .ok (.iinc 3 1, 3) := by decide +kernel
theorem dX0_casesFrom_26 : decode cX0_casesFrom 26 = .ok (.goto (-18), 3) := by decide +kernel
theorem dX0_casesFrom_29 : decode cX0_casesFrom 29 = .ok (.iload_n 2, 1) := by decide +kernel
theorem dX0_casesFrom_30 : decode cX0_casesFrom 30 = .ok (.ireturn, 1) := by decide +kernel
theorem dX0_sumOfGains_0 : decode cX0_sumOfGains 0 = .ok (.iconst 0, 1) := by decide +kernel
theorem dX0_sumOfGains_1 : decode cX0_sumOfGains 1 = .ok (.istore_n 1, 1) := by decide +kernel
theorem dX0_sumOfGains_2 : decode cX0_sumOfGains 2 = .ok (.iconst 0, 1) := by decide +kernel
theorem dX0_sumOfGains_3 : decode cX0_sumOfGains 3 = .ok (.istore_n 2, 1) := by decide +kernel
theorem dX0_sumOfGains_4 : decode cX0_sumOfGains 4 = .ok (.iload_n 2, 1) := by decide +kernel
theorem dX0_sumOfGains_5 : decode cX0_sumOfGains 5 = .ok (.bipush 20, 2) := by decide +kernel
theorem dX0_sumOfGains_7 : decode cX0_sumOfGains 7 = .ok (.if_icmp .gt 20, 3) := by decide +kernel
theorem dX0_sumOfGains_10 : decode cX0_sumOfGains 10 = .ok (.iload_n 1, 1) := by decide +kernel
theorem dX0_sumOfGains_11 : decode cX0_sumOfGains 11 = .ok (.iload_n 2, 1) := by decide +kernel
theorem dX0_sumOfGains_12 : decode cX0_sumOfGains 12 = .ok (.aload_n 0, 1) := by decide +kernel
theorem dX0_sumOfGains_13 : decode cX0_sumOfGains 13 = .ok (.getfield 22, 3) := by decide +kernel
theorem dX0_sumOfGains_16 : decode cX0_sumOfGains 16 = .ok (.iload_n 2, 1) := by decide +kernel
theorem dX0_sumOfGains_17 : decode cX0_sumOfGains 17 = .ok (.iaload, 1) := by decide +kernel
theorem dX0_sumOfGains_18 : decode cX0_sumOfGains 18 = .ok (.imul, 1) := by decide +kernel
theorem dX0_sumOfGains_19 : decode cX0_sumOfGains 19 = .ok (.iadd, 1) := by decide +kernel
theorem dX0_sumOfGains_20 : decode cX0_sumOfGains 20 = .ok (.istore_n 1, 1) := by decide +kernel
theorem dX0_sumOfGains_21 : decode cX0_sumOfGains 21 = .ok (.iinc 2 1, 3) := by decide +kernel
theorem dX0_sumOfGains_24 : decode cX0_sumOfGains 24 = .ok (.goto (-20), 3) := by decide +kernel
theorem dX0_sumOfGains_27 : decode cX0_sumOfGains 27 = .ok (.iload_n 1, 1) := by decide +kernel
theorem dX0_sumOfGains_28 : decode cX0_sumOfGains 28 = .ok (.ireturn, 1) := by decide +kernel
set_option maxRecDepth 20000 in
theorem ggX1_init_X2_init : GoodIn wsX1_init wsX2_init := goodIn_r _ [17, 18, 2, 3, 8, 19, 20, 21, 22, 37, 38, 39, 40, 41, 42, 43, 44] (by decide +kernel) (by decide +kernel)
set_option maxRecDepth 20000 in
theorem gX1_init_X2_init_n11 : GoodIn wsX1_init (wsX2_init) := ggX1_init_X2_init
set_option maxRecDepth 20000 in
theorem ggX1_init_X4_init : GoodIn wsX1_init wsX4_init := goodIn_r _ [25, 26, 2, 3, 27, 28, 29, 30, 31, 8, 32, 50, 51, 52] (by decide +kernel) (by decide +kernel)
set_option maxRecDepth 20000 in
theorem gX1_init_X4_init : GoodIn wsX1_init (wsX4_init) := ggX1_init_X4_init
set_option maxRecDepth 20000 in
theorem ggX1_init_J7_fill_53178 : GoodIn wsX1_init wsJ7_fill_53178 := goodIn_r _ [36] (by decide +kernel) (by decide +kernel)
set_option maxRecDepth 20000 in
theorem gX1_init_J7_fill_53178 : GoodIn wsX1_init (va_wsS RX1 37 yJ7_fill_53178 wsJ7_fill_53178) := goodIn_app (goodIn_of _ (by decide +kernel)) ggX1_init_J7_fill_53178
theorem dX1_init_0 : decode cX1_init 0 = .ok (.aload_n 0, 1) := by decide +kernel
theorem dX1_init_1 : decode cX1_init 1 = .ok (.invokespecial 3, 3) := by decide +kernel
theorem dX1_init_4 : decode cX1_init 4 = .ok (.aload_n 0, 1) := by decide +kernel
theorem dX1_init_5 : decode cX1_init 5 = .ok (.new 9, 3) := by decide +kernel
theorem dX1_init_8 : decode cX1_init 8 = .ok (.dup, 1) := by decide +kernel
theorem dX1_init_9 : decode cX1_init 9 = .ok (.invokespecial 11, 3) := by decide +kernel
theorem dX1_init_12 : decode cX1_init 12 = .ok (.putfield 12, 3) := by decide +kernel
theorem dX1_init_15 : decode cX1_init 15 = .ok (.aload_n 0, 1) := by decide +kernel
theorem dX1_init_16 : decode cX1_init 16 = .ok (.bipush 8, 2) := by decide +kernel
theorem dX1_init_18 : decode cX1_init 18 = .ok (.newarray .int, 2) := by decide +kernel
theorem dX1_init_20 : decode cX1_init 20 = .ok (.putfield 18, 3) := by decide +kernel
theorem dX1_init_23 : decode cX1_init 23 = .ok (.aload_n 0, 1) := by decide +kernel
theorem dX1_init_24 : decode cX1_init 24 = .ok (.new 22, 3) := by decide +kernel
theorem dX1_init_27 : decode cX1_init 27 = .ok (.dup, 1) := by decide +kernel
theorem dX1_init_28 : decode cX1_init 28 = .ok (.iconst 3, 1) := by decide +kernel
theorem dX1_init_29 : decode cX1_init 29 = .ok (.bipush 6, 2) := by decide +kernel
theorem dX1_init_31 : decode cX1_init 31 = .ok (.invokespecial 24, 3) := by decide +kernel
theorem dX1_init_34 : decode cX1_init 34 = .ok (.putfield 27, 3) := by decide +kernel
theorem dX1_init_37 : decode cX1_init 37 = .ok (.aload_n 0, 1) := by decide +kernel
theorem dX1_init_38 : decode cX1_init 38 = .ok (.new 22, 3) := by decide +kernel
theorem dX1_init_41 : decode cX1_init 41 = .ok (.dup, 1) := by decide +kernel
theorem dX1_init_42 : decode cX1_init 42 = .ok (.iconst 4, 1) := by decide +kernel
theorem dX1_init_43 : decode cX1_init 43 = .ok (.bipush 6, 2) := by decide +kernel
theorem dX1_init_45 : decode cX1_init 45 = .ok (.invokespecial 24, 3) := by decide +kernel
theorem dX1_init_48 : decode cX1_init 48 = .ok (.putfield 31, 3) := by decide +kernel
theorem dX1_init_51 : decode cX1_init 51 = .ok (.aload_n 0, 1) := by decide +kernel
theorem dX1_init_52 : decode cX1_init 52 = .ok (.new 22, 3) := by decide +kernel
theorem dX1_init_55 : decode cX1_init 55 = .ok (.dup, 1) := by decide +kernel
theorem dX1_init_56 : decode cX1_init 56 = .ok (.bipush 9, 2) := by decide +kernel
theorem dX1_init_58 : decode cX1_init 58 = .ok (.bipush 8, 2) := by decide +kernel
theorem dX1_init_60 : decode cX1_init 60 = .ok (.invokespecial 24, 3) := by decide +kernel
theorem dX1_init_63 : decode cX1_init 63 = .ok (.putfield 34, 3) := by decide +kernel
theorem dX1_init_66 : decode cX1_init 66 = .ok (.aload_n 0, 1) := by decide +kernel
theorem dX1_init_67 : decode cX1_init 67 = .ok (.getfield 18, 3) := by decide +kernel
theorem dX1_init_70 : decode cX1_init 70 = .ok (.iconst 5, 1) := by decide +kernel
theorem dX1_init_71 : decode cX1_init 71 = .ok (.invokestatic 37, 3) := by decide +kernel
theorem dX1_init_74 : decode cX1_init 74 = .ok (.return_, 1) := by decide +kernel
set_option maxRecDepth 20000 in
theorem ggX1_begin_X2_begin : GoodIn wsX1_begin wsX2_begin := goodIn_r _ [10, 11, 12, 13, 14, 15, 31, 32, 33, 34, 35, 36, 37, 38] (by decide +kernel) (by decide +kernel)
set_option maxRecDepth 20000 in
theorem gX1_begin_X2_begin : GoodIn wsX1_begin (wsV RX1 43 RX2 yX2_begin wsX2_begin) := goodIn_app (goodIn_of _ (by decide +kernel)) ggX1_begin_X2_begin
set_option maxRecDepth 20000 in
theorem ggX1_begin_J7_fill_53178 : GoodIn wsX1_begin wsJ7_fill_53178 := goodIn_r _ [19] (by decide +kernel) (by decide +kernel)
set_option maxRecDepth 20000 in
theorem gX1_begin_J7_fill_53178 : GoodIn wsX1_begin (va_wsS RX1 37 yJ7_fill_53178 wsJ7_fill_53178) := goodIn_app (goodIn_of _ (by decide +kernel)) ggX1_begin_J7_fill_53178
set_option maxRecDepth 20000 in
theorem ggX1_begin_X4_empty : GoodIn wsX1_begin wsX4_empty := goodIn_r _ [24, 25, 39, 40, 41] (by decide +kernel) (by decide +kernel)
set_option maxRecDepth 20000 in
theorem gX1_begin_X4_empty : GoodIn wsX1_begin (wsV RX1 47 RX4 yX4_empty wsX4_empty) := goodIn_app (goodIn_of _ (by decide +kernel)) ggX1_begin_X4_empty
theorem dX1_begin_0 : decode cX1_begin 0 = .ok (.aload_n 0, 1) := by decide +kernel
theorem dX1_begin_1 : decode cX1_begin 1 = .ok (.getfield 12, 3) := by decide +kernel
theorem dX1_begin_4 : decode cX1_begin 4 = .ok (.iload_n 1, 1) := by decide +kernel
theorem dX1_begin_5 : decode cX1_begin 5 = .ok (.invokevirtual 43, 3) := by decide +kernel
theorem dX1_begin_8 : decode cX1_begin 8 = .ok (.aload_n 0, 1) := by decide +kernel
theorem dX1_begin_9 : decode cX1_begin 9 = .ok (.getfield 18, 3) := by decide +kernel
theorem dX1_begin_12 : decode cX1_begin 12 = .ok (.iconst 5, 1) := by decide +kernel
theorem dX1_begin_13 : decode cX1_begin 13 = .ok (.invokestatic 37, 3) := by decide +kernel
theorem dX1_begin_16 : decode cX1_begin 16 = .ok (.aload_n 0, 1) := by decide +kernel
theorem dX1_begin_17 : decode cX1_begin 17 = .ok (.getfield 27, 3) := by decide +kernel
theorem dX1_begin_20 : decode cX1_begin 20 = .ok (.invokevirtual 47, 3) := by decide +kernel
theorem dX1_begin_23 : decode cX1_begin 23 = .ok (.aload_n 0, 1) := by decide +kernel
theorem dX1_begin_24 : decode cX1_begin 24 = .ok (.getfield 31, 3) := by decide +kernel
theorem dX1_begin_27 : decode cX1_begin 27 = .ok (.invokevirtual 47, 3) := by decide +kernel
theorem dX1_begin_30 : decode cX1_begin 30 = .ok (.aload_n 0, 1) := by decide +kernel
theorem dX1_begin_31 : decode cX1_begin 31 = .ok (.getfield 34, 3) := by decide +kernel
theorem dX1_begin_34 : decode cX1_begin 34 = .ok (.invokevirtual 47, 3) := by decide +kernel
theorem dX1_begin_37 : decode cX1_begin 37 = .ok (.return_, 1) := by decide +kernel
set_option maxRecDepth 20000 in
theorem ggX1_copy_X2_copy : GoodIn wsX1_copy wsX2_copy := goodIn_r _ [14, 15, 16, 17, 18, 19, 20, 21, 4, 5, 6, 22, 23, 41, 42, 43, 44, 45, 46, 47, 48] (by decide +kernel) (by decide +kernel)
set_option maxRecDepth 20000 in
theorem gX1_copy_X2_copy : GoodIn wsX1_copy (wsV RX1 50 RX2 yX2_copy wsX2_copy) := goodIn_app (goodIn_of _ (by decide +kernel)) ggX1_copy_X2_copy
set_option maxRecDepth 20000 in
theorem ggX1_copy_X4_copy : GoodIn wsX1_copy wsX4_copy := goodIn_r _ [28, 29, 30, 31, 32, 33, 34, 35, 4, 5, 6, 49, 50, 51] (by decide +kernel) (by decide +kernel)
set_option maxRecDepth 20000 in
theorem gX1_copy_X4_copy : GoodIn wsX1_copy (wsV RX1 60 RX4 yX4_copy wsX4_copy) := goodIn_app (goodIn_of _ (by decide +kernel)) ggX1_copy_X4_copy
theorem dX1_copy_0 : decode cX1_copy 0 = .ok (.aload_n 0, 1) := by decide +kernel
theorem dX1_copy_1 : decode cX1_copy 1 = .ok (.getfield 12, 3) := by decide +kernel
theorem dX1_copy_4 : decode cX1_copy 4 = .ok (.aload_n 1, 1) := by decide +kernel
theorem dX1_copy_5 : decode cX1_copy 5 = .ok (.getfield 12, 3) := by decide +kernel
theorem dX1_copy_8 : decode cX1_copy 8 = .ok (.invokevirtual 50, 3) := by decide +kernel
theorem dX1_copy_11 : decode cX1_copy 11 = .ok (.aload_n 1, 1) := by decide +kernel
theorem dX1_copy_12 : decode cX1_copy 12 = .ok (.getfield 18, 3) := by decide +kernel
theorem dX1_copy_15 : decode cX1_copy 15 = .ok (.iconst 0, 1) := by decide +kernel
theorem dX1_copy_16 : decode cX1_copy 16 = .ok (.aload_n 0, 1) := by decide +kernel
theorem dX1_copy_17 : decode cX1_copy 17 = .ok (.getfield 18, 3) := by decide +kernel
theorem dX1_copy_20 : decode cX1_copy 20 = .ok (.iconst 0, 1) := by decide +kernel
theorem dX1_copy_21 : decode cX1_copy 21 = .ok (.bipush 8, 2) := by decide +kernel
theorem dX1_copy_23 : decode cX1_copy 23 = .ok (.invokestatic 54, 3) := by decide +kernel
theorem dX1_copy_26 : decode cX1_copy 26 = .ok (.aload_n 0, 1) := by decide +kernel
theorem dX1_copy_27 : decode cX1_copy 27 = .ok (.getfield 27, 3) := by decide +kernel
theorem dX1_copy_30 : decode cX1_copy 30 = .ok (.aload_n 1, 1) := by decide +kernel
theorem dX1_copy_31 : decode cX1_copy 31 = .ok (.getfield 27, 3) := by decide +kernel
theorem dX1_copy_34 : decode cX1_copy 34 = .ok (.invokevirtual 60, 3) := by decide +kernel
theorem dX1_copy_37 : decode cX1_copy 37 = .ok (.aload_n 0, 1) := by decide +kernel
theorem dX1_copy_38 : decode cX1_copy 38 = .ok (.getfield 31, 3) := by decide +kernel
theorem dX1_copy_41 : decode cX1_copy 41 = .ok (.aload_n 1, 1) := by decide +kernel
theorem dX1_copy_42 : decode cX1_copy 42 = .ok (.getfield 31, 3) := by decide +kernel
theorem dX1_copy_45 : decode cX1_copy 45 = .ok (.invokevirtual 60, 3) := by decide +kernel
theorem dX1_copy_48 : decode cX1_copy 48 = .ok (.aload_n 0, 1) := by decide +kernel
theorem dX1_copy_49 : decode cX1_copy 49 = .ok (.getfield 34, 3) := by decide +kernel
theorem dX1_copy_52 : decode cX1_copy 52 = .ok (.aload_n 1, 1) := by decide +kernel
theorem dX1_copy_53 : decode cX1_copy 53 = .ok (.getfield 34, 3) := by decide +kernel
theorem dX1_copy_56 : decode cX1_copy 56 = .ok (.invokevirtual 60, 3) := by decide +kernel
theorem dX1_copy_59 : decode cX1_copy 59 = .ok (.return_, 1) := by decide +kernel
set_option maxRecDepth 20000 in
theorem ggX1_remember_X4_isFull : GoodIn wsX1_remember wsX4_isFull := goodIn_r _ [11, 12, 13, 14, 40, 41, 42] (by decide +kernel) (by decide +kernel)
set_option maxRecDepth 20000 in
theorem gX1_remember_X4_isFull : GoodIn wsX1_remember (wsV RX1 63 RX4 yX4_isFull wsX4_isFull) := goodIn_app (goodIn_of _ (by decide +kernel)) ggX1_remember_X4_isFull
set_option maxRecDepth 20000 in
theorem ggX1_remember_X4_dropFirst : GoodIn wsX1_remember wsX4_dropFirst := goodIn_r _ [18, 12, 13, 14, 19, 20, 21, 22, 40, 41, 42] (by decide +kernel) (by decide +kernel)
set_option maxRecDepth 20000 in
theorem gX1_remember_X4_dropFirst : GoodIn wsX1_remember (wsV RX1 67 RX4 yX4_dropFirst wsX4_dropFirst) := goodIn_app (goodIn_of _ (by decide +kernel)) ggX1_remember_X4_dropFirst
set_option maxRecDepth 20000 in
theorem ggX1_remember_X4_put : GoodIn wsX1_remember wsX4_put := goodIn_r _ [26, 12, 14, 40, 41, 42] (by decide +kernel) (by decide +kernel)
set_option maxRecDepth 20000 in
theorem gX1_remember_X4_put : GoodIn wsX1_remember (wsV RX1 73 RX4 yX4_put wsX4_put) := goodIn_app (goodIn_of _ (by decide +kernel)) ggX1_remember_X4_put
theorem dX1_remember_0 : decode cX1_remember 0 = .ok (.aload_n 0, 1) := by decide +kernel
theorem dX1_remember_1 : decode cX1_remember 1 = .ok (.getfield 34, 3) := by decide +kernel
theorem dX1_remember_4 : decode cX1_remember 4 = .ok (.invokevirtual 63, 3) := by decide +kernel
theorem dX1_remember_7 : decode cX1_remember 7 = .ok (.ifCond .eq 10, 3) := by decide +kernel
theorem dX1_remember_10 : decode cX1_remember 10 = .ok (.aload_n 0, 1) := by decide +kernel
theorem dX1_remember_11 : decode cX1_remember 11 = .ok (.getfield 34, 3) := by decide +kernel
theorem dX1_remember_14 : decode cX1_remember 14 = .ok (.invokevirtual 67, 3) := by decide +kernel
theorem dX1_remember_17 : decode cX1_remember 17 = .ok (.iconst 0, 1) := by decide +kernel
theorem dX1_remember_18 : decode cX1_remember 18 = .ok (.istore_n 1, 1) := by decide +kernel
theorem dX1_remember_19 : decode cX1_remember 19 = .ok (.iload_n 1, 1) := by decide +kernel
theorem dX1_remember_20 : decode cX1_remember 20 = .ok (.bipush 6, 2) := by decide +kernel
theorem dX1_remember_22 : decode cX1_remember 22 = .ok (.if_icmp .ge 25, 3) := by decide +kernel
theorem dX1_remember_25 : decode cX1_remember 25 = .ok (.aload_n 0, 1) := by decide +kernel
theorem dX1_remember_26 : decode cX1_remember 26 = .ok (.getfield 34, 3) := by decide +kernel
theorem dX1_remember_29 : decode cX1_remember 29 = .ok (.aload_n 0, 1) := by decide +kernel
theorem dX1_remember_30 : decode cX1_remember 30 = .ok (.getfield 12, 3) := by decide +kernel
theorem dX1_remember_33 : decode cX1_remember 33 = .ok (.getfield 70, 3) := by decide +kernel
theorem dX1_remember_36 : decode cX1_remember 36 = .ok (.iload_n 1, 1) := by decide +kernel
theorem dX1_remember_37 : decode cX1_remember 37 = .ok (.iaload, 1) := by decide +kernel
theorem dX1_remember_38 : decode cX1_remember 38 = .ok (.invokevirtual 73, 3) := by decide +kernel
theorem dX1_remember_41 : decode cX1_remember 41 = .ok (.iinc 1 1, 3) := by decide +kernel
theorem dX1_remember_44 : decode cX1_remember 44 = .ok (.goto (-25), 3) := by decide +kernel
theorem dX1_remember_47 : decode cX1_remember 47 = .ok (.aload_n 0, 1) := by decide +kernel
theorem dX1_remember_48 : decode cX1_remember 48 = .ok (.getfield 34, 3) := by decide +kernel
theorem dX1_remember_51 : decode cX1_remember 51 = .ok (.aload_n 0, 1) := by decide +kernel
theorem dX1_remember_52 : decode cX1_remember 52 = .ok (.getfield 12, 3) := by decide +kernel
theorem dX1_remember_55 : decode cX1_remember 55 = .ok (.getfield 76, 3) := by decide +kernel
theorem dX1_remember_58 : decode cX1_remember 58 = .ok (.invokevirtual 73, 3) := by decide +kernel
theorem dX1_remember_61 : decode cX1_remember 61 = .ok (.aload_n 0, 1) := by decide +kernel
theorem dX1_remember_62 : decode cX1_remember 62 = .ok (.getfield 34, 3) := by decide +kernel
theorem dX1_remember_65 : decode cX1_remember 65 = .ok (.aload_n 0, 1) := by decide +kernel
theorem dX1_remember_66 : decode cX1_remember 66 = .ok (.getfield 12, 3) := by decide +kernel
theorem dX1_remember_69 : decode cX1_remember 69 = .ok (.getfield 80, 3) := by decide +kernel
theorem dX1_remember_72 : decode cX1_remember 72 = .ok (.invokevirtual 73, 3) := by decide +kernel
theorem dX1_remember_75 : decode cX1_remember 75 = .ok (.aload_n 0, 1) := by decide +kernel
theorem dX1_remember_76 : decode cX1_remember 76 = .ok (.getfield 34, 3) := by decide +kernel
theorem dX1_remember_79 : decode cX1_remember 79 = .ok (.aload_n 0, 1) := by decide +kernel
theorem dX1_remember_80 : decode cX1_remember 80 = .ok (.getfield 12, 3) := by decide +kernel
theorem dX1_remember_83 : decode cX1_remember 83 = .ok (.getfield 83, 3) := by decide +kernel
theorem dX1_remember_86 : decode cX1_remember 86 = .ok (.invokevirtual 73, 3) := by decide +kernel
theorem dX1_remember_89 : decode cX1_remember 89 = .ok (.return_, 1) := by decide +kernel
set_option maxRecDepth 20000 in
theorem ggX1_goBack_X4_size : GoodIn wsX1_goBack wsX4_size := goodIn_r _ [11, 12, 13, 40, 41, 42] (by decide +kernel) (by decide +kernel)
set_option maxRecDepth 20000 in
theorem gX1_goBack_X4_size : GoodIn wsX1_goBack (wsV RX1 86 RX4 yX4_size wsX4_size) := goodIn_app (goodIn_of _ (by decide +kernel)) ggX1_goBack_X4_size
set_option maxRecDepth 20000 in
theorem ggX1_goBack_X4_cell : GoodIn wsX1_goBack wsX4_cell := goodIn_r _ [17, 12, 13, 18, 40, 41, 42] (by decide +kernel) (by decide +kernel)
set_option maxRecDepth 20000 in
theorem gX1_goBack_X4_cell : GoodIn wsX1_goBack (wsV RX1 90 RX4 yX4_cell wsX4_cell) := goodIn_app (goodIn_of _ (by decide +kernel)) ggX1_goBack_X4_cell
set_option maxRecDepth 20000 in
theorem ggX1_goBack_X4_dropLast : GoodIn wsX1_goBack wsX4_dropLast := goodIn_r _ [22, 13, 12, 23, 24, 25, 26, 40, 41, 42] (by decide +kernel) (by decide +kernel)
set_option maxRecDepth 20000 in
theorem gX1_goBack_X4_dropLast : GoodIn wsX1_goBack (wsV RX1 94 RX4 yX4_dropLast wsX4_dropLast) := goodIn_app (goodIn_of _ (by decide +kernel)) ggX1_goBack_X4_dropLast
theorem dX1_goBack_0 : decode cX1_goBack 0 = .ok (.aload_n 0, 1) := by decide +kernel
theorem dX1_goBack_1 : decode cX1_goBack 1 = .ok (.getfield 34, 3) := by decide +kernel
theorem dX1_goBack_4 : decode cX1_goBack 4 = .ok (.invokevirtual 86, 3) := by decide +kernel
theorem dX1_goBack_7 : decode cX1_goBack 7 = .ok (.iconst 1, 1) := by decide +kernel
theorem dX1_goBack_8 : decode cX1_goBack 8 = .ok (.isub, 1) := by decide +kernel
theorem dX1_goBack_9 : decode cX1_goBack 9 = .ok (.istore_n 1, 1) := by decide +kernel
theorem dX1_goBack_10 : decode cX1_goBack 10 = .ok (.iload_n 1, 1) := by decide +kernel
theorem dX1_goBack_11 : decode cX1_goBack 11 = .ok (.ifCond .ge 4, 3) := by decide +kernel
theorem dX1_goBack_14 : decode cX1_goBack 14 = .ok (.return_, 1) := by decide +kernel
theorem dX1_goBack_15 : decode cX1_goBack 15 = .ok (.iconst 0, 1) := by decide +kernel
theorem dX1_goBack_16 : decode cX1_goBack 16 = .ok (.istore_n 2, 1) := by decide +kernel
theorem dX1_goBack_17 : decode cX1_goBack 17 = .ok (.iload_n 2, 1) := by decide +kernel
theorem dX1_goBack_18 : decode cX1_goBack 18 = .ok (.bipush 6, 2) := by decide +kernel
theorem dX1_goBack_20 : decode cX1_goBack 20 = .ok (.if_icmp .ge 27, 3) := by decide +kernel
theorem dX1_goBack_23 : decode cX1_goBack 23 = .ok (.aload_n 0, 1) := by decide +kernel
theorem dX1_goBack_24 : decode cX1_goBack 24 = .ok (.getfield 12, 3) := by decide +kernel
theorem dX1_goBack_27 : decode cX1_goBack 27 = .ok (.getfield 70, 3) := by decide +kernel
theorem dX1_goBack_30 : decode cX1_goBack 30 = .ok (.iload_n 2, 1) := by decide +kernel
theorem dX1_goBack_31 : decode cX1_goBack 31 = .ok (.aload_n 0, 1) := by decide +kernel
theorem dX1_goBack_32 : decode cX1_goBack 32 = .ok (.getfield 34, 3) := by decide +kernel
theorem dX1_goBack_35 : decode cX1_goBack 35 = .ok (.iload_n 1, 1) := by decide +kernel
theorem dX1_goBack_36 : decode cX1_goBack 36 = .ok (.iload_n 2, 1) := by decide +kernel
theorem dX1_goBack_37 : decode cX1_goBack 37 = .ok (.invokevirtual 90, 3) := by decide +kernel
theorem dX1_goBack_40 : decode cX1_goBack 40 = .ok (.iastore, 1) := by decide +kernel
theorem dX1_goBack_41 : decode cX1_goBack 41 = .ok (.iinc 2 1, 3) := by decide +kernel
theorem dX1_goBack_44 : decode cX1_goBack 44 = .ok (.goto (-27), 3) := by decide +kernel
theorem dX1_goBack_47 : decode cX1_goBack 47 = .ok (.aload_n 0, 1) := by decide +kernel
theorem dX1_goBack_48 : decode cX1_goBack 48 = .ok (.getfield 12, 3) := by decide +kernel
theorem dX1_goBack_51 : decode cX1_goBack 51 = .ok (.aload_n 0, 1) := by decide +kernel
theorem dX1_goBack_52 : decode cX1_goBack 52 = .ok (.getfield 34, 3) := by decide +kernel
theorem dX1_goBack_55 : decode cX1_goBack 55 = .ok (.iload_n 1, 1) := by decide +kernel
theorem dX1_goBack_56 : decode cX1_goBack 56 = .ok (.bipush 6, 2) := by decide +kernel
theorem dX1_goBack_58 : decode cX1_goBack 58 = .ok (.invokevirtual 90, 3) := by decide +kernel
theorem dX1_goBack_61 : decode cX1_goBack 61 = .ok (.putfield 76, 3) := by decide +kernel
theorem dX1_goBack_64 : decode cX1_goBack 64 = .ok (.aload_n 0, 1) := by decide +kernel
theorem dX1_goBack_65 : decode cX1_goBack 65 = .ok (.getfield 12, 3) := by decide +kernel
theorem dX1_goBack_68 : decode cX1_goBack 68 = .ok (.aload_n 0, 1) := by decide +kernel
theorem dX1_goBack_69 : decode cX1_goBack 69 = .ok (.getfield 34, 3) := by decide +kernel
theorem dX1_goBack_72 : decode cX1_goBack 72 = .ok (.iload_n 1, 1) := by decide +kernel
theorem dX1_goBack_73 : decode cX1_goBack 73 = .ok (.bipush 7, 2) := by decide +kernel
theorem dX1_goBack_75 : decode cX1_goBack 75 = .ok (.invokevirtual 90, 3) := by decide +kernel
theorem dX1_goBack_78 : decode cX1_goBack 78 = .ok (.putfield 80, 3) := by decide +kernel
theorem dX1_goBack_81 : decode cX1_goBack 81 = .ok (.aload_n 0, 1) := by decide +kernel
theorem dX1_goBack_82 : decode cX1_goBack 82 = .ok (.getfield 12, 3) := by decide +kernel
theorem dX1_goBack_85 : decode cX1_goBack 85 = .ok (.aload_n 0, 1) := by decide +kernel
theorem dX1_goBack_86 : decode cX1_goBack 86 = .ok (.getfield 34, 3) := by decide +kernel
theorem dX1_goBack_89 : decode cX1_goBack 89 = .ok (.iload_n 1, 1) := by decide +kernel
theorem dX1_goBack_90 : decode cX1_goBack 90 = .ok (.bipush 8, 2) := by decide +kernel
theorem dX1_goBack_92 : decode cX1_goBack 92 = .ok (.invokevirtual 90, 3) := by decide +kernel
theorem dX1_goBack_95 : decode cX1_goBack 95 = .ok (.putfield 83, 3) := by decide +kernel
theorem dX1_goBack_98 : decode cX1_goBack 98 = .ok (.aload_n 0, 1) := by decide +kernel
theorem dX1_goBack_99 : decode cX1_goBack 99 = .ok (.getfield 34, 3) := by decide +kernel
theorem dX1_goBack_102 : decode cX1_goBack 102 = .ok (.invokevirtual 94, 3) := by decide +kernel
theorem dX1_goBack_105 : decode cX1_goBack 105 = .ok (.return_, 1) := by decide +kernel
theorem dX2_init_0 : decode cX2_init 0 = .ok (.aload_n 0, 1) := by decide +kernel
theorem dX2_init_1 : decode cX2_init 1 = .ok (.invokespecial 3, 3) := by decide +kernel
theorem dX2_init_4 : decode cX2_init 4 = .ok (.aload_n 0, 1) := by decide +kernel
theorem dX2_init_5 : decode cX2_init 5 = .ok (.bipush 6, 2) := by decide +kernel
theorem dX2_init_7 : decode cX2_init 7 = .ok (.newarray .int, 2) := by decide +kernel
theorem dX2_init_9 : decode cX2_init 9 = .ok (.putfield 9, 3) := by decide +kernel
theorem dX2_init_12 : decode cX2_init 12 = .ok (.aload_n 0, 1) := by decide +kernel
theorem dX2_init_13 : decode cX2_init 13 = .ok (.bipush 6, 2) := by decide +kernel
theorem dX2_init_15 : decode cX2_init 15 = .ok (.newarray .int, 2) := by decide +kernel
theorem dX2_init_17 : decode cX2_init 17 = .ok (.putfield 15, 3) := by decide +kernel
theorem dX2_init_20 : decode cX2_init 20 = .ok (.aload_n 0, 1) := by decide +kernel
theorem dX2_init_21 : decode cX2_init 21 = .ok (.bipush 6, 2) := by decide +kernel
theorem dX2_init_23 : decode cX2_init 23 = .ok (.newarray .int, 2) := by decide +kernel
theorem dX2_init_25 : decode cX2_init 25 = .ok (.putfield 18, 3) := by decide +kernel
theorem dX2_init_28 : decode cX2_init 28 = .ok (.aload_n 0, 1) := by decide +kernel
theorem dX2_init_29 : decode cX2_init 29 = .ok (.iconst (-1), 1) := by decide +kernel
theorem dX2_init_30 : decode cX2_init 30 = .ok (.putfield 21, 3) := by decide +kernel
theorem dX2_init_33 : decode cX2_init 33 = .ok (.return_, 1) := by decide +kernel
theorem dX2_begin_0 : decode cX2_begin 0 = .ok (.aload_n 0, 1) := by decide +kernel
theorem dX2_begin_1 : decode cX2_begin 1 = .ok (.iload_n 1, 1) := by decide +kernel
theorem dX2_begin_2 : decode cX2_begin 2 = .ok (.putfield 25, 3) := by decide +kernel
theorem dX2_begin_5 : decode cX2_begin 5 = .ok (.aload_n 0, 1) := by decide +kernel
theorem dX2_begin_6 : decode cX2_begin 6 = .ok (.iconst 0, 1) := by decide +kernel
theorem dX2_begin_7 : decode cX2_begin 7 = .ok (.putfield 28, 3) := by decide +kernel
theorem dX2_begin_10 : decode cX2_begin 10 = .ok (.aload_n 0, 1) := by decide +kernel
theorem dX2_begin_11 : decode cX2_begin 11 = .ok (.iconst (-1), 1) := by decide +kernel
theorem dX2_begin_12 : decode cX2_begin 12 = .ok (.putfield 21, 3) := by decide +kernel
theorem dX2_begin_15 : decode cX2_begin 15 = .ok (.aload_n 0, 1) := by decide +kernel
theorem dX2_begin_16 : decode cX2_begin 16 = .ok (.iconst 0, 1) := by decide +kernel
theorem dX2_begin_17 : decode cX2_begin 17 = .ok (.putfield 31, 3) := by decide +kernel
theorem dX2_begin_20 : decode cX2_begin 20 = .ok (.aload_n 0, 1) := by decide +kernel
theorem dX2_begin_21 : decode cX2_begin 21 = .ok (.iconst 0, 1) := by decide +kernel
theorem dX2_begin_22 : decode cX2_begin 22 = .ok (.putfield 34, 3) := by decide +kernel
theorem dX2_begin_25 : decode cX2_begin 25 = .ok (.return_, 1) := by decide +kernel
theorem dX2_copy_0 : decode cX2_copy 0 = .ok (.aload_n 0, 1) := by decide +kernel
theorem dX2_copy_1 : decode cX2_copy 1 = .ok (.aload_n 1, 1) := by decide +kernel
theorem dX2_copy_2 : decode cX2_copy 2 = .ok (.getfield 25, 3) := by decide +kernel
theorem dX2_copy_5 : decode cX2_copy 5 = .ok (.putfield 25, 3) := by decide +kernel
theorem dX2_copy_8 : decode cX2_copy 8 = .ok (.aload_n 0, 1) := by decide +kernel
theorem dX2_copy_9 : decode cX2_copy 9 = .ok (.aload_n 1, 1) := by decide +kernel
theorem dX2_copy_10 : decode cX2_copy 10 = .ok (.getfield 28, 3) := by decide +kernel
theorem dX2_copy_13 : decode cX2_copy 13 = .ok (.putfield 28, 3) := by decide +kernel
theorem dX2_copy_16 : decode cX2_copy 16 = .ok (.aload_n 0, 1) := by decide +kernel
theorem dX2_copy_17 : decode cX2_copy 17 = .ok (.aload_n 1, 1) := by decide +kernel
theorem dX2_copy_18 : decode cX2_copy 18 = .ok (.getfield 21, 3) := by decide +kernel
theorem dX2_copy_21 : decode cX2_copy 21 = .ok (.putfield 21, 3) := by decide +kernel
theorem dX2_copy_24 : decode cX2_copy 24 = .ok (.aload_n 0, 1) := by decide +kernel
theorem dX2_copy_25 : decode cX2_copy 25 = .ok (.aload_n 1, 1) := by decide +kernel
theorem dX2_copy_26 : decode cX2_copy 26 = .ok (.getfield 31, 3) := by decide +kernel
theorem dX2_copy_29 : decode cX2_copy 29 = .ok (.putfield 31, 3) := by decide +kernel
theorem dX2_copy_32 : decode cX2_copy 32 = .ok (.aload_n 0, 1) := by decide +kernel
theorem dX2_copy_33 : decode cX2_copy 33 = .ok (.aload_n 1, 1) := by decide +kernel
theorem dX2_copy_34 : decode cX2_copy 34 = .ok (.getfield 34, 3) := by decide +kernel
theorem dX2_copy_37 : decode cX2_copy 37 = .ok (.putfield 34, 3) := by decide +kernel
theorem dX2_copy_40 : decode cX2_copy 40 = .ok (.aload_n 1, 1) := by decide +kernel
theorem dX2_copy_41 : decode cX2_copy 41 = .ok (.getfield 9, 3) := by decide +kernel
theorem dX2_copy_44 : decode cX2_copy 44 = .ok (.iconst 0, 1) := by decide +kernel
theorem dX2_copy_45 : decode cX2_copy 45 = .ok (.aload_n 0, 1) := by decide +kernel
theorem dX2_copy_46 : decode cX2_copy 46 = .ok (.getfield 9, 3) := by decide +kernel
theorem dX2_copy_49 : decode cX2_copy 49 = .ok (.iconst 0, 1) := by decide +kernel
theorem dX2_copy_50 : decode cX2_copy 50 = .ok (.bipush 6, 2) := by decide +kernel
theorem dX2_copy_52 : decode cX2_copy 52 = .ok (.invokestatic 37, 3) := by decide +kernel
theorem dX2_copy_55 : decode cX2_copy 55 = .ok (.aload_n 1, 1) := by decide +kernel
theorem dX2_copy_56 : decode cX2_copy 56 = .ok (.getfield 15, 3) := by decide +kernel
theorem dX2_copy_59 : decode cX2_copy 59 = .ok (.iconst 0, 1) := by decide +kernel
theorem dX2_copy_60 : decode cX2_copy 60 = .ok (.aload_n 0, 1) := by decide +kernel
theorem dX2_copy_61 : decode cX2_copy 61 = .ok (.getfield 15, 3) := by decide +kernel
theorem dX2_copy_64 : decode cX2_copy 64 = .ok (.iconst 0, 1) := by decide +kernel
theorem dX2_copy_65 : decode cX2_copy 65 = .ok (.bipush 6, 2) := by decide +kernel
theorem dX2_copy_67 : decode cX2_copy 67 = .ok (.invokestatic 37, 3) := by decide +kernel
theorem dX2_copy_70 : decode cX2_copy 70 = .ok (.aload_n 1, 1) := by decide +kernel
theorem dX2_copy_71 : decode cX2_copy 71 = .ok (.getfield 18, 3) := by decide +kernel
theorem dX2_copy_74 : decode cX2_copy 74 = .ok (.iconst 0, 1) := by decide +kernel
theorem dX2_copy_75 : decode cX2_copy 75 = .ok (.aload_n 0, 1) := by decide +kernel
theorem dX2_copy_76 : decode cX2_copy 76 = .ok (.getfield 18, 3) := by decide +kernel
theorem dX2_copy_79 : decode cX2_copy 79 = .ok (.iconst 0, 1) := by decide +kernel
theorem dX2_copy_80 : decode cX2_copy 80 = .ok (.bipush 6, 2) := by decide +kernel
theorem dX2_copy_82 : decode cX2_copy 82 = .ok (.invokestatic 37, 3) := by decide +kernel
theorem dX2_copy_85 : decode cX2_copy 85 = .ok (.return_, 1) := by decide +kernel
set_option maxRecDepth 20000 in
theorem ggX2_lineUp_X2_begin : GoodIn wsX2_lineUp wsX2_begin := goodIn_r _ [10, 1, 3, 11, 12, 2, 21, 22, 23, 24, 25, 26, 27, 28] (by decide +kernel) (by decide +kernel)
set_option maxRecDepth 20000 in
theorem gX2_lineUp_X2_begin : GoodIn wsX2_lineUp (wsV RX2 43 RX2 yX2_begin wsX2_begin) := goodIn_app (goodIn_of _ (by decide +kernel)) ggX2_lineUp_X2_begin
set_option maxRecDepth 20000 in
theorem ggX2_lineUp_X5_within : GoodIn wsX2_lineUp wsX5_within := goodIn_r _ [15] (by decide +kernel) (by decide +kernel)
set_option maxRecDepth 20000 in
theorem gX2_lineUp_X5_within_n47 : GoodIn wsX2_lineUp (wsX5_within) := ggX2_lineUp_X5_within
set_option maxRecDepth 20000 in
theorem ggX2_lineUp_X2_join : GoodIn wsX2_lineUp wsX2_join := goodIn_r _ [19, 3, 4, 5, 20, 11, 21, 22, 23, 24, 25, 26, 27, 28] (by decide +kernel) (by decide +kernel)
set_option maxRecDepth 20000 in
theorem gX2_lineUp_X2_join : GoodIn wsX2_lineUp (wsV RX2 51 RX2 yX2_join wsX2_join) := goodIn_app (goodIn_of _ (by decide +kernel)) ggX2_lineUp_X2_join
theorem dX2_lineUp_0 : decode cX2_lineUp 0 = .ok (.aload_n 0, 1) := by decide +kernel
theorem dX2_lineUp_1 : decode cX2_lineUp 1 = .ok (.aload_n 1, 1) := by decide +kernel
theorem dX2_lineUp_2 : decode cX2_lineUp 2 = .ok (.getfield 25, 3) := by decide +kernel
theorem dX2_lineUp_5 : decode cX2_lineUp 5 = .ok (.invokevirtual 43, 3) := by decide +kernel
theorem dX2_lineUp_8 : decode cX2_lineUp 8 = .ok (.aload_n 0, 1) := by decide +kernel
theorem dX2_lineUp_9 : decode cX2_lineUp 9 = .ok (.aload_n 1, 1) := by decide +kernel
theorem dX2_lineUp_10 : decode cX2_lineUp 10 = .ok (.getfield 34, 3) := by decide +kernel
theorem dX2_lineUp_13 : decode cX2_lineUp 13 = .ok (.putfield 34, 3) := by decide +kernel
theorem dX2_lineUp_16 : decode cX2_lineUp 16 = .ok (.iconst 0, 1) := by decide +kernel
theorem dX2_lineUp_17 : decode cX2_lineUp 17 = .ok (.istore_n 3, 1) := by decide +kernel
theorem dX2_lineUp_18 : decode cX2_lineUp 18 = .ok (.iload_n 3, 1) := by decide +kernel
theorem dX2_lineUp_19 : decode cX2_lineUp 19 = .ok (.aload_n 1, 1) := by decide +kernel
theorem dX2_lineUp_20 : decode cX2_lineUp 20 = .ok (.getfield 28, 3) := by decide +kernel
theorem dX2_lineUp_23 : decode cX2_lineUp 23 = .ok (.if_icmp .ge 54, 3) := by decide +kernel
theorem dX2_lineUp_26 : decode cX2_lineUp 26 = .ok (.iload_n 3, 1) := by decide +kernel
theorem dX2_lineUp_27 : decode cX2_lineUp 27 = .ok (.aload_n 2, 1) := by decide +kernel
theorem dX2_lineUp_28 : decode cX2_lineUp 28 = .ok (.arraylength, 1) := by decide +kernel
theorem dX2_lineUp_29 : decode cX2_lineUp 29 = .ok (.if_icmp .ge 48, 3) := by decide +kernel
theorem dX2_lineUp_32 : decode cX2_lineUp 32 = .ok (.aload_n 2, 1) := by decide +kernel
theorem dX2_lineUp_33 : decode cX2_lineUp 33 = .ok (.iload_n 3, 1) := by decide +kernel
theorem dX2_lineUp_34 : decode cX2_lineUp 34 = .ok (.iaload, 1) := by decide +kernel
theorem dX2_lineUp_35 : decode cX2_lineUp 35 = .ok (.istore 4, 2) := by decide +kernel
theorem dX2_lineUp_37 : decode cX2_lineUp 37 = .ok (.iload 4, 2) := by decide +kernel
theorem dX2_lineUp_39 : decode cX2_lineUp 39 = .ok (.iconst 0, 1) := by decide +kernel
theorem dX2_lineUp_40 : decode cX2_lineUp 40 = .ok (.aload_n 1, 1) := by decide +kernel
theorem dX2_lineUp_41 : decode cX2_lineUp 41 = .ok (.getfield 28, 3) := by decide +kernel
theorem dX2_lineUp_44 : decode cX2_lineUp 44 = .ok (.iconst 1, 1) := by decide +kernel
theorem dX2_lineUp_45 : decode cX2_lineUp 45 = .ok (.isub, 1) := by decide +kernel
theorem dX2_lineUp_46 : decode cX2_lineUp 46 = .ok (.invokestatic 47, 3) := by decide +kernel
theorem dX2_lineUp_49 : decode cX2_lineUp 49 = .ok (.ifCond .eq 22, 3) := by decide +kernel
theorem dX2_lineUp_52 : decode cX2_lineUp 52 = .ok (.aload_n 0, 1) := by decide +kernel
theorem dX2_lineUp_53 : decode cX2_lineUp 53 = .ok (.aload_n 1, 1) := by decide +kernel
theorem dX2_lineUp_54 : decode cX2_lineUp 54 = .ok (.getfield 9, 3) := by decide +kernel
theorem dX2_lineUp_57 : decode cX2_lineUp 57 = .ok (.iload 4, 2) := by decide +kernel
theorem dX2_lineUp_59 : decode cX2_lineUp 59 = .ok (.iaload, 1) := by decide +kernel
theorem dX2_lineUp_60 : decode cX2_lineUp 60 = .ok (.aload_n 1, 1) := by decide +kernel
theorem dX2_lineUp_61 : decode cX2_lineUp 61 = .ok (.getfield 15, 3) := by decide +kernel
theorem dX2_lineUp_64 : decode cX2_lineUp 64 = .ok (.iload 4, 2) := by decide +kernel
theorem dX2_lineUp_66 : decode cX2_lineUp 66 = .ok (.iaload, 1) := by decide +kernel
theorem dX2_lineUp_67 : decode cX2_lineUp 67 = .ok (.invokevirtual 51, 3) := by decide +kernel
theorem dX2_lineUp_70 : decode cX2_lineUp 70 = .ok (.pop, 1) := by decide +kernel
theorem dX2_lineUp_71 : decode cX2_lineUp 71 = .ok (.iinc 3 1, 3) := by decide +kernel
theorem dX2_lineUp_74 : decode cX2_lineUp 74 = .ok (.goto (-56), 3) := by decide +kernel
theorem dX2_lineUp_77 : decode cX2_lineUp 77 = .ok (.return_, 1) := by decide +kernel
theorem dX2_join_0 : decode cX2_join 0 = .ok (.aload_n 0, 1) := by decide +kernel
theorem dX2_join_1 : decode cX2_join 1 = .ok (.getfield 28, 3) := by decide +kernel
theorem dX2_join_4 : decode cX2_join 4 = .ok (.bipush 6, 2) := by decide +kernel
theorem dX2_join_6 : decode cX2_join 6 = .ok (.if_icmp .lt 5, 3) := by decide +kernel
theorem dX2_join_9 : decode cX2_join 9 = .ok (.iconst (-1), 1) := by decide +kernel
theorem dX2_join_10 : decode cX2_join 10 = .ok (.ireturn, 1) := by decide +kernel
theorem dX2_join_11 : decode cX2_join 11 = .ok (.aload_n 0, 1) := by decide +kernel
theorem dX2_join_12 : decode cX2_join 12 = .ok (.getfield 28, 3) := by decide +kernel
theorem dX2_join_15 : decode cX2_join 15 = .ok (.istore_n 3, 1) := by decide +kernel
theorem dX2_join_16 : decode cX2_join 16 = .ok (.aload_n 0, 1) := by decide +kernel
theorem dX2_join_17 : decode cX2_join 17 = .ok (.getfield 9, 3) := by decide +kernel
theorem dX2_join_20 : decode cX2_join 20 = .ok (.iload_n 3, 1) := by decide +kernel
theorem dX2_join_21 : decode cX2_join 21 = .ok (.iload_n 1, 1) := by decide +kernel
theorem dX2_join_22 : decode cX2_join 22 = .ok (.iastore, 1) := by decide +kernel
theorem dX2_join_23 : decode cX2_join 23 = .ok (.aload_n 0, 1) := by decide +kernel
theorem dX2_join_24 : decode cX2_join 24 = .ok (.getfield 15, 3) := by decide +kernel
theorem dX2_join_27 : decode cX2_join 27 = .ok (.iload_n 3, 1) := by decide +kernel
theorem dX2_join_28 : decode cX2_join 28 = .ok (.iload_n 2, 1) := by decide +kernel
theorem dX2_join_29 : decode cX2_join 29 = .ok (.iastore, 1) := by decide +kernel
theorem dX2_join_30 : decode cX2_join 30 = .ok (.aload_n 0, 1) := by decide +kernel
theorem dX2_join_31 : decode cX2_join 31 = .ok (.getfield 18, 3) := by decide +kernel
theorem dX2_join_34 : decode cX2_join 34 = .ok (.iload_n 3, 1) := by decide +kernel
theorem dX2_join_35 : decode cX2_join 35 = .ok (.iconst 0, 1) := by decide +kernel
theorem dX2_join_36 : decode cX2_join 36 = .ok (.iastore, 1) := by decide +kernel
theorem dX2_join_37 : decode cX2_join 37 = .ok (.aload_n 0, 1) := by decide +kernel
theorem dX2_join_38 : decode cX2_join 38 = .ok (.dup, 1) := by decide +kernel
theorem dX2_join_39 : decode cX2_join 39 = .ok (.getfield 28, 3) := by decide +kernel
theorem dX2_join_42 : decode cX2_join 42 = .ok (.iconst 1, 1) := by decide +kernel
theorem dX2_join_43 : decode cX2_join 43 = .ok (.iadd, 1) := by decide +kernel
theorem dX2_join_44 : decode cX2_join 44 = .ok (.putfield 28, 3) := by decide +kernel
theorem dX2_join_47 : decode cX2_join 47 = .ok (.aload_n 0, 1) := by decide +kernel
theorem dX2_join_48 : decode cX2_join 48 = .ok (.getfield 21, 3) := by decide +kernel
theorem dX2_join_51 : decode cX2_join 51 = .ok (.ifCond .ge 8, 3) := by decide +kernel
theorem dX2_join_54 : decode cX2_join 54 = .ok (.aload_n 0, 1) := by decide +kernel
theorem dX2_join_55 : decode cX2_join 55 = .ok (.iload_n 3, 1) := by decide +kernel
theorem dX2_join_56 : decode cX2_join 56 = .ok (.putfield 21, 3) := by decide +kernel
theorem dX2_join_59 : decode cX2_join 59 = .ok (.iload_n 3, 1) := by decide +kernel
theorem dX2_join_60 : decode cX2_join 60 = .ok (.ireturn, 1) := by decide +kernel
theorem dX2_isDone_0 : decode cX2_isDone 0 = .ok (.aload_n 0, 1) := by decide +kernel
theorem dX2_isDone_1 : decode cX2_isDone 1 = .ok (.getfield 21, 3) := by decide +kernel
theorem dX2_isDone_4 : decode cX2_isDone 4 = .ok (.ifCond .lt 14, 3) := by decide +kernel
theorem dX2_isDone_7 : decode cX2_isDone 7 = .ok (.aload_n 0, 1) := by decide +kernel
theorem dX2_isDone_8 : decode cX2_isDone 8 = .ok (.getfield 21, 3) := by decide +kernel
theorem dX2_isDone_11 : decode cX2_isDone 11 = .ok (.aload_n 0, 1) := by decide +kernel
theorem dX2_isDone_12 : decode cX2_isDone 12 = .ok (.getfield 28, 3) := by decide +kernel
theorem dX2_isDone_15 : decode cX2_isDone 15 = .ok (.if_icmp .lt 7, 3) := by decide +kernel
theorem dX2_isDone_18 : decode cX2_isDone 18 = .ok (.iconst 1, 1) := by decide +kernel
theorem dX2_isDone_19 : decode cX2_isDone 19 = .ok (.goto 4, 3) := by decide +kernel
theorem dX2_isDone_22 : decode cX2_isDone 22 = .ok (.iconst 0, 1) := by decide +kernel
theorem dX2_isDone_23 : decode cX2_isDone 23 = .ok (.ireturn, 1) := by decide +kernel
set_option maxRecDepth 20000 in
theorem ggX2_told_X5_within : GoodIn wsX2_told wsX5_within := goodIn_r _ [7] (by decide +kernel) (by decide +kernel)
set_option maxRecDepth 20000 in
theorem gX2_told_X5_within_n47 : GoodIn wsX2_told (wsX5_within) := ggX2_told_X5_within
theorem dX2_told_0 : decode cX2_told 0 = .ok (.iload_n 1, 1) := by decide +kernel
theorem dX2_told_1 : decode cX2_told 1 = .ok (.iconst 0, 1) := by decide +kernel
theorem dX2_told_2 : decode cX2_told 2 = .ok (.aload_n 0, 1) := by decide +kernel
theorem dX2_told_3 : decode cX2_told 3 = .ok (.getfield 28, 3) := by decide +kernel
theorem dX2_told_6 : decode cX2_told 6 = .ok (.iconst 1, 1) := by decide +kernel
theorem dX2_told_7 : decode cX2_told 7 = .ok (.isub, 1) := by decide +kernel
theorem dX2_told_8 : decode cX2_told 8 = .ok (.invokestatic 47, 3) := by decide +kernel
theorem dX2_told_11 : decode cX2_told 11 = .ok (.ifCond .ne 5, 3) := by decide +kernel
theorem dX2_told_14 : decode cX2_told 14 = .ok (.iconst (-1), 1) := by decide +kernel
theorem dX2_told_15 : decode cX2_told 15 = .ok (.ireturn, 1) := by decide +kernel
theorem dX2_told_16 : decode cX2_told 16 = .ok (.iload_n 2, 1) := by decide +kernel
theorem dX2_told_17 : decode cX2_told 17 = .ok (.ifCond .ne 10, 3) := by decide +kernel
theorem dX2_told_20 : decode cX2_told 20 = .ok (.aload_n 0, 1) := by decide +kernel
theorem dX2_told_21 : decode cX2_told 21 = .ok (.getfield 9, 3) := by decide +kernel
theorem dX2_told_24 : decode cX2_told 24 = .ok (.iload_n 1, 1) := by decide +kernel
theorem dX2_told_25 : decode cX2_told 25 = .ok (.iaload, 1) := by decide +kernel
theorem dX2_told_26 : decode cX2_told 26 = .ok (.ireturn, 1) := by decide +kernel
theorem dX2_told_27 : decode cX2_told 27 = .ok (.iload_n 2, 1) := by decide +kernel
theorem dX2_told_28 : decode cX2_told 28 = .ok (.iconst 1, 1) := by decide +kernel
theorem dX2_told_29 : decode cX2_told 29 = .ok (.if_icmp .ne 12, 3) := by decide +kernel
theorem dX2_told_32 : decode cX2_told 32 = .ok (.aload_n 0, 1) := by decide +kernel
theorem dX2_told_33 : decode cX2_told 33 = .ok (.getfield 15, 3) := by decide +kernel
theorem dX2_told_36 : decode cX2_told 36 = .ok (.iload_n 1, 1) := by decide +kernel
theorem dX2_told_37 : decode cX2_told 37 = .ok (.iaload, 1) := by decide +kernel
theorem dX2_told_38 : decode cX2_told 38 = .ok (.goto 9, 3) := by decide +kernel
theorem dX2_told_41 : decode cX2_told 41 = .ok (.aload_n 0, 1) := by decide +kernel
theorem dX2_told_42 : decode cX2_told 42 = .ok (.getfield 18, 3) := by decide +kernel
theorem dX2_told_45 : decode cX2_told 45 = .ok (.iload_n 1, 1) := by decide +kernel
theorem dX2_told_46 : decode cX2_told 46 = .ok (.iaload, 1) := by decide +kernel
theorem dX2_told_47 : decode cX2_told 47 = .ok (.ireturn, 1) := by decide +kernel
set_option maxRecDepth 20000 in
theorem ggX2_howManyAt_X5_within : GoodIn wsX2_howManyAt wsX5_within := goodIn_r _ [5] (by decide +kernel) (by decide +kernel)
set_option maxRecDepth 20000 in
theorem gX2_howManyAt_X5_within_n47 : GoodIn wsX2_howManyAt (wsX5_within) := ggX2_howManyAt_X5_within
theorem dX2_howManyAt_0 : decode cX2_howManyAt 0 = .ok (.iconst 0, 1) := by decide +kernel
theorem dX2_howManyAt_1 : decode cX2_howManyAt 1 = .ok (.istore_n 3, 1) := by decide +kernel
theorem dX2_howManyAt_2 : decode cX2_howManyAt 2 = .ok (.iconst 0, 1) := by decide +kernel
theorem dX2_howManyAt_3 : decode cX2_howManyAt 3 = .ok (.istore 4, 2) := by decide +kernel
theorem dX2_howManyAt_5 : decode cX2_howManyAt 5 = .ok (.iload 4, 2) := by decide +kernel
theorem dX2_howManyAt_7 : decode cX2_howManyAt 7 = .ok (.aload_n 0, 1) := by decide +kernel
theorem dX2_howManyAt_8 : decode cX2_howManyAt 8 = .ok (.getfield 28, 3) := by decide +kernel
theorem dX2_howManyAt_11 : decode cX2_howManyAt 11 = .ok (.if_icmp .ge 27, 3) := by decide +kernel
theorem dX2_howManyAt_14 : decode cX2_howManyAt 14 = .ok (.aload_n 0, 1) := by decide +kernel
theorem dX2_howManyAt_15 : decode cX2_howManyAt 15 = .ok (.getfield 18, 3) := by decide +kernel
theorem dX2_howManyAt_18 : decode cX2_howManyAt 18 = .ok (.iload 4, 2) := by decide +kernel
theorem dX2_howManyAt_20 : decode cX2_howManyAt 20 = .ok (.iaload, 1) := by decide +kernel
theorem dX2_howManyAt_21 : decode cX2_howManyAt 21 = .ok (.iload_n 1, 1) := by decide +kernel
theorem dX2_howManyAt_22 : decode cX2_howManyAt 22 = .ok (.iload_n 2, 1) := by decide +kernel
theorem dX2_howManyAt_23 : decode cX2_howManyAt 23 = .ok (.invokestatic 47, 3) := by decide +kernel
theorem dX2_howManyAt_26 : decode cX2_howManyAt 26 = .ok (.ifCond .eq 6, 3) := by decide +kernel
theorem dX2_howManyAt_29 : decode cX2_howManyAt 29 = .ok (.iinc 3 1, 3) := by decide +kernel
theorem dX2_howManyAt_32 : decode cX2_howManyAt 32 = .ok (.iinc 4 1, 3) := by decide +kernel
theorem dX2_howManyAt_35 : decode cX2_howManyAt 35 = .ok (.goto (-30), 3) := by decide +kernel
theorem dX2_howManyAt_38 : decode cX2_howManyAt 38 = .ok (.iload_n 3, 1) := by decide +kernel
theorem dX2_howManyAt_39 : decode cX2_howManyAt 39 = .ok (.ireturn, 1) := by decide +kernel
set_option maxRecDepth 20000 in
theorem ggX2_comesTo_X5_hitWorth : GoodIn wsX2_comesTo wsX5_hitWorth := goodIn_r _ [5, 6, 7, 8, 9, 10, 11, 12] (by decide +kernel) (by decide +kernel)
set_option maxRecDepth 20000 in
theorem gX2_comesTo_X5_hitWorth_n55 : GoodIn wsX2_comesTo (wsX5_hitWorth) := ggX2_comesTo_X5_hitWorth
theorem dX2_comesTo_0 : decode cX2_comesTo 0 = .ok (.aload_n 0, 1) := by decide +kernel
theorem dX2_comesTo_1 : decode cX2_comesTo 1 = .ok (.getfield 25, 3) := by decide +kernel
theorem dX2_comesTo_4 : decode cX2_comesTo 4 = .ok (.iload_n 1, 1) := by decide +kernel
theorem dX2_comesTo_5 : decode cX2_comesTo 5 = .ok (.aload_n 0, 1) := by decide +kernel
theorem dX2_comesTo_6 : decode cX2_comesTo 6 = .ok (.getfield 34, 3) := by decide +kernel
theorem dX2_comesTo_9 : decode cX2_comesTo 9 = .ok (.iconst 1, 1) := by decide +kernel
theorem dX2_comesTo_10 : decode cX2_comesTo 10 = .ok (.iadd, 1) := by decide +kernel
theorem dX2_comesTo_11 : decode cX2_comesTo 11 = .ok (.invokestatic 55, 3) := by decide +kernel
theorem dX2_comesTo_14 : decode cX2_comesTo 14 = .ok (.ireturn, 1) := by decide +kernel
set_option maxRecDepth 20000 in
theorem ggX2_postsBy_X2_isDone : GoodIn wsX2_postsBy wsX2_isDone := goodIn_r _ [10, 4, 11, 24, 25, 26, 27, 28, 29, 30, 31] (by decide +kernel) (by decide +kernel)
set_option maxRecDepth 20000 in
theorem gX2_postsBy_X2_isDone : GoodIn wsX2_postsBy (wsV RX2 59 RX2 yX2_isDone wsX2_isDone) := goodIn_app (goodIn_of _ (by decide +kernel)) ggX2_postsBy_X2_isDone
set_option maxRecDepth 20000 in
theorem ggX2_postsBy_X5_hitWorth : GoodIn wsX2_postsBy wsX5_hitWorth := goodIn_r _ [14, 15, 16, 17, 18, 19, 20, 21] (by decide +kernel) (by decide +kernel)
set_option maxRecDepth 20000 in
theorem gX2_postsBy_X5_hitWorth_n55 : GoodIn wsX2_postsBy (wsX5_hitWorth) := ggX2_postsBy_X5_hitWorth
set_option maxRecDepth 20000 in
theorem ggX2_postsBy_X5_postsRun : GoodIn wsX2_postsBy wsX5_postsRun := goodIn_r _ [23, 19, 20, 17, 21] (by decide +kernel) (by decide +kernel)
set_option maxRecDepth 20000 in
theorem gX2_postsBy_X5_postsRun_n63 : GoodIn wsX2_postsBy (wsX5_postsRun) := ggX2_postsBy_X5_postsRun
theorem dX2_postsBy_0 : decode cX2_postsBy 0 = .ok (.aload_n 0, 1) := by decide +kernel
theorem dX2_postsBy_1 : decode cX2_postsBy 1 = .ok (.invokevirtual 59, 3) := by decide +kernel
theorem dX2_postsBy_4 : decode cX2_postsBy 4 = .ok (.ifCond .eq 5, 3) := by decide +kernel
theorem dX2_postsBy_7 : decode cX2_postsBy 7 = .ok (.iconst (-1), 1) := by decide +kernel
theorem dX2_postsBy_8 : decode cX2_postsBy 8 = .ok (.ireturn, 1) := by decide +kernel
theorem dX2_postsBy_9 : decode cX2_postsBy 9 = .ok (.aload_n 0, 1) := by decide +kernel
theorem dX2_postsBy_10 : decode cX2_postsBy 10 = .ok (.getfield 25, 3) := by decide +kernel
theorem dX2_postsBy_13 : decode cX2_postsBy 13 = .ok (.iload_n 1, 1) := by decide +kernel
theorem dX2_postsBy_14 : decode cX2_postsBy 14 = .ok (.aload_n 0, 1) := by decide +kernel
theorem dX2_postsBy_15 : decode cX2_postsBy 15 = .ok (.getfield 34, 3) := by decide +kernel
theorem dX2_postsBy_18 : decode cX2_postsBy 18 = .ok (.iconst 1, 1) := by decide +kernel
theorem dX2_postsBy_19 : decode cX2_postsBy 19 = .ok (.iadd, 1) := by decide +kernel
theorem dX2_postsBy_20 : decode cX2_postsBy 20 = .ok (.invokestatic 55, 3) := by decide +kernel
theorem dX2_postsBy_23 : decode cX2_postsBy 23 = .ok (.istore_n 2, 1) := by decide +kernel
theorem dX2_postsBy_24 : decode cX2_postsBy 24 = .ok (.iload_n 2, 1) := by decide +kernel
theorem dX2_postsBy_25 : decode cX2_postsBy 25 = .ok (.ifCond .ne 7, 3) := by decide +kernel
theorem dX2_postsBy_28 : decode cX2_postsBy 28 = .ok (.iconst (-1), 1) := by decide +kernel
theorem dX2_postsBy_29 : decode cX2_postsBy 29 = .ok (.goto 25, 3) := by decide +kernel
theorem dX2_postsBy_32 : decode cX2_postsBy 32 = .ok (.aload_n 0, 1) := by decide +kernel
theorem dX2_postsBy_33 : decode cX2_postsBy 33 = .ok (.getfield 9, 3) := by decide +kernel
theorem dX2_postsBy_36 : decode cX2_postsBy 36 = .ok (.aload_n 0, 1) := by decide +kernel
theorem dX2_postsBy_37 : decode cX2_postsBy 37 = .ok (.getfield 21, 3) := by decide +kernel
theorem dX2_postsBy_40 : decode cX2_postsBy 40 = .ok (.iaload, 1) := by decide +kernel
theorem dX2_postsBy_41 : decode cX2_postsBy 41 = .ok (.aload_n 0, 1) := by decide +kernel
theorem dX2_postsBy_42 : decode cX2_postsBy 42 = .ok (.getfield 15, 3) := by decide +kernel
theorem dX2_postsBy_45 : decode cX2_postsBy 45 = .ok (.aload_n 0, 1) := by decide +kernel
theorem dX2_postsBy_46 : decode cX2_postsBy 46 = .ok (.getfield 21, 3) := by decide +kernel
theorem dX2_postsBy_49 : decode cX2_postsBy 49 = .ok (.iaload, 1) := by decide +kernel
theorem dX2_postsBy_50 : decode cX2_postsBy 50 = .ok (.iload_n 2, 1) := by decide +kernel
theorem dX2_postsBy_51 : decode cX2_postsBy 51 = .ok (.invokestatic 63, 3) := by decide +kernel
theorem dX2_postsBy_54 : decode cX2_postsBy 54 = .ok (.ireturn, 1) := by decide +kernel
set_option maxRecDepth 20000 in
theorem ggX2_ball_X2_postsBy : GoodIn wsX2_ball wsX2_postsBy := goodIn_r _ [5, 6, 7, 8, 9, 10, 11, 12, 13, 4, 14, 15, 16, 17, 18, 19, 20, 21, 22, 23, 24, 25, 26, 27, 44, 45, 46, 47, 48, 49, 50, 51] (by decide +kernel) (by decide +kernel)
set_option maxRecDepth 20000 in
theorem gX2_ball_X2_postsBy : GoodIn wsX2_ball (wsV RX2 66 RX2 yX2_postsBy wsX2_postsBy) := goodIn_app (goodIn_of _ (by decide +kernel)) ggX2_ball_X2_postsBy
set_option maxRecDepth 20000 in
theorem ggX2_ball_X2_runBall : GoodIn wsX2_ball wsX2_runBall := goodIn_r _ [31, 7, 32, 9, 33, 11, 12, 13, 4, 14, 15, 34, 35, 36, 37, 38, 17, 39, 40, 41, 42, 43, 44, 45, 46, 47, 48, 49, 50, 51] (by decide +kernel) (by decide +kernel)
set_option maxRecDepth 20000 in
theorem gX2_ball_X2_runBall : GoodIn wsX2_ball (wsV RX2 70 RX2 yX2_runBall wsX2_runBall) := goodIn_app (goodIn_of _ (by decide +kernel)) ggX2_ball_X2_runBall
theorem dX2_ball_0 : decode cX2_ball 0 = .ok (.aload_n 0, 1) := by decide +kernel
theorem dX2_ball_1 : decode cX2_ball 1 = .ok (.aload_n 0, 1) := by decide +kernel
theorem dX2_ball_2 : decode cX2_ball 2 = .ok (.iload_n 1, 1) := by decide +kernel
theorem dX2_ball_3 : decode cX2_ball 3 = .ok (.invokevirtual 66, 3) := by decide +kernel
theorem dX2_ball_6 : decode cX2_ball 6 = .ok (.invokevirtual 70, 3) := by decide +kernel
theorem dX2_ball_9 : decode cX2_ball 9 = .ok (.ireturn, 1) := by decide +kernel
set_option maxRecDepth 20000 in
theorem ggX2_runBall_X2_isDone : GoodIn wsX2_runBall wsX2_isDone := goodIn_r _ [9, 3, 10, 22, 23, 24, 25, 26, 27, 28, 29] (by decide +kernel) (by decide +kernel)
set_option maxRecDepth 20000 in
theorem gX2_runBall_X2_isDone : GoodIn wsX2_runBall (wsV RX2 59 RX2 yX2_isDone wsX2_isDone) := goodIn_app (goodIn_of _ (by decide +kernel)) ggX2_runBall_X2_isDone
set_option maxRecDepth 20000 in
theorem ggX2_runBall_X2_runAll : GoodIn wsX2_runBall wsX2_runAll := goodIn_r _ [14, 10, 2, 3, 15, 16, 17, 22, 23, 24, 25, 26, 27, 28, 29] (by decide +kernel) (by decide +kernel)
set_option maxRecDepth 20000 in
theorem gX2_runBall_X2_runAll : GoodIn wsX2_runBall (wsV RX2 73 RX2 yX2_runAll wsX2_runAll) := goodIn_app (goodIn_of _ (by decide +kernel)) ggX2_runBall_X2_runAll
set_option maxRecDepth 20000 in
theorem ggX2_runBall_X2_passBat : GoodIn wsX2_runBall wsX2_passBat := goodIn_r _ [21, 3, 10, 2, 22, 23, 24, 25, 26, 27, 28, 29] (by decide +kernel) (by decide +kernel)
set_option maxRecDepth 20000 in
theorem gX2_runBall_X2_passBat : GoodIn wsX2_runBall (wsV RX2 76 RX2 yX2_passBat wsX2_passBat) := goodIn_app (goodIn_of _ (by decide +kernel)) ggX2_runBall_X2_passBat
theorem dX2_runBall_0 : decode cX2_runBall 0 = .ok (.aload_n 0, 1) := by decide +kernel
theorem dX2_runBall_1 : decode cX2_runBall 1 = .ok (.invokevirtual 59, 3) := by decide +kernel
theorem dX2_runBall_4 : decode cX2_runBall 4 = .ok (.ifCond .eq 5, 3) := by decide +kernel
theorem dX2_runBall_7 : decode cX2_runBall 7 = .ok (.iconst 0, 1) := by decide +kernel
theorem dX2_runBall_8 : decode cX2_runBall 8 = .ok (.ireturn, 1) := by decide +kernel
theorem dX2_runBall_9 : decode cX2_runBall 9 = .ok (.aload_n 0, 1) := by decide +kernel
theorem dX2_runBall_10 : decode cX2_runBall 10 = .ok (.dup, 1) := by decide +kernel
theorem dX2_runBall_11 : decode cX2_runBall 11 = .ok (.getfield 34, 3) := by decide +kernel
theorem dX2_runBall_14 : decode cX2_runBall 14 = .ok (.iconst 1, 1) := by decide +kernel
theorem dX2_runBall_15 : decode cX2_runBall 15 = .ok (.iadd, 1) := by decide +kernel
theorem dX2_runBall_16 : decode cX2_runBall 16 = .ok (.putfield 34, 3) := by decide +kernel
theorem dX2_runBall_19 : decode cX2_runBall 19 = .ok (.iconst 0, 1) := by decide +kernel
theorem dX2_runBall_20 : decode cX2_runBall 20 = .ok (.istore_n 2, 1) := by decide +kernel
theorem dX2_runBall_21 : decode cX2_runBall 21 = .ok (.iload_n 1, 1) := by decide +kernel
theorem dX2_runBall_22 : decode cX2_runBall 22 = .ok (.ifCond .ge 16, 3) := by decide +kernel
theorem dX2_runBall_25 : decode cX2_runBall 25 = .ok (.aload_n 0, 1) := by decide +kernel
theorem dX2_runBall_26 : decode cX2_runBall 26 = .ok (.getfield 18, 3) := by decide +kernel
theorem dX2_runBall_29 : decode cX2_runBall 29 = .ok (.aload_n 0, 1) := by decide +kernel
theorem dX2_runBall_30 : decode cX2_runBall 30 = .ok (.getfield 21, 3) := by decide +kernel
theorem dX2_runBall_33 : decode cX2_runBall 33 = .ok (.iconst 4, 1) := by decide +kernel
theorem dX2_runBall_34 : decode cX2_runBall 34 = .ok (.iastore, 1) := by decide +kernel
theorem dX2_runBall_35 : decode cX2_runBall 35 = .ok (.goto 13, 3) := by decide +kernel
theorem dX2_runBall_38 : decode cX2_runBall 38 = .ok (.iload_n 1, 1) := by decide +kernel
theorem dX2_runBall_39 : decode cX2_runBall 39 = .ok (.ifCond .le 9, 3) := by decide +kernel
theorem dX2_runBall_42 : decode cX2_runBall 42 = .ok (.aload_n 0, 1) := by decide +kernel
theorem dX2_runBall_43 : decode cX2_runBall 43 = .ok (.iload_n 1, 1) := by decide +kernel
theorem dX2_runBall_44 : decode cX2_runBall 44 = .ok (.invokevirtual 73, 3) := by decide +kernel
theorem dX2_runBall_47 : decode cX2_runBall 47 = .ok (.istore_n 2, 1) := by decide +kernel
theorem dX2_runBall_48 : decode cX2_runBall 48 = .ok (.aload_n 0, 1) := by decide +kernel
theorem dX2_runBall_49 : decode cX2_runBall 49 = .ok (.dup, 1) := by decide +kernel
theorem dX2_runBall_50 : decode cX2_runBall 50 = .ok (.getfield 31, 3) := by decide +kernel
theorem dX2_runBall_53 : decode cX2_runBall 53 = .ok (.iload_n 2, 1) := by decide +kernel
theorem dX2_runBall_54 : decode cX2_runBall 54 = .ok (.iadd, 1) := by decide +kernel
theorem dX2_runBall_55 : decode cX2_runBall 55 = .ok (.putfield 31, 3) := by decide +kernel
theorem dX2_runBall_58 : decode cX2_runBall 58 = .ok (.aload_n 0, 1) := by decide +kernel
theorem dX2_runBall_59 : decode cX2_runBall 59 = .ok (.invokevirtual 76, 3) := by decide +kernel
theorem dX2_runBall_62 : decode cX2_runBall 62 = .ok (.iload_n 2, 1) := by decide +kernel
theorem dX2_runBall_63 : decode cX2_runBall 63 = .ok (.ireturn, 1) := by decide +kernel
set_option maxRecDepth 20000 in
theorem ggX2_runAll_X5_within : GoodIn wsX2_runAll wsX5_within := goodIn_r _ [6] (by decide +kernel) (by decide +kernel)
set_option maxRecDepth 20000 in
theorem gX2_runAll_X5_within_n47 : GoodIn wsX2_runAll (wsX5_within) := ggX2_runAll_X5_within
theorem dX2_runAll_0 : decode cX2_runAll 0 = .ok (.iconst 0, 1) := by decide +kernel
theorem dX2_runAll_1 : decode cX2_runAll 1 = .ok (.istore_n 2, 1) := by decide +kernel
theorem dX2_runAll_2 : decode cX2_runAll 2 = .ok (.iconst 0, 1) := by decide +kernel
theorem dX2_runAll_3 : decode cX2_runAll 3 = .ok (.istore_n 3, 1) := by decide +kernel
theorem dX2_runAll_4 : decode cX2_runAll 4 = .ok (.iload_n 3, 1) := by decide +kernel
theorem dX2_runAll_5 : decode cX2_runAll 5 = .ok (.aload_n 0, 1) := by decide +kernel
theorem dX2_runAll_6 : decode cX2_runAll 6 = .ok (.getfield 28, 3) := by decide +kernel
theorem dX2_runAll_9 : decode cX2_runAll 9 = .ok (.if_icmp .ge 53, 3) := by decide +kernel
theorem dX2_runAll_12 : decode cX2_runAll 12 = .ok (.aload_n 0, 1) := by decide +kernel
theorem dX2_runAll_13 : decode cX2_runAll 13 = .ok (.getfield 18, 3) := by decide +kernel
theorem dX2_runAll_16 : decode cX2_runAll 16 = .ok (.iload_n 3, 1) := by decide +kernel
theorem dX2_runAll_17 : decode cX2_runAll 17 = .ok (.iaload, 1) := by decide +kernel
theorem dX2_runAll_18 : decode cX2_runAll 18 = .ok (.iconst 1, 1) := by decide +kernel
theorem dX2_runAll_19 : decode cX2_runAll 19 = .ok (.iconst 3, 1) := by decide +kernel
theorem dX2_runAll_20 : decode cX2_runAll 20 = .ok (.invokestatic 47, 3) := by decide +kernel
theorem dX2_runAll_23 : decode cX2_runAll 23 = .ok (.ifCond .eq 33, 3) := by decide +kernel
theorem dX2_runAll_26 : decode cX2_runAll 26 = .ok (.aload_n 0, 1) := by decide +kernel
theorem dX2_runAll_27 : decode cX2_runAll 27 = .ok (.getfield 18, 3) := by decide +kernel
theorem dX2_runAll_30 : decode cX2_runAll 30 = .ok (.iload_n 3, 1) := by decide +kernel
theorem dX2_runAll_31 : decode cX2_runAll 31 = .ok (.dup2, 1) := by decide +kernel
theorem dX2_runAll_32 : decode cX2_runAll 32 = .ok (.iaload, 1) := by decide +kernel
theorem dX2_runAll_33 : decode cX2_runAll 33 = .ok (.iload_n 1, 1) := by decide +kernel
theorem dX2_runAll_34 : decode cX2_runAll 34 = .ok (.iadd, 1) := by decide +kernel
theorem dX2_runAll_35 : decode cX2_runAll 35 = .ok (.iastore, 1) := by decide +kernel
theorem dX2_runAll_36 : decode cX2_runAll 36 = .ok (.aload_n 0, 1) := by decide +kernel
theorem dX2_runAll_37 : decode cX2_runAll 37 = .ok (.getfield 18, 3) := by decide +kernel
theorem dX2_runAll_40 : decode cX2_runAll 40 = .ok (.iload_n 3, 1) := by decide +kernel
theorem dX2_runAll_41 : decode cX2_runAll 41 = .ok (.iaload, 1) := by decide +kernel
theorem dX2_runAll_42 : decode cX2_runAll 42 = .ok (.iconst 4, 1) := by decide +kernel
theorem dX2_runAll_43 : decode cX2_runAll 43 = .ok (.if_icmp .lt 13, 3) := by decide +kernel
theorem dX2_runAll_46 : decode cX2_runAll 46 = .ok (.aload_n 0, 1) := by decide +kernel
theorem dX2_runAll_47 : decode cX2_runAll 47 = .ok (.getfield 18, 3) := by decide +kernel
theorem dX2_runAll_50 : decode cX2_runAll 50 = .ok (.iload_n 3, 1) := by decide +kernel
theorem dX2_runAll_51 : decode cX2_runAll 51 = .ok (.iconst 0, 1) := by decide +kernel
theorem dX2_runAll_52 : decode cX2_runAll 52 = .ok (.iastore, 1) := by decide +kernel
theorem dX2_runAll_53 : decode cX2_runAll 53 = .ok (.iinc 2 1, 3) := by decide +kernel
theorem dX2_runAll_56 : decode cX2_runAll 56 = .ok (.iinc 3 1, 3) := by decide +kernel
theorem dX2_runAll_59 : decode cX2_runAll 59 = .ok (.goto (-55), 3) := by decide +kernel
theorem dX2_runAll_62 : decode cX2_runAll 62 = .ok (.iload_n 1, 1) := by decide +kernel
theorem dX2_runAll_63 : decode cX2_runAll 63 = .ok (.iconst 4, 1) := by decide +kernel
theorem dX2_runAll_64 : decode cX2_runAll 64 = .ok (.if_icmp .lt 7, 3) := by decide +kernel
theorem dX2_runAll_67 : decode cX2_runAll 67 = .ok (.iload_n 2, 1) := by decide +kernel
theorem dX2_runAll_68 : decode cX2_runAll 68 = .ok (.iconst 2, 1) := by decide +kernel
theorem dX2_runAll_69 : decode cX2_runAll 69 = .ok (.iadd, 1) := by decide +kernel
theorem dX2_runAll_70 : decode cX2_runAll 70 = .ok (.ireturn, 1) := by decide +kernel
theorem dX2_runAll_71 : decode cX2_runAll 71 = .ok (.aload_n 0, 1) := by decide +kernel
theorem dX2_runAll_72 : decode cX2_runAll 72 = .ok (.getfield 18, 3) := by decide +kernel
theorem dX2_runAll_75 : decode cX2_runAll 75 = .ok (.aload_n 0, 1) := by decide +kernel
theorem dX2_runAll_76 : decode cX2_runAll 76 = .ok (.getfield 21, 3) := by decide +kernel
theorem dX2_runAll_79 : decode cX2_runAll 79 = .ok (.iload_n 1, 1) := by decide +kernel
theorem dX2_runAll_80 : decode cX2_runAll 80 = .ok (.iastore, 1) := by decide +kernel
theorem dX2_runAll_81 : decode cX2_runAll 81 = .ok (.iload_n 2, 1) := by decide +kernel
theorem dX2_runAll_82 : decode cX2_runAll 82 = .ok (.ireturn, 1) := by decide +kernel
theorem dX2_passBat_0 : decode cX2_passBat 0 = .ok (.aload_n 0, 1) := by decide +kernel
theorem dX2_passBat_1 : decode cX2_passBat 1 = .ok (.getfield 21, 3) := by decide +kernel
theorem dX2_passBat_4 : decode cX2_passBat 4 = .ok (.istore_n 1, 1) := by decide +kernel
theorem dX2_passBat_5 : decode cX2_passBat 5 = .ok (.iconst 0, 1) := by decide +kernel
theorem dX2_passBat_6 : decode cX2_passBat 6 = .ok (.istore_n 2, 1) := by decide +kernel
theorem dX2_passBat_7 : decode cX2_passBat 7 = .ok (.iload_n 2, 1) := by decide +kernel
theorem dX2_passBat_8 : decode cX2_passBat 8 = .ok (.aload_n 0, 1) := by decide +kernel
theorem dX2_passBat_9 : decode cX2_passBat 9 = .ok (.getfield 28, 3) := by decide +kernel
theorem dX2_passBat_12 : decode cX2_passBat 12 = .ok (.if_icmp .ge 42, 3) := by decide +kernel
theorem dX2_passBat_15 : decode cX2_passBat 15 = .ok (.iload_n 1, 1) := by decide +kernel
theorem dX2_passBat_16 : decode cX2_passBat 16 = .ok (.iconst 1, 1) := by decide +kernel
theorem dX2_passBat_17 : decode cX2_passBat 17 = .ok (.iadd, 1) := by decide +kernel
theorem dX2_passBat_18 : decode cX2_passBat 18 = .ok (.aload_n 0, 1) := by decide +kernel
theorem dX2_passBat_19 : decode cX2_passBat 19 = .ok (.getfield 28, 3) := by decide +kernel
theorem dX2_passBat_22 : decode cX2_passBat 22 = .ok (.if_icmp .ge 9, 3) := by decide +kernel
theorem dX2_passBat_25 : decode cX2_passBat 25 = .ok (.iload_n 1, 1) := by decide +kernel
theorem dX2_passBat_26 : decode cX2_passBat 26 = .ok (.iconst 1, 1) := by decide +kernel
theorem dX2_passBat_27 : decode cX2_passBat 27 = .ok (.iadd, 1) := by decide +kernel
theorem dX2_passBat_28 : decode cX2_passBat 28 = .ok (.goto 4, 3) := by decide +kernel
theorem dX2_passBat_31 : decode cX2_passBat 31 = .ok (.iconst 0, 1) := by decide +kernel
theorem dX2_passBat_32 : decode cX2_passBat 32 = .ok (.istore_n 1, 1) := by decide +kernel
theorem dX2_passBat_33 : decode cX2_passBat 33 = .ok (.aload_n 0, 1) := by decide +kernel
theorem dX2_passBat_34 : decode cX2_passBat 34 = .ok (.getfield 18, 3) := by decide +kernel
theorem dX2_passBat_37 : decode cX2_passBat 37 = .ok (.iload_n 1, 1) := by decide +kernel
theorem dX2_passBat_38 : decode cX2_passBat 38 = .ok (.iaload, 1) := by decide +kernel
theorem dX2_passBat_39 : decode cX2_passBat 39 = .ok (.ifCond .ne 9, 3) := by decide +kernel
theorem dX2_passBat_42 : decode cX2_passBat 42 = .ok (.aload_n 0, 1) := by decide +kernel
theorem dX2_passBat_43 : decode cX2_passBat 43 = .ok (.iload_n 1, 1) := by decide +kernel
theorem dX2_passBat_44 : decode cX2_passBat 44 = .ok (.putfield 21, 3) := by decide +kernel
theorem dX2_passBat_47 : decode cX2_passBat 47 = .ok (.return_, 1) := by decide +kernel
theorem dX2_passBat_48 : decode cX2_passBat 48 = .ok (.iinc 2 1, 3) := by decide +kernel
theorem dX2_passBat_51 : decode cX2_passBat 51 = .ok (.goto (-44), 3) := by decide +kernel
theorem dX2_passBat_54 : decode cX2_passBat 54 = .ok (.aload_n 0, 1) := by decide +kernel
theorem dX2_passBat_55 : decode cX2_passBat 55 = .ok (.iconst (-1), 1) := by decide +kernel
theorem dX2_passBat_56 : decode cX2_passBat 56 = .ok (.putfield 21, 3) := by decide +kernel
theorem dX2_passBat_59 : decode cX2_passBat 59 = .ok (.return_, 1) := by decide +kernel
set_option maxRecDepth 20000 in
theorem ggX2_playHits_X2_isDone : GoodIn wsX2_playHits wsX2_isDone := goodIn_r _ [5, 6, 7, 44, 45, 46, 47, 48, 49, 50, 51] (by decide +kernel) (by decide +kernel)
set_option maxRecDepth 20000 in
theorem gX2_playHits_X2_isDone : GoodIn wsX2_playHits (wsV RX2 59 RX2 yX2_isDone wsX2_isDone) := goodIn_app (goodIn_of _ (by decide +kernel)) ggX2_playHits_X2_isDone
set_option maxRecDepth 20000 in
theorem ggX2_playHits_X2_postsBy : GoodIn wsX2_playHits wsX2_postsBy := goodIn_r _ [11, 12, 13, 14, 6, 15, 1, 2, 3, 4, 5, 7, 16, 17, 18, 19, 20, 21, 22, 23, 24, 25, 26, 27, 44, 45, 46, 47, 48, 49, 50, 51] (by decide +kernel) (by decide +kernel)
set_option maxRecDepth 20000 in
theorem gX2_playHits_X2_postsBy : GoodIn wsX2_playHits (wsV RX2 66 RX2 yX2_postsBy wsX2_postsBy) := goodIn_app (goodIn_of _ (by decide +kernel)) ggX2_playHits_X2_postsBy
set_option maxRecDepth 20000 in
theorem ggX2_playHits_X2_runBall : GoodIn wsX2_playHits wsX2_runBall := goodIn_r _ [31, 13, 32, 6, 33, 1, 2, 3, 4, 5, 7, 34, 35, 36, 37, 38, 17, 39, 40, 41, 42, 43, 44, 45, 46, 47, 48, 49, 50, 51] (by decide +kernel) (by decide +kernel)
set_option maxRecDepth 20000 in
theorem gX2_playHits_X2_runBall : GoodIn wsX2_playHits (wsV RX2 70 RX2 yX2_runBall wsX2_runBall) := goodIn_app (goodIn_of _ (by decide +kernel)) ggX2_playHits_X2_runBall
theorem dX2_playHits_0 : decode cX2_playHits 0 = .ok (.iconst 0, 1) := by decide +kernel
theorem dX2_playHits_1 : decode cX2_playHits 1 = .ok (.istore_n 3, 1) := by decide +kernel
theorem dX2_playHits_2 : decode cX2_playHits 2 = .ok (.iconst 0, 1) := by decide +kernel
theorem dX2_playHits_3 : decode cX2_playHits 3 = .ok (.istore 4, 2) := by decide +kernel
theorem dX2_playHits_5 : decode cX2_playHits 5 = .ok (.iload 4, 2) := by decide +kernel
theorem dX2_playHits_7 : decode cX2_playHits 7 = .ok (.iload_n 2, 1) := by decide +kernel
theorem dX2_playHits_8 : decode cX2_playHits 8 = .ok (.if_icmp .ge 38, 3) := by decide +kernel
theorem dX2_playHits_11 : decode cX2_playHits 11 = .ok (.iload 4, 2) := by decide +kernel
theorem dX2_playHits_13 : decode cX2_playHits 13 = .ok (.aload_n 1, 1) := by decide +kernel
theorem dX2_playHits_14 : decode cX2_playHits 14 = .ok (.arraylength, 1) := by decide +kernel
theorem dX2_playHits_15 : decode cX2_playHits 15 = .ok (.if_icmp .ge 31, 3) := by decide +kernel
theorem dX2_playHits_18 : decode cX2_playHits 18 = .ok (.aload_n 0, 1) := by decide +kernel
theorem dX2_playHits_19 : decode cX2_playHits 19 = .ok (.invokevirtual 59, 3) := by decide +kernel
theorem dX2_playHits_22 : decode cX2_playHits 22 = .ok (.ifCond .ne 24, 3) := by decide +kernel
theorem dX2_playHits_25 : decode cX2_playHits 25 = .ok (.iload_n 3, 1) := by decide +kernel
theorem dX2_playHits_26 : decode cX2_playHits 26 = .ok (.aload_n 0, 1) := by decide +kernel
theorem dX2_playHits_27 : decode cX2_playHits 27 = .ok (.aload_n 0, 1) := by decide +kernel
theorem dX2_playHits_28 : decode cX2_playHits 28 = .ok (.aload_n 1, 1) := by decide +kernel
theorem dX2_playHits_29 : decode cX2_playHits 29 = .ok (.iload 4, 2) := by decide +kernel
theorem dX2_playHits_31 : decode cX2_playHits 31 = .ok (.iaload, 1) := by decide +kernel
theorem dX2_playHits_32 : decode cX2_playHits 32 = .ok (.invokevirtual 66, 3) := by decide +kernel
theorem dX2_playHits_35 : decode cX2_playHits 35 = .ok (.invokevirtual 70, 3) := by decide +kernel
theorem dX2_playHits_38 : decode cX2_playHits 38 = .ok (.iadd, 1) := by decide +kernel
theorem dX2_playHits_39 : decode cX2_playHits 39 = .ok (.istore_n 3, 1) := by decide +kernel
theorem dX2_playHits_40 : decode cX2_playHits 40 = .ok (.iinc 4 1, 3) := by decide +kernel
theorem dX2_playHits_43 : decode cX2_playHits 43 = .ok (.goto (-38), 3) := by decide +kernel
theorem dX2_playHits_46 : decode cX2_playHits 46 = .ok (.iload_n 3, 1) := by decide +kernel
theorem dX2_playHits_47 : decode cX2_playHits 47 = .ok (.ireturn, 1) := by decide +kernel
set_option maxRecDepth 20000 in
theorem ggX3_init_X2_init : GoodIn wsX3_init wsX2_init := goodIn_r _ [11, 12, 2, 3, 8, 13, 14, 15, 16, 17, 18, 19, 20, 21, 22, 23, 24] (by decide +kernel) (by decide +kernel)
set_option maxRecDepth 20000 in
theorem gX3_init_X2_init_n11 : GoodIn wsX3_init (wsX2_init) := ggX3_init_X2_init
theorem dX3_init_0 : decode cX3_init 0 = .ok (.aload_n 0, 1) := by decide +kernel
theorem dX3_init_1 : decode cX3_init 1 = .ok (.invokespecial 3, 3) := by decide +kernel
theorem dX3_init_4 : decode cX3_init 4 = .ok (.aload_n 0, 1) := by decide +kernel
theorem dX3_init_5 : decode cX3_init 5 = .ok (.new 9, 3) := by decide +kernel
theorem dX3_init_8 : decode cX3_init 8 = .ok (.dup, 1) := by decide +kernel
theorem dX3_init_9 : decode cX3_init 9 = .ok (.invokespecial 11, 3) := by decide +kernel
theorem dX3_init_12 : decode cX3_init 12 = .ok (.putfield 12, 3) := by decide +kernel
theorem dX3_init_15 : decode cX3_init 15 = .ok (.aload_n 0, 1) := by decide +kernel
theorem dX3_init_16 : decode cX3_init 16 = .ok (.iconst 0, 1) := by decide +kernel
theorem dX3_init_17 : decode cX3_init 17 = .ok (.newarray .int, 2) := by decide +kernel
theorem dX3_init_19 : decode cX3_init 19 = .ok (.putfield 18, 3) := by decide +kernel
theorem dX3_init_22 : decode cX3_init 22 = .ok (.return_, 1) := by decide +kernel
set_option maxRecDepth 20000 in
theorem ggX3_readText_X2_begin : GoodIn wsX3_readText wsX2_begin := goodIn_r _ [15, 16, 17, 18, 19, 20, 174, 175, 176, 177, 178, 179, 180, 181] (by decide +kernel) (by decide +kernel)
set_option maxRecDepth 20000 in
theorem gX3_readText_X2_begin : GoodIn wsX3_readText (wsV RX3 35 RX2 yX2_begin wsX2_begin) := goodIn_app (goodIn_of _ (by decide +kernel)) ggX3_readText_X2_begin
set_option maxRecDepth 20000 in
theorem ggX3_readText_X3_step : GoodIn wsX3_readText wsX3_step := goodIn_r _ [25, 7, 6, 9, 10, 26, 27, 28, 24, 29, 1, 30, 31, 32, 33, 34, 35, 36, 37, 38, 39, 40, 41, 42, 43, 44, 167, 168, 169, 170, 171, 172, 173] (by decide +kernel) (by decide +kernel)
set_option maxRecDepth 20000 in
theorem gX3_readText_X3_step : GoodIn wsX3_readText (wsV RX3 39 RX3 yX3_step wsX3_step) := goodIn_app (goodIn_of _ (by decide +kernel)) ggX3_readText_X3_step
set_option maxRecDepth 20000 in
theorem ggX3_readText_X3_readBowler : GoodIn wsX3_readText wsX3_readBowler := goodIn_r _ [48, 8, 44, 49, 50, 51, 52, 24, 53, 10, 7, 9, 54, 55, 56, 57, 58, 59, 60, 61, 62, 63, 64, 65, 26, 27, 28, 29, 6, 1, 66, 67, 68, 69, 70, 71, 72, 73, 74, 75, 76, 77, 78, 79, 80, 81, 82, 83, 84, 85, 86, 87, 88, 89, 90, 91, 92, 93, 94, 95, 96, 97, 98, 99, 100, 101, 102, 21, 22, 23, 25, 30, 31, 32, 33, 34, 35, 36, 37, 38, 39, 40, 41, 42, 43, 103, 104, 105, 106, 107, 108, 109, 167, 168, 169, 170, 171, 172, 173, 174, 175, 176, 177, 178, 179, 180, 181] (by decide +kernel) (by decide +kernel)
set_option maxRecDepth 20000 in
theorem gX3_readText_X3_readBowler : GoodIn wsX3_readText (wsV RX3 42 RX3 yX3_readBowler wsX3_readBowler) := goodIn_app (goodIn_of _ (by decide +kernel)) ggX3_readText_X3_readBowler
set_option maxRecDepth 20000 in
theorem ggX3_readText_X3_takeStop : GoodIn wsX3_readText wsX3_takeStop := goodIn_r _ [113, 10, 21, 22, 23, 24, 25, 7, 6, 9, 26, 27, 28, 29, 1, 30, 31, 32, 33, 34, 35, 36, 37, 38, 39, 40, 41, 42, 43, 44, 167, 168, 169, 170, 171, 172, 173] (by decide +kernel) (by decide +kernel)
set_option maxRecDepth 20000 in
theorem gX3_readText_X3_takeStop : GoodIn wsX3_readText (wsV RX3 46 RX3 yX3_takeStop wsX3_takeStop) := goodIn_app (goodIn_of _ (by decide +kernel)) ggX3_readText_X3_takeStop
set_option maxRecDepth 20000 in
theorem ggX3_readText_X3_readItem : GoodIn wsX3_readText wsX3_readItem := goodIn_r _ [117, 8, 118, 50, 51, 52, 24, 53, 10, 7, 9, 54, 55, 56, 57, 58, 59, 60, 61, 62, 63, 64, 65, 26, 27, 28, 29, 6, 1, 66, 67, 68, 69, 70, 71, 72, 73, 74, 75, 76, 77, 78, 79, 80, 81, 82, 83, 84, 85, 86, 87, 88, 89, 90, 91, 92, 93, 94, 95, 96, 97, 98, 99, 100, 101, 102, 21, 22, 23, 25, 30, 31, 32, 33, 34, 35, 36, 37, 38, 39, 40, 41, 42, 43, 44, 119, 120, 121, 122, 103, 104, 105, 106, 107, 108, 109, 123, 124, 125, 14, 126, 17, 127, 128, 129, 18, 130, 131, 132, 133, 134, 135, 136, 137, 138, 139, 140, 141, 142, 143, 144, 145, 16, 20, 146, 147, 148, 149, 150, 4, 151, 152, 3, 5, 153, 154, 155, 156, 157, 158, 19, 159, 160, 161, 162, 163, 164, 165, 166, 167, 168, 169, 170, 171, 172, 173, 174, 175, 176, 177, 178, 179, 180, 181] (by decide +kernel) (by decide +kernel)
set_option maxRecDepth 20000 in
theorem gX3_readText_X3_readItem : GoodIn wsX3_readText (wsV RX3 55 RX3 yX3_readItem wsX3_readItem) := goodIn_app (goodIn_of _ (by decide +kernel)) ggX3_readText_X3_readItem
theorem dX3_readText_0 : decode cX3_readText 0 = .ok (.aload_n 0, 1) := by decide +kernel
theorem dX3_readText_1 : decode cX3_readText 1 = .ok (.aload_n 1, 1) := by decide +kernel
theorem dX3_readText_2 : decode cX3_readText 2 = .ok (.putfield 18, 3) := by decide +kernel
theorem dX3_readText_5 : decode cX3_readText 5 = .ok (.aload_n 0, 1) := by decide +kernel
theorem dX3_readText_6 : decode cX3_readText 6 = .ok (.iload_n 2, 1) := by decide +kernel
theorem dX3_readText_7 : decode cX3_readText 7 = .ok (.aload_n 1, 1) := by decide +kernel
theorem dX3_readText_8 : decode cX3_readText 8 = .ok (.arraylength, 1) := by decide +kernel
theorem dX3_readText_9 : decode cX3_readText 9 = .ok (.invokestatic 22, 3) := by decide +kernel
theorem dX3_readText_12 : decode cX3_readText 12 = .ok (.putfield 28, 3) := by decide +kernel
theorem dX3_readText_15 : decode cX3_readText 15 = .ok (.aload_n 0, 1) := by decide +kernel
theorem dX3_readText_16 : decode cX3_readText 16 = .ok (.iconst 0, 1) := by decide +kernel
theorem dX3_readText_17 : decode cX3_readText 17 = .ok (.putfield 32, 3) := by decide +kernel
theorem dX3_readText_20 : decode cX3_readText 20 = .ok (.aload_n 0, 1) := by decide +kernel
theorem dX3_readText_21 : decode cX3_readText 21 = .ok (.getfield 12, 3) := by decide +kernel
theorem dX3_readText_24 : decode cX3_readText 24 = .ok (.iconst 0, 1) := by decide +kernel
theorem dX3_readText_25 : decode cX3_readText 25 = .ok (.invokevirtual 35, 3) := by decide +kernel
theorem dX3_readText_28 : decode cX3_readText 28 = .ok (.aload_n 0, 1) := by decide +kernel
theorem dX3_readText_29 : decode cX3_readText 29 = .ok (.invokevirtual 39, 3) := by decide +kernel
theorem dX3_readText_32 : decode cX3_readText 32 = .ok (.aload_n 0, 1) := by decide +kernel
theorem dX3_readText_33 : decode cX3_readText 33 = .ok (.invokevirtual 42, 3) := by decide +kernel
theorem dX3_readText_36 : decode cX3_readText 36 = .ok (.ifCond .eq 10, 3) := by decide +kernel
theorem dX3_readText_39 : decode cX3_readText 39 = .ok (.aload_n 0, 1) := by decide +kernel
theorem dX3_readText_40 : decode cX3_readText 40 = .ok (.invokevirtual 46, 3) := by decide +kernel
theorem dX3_readText_43 : decode cX3_readText 43 = .ok (.ifCond .ne 11, 3) := by decide +kernel
theorem dX3_readText_46 : decode cX3_readText 46 = .ok (.bipush (-10), 2) := by decide +kernel
theorem dX3_readText_48 : decode cX3_readText 48 = .ok (.aload_n 0, 1) := by decide +kernel
theorem dX3_readText_49 : decode cX3_readText 49 = .ok (.getfield 49, 3) := by decide +kernel
theorem dX3_readText_52 : decode cX3_readText 52 = .ok (.isub, 1) := by decide +kernel
theorem dX3_readText_53 : decode cX3_readText 53 = .ok (.ireturn, 1) := by decide +kernel
theorem dX3_readText_54 : decode cX3_readText 54 = .ok (.iconst 1, 1) := by decide +kernel
theorem dX3_readText_55 : decode cX3_readText 55 = .ok (.istore_n 3, 1) := by decide +kernel
theorem dX3_readText_56 : decode cX3_readText 56 = .ok (.aload_n 0, 1) := by decide +kernel
theorem dX3_readText_57 : decode cX3_readText 57 = .ok (.getfield 52, 3) := by decide +kernel
theorem dX3_readText_60 : decode cX3_readText 60 = .ok (.ifCond .eq 39, 3) := by decide +kernel
theorem dX3_readText_63 : decode cX3_readText 63 = .ok (.iload_n 3, 1) := by decide +kernel
theorem dX3_readText_64 : decode cX3_readText 64 = .ok (.aload_n 0, 1) := by decide +kernel
theorem dX3_readText_65 : decode cX3_readText 65 = .ok (.getfield 28, 3) := by decide +kernel
theorem dX3_readText_68 : decode cX3_readText 68 = .ok (.if_icmp .gt 31, 3) := by decide +kernel
theorem dX3_readText_71 : decode cX3_readText 71 = .ok (.aload_n 0, 1) := by decide +kernel
theorem dX3_readText_72 : decode cX3_readText 72 = .ok (.invokevirtual 55, 3) := by decide +kernel
theorem dX3_readText_75 : decode cX3_readText 75 = .ok (.ifCond .eq 10, 3) := by decide +kernel
theorem dX3_readText_78 : decode cX3_readText 78 = .ok (.aload_n 0, 1) := by decide +kernel
theorem dX3_readText_79 : decode cX3_readText 79 = .ok (.invokevirtual 46, 3) := by decide +kernel
theorem dX3_readText_82 : decode cX3_readText 82 = .ok (.ifCond .ne 11, 3) := by decide +kernel
theorem dX3_readText_85 : decode cX3_readText 85 = .ok (.bipush (-10), 2) := by decide +kernel
theorem dX3_readText_87 : decode cX3_readText 87 = .ok (.aload_n 0, 1) := by decide +kernel
theorem dX3_readText_88 : decode cX3_readText 88 = .ok (.getfield 49, 3) := by decide +kernel
theorem dX3_readText_91 : decode cX3_readText 91 = .ok (.isub, 1) := by decide +kernel
theorem dX3_readText_92 : decode cX3_readText 92 = .ok (.ireturn, 1) := by decide +kernel
theorem dX3_readText_93 : decode cX3_readText 93 = .ok (.iinc 3 1, 3) := by decide +kernel
theorem dX3_readText_96 : decode cX3_readText 96 = .ok (.goto (-40), 3) := by decide +kernel
theorem dX3_readText_99 : decode cX3_readText 99 = .ok (.iload_n 3, 1) := by decide +kernel
theorem dX3_readText_100 : decode cX3_readText 100 = .ok (.ireturn, 1) := by decide +kernel
set_option maxRecDepth 20000 in
theorem ggX3_readBowler_X3_takeWord : GoodIn wsX3_readBowler wsX3_takeWord := goodIn_r _ [8, 9, 10, 11, 12, 13, 14, 15, 16, 17, 18, 19, 20, 21, 22, 23, 24, 25, 26, 7, 27, 28, 29, 30, 31, 32, 33, 34, 35, 36, 37, 38, 39, 40, 41, 42, 43, 44, 45, 46, 47, 48, 49, 50, 51, 52, 53, 54, 55, 56, 57, 58, 59, 60, 61, 62, 63, 64, 65, 66, 67, 68, 69, 70, 71, 72, 73, 74, 75, 76, 77, 78, 79, 80, 81, 82, 83, 84, 2, 92, 93, 94, 95, 96, 97, 98] (by decide +kernel) (by decide +kernel)
set_option maxRecDepth 20000 in
theorem gX3_readBowler_X3_takeWord : GoodIn wsX3_readBowler (wsV RX3 60 RX3 yX3_takeWord wsX3_takeWord) := goodIn_app (goodIn_of _ (by decide +kernel)) ggX3_readBowler_X3_takeWord
set_option maxRecDepth 20000 in
theorem ggX3_readBowler_X3_isNumber : GoodIn wsX3_readBowler wsX3_isNumber := goodIn_r _ [88, 9, 2, 89, 90, 91, 92, 93, 94, 95, 96, 97, 98] (by decide +kernel) (by decide +kernel)
set_option maxRecDepth 20000 in
theorem gX3_readBowler_X3_isNumber : GoodIn wsX3_readBowler (wsV RX3 64 RX3 yX3_isNumber wsX3_isNumber) := goodIn_app (goodIn_of _ (by decide +kernel)) ggX3_readBowler_X3_isNumber
set_option maxRecDepth 20000 in
theorem ggX3_readBowler_X3_step : GoodIn wsX3_readBowler wsX3_step := goodIn_r _ [70, 10, 28, 11, 9, 24, 25, 26, 7, 27, 29, 71, 72, 73, 74, 75, 76, 77, 78, 79, 80, 81, 82, 83, 84, 2, 92, 93, 94, 95, 96, 97, 98] (by decide +kernel) (by decide +kernel)
set_option maxRecDepth 20000 in
theorem gX3_readBowler_X3_step : GoodIn wsX3_readBowler (wsV RX3 39 RX3 yX3_step wsX3_step) := goodIn_app (goodIn_of _ (by decide +kernel)) ggX3_readBowler_X3_step
theorem dX3_readBowler_0 : decode cX3_readBowler 0 = .ok (.aload_n 0, 1) := by decide +kernel
theorem dX3_readBowler_1 : decode cX3_readBowler 1 = .ok (.ldc 58, 2) := by decide +kernel
theorem dX3_readBowler_3 : decode cX3_readBowler 3 = .ok (.invokevirtual 60, 3) := by decide +kernel
theorem dX3_readBowler_6 : decode cX3_readBowler 6 = .ok (.ifCond .eq 12, 3) := by decide +kernel
theorem dX3_readBowler_9 : decode cX3_readBowler 9 = .ok (.aload_n 0, 1) := by decide +kernel
theorem dX3_readBowler_10 : decode cX3_readBowler 10 = .ok (.iconst 0, 1) := by decide +kernel
theorem dX3_readBowler_11 : decode cX3_readBowler 11 = .ok (.iconst 5, 1) := by decide +kernel
theorem dX3_readBowler_12 : decode cX3_readBowler 12 = .ok (.invokevirtual 64, 3) := by decide +kernel
theorem dX3_readBowler_15 : decode cX3_readBowler 15 = .ok (.ifCond .ne 5, 3) := by decide +kernel
theorem dX3_readBowler_18 : decode cX3_readBowler 18 = .ok (.iconst 0, 1) := by decide +kernel
theorem dX3_readBowler_19 : decode cX3_readBowler 19 = .ok (.ireturn, 1) := by decide +kernel
theorem dX3_readBowler_20 : decode cX3_readBowler 20 = .ok (.aload_n 0, 1) := by decide +kernel
theorem dX3_readBowler_21 : decode cX3_readBowler 21 = .ok (.getfield 12, 3) := by decide +kernel
theorem dX3_readBowler_24 : decode cX3_readBowler 24 = .ok (.aload_n 0, 1) := by decide +kernel
theorem dX3_readBowler_25 : decode cX3_readBowler 25 = .ok (.getfield 68, 3) := by decide +kernel
theorem dX3_readBowler_28 : decode cX3_readBowler 28 = .ok (.putfield 71, 3) := by decide +kernel
theorem dX3_readBowler_31 : decode cX3_readBowler 31 = .ok (.aload_n 0, 1) := by decide +kernel
theorem dX3_readBowler_32 : decode cX3_readBowler 32 = .ok (.invokevirtual 39, 3) := by decide +kernel
theorem dX3_readBowler_35 : decode cX3_readBowler 35 = .ok (.iconst 1, 1) := by decide +kernel
theorem dX3_readBowler_36 : decode cX3_readBowler 36 = .ok (.ireturn, 1) := by decide +kernel
set_option maxRecDepth 20000 in
theorem ggX3_readItem_X3_takeWord : GoodIn wsX3_readItem wsX3_takeWord := goodIn_r _ [7, 8, 9, 10, 11, 12, 13, 14, 15, 16, 17, 18, 19, 20, 21, 22, 23, 24, 25, 6, 26, 27, 28, 29, 30, 31, 32, 33, 34, 35, 36, 37, 38, 39, 40, 41, 42, 43, 44, 45, 46, 47, 48, 49, 50, 51, 52, 53, 54, 55, 56, 57, 58, 59, 60, 61, 62, 63, 64, 65, 66, 67, 68, 69, 70, 71, 72, 73, 74, 75, 76, 77, 78, 79, 80, 81, 82, 83, 84, 149, 150, 151, 152, 153, 154, 155] (by decide +kernel) (by decide +kernel)
set_option maxRecDepth 20000 in
theorem gX3_readItem_X3_takeWord : GoodIn wsX3_readItem (wsV RX3 60 RX3 yX3_takeWord wsX3_takeWord) := goodIn_app (goodIn_of _ (by decide +kernel)) ggX3_readItem_X3_takeWord
set_option maxRecDepth 20000 in
theorem ggX3_readItem_X3_readBatter : GoodIn wsX3_readItem wsX3_readBatter := goodIn_r _ [88, 84, 1, 89, 90, 91, 6, 92, 8, 93, 94, 95, 66, 67, 68, 69, 9, 27, 10, 23, 24, 25, 26, 28, 70, 71, 72, 73, 74, 75, 76, 77, 78, 79, 80, 81, 82, 83, 96, 97, 98, 99, 100, 101, 102, 103, 104, 105, 149, 150, 151, 152, 153, 154, 155, 156, 157, 158, 159, 160, 161, 162, 163] (by decide +kernel) (by decide +kernel)
set_option maxRecDepth 20000 in
theorem gX3_readItem_X3_readBatter : GoodIn wsX3_readItem (wsV RX3 79 RX3 yX3_readBatter wsX3_readBatter) := goodIn_app (goodIn_of _ (by decide +kernel)) ggX3_readItem_X3_readBatter
set_option maxRecDepth 20000 in
theorem ggX3_readItem_X3_readHits : GoodIn wsX3_readItem wsX3_readHits := goodIn_r _ [109, 1, 84, 110, 111, 112, 99, 113, 105, 101, 89, 90, 91, 6, 92, 8, 93, 94, 95, 114, 115, 116, 117, 118, 119, 120, 121, 122, 123, 102, 103, 124, 125, 126, 127, 128, 129, 130, 131, 132, 133, 134, 135, 136, 137, 138, 139, 104, 140, 141, 142, 143, 144, 145, 146, 147, 148, 66, 67, 68, 69, 9, 27, 10, 23, 24, 25, 26, 28, 70, 71, 72, 73, 74, 75, 76, 77, 78, 79, 80, 81, 82, 83, 149, 150, 151, 152, 153, 154, 155, 156, 157, 158, 159, 160, 161, 162, 163] (by decide +kernel) (by decide +kernel)
set_option maxRecDepth 20000 in
theorem gX3_readItem_X3_readHits : GoodIn wsX3_readItem (wsV RX3 84 RX3 yX3_readHits wsX3_readHits) := goodIn_app (goodIn_of _ (by decide +kernel)) ggX3_readItem_X3_readHits
theorem dX3_readItem_0 : decode cX3_readItem 0 = .ok (.aload_n 0, 1) := by decide +kernel
theorem dX3_readItem_1 : decode cX3_readItem 1 = .ok (.getfield 12, 3) := by decide +kernel
theorem dX3_readItem_4 : decode cX3_readItem 4 = .ok (.getfield 74, 3) := by decide +kernel
theorem dX3_readItem_7 : decode cX3_readItem 7 = .ok (.bipush 6, 2) := by decide +kernel
theorem dX3_readItem_9 : decode cX3_readItem 9 = .ok (.if_icmp .ge 17, 3) := by decide +kernel
theorem dX3_readItem_12 : decode cX3_readItem 12 = .ok (.aload_n 0, 1) := by decide +kernel
theorem dX3_readItem_13 : decode cX3_readItem 13 = .ok (.ldc 77, 2) := by decide +kernel
theorem dX3_readItem_15 : decode cX3_readItem 15 = .ok (.invokevirtual 60, 3) := by decide +kernel
theorem dX3_readItem_18 : decode cX3_readItem 18 = .ok (.ifCond .eq 8, 3) := by decide +kernel
theorem dX3_readItem_21 : decode cX3_readItem 21 = .ok (.aload_n 0, 1) := by decide +kernel
theorem dX3_readItem_22 : decode cX3_readItem 22 = .ok (.invokevirtual 79, 3) := by decide +kernel
theorem dX3_readItem_25 : decode cX3_readItem 25 = .ok (.ireturn, 1) := by decide +kernel
theorem dX3_readItem_26 : decode cX3_readItem 26 = .ok (.aload_n 0, 1) := by decide +kernel
theorem dX3_readItem_27 : decode cX3_readItem 27 = .ok (.ldc 82, 2) := by decide +kernel
theorem dX3_readItem_29 : decode cX3_readItem 29 = .ok (.invokevirtual 60, 3) := by decide +kernel
theorem dX3_readItem_32 : decode cX3_readItem 32 = .ok (.ifCond .eq 14, 3) := by decide +kernel
theorem dX3_readItem_35 : decode cX3_readItem 35 = .ok (.aload_n 0, 1) := by decide +kernel
theorem dX3_readItem_36 : decode cX3_readItem 36 = .ok (.invokevirtual 84, 3) := by decide +kernel
theorem dX3_readItem_39 : decode cX3_readItem 39 = .ok (.ifCond .eq 7, 3) := by decide +kernel
theorem dX3_readItem_42 : decode cX3_readItem 42 = .ok (.iconst 1, 1) := by decide +kernel
theorem dX3_readItem_43 : decode cX3_readItem 43 = .ok (.goto 4, 3) := by decide +kernel
theorem dX3_readItem_46 : decode cX3_readItem 46 = .ok (.iconst 0, 1) := by decide +kernel
theorem dX3_readItem_47 : decode cX3_readItem 47 = .ok (.ireturn, 1) := by decide +kernel
set_option maxRecDepth 20000 in
theorem ggX3_readBatter_X3_isNumber : GoodIn wsX3_readBatter wsX3_isNumber := goodIn_r _ [7, 8, 1, 9, 10, 11, 48, 49, 50, 51, 52, 53, 54] (by decide +kernel) (by decide +kernel)
set_option maxRecDepth 20000 in
theorem gX3_readBatter_X3_isNumber : GoodIn wsX3_readBatter (wsV RX3 64 RX3 yX3_isNumber wsX3_isNumber) := goodIn_app (goodIn_of _ (by decide +kernel)) ggX3_readBatter_X3_isNumber
set_option maxRecDepth 20000 in
theorem ggX3_readBatter_X3_step : GoodIn wsX3_readBatter wsX3_step := goodIn_r _ [15, 16, 17, 18, 8, 19, 20, 21, 6, 22, 23, 24, 25, 26, 27, 28, 29, 30, 31, 32, 33, 34, 35, 36, 37, 1, 48, 49, 50, 51, 52, 53, 54] (by decide +kernel) (by decide +kernel)
set_option maxRecDepth 20000 in
theorem gX3_readBatter_X3_step : GoodIn wsX3_readBatter (wsV RX3 39 RX3 yX3_step wsX3_step) := goodIn_app (goodIn_of _ (by decide +kernel)) ggX3_readBatter_X3_step
set_option maxRecDepth 20000 in
theorem ggX3_readBatter_X2_join : GoodIn wsX3_readBatter wsX2_join := goodIn_r _ [42, 43, 44, 45, 46, 47, 55, 56, 57, 58, 59, 60, 61, 62] (by decide +kernel) (by decide +kernel)
set_option maxRecDepth 20000 in
theorem gX3_readBatter_X2_join : GoodIn wsX3_readBatter (wsV RX3 87 RX2 yX2_join wsX2_join) := goodIn_app (goodIn_of _ (by decide +kernel)) ggX3_readBatter_X2_join
theorem dX3_readBatter_0 : decode cX3_readBatter 0 = .ok (.aload_n 0, 1) := by decide +kernel
theorem dX3_readBatter_1 : decode cX3_readBatter 1 = .ok (.iconst 0, 1) := by decide +kernel
theorem dX3_readBatter_2 : decode cX3_readBatter 2 = .ok (.iconst 5, 1) := by decide +kernel
theorem dX3_readBatter_3 : decode cX3_readBatter 3 = .ok (.invokevirtual 64, 3) := by decide +kernel
theorem dX3_readBatter_6 : decode cX3_readBatter 6 = .ok (.ifCond .ne 5, 3) := by decide +kernel
theorem dX3_readBatter_9 : decode cX3_readBatter 9 = .ok (.iconst 0, 1) := by decide +kernel
theorem dX3_readBatter_10 : decode cX3_readBatter 10 = .ok (.ireturn, 1) := by decide +kernel
theorem dX3_readBatter_11 : decode cX3_readBatter 11 = .ok (.aload_n 0, 1) := by decide +kernel
theorem dX3_readBatter_12 : decode cX3_readBatter 12 = .ok (.getfield 68, 3) := by decide +kernel
theorem dX3_readBatter_15 : decode cX3_readBatter 15 = .ok (.istore_n 1, 1) := by decide +kernel
theorem dX3_readBatter_16 : decode cX3_readBatter 16 = .ok (.aload_n 0, 1) := by decide +kernel
theorem dX3_readBatter_17 : decode cX3_readBatter 17 = .ok (.invokevirtual 39, 3) := by decide +kernel
theorem dX3_readBatter_20 : decode cX3_readBatter 20 = .ok (.aload_n 0, 1) := by decide +kernel
theorem dX3_readBatter_21 : decode cX3_readBatter 21 = .ok (.iconst 1, 1) := by decide +kernel
theorem dX3_readBatter_22 : decode cX3_readBatter 22 = .ok (.iconst 5, 1) := by decide +kernel
theorem dX3_readBatter_23 : decode cX3_readBatter 23 = .ok (.invokevirtual 64, 3) := by decide +kernel
theorem dX3_readBatter_26 : decode cX3_readBatter 26 = .ok (.ifCond .ne 5, 3) := by decide +kernel
theorem dX3_readBatter_29 : decode cX3_readBatter 29 = .ok (.iconst 0, 1) := by decide +kernel
theorem dX3_readBatter_30 : decode cX3_readBatter 30 = .ok (.ireturn, 1) := by decide +kernel
theorem dX3_readBatter_31 : decode cX3_readBatter 31 = .ok (.aload_n 0, 1) := by decide +kernel
theorem dX3_readBatter_32 : decode cX3_readBatter 32 = .ok (.getfield 12, 3) := by decide +kernel
theorem dX3_readBatter_35 : decode cX3_readBatter 35 = .ok (.iload_n 1, 1) := by decide +kernel
theorem dX3_readBatter_36 : decode cX3_readBatter 36 = .ok (.aload_n 0, 1) := by decide +kernel
theorem dX3_readBatter_37 : decode cX3_readBatter 37 = .ok (.getfield 68, 3) := by decide +kernel
theorem dX3_readBatter_40 : decode cX3_readBatter 40 = .ok (.invokevirtual 87, 3) := by decide +kernel
theorem dX3_readBatter_43 : decode cX3_readBatter 43 = .ok (.pop, 1) := by decide +kernel
theorem dX3_readBatter_44 : decode cX3_readBatter 44 = .ok (.aload_n 0, 1) := by decide +kernel
theorem dX3_readBatter_45 : decode cX3_readBatter 45 = .ok (.invokevirtual 39, 3) := by decide +kernel
theorem dX3_readBatter_48 : decode cX3_readBatter 48 = .ok (.iconst 1, 1) := by decide +kernel
theorem dX3_readBatter_49 : decode cX3_readBatter 49 = .ok (.ireturn, 1) := by decide +kernel
set_option maxRecDepth 20000 in
theorem ggX3_readHits_X2_isDone : GoodIn wsX3_readHits wsX2_isDone := goodIn_r _ [7, 8, 9, 90, 91, 92, 93, 94, 95, 96, 97] (by decide +kernel) (by decide +kernel)
set_option maxRecDepth 20000 in
theorem gX3_readHits_X2_isDone : GoodIn wsX3_readHits (wsV RX3 90 RX2 yX2_isDone wsX2_isDone) := goodIn_app (goodIn_of _ (by decide +kernel)) ggX3_readHits_X2_isDone
set_option maxRecDepth 20000 in
theorem ggX3_readHits_X3_isNumber : GoodIn wsX3_readHits wsX3_isNumber := goodIn_r _ [14, 15, 2, 16, 17, 18, 83, 84, 85, 86, 87, 88, 89] (by decide +kernel) (by decide +kernel)
set_option maxRecDepth 20000 in
theorem gX3_readHits_X3_isNumber : GoodIn wsX3_readHits (wsV RX3 64 RX3 yX3_isNumber wsX3_isNumber) := goodIn_app (goodIn_of _ (by decide +kernel)) ggX3_readHits_X3_isNumber
set_option maxRecDepth 20000 in
theorem ggX3_readHits_X2_ball : GoodIn wsX3_readHits wsX2_ball := goodIn_r _ [22, 23, 24, 25, 6, 26, 27, 28, 29, 8, 30, 31, 4, 5, 7, 9, 32, 17, 33, 34, 35, 36, 37, 38, 39, 40, 41, 42, 43, 44, 45, 46, 47, 48, 49, 50, 51, 52, 16, 18, 53, 54, 55, 56, 90, 91, 92, 93, 94, 95, 96, 97] (by decide +kernel) (by decide +kernel)
set_option maxRecDepth 20000 in
theorem gX3_readHits_X2_ball : GoodIn wsX3_readHits (wsV RX3 93 RX2 yX2_ball wsX2_ball) := goodIn_app (goodIn_of _ (by decide +kernel)) ggX3_readHits_X2_ball
set_option maxRecDepth 20000 in
theorem ggX3_readHits_X3_step : GoodIn wsX3_readHits wsX3_step := goodIn_r _ [60, 61, 62, 63, 15, 64, 65, 66, 13, 67, 68, 69, 70, 71, 72, 73, 74, 75, 76, 77, 78, 79, 80, 81, 82, 2, 83, 84, 85, 86, 87, 88, 89] (by decide +kernel) (by decide +kernel)
set_option maxRecDepth 20000 in
theorem gX3_readHits_X3_step : GoodIn wsX3_readHits (wsV RX3 39 RX3 yX3_step wsX3_step) := goodIn_app (goodIn_of _ (by decide +kernel)) ggX3_readHits_X3_step
theorem dX3_readHits_0 : decode cX3_readHits 0 = .ok (.iconst 0, 1) := by decide +kernel
theorem dX3_readHits_1 : decode cX3_readHits 1 = .ok (.istore_n 1, 1) := by decide +kernel
theorem dX3_readHits_2 : decode cX3_readHits 2 = .ok (.iload_n 1, 1) := by decide +kernel
theorem dX3_readHits_3 : decode cX3_readHits 3 = .ok (.bipush 9, 2) := by decide +kernel
theorem dX3_readHits_5 : decode cX3_readHits 5 = .ok (.if_icmp .ge 45, 3) := by decide +kernel
theorem dX3_readHits_8 : decode cX3_readHits 8 = .ok (.aload_n 0, 1) := by decide +kernel
theorem dX3_readHits_9 : decode cX3_readHits 9 = .ok (.getfield 12, 3) := by decide +kernel
theorem dX3_readHits_12 : decode cX3_readHits 12 = .ok (.invokevirtual 90, 3) := by decide +kernel
theorem dX3_readHits_15 : decode cX3_readHits 15 = .ok (.ifCond .ne 35, 3) := by decide +kernel
theorem dX3_readHits_18 : decode cX3_readHits 18 = .ok (.aload_n 0, 1) := by decide +kernel
theorem dX3_readHits_19 : decode cX3_readHits 19 = .ok (.iconst 0, 1) := by decide +kernel
theorem dX3_readHits_20 : decode cX3_readHits 20 = .ok (.bipush 9, 2) := by decide +kernel
theorem dX3_readHits_22 : decode cX3_readHits 22 = .ok (.invokevirtual 64, 3) := by decide +kernel
theorem dX3_readHits_25 : decode cX3_readHits 25 = .ok (.ifCond .eq 25, 3) := by decide +kernel
theorem dX3_readHits_28 : decode cX3_readHits 28 = .ok (.aload_n 0, 1) := by decide +kernel
theorem dX3_readHits_29 : decode cX3_readHits 29 = .ok (.getfield 12, 3) := by decide +kernel
theorem dX3_readHits_32 : decode cX3_readHits 32 = .ok (.aload_n 0, 1) := by decide +kernel
theorem dX3_readHits_33 : decode cX3_readHits 33 = .ok (.getfield 68, 3) := by decide +kernel
theorem dX3_readHits_36 : decode cX3_readHits 36 = .ok (.invokevirtual 93, 3) := by decide +kernel
theorem dX3_readHits_39 : decode cX3_readHits 39 = .ok (.pop, 1) := by decide +kernel
theorem dX3_readHits_40 : decode cX3_readHits 40 = .ok (.iinc 1 1, 3) := by decide +kernel
theorem dX3_readHits_43 : decode cX3_readHits 43 = .ok (.aload_n 0, 1) := by decide +kernel
theorem dX3_readHits_44 : decode cX3_readHits 44 = .ok (.invokevirtual 39, 3) := by decide +kernel
theorem dX3_readHits_47 : decode cX3_readHits 47 = .ok (.goto (-45), 3) := by decide +kernel
theorem dX3_readHits_50 : decode cX3_readHits 50 = .ok (.iload_n 1, 1) := by decide +kernel
theorem dX3_readHits_51 : decode cX3_readHits 51 = .ok (.ifCond .le 7, 3) := by decide +kernel
theorem dX3_readHits_54 : decode cX3_readHits 54 = .ok (.iconst 1, 1) := by decide +kernel
theorem dX3_readHits_55 : decode cX3_readHits 55 = .ok (.goto 4, 3) := by decide +kernel
theorem dX3_readHits_58 : decode cX3_readHits 58 = .ok (.iconst 0, 1) := by decide +kernel
theorem dX3_readHits_59 : decode cX3_readHits 59 = .ok (.ireturn, 1) := by decide +kernel
set_option maxRecDepth 20000 in
theorem ggX3_isNumber_X5_within : GoodIn wsX3_isNumber wsX5_within := goodIn_r _ [5] (by decide +kernel) (by decide +kernel)
set_option maxRecDepth 20000 in
theorem gX3_isNumber_X5_within_n96 : GoodIn wsX3_isNumber (wsX5_within) := ggX3_isNumber_X5_within
theorem dX3_isNumber_0 : decode cX3_isNumber 0 = .ok (.aload_n 0, 1) := by decide +kernel
theorem dX3_isNumber_1 : decode cX3_isNumber 1 = .ok (.getfield 52, 3) := by decide +kernel
theorem dX3_isNumber_4 : decode cX3_isNumber 4 = .ok (.iconst 2, 1) := by decide +kernel
theorem dX3_isNumber_5 : decode cX3_isNumber 5 = .ok (.if_icmp .ne 19, 3) := by decide +kernel
theorem dX3_isNumber_8 : decode cX3_isNumber 8 = .ok (.aload_n 0, 1) := by decide +kernel
theorem dX3_isNumber_9 : decode cX3_isNumber 9 = .ok (.getfield 68, 3) := by decide +kernel
theorem dX3_isNumber_12 : decode cX3_isNumber 12 = .ok (.iload_n 1, 1) := by decide +kernel
theorem dX3_isNumber_13 : decode cX3_isNumber 13 = .ok (.iload_n 2, 1) := by decide +kernel
theorem dX3_isNumber_14 : decode cX3_isNumber 14 = .ok (.invokestatic 96, 3) := by decide +kernel
theorem dX3_isNumber_17 : decode cX3_isNumber 17 = .ok (.ifCond .eq 7, 3) := by decide +kernel
theorem dX3_isNumber_20 : decode cX3_isNumber 20 = .ok (.iconst 1, 1) := by decide +kernel
theorem dX3_isNumber_21 : decode cX3_isNumber 21 = .ok (.goto 4, 3) := by decide +kernel
theorem dX3_isNumber_24 : decode cX3_isNumber 24 = .ok (.iconst 0, 1) := by decide +kernel
theorem dX3_isNumber_25 : decode cX3_isNumber 25 = .ok (.ireturn, 1) := by decide +kernel
set_option maxRecDepth 20000 in
theorem ggX3_takeStop_X3_step : GoodIn wsX3_takeStop wsX3_step := goodIn_r _ [6, 7, 8, 9, 1, 10, 11, 12, 5, 13, 14, 15, 16, 17, 18, 19, 20, 21, 22, 23, 24, 25, 26, 27, 28, 29, 30, 31, 32, 33, 34, 35, 36] (by decide +kernel) (by decide +kernel)
set_option maxRecDepth 20000 in
theorem gX3_takeStop_X3_step : GoodIn wsX3_takeStop (wsV RX3 39 RX3 yX3_step wsX3_step) := goodIn_app (goodIn_of _ (by decide +kernel)) ggX3_takeStop_X3_step
theorem dX3_takeStop_0 : decode cX3_takeStop 0 = .ok (.aload_n 0, 1) := by decide +kernel
theorem dX3_takeStop_1 : decode cX3_takeStop 1 = .ok (.getfield 52, 3) := by decide +kernel
theorem dX3_takeStop_4 : decode cX3_takeStop 4 = .ok (.iconst 3, 1) := by decide +kernel
theorem dX3_takeStop_5 : decode cX3_takeStop 5 = .ok (.if_icmp .eq 5, 3) := by decide +kernel
theorem dX3_takeStop_8 : decode cX3_takeStop 8 = .ok (.iconst 0, 1) := by decide +kernel
theorem dX3_takeStop_9 : decode cX3_takeStop 9 = .ok (.ireturn, 1) := by decide +kernel
theorem dX3_takeStop_10 : decode cX3_takeStop 10 = .ok (.aload_n 0, 1) := by decide +kernel
theorem dX3_takeStop_11 : decode cX3_takeStop 11 = .ok (.invokevirtual 39, 3) := by decide +kernel
theorem dX3_takeStop_14 : decode cX3_takeStop 14 = .ok (.iconst 1, 1) := by decide +kernel
theorem dX3_takeStop_15 : decode cX3_takeStop 15 = .ok (.ireturn, 1) := by decide +kernel
set_option maxRecDepth 20000 in
theorem ggX3_takeWord_J0_length_8abf5 : GoodIn wsX3_takeWord wsJ0_length_8abf5 := goodIn_r _ [8, 9, 10, 11, 12, 7, 13, 14, 15] (by decide +kernel) (by decide +kernel)
set_option maxRecDepth 20000 in
theorem gX3_takeWord_J0_length_8abf5 : GoodIn wsX3_takeWord (wsV RX3 100 RJ0 yJ0_length_8abf5 wsJ0_length_8abf5) := goodIn_app (goodIn_of _ (by decide +kernel)) ggX3_takeWord_J0_length_8abf5
set_option maxRecDepth 20000 in
theorem ggX3_takeWord_X3_byteAt : GoodIn wsX3_takeWord wsX3_byteAt := goodIn_r _ [20, 21, 22, 79, 80, 81, 82, 83, 84, 85] (by decide +kernel) (by decide +kernel)
set_option maxRecDepth 20000 in
theorem gX3_takeWord_X3_byteAt : GoodIn wsX3_takeWord (wsV RX3 105 RX3 yX3_byteAt wsX3_byteAt) := goodIn_app (goodIn_of _ (by decide +kernel)) ggX3_takeWord_X3_byteAt
set_option maxRecDepth 20000 in
theorem ggX3_takeWord_J0_charAt_5068e : GoodIn wsX3_takeWord wsJ0_charAt_5068e := goodIn_r _ [26, 9, 27, 28, 29, 7, 30, 14, 15, 31, 32, 33, 34, 35, 36, 37, 38, 39, 40, 41, 42, 43, 44, 45, 46, 47, 48, 49, 50, 51, 52, 53, 54, 55, 56, 57, 58, 59] (by decide +kernel) (by decide +kernel)
set_option maxRecDepth 20000 in
theorem gX3_takeWord_J0_charAt_5068e : GoodIn wsX3_takeWord (wsV RX3 108 RJ0 yJ0_charAt_5068e wsJ0_charAt_5068e) := goodIn_app (goodIn_of _ (by decide +kernel)) ggX3_takeWord_J0_charAt_5068e
set_option maxRecDepth 20000 in
theorem ggX3_takeWord_X3_step : GoodIn wsX3_takeWord wsX3_step := goodIn_r _ [63, 2, 21, 3, 1, 16, 17, 18, 19, 20, 22, 64, 65, 66, 67, 68, 69, 70, 71, 72, 73, 74, 75, 76, 77, 78, 79, 80, 81, 82, 83, 84, 85] (by decide +kernel) (by decide +kernel)
set_option maxRecDepth 20000 in
theorem gX3_takeWord_X3_step : GoodIn wsX3_takeWord (wsV RX3 39 RX3 yX3_step wsX3_step) := goodIn_app (goodIn_of _ (by decide +kernel)) ggX3_takeWord_X3_step
theorem dX3_takeWord_0 : decode cX3_takeWord 0 = .ok (.aload_n 0, 1) := by decide +kernel
theorem dX3_takeWord_1 : decode cX3_takeWord 1 = .ok (.getfield 52, 3) := by decide +kernel
theorem dX3_takeWord_4 : decode cX3_takeWord 4 = .ok (.iconst 1, 1) := by decide +kernel
theorem dX3_takeWord_5 : decode cX3_takeWord 5 = .ok (.if_icmp .ne 19, 3) := by decide +kernel
theorem dX3_takeWord_8 : decode cX3_takeWord 8 = .ok (.aload_n 0, 1) := by decide +kernel
theorem dX3_takeWord_9 : decode cX3_takeWord 9 = .ok (.getfield 32, 3) := by decide +kernel
theorem dX3_takeWord_12 : decode cX3_takeWord 12 = .ok (.aload_n 0, 1) := by decide +kernel
theorem dX3_takeWord_13 : decode cX3_takeWord 13 = .ok (.getfield 49, 3) := by decide +kernel
theorem dX3_takeWord_16 : decode cX3_takeWord 16 = .ok (.isub, 1) := by decide +kernel
theorem dX3_takeWord_17 : decode cX3_takeWord 17 = .ok (.aload_n 1, 1) := by decide +kernel
theorem dX3_takeWord_18 : decode cX3_takeWord 18 = .ok (.invokevirtual 100, 3) := by decide +kernel
theorem dX3_takeWord_21 : decode cX3_takeWord 21 = .ok (.if_icmp .eq 5, 3) := by decide +kernel
theorem dX3_takeWord_24 : decode cX3_takeWord 24 = .ok (.iconst 0, 1) := by decide +kernel
theorem dX3_takeWord_25 : decode cX3_takeWord 25 = .ok (.ireturn, 1) := by decide +kernel
theorem dX3_takeWord_26 : decode cX3_takeWord 26 = .ok (.iconst 0, 1) := by decide +kernel
theorem dX3_takeWord_27 : decode cX3_takeWord 27 = .ok (.istore_n 2, 1) := by decide +kernel
theorem dX3_takeWord_28 : decode cX3_takeWord 28 = .ok (.iload_n 2, 1) := by decide +kernel
theorem dX3_takeWord_29 : decode cX3_takeWord 29 = .ok (.aload_n 1, 1) := by decide +kernel
theorem dX3_takeWord_30 : decode cX3_takeWord 30 = .ok (.invokevirtual 100, 3) := by decide +kernel
theorem dX3_takeWord_33 : decode cX3_takeWord 33 = .ok (.if_icmp .ge 29, 3) := by decide +kernel
theorem dX3_takeWord_36 : decode cX3_takeWord 36 = .ok (.aload_n 0, 1) := by decide +kernel
theorem dX3_takeWord_37 : decode cX3_takeWord 37 = .ok (.aload_n 0, 1) := by decide +kernel
theorem dX3_takeWord_38 : decode cX3_takeWord 38 = .ok (.getfield 49, 3) := by decide +kernel
theorem dX3_takeWord_41 : decode cX3_takeWord 41 = .ok (.iload_n 2, 1) := by decide +kernel
theorem dX3_takeWord_42 : decode cX3_takeWord 42 = .ok (.iadd, 1) := by decide +kernel
theorem dX3_takeWord_43 : decode cX3_takeWord 43 = .ok (.invokevirtual 105, 3) := by decide +kernel
theorem dX3_takeWord_46 : decode cX3_takeWord 46 = .ok (.aload_n 1, 1) := by decide +kernel
theorem dX3_takeWord_47 : decode cX3_takeWord 47 = .ok (.iload_n 2, 1) := by decide +kernel
theorem dX3_takeWord_48 : decode cX3_takeWord 48 = .ok (.invokevirtual 108, 3) := by decide +kernel
theorem dX3_takeWord_51 : decode cX3_takeWord 51 = .ok (.if_icmp .eq 5, 3) := by decide +kernel
theorem dX3_takeWord_54 : decode cX3_takeWord 54 = .ok (.iconst 0, 1) := by decide +kernel
theorem dX3_takeWord_55 : decode cX3_takeWord 55 = .ok (.ireturn, 1) := by decide +kernel
theorem dX3_takeWord_56 : decode cX3_takeWord 56 = .ok (.iinc 2 1, 3) := by decide +kernel
theorem dX3_takeWord_59 : decode cX3_takeWord 59 = .ok (.goto (-31), 3) := by decide +kernel
theorem dX3_takeWord_62 : decode cX3_takeWord 62 = .ok (.aload_n 0, 1) := by decide +kernel
theorem dX3_takeWord_63 : decode cX3_takeWord 63 = .ok (.invokevirtual 39, 3) := by decide +kernel
theorem dX3_takeWord_66 : decode cX3_takeWord 66 = .ok (.iconst 1, 1) := by decide +kernel
theorem dX3_takeWord_67 : decode cX3_takeWord 67 = .ok (.ireturn, 1) := by decide +kernel
theorem dX3_byteAt_0 : decode cX3_byteAt 0 = .ok (.iload_n 1, 1) := by decide +kernel
theorem dX3_byteAt_1 : decode cX3_byteAt 1 = .ok (.ifCond .lt 20, 3) := by decide +kernel
theorem dX3_byteAt_4 : decode cX3_byteAt 4 = .ok (.iload_n 1, 1) := by decide +kernel
theorem dX3_byteAt_5 : decode cX3_byteAt 5 = .ok (.aload_n 0, 1) := by decide +kernel
theorem dX3_byteAt_6 : decode cX3_byteAt 6 = .ok (.getfield 28, 3) := by decide +kernel
theorem dX3_byteAt_9 : decode cX3_byteAt 9 = .ok (.if_icmp .ge 12, 3) := by decide +kernel
theorem dX3_byteAt_12 : decode cX3_byteAt 12 = .ok (.aload_n 0, 1) := by decide +kernel
theorem dX3_byteAt_13 : decode cX3_byteAt 13 = .ok (.getfield 18, 3) := by decide +kernel
theorem dX3_byteAt_16 : decode cX3_byteAt 16 = .ok (.iload_n 1, 1) := by decide +kernel
theorem dX3_byteAt_17 : decode cX3_byteAt 17 = .ok (.iaload, 1) := by decide +kernel
theorem dX3_byteAt_18 : decode cX3_byteAt 18 = .ok (.goto 4, 3) := by decide +kernel
theorem dX3_byteAt_21 : decode cX3_byteAt 21 = .ok (.iconst (-1), 1) := by decide +kernel
theorem dX3_byteAt_22 : decode cX3_byteAt 22 = .ok (.ireturn, 1) := by decide +kernel
set_option maxRecDepth 20000 in
theorem ggX3_step_X3_byteAt : GoodIn wsX3_step wsX3_byteAt := goodIn_r _ [9, 2, 10, 26, 27, 28, 29, 30, 31, 32] (by decide +kernel) (by decide +kernel)
set_option maxRecDepth 20000 in
theorem gX3_step_X3_byteAt : GoodIn wsX3_step (wsV RX3 105 RX3 yX3_byteAt wsX3_byteAt) := goodIn_app (goodIn_of _ (by decide +kernel)) ggX3_step_X3_byteAt
set_option maxRecDepth 20000 in
theorem ggX3_step_X3_isLetter : GoodIn wsX3_step wsX3_isLetter := goodIn_r _ [13] (by decide +kernel) (by decide +kernel)
set_option maxRecDepth 20000 in
theorem gX3_step_X3_isLetter : GoodIn wsX3_step (va_wsS RX3 112 yX3_isLetter wsX3_isLetter) := goodIn_app (goodIn_of _ (by decide +kernel)) ggX3_step_X3_isLetter
set_option maxRecDepth 20000 in
theorem ggX3_step_X3_passLetters : GoodIn wsX3_step wsX3_passLetters := goodIn_r _ [17, 1, 2, 5, 6, 7, 8, 9, 10, 11, 12, 13, 26, 27, 28, 29, 30, 31, 32] (by decide +kernel) (by decide +kernel)
set_option maxRecDepth 20000 in
theorem gX3_step_X3_passLetters : GoodIn wsX3_step (wsV RX3 116 RX3 yX3_passLetters wsX3_passLetters) := goodIn_app (goodIn_of _ (by decide +kernel)) ggX3_step_X3_passLetters
set_option maxRecDepth 20000 in
theorem ggX3_step_X3_isFigure : GoodIn wsX3_step wsX3_isFigure := goodIn_r _ [20] (by decide +kernel) (by decide +kernel)
set_option maxRecDepth 20000 in
theorem gX3_step_X3_isFigure : GoodIn wsX3_step (va_wsS RX3 119 yX3_isFigure wsX3_isFigure) := goodIn_app (goodIn_of _ (by decide +kernel)) ggX3_step_X3_isFigure
set_option maxRecDepth 20000 in
theorem ggX3_step_X3_passFigures : GoodIn wsX3_step wsX3_passFigures := goodIn_r _ [24, 25, 1, 2, 5, 6, 7, 8, 9, 10, 18, 19, 20, 26, 27, 28, 29, 30, 31, 32] (by decide +kernel) (by decide +kernel)
set_option maxRecDepth 20000 in
theorem gX3_step_X3_passFigures : GoodIn wsX3_step (wsV RX3 122 RX3 yX3_passFigures wsX3_passFigures) := goodIn_app (goodIn_of _ (by decide +kernel)) ggX3_step_X3_passFigures
theorem dX3_step_0 : decode cX3_step 0 = .ok (.aload_n 0, 1) := by decide +kernel
theorem dX3_step_1 : decode cX3_step 1 = .ok (.getfield 32, 3) := by decide +kernel
theorem dX3_step_4 : decode cX3_step 4 = .ok (.aload_n 0, 1) := by decide +kernel
theorem dX3_step_5 : decode cX3_step 5 = .ok (.getfield 28, 3) := by decide +kernel
theorem dX3_step_8 : decode cX3_step 8 = .ok (.if_icmp .ge 29, 3) := by decide +kernel
theorem dX3_step_11 : decode cX3_step 11 = .ok (.aload_n 0, 1) := by decide +kernel
theorem dX3_step_12 : decode cX3_step 12 = .ok (.aload_n 0, 1) := by decide +kernel
theorem dX3_step_13 : decode cX3_step 13 = .ok (.getfield 32, 3) := by decide +kernel
theorem dX3_step_16 : decode cX3_step 16 = .ok (.invokevirtual 105, 3) := by decide +kernel
theorem dX3_step_19 : decode cX3_step 19 = .ok (.bipush 32, 2) := by decide +kernel
theorem dX3_step_21 : decode cX3_step 21 = .ok (.if_icmp .ne 16, 3) := by decide +kernel
theorem dX3_step_24 : decode cX3_step 24 = .ok (.aload_n 0, 1) := by decide +kernel
theorem dX3_step_25 : decode cX3_step 25 = .ok (.dup, 1) := by decide +kernel
theorem dX3_step_26 : decode cX3_step 26 = .ok (.getfield 32, 3) := by decide +kernel
theorem dX3_step_29 : decode cX3_step 29 = .ok (.iconst 1, 1) := by decide +kernel
theorem dX3_step_30 : decode cX3_step 30 = .ok (.iadd, 1) := by decide +kernel
theorem dX3_step_31 : decode cX3_step 31 = .ok (.putfield 32, 3) := by decide +kernel
theorem dX3_step_34 : decode cX3_step 34 = .ok (.goto (-34), 3) := by decide +kernel
theorem dX3_step_37 : decode cX3_step 37 = .ok (.aload_n 0, 1) := by decide +kernel
theorem dX3_step_38 : decode cX3_step 38 = .ok (.aload_n 0, 1) := by decide +kernel
theorem dX3_step_39 : decode cX3_step 39 = .ok (.getfield 32, 3) := by decide +kernel
theorem dX3_step_42 : decode cX3_step 42 = .ok (.putfield 49, 3) := by decide +kernel
theorem dX3_step_45 : decode cX3_step 45 = .ok (.aload_n 0, 1) := by decide +kernel
theorem dX3_step_46 : decode cX3_step 46 = .ok (.aload_n 0, 1) := by decide +kernel
theorem dX3_step_47 : decode cX3_step 47 = .ok (.getfield 49, 3) := by decide +kernel
theorem dX3_step_50 : decode cX3_step 50 = .ok (.invokevirtual 105, 3) := by decide +kernel
theorem dX3_step_53 : decode cX3_step 53 = .ok (.istore_n 1, 1) := by decide +kernel
theorem dX3_step_54 : decode cX3_step 54 = .ok (.iload_n 1, 1) := by decide +kernel
theorem dX3_step_55 : decode cX3_step 55 = .ok (.iconst (-1), 1) := by decide +kernel
theorem dX3_step_56 : decode cX3_step 56 = .ok (.if_icmp .ne 11, 3) := by decide +kernel
theorem dX3_step_59 : decode cX3_step 59 = .ok (.aload_n 0, 1) := by decide +kernel
theorem dX3_step_60 : decode cX3_step 60 = .ok (.iconst 0, 1) := by decide +kernel
theorem dX3_step_61 : decode cX3_step 61 = .ok (.putfield 52, 3) := by decide +kernel
theorem dX3_step_64 : decode cX3_step 64 = .ok (.goto 83, 3) := by decide +kernel
theorem dX3_step_67 : decode cX3_step 67 = .ok (.iload_n 1, 1) := by decide +kernel
theorem dX3_step_68 : decode cX3_step 68 = .ok (.invokestatic 112, 3) := by decide +kernel
theorem dX3_step_71 : decode cX3_step 71 = .ok (.ifCond .eq 15, 3) := by decide +kernel
theorem dX3_step_74 : decode cX3_step 74 = .ok (.aload_n 0, 1) := by decide +kernel
theorem dX3_step_75 : decode cX3_step 75 = .ok (.iconst 1, 1) := by decide +kernel
theorem dX3_step_76 : decode cX3_step 76 = .ok (.putfield 52, 3) := by decide +kernel
theorem dX3_step_79 : decode cX3_step 79 = .ok (.aload_n 0, 1) := by decide +kernel
theorem dX3_step_80 : decode cX3_step 80 = .ok (.invokevirtual 116, 3) := by decide +kernel
theorem dX3_step_83 : decode cX3_step 83 = .ok (.goto 64, 3) := by decide +kernel
theorem dX3_step_86 : decode cX3_step 86 = .ok (.iload_n 1, 1) := by decide +kernel
theorem dX3_step_87 : decode cX3_step 87 = .ok (.invokestatic 119, 3) := by decide +kernel
theorem dX3_step_90 : decode cX3_step 90 = .ok (.ifCond .eq 32, 3) := by decide +kernel
theorem dX3_step_93 : decode cX3_step 93 = .ok (.aload_n 0, 1) := by decide +kernel
theorem dX3_step_94 : decode cX3_step 94 = .ok (.invokevirtual 122, 3) := by decide +kernel
theorem dX3_step_97 : decode cX3_step 97 = .ok (.aload_n 0, 1) := by decide +kernel
theorem dX3_step_98 : decode cX3_step 98 = .ok (.aload_n 0, 1) := by decide +kernel
theorem dX3_step_99 : decode cX3_step 99 = .ok (.getfield 32, 3) := by decide +kernel
theorem dX3_step_102 : decode cX3_step 102 = .ok (.aload_n 0, 1) := by decide +kernel
theorem dX3_step_103 : decode cX3_step 103 = .ok (.getfield 49, 3) := by decide +kernel
theorem dX3_step_106 : decode cX3_step 106 = .ok (.isub, 1) := by decide +kernel
theorem dX3_step_107 : decode cX3_step 107 = .ok (.iconst 2, 1) := by decide +kernel
theorem dX3_step_108 : decode cX3_step 108 = .ok (.if_icmp .gt 7, 3) := by decide +kernel
theorem dX3_step_111 : decode cX3_step 111 = .ok (.iconst 2, 1) := by decide +kernel
theorem dX3_step_112 : decode cX3_step 112 = .ok (.goto 4, 3) := by decide +kernel
theorem dX3_step_115 : decode cX3_step 115 = .ok (.iconst 4, 1) := by decide +kernel
theorem dX3_step_116 : decode cX3_step 116 = .ok (.putfield 52, 3) := by decide +kernel
theorem dX3_step_119 : decode cX3_step 119 = .ok (.goto 28, 3) := by decide +kernel
theorem dX3_step_122 : decode cX3_step 122 = .ok (.aload_n 0, 1) := by decide +kernel
theorem dX3_step_123 : decode cX3_step 123 = .ok (.iload_n 1, 1) := by decide +kernel
theorem dX3_step_124 : decode cX3_step 124 = .ok (.bipush 59, 2) := by decide +kernel
theorem dX3_step_126 : decode cX3_step 126 = .ok (.if_icmp .ne 7, 3) := by decide +kernel
theorem dX3_step_129 : decode cX3_step 129 = .ok (.iconst 3, 1) := by decide +kernel
theorem dX3_step_130 : decode cX3_step 130 = .ok (.goto 4, 3) := by decide +kernel
theorem dX3_step_133 : decode cX3_step 133 = .ok (.iconst 4, 1) := by decide +kernel
theorem dX3_step_134 : decode cX3_step 134 = .ok (.putfield 52, 3) := by decide +kernel
theorem dX3_step_137 : decode cX3_step 137 = .ok (.aload_n 0, 1) := by decide +kernel
theorem dX3_step_138 : decode cX3_step 138 = .ok (.dup, 1) := by decide +kernel
theorem dX3_step_139 : decode cX3_step 139 = .ok (.getfield 32, 3) := by decide +kernel
theorem dX3_step_142 : decode cX3_step 142 = .ok (.iconst 1, 1) := by decide +kernel
theorem dX3_step_143 : decode cX3_step 143 = .ok (.iadd, 1) := by decide +kernel
theorem dX3_step_144 : decode cX3_step 144 = .ok (.putfield 32, 3) := by decide +kernel
theorem dX3_step_147 : decode cX3_step 147 = .ok (.return_, 1) := by decide +kernel
set_option maxRecDepth 20000 in
theorem ggX3_passLetters_X3_byteAt : GoodIn wsX3_passLetters wsX3_byteAt := goodIn_r _ [7, 2, 8, 12, 13, 14, 15, 16, 17, 18] (by decide +kernel) (by decide +kernel)
set_option maxRecDepth 20000 in
theorem gX3_passLetters_X3_byteAt : GoodIn wsX3_passLetters (wsV RX3 105 RX3 yX3_byteAt wsX3_byteAt) := goodIn_app (goodIn_of _ (by decide +kernel)) ggX3_passLetters_X3_byteAt
set_option maxRecDepth 20000 in
theorem ggX3_passLetters_X3_isLetter : GoodIn wsX3_passLetters wsX3_isLetter := goodIn_r _ [11] (by decide +kernel) (by decide +kernel)
set_option maxRecDepth 20000 in
theorem gX3_passLetters_X3_isLetter : GoodIn wsX3_passLetters (va_wsS RX3 112 yX3_isLetter wsX3_isLetter) := goodIn_app (goodIn_of _ (by decide +kernel)) ggX3_passLetters_X3_isLetter
theorem dX3_passLetters_0 : decode cX3_passLetters 0 = .ok (.aload_n 0, 1) := by decide +kernel
theorem dX3_passLetters_1 : decode cX3_passLetters 1 = .ok (.getfield 32, 3) := by decide +kernel
theorem dX3_passLetters_4 : decode cX3_passLetters 4 = .ok (.aload_n 0, 1) := by decide +kernel
theorem dX3_passLetters_5 : decode cX3_passLetters 5 = .ok (.getfield 28, 3) := by decide +kernel
theorem dX3_passLetters_8 : decode cX3_passLetters 8 = .ok (.if_icmp .ge 30, 3) := by decide +kernel
theorem dX3_passLetters_11 : decode cX3_passLetters 11 = .ok (.aload_n 0, 1) := by decide +kernel
theorem dX3_passLetters_12 : decode cX3_passLetters 12 = .ok (.aload_n 0, 1) := by decide +kernel
theorem dX3_passLetters_13 : decode cX3_passLetters 13 = .ok (.getfield 32, 3) := by decide +kernel
theorem dX3_passLetters_16 : decode cX3_passLetters 16 = .ok (.invokevirtual 105, 3) := by decide +kernel
theorem dX3_passLetters_19 : decode cX3_passLetters 19 = .ok (.invokestatic 112, 3) := by decide +kernel
theorem dX3_passLetters_22 : decode cX3_passLetters 22 = .ok (.ifCond .eq 16, 3) := by decide +kernel
theorem dX3_passLetters_25 : decode cX3_passLetters 25 = .ok (.aload_n 0, 1) := by decide +kernel
theorem dX3_passLetters_26 : decode cX3_passLetters 26 = .ok (.dup, 1) := by decide +kernel
theorem dX3_passLetters_27 : decode cX3_passLetters 27 = .ok (.getfield 32, 3) := by decide +kernel
theorem dX3_passLetters_30 : decode cX3_passLetters 30 = .ok (.iconst 1, 1) := by decide +kernel
theorem dX3_passLetters_31 : decode cX3_passLetters 31 = .ok (.iadd, 1) := by decide +kernel
theorem dX3_passLetters_32 : decode cX3_passLetters 32 = .ok (.putfield 32, 3) := by decide +kernel
theorem dX3_passLetters_35 : decode cX3_passLetters 35 = .ok (.goto (-35), 3) := by decide +kernel
theorem dX3_passLetters_38 : decode cX3_passLetters 38 = .ok (.return_, 1) := by decide +kernel
set_option maxRecDepth 20000 in
theorem ggX3_passFigures_X3_byteAt : GoodIn wsX3_passFigures wsX3_byteAt := goodIn_r _ [8, 3, 9, 13, 14, 15, 16, 17, 18, 19] (by decide +kernel) (by decide +kernel)
set_option maxRecDepth 20000 in
theorem gX3_passFigures_X3_byteAt : GoodIn wsX3_passFigures (wsV RX3 105 RX3 yX3_byteAt wsX3_byteAt) := goodIn_app (goodIn_of _ (by decide +kernel)) ggX3_passFigures_X3_byteAt
set_option maxRecDepth 20000 in
theorem ggX3_passFigures_X3_isFigure : GoodIn wsX3_passFigures wsX3_isFigure := goodIn_r _ [12] (by decide +kernel) (by decide +kernel)
set_option maxRecDepth 20000 in
theorem gX3_passFigures_X3_isFigure : GoodIn wsX3_passFigures (va_wsS RX3 119 yX3_isFigure wsX3_isFigure) := goodIn_app (goodIn_of _ (by decide +kernel)) ggX3_passFigures_X3_isFigure
theorem dX3_passFigures_0 : decode cX3_passFigures 0 = .ok (.aload_n 0, 1) := by decide +kernel
theorem dX3_passFigures_1 : decode cX3_passFigures 1 = .ok (.iconst 0, 1) := by decide +kernel
theorem dX3_passFigures_2 : decode cX3_passFigures 2 = .ok (.putfield 68, 3) := by decide +kernel
theorem dX3_passFigures_5 : decode cX3_passFigures 5 = .ok (.aload_n 0, 1) := by decide +kernel
theorem dX3_passFigures_6 : decode cX3_passFigures 6 = .ok (.getfield 32, 3) := by decide +kernel
theorem dX3_passFigures_9 : decode cX3_passFigures 9 = .ok (.aload_n 0, 1) := by decide +kernel
theorem dX3_passFigures_10 : decode cX3_passFigures 10 = .ok (.getfield 28, 3) := by decide +kernel
theorem dX3_passFigures_13 : decode cX3_passFigures 13 = .ok (.if_icmp .ge 53, 3) := by decide +kernel
theorem dX3_passFigures_16 : decode cX3_passFigures 16 = .ok (.aload_n 0, 1) := by decide +kernel
theorem dX3_passFigures_17 : decode cX3_passFigures 17 = .ok (.aload_n 0, 1) := by decide +kernel
theorem dX3_passFigures_18 : decode cX3_passFigures 18 = .ok (.getfield 32, 3) := by decide +kernel
theorem dX3_passFigures_21 : decode cX3_passFigures 21 = .ok (.invokevirtual 105, 3) := by decide +kernel
theorem dX3_passFigures_24 : decode cX3_passFigures 24 = .ok (.invokestatic 119, 3) := by decide +kernel
theorem dX3_passFigures_27 : decode cX3_passFigures 27 = .ok (.ifCond .eq 39, 3) := by decide +kernel
theorem dX3_passFigures_30 : decode cX3_passFigures 30 = .ok (.aload_n 0, 1) := by decide +kernel
theorem dX3_passFigures_31 : decode cX3_passFigures 31 = .ok (.bipush 10, 2) := by decide +kernel
theorem dX3_passFigures_33 : decode cX3_passFigures 33 = .ok (.aload_n 0, 1) := by decide +kernel
theorem dX3_passFigures_34 : decode cX3_passFigures 34 = .ok (.getfield 68, 3) := by decide +kernel
theorem dX3_passFigures_37 : decode cX3_passFigures 37 = .ok (.imul, 1) := by decide +kernel
theorem dX3_passFigures_38 : decode cX3_passFigures 38 = .ok (.aload_n 0, 1) := by decide +kernel
theorem dX3_passFigures_39 : decode cX3_passFigures 39 = .ok (.aload_n 0, 1) := by decide +kernel
theorem dX3_passFigures_40 : decode cX3_passFigures 40 = .ok (.getfield 32, 3) := by decide +kernel
theorem dX3_passFigures_43 : decode cX3_passFigures 43 = .ok (.invokevirtual 105, 3) := by decide +kernel
theorem dX3_passFigures_46 : decode cX3_passFigures 46 = .ok (.iadd, 1) := by decide +kernel
theorem dX3_passFigures_47 : decode cX3_passFigures 47 = .ok (.bipush 48, 2) := by decide +kernel
theorem dX3_passFigures_49 : decode cX3_passFigures 49 = .ok (.isub, 1) := by decide +kernel
theorem dX3_passFigures_50 : decode cX3_passFigures 50 = .ok (.putfield 68, 3) := by decide +kernel
theorem dX3_passFigures_53 : decode cX3_passFigures 53 = .ok (.aload_n 0, 1) := by decide +kernel
theorem dX3_passFigures_54 : decode cX3_passFigures 54 = .ok (.dup, 1) := by decide +kernel
theorem dX3_passFigures_55 : decode cX3_passFigures 55 = .ok (.getfield 32, 3) := by decide +kernel
theorem dX3_passFigures_58 : decode cX3_passFigures 58 = .ok (.iconst 1, 1) := by decide +kernel
theorem dX3_passFigures_59 : decode cX3_passFigures 59 = .ok (.iadd, 1) := by decide +kernel
theorem dX3_passFigures_60 : decode cX3_passFigures 60 = .ok (.putfield 32, 3) := by decide +kernel
theorem dX3_passFigures_63 : decode cX3_passFigures 63 = .ok (.goto (-58), 3) := by decide +kernel
theorem dX3_passFigures_66 : decode cX3_passFigures 66 = .ok (.return_, 1) := by decide +kernel
theorem dX3_isLetter_0 : decode cX3_isLetter 0 = .ok (.iload_n 0, 1) := by decide +kernel
theorem dX3_isLetter_1 : decode cX3_isLetter 1 = .ok (.bipush 97, 2) := by decide +kernel
theorem dX3_isLetter_3 : decode cX3_isLetter 3 = .ok (.if_icmp .lt 13, 3) := by decide +kernel
theorem dX3_isLetter_6 : decode cX3_isLetter 6 = .ok (.iload_n 0, 1) := by decide +kernel
theorem dX3_isLetter_7 : decode cX3_isLetter 7 = .ok (.bipush 122, 2) := by decide +kernel
theorem dX3_isLetter_9 : decode cX3_isLetter 9 = .ok (.if_icmp .gt 7, 3) := by decide +kernel
theorem dX3_isLetter_12 : decode cX3_isLetter 12 = .ok (.iconst 1, 1) := by decide +kernel
theorem dX3_isLetter_13 : decode cX3_isLetter 13 = .ok (.goto 4, 3) := by decide +kernel
theorem dX3_isLetter_16 : decode cX3_isLetter 16 = .ok (.iconst 0, 1) := by decide +kernel
theorem dX3_isLetter_17 : decode cX3_isLetter 17 = .ok (.ireturn, 1) := by decide +kernel
theorem dX3_isFigure_0 : decode cX3_isFigure 0 = .ok (.iload_n 0, 1) := by decide +kernel
theorem dX3_isFigure_1 : decode cX3_isFigure 1 = .ok (.bipush 48, 2) := by decide +kernel
theorem dX3_isFigure_3 : decode cX3_isFigure 3 = .ok (.if_icmp .lt 13, 3) := by decide +kernel
theorem dX3_isFigure_6 : decode cX3_isFigure 6 = .ok (.iload_n 0, 1) := by decide +kernel
theorem dX3_isFigure_7 : decode cX3_isFigure 7 = .ok (.bipush 57, 2) := by decide +kernel
theorem dX3_isFigure_9 : decode cX3_isFigure 9 = .ok (.if_icmp .gt 7, 3) := by decide +kernel
theorem dX3_isFigure_12 : decode cX3_isFigure 12 = .ok (.iconst 1, 1) := by decide +kernel
theorem dX3_isFigure_13 : decode cX3_isFigure 13 = .ok (.goto 4, 3) := by decide +kernel
theorem dX3_isFigure_16 : decode cX3_isFigure 16 = .ok (.iconst 0, 1) := by decide +kernel
theorem dX3_isFigure_17 : decode cX3_isFigure 17 = .ok (.ireturn, 1) := by decide +kernel
theorem dX4_init_0 : decode cX4_init 0 = .ok (.aload_n 0, 1) := by decide +kernel
theorem dX4_init_1 : decode cX4_init 1 = .ok (.invokespecial 1, 3) := by decide +kernel
theorem dX4_init_4 : decode cX4_init 4 = .ok (.aload_n 0, 1) := by decide +kernel
theorem dX4_init_5 : decode cX4_init 5 = .ok (.iconst 1, 1) := by decide +kernel
theorem dX4_init_6 : decode cX4_init 6 = .ok (.iload_n 1, 1) := by decide +kernel
theorem dX4_init_7 : decode cX4_init 7 = .ok (.invokestatic 7, 3) := by decide +kernel
theorem dX4_init_10 : decode cX4_init 10 = .ok (.putfield 13, 3) := by decide +kernel
theorem dX4_init_13 : decode cX4_init 13 = .ok (.aload_n 0, 1) := by decide +kernel
theorem dX4_init_14 : decode cX4_init 14 = .ok (.aload_n 0, 1) := by decide +kernel
theorem dX4_init_15 : decode cX4_init 15 = .ok (.getfield 13, 3) := by decide +kernel
theorem dX4_init_18 : decode cX4_init 18 = .ok (.iconst 0, 1) := by decide +kernel
theorem dX4_init_19 : decode cX4_init 19 = .ok (.iload_n 2, 1) := by decide +kernel
theorem dX4_init_20 : decode cX4_init 20 = .ok (.invokestatic 7, 3) := by decide +kernel
theorem dX4_init_23 : decode cX4_init 23 = .ok (.imul, 1) := by decide +kernel
theorem dX4_init_24 : decode cX4_init 24 = .ok (.newarray .int, 2) := by decide +kernel
theorem dX4_init_26 : decode cX4_init 26 = .ok (.putfield 19, 3) := by decide +kernel
theorem dX4_init_29 : decode cX4_init 29 = .ok (.return_, 1) := by decide +kernel
theorem dX4_size_0 : decode cX4_size 0 = .ok (.aload_n 0, 1) := by decide +kernel
theorem dX4_size_1 : decode cX4_size 1 = .ok (.getfield 13, 3) := by decide +kernel
theorem dX4_size_4 : decode cX4_size 4 = .ok (.iconst 1, 1) := by decide +kernel
theorem dX4_size_5 : decode cX4_size 5 = .ok (.if_icmp .ge 7, 3) := by decide +kernel
theorem dX4_size_8 : decode cX4_size 8 = .ok (.iconst 0, 1) := by decide +kernel
theorem dX4_size_9 : decode cX4_size 9 = .ok (.goto 12, 3) := by decide +kernel
theorem dX4_size_12 : decode cX4_size 12 = .ok (.aload_n 0, 1) := by decide +kernel
theorem dX4_size_13 : decode cX4_size 13 = .ok (.getfield 23, 3) := by decide +kernel
theorem dX4_size_16 : decode cX4_size 16 = .ok (.aload_n 0, 1) := by decide +kernel
theorem dX4_size_17 : decode cX4_size 17 = .ok (.getfield 13, 3) := by decide +kernel
theorem dX4_size_20 : decode cX4_size 20 = .ok (.idiv, 1) := by decide +kernel
theorem dX4_size_21 : decode cX4_size 21 = .ok (.ireturn, 1) := by decide +kernel
theorem dX4_isFull_0 : decode cX4_isFull 0 = .ok (.aload_n 0, 1) := by decide +kernel
theorem dX4_isFull_1 : decode cX4_isFull 1 = .ok (.getfield 23, 3) := by decide +kernel
theorem dX4_isFull_4 : decode cX4_isFull 4 = .ok (.aload_n 0, 1) := by decide +kernel
theorem dX4_isFull_5 : decode cX4_isFull 5 = .ok (.getfield 13, 3) := by decide +kernel
theorem dX4_isFull_8 : decode cX4_isFull 8 = .ok (.iadd, 1) := by decide +kernel
theorem dX4_isFull_9 : decode cX4_isFull 9 = .ok (.aload_n 0, 1) := by decide +kernel
theorem dX4_isFull_10 : decode cX4_isFull 10 = .ok (.getfield 19, 3) := by decide +kernel
theorem dX4_isFull_13 : decode cX4_isFull 13 = .ok (.arraylength, 1) := by decide +kernel
theorem dX4_isFull_14 : decode cX4_isFull 14 = .ok (.if_icmp .le 7, 3) := by decide +kernel
theorem dX4_isFull_17 : decode cX4_isFull 17 = .ok (.iconst 1, 1) := by decide +kernel
theorem dX4_isFull_18 : decode cX4_isFull 18 = .ok (.goto 4, 3) := by decide +kernel
theorem dX4_isFull_21 : decode cX4_isFull 21 = .ok (.iconst 0, 1) := by decide +kernel
theorem dX4_isFull_22 : decode cX4_isFull 22 = .ok (.ireturn, 1) := by decide +kernel
theorem dX4_empty_0 : decode cX4_empty 0 = .ok (.aload_n 0, 1) := by decide +kernel
theorem dX4_empty_1 : decode cX4_empty 1 = .ok (.iconst 0, 1) := by decide +kernel
theorem dX4_empty_2 : decode cX4_empty 2 = .ok (.putfield 23, 3) := by decide +kernel
theorem dX4_empty_5 : decode cX4_empty 5 = .ok (.return_, 1) := by decide +kernel
theorem dX4_put_0 : decode cX4_put 0 = .ok (.aload_n 0, 1) := by decide +kernel
theorem dX4_put_1 : decode cX4_put 1 = .ok (.getfield 23, 3) := by decide +kernel
theorem dX4_put_4 : decode cX4_put 4 = .ok (.aload_n 0, 1) := by decide +kernel
theorem dX4_put_5 : decode cX4_put 5 = .ok (.getfield 19, 3) := by decide +kernel
theorem dX4_put_8 : decode cX4_put 8 = .ok (.arraylength, 1) := by decide +kernel
theorem dX4_put_9 : decode cX4_put 9 = .ok (.if_icmp .ge 23, 3) := by decide +kernel
theorem dX4_put_12 : decode cX4_put 12 = .ok (.aload_n 0, 1) := by decide +kernel
theorem dX4_put_13 : decode cX4_put 13 = .ok (.getfield 19, 3) := by decide +kernel
theorem dX4_put_16 : decode cX4_put 16 = .ok (.aload_n 0, 1) := by decide +kernel
theorem dX4_put_17 : decode cX4_put 17 = .ok (.getfield 23, 3) := by decide +kernel
theorem dX4_put_20 : decode cX4_put 20 = .ok (.iload_n 1, 1) := by decide +kernel
theorem dX4_put_21 : decode cX4_put 21 = .ok (.iastore, 1) := by decide +kernel
theorem dX4_put_22 : decode cX4_put 22 = .ok (.aload_n 0, 1) := by decide +kernel
theorem dX4_put_23 : decode cX4_put 23 = .ok (.dup, 1) := by decide +kernel
theorem dX4_put_24 : decode cX4_put 24 = .ok (.getfield 23, 3) := by decide +kernel
theorem dX4_put_27 : decode cX4_put 27 = .ok (.iconst 1, 1) := by decide +kernel
theorem dX4_put_28 : decode cX4_put 28 = .ok (.iadd, 1) := by decide +kernel
theorem dX4_put_29 : decode cX4_put 29 = .ok (.putfield 23, 3) := by decide +kernel
theorem dX4_put_32 : decode cX4_put 32 = .ok (.return_, 1) := by decide +kernel
theorem dX4_cell_0 : decode cX4_cell 0 = .ok (.iload_n 1, 1) := by decide +kernel
theorem dX4_cell_1 : decode cX4_cell 1 = .ok (.aload_n 0, 1) := by decide +kernel
theorem dX4_cell_2 : decode cX4_cell 2 = .ok (.getfield 13, 3) := by decide +kernel
theorem dX4_cell_5 : decode cX4_cell 5 = .ok (.imul, 1) := by decide +kernel
theorem dX4_cell_6 : decode cX4_cell 6 = .ok (.iload_n 2, 1) := by decide +kernel
theorem dX4_cell_7 : decode cX4_cell 7 = .ok (.iadd, 1) := by decide +kernel
theorem dX4_cell_8 : decode cX4_cell 8 = .ok (.istore_n 3, 1) := by decide +kernel
theorem dX4_cell_9 : decode cX4_cell 9 = .ok (.iload_n 3, 1) := by decide +kernel
theorem dX4_cell_10 : decode cX4_cell 10 = .ok (.ifCond .lt 20, 3) := by decide +kernel
theorem dX4_cell_13 : decode cX4_cell 13 = .ok (.iload_n 3, 1) := by decide +kernel
theorem dX4_cell_14 : decode cX4_cell 14 = .ok (.aload_n 0, 1) := by decide +kernel
theorem dX4_cell_15 : decode cX4_cell 15 = .ok (.getfield 23, 3) := by decide +kernel
theorem dX4_cell_18 : decode cX4_cell 18 = .ok (.if_icmp .ge 12, 3) := by decide +kernel
theorem dX4_cell_21 : decode cX4_cell 21 = .ok (.aload_n 0, 1) := by decide +kernel
theorem dX4_cell_22 : decode cX4_cell 22 = .ok (.getfield 19, 3) := by decide +kernel
theorem dX4_cell_25 : decode cX4_cell 25 = .ok (.iload_n 3, 1) := by decide +kernel
theorem dX4_cell_26 : decode cX4_cell 26 = .ok (.iaload, 1) := by decide +kernel
theorem dX4_cell_27 : decode cX4_cell 27 = .ok (.goto 4, 3) := by decide +kernel
theorem dX4_cell_30 : decode cX4_cell 30 = .ok (.iconst 0, 1) := by decide +kernel
theorem dX4_cell_31 : decode cX4_cell 31 = .ok (.ireturn, 1) := by decide +kernel
theorem dX4_dropFirst_0 : decode cX4_dropFirst 0 = .ok (.aload_n 0, 1) := by decide +kernel
theorem dX4_dropFirst_1 : decode cX4_dropFirst 1 = .ok (.getfield 23, 3) := by decide +kernel
theorem dX4_dropFirst_4 : decode cX4_dropFirst 4 = .ok (.aload_n 0, 1) := by decide +kernel
theorem dX4_dropFirst_5 : decode cX4_dropFirst 5 = .ok (.getfield 13, 3) := by decide +kernel
theorem dX4_dropFirst_8 : decode cX4_dropFirst 8 = .ok (.if_icmp .lt 36, 3) := by decide +kernel
theorem dX4_dropFirst_11 : decode cX4_dropFirst 11 = .ok (.aload_n 0, 1) := by decide +kernel
theorem dX4_dropFirst_12 : decode cX4_dropFirst 12 = .ok (.dup, 1) := by decide +kernel
theorem dX4_dropFirst_13 : decode cX4_dropFirst 13 = .ok (.getfield 23, 3) := by decide +kernel
theorem dX4_dropFirst_16 : decode cX4_dropFirst 16 = .ok (.aload_n 0, 1) := by decide +kernel
theorem dX4_dropFirst_17 : decode cX4_dropFirst 17 = .ok (.getfield 13, 3) := by decide +kernel
theorem dX4_dropFirst_20 : decode cX4_dropFirst 20 = .ok (.isub, 1) := by decide +kernel
theorem dX4_dropFirst_21 : decode cX4_dropFirst 21 = .ok (.putfield 23, 3) := by decide +kernel
theorem dX4_dropFirst_24 : decode cX4_dropFirst 24 = .ok (.aload_n 0, 1) := by decide +kernel
theorem dX4_dropFirst_25 : decode cX4_dropFirst 25 = .ok (.getfield 19, 3) := by decide +kernel
theorem dX4_dropFirst_28 : decode cX4_dropFirst 28 = .ok (.aload_n 0, 1) := by decide +kernel
theorem dX4_dropFirst_29 : decode cX4_dropFirst 29 = .ok (.getfield 13, 3) := by decide +kernel
theorem dX4_dropFirst_32 : decode cX4_dropFirst 32 = .ok (.aload_n 0, 1) := by decide +kernel
theorem dX4_dropFirst_33 : decode cX4_dropFirst 33 = .ok (.getfield 19, 3) := by decide +kernel
theorem dX4_dropFirst_36 : decode cX4_dropFirst 36 = .ok (.iconst 0, 1) := by decide +kernel
theorem dX4_dropFirst_37 : decode cX4_dropFirst 37 = .ok (.aload_n 0, 1) := by decide +kernel
theorem dX4_dropFirst_38 : decode cX4_dropFirst 38 = .ok (.getfield 23, 3) := by decide +kernel
theorem dX4_dropFirst_41 : decode cX4_dropFirst 41 = .ok (.invokestatic 26, 3) := by decide +kernel
theorem dX4_dropFirst_44 : decode cX4_dropFirst 44 = .ok (.return_, 1) := by decide +kernel
theorem dX4_dropLast_0 : decode cX4_dropLast 0 = .ok (.aload_n 0, 1) := by decide +kernel
theorem dX4_dropLast_1 : decode cX4_dropLast 1 = .ok (.iconst 0, 1) := by decide +kernel
theorem dX4_dropLast_2 : decode cX4_dropLast 2 = .ok (.aload_n 0, 1) := by decide +kernel
theorem dX4_dropLast_3 : decode cX4_dropLast 3 = .ok (.getfield 23, 3) := by decide +kernel
theorem dX4_dropLast_6 : decode cX4_dropLast 6 = .ok (.aload_n 0, 1) := by decide +kernel
theorem dX4_dropLast_7 : decode cX4_dropLast 7 = .ok (.getfield 13, 3) := by decide +kernel
theorem dX4_dropLast_10 : decode cX4_dropLast 10 = .ok (.isub, 1) := by decide +kernel
theorem dX4_dropLast_11 : decode cX4_dropLast 11 = .ok (.invokestatic 7, 3) := by decide +kernel
theorem dX4_dropLast_14 : decode cX4_dropLast 14 = .ok (.putfield 23, 3) := by decide +kernel
theorem dX4_dropLast_17 : decode cX4_dropLast 17 = .ok (.return_, 1) := by decide +kernel
theorem dX4_copy_0 : decode cX4_copy 0 = .ok (.aload_n 0, 1) := by decide +kernel
theorem dX4_copy_1 : decode cX4_copy 1 = .ok (.aload_n 1, 1) := by decide +kernel
theorem dX4_copy_2 : decode cX4_copy 2 = .ok (.getfield 23, 3) := by decide +kernel
theorem dX4_copy_5 : decode cX4_copy 5 = .ok (.aload_n 0, 1) := by decide +kernel
theorem dX4_copy_6 : decode cX4_copy 6 = .ok (.getfield 19, 3) := by decide +kernel
theorem dX4_copy_9 : decode cX4_copy 9 = .ok (.arraylength, 1) := by decide +kernel
theorem dX4_copy_10 : decode cX4_copy 10 = .ok (.invokestatic 32, 3) := by decide +kernel
theorem dX4_copy_13 : decode cX4_copy 13 = .ok (.putfield 23, 3) := by decide +kernel
theorem dX4_copy_16 : decode cX4_copy 16 = .ok (.aload_n 1, 1) := by decide +kernel
theorem dX4_copy_17 : decode cX4_copy 17 = .ok (.getfield 19, 3) := by decide +kernel
theorem dX4_copy_20 : decode cX4_copy 20 = .ok (.iconst 0, 1) := by decide +kernel
theorem dX4_copy_21 : decode cX4_copy 21 = .ok (.aload_n 0, 1) := by decide +kernel
theorem dX4_copy_22 : decode cX4_copy 22 = .ok (.getfield 19, 3) := by decide +kernel
theorem dX4_copy_25 : decode cX4_copy 25 = .ok (.iconst 0, 1) := by decide +kernel
theorem dX4_copy_26 : decode cX4_copy 26 = .ok (.aload_n 0, 1) := by decide +kernel
theorem dX4_copy_27 : decode cX4_copy 27 = .ok (.getfield 23, 3) := by decide +kernel
theorem dX4_copy_30 : decode cX4_copy 30 = .ok (.invokestatic 26, 3) := by decide +kernel
theorem dX4_copy_33 : decode cX4_copy 33 = .ok (.return_, 1) := by decide +kernel
theorem dX4_digestFrom_0 : decode cX4_digestFrom 0 = .ok (.iconst 0, 1) := by decide +kernel
theorem dX4_digestFrom_1 : decode cX4_digestFrom 1 = .ok (.istore_n 3, 1) := by decide +kernel
theorem dX4_digestFrom_2 : decode cX4_digestFrom 2 = .ok (.iload_n 3, 1) := by decide +kernel
theorem dX4_digestFrom_3 : decode cX4_digestFrom 3 = .ok (.aload_n 0, 1) := by decide +kernel
theorem dX4_digestFrom_4 : decode cX4_digestFrom 4 = .ok (.getfield 23, 3) := by decide +kernel
theorem dX4_digestFrom_7 : decode cX4_digestFrom 7 = .ok (.if_icmp .ge 23, 3) := by decide +kernel
theorem dX4_digestFrom_10 : decode cX4_digestFrom 10 = .ok (.ldc2_w 35, 3) := by decide +kernel
theorem dX4_digestFrom_13 : decode cX4_digestFrom 13 = .ok (.lload_n 1, 1) := by decide +kernel
theorem dX4_digestFrom_14 : decode cX4_digestFrom 14 = .ok (.lmul, 1) := by decide +kernel
theorem dX4_digestFrom_15 : decode cX4_digestFrom 15 = .ok (.aload_n 0, 1) := by decide +kernel
theorem dX4_digestFrom_16 : decode cX4_digestFrom 16 = .ok (.getfield 19, 3) := by decide +kernel
theorem dX4_digestFrom_19 : decode cX4_digestFrom 19 = .ok (.iload_n 3, 1) := by decide +kernel
theorem dX4_digestFrom_20 : decode cX4_digestFrom 20 = .ok (.iaload, 1) := by decide +kernel
theorem dX4_digestFrom_21 : decode cX4_digestFrom 21 = .ok (.i2l, 1) := by decide +kernel
theorem dX4_digestFrom_22 : decode cX4_digestFrom 22 = .ok (.ladd, 1) := by decide +kernel
theorem dX4_digestFrom_23 : decode cX4_digestFrom 23 = .ok (.lstore_n 1, 1) := by decide +kernel
theorem dX4_digestFrom_24 : decode cX4_digestFrom 24 = .ok (.iinc 3 1, 3) := by decide +kernel
theorem dX4_digestFrom_27 : decode cX4_digestFrom 27 = .ok (.goto (-25), 3) := by decide +kernel
theorem dX4_digestFrom_30 : decode cX4_digestFrom 30 = .ok (.lload_n 1, 1) := by decide +kernel
theorem dX4_digestFrom_31 : decode cX4_digestFrom 31 = .ok (.lreturn, 1) := by decide +kernel
set_option maxRecDepth 20000 in
theorem ggX5_init_X1_init : GoodIn wsX5_init wsX1_init := goodIn_r _ [32, 33, 2, 3, 34, 22, 23, 35, 9, 36, 37, 38, 39, 40, 41, 42, 43, 44, 45, 46, 47, 48, 49, 50, 51, 52, 53, 54, 55, 56, 57, 58, 59, 60, 61, 62, 63, 108, 109, 110, 111, 112, 113, 114, 115, 79, 80, 81, 82, 83, 116, 117, 118] (by decide +kernel) (by decide +kernel)
set_option maxRecDepth 20000 in
theorem gX5_init_X1_init : GoodIn wsX5_init (wsX1_init) := ggX5_init_X1_init
set_option maxRecDepth 20000 in
theorem ggX5_init_X3_init : GoodIn wsX5_init wsX3_init := goodIn_r _ [65, 66, 2, 3, 67, 22, 23, 68, 9, 69, 43, 44, 45, 46, 47, 48, 49, 108, 109, 110, 111, 112, 113, 114, 115, 98, 99, 100, 101, 102, 103, 104] (by decide +kernel) (by decide +kernel)
set_option maxRecDepth 20000 in
theorem gX5_init_X3_init_n33 : GoodIn wsX5_init (wsX3_init) := ggX5_init_X3_init
set_option maxRecDepth 20000 in
theorem ggX5_init_X0_init : GoodIn wsX5_init wsX0_init := goodIn_r _ [72, 73, 2, 3, 74, 75, 76, 9, 77, 78, 22, 23, 43, 44, 45, 46, 47, 48, 49, 105, 106, 107, 108, 109, 110, 111, 112, 113, 114, 115] (by decide +kernel) (by decide +kernel)
set_option maxRecDepth 20000 in
theorem gX5_init_X0_init : GoodIn wsX5_init (wsX0_init) := ggX5_init_X0_init
set_option maxRecDepth 20000 in
theorem ggX5_init_X2_init : GoodIn wsX5_init wsX2_init := goodIn_r _ [44, 45, 2, 3, 9, 46, 47, 48, 49, 108, 109, 110, 111, 112, 113, 114, 115] (by decide +kernel) (by decide +kernel)
set_option maxRecDepth 20000 in
theorem gX5_init_X2_init_n47 : GoodIn wsX5_init (wsX2_init) := ggX5_init_X2_init
theorem dX5_init_0 : decode cX5_init 0 = .ok (.aload_n 0, 1) := by decide +kernel
theorem dX5_init_1 : decode cX5_init 1 = .ok (.invokespecial 3, 3) := by decide +kernel
theorem dX5_init_4 : decode cX5_init 4 = .ok (.aload_n 0, 1) := by decide +kernel
theorem dX5_init_5 : decode cX5_init 5 = .ok (.new 9, 3) := by decide +kernel
theorem dX5_init_8 : decode cX5_init 8 = .ok (.dup, 1) := by decide +kernel
theorem dX5_init_9 : decode cX5_init 9 = .ok (.invokespecial 11, 3) := by decide +kernel
theorem dX5_init_12 : decode cX5_init 12 = .ok (.putfield 12, 3) := by decide +kernel
theorem dX5_init_15 : decode cX5_init 15 = .ok (.aload_n 0, 1) := by decide +kernel
theorem dX5_init_16 : decode cX5_init 16 = .ok (.iconst 2, 1) := by decide +kernel
theorem dX5_init_17 : decode cX5_init 17 = .ok (.anewarray 9, 3) := by decide +kernel
theorem dX5_init_20 : decode cX5_init 20 = .ok (.putfield 16, 3) := by decide +kernel
theorem dX5_init_23 : decode cX5_init 23 = .ok (.aload_n 0, 1) := by decide +kernel
theorem dX5_init_24 : decode cX5_init 24 = .ok (.sipush 150, 3) := by decide +kernel
theorem dX5_init_27 : decode cX5_init 27 = .ok (.newarray .int, 2) := by decide +kernel
theorem dX5_init_29 : decode cX5_init 29 = .ok (.putfield 20, 3) := by decide +kernel
theorem dX5_init_32 : decode cX5_init 32 = .ok (.aload_n 0, 1) := by decide +kernel
theorem dX5_init_33 : decode cX5_init 33 = .ok (.lconst 1, 1) := by decide +kernel
theorem dX5_init_34 : decode cX5_init 34 = .ok (.putfield 24, 3) := by decide +kernel
theorem dX5_init_37 : decode cX5_init 37 = .ok (.aload_n 0, 1) := by decide +kernel
theorem dX5_init_38 : decode cX5_init 38 = .ok (.iconst 3, 1) := by decide +kernel
theorem dX5_init_39 : decode cX5_init 39 = .ok (.newarray .int, 2) := by decide +kernel
theorem dX5_init_41 : decode cX5_init 41 = .ok (.putfield 28, 3) := by decide +kernel
theorem dX5_init_44 : decode cX5_init 44 = .ok (.aload_n 0, 1) := by decide +kernel
theorem dX5_init_45 : decode cX5_init 45 = .ok (.new 31, 3) := by decide +kernel
theorem dX5_init_48 : decode cX5_init 48 = .ok (.dup, 1) := by decide +kernel
theorem dX5_init_49 : decode cX5_init 49 = .ok (.invokespecial 33, 3) := by decide +kernel
theorem dX5_init_52 : decode cX5_init 52 = .ok (.putfield 34, 3) := by decide +kernel
theorem dX5_init_55 : decode cX5_init 55 = .ok (.aload_n 0, 1) := by decide +kernel
theorem dX5_init_56 : decode cX5_init 56 = .ok (.new 38, 3) := by decide +kernel
theorem dX5_init_59 : decode cX5_init 59 = .ok (.dup, 1) := by decide +kernel
theorem dX5_init_60 : decode cX5_init 60 = .ok (.invokespecial 40, 3) := by decide +kernel
theorem dX5_init_63 : decode cX5_init 63 = .ok (.putfield 41, 3) := by decide +kernel
theorem dX5_init_66 : decode cX5_init 66 = .ok (.aload_n 0, 1) := by decide +kernel
theorem dX5_init_67 : decode cX5_init 67 = .ok (.new 45, 3) := by decide +kernel
theorem dX5_init_70 : decode cX5_init 70 = .ok (.dup, 1) := by decide +kernel
theorem dX5_init_71 : decode cX5_init 71 = .ok (.invokespecial 47, 3) := by decide +kernel
theorem dX5_init_74 : decode cX5_init 74 = .ok (.putfield 48, 3) := by decide +kernel
theorem dX5_init_77 : decode cX5_init 77 = .ok (.aload_n 0, 1) := by decide +kernel
theorem dX5_init_78 : decode cX5_init 78 = .ok (.bipush 6, 2) := by decide +kernel
theorem dX5_init_80 : decode cX5_init 80 = .ok (.newarray .int, 2) := by decide +kernel
theorem dX5_init_82 : decode cX5_init 82 = .ok (.putfield 52, 3) := by decide +kernel
theorem dX5_init_85 : decode cX5_init 85 = .ok (.aload_n 0, 1) := by decide +kernel
theorem dX5_init_86 : decode cX5_init 86 = .ok (.bipush 6, 2) := by decide +kernel
theorem dX5_init_88 : decode cX5_init 88 = .ok (.newarray .int, 2) := by decide +kernel
theorem dX5_init_90 : decode cX5_init 90 = .ok (.putfield 55, 3) := by decide +kernel
theorem dX5_init_93 : decode cX5_init 93 = .ok (.aload_n 0, 1) := by decide +kernel
theorem dX5_init_94 : decode cX5_init 94 = .ok (.bipush 6, 2) := by decide +kernel
theorem dX5_init_96 : decode cX5_init 96 = .ok (.newarray .int, 2) := by decide +kernel
theorem dX5_init_98 : decode cX5_init 98 = .ok (.putfield 58, 3) := by decide +kernel
theorem dX5_init_101 : decode cX5_init 101 = .ok (.aload_n 0, 1) := by decide +kernel
theorem dX5_init_102 : decode cX5_init 102 = .ok (.bipush 6, 2) := by decide +kernel
theorem dX5_init_104 : decode cX5_init 104 = .ok (.bipush 6, 2) := by decide +kernel
theorem dX5_init_106 : decode cX5_init 106 = .ok (.multianewarray 61 2, 4) := by decide +kernel
theorem dX5_init_110 : decode cX5_init 110 = .ok (.putfield 63, 3) := by decide +kernel
theorem dX5_init_113 : decode cX5_init 113 = .ok (.return_, 1) := by decide +kernel
set_option maxRecDepth 20000 in
theorem ggX5_field_X5_isKind : GoodIn wsX5_field wsX5_isKind := goodIn_r _ [7, 8, 9, 6, 10] (by decide +kernel) (by decide +kernel)
set_option maxRecDepth 20000 in
theorem gX5_field_X5_isKind : GoodIn wsX5_field (va_wsS RX5 66 yX5_isKind wsX5_isKind) := goodIn_app (goodIn_of _ (by decide +kernel)) ggX5_field_X5_isKind
set_option maxRecDepth 20000 in
theorem ggX5_field_X5_refuse : GoodIn wsX5_field wsX5_refuse := goodIn_r _ [14, 15, 8, 9, 6, 10, 46, 47, 48, 49, 50, 51, 52, 53, 54, 55, 56, 57, 58, 59] (by decide +kernel) (by decide +kernel)
set_option maxRecDepth 20000 in
theorem gX5_field_X5_refuse : GoodIn wsX5_field (wsV RX5 70 RX5 yX5_refuse wsX5_refuse) := goodIn_app (goodIn_of _ (by decide +kernel)) ggX5_field_X5_refuse
set_option maxRecDepth 20000 in
theorem ggX5_field_X1_begin : GoodIn wsX5_field wsX1_begin := goodIn_r _ [20, 21, 22, 23, 24, 25, 26, 27, 28, 29, 30, 31, 32, 33, 34, 35, 36, 37, 38, 39, 40, 41, 42, 43, 44, 45, 60, 61, 62, 63, 64, 65, 66, 67, 68, 69, 70, 71, 72, 73, 74, 75] (by decide +kernel) (by decide +kernel)
set_option maxRecDepth 20000 in
theorem gX5_field_X1_begin : GoodIn wsX5_field (wsV RX5 81 RX1 yX1_begin wsX1_begin) := goodIn_app (goodIn_of _ (by decide +kernel)) ggX5_field_X1_begin
theorem dX5_field_0 : decode cX5_field 0 = .ok (.iload_n 1, 1) := by decide +kernel
theorem dX5_field_1 : decode cX5_field 1 = .ok (.invokestatic 66, 3) := by decide +kernel
theorem dX5_field_4 : decode cX5_field 4 = .ok (.ifCond .ne 10, 3) := by decide +kernel
theorem dX5_field_7 : decode cX5_field 7 = .ok (.aload_n 0, 1) := by decide +kernel
theorem dX5_field_8 : decode cX5_field 8 = .ok (.bipush (-2), 2) := by decide +kernel
theorem dX5_field_10 : decode cX5_field 10 = .ok (.invokevirtual 70, 3) := by decide +kernel
theorem dX5_field_13 : decode cX5_field 13 = .ok (.ireturn, 1) := by decide +kernel
theorem dX5_field_14 : decode cX5_field 14 = .ok (.aload_n 0, 1) := by decide +kernel
theorem dX5_field_15 : decode cX5_field 15 = .ok (.getfield 12, 3) := by decide +kernel
theorem dX5_field_18 : decode cX5_field 18 = .ok (.getfield 74, 3) := by decide +kernel
theorem dX5_field_21 : decode cX5_field 21 = .ok (.getfield 77, 3) := by decide +kernel
theorem dX5_field_24 : decode cX5_field 24 = .ok (.istore_n 2, 1) := by decide +kernel
theorem dX5_field_25 : decode cX5_field 25 = .ok (.aload_n 0, 1) := by decide +kernel
theorem dX5_field_26 : decode cX5_field 26 = .ok (.getfield 12, 3) := by decide +kernel
theorem dX5_field_29 : decode cX5_field 29 = .ok (.iload_n 1, 1) := by decide +kernel
theorem dX5_field_30 : decode cX5_field 30 = .ok (.invokevirtual 81, 3) := by decide +kernel
theorem dX5_field_33 : decode cX5_field 33 = .ok (.iload_n 2, 1) := by decide +kernel
theorem dX5_field_34 : decode cX5_field 34 = .ok (.ireturn, 1) := by decide +kernel
set_option maxRecDepth 20000 in
theorem ggX5_bowler_X5_isKind : GoodIn wsX5_bowler wsX5_isKind := goodIn_r _ [8, 9, 10, 7, 11] (by decide +kernel) (by decide +kernel)
set_option maxRecDepth 20000 in
theorem gX5_bowler_X5_isKind : GoodIn wsX5_bowler (va_wsS RX5 66 yX5_isKind wsX5_isKind) := goodIn_app (goodIn_of _ (by decide +kernel)) ggX5_bowler_X5_isKind
set_option maxRecDepth 20000 in
theorem ggX5_bowler_X5_refuse : GoodIn wsX5_bowler wsX5_refuse := goodIn_r _ [15, 16, 9, 10, 7, 11, 23, 24, 25, 26, 27, 28, 29, 30, 31, 32, 33, 34, 35, 36] (by decide +kernel) (by decide +kernel)
set_option maxRecDepth 20000 in
theorem gX5_bowler_X5_refuse : GoodIn wsX5_bowler (wsV RX5 70 RX5 yX5_refuse wsX5_refuse) := goodIn_app (goodIn_of _ (by decide +kernel)) ggX5_bowler_X5_refuse
set_option maxRecDepth 20000 in
theorem ggX5_bowler_X4_empty : GoodIn wsX5_bowler wsX4_empty := goodIn_r _ [21, 22, 50, 51, 52] (by decide +kernel) (by decide +kernel)
set_option maxRecDepth 20000 in
theorem gX5_bowler_X4_empty : GoodIn wsX5_bowler (wsV RX5 92 RX4 yX4_empty wsX4_empty) := goodIn_app (goodIn_of _ (by decide +kernel)) ggX5_bowler_X4_empty
theorem dX5_bowler_0 : decode cX5_bowler 0 = .ok (.iload_n 1, 1) := by decide +kernel
theorem dX5_bowler_1 : decode cX5_bowler 1 = .ok (.invokestatic 66, 3) := by decide +kernel
theorem dX5_bowler_4 : decode cX5_bowler 4 = .ok (.ifCond .ne 10, 3) := by decide +kernel
theorem dX5_bowler_7 : decode cX5_bowler 7 = .ok (.aload_n 0, 1) := by decide +kernel
theorem dX5_bowler_8 : decode cX5_bowler 8 = .ok (.bipush (-2), 2) := by decide +kernel
theorem dX5_bowler_10 : decode cX5_bowler 10 = .ok (.invokevirtual 70, 3) := by decide +kernel
theorem dX5_bowler_13 : decode cX5_bowler 13 = .ok (.ireturn, 1) := by decide +kernel
theorem dX5_bowler_14 : decode cX5_bowler 14 = .ok (.aload_n 0, 1) := by decide +kernel
theorem dX5_bowler_15 : decode cX5_bowler 15 = .ok (.getfield 12, 3) := by decide +kernel
theorem dX5_bowler_18 : decode cX5_bowler 18 = .ok (.getfield 74, 3) := by decide +kernel
theorem dX5_bowler_21 : decode cX5_bowler 21 = .ok (.getfield 85, 3) := by decide +kernel
theorem dX5_bowler_24 : decode cX5_bowler 24 = .ok (.istore_n 2, 1) := by decide +kernel
theorem dX5_bowler_25 : decode cX5_bowler 25 = .ok (.aload_n 0, 1) := by decide +kernel
theorem dX5_bowler_26 : decode cX5_bowler 26 = .ok (.getfield 12, 3) := by decide +kernel
theorem dX5_bowler_29 : decode cX5_bowler 29 = .ok (.getfield 74, 3) := by decide +kernel
theorem dX5_bowler_32 : decode cX5_bowler 32 = .ok (.iload_n 1, 1) := by decide +kernel
theorem dX5_bowler_33 : decode cX5_bowler 33 = .ok (.putfield 85, 3) := by decide +kernel
theorem dX5_bowler_36 : decode cX5_bowler 36 = .ok (.aload_n 0, 1) := by decide +kernel
theorem dX5_bowler_37 : decode cX5_bowler 37 = .ok (.getfield 12, 3) := by decide +kernel
theorem dX5_bowler_40 : decode cX5_bowler 40 = .ok (.getfield 88, 3) := by decide +kernel
theorem dX5_bowler_43 : decode cX5_bowler 43 = .ok (.invokevirtual 92, 3) := by decide +kernel
theorem dX5_bowler_46 : decode cX5_bowler 46 = .ok (.iload_n 2, 1) := by decide +kernel
theorem dX5_bowler_47 : decode cX5_bowler 47 = .ok (.ireturn, 1) := by decide +kernel
set_option maxRecDepth 20000 in
theorem ggX5_batter_X5_isKind : GoodIn wsX5_batter wsX5_isKind := goodIn_r _ [8, 9, 10, 7, 11] (by decide +kernel) (by decide +kernel)
set_option maxRecDepth 20000 in
theorem gX5_batter_X5_isKind : GoodIn wsX5_batter (va_wsS RX5 66 yX5_isKind wsX5_isKind) := goodIn_app (goodIn_of _ (by decide +kernel)) ggX5_batter_X5_isKind
set_option maxRecDepth 20000 in
theorem ggX5_batter_X5_within : GoodIn wsX5_batter wsX5_within := goodIn_r _ [11] (by decide +kernel) (by decide +kernel)
set_option maxRecDepth 20000 in
theorem gX5_batter_X5_within : GoodIn wsX5_batter (va_wsS RX5 97 yX5_within wsX5_within) := goodIn_app (goodIn_of _ (by decide +kernel)) ggX5_batter_X5_within
set_option maxRecDepth 20000 in
theorem ggX5_batter_X5_refuse : GoodIn wsX5_batter wsX5_refuse := goodIn_r _ [15, 16, 9, 10, 7, 11, 33, 34, 35, 36, 37, 38, 39, 40, 41, 42, 43, 44, 45, 46] (by decide +kernel) (by decide +kernel)
set_option maxRecDepth 20000 in
theorem gX5_batter_X5_refuse : GoodIn wsX5_batter (wsV RX5 70 RX5 yX5_refuse wsX5_refuse) := goodIn_app (goodIn_of _ (by decide +kernel)) ggX5_batter_X5_refuse
set_option maxRecDepth 20000 in
theorem ggX5_batter_X4_empty : GoodIn wsX5_batter wsX4_empty := goodIn_r _ [21, 22, 60, 61, 62] (by decide +kernel) (by decide +kernel)
set_option maxRecDepth 20000 in
theorem gX5_batter_X4_empty : GoodIn wsX5_batter (wsV RX5 92 RX4 yX4_empty wsX4_empty) := goodIn_app (goodIn_of _ (by decide +kernel)) ggX5_batter_X4_empty
set_option maxRecDepth 20000 in
theorem ggX5_batter_X2_join : GoodIn wsX5_batter wsX2_join := goodIn_r _ [27, 28, 29, 30, 31, 32, 52, 53, 54, 55, 56, 57, 58, 59] (by decide +kernel) (by decide +kernel)
set_option maxRecDepth 20000 in
theorem gX5_batter_X2_join : GoodIn wsX5_batter (wsV RX5 101 RX2 yX2_join wsX2_join) := goodIn_app (goodIn_of _ (by decide +kernel)) ggX5_batter_X2_join
theorem dX5_batter_0 : decode cX5_batter 0 = .ok (.iload_n 1, 1) := by decide +kernel
theorem dX5_batter_1 : decode cX5_batter 1 = .ok (.invokestatic 66, 3) := by decide +kernel
theorem dX5_batter_4 : decode cX5_batter 4 = .ok (.ifCond .eq 12, 3) := by decide +kernel
theorem dX5_batter_7 : decode cX5_batter 7 = .ok (.iload_n 2, 1) := by decide +kernel
theorem dX5_batter_8 : decode cX5_batter 8 = .ok (.iconst 1, 1) := by decide +kernel
theorem dX5_batter_9 : decode cX5_batter 9 = .ok (.iconst 5, 1) := by decide +kernel
theorem dX5_batter_10 : decode cX5_batter 10 = .ok (.invokestatic 97, 3) := by decide +kernel
theorem dX5_batter_13 : decode cX5_batter 13 = .ok (.ifCond .ne 10, 3) := by decide +kernel
theorem dX5_batter_16 : decode cX5_batter 16 = .ok (.aload_n 0, 1) := by decide +kernel
theorem dX5_batter_17 : decode cX5_batter 17 = .ok (.bipush (-2), 2) := by decide +kernel
theorem dX5_batter_19 : decode cX5_batter 19 = .ok (.invokevirtual 70, 3) := by decide +kernel
theorem dX5_batter_22 : decode cX5_batter 22 = .ok (.ireturn, 1) := by decide +kernel
theorem dX5_batter_23 : decode cX5_batter 23 = .ok (.aload_n 0, 1) := by decide +kernel
theorem dX5_batter_24 : decode cX5_batter 24 = .ok (.getfield 12, 3) := by decide +kernel
theorem dX5_batter_27 : decode cX5_batter 27 = .ok (.getfield 74, 3) := by decide +kernel
theorem dX5_batter_30 : decode cX5_batter 30 = .ok (.getfield 77, 3) := by decide +kernel
theorem dX5_batter_33 : decode cX5_batter 33 = .ok (.bipush 6, 2) := by decide +kernel
theorem dX5_batter_35 : decode cX5_batter 35 = .ok (.if_icmp .lt 10, 3) := by decide +kernel
theorem dX5_batter_38 : decode cX5_batter 38 = .ok (.aload_n 0, 1) := by decide +kernel
theorem dX5_batter_39 : decode cX5_batter 39 = .ok (.bipush (-4), 2) := by decide +kernel
theorem dX5_batter_41 : decode cX5_batter 41 = .ok (.invokevirtual 70, 3) := by decide +kernel
theorem dX5_batter_44 : decode cX5_batter 44 = .ok (.ireturn, 1) := by decide +kernel
theorem dX5_batter_45 : decode cX5_batter 45 = .ok (.aload_n 0, 1) := by decide +kernel
theorem dX5_batter_46 : decode cX5_batter 46 = .ok (.getfield 12, 3) := by decide +kernel
theorem dX5_batter_49 : decode cX5_batter 49 = .ok (.getfield 88, 3) := by decide +kernel
theorem dX5_batter_52 : decode cX5_batter 52 = .ok (.invokevirtual 92, 3) := by decide +kernel
theorem dX5_batter_55 : decode cX5_batter 55 = .ok (.aload_n 0, 1) := by decide +kernel
theorem dX5_batter_56 : decode cX5_batter 56 = .ok (.getfield 12, 3) := by decide +kernel
theorem dX5_batter_59 : decode cX5_batter 59 = .ok (.getfield 74, 3) := by decide +kernel
theorem dX5_batter_62 : decode cX5_batter 62 = .ok (.iload_n 1, 1) := by decide +kernel
theorem dX5_batter_63 : decode cX5_batter 63 = .ok (.iload_n 2, 1) := by decide +kernel
theorem dX5_batter_64 : decode cX5_batter 64 = .ok (.invokevirtual 101, 3) := by decide +kernel
theorem dX5_batter_67 : decode cX5_batter 67 = .ok (.ireturn, 1) := by decide +kernel
set_option maxRecDepth 20000 in
theorem ggX5_type_X5_within : GoodIn wsX5_type wsX5_within := goodIn_r _ [6] (by decide +kernel) (by decide +kernel)
set_option maxRecDepth 20000 in
theorem gX5_type_X5_within : GoodIn wsX5_type (va_wsS RX5 97 yX5_within wsX5_within) := goodIn_app (goodIn_of _ (by decide +kernel)) ggX5_type_X5_within
set_option maxRecDepth 20000 in
theorem ggX5_type_X5_refuse : GoodIn wsX5_type wsX5_refuse := goodIn_r _ [10, 11, 3, 4, 5, 6, 12, 13, 14, 15, 16, 17, 18, 19, 20, 21, 22, 23, 24, 25] (by decide +kernel) (by decide +kernel)
set_option maxRecDepth 20000 in
theorem gX5_type_X5_refuse : GoodIn wsX5_type (wsV RX5 70 RX5 yX5_refuse wsX5_refuse) := goodIn_app (goodIn_of _ (by decide +kernel)) ggX5_type_X5_refuse
theorem dX5_type_0 : decode cX5_type 0 = .ok (.iload_n 1, 1) := by decide +kernel
theorem dX5_type_1 : decode cX5_type 1 = .ok (.iconst 0, 1) := by decide +kernel
theorem dX5_type_2 : decode cX5_type 2 = .ok (.bipush 127, 2) := by decide +kernel
theorem dX5_type_4 : decode cX5_type 4 = .ok (.invokestatic 97, 3) := by decide +kernel
theorem dX5_type_7 : decode cX5_type 7 = .ok (.ifCond .ne 10, 3) := by decide +kernel
theorem dX5_type_10 : decode cX5_type 10 = .ok (.aload_n 0, 1) := by decide +kernel
theorem dX5_type_11 : decode cX5_type 11 = .ok (.bipush (-2), 2) := by decide +kernel
theorem dX5_type_13 : decode cX5_type 13 = .ok (.invokevirtual 70, 3) := by decide +kernel
theorem dX5_type_16 : decode cX5_type 16 = .ok (.ireturn, 1) := by decide +kernel
theorem dX5_type_17 : decode cX5_type 17 = .ok (.aload_n 0, 1) := by decide +kernel
theorem dX5_type_18 : decode cX5_type 18 = .ok (.getfield 105, 3) := by decide +kernel
theorem dX5_type_21 : decode cX5_type 21 = .ok (.sipush 150, 3) := by decide +kernel
theorem dX5_type_24 : decode cX5_type 24 = .ok (.if_icmp .lt 10, 3) := by decide +kernel
theorem dX5_type_27 : decode cX5_type 27 = .ok (.aload_n 0, 1) := by decide +kernel
theorem dX5_type_28 : decode cX5_type 28 = .ok (.bipush (-4), 2) := by decide +kernel
theorem dX5_type_30 : decode cX5_type 30 = .ok (.invokevirtual 70, 3) := by decide +kernel
theorem dX5_type_33 : decode cX5_type 33 = .ok (.ireturn, 1) := by decide +kernel
theorem dX5_type_34 : decode cX5_type 34 = .ok (.aload_n 0, 1) := by decide +kernel
theorem dX5_type_35 : decode cX5_type 35 = .ok (.getfield 20, 3) := by decide +kernel
theorem dX5_type_38 : decode cX5_type 38 = .ok (.aload_n 0, 1) := by decide +kernel
theorem dX5_type_39 : decode cX5_type 39 = .ok (.getfield 105, 3) := by decide +kernel
theorem dX5_type_42 : decode cX5_type 42 = .ok (.iload_n 1, 1) := by decide +kernel
theorem dX5_type_43 : decode cX5_type 43 = .ok (.iastore, 1) := by decide +kernel
theorem dX5_type_44 : decode cX5_type 44 = .ok (.aload_n 0, 1) := by decide +kernel
theorem dX5_type_45 : decode cX5_type 45 = .ok (.dup, 1) := by decide +kernel
