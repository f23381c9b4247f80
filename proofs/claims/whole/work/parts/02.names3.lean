theorem dX5_type_46 : decode cX5_type 46 = .ok (.getfield 105, 3) := by decide +kernel
theorem dX5_type_49 : decode cX5_type 49 = .ok (.iconst 1, 1) := by decide +kernel
theorem dX5_type_50 : decode cX5_type 50 = .ok (.iadd, 1) := by decide +kernel
theorem dX5_type_51 : decode cX5_type 51 = .ok (.putfield 105, 3) := by decide +kernel
theorem dX5_type_54 : decode cX5_type 54 = .ok (.aload_n 0, 1) := by decide +kernel
theorem dX5_type_55 : decode cX5_type 55 = .ok (.getfield 105, 3) := by decide +kernel
theorem dX5_type_58 : decode cX5_type 58 = .ok (.ireturn, 1) := by decide +kernel
theorem dX5_clear_0 : decode cX5_clear 0 = .ok (.aload_n 0, 1) := by decide +kernel
theorem dX5_clear_1 : decode cX5_clear 1 = .ok (.getfield 105, 3) := by decide +kernel
theorem dX5_clear_4 : decode cX5_clear 4 = .ok (.istore_n 1, 1) := by decide +kernel
theorem dX5_clear_5 : decode cX5_clear 5 = .ok (.aload_n 0, 1) := by decide +kernel
theorem dX5_clear_6 : decode cX5_clear 6 = .ok (.iconst 0, 1) := by decide +kernel
theorem dX5_clear_7 : decode cX5_clear 7 = .ok (.putfield 105, 3) := by decide +kernel
theorem dX5_clear_10 : decode cX5_clear 10 = .ok (.iload_n 1, 1) := by decide +kernel
theorem dX5_clear_11 : decode cX5_clear 11 = .ok (.ireturn, 1) := by decide +kernel
set_option maxRecDepth 20000 in
theorem ggX5_read_X3_readText : GoodIn wsX5_read wsX3_readText := goodIn_r _ [11, 12, 13, 14, 15, 16, 17, 18, 19, 20, 21, 22, 23, 24, 25, 26, 27, 28, 29, 30, 31, 32, 33, 34, 10, 35, 36, 37, 38, 39, 40, 41, 42, 43, 44, 45, 46, 47, 48, 49, 50, 51, 52, 53, 54, 55, 56, 57, 58, 59, 60, 61, 62, 63, 64, 65, 66, 67, 68, 69, 70, 71, 72, 73, 74, 75, 76, 77, 78, 79, 80, 81, 82, 83, 84, 85, 86, 87, 88, 89, 90, 91, 92, 93, 94, 95, 96, 97, 98, 99, 100, 101, 102, 103, 104, 105, 106, 107, 108, 109, 110, 111, 112, 113, 114, 115, 116, 117, 118, 119, 120, 121, 122, 123, 124, 125, 126, 127, 128, 129, 130, 131, 132, 133, 134, 135, 136, 137, 138, 139, 140, 141, 142, 143, 144, 145, 146, 147, 148, 149, 150, 151, 152, 153, 154, 155, 156, 157, 158, 159, 160, 161, 162, 163, 164, 165, 166, 167, 168, 169, 170, 171, 172, 173, 174, 175, 176, 225, 226, 227, 228, 229, 230, 231, 232, 233, 234, 235, 236, 237, 238, 239] (by decide +kernel) (by decide +kernel)
set_option maxRecDepth 20000 in
theorem gX5_read_X3_readText : GoodIn wsX5_read (wsV RX5 108 RX3 yX3_readText wsX3_readText) := goodIn_app (goodIn_of _ (by decide +kernel)) ggX5_read_X3_readText
set_option maxRecDepth 20000 in
theorem ggX5_read_X1_begin : GoodIn wsX5_read wsX1_begin := goodIn_r _ [181, 182, 183, 184, 185, 186, 187, 23, 24, 25, 26, 27, 28, 29, 30, 31, 188, 189, 190, 191, 192, 193, 194, 195, 196, 197, 220, 221, 222, 223, 224, 232, 233, 234, 235, 236, 237, 238, 239, 240, 241, 242] (by decide +kernel) (by decide +kernel)
set_option maxRecDepth 20000 in
theorem gX5_read_X1_begin : GoodIn wsX5_read (wsV RX5 81 RX1 yX1_begin wsX1_begin) := goodIn_app (goodIn_of _ (by decide +kernel)) ggX5_read_X1_begin
set_option maxRecDepth 20000 in
theorem ggX5_read_X2_copy : GoodIn wsX5_read wsX2_copy := goodIn_r _ [201, 27, 28, 29, 30, 31, 137, 202, 203, 204, 205, 138, 139, 232, 233, 234, 235, 236, 237, 238, 239] (by decide +kernel) (by decide +kernel)
set_option maxRecDepth 20000 in
theorem gX5_read_X2_copy : GoodIn wsX5_read (wsV RX5 113 RX2 yX2_copy wsX2_copy) := goodIn_app (goodIn_of _ (by decide +kernel)) ggX5_read_X2_copy
theorem dX5_read_0 : decode cX5_read 0 = .ok (.aload_n 0, 1) := by decide +kernel
theorem dX5_read_1 : decode cX5_read 1 = .ok (.getfield 34, 3) := by decide +kernel
theorem dX5_read_4 : decode cX5_read 4 = .ok (.aload_n 0, 1) := by decide +kernel
theorem dX5_read_5 : decode cX5_read 5 = .ok (.getfield 20, 3) := by decide +kernel
theorem dX5_read_8 : decode cX5_read 8 = .ok (.aload_n 0, 1) := by decide +kernel
theorem dX5_read_9 : decode cX5_read 9 = .ok (.getfield 105, 3) := by decide +kernel
theorem dX5_read_12 : decode cX5_read 12 = .ok (.invokevirtual 108, 3) := by decide +kernel
theorem dX5_read_15 : decode cX5_read 15 = .ok (.istore_n 1, 1) := by decide +kernel
theorem dX5_read_16 : decode cX5_read 16 = .ok (.iload_n 1, 1) := by decide +kernel
theorem dX5_read_17 : decode cX5_read 17 = .ok (.ifCond .lt 28, 3) := by decide +kernel
theorem dX5_read_20 : decode cX5_read 20 = .ok (.aload_n 0, 1) := by decide +kernel
theorem dX5_read_21 : decode cX5_read 21 = .ok (.getfield 12, 3) := by decide +kernel
theorem dX5_read_24 : decode cX5_read 24 = .ok (.iconst 0, 1) := by decide +kernel
theorem dX5_read_25 : decode cX5_read 25 = .ok (.invokevirtual 81, 3) := by decide +kernel
theorem dX5_read_28 : decode cX5_read 28 = .ok (.aload_n 0, 1) := by decide +kernel
theorem dX5_read_29 : decode cX5_read 29 = .ok (.getfield 12, 3) := by decide +kernel
theorem dX5_read_32 : decode cX5_read 32 = .ok (.getfield 74, 3) := by decide +kernel
theorem dX5_read_35 : decode cX5_read 35 = .ok (.aload_n 0, 1) := by decide +kernel
theorem dX5_read_36 : decode cX5_read 36 = .ok (.getfield 34, 3) := by decide +kernel
theorem dX5_read_39 : decode cX5_read 39 = .ok (.getfield 112, 3) := by decide +kernel
theorem dX5_read_42 : decode cX5_read 42 = .ok (.invokevirtual 113, 3) := by decide +kernel
theorem dX5_read_45 : decode cX5_read 45 = .ok (.iload_n 1, 1) := by decide +kernel
theorem dX5_read_46 : decode cX5_read 46 = .ok (.ireturn, 1) := by decide +kernel
set_option maxRecDepth 20000 in
theorem ggX5_hits_X5_isHit : GoodIn wsX5_hits wsX5_isHit := goodIn_r _ [12, 13, 14, 11, 15] (by decide +kernel) (by decide +kernel)
set_option maxRecDepth 20000 in
theorem gX5_hits_X5_isHit : GoodIn wsX5_hits (va_wsS RX5 117 yX5_isHit wsX5_isHit) := goodIn_app (goodIn_of _ (by decide +kernel)) ggX5_hits_X5_isHit
set_option maxRecDepth 20000 in
theorem ggX5_hits_X5_refuse : GoodIn wsX5_hits wsX5_refuse := goodIn_r _ [19, 20, 13, 14, 11, 15, 93, 94, 95, 96, 97, 98, 99, 100, 101, 102, 103, 104, 105, 106] (by decide +kernel) (by decide +kernel)
set_option maxRecDepth 20000 in
theorem gX5_hits_X5_refuse : GoodIn wsX5_hits (wsV RX5 70 RX5 yX5_refuse wsX5_refuse) := goodIn_app (goodIn_of _ (by decide +kernel)) ggX5_hits_X5_refuse
set_option maxRecDepth 20000 in
theorem ggX5_hits_X2_isDone : GoodIn wsX5_hits wsX2_isDone := goodIn_r _ [25, 26, 27, 112, 113, 114, 115, 116, 117, 118, 119] (by decide +kernel) (by decide +kernel)
set_option maxRecDepth 20000 in
theorem gX5_hits_X2_isDone : GoodIn wsX5_hits (wsV RX5 120 RX2 yX2_isDone wsX2_isDone) := goodIn_app (goodIn_of _ (by decide +kernel)) ggX5_hits_X2_isDone
set_option maxRecDepth 20000 in
theorem ggX5_hits_X1_remember : GoodIn wsX5_hits wsX1_remember := goodIn_r _ [32, 33, 34, 35, 36, 37, 38, 39, 40, 41, 42, 43, 44, 45, 46, 47, 48, 49, 50, 51, 52, 53, 54, 55, 56, 57, 58, 107, 108, 109, 110, 111, 112, 113, 114, 115, 116, 117, 118, 119, 120, 121, 122] (by decide +kernel) (by decide +kernel)
set_option maxRecDepth 20000 in
theorem gX5_hits_X1_remember : GoodIn wsX5_hits (wsV RX5 130 RX1 yX1_remember wsX1_remember) := goodIn_app (goodIn_of _ (by decide +kernel)) ggX5_hits_X1_remember
set_option maxRecDepth 20000 in
theorem ggX5_hits_X2_ball : GoodIn wsX5_hits wsX2_ball := goodIn_r _ [62, 63, 64, 65, 24, 66, 67, 68, 69, 26, 70, 71, 22, 23, 25, 27, 72, 11, 73, 74, 75, 7, 76, 5, 6, 8, 77, 78, 79, 80, 81, 82, 83, 84, 85, 86, 87, 88, 14, 15, 89, 90, 91, 92, 112, 113, 114, 115, 116, 117, 118, 119] (by decide +kernel) (by decide +kernel)
set_option maxRecDepth 20000 in
theorem gX5_hits_X2_ball : GoodIn wsX5_hits (wsV RX5 133 RX2 yX2_ball wsX2_ball) := goodIn_app (goodIn_of _ (by decide +kernel)) ggX5_hits_X2_ball
theorem dX5_hits_0 : decode cX5_hits 0 = .ok (.iload_n 1, 1) := by decide +kernel
theorem dX5_hits_1 : decode cX5_hits 1 = .ok (.invokestatic 117, 3) := by decide +kernel
theorem dX5_hits_4 : decode cX5_hits 4 = .ok (.ifCond .ne 10, 3) := by decide +kernel
theorem dX5_hits_7 : decode cX5_hits 7 = .ok (.aload_n 0, 1) := by decide +kernel
theorem dX5_hits_8 : decode cX5_hits 8 = .ok (.bipush (-2), 2) := by decide +kernel
theorem dX5_hits_10 : decode cX5_hits 10 = .ok (.invokevirtual 70, 3) := by decide +kernel
theorem dX5_hits_13 : decode cX5_hits 13 = .ok (.ireturn, 1) := by decide +kernel
theorem dX5_hits_14 : decode cX5_hits 14 = .ok (.aload_n 0, 1) := by decide +kernel
theorem dX5_hits_15 : decode cX5_hits 15 = .ok (.getfield 12, 3) := by decide +kernel
theorem dX5_hits_18 : decode cX5_hits 18 = .ok (.getfield 74, 3) := by decide +kernel
theorem dX5_hits_21 : decode cX5_hits 21 = .ok (.invokevirtual 120, 3) := by decide +kernel
theorem dX5_hits_24 : decode cX5_hits 24 = .ok (.ifCond .ne 19, 3) := by decide +kernel
theorem dX5_hits_27 : decode cX5_hits 27 = .ok (.aload_n 0, 1) := by decide +kernel
theorem dX5_hits_28 : decode cX5_hits 28 = .ok (.getfield 12, 3) := by decide +kernel
theorem dX5_hits_31 : decode cX5_hits 31 = .ok (.getfield 74, 3) := by decide +kernel
theorem dX5_hits_34 : decode cX5_hits 34 = .ok (.getfield 124, 3) := by decide +kernel
theorem dX5_hits_37 : decode cX5_hits 37 = .ok (.sipush 9999, 3) := by decide +kernel
theorem dX5_hits_40 : decode cX5_hits 40 = .ok (.if_icmp .lt 10, 3) := by decide +kernel
theorem dX5_hits_43 : decode cX5_hits 43 = .ok (.aload_n 0, 1) := by decide +kernel
theorem dX5_hits_44 : decode cX5_hits 44 = .ok (.bipush (-3), 2) := by decide +kernel
theorem dX5_hits_46 : decode cX5_hits 46 = .ok (.invokevirtual 70, 3) := by decide +kernel
theorem dX5_hits_49 : decode cX5_hits 49 = .ok (.ireturn, 1) := by decide +kernel
theorem dX5_hits_50 : decode cX5_hits 50 = .ok (.aload_n 0, 1) := by decide +kernel
theorem dX5_hits_51 : decode cX5_hits 51 = .ok (.getfield 12, 3) := by decide +kernel
theorem dX5_hits_54 : decode cX5_hits 54 = .ok (.getfield 74, 3) := by decide +kernel
theorem dX5_hits_57 : decode cX5_hits 57 = .ok (.getfield 127, 3) := by decide +kernel
theorem dX5_hits_60 : decode cX5_hits 60 = .ok (.istore_n 2, 1) := by decide +kernel
theorem dX5_hits_61 : decode cX5_hits 61 = .ok (.aload_n 0, 1) := by decide +kernel
theorem dX5_hits_62 : decode cX5_hits 62 = .ok (.getfield 12, 3) := by decide +kernel
theorem dX5_hits_65 : decode cX5_hits 65 = .ok (.invokevirtual 130, 3) := by decide +kernel
theorem dX5_hits_68 : decode cX5_hits 68 = .ok (.aload_n 0, 1) := by decide +kernel
theorem dX5_hits_69 : decode cX5_hits 69 = .ok (.getfield 12, 3) := by decide +kernel
theorem dX5_hits_72 : decode cX5_hits 72 = .ok (.getfield 74, 3) := by decide +kernel
theorem dX5_hits_75 : decode cX5_hits 75 = .ok (.iload_n 1, 1) := by decide +kernel
theorem dX5_hits_76 : decode cX5_hits 76 = .ok (.invokevirtual 133, 3) := by decide +kernel
theorem dX5_hits_79 : decode cX5_hits 79 = .ok (.pop, 1) := by decide +kernel
theorem dX5_hits_80 : decode cX5_hits 80 = .ok (.aload_n 0, 1) := by decide +kernel
theorem dX5_hits_81 : decode cX5_hits 81 = .ok (.getfield 12, 3) := by decide +kernel
theorem dX5_hits_84 : decode cX5_hits 84 = .ok (.getfield 74, 3) := by decide +kernel
theorem dX5_hits_87 : decode cX5_hits 87 = .ok (.sipush 9999, 3) := by decide +kernel
theorem dX5_hits_90 : decode cX5_hits 90 = .ok (.aload_n 0, 1) := by decide +kernel
theorem dX5_hits_91 : decode cX5_hits 91 = .ok (.getfield 12, 3) := by decide +kernel
theorem dX5_hits_94 : decode cX5_hits 94 = .ok (.getfield 74, 3) := by decide +kernel
theorem dX5_hits_97 : decode cX5_hits 97 = .ok (.getfield 127, 3) := by decide +kernel
theorem dX5_hits_100 : decode cX5_hits 100 = .ok (.invokestatic 136, 3) := by decide +kernel
theorem dX5_hits_103 : decode cX5_hits 103 = .ok (.putfield 127, 3) := by decide +kernel
theorem dX5_hits_106 : decode cX5_hits 106 = .ok (.aload_n 0, 1) := by decide +kernel
theorem dX5_hits_107 : decode cX5_hits 107 = .ok (.getfield 12, 3) := by decide +kernel
theorem dX5_hits_110 : decode cX5_hits 110 = .ok (.getfield 74, 3) := by decide +kernel
theorem dX5_hits_113 : decode cX5_hits 113 = .ok (.getfield 127, 3) := by decide +kernel
theorem dX5_hits_116 : decode cX5_hits 116 = .ok (.iload_n 2, 1) := by decide +kernel
theorem dX5_hits_117 : decode cX5_hits 117 = .ok (.isub, 1) := by decide +kernel
theorem dX5_hits_118 : decode cX5_hits 118 = .ok (.ireturn, 1) := by decide +kernel
set_option maxRecDepth 20000 in
theorem ggX5_sends_X5_isBatter : GoodIn wsX5_sends wsX5_isBatter := goodIn_r _ [9, 1, 2, 10, 11, 12, 8, 13, 50, 51, 52, 53, 54, 55, 56, 57, 58, 59, 60, 61, 62, 63, 64, 65, 66, 67, 68, 69, 70, 71, 72, 73, 74, 75, 76] (by decide +kernel) (by decide +kernel)
set_option maxRecDepth 20000 in
theorem gX5_sends_X5_isBatter : GoodIn wsX5_sends (wsV RX5 141 RX5 yX5_isBatter wsX5_isBatter) := goodIn_app (goodIn_of _ (by decide +kernel)) ggX5_sends_X5_isBatter
set_option maxRecDepth 20000 in
theorem ggX5_sends_X5_refuse : GoodIn wsX5_sends wsX5_refuse := goodIn_r _ [17, 18, 11, 12, 8, 13, 50, 51, 52, 53, 54, 55, 56, 57, 58, 59, 60, 61, 62, 63] (by decide +kernel) (by decide +kernel)
set_option maxRecDepth 20000 in
theorem gX5_sends_X5_refuse : GoodIn wsX5_sends (wsV RX5 70 RX5 yX5_refuse wsX5_refuse) := goodIn_app (goodIn_of _ (by decide +kernel)) ggX5_sends_X5_refuse
set_option maxRecDepth 20000 in
theorem ggX5_sends_X1_remember : GoodIn wsX5_sends wsX1_remember := goodIn_r _ [23, 24, 25, 26, 27, 28, 29, 30, 31, 32, 33, 34, 35, 36, 37, 38, 39, 40, 41, 42, 43, 44, 45, 46, 47, 48, 49, 64, 65, 66, 67, 68, 69, 70, 71, 72, 73, 74, 75, 76, 77, 78, 79] (by decide +kernel) (by decide +kernel)
set_option maxRecDepth 20000 in
theorem gX5_sends_X1_remember : GoodIn wsX5_sends (wsV RX5 130 RX1 yX1_remember wsX1_remember) := goodIn_app (goodIn_of _ (by decide +kernel)) ggX5_sends_X1_remember
theorem dX5_sends_0 : decode cX5_sends 0 = .ok (.aload_n 0, 1) := by decide +kernel
theorem dX5_sends_1 : decode cX5_sends 1 = .ok (.iload_n 1, 1) := by decide +kernel
theorem dX5_sends_2 : decode cX5_sends 2 = .ok (.invokevirtual 141, 3) := by decide +kernel
theorem dX5_sends_5 : decode cX5_sends 5 = .ok (.ifCond .ne 10, 3) := by decide +kernel
theorem dX5_sends_8 : decode cX5_sends 8 = .ok (.aload_n 0, 1) := by decide +kernel
theorem dX5_sends_9 : decode cX5_sends 9 = .ok (.bipush (-2), 2) := by decide +kernel
theorem dX5_sends_11 : decode cX5_sends 11 = .ok (.invokevirtual 70, 3) := by decide +kernel
theorem dX5_sends_14 : decode cX5_sends 14 = .ok (.ireturn, 1) := by decide +kernel
theorem dX5_sends_15 : decode cX5_sends 15 = .ok (.aload_n 0, 1) := by decide +kernel
theorem dX5_sends_16 : decode cX5_sends 16 = .ok (.getfield 12, 3) := by decide +kernel
theorem dX5_sends_19 : decode cX5_sends 19 = .ok (.getfield 74, 3) := by decide +kernel
theorem dX5_sends_22 : decode cX5_sends 22 = .ok (.getfield 144, 3) := by decide +kernel
theorem dX5_sends_25 : decode cX5_sends 25 = .ok (.iload_n 1, 1) := by decide +kernel
theorem dX5_sends_26 : decode cX5_sends 26 = .ok (.iaload, 1) := by decide +kernel
theorem dX5_sends_27 : decode cX5_sends 27 = .ok (.ifCond .ne 17, 3) := by decide +kernel
theorem dX5_sends_30 : decode cX5_sends 30 = .ok (.aload_n 0, 1) := by decide +kernel
theorem dX5_sends_31 : decode cX5_sends 31 = .ok (.getfield 12, 3) := by decide +kernel
theorem dX5_sends_34 : decode cX5_sends 34 = .ok (.getfield 74, 3) := by decide +kernel
theorem dX5_sends_37 : decode cX5_sends 37 = .ok (.getfield 147, 3) := by decide +kernel
theorem dX5_sends_40 : decode cX5_sends 40 = .ok (.iload_n 1, 1) := by decide +kernel
theorem dX5_sends_41 : decode cX5_sends 41 = .ok (.if_icmp .ne 10, 3) := by decide +kernel
theorem dX5_sends_44 : decode cX5_sends 44 = .ok (.aload_n 0, 1) := by decide +kernel
theorem dX5_sends_45 : decode cX5_sends 45 = .ok (.bipush (-3), 2) := by decide +kernel
theorem dX5_sends_47 : decode cX5_sends 47 = .ok (.invokevirtual 70, 3) := by decide +kernel
theorem dX5_sends_50 : decode cX5_sends 50 = .ok (.ireturn, 1) := by decide +kernel
theorem dX5_sends_51 : decode cX5_sends 51 = .ok (.aload_n 0, 1) := by decide +kernel
theorem dX5_sends_52 : decode cX5_sends 52 = .ok (.getfield 12, 3) := by decide +kernel
theorem dX5_sends_55 : decode cX5_sends 55 = .ok (.getfield 74, 3) := by decide +kernel
theorem dX5_sends_58 : decode cX5_sends 58 = .ok (.getfield 147, 3) := by decide +kernel
theorem dX5_sends_61 : decode cX5_sends 61 = .ok (.istore_n 2, 1) := by decide +kernel
theorem dX5_sends_62 : decode cX5_sends 62 = .ok (.aload_n 0, 1) := by decide +kernel
theorem dX5_sends_63 : decode cX5_sends 63 = .ok (.getfield 12, 3) := by decide +kernel
theorem dX5_sends_66 : decode cX5_sends 66 = .ok (.invokevirtual 130, 3) := by decide +kernel
theorem dX5_sends_69 : decode cX5_sends 69 = .ok (.aload_n 0, 1) := by decide +kernel
theorem dX5_sends_70 : decode cX5_sends 70 = .ok (.getfield 12, 3) := by decide +kernel
theorem dX5_sends_73 : decode cX5_sends 73 = .ok (.getfield 74, 3) := by decide +kernel
theorem dX5_sends_76 : decode cX5_sends 76 = .ok (.iload_n 1, 1) := by decide +kernel
theorem dX5_sends_77 : decode cX5_sends 77 = .ok (.putfield 147, 3) := by decide +kernel
theorem dX5_sends_80 : decode cX5_sends 80 = .ok (.iload_n 2, 1) := by decide +kernel
theorem dX5_sends_81 : decode cX5_sends 81 = .ok (.ireturn, 1) := by decide +kernel
set_option maxRecDepth 20000 in
theorem ggX5_row_X5_within : GoodIn wsX5_row wsX5_within := goodIn_r _ [6] (by decide +kernel) (by decide +kernel)
set_option maxRecDepth 20000 in
theorem gX5_row_X5_within : GoodIn wsX5_row (va_wsS RX5 97 yX5_within wsX5_within) := goodIn_app (goodIn_of _ (by decide +kernel)) ggX5_row_X5_within
set_option maxRecDepth 20000 in
theorem ggX5_row_X5_isHit : GoodIn wsX5_row wsX5_isHit := goodIn_r _ [9, 3, 4, 5, 6] (by decide +kernel) (by decide +kernel)
set_option maxRecDepth 20000 in
theorem gX5_row_X5_isHit : GoodIn wsX5_row (va_wsS RX5 117 yX5_isHit wsX5_isHit) := goodIn_app (goodIn_of _ (by decide +kernel)) ggX5_row_X5_isHit
set_option maxRecDepth 20000 in
theorem ggX5_row_X5_refuse : GoodIn wsX5_row wsX5_refuse := goodIn_r _ [13, 14, 3, 4, 5, 6, 15, 16, 17, 18, 19, 20, 21, 22, 23, 24, 25, 26, 27, 28] (by decide +kernel) (by decide +kernel)
set_option maxRecDepth 20000 in
theorem gX5_row_X5_refuse : GoodIn wsX5_row (wsV RX5 70 RX5 yX5_refuse wsX5_refuse) := goodIn_app (goodIn_of _ (by decide +kernel)) ggX5_row_X5_refuse
theorem dX5_row_0 : decode cX5_row 0 = .ok (.iload_n 1, 1) := by decide +kernel
theorem dX5_row_1 : decode cX5_row 1 = .ok (.iconst 0, 1) := by decide +kernel
theorem dX5_row_2 : decode cX5_row 2 = .ok (.bipush 7, 2) := by decide +kernel
theorem dX5_row_4 : decode cX5_row 4 = .ok (.invokestatic 97, 3) := by decide +kernel
theorem dX5_row_7 : decode cX5_row 7 = .ok (.ifCond .eq 10, 3) := by decide +kernel
theorem dX5_row_10 : decode cX5_row 10 = .ok (.iload_n 2, 1) := by decide +kernel
theorem dX5_row_11 : decode cX5_row 11 = .ok (.invokestatic 117, 3) := by decide +kernel
theorem dX5_row_14 : decode cX5_row 14 = .ok (.ifCond .ne 10, 3) := by decide +kernel
theorem dX5_row_17 : decode cX5_row 17 = .ok (.aload_n 0, 1) := by decide +kernel
theorem dX5_row_18 : decode cX5_row 18 = .ok (.bipush (-2), 2) := by decide +kernel
theorem dX5_row_20 : decode cX5_row 20 = .ok (.invokevirtual 70, 3) := by decide +kernel
theorem dX5_row_23 : decode cX5_row 23 = .ok (.ireturn, 1) := by decide +kernel
theorem dX5_row_24 : decode cX5_row 24 = .ok (.aload_n 0, 1) := by decide +kernel
theorem dX5_row_25 : decode cX5_row 25 = .ok (.getfield 12, 3) := by decide +kernel
theorem dX5_row_28 : decode cX5_row 28 = .ok (.getfield 150, 3) := by decide +kernel
theorem dX5_row_31 : decode cX5_row 31 = .ok (.iload_n 1, 1) := by decide +kernel
theorem dX5_row_32 : decode cX5_row 32 = .ok (.iaload, 1) := by decide +kernel
theorem dX5_row_33 : decode cX5_row 33 = .ok (.istore_n 3, 1) := by decide +kernel
theorem dX5_row_34 : decode cX5_row 34 = .ok (.aload_n 0, 1) := by decide +kernel
theorem dX5_row_35 : decode cX5_row 35 = .ok (.getfield 12, 3) := by decide +kernel
theorem dX5_row_38 : decode cX5_row 38 = .ok (.getfield 150, 3) := by decide +kernel
theorem dX5_row_41 : decode cX5_row 41 = .ok (.iload_n 1, 1) := by decide +kernel
theorem dX5_row_42 : decode cX5_row 42 = .ok (.iload_n 2, 1) := by decide +kernel
theorem dX5_row_43 : decode cX5_row 43 = .ok (.iastore, 1) := by decide +kernel
theorem dX5_row_44 : decode cX5_row 44 = .ok (.iload_n 3, 1) := by decide +kernel
theorem dX5_row_45 : decode cX5_row 45 = .ok (.ireturn, 1) := by decide +kernel
set_option maxRecDepth 20000 in
theorem ggX5_undo_X4_size : GoodIn wsX5_undo wsX4_size := goodIn_r _ [9, 10, 11, 73, 74, 75] (by decide +kernel) (by decide +kernel)
set_option maxRecDepth 20000 in
theorem gX5_undo_X4_size : GoodIn wsX5_undo (wsV RX5 153 RX4 yX4_size wsX4_size) := goodIn_app (goodIn_of _ (by decide +kernel)) ggX5_undo_X4_size
set_option maxRecDepth 20000 in
theorem ggX5_undo_X5_refuse : GoodIn wsX5_undo wsX5_refuse := goodIn_r _ [16, 17, 18, 19, 15, 20, 46, 47, 48, 49, 50, 51, 52, 53, 54, 55, 56, 57, 58, 59] (by decide +kernel) (by decide +kernel)
set_option maxRecDepth 20000 in
theorem gX5_undo_X5_refuse : GoodIn wsX5_undo (wsV RX5 70 RX5 yX5_refuse wsX5_refuse) := goodIn_app (goodIn_of _ (by decide +kernel)) ggX5_undo_X5_refuse
set_option maxRecDepth 20000 in
theorem ggX5_undo_X1_goBack : GoodIn wsX5_undo wsX1_goBack := goodIn_r _ [25, 26, 27, 28, 29, 30, 31, 32, 6, 7, 8, 9, 10, 11, 33, 34, 35, 36, 37, 38, 39, 40, 41, 42, 43, 44, 45, 60, 61, 62, 63, 64, 65, 66, 67, 68, 69, 70, 71, 72, 73, 74, 75] (by decide +kernel) (by decide +kernel)
set_option maxRecDepth 20000 in
theorem gX5_undo_X1_goBack : GoodIn wsX5_undo (wsV RX5 156 RX1 yX1_goBack wsX1_goBack) := goodIn_app (goodIn_of _ (by decide +kernel)) ggX5_undo_X1_goBack
theorem dX5_undo_0 : decode cX5_undo 0 = .ok (.aload_n 0, 1) := by decide +kernel
theorem dX5_undo_1 : decode cX5_undo 1 = .ok (.getfield 12, 3) := by decide +kernel
theorem dX5_undo_4 : decode cX5_undo 4 = .ok (.getfield 88, 3) := by decide +kernel
theorem dX5_undo_7 : decode cX5_undo 7 = .ok (.invokevirtual 153, 3) := by decide +kernel
theorem dX5_undo_10 : decode cX5_undo 10 = .ok (.ifCond .ne 10, 3) := by decide +kernel
theorem dX5_undo_13 : decode cX5_undo 13 = .ok (.aload_n 0, 1) := by decide +kernel
theorem dX5_undo_14 : decode cX5_undo 14 = .ok (.bipush (-3), 2) := by decide +kernel
theorem dX5_undo_16 : decode cX5_undo 16 = .ok (.invokevirtual 70, 3) := by decide +kernel
theorem dX5_undo_19 : decode cX5_undo 19 = .ok (.ireturn, 1) := by decide +kernel
theorem dX5_undo_20 : decode cX5_undo 20 = .ok (.aload_n 0, 1) := by decide +kernel
theorem dX5_undo_21 : decode cX5_undo 21 = .ok (.getfield 12, 3) := by decide +kernel
theorem dX5_undo_24 : decode cX5_undo 24 = .ok (.invokevirtual 156, 3) := by decide +kernel
theorem dX5_undo_27 : decode cX5_undo 27 = .ok (.aload_n 0, 1) := by decide +kernel
theorem dX5_undo_28 : decode cX5_undo 28 = .ok (.getfield 12, 3) := by decide +kernel
theorem dX5_undo_31 : decode cX5_undo 31 = .ok (.getfield 74, 3) := by decide +kernel
theorem dX5_undo_34 : decode cX5_undo 34 = .ok (.getfield 124, 3) := by decide +kernel
theorem dX5_undo_37 : decode cX5_undo 37 = .ok (.ireturn, 1) := by decide +kernel
set_option maxRecDepth 20000 in
theorem ggX5_of_X5_isBatter : GoodIn wsX5_of wsX5_isBatter := goodIn_r _ [7, 1, 2, 8, 9, 10, 6, 11, 26, 27, 28, 29, 30, 31, 32, 33, 34, 35, 36, 37, 38, 39, 40, 41, 42, 43, 44, 45, 46, 47, 48, 49, 50, 51, 52] (by decide +kernel) (by decide +kernel)
set_option maxRecDepth 20000 in
theorem gX5_of_X5_isBatter : GoodIn wsX5_of (wsV RX5 141 RX5 yX5_isBatter wsX5_isBatter) := goodIn_app (goodIn_of _ (by decide +kernel)) ggX5_of_X5_isBatter
set_option maxRecDepth 20000 in
theorem ggX5_of_X5_within : GoodIn wsX5_of wsX5_within := goodIn_r _ [11] (by decide +kernel) (by decide +kernel)
set_option maxRecDepth 20000 in
theorem gX5_of_X5_within : GoodIn wsX5_of (va_wsS RX5 97 yX5_within wsX5_within) := goodIn_app (goodIn_of _ (by decide +kernel)) ggX5_of_X5_within
set_option maxRecDepth 20000 in
theorem ggX5_of_X5_refuse : GoodIn wsX5_of wsX5_refuse := goodIn_r _ [15, 16, 9, 10, 6, 11, 26, 27, 28, 29, 30, 31, 32, 33, 34, 35, 36, 37, 38, 39] (by decide +kernel) (by decide +kernel)
set_option maxRecDepth 20000 in
theorem gX5_of_X5_refuse : GoodIn wsX5_of (wsV RX5 70 RX5 yX5_refuse wsX5_refuse) := goodIn_app (goodIn_of _ (by decide +kernel)) ggX5_of_X5_refuse
set_option maxRecDepth 20000 in
theorem ggX5_of_X2_told : GoodIn wsX5_of wsX2_told := goodIn_r _ [21, 22, 23, 24, 25, 10, 6, 11, 45, 46, 47, 48, 49, 50, 51, 52] (by decide +kernel) (by decide +kernel)
set_option maxRecDepth 20000 in
theorem gX5_of_X2_told : GoodIn wsX5_of (wsV RX5 159 RX2 yX2_told wsX2_told) := goodIn_app (goodIn_of _ (by decide +kernel)) ggX5_of_X2_told
theorem dX5_of_0 : decode cX5_of 0 = .ok (.aload_n 0, 1) := by decide +kernel
theorem dX5_of_1 : decode cX5_of 1 = .ok (.iload_n 1, 1) := by decide +kernel
theorem dX5_of_2 : decode cX5_of 2 = .ok (.invokevirtual 141, 3) := by decide +kernel
theorem dX5_of_5 : decode cX5_of 5 = .ok (.ifCond .eq 12, 3) := by decide +kernel
theorem dX5_of_8 : decode cX5_of 8 = .ok (.iload_n 2, 1) := by decide +kernel
theorem dX5_of_9 : decode cX5_of 9 = .ok (.iconst 0, 1) := by decide +kernel
theorem dX5_of_10 : decode cX5_of 10 = .ok (.iconst 2, 1) := by decide +kernel
theorem dX5_of_11 : decode cX5_of 11 = .ok (.invokestatic 97, 3) := by decide +kernel
theorem dX5_of_14 : decode cX5_of 14 = .ok (.ifCond .ne 10, 3) := by decide +kernel
theorem dX5_of_17 : decode cX5_of 17 = .ok (.aload_n 0, 1) := by decide +kernel
theorem dX5_of_18 : decode cX5_of 18 = .ok (.bipush (-2), 2) := by decide +kernel
theorem dX5_of_20 : decode cX5_of 20 = .ok (.invokevirtual 70, 3) := by decide +kernel
theorem dX5_of_23 : decode cX5_of 23 = .ok (.ireturn, 1) := by decide +kernel
theorem dX5_of_24 : decode cX5_of 24 = .ok (.aload_n 0, 1) := by decide +kernel
theorem dX5_of_25 : decode cX5_of 25 = .ok (.getfield 12, 3) := by decide +kernel
theorem dX5_of_28 : decode cX5_of 28 = .ok (.getfield 74, 3) := by decide +kernel
theorem dX5_of_31 : decode cX5_of 31 = .ok (.iload_n 1, 1) := by decide +kernel
theorem dX5_of_32 : decode cX5_of 32 = .ok (.iload_n 2, 1) := by decide +kernel
theorem dX5_of_33 : decode cX5_of 33 = .ok (.invokevirtual 159, 3) := by decide +kernel
theorem dX5_of_36 : decode cX5_of 36 = .ok (.ireturn, 1) := by decide +kernel
set_option maxRecDepth 20000 in
theorem ggX5_worth_X5_isHit : GoodIn wsX5_worth wsX5_isHit := goodIn_r _ [10, 11, 12, 9, 13] (by decide +kernel) (by decide +kernel)
set_option maxRecDepth 20000 in
theorem gX5_worth_X5_isHit : GoodIn wsX5_worth (va_wsS RX5 117 yX5_isHit wsX5_isHit) := goodIn_app (goodIn_of _ (by decide +kernel)) ggX5_worth_X5_isHit
set_option maxRecDepth 20000 in
theorem ggX5_worth_X5_within : GoodIn wsX5_worth wsX5_within := goodIn_r _ [13] (by decide +kernel) (by decide +kernel)
set_option maxRecDepth 20000 in
theorem gX5_worth_X5_within : GoodIn wsX5_worth (va_wsS RX5 97 yX5_within wsX5_within) := goodIn_app (goodIn_of _ (by decide +kernel)) ggX5_worth_X5_within
set_option maxRecDepth 20000 in
theorem ggX5_worth_X5_refuse : GoodIn wsX5_worth wsX5_refuse := goodIn_r _ [17, 18, 11, 12, 9, 13, 45, 46, 47, 48, 49, 50, 51, 52, 53, 54, 55, 56, 57, 58] (by decide +kernel) (by decide +kernel)
set_option maxRecDepth 20000 in
theorem gX5_worth_X5_refuse : GoodIn wsX5_worth (wsV RX5 70 RX5 yX5_refuse wsX5_refuse) := goodIn_app (goodIn_of _ (by decide +kernel)) ggX5_worth_X5_refuse
set_option maxRecDepth 20000 in
theorem ggX5_worth_X2_comesTo : GoodIn wsX5_worth wsX2_comesTo := goodIn_r _ [23, 24, 25, 26, 9, 27, 3, 4, 5, 6, 28, 29, 30, 64, 65, 66, 67, 68, 69, 70, 71] (by decide +kernel) (by decide +kernel)
set_option maxRecDepth 20000 in
theorem gX5_worth_X2_comesTo : GoodIn wsX5_worth (wsV RX5 162 RX2 yX2_comesTo wsX2_comesTo) := goodIn_app (goodIn_of _ (by decide +kernel)) ggX5_worth_X2_comesTo
set_option maxRecDepth 20000 in
theorem ggX5_worth_X2_postsBy : GoodIn wsX5_worth wsX2_postsBy := goodIn_r _ [34, 24, 25, 35, 36, 37, 38, 39, 40, 22, 41, 42, 26, 9, 27, 3, 4, 5, 6, 28, 29, 30, 43, 44, 64, 65, 66, 67, 68, 69, 70, 71] (by decide +kernel) (by decide +kernel)
set_option maxRecDepth 20000 in
theorem gX5_worth_X2_postsBy : GoodIn wsX5_worth (wsV RX5 165 RX2 yX2_postsBy wsX2_postsBy) := goodIn_app (goodIn_of _ (by decide +kernel)) ggX5_worth_X2_postsBy
theorem dX5_worth_0 : decode cX5_worth 0 = .ok (.iload_n 1, 1) := by decide +kernel
theorem dX5_worth_1 : decode cX5_worth 1 = .ok (.invokestatic 117, 3) := by decide +kernel
theorem dX5_worth_4 : decode cX5_worth 4 = .ok (.ifCond .eq 12, 3) := by decide +kernel
theorem dX5_worth_7 : decode cX5_worth 7 = .ok (.iload_n 2, 1) := by decide +kernel
theorem dX5_worth_8 : decode cX5_worth 8 = .ok (.iconst 0, 1) := by decide +kernel
theorem dX5_worth_9 : decode cX5_worth 9 = .ok (.iconst 1, 1) := by decide +kernel
theorem dX5_worth_10 : decode cX5_worth 10 = .ok (.invokestatic 97, 3) := by decide +kernel
theorem dX5_worth_13 : decode cX5_worth 13 = .ok (.ifCond .ne 10, 3) := by decide +kernel
theorem dX5_worth_16 : decode cX5_worth 16 = .ok (.aload_n 0, 1) := by decide +kernel
theorem dX5_worth_17 : decode cX5_worth 17 = .ok (.bipush (-2), 2) := by decide +kernel
theorem dX5_worth_19 : decode cX5_worth 19 = .ok (.invokevirtual 70, 3) := by decide +kernel
theorem dX5_worth_22 : decode cX5_worth 22 = .ok (.ireturn, 1) := by decide +kernel
theorem dX5_worth_23 : decode cX5_worth 23 = .ok (.iload_n 2, 1) := by decide +kernel
theorem dX5_worth_24 : decode cX5_worth 24 = .ok (.ifCond .ne 17, 3) := by decide +kernel
theorem dX5_worth_27 : decode cX5_worth 27 = .ok (.aload_n 0, 1) := by decide +kernel
theorem dX5_worth_28 : decode cX5_worth 28 = .ok (.getfield 12, 3) := by decide +kernel
theorem dX5_worth_31 : decode cX5_worth 31 = .ok (.getfield 74, 3) := by decide +kernel
theorem dX5_worth_34 : decode cX5_worth 34 = .ok (.iload_n 1, 1) := by decide +kernel
theorem dX5_worth_35 : decode cX5_worth 35 = .ok (.invokevirtual 162, 3) := by decide +kernel
theorem dX5_worth_38 : decode cX5_worth 38 = .ok (.goto 18, 3) := by decide +kernel
theorem dX5_worth_41 : decode cX5_worth 41 = .ok (.iconst 0, 1) := by decide +kernel
theorem dX5_worth_42 : decode cX5_worth 42 = .ok (.aload_n 0, 1) := by decide +kernel
theorem dX5_worth_43 : decode cX5_worth 43 = .ok (.getfield 12, 3) := by decide +kernel
theorem dX5_worth_46 : decode cX5_worth 46 = .ok (.getfield 74, 3) := by decide +kernel
theorem dX5_worth_49 : decode cX5_worth 49 = .ok (.iload_n 1, 1) := by decide +kernel
theorem dX5_worth_50 : decode cX5_worth 50 = .ok (.invokevirtual 165, 3) := by decide +kernel
theorem dX5_worth_53 : decode cX5_worth 53 = .ok (.invokestatic 168, 3) := by decide +kernel
theorem dX5_worth_56 : decode cX5_worth 56 = .ok (.ireturn, 1) := by decide +kernel
set_option maxRecDepth 20000 in
theorem ggX5_score_X5_within : GoodIn wsX5_score wsX5_within := goodIn_r _ [8] (by decide +kernel) (by decide +kernel)
set_option maxRecDepth 20000 in
theorem gX5_score_X5_within : GoodIn wsX5_score (va_wsS RX5 97 yX5_within wsX5_within) := goodIn_app (goodIn_of _ (by decide +kernel)) ggX5_score_X5_within
set_option maxRecDepth 20000 in
theorem ggX5_score_X5_refuse : GoodIn wsX5_score wsX5_refuse := goodIn_r _ [12, 13, 5, 6, 7, 8, 72, 73, 74, 75, 76, 77, 78, 79, 80, 81, 82, 83, 84, 85] (by decide +kernel) (by decide +kernel)
set_option maxRecDepth 20000 in
theorem gX5_score_X5_refuse : GoodIn wsX5_score (wsV RX5 70 RX5 yX5_refuse wsX5_refuse) := goodIn_app (goodIn_of _ (by decide +kernel)) ggX5_score_X5_refuse
set_option maxRecDepth 20000 in
theorem ggX5_score_X5_scoreAgainst : GoodIn wsX5_score wsX5_scoreAgainst := goodIn_r _ [17, 18, 1, 2, 3, 4, 19, 20, 21, 22, 23, 24, 25, 26, 27, 28, 29, 30, 31, 32, 33, 34, 35, 36, 37, 38, 39, 40, 41, 42, 43, 44, 45, 46, 47, 48, 49, 7, 50, 51, 52, 53, 54, 55, 56, 57, 58, 59, 60, 61, 62, 63, 64, 65, 66, 67, 6, 8, 68, 69, 70, 71, 72, 73, 74, 75, 76, 77, 78, 79, 80, 81, 82, 83, 84, 85, 86, 87, 88, 89, 90, 91, 92, 93, 94, 95, 96, 97, 98] (by decide +kernel) (by decide +kernel)
set_option maxRecDepth 20000 in
theorem gX5_score_X5_scoreAgainst : GoodIn wsX5_score (wsV RX5 171 RX5 yX5_scoreAgainst wsX5_scoreAgainst) := goodIn_app (goodIn_of _ (by decide +kernel)) ggX5_score_X5_scoreAgainst
theorem dX5_score_0 : decode cX5_score 0 = .ok (.iload_n 1, 1) := by decide +kernel
theorem dX5_score_1 : decode cX5_score 1 = .ok (.iconst 0, 1) := by decide +kernel
theorem dX5_score_2 : decode cX5_score 2 = .ok (.bipush 8, 2) := by decide +kernel
theorem dX5_score_4 : decode cX5_score 4 = .ok (.invokestatic 97, 3) := by decide +kernel
theorem dX5_score_7 : decode cX5_score 7 = .ok (.ifCond .ne 10, 3) := by decide +kernel
theorem dX5_score_10 : decode cX5_score 10 = .ok (.aload_n 0, 1) := by decide +kernel
theorem dX5_score_11 : decode cX5_score 11 = .ok (.bipush (-2), 2) := by decide +kernel
theorem dX5_score_13 : decode cX5_score 13 = .ok (.invokevirtual 70, 3) := by decide +kernel
theorem dX5_score_16 : decode cX5_score 16 = .ok (.ireturn, 1) := by decide +kernel
theorem dX5_score_17 : decode cX5_score 17 = .ok (.aload_n 0, 1) := by decide +kernel
theorem dX5_score_18 : decode cX5_score 18 = .ok (.aload_n 0, 1) := by decide +kernel
theorem dX5_score_19 : decode cX5_score 19 = .ok (.getfield 12, 3) := by decide +kernel
theorem dX5_score_22 : decode cX5_score 22 = .ok (.getfield 74, 3) := by decide +kernel
theorem dX5_score_25 : decode cX5_score 25 = .ok (.getfield 85, 3) := by decide +kernel
theorem dX5_score_28 : decode cX5_score 28 = .ok (.aload_n 0, 1) := by decide +kernel
theorem dX5_score_29 : decode cX5_score 29 = .ok (.getfield 12, 3) := by decide +kernel
theorem dX5_score_32 : decode cX5_score 32 = .ok (.getfield 74, 3) := by decide +kernel
theorem dX5_score_35 : decode cX5_score 35 = .ok (.getfield 147, 3) := by decide +kernel
theorem dX5_score_38 : decode cX5_score 38 = .ok (.iload_n 1, 1) := by decide +kernel
theorem dX5_score_39 : decode cX5_score 39 = .ok (.invokevirtual 171, 3) := by decide +kernel
theorem dX5_score_42 : decode cX5_score 42 = .ok (.ireturn, 1) := by decide +kernel
set_option maxRecDepth 20000 in
theorem ggX5_order_X5_within : GoodIn wsX5_order wsX5_within := goodIn_r _ [8] (by decide +kernel) (by decide +kernel)
set_option maxRecDepth 20000 in
theorem gX5_order_X5_within : GoodIn wsX5_order (va_wsS RX5 97 yX5_within wsX5_within) := goodIn_app (goodIn_of _ (by decide +kernel)) ggX5_order_X5_within
set_option maxRecDepth 20000 in
theorem ggX5_order_X5_refuse : GoodIn wsX5_order wsX5_refuse := goodIn_r _ [12, 13, 5, 6, 7, 8, 89, 90, 91, 92, 93, 94, 95, 96, 97, 98, 99, 100, 101, 102] (by decide +kernel) (by decide +kernel)
set_option maxRecDepth 20000 in
theorem gX5_order_X5_refuse : GoodIn wsX5_order (wsV RX5 70 RX5 yX5_refuse wsX5_refuse) := goodIn_app (goodIn_of _ (by decide +kernel)) ggX5_order_X5_refuse
set_option maxRecDepth 20000 in
theorem ggX5_order_X5_findBestTurn : GoodIn wsX5_order wsX5_findBestTurn := goodIn_r _ [17, 1, 2, 3, 18, 19, 20, 4, 21, 22, 23, 24, 25, 26, 27, 28, 29, 30, 31, 32, 33, 34, 35, 36, 37, 38, 39, 40, 6, 7, 8, 41, 42, 43, 44, 45, 46, 47, 48, 49, 50, 51, 52, 53, 54, 55, 56, 57, 58, 59, 60, 61, 62, 63, 64, 65, 66, 67, 68, 69, 70, 71, 72, 73, 74, 75, 76, 77, 78, 79, 80, 81, 82, 83, 84, 85, 86, 87, 88, 89, 90, 91, 92, 93, 94, 95, 96, 97, 98, 99, 100, 101, 102, 103, 104, 105, 106, 107, 108, 109, 110, 111, 112, 113, 114, 115] (by decide +kernel) (by decide +kernel)
set_option maxRecDepth 20000 in
theorem gX5_order_X5_findBestTurn : GoodIn wsX5_order (wsV RX5 175 RX5 yX5_findBestTurn wsX5_findBestTurn) := goodIn_app (goodIn_of _ (by decide +kernel)) ggX5_order_X5_findBestTurn
theorem dX5_order_0 : decode cX5_order 0 = .ok (.iload_n 1, 1) := by decide +kernel
theorem dX5_order_1 : decode cX5_order 1 = .ok (.iconst 1, 1) := by decide +kernel
theorem dX5_order_2 : decode cX5_order 2 = .ok (.bipush 8, 2) := by decide +kernel
theorem dX5_order_4 : decode cX5_order 4 = .ok (.invokestatic 97, 3) := by decide +kernel
theorem dX5_order_7 : decode cX5_order 7 = .ok (.ifCond .eq 8, 3) := by decide +kernel
theorem dX5_order_10 : decode cX5_order 10 = .ok (.iload_n 2, 1) := by decide +kernel
theorem dX5_order_11 : decode cX5_order 11 = .ok (.iconst (-1), 1) := by decide +kernel
theorem dX5_order_12 : decode cX5_order 12 = .ok (.if_icmp .ge 13, 3) := by decide +kernel
theorem dX5_order_15 : decode cX5_order 15 = .ok (.aload_n 0, 1) := by decide +kernel
theorem dX5_order_16 : decode cX5_order 16 = .ok (.bipush (-2), 2) := by decide +kernel
theorem dX5_order_18 : decode cX5_order 18 = .ok (.invokevirtual 70, 3) := by decide +kernel
theorem dX5_order_21 : decode cX5_order 21 = .ok (.pop, 1) := by decide +kernel
theorem dX5_order_22 : decode cX5_order 22 = .ok (.bipush (-10), 2) := by decide +kernel
theorem dX5_order_24 : decode cX5_order 24 = .ok (.ireturn, 1) := by decide +kernel
theorem dX5_order_25 : decode cX5_order 25 = .ok (.iload_n 2, 1) := by decide +kernel
theorem dX5_order_26 : decode cX5_order 26 = .ok (.aload_n 0, 1) := by decide +kernel
theorem dX5_order_27 : decode cX5_order 27 = .ok (.getfield 12, 3) := by decide +kernel
theorem dX5_order_30 : decode cX5_order 30 = .ok (.getfield 74, 3) := by decide +kernel
theorem dX5_order_33 : decode cX5_order 33 = .ok (.getfield 77, 3) := by decide +kernel
theorem dX5_order_36 : decode cX5_order 36 = .ok (.if_icmp .lt 6, 3) := by decide +kernel
theorem dX5_order_39 : decode cX5_order 39 = .ok (.bipush (-5), 2) := by decide +kernel
theorem dX5_order_41 : decode cX5_order 41 = .ok (.ireturn, 1) := by decide +kernel
theorem dX5_order_42 : decode cX5_order 42 = .ok (.aload_n 0, 1) := by decide +kernel
theorem dX5_order_43 : decode cX5_order 43 = .ok (.iload_n 1, 1) := by decide +kernel
theorem dX5_order_44 : decode cX5_order 44 = .ok (.invokevirtual 175, 3) := by decide +kernel
theorem dX5_order_47 : decode cX5_order 47 = .ok (.istore_n 3, 1) := by decide +kernel
theorem dX5_order_48 : decode cX5_order 48 = .ok (.iload_n 2, 1) := by decide +kernel
theorem dX5_order_49 : decode cX5_order 49 = .ok (.ifCond .ge 7, 3) := by decide +kernel
theorem dX5_order_52 : decode cX5_order 52 = .ok (.iload_n 3, 1) := by decide +kernel
theorem dX5_order_53 : decode cX5_order 53 = .ok (.goto 9, 3) := by decide +kernel
theorem dX5_order_56 : decode cX5_order 56 = .ok (.aload_n 0, 1) := by decide +kernel
theorem dX5_order_57 : decode cX5_order 57 = .ok (.getfield 55, 3) := by decide +kernel
theorem dX5_order_60 : decode cX5_order 60 = .ok (.iload_n 2, 1) := by decide +kernel
theorem dX5_order_61 : decode cX5_order 61 = .ok (.iaload, 1) := by decide +kernel
theorem dX5_order_62 : decode cX5_order 62 = .ok (.ireturn, 1) := by decide +kernel
set_option maxRecDepth 20000 in
theorem ggX5_against_X5_within : GoodIn wsX5_against wsX5_within := goodIn_r _ [7] (by decide +kernel) (by decide +kernel)
set_option maxRecDepth 20000 in
theorem gX5_against_X5_within : GoodIn wsX5_against (va_wsS RX5 97 yX5_within wsX5_within) := goodIn_app (goodIn_of _ (by decide +kernel)) ggX5_against_X5_within
set_option maxRecDepth 20000 in
theorem ggX5_against_X5_refuse : GoodIn wsX5_against wsX5_refuse := goodIn_r _ [11, 12, 4, 5, 6, 7, 72, 73, 74, 75, 76, 77, 78, 79, 80, 81, 82, 83, 84, 85] (by decide +kernel) (by decide +kernel)
set_option maxRecDepth 20000 in
theorem gX5_against_X5_refuse : GoodIn wsX5_against (wsV RX5 70 RX5 yX5_refuse wsX5_refuse) := goodIn_app (goodIn_of _ (by decide +kernel)) ggX5_against_X5_refuse
set_option maxRecDepth 20000 in
theorem ggX5_against_X5_scoreAgainst : GoodIn wsX5_against wsX5_scoreAgainst := goodIn_r _ [16, 17, 1, 2, 18, 3, 19, 20, 21, 22, 23, 24, 25, 26, 27, 28, 29, 30, 31, 32, 33, 34, 35, 36, 37, 38, 39, 40, 41, 42, 43, 44, 45, 46, 47, 48, 49, 6, 50, 51, 52, 53, 54, 55, 56, 57, 58, 59, 60, 61, 62, 63, 64, 65, 66, 67, 5, 7, 68, 69, 70, 71, 72, 73, 74, 75, 76, 77, 78, 79, 80, 81, 82, 83, 84, 85, 86, 87, 88, 89, 90, 91, 92, 93, 94, 95, 96, 97, 98] (by decide +kernel) (by decide +kernel)
set_option maxRecDepth 20000 in
theorem gX5_against_X5_scoreAgainst : GoodIn wsX5_against (wsV RX5 171 RX5 yX5_scoreAgainst wsX5_scoreAgainst) := goodIn_app (goodIn_of _ (by decide +kernel)) ggX5_against_X5_scoreAgainst
theorem dX5_against_0 : decode cX5_against 0 = .ok (.iload_n 1, 1) := by decide +kernel
theorem dX5_against_1 : decode cX5_against 1 = .ok (.iconst 1, 1) := by decide +kernel
theorem dX5_against_2 : decode cX5_against 2 = .ok (.bipush 8, 2) := by decide +kernel
theorem dX5_against_4 : decode cX5_against 4 = .ok (.invokestatic 97, 3) := by decide +kernel
theorem dX5_against_7 : decode cX5_against 7 = .ok (.ifCond .eq 12, 3) := by decide +kernel
theorem dX5_against_10 : decode cX5_against 10 = .ok (.iload_n 2, 1) := by decide +kernel
theorem dX5_against_11 : decode cX5_against 11 = .ok (.iconst 0, 1) := by decide +kernel
theorem dX5_against_12 : decode cX5_against 12 = .ok (.iconst 1, 1) := by decide +kernel
theorem dX5_against_13 : decode cX5_against 13 = .ok (.invokestatic 97, 3) := by decide +kernel
theorem dX5_against_16 : decode cX5_against 16 = .ok (.ifCond .ne 10, 3) := by decide +kernel
theorem dX5_against_19 : decode cX5_against 19 = .ok (.aload_n 0, 1) := by decide +kernel
theorem dX5_against_20 : decode cX5_against 20 = .ok (.bipush (-2), 2) := by decide +kernel
theorem dX5_against_22 : decode cX5_against 22 = .ok (.invokevirtual 70, 3) := by decide +kernel
theorem dX5_against_25 : decode cX5_against 25 = .ok (.ireturn, 1) := by decide +kernel
theorem dX5_against_26 : decode cX5_against 26 = .ok (.iconst 0, 1) := by decide +kernel
theorem dX5_against_27 : decode cX5_against 27 = .ok (.istore_n 3, 1) := by decide +kernel
theorem dX5_against_28 : decode cX5_against 28 = .ok (.aload_n 0, 1) := by decide +kernel
theorem dX5_against_29 : decode cX5_against 29 = .ok (.iconst 0, 1) := by decide +kernel
theorem dX5_against_30 : decode cX5_against 30 = .ok (.aload_n 0, 1) := by decide +kernel
theorem dX5_against_31 : decode cX5_against 31 = .ok (.getfield 12, 3) := by decide +kernel
theorem dX5_against_34 : decode cX5_against 34 = .ok (.getfield 74, 3) := by decide +kernel
theorem dX5_against_37 : decode cX5_against 37 = .ok (.getfield 147, 3) := by decide +kernel
theorem dX5_against_40 : decode cX5_against 40 = .ok (.iload_n 1, 1) := by decide +kernel
theorem dX5_against_41 : decode cX5_against 41 = .ok (.invokevirtual 171, 3) := by decide +kernel
theorem dX5_against_44 : decode cX5_against 44 = .ok (.istore 4, 2) := by decide +kernel
theorem dX5_against_46 : decode cX5_against 46 = .ok (.iconst 1, 1) := by decide +kernel
theorem dX5_against_47 : decode cX5_against 47 = .ok (.istore 5, 2) := by decide +kernel
theorem dX5_against_49 : decode cX5_against 49 = .ok (.iload 5, 2) := by decide +kernel
theorem dX5_against_51 : decode cX5_against 51 = .ok (.bipush 6, 2) := by decide +kernel
theorem dX5_against_53 : decode cX5_against 53 = .ok (.if_icmp .ge 42, 3) := by decide +kernel
theorem dX5_against_56 : decode cX5_against 56 = .ok (.aload_n 0, 1) := by decide +kernel
theorem dX5_against_57 : decode cX5_against 57 = .ok (.iload 5, 2) := by decide +kernel
theorem dX5_against_59 : decode cX5_against 59 = .ok (.aload_n 0, 1) := by decide +kernel
theorem dX5_against_60 : decode cX5_against 60 = .ok (.getfield 12, 3) := by decide +kernel
theorem dX5_against_63 : decode cX5_against 63 = .ok (.getfield 74, 3) := by decide +kernel
theorem dX5_against_66 : decode cX5_against 66 = .ok (.getfield 147, 3) := by decide +kernel
theorem dX5_against_69 : decode cX5_against 69 = .ok (.iload_n 1, 1) := by decide +kernel
theorem dX5_against_70 : decode cX5_against 70 = .ok (.invokevirtual 171, 3) := by decide +kernel
theorem dX5_against_73 : decode cX5_against 73 = .ok (.istore 6, 2) := by decide +kernel
theorem dX5_against_75 : decode cX5_against 75 = .ok (.iload 6, 2) := by decide +kernel
theorem dX5_against_77 : decode cX5_against 77 = .ok (.iload 4, 2) := by decide +kernel
theorem dX5_against_79 : decode cX5_against 79 = .ok (.if_icmp .ge 10, 3) := by decide +kernel
theorem dX5_against_82 : decode cX5_against 82 = .ok (.iload 6, 2) := by decide +kernel
theorem dX5_against_84 : decode cX5_against 84 = .ok (.istore 4, 2) := by decide +kernel
theorem dX5_against_86 : decode cX5_against 86 = .ok (.iload 5, 2) := by decide +kernel
theorem dX5_against_88 : decode cX5_against 88 = .ok (.istore_n 3, 1) := by decide +kernel
theorem dX5_against_89 : decode cX5_against 89 = .ok (.iinc 5 1, 3) := by decide +kernel
theorem dX5_against_92 : decode cX5_against 92 = .ok (.goto (-43), 3) := by decide +kernel
theorem dX5_against_95 : decode cX5_against 95 = .ok (.iload_n 2, 1) := by decide +kernel
theorem dX5_against_96 : decode cX5_against 96 = .ok (.ifCond .ne 7, 3) := by decide +kernel
theorem dX5_against_99 : decode cX5_against 99 = .ok (.iload_n 3, 1) := by decide +kernel
theorem dX5_against_100 : decode cX5_against 100 = .ok (.goto 5, 3) := by decide +kernel
theorem dX5_against_103 : decode cX5_against 103 = .ok (.iload 4, 2) := by decide +kernel
theorem dX5_against_105 : decode cX5_against 105 = .ok (.ireturn, 1) := by decide +kernel
set_option maxRecDepth 20000 in
theorem ggX5_chance_X5_within : GoodIn wsX5_chance wsX5_within := goodIn_r _ [8] (by decide +kernel) (by decide +kernel)
set_option maxRecDepth 20000 in
theorem gX5_chance_X5_within : GoodIn wsX5_chance (va_wsS RX5 97 yX5_within wsX5_within) := goodIn_app (goodIn_of _ (by decide +kernel)) ggX5_chance_X5_within
set_option maxRecDepth 20000 in
theorem ggX5_chance_X5_refuse : GoodIn wsX5_chance wsX5_refuse := goodIn_r _ [12, 13, 5, 6, 7, 8, 96, 97, 98, 99, 100, 101, 102, 103, 104, 105, 106, 107, 108, 109] (by decide +kernel) (by decide +kernel)
set_option maxRecDepth 20000 in
theorem gX5_chance_X5_refuse : GoodIn wsX5_chance (wsV RX5 70 RX5 yX5_refuse wsX5_refuse) := goodIn_app (goodIn_of _ (by decide +kernel)) ggX5_chance_X5_refuse
set_option maxRecDepth 20000 in
theorem ggX5_chance_X0_spread : GoodIn wsX5_chance wsX0_spread := goodIn_r _ [18, 19, 20, 21, 22, 23, 24, 6, 7, 8, 25, 26, 27, 28, 29, 30, 31, 32, 33, 34, 35, 36, 37, 38, 39, 40, 41, 42, 43, 17, 44, 45, 46, 47, 48, 49, 50, 51, 52, 53, 54, 55, 56, 57, 58, 59, 60, 61, 62, 63, 64, 65, 66, 67, 68, 69, 70, 71, 72, 73, 74, 75, 76, 77, 78, 79, 80, 81, 115, 116, 117, 118, 119, 120, 121, 122, 123, 124, 125] (by decide +kernel) (by decide +kernel)
set_option maxRecDepth 20000 in
theorem gX5_chance_X0_spread : GoodIn wsX5_chance (wsV RX5 178 RX0 yX0_spread wsX0_spread) := goodIn_app (goodIn_of _ (by decide +kernel)) ggX5_chance_X0_spread
set_option maxRecDepth 20000 in
theorem ggX5_chance_X0_casesFrom : GoodIn wsX5_chance wsX0_casesFrom := goodIn_r _ [85, 86, 65, 47, 66, 19, 115, 116, 117] (by decide +kernel) (by decide +kernel)
set_option maxRecDepth 20000 in
theorem gX5_chance_X0_casesFrom : GoodIn wsX5_chance (wsV RX5 182 RX0 yX0_casesFrom wsX0_casesFrom) := goodIn_app (goodIn_of _ (by decide +kernel)) ggX5_chance_X0_casesFrom
set_option maxRecDepth 20000 in
theorem ggX5_chance_X5_keepFraction : GoodIn wsX5_chance wsX5_keepFraction := goodIn_r _ [90, 91, 92, 93, 94, 7, 95, 96, 97, 98, 99, 100, 101, 102, 103, 104, 105, 106, 107, 108, 109] (by decide +kernel) (by decide +kernel)
set_option maxRecDepth 20000 in
theorem gX5_chance_X5_keepFraction : GoodIn wsX5_chance (wsV RX5 188 RX5 yX5_keepFraction wsX5_keepFraction) := goodIn_app (goodIn_of _ (by decide +kernel)) ggX5_chance_X5_keepFraction
theorem dX5_chance_0 : decode cX5_chance 0 = .ok (.iload_n 1, 1) := by decide +kernel
theorem dX5_chance_1 : decode cX5_chance 1 = .ok (.iconst 0, 1) := by decide +kernel
theorem dX5_chance_2 : decode cX5_chance 2 = .ok (.iconst 4, 1) := by decide +kernel
theorem dX5_chance_3 : decode cX5_chance 3 = .ok (.invokestatic 97, 3) := by decide +kernel
theorem dX5_chance_6 : decode cX5_chance 6 = .ok (.ifCond .eq 13, 3) := by decide +kernel
theorem dX5_chance_9 : decode cX5_chance 9 = .ok (.iload_n 2, 1) := by decide +kernel
theorem dX5_chance_10 : decode cX5_chance 10 = .ok (.iconst 0, 1) := by decide +kernel
theorem dX5_chance_11 : decode cX5_chance 11 = .ok (.bipush 20, 2) := by decide +kernel
theorem dX5_chance_13 : decode cX5_chance 13 = .ok (.invokestatic 97, 3) := by decide +kernel
theorem dX5_chance_16 : decode cX5_chance 16 = .ok (.ifCond .ne 10, 3) := by decide +kernel
theorem dX5_chance_19 : decode cX5_chance 19 = .ok (.aload_n 0, 1) := by decide +kernel
theorem dX5_chance_20 : decode cX5_chance 20 = .ok (.bipush (-2), 2) := by decide +kernel
theorem dX5_chance_22 : decode cX5_chance 22 = .ok (.invokevirtual 70, 3) := by decide +kernel
theorem dX5_chance_25 : decode cX5_chance 25 = .ok (.ireturn, 1) := by decide +kernel
theorem dX5_chance_26 : decode cX5_chance 26 = .ok (.aload_n 0, 1) := by decide +kernel
theorem dX5_chance_27 : decode cX5_chance 27 = .ok (.getfield 41, 3) := by decide +kernel
theorem dX5_chance_30 : decode cX5_chance 30 = .ok (.aload_n 0, 1) := by decide +kernel
theorem dX5_chance_31 : decode cX5_chance 31 = .ok (.getfield 12, 3) := by decide +kernel
theorem dX5_chance_34 : decode cX5_chance 34 = .ok (.getfield 74, 3) := by decide +kernel
theorem dX5_chance_37 : decode cX5_chance 37 = .ok (.iload_n 1, 1) := by decide +kernel
theorem dX5_chance_38 : decode cX5_chance 38 = .ok (.invokevirtual 178, 3) := by decide +kernel
theorem dX5_chance_41 : decode cX5_chance 41 = .ok (.aload_n 0, 1) := by decide +kernel
theorem dX5_chance_42 : decode cX5_chance 42 = .ok (.aload_n 0, 1) := by decide +kernel
theorem dX5_chance_43 : decode cX5_chance 43 = .ok (.getfield 41, 3) := by decide +kernel
theorem dX5_chance_46 : decode cX5_chance 46 = .ok (.iload_n 2, 1) := by decide +kernel
theorem dX5_chance_47 : decode cX5_chance 47 = .ok (.invokevirtual 182, 3) := by decide +kernel
theorem dX5_chance_50 : decode cX5_chance 50 = .ok (.i2l, 1) := by decide +kernel
theorem dX5_chance_51 : decode cX5_chance 51 = .ok (.getstatic 185, 3) := by decide +kernel
theorem dX5_chance_54 : decode cX5_chance 54 = .ok (.iload_n 1, 1) := by decide +kernel
theorem dX5_chance_55 : decode cX5_chance 55 = .ok (.iaload, 1) := by decide +kernel
theorem dX5_chance_56 : decode cX5_chance 56 = .ok (.i2l, 1) := by decide +kernel
theorem dX5_chance_57 : decode cX5_chance 57 = .ok (.invokevirtual 188, 3) := by decide +kernel
theorem dX5_chance_60 : decode cX5_chance 60 = .ok (.iconst 1, 1) := by decide +kernel
theorem dX5_chance_61 : decode cX5_chance 61 = .ok (.ireturn, 1) := by decide +kernel
set_option maxRecDepth 20000 in
theorem ggX5_mean_X5_within : GoodIn wsX5_mean wsX5_within := goodIn_r _ [8] (by decide +kernel) (by decide +kernel)
set_option maxRecDepth 20000 in
theorem gX5_mean_X5_within : GoodIn wsX5_mean (va_wsS RX5 97 yX5_within wsX5_within) := goodIn_app (goodIn_of _ (by decide +kernel)) ggX5_mean_X5_within
set_option maxRecDepth 20000 in
theorem ggX5_mean_X5_refuse : GoodIn wsX5_mean wsX5_refuse := goodIn_r _ [12, 13, 5, 6, 7, 8, 95, 96, 97, 98, 99, 100, 101, 102, 103, 104, 105, 106, 107, 108] (by decide +kernel) (by decide +kernel)
set_option maxRecDepth 20000 in
theorem gX5_mean_X5_refuse : GoodIn wsX5_mean (wsV RX5 70 RX5 yX5_refuse wsX5_refuse) := goodIn_app (goodIn_of _ (by decide +kernel)) ggX5_mean_X5_refuse
set_option maxRecDepth 20000 in
theorem ggX5_mean_X0_spread : GoodIn wsX5_mean wsX0_spread := goodIn_r _ [18, 19, 20, 21, 22, 23, 24, 6, 7, 8, 25, 26, 27, 28, 29, 30, 31, 32, 33, 34, 35, 36, 37, 38, 39, 40, 41, 42, 43, 17, 44, 45, 46, 47, 48, 49, 50, 51, 52, 53, 54, 55, 56, 57, 58, 59, 60, 61, 62, 63, 64, 65, 66, 67, 68, 69, 70, 71, 72, 73, 74, 75, 76, 77, 78, 79, 80, 81, 114, 115, 116, 117, 118, 119, 120, 121, 122, 123, 124] (by decide +kernel) (by decide +kernel)
set_option maxRecDepth 20000 in
theorem gX5_mean_X0_spread : GoodIn wsX5_mean (wsV RX5 178 RX0 yX0_spread wsX0_spread) := goodIn_app (goodIn_of _ (by decide +kernel)) ggX5_mean_X0_spread
set_option maxRecDepth 20000 in
theorem ggX5_mean_X0_sumOfGains : GoodIn wsX5_mean wsX0_sumOfGains := goodIn_r _ [85, 19, 114, 115, 116] (by decide +kernel) (by decide +kernel)
set_option maxRecDepth 20000 in
theorem gX5_mean_X0_sumOfGains : GoodIn wsX5_mean (wsV RX5 192 RX0 yX0_sumOfGains wsX0_sumOfGains) := goodIn_app (goodIn_of _ (by decide +kernel)) ggX5_mean_X0_sumOfGains
set_option maxRecDepth 20000 in
theorem ggX5_mean_X5_keepFraction : GoodIn wsX5_mean wsX5_keepFraction := goodIn_r _ [89, 90, 91, 92, 93, 7, 94, 95, 96, 97, 98, 99, 100, 101, 102, 103, 104, 105, 106, 107, 108] (by decide +kernel) (by decide +kernel)
set_option maxRecDepth 20000 in
theorem gX5_mean_X5_keepFraction : GoodIn wsX5_mean (wsV RX5 188 RX5 yX5_keepFraction wsX5_keepFraction) := goodIn_app (goodIn_of _ (by decide +kernel)) ggX5_mean_X5_keepFraction
theorem dX5_mean_0 : decode cX5_mean 0 = .ok (.iload_n 1, 1) := by decide +kernel
theorem dX5_mean_1 : decode cX5_mean 1 = .ok (.iconst 0, 1) := by decide +kernel
theorem dX5_mean_2 : decode cX5_mean 2 = .ok (.iconst 4, 1) := by decide +kernel
theorem dX5_mean_3 : decode cX5_mean 3 = .ok (.invokestatic 97, 3) := by decide +kernel
theorem dX5_mean_6 : decode cX5_mean 6 = .ok (.ifCond .ne 10, 3) := by decide +kernel
theorem dX5_mean_9 : decode cX5_mean 9 = .ok (.aload_n 0, 1) := by decide +kernel
theorem dX5_mean_10 : decode cX5_mean 10 = .ok (.bipush (-2), 2) := by decide +kernel
theorem dX5_mean_12 : decode cX5_mean 12 = .ok (.invokevirtual 70, 3) := by decide +kernel
theorem dX5_mean_15 : decode cX5_mean 15 = .ok (.ireturn, 1) := by decide +kernel
theorem dX5_mean_16 : decode cX5_mean 16 = .ok (.aload_n 0, 1) := by decide +kernel
theorem dX5_mean_17 : decode cX5_mean 17 = .ok (.getfield 41, 3) := by decide +kernel
theorem dX5_mean_20 : decode cX5_mean 20 = .ok (.aload_n 0, 1) := by decide +kernel
theorem dX5_mean_21 : decode cX5_mean 21 = .ok (.getfield 12, 3) := by decide +kernel
theorem dX5_mean_24 : decode cX5_mean 24 = .ok (.getfield 74, 3) := by decide +kernel
theorem dX5_mean_27 : decode cX5_mean 27 = .ok (.iload_n 1, 1) := by decide +kernel
theorem dX5_mean_28 : decode cX5_mean 28 = .ok (.invokevirtual 178, 3) := by decide +kernel
theorem dX5_mean_31 : decode cX5_mean 31 = .ok (.aload_n 0, 1) := by decide +kernel
theorem dX5_mean_32 : decode cX5_mean 32 = .ok (.aload_n 0, 1) := by decide +kernel
theorem dX5_mean_33 : decode cX5_mean 33 = .ok (.getfield 41, 3) := by decide +kernel
theorem dX5_mean_36 : decode cX5_mean 36 = .ok (.invokevirtual 192, 3) := by decide +kernel
theorem dX5_mean_39 : decode cX5_mean 39 = .ok (.i2l, 1) := by decide +kernel
theorem dX5_mean_40 : decode cX5_mean 40 = .ok (.getstatic 185, 3) := by decide +kernel
theorem dX5_mean_43 : decode cX5_mean 43 = .ok (.iload_n 1, 1) := by decide +kernel
theorem dX5_mean_44 : decode cX5_mean 44 = .ok (.iaload, 1) := by decide +kernel
theorem dX5_mean_45 : decode cX5_mean 45 = .ok (.i2l, 1) := by decide +kernel
theorem dX5_mean_46 : decode cX5_mean 46 = .ok (.invokevirtual 188, 3) := by decide +kernel
theorem dX5_mean_49 : decode cX5_mean 49 = .ok (.iconst 1, 1) := by decide +kernel
theorem dX5_mean_50 : decode cX5_mean 50 = .ok (.ireturn, 1) := by decide +kernel
set_option maxRecDepth 20000 in
theorem ggX5_send_X5_within : GoodIn wsX5_send wsX5_within := goodIn_r _ [11] (by decide +kernel) (by decide +kernel)
set_option maxRecDepth 20000 in
theorem gX5_send_X5_within : GoodIn wsX5_send (va_wsS RX5 97 yX5_within wsX5_within) := goodIn_app (goodIn_of _ (by decide +kernel)) ggX5_send_X5_within
set_option maxRecDepth 20000 in
theorem ggX5_send_X5_refuse : GoodIn wsX5_send wsX5_refuse := goodIn_r _ [15, 16, 8, 9, 10, 11, 90, 91, 92, 93, 94, 95, 96, 97, 98, 99, 100, 101, 102, 103] (by decide +kernel) (by decide +kernel)
set_option maxRecDepth 20000 in
theorem gX5_send_X5_refuse : GoodIn wsX5_send (wsV RX5 70 RX5 yX5_refuse wsX5_refuse) := goodIn_app (goodIn_of _ (by decide +kernel)) ggX5_send_X5_refuse
set_option maxRecDepth 20000 in
theorem ggX5_send_X2_copy : GoodIn wsX5_send wsX2_copy := goodIn_r _ [21, 22, 23, 24, 25, 26, 27, 28, 29, 30, 31, 32, 33, 109, 110, 111, 112, 113, 114, 115, 116] (by decide +kernel) (by decide +kernel)
set_option maxRecDepth 20000 in
theorem gX5_send_X2_copy : GoodIn wsX5_send (wsV RX5 113 RX2 yX2_copy wsX2_copy) := goodIn_app (goodIn_of _ (by decide +kernel)) ggX5_send_X2_copy
set_option maxRecDepth 20000 in
theorem ggX5_send_X0_spread : GoodIn wsX5_send wsX0_spread := goodIn_r _ [38, 39, 40, 41, 42, 43, 44, 9, 10, 11, 45, 18, 19, 20, 21, 22, 23, 24, 25, 26, 27, 28, 29, 30, 31, 32, 33, 46, 47, 37, 48, 49, 50, 51, 52, 53, 54, 55, 56, 57, 58, 59, 60, 61, 62, 63, 64, 65, 66, 67, 68, 69, 70, 71, 72, 73, 74, 75, 76, 77, 78, 79, 80, 81, 82, 83, 84, 85, 117, 118, 119, 109, 110, 111, 112, 113, 114, 115, 116] (by decide +kernel) (by decide +kernel)
set_option maxRecDepth 20000 in
theorem gX5_send_X0_spread : GoodIn wsX5_send (wsV RX5 178 RX0 yX0_spread wsX0_spread) := goodIn_app (goodIn_of _ (by decide +kernel)) ggX5_send_X0_spread
set_option maxRecDepth 20000 in
theorem ggX5_send_X0_sumOfGains : GoodIn wsX5_send wsX0_sumOfGains := goodIn_r _ [89, 39, 117, 118, 119] (by decide +kernel) (by decide +kernel)
set_option maxRecDepth 20000 in
theorem gX5_send_X0_sumOfGains : GoodIn wsX5_send (wsV RX5 192 RX0 yX0_sumOfGains wsX0_sumOfGains) := goodIn_app (goodIn_of _ (by decide +kernel)) ggX5_send_X0_sumOfGains
theorem dX5_send_0 : decode cX5_send 0 = .ok (.iload_n 1, 1) := by decide +kernel
theorem dX5_send_1 : decode cX5_send 1 = .ok (.iconst 1, 1) := by decide +kernel
theorem dX5_send_2 : decode cX5_send 2 = .ok (.iconst 3, 1) := by decide +kernel
theorem dX5_send_3 : decode cX5_send 3 = .ok (.invokestatic 97, 3) := by decide +kernel
theorem dX5_send_6 : decode cX5_send 6 = .ok (.ifCond .ne 10, 3) := by decide +kernel
theorem dX5_send_9 : decode cX5_send 9 = .ok (.aload_n 0, 1) := by decide +kernel
theorem dX5_send_10 : decode cX5_send 10 = .ok (.bipush (-2), 2) := by decide +kernel
theorem dX5_send_12 : decode cX5_send 12 = .ok (.invokevirtual 70, 3) := by decide +kernel
theorem dX5_send_15 : decode cX5_send 15 = .ok (.ireturn, 1) := by decide +kernel
theorem dX5_send_16 : decode cX5_send 16 = .ok (.iconst (-1), 1) := by decide +kernel
theorem dX5_send_17 : decode cX5_send 17 = .ok (.istore_n 2, 1) := by decide +kernel
theorem dX5_send_18 : decode cX5_send 18 = .ok (.iconst (-1), 1) := by decide +kernel
theorem dX5_send_19 : decode cX5_send 19 = .ok (.istore_n 3, 1) := by decide +kernel
theorem dX5_send_20 : decode cX5_send 20 = .ok (.aload_n 0, 1) := by decide +kernel
theorem dX5_send_21 : decode cX5_send 21 = .ok (.getfield 48, 3) := by decide +kernel
theorem dX5_send_24 : decode cX5_send 24 = .ok (.aload_n 0, 1) := by decide +kernel
theorem dX5_send_25 : decode cX5_send 25 = .ok (.getfield 12, 3) := by decide +kernel
theorem dX5_send_28 : decode cX5_send 28 = .ok (.getfield 74, 3) := by decide +kernel
theorem dX5_send_31 : decode cX5_send 31 = .ok (.invokevirtual 113, 3) := by decide +kernel
theorem dX5_send_34 : decode cX5_send 34 = .ok (.iconst 0, 1) := by decide +kernel
theorem dX5_send_35 : decode cX5_send 35 = .ok (.istore 4, 2) := by decide +kernel
theorem dX5_send_37 : decode cX5_send 37 = .ok (.iload 4, 2) := by decide +kernel
theorem dX5_send_39 : decode cX5_send 39 = .ok (.aload_n 0, 1) := by decide +kernel
theorem dX5_send_40 : decode cX5_send 40 = .ok (.getfield 48, 3) := by decide +kernel
theorem dX5_send_43 : decode cX5_send 43 = .ok (.getfield 77, 3) := by decide +kernel
theorem dX5_send_46 : decode cX5_send 46 = .ok (.if_icmp .ge 64, 3) := by decide +kernel
theorem dX5_send_49 : decode cX5_send 49 = .ok (.aload_n 0, 1) := by decide +kernel
theorem dX5_send_50 : decode cX5_send 50 = .ok (.getfield 48, 3) := by decide +kernel
theorem dX5_send_53 : decode cX5_send 53 = .ok (.getfield 144, 3) := by decide +kernel
theorem dX5_send_56 : decode cX5_send 56 = .ok (.iload 4, 2) := by decide +kernel
theorem dX5_send_58 : decode cX5_send 58 = .ok (.iaload, 1) := by decide +kernel
theorem dX5_send_59 : decode cX5_send 59 = .ok (.ifCond .ne 45, 3) := by decide +kernel
theorem dX5_send_62 : decode cX5_send 62 = .ok (.aload_n 0, 1) := by decide +kernel
theorem dX5_send_63 : decode cX5_send 63 = .ok (.getfield 48, 3) := by decide +kernel
theorem dX5_send_66 : decode cX5_send 66 = .ok (.iload 4, 2) := by decide +kernel
theorem dX5_send_68 : decode cX5_send 68 = .ok (.putfield 147, 3) := by decide +kernel
theorem dX5_send_71 : decode cX5_send 71 = .ok (.aload_n 0, 1) := by decide +kernel
theorem dX5_send_72 : decode cX5_send 72 = .ok (.getfield 41, 3) := by decide +kernel
theorem dX5_send_75 : decode cX5_send 75 = .ok (.aload_n 0, 1) := by decide +kernel
theorem dX5_send_76 : decode cX5_send 76 = .ok (.getfield 48, 3) := by decide +kernel
theorem dX5_send_79 : decode cX5_send 79 = .ok (.iload_n 1, 1) := by decide +kernel
theorem dX5_send_80 : decode cX5_send 80 = .ok (.invokevirtual 178, 3) := by decide +kernel
theorem dX5_send_83 : decode cX5_send 83 = .ok (.aload_n 0, 1) := by decide +kernel
theorem dX5_send_84 : decode cX5_send 84 = .ok (.getfield 41, 3) := by decide +kernel
theorem dX5_send_87 : decode cX5_send 87 = .ok (.invokevirtual 192, 3) := by decide +kernel
theorem dX5_send_90 : decode cX5_send 90 = .ok (.istore 5, 2) := by decide +kernel
theorem dX5_send_92 : decode cX5_send 92 = .ok (.iload 5, 2) := by decide +kernel
theorem dX5_send_94 : decode cX5_send 94 = .ok (.iload_n 3, 1) := by decide +kernel
theorem dX5_send_95 : decode cX5_send 95 = .ok (.if_icmp .le 9, 3) := by decide +kernel
theorem dX5_send_98 : decode cX5_send 98 = .ok (.iload 5, 2) := by decide +kernel
theorem dX5_send_100 : decode cX5_send 100 = .ok (.istore_n 3, 1) := by decide +kernel
theorem dX5_send_101 : decode cX5_send 101 = .ok (.iload 4, 2) := by decide +kernel
theorem dX5_send_103 : decode cX5_send 103 = .ok (.istore_n 2, 1) := by decide +kernel
theorem dX5_send_104 : decode cX5_send 104 = .ok (.iinc 4 1, 3) := by decide +kernel
theorem dX5_send_107 : decode cX5_send 107 = .ok (.goto (-70), 3) := by decide +kernel
theorem dX5_send_110 : decode cX5_send 110 = .ok (.iload_n 2, 1) := by decide +kernel
theorem dX5_send_111 : decode cX5_send 111 = .ok (.ireturn, 1) := by decide +kernel
set_option maxRecDepth 20000 in
theorem ggX5_note_X5_within : GoodIn wsX5_note wsX5_within := goodIn_r _ [6] (by decide +kernel) (by decide +kernel)
set_option maxRecDepth 20000 in
theorem gX5_note_X5_within : GoodIn wsX5_note (va_wsS RX5 97 yX5_within wsX5_within) := goodIn_app (goodIn_of _ (by decide +kernel)) ggX5_note_X5_within
set_option maxRecDepth 20000 in
theorem ggX5_note_X5_isHit : GoodIn wsX5_note wsX5_isHit := goodIn_r _ [9, 3, 4, 5, 6] (by decide +kernel) (by decide +kernel)
set_option maxRecDepth 20000 in
theorem gX5_note_X5_isHit : GoodIn wsX5_note (va_wsS RX5 117 yX5_isHit wsX5_isHit) := goodIn_app (goodIn_of _ (by decide +kernel)) ggX5_note_X5_isHit
set_option maxRecDepth 20000 in
theorem ggX5_note_X5_refuse : GoodIn wsX5_note wsX5_refuse := goodIn_r _ [13, 14, 3, 4, 5, 6, 31, 32, 33, 34, 35, 36, 37, 38, 39, 40, 41, 42, 43, 44] (by decide +kernel) (by decide +kernel)
set_option maxRecDepth 20000 in
theorem gX5_note_X5_refuse : GoodIn wsX5_note (wsV RX5 70 RX5 yX5_refuse wsX5_refuse) := goodIn_app (goodIn_of _ (by decide +kernel)) ggX5_note_X5_refuse
set_option maxRecDepth 20000 in
theorem ggX5_note_X4_isFull : GoodIn wsX5_note wsX4_isFull := goodIn_r _ [19, 20, 21, 22, 50, 51, 52] (by decide +kernel) (by decide +kernel)
set_option maxRecDepth 20000 in
theorem gX5_note_X4_isFull : GoodIn wsX5_note (wsV RX5 198 RX4 yX4_isFull wsX4_isFull) := goodIn_app (goodIn_of _ (by decide +kernel)) ggX5_note_X4_isFull
set_option maxRecDepth 20000 in
theorem ggX5_note_X4_put : GoodIn wsX5_note wsX4_put := goodIn_r _ [26, 20, 22, 50, 51, 52] (by decide +kernel) (by decide +kernel)
set_option maxRecDepth 20000 in
theorem gX5_note_X4_put : GoodIn wsX5_note (wsV RX5 201 RX4 yX4_put wsX4_put) := goodIn_app (goodIn_of _ (by decide +kernel)) ggX5_note_X4_put
set_option maxRecDepth 20000 in
theorem ggX5_note_X4_size : GoodIn wsX5_note wsX4_size := goodIn_r _ [30, 21, 20, 50, 51, 52] (by decide +kernel) (by decide +kernel)
set_option maxRecDepth 20000 in
theorem gX5_note_X4_size : GoodIn wsX5_note (wsV RX5 153 RX4 yX4_size wsX4_size) := goodIn_app (goodIn_of _ (by decide +kernel)) ggX5_note_X4_size
theorem dX5_note_0 : decode cX5_note 0 = .ok (.iload_n 1, 1) := by decide +kernel
theorem dX5_note_1 : decode cX5_note 1 = .ok (.iconst 0, 1) := by decide +kernel
theorem dX5_note_2 : decode cX5_note 2 = .ok (.bipush 99, 2) := by decide +kernel
theorem dX5_note_4 : decode cX5_note 4 = .ok (.invokestatic 97, 3) := by decide +kernel
theorem dX5_note_7 : decode cX5_note 7 = .ok (.ifCond .eq 20, 3) := by decide +kernel
theorem dX5_note_10 : decode cX5_note 10 = .ok (.iload_n 2, 1) := by decide +kernel
theorem dX5_note_11 : decode cX5_note 11 = .ok (.invokestatic 117, 3) := by decide +kernel
theorem dX5_note_14 : decode cX5_note 14 = .ok (.ifCond .eq 13, 3) := by decide +kernel
theorem dX5_note_17 : decode cX5_note 17 = .ok (.iload_n 3, 1) := by decide +kernel
theorem dX5_note_18 : decode cX5_note 18 = .ok (.iconst 0, 1) := by decide +kernel
theorem dX5_note_19 : decode cX5_note 19 = .ok (.bipush 20, 2) := by decide +kernel
theorem dX5_note_21 : decode cX5_note 21 = .ok (.invokestatic 97, 3) := by decide +kernel
theorem dX5_note_24 : decode cX5_note 24 = .ok (.ifCond .ne 10, 3) := by decide +kernel
theorem dX5_note_27 : decode cX5_note 27 = .ok (.aload_n 0, 1) := by decide +kernel
theorem dX5_note_28 : decode cX5_note 28 = .ok (.bipush (-2), 2) := by decide +kernel
theorem dX5_note_30 : decode cX5_note 30 = .ok (.invokevirtual 70, 3) := by decide +kernel
theorem dX5_note_33 : decode cX5_note 33 = .ok (.ireturn, 1) := by decide +kernel
theorem dX5_note_34 : decode cX5_note 34 = .ok (.aload_n 0, 1) := by decide +kernel
theorem dX5_note_35 : decode cX5_note 35 = .ok (.getfield 12, 3) := by decide +kernel
theorem dX5_note_38 : decode cX5_note 38 = .ok (.getfield 195, 3) := by decide +kernel
theorem dX5_note_41 : decode cX5_note 41 = .ok (.invokevirtual 198, 3) := by decide +kernel
theorem dX5_note_44 : decode cX5_note 44 = .ok (.ifCond .eq 10, 3) := by decide +kernel
theorem dX5_note_47 : decode cX5_note 47 = .ok (.aload_n 0, 1) := by decide +kernel
theorem dX5_note_48 : decode cX5_note 48 = .ok (.bipush (-4), 2) := by decide +kernel
theorem dX5_note_50 : decode cX5_note 50 = .ok (.invokevirtual 70, 3) := by decide +kernel
theorem dX5_note_53 : decode cX5_note 53 = .ok (.ireturn, 1) := by decide +kernel
theorem dX5_note_54 : decode cX5_note 54 = .ok (.aload_n 0, 1) := by decide +kernel
theorem dX5_note_55 : decode cX5_note 55 = .ok (.getfield 12, 3) := by decide +kernel
theorem dX5_note_58 : decode cX5_note 58 = .ok (.getfield 195, 3) := by decide +kernel
theorem dX5_note_61 : decode cX5_note 61 = .ok (.iload_n 1, 1) := by decide +kernel
theorem dX5_note_62 : decode cX5_note 62 = .ok (.invokevirtual 201, 3) := by decide +kernel
theorem dX5_note_65 : decode cX5_note 65 = .ok (.aload_n 0, 1) := by decide +kernel
theorem dX5_note_66 : decode cX5_note 66 = .ok (.getfield 12, 3) := by decide +kernel
theorem dX5_note_69 : decode cX5_note 69 = .ok (.getfield 195, 3) := by decide +kernel
theorem dX5_note_72 : decode cX5_note 72 = .ok (.iload_n 2, 1) := by decide +kernel
theorem dX5_note_73 : decode cX5_note 73 = .ok (.invokevirtual 201, 3) := by decide +kernel
theorem dX5_note_76 : decode cX5_note 76 = .ok (.aload_n 0, 1) := by decide +kernel
theorem dX5_note_77 : decode cX5_note 77 = .ok (.getfield 12, 3) := by decide +kernel
theorem dX5_note_80 : decode cX5_note 80 = .ok (.getfield 195, 3) := by decide +kernel
theorem dX5_note_83 : decode cX5_note 83 = .ok (.iload_n 3, 1) := by decide +kernel
theorem dX5_note_84 : decode cX5_note 84 = .ok (.invokevirtual 201, 3) := by decide +kernel
theorem dX5_note_87 : decode cX5_note 87 = .ok (.aload_n 0, 1) := by decide +kernel
theorem dX5_note_88 : decode cX5_note 88 = .ok (.getfield 12, 3) := by decide +kernel
theorem dX5_note_91 : decode cX5_note 91 = .ok (.getfield 195, 3) := by decide +kernel
theorem dX5_note_94 : decode cX5_note 94 = .ok (.invokevirtual 153, 3) := by decide +kernel
theorem dX5_note_97 : decode cX5_note 97 = .ok (.ireturn, 1) := by decide +kernel
set_option maxRecDepth 20000 in
theorem ggX5_mark_X5_isBatter : GoodIn wsX5_mark wsX5_isBatter := goodIn_r _ [7, 1, 8, 9, 10, 11, 6, 12, 34, 35, 36, 37, 38, 39, 40, 41, 42, 43, 44, 45, 46, 47, 48, 49, 50, 51, 52, 53, 54, 55, 56, 57, 58, 59, 60] (by decide +kernel) (by decide +kernel)
set_option maxRecDepth 20000 in
theorem gX5_mark_X5_isBatter : GoodIn wsX5_mark (wsV RX5 141 RX5 yX5_isBatter wsX5_isBatter) := goodIn_app (goodIn_of _ (by decide +kernel)) ggX5_mark_X5_isBatter
set_option maxRecDepth 20000 in
theorem ggX5_mark_X5_within : GoodIn wsX5_mark wsX5_within := goodIn_r _ [12] (by decide +kernel) (by decide +kernel)
set_option maxRecDepth 20000 in
theorem gX5_mark_X5_within : GoodIn wsX5_mark (va_wsS RX5 97 yX5_within wsX5_within) := goodIn_app (goodIn_of _ (by decide +kernel)) ggX5_mark_X5_within
set_option maxRecDepth 20000 in
theorem ggX5_mark_X5_refuse : GoodIn wsX5_mark wsX5_refuse := goodIn_r _ [16, 17, 10, 11, 6, 12, 34, 35, 36, 37, 38, 39, 40, 41, 42, 43, 44, 45, 46, 47] (by decide +kernel) (by decide +kernel)
set_option maxRecDepth 20000 in
theorem gX5_mark_X5_refuse : GoodIn wsX5_mark (wsV RX5 70 RX5 yX5_refuse wsX5_refuse) := goodIn_app (goodIn_of _ (by decide +kernel)) ggX5_mark_X5_refuse
set_option maxRecDepth 20000 in
theorem ggX5_mark_X4_isFull : GoodIn wsX5_mark wsX4_isFull := goodIn_r _ [22, 23, 24, 25, 61, 62, 63] (by decide +kernel) (by decide +kernel)
set_option maxRecDepth 20000 in
theorem gX5_mark_X4_isFull : GoodIn wsX5_mark (wsV RX5 198 RX4 yX4_isFull wsX4_isFull) := goodIn_app (goodIn_of _ (by decide +kernel)) ggX5_mark_X4_isFull
set_option maxRecDepth 20000 in
theorem ggX5_mark_X4_put : GoodIn wsX5_mark wsX4_put := goodIn_r _ [29, 23, 25, 61, 62, 63] (by decide +kernel) (by decide +kernel)
set_option maxRecDepth 20000 in
theorem gX5_mark_X4_put : GoodIn wsX5_mark (wsV RX5 201 RX4 yX4_put wsX4_put) := goodIn_app (goodIn_of _ (by decide +kernel)) ggX5_mark_X4_put
set_option maxRecDepth 20000 in
theorem ggX5_mark_X4_size : GoodIn wsX5_mark wsX4_size := goodIn_r _ [33, 24, 23, 61, 62, 63] (by decide +kernel) (by decide +kernel)
set_option maxRecDepth 20000 in
theorem gX5_mark_X4_size : GoodIn wsX5_mark (wsV RX5 153 RX4 yX4_size wsX4_size) := goodIn_app (goodIn_of _ (by decide +kernel)) ggX5_mark_X4_size
theorem dX5_mark_0 : decode cX5_mark 0 = .ok (.aload_n 0, 1) := by decide +kernel
theorem dX5_mark_1 : decode cX5_mark 1 = .ok (.iload_n 1, 1) := by decide +kernel
theorem dX5_mark_2 : decode cX5_mark 2 = .ok (.invokevirtual 141, 3) := by decide +kernel
theorem dX5_mark_5 : decode cX5_mark 5 = .ok (.ifCond .eq 33, 3) := by decide +kernel
theorem dX5_mark_8 : decode cX5_mark 8 = .ok (.iload_n 2, 1) := by decide +kernel
theorem dX5_mark_9 : decode cX5_mark 9 = .ok (.iconst 1, 1) := by decide +kernel
theorem dX5_mark_10 : decode cX5_mark 10 = .ok (.iconst 5, 1) := by decide +kernel
theorem dX5_mark_11 : decode cX5_mark 11 = .ok (.invokestatic 97, 3) := by decide +kernel
theorem dX5_mark_14 : decode cX5_mark 14 = .ok (.ifCond .eq 24, 3) := by decide +kernel
theorem dX5_mark_17 : decode cX5_mark 17 = .ok (.iload_n 3, 1) := by decide +kernel
theorem dX5_mark_18 : decode cX5_mark 18 = .ok (.iconst 0, 1) := by decide +kernel
theorem dX5_mark_19 : decode cX5_mark 19 = .ok (.bipush 20, 2) := by decide +kernel
theorem dX5_mark_21 : decode cX5_mark 21 = .ok (.invokestatic 97, 3) := by decide +kernel
theorem dX5_mark_24 : decode cX5_mark 24 = .ok (.ifCond .eq 14, 3) := by decide +kernel
theorem dX5_mark_27 : decode cX5_mark 27 = .ok (.iload 4, 2) := by decide +kernel
theorem dX5_mark_29 : decode cX5_mark 29 = .ok (.iconst 0, 1) := by decide +kernel
theorem dX5_mark_30 : decode cX5_mark 30 = .ok (.bipush 9, 2) := by decide +kernel
theorem dX5_mark_32 : decode cX5_mark 32 = .ok (.invokestatic 97, 3) := by decide +kernel
theorem dX5_mark_35 : decode cX5_mark 35 = .ok (.ifCond .ne 10, 3) := by decide +kernel
theorem dX5_mark_38 : decode cX5_mark 38 = .ok (.aload_n 0, 1) := by decide +kernel
theorem dX5_mark_39 : decode cX5_mark 39 = .ok (.bipush (-2), 2) := by decide +kernel
theorem dX5_mark_41 : decode cX5_mark 41 = .ok (.invokevirtual 70, 3) := by decide +kernel
theorem dX5_mark_44 : decode cX5_mark 44 = .ok (.ireturn, 1) := by decide +kernel
theorem dX5_mark_45 : decode cX5_mark 45 = .ok (.aload_n 0, 1) := by decide +kernel
theorem dX5_mark_46 : decode cX5_mark 46 = .ok (.getfield 12, 3) := by decide +kernel
theorem dX5_mark_49 : decode cX5_mark 49 = .ok (.getfield 204, 3) := by decide +kernel
theorem dX5_mark_52 : decode cX5_mark 52 = .ok (.invokevirtual 198, 3) := by decide +kernel
theorem dX5_mark_55 : decode cX5_mark 55 = .ok (.ifCond .eq 10, 3) := by decide +kernel
theorem dX5_mark_58 : decode cX5_mark 58 = .ok (.aload_n 0, 1) := by decide +kernel
theorem dX5_mark_59 : decode cX5_mark 59 = .ok (.bipush (-4), 2) := by decide +kernel
theorem dX5_mark_61 : decode cX5_mark 61 = .ok (.invokevirtual 70, 3) := by decide +kernel
theorem dX5_mark_64 : decode cX5_mark 64 = .ok (.ireturn, 1) := by decide +kernel
theorem dX5_mark_65 : decode cX5_mark 65 = .ok (.aload_n 0, 1) := by decide +kernel
theorem dX5_mark_66 : decode cX5_mark 66 = .ok (.getfield 12, 3) := by decide +kernel
theorem dX5_mark_69 : decode cX5_mark 69 = .ok (.getfield 204, 3) := by decide +kernel
theorem dX5_mark_72 : decode cX5_mark 72 = .ok (.iload_n 1, 1) := by decide +kernel
theorem dX5_mark_73 : decode cX5_mark 73 = .ok (.invokevirtual 201, 3) := by decide +kernel
theorem dX5_mark_76 : decode cX5_mark 76 = .ok (.aload_n 0, 1) := by decide +kernel
theorem dX5_mark_77 : decode cX5_mark 77 = .ok (.getfield 12, 3) := by decide +kernel
theorem dX5_mark_80 : decode cX5_mark 80 = .ok (.getfield 204, 3) := by decide +kernel
theorem dX5_mark_83 : decode cX5_mark 83 = .ok (.iload_n 2, 1) := by decide +kernel
theorem dX5_mark_84 : decode cX5_mark 84 = .ok (.invokevirtual 201, 3) := by decide +kernel
theorem dX5_mark_87 : decode cX5_mark 87 = .ok (.aload_n 0, 1) := by decide +kernel
theorem dX5_mark_88 : decode cX5_mark 88 = .ok (.getfield 12, 3) := by decide +kernel
theorem dX5_mark_91 : decode cX5_mark 91 = .ok (.getfield 204, 3) := by decide +kernel
theorem dX5_mark_94 : decode cX5_mark 94 = .ok (.iload_n 3, 1) := by decide +kernel
theorem dX5_mark_95 : decode cX5_mark 95 = .ok (.invokevirtual 201, 3) := by decide +kernel
theorem dX5_mark_98 : decode cX5_mark 98 = .ok (.aload_n 0, 1) := by decide +kernel
theorem dX5_mark_99 : decode cX5_mark 99 = .ok (.getfield 12, 3) := by decide +kernel
theorem dX5_mark_102 : decode cX5_mark 102 = .ok (.getfield 204, 3) := by decide +kernel
theorem dX5_mark_105 : decode cX5_mark 105 = .ok (.iload 4, 2) := by decide +kernel
theorem dX5_mark_107 : decode cX5_mark 107 = .ok (.invokevirtual 201, 3) := by decide +kernel
theorem dX5_mark_110 : decode cX5_mark 110 = .ok (.aload_n 0, 1) := by decide +kernel
theorem dX5_mark_111 : decode cX5_mark 111 = .ok (.getfield 12, 3) := by decide +kernel
theorem dX5_mark_114 : decode cX5_mark 114 = .ok (.getfield 204, 3) := by decide +kernel
theorem dX5_mark_117 : decode cX5_mark 117 = .ok (.invokevirtual 153, 3) := by decide +kernel
theorem dX5_mark_120 : decode cX5_mark 120 = .ok (.ireturn, 1) := by decide +kernel
set_option maxRecDepth 20000 in
theorem ggX5_forget_X5_within : GoodIn wsX5_forget wsX5_within := goodIn_r _ [7] (by decide +kernel) (by decide +kernel)
set_option maxRecDepth 20000 in
theorem gX5_forget_X5_within : GoodIn wsX5_forget (va_wsS RX5 97 yX5_within wsX5_within) := goodIn_app (goodIn_of _ (by decide +kernel)) ggX5_forget_X5_within
set_option maxRecDepth 20000 in
theorem ggX5_forget_X5_refuse : GoodIn wsX5_forget wsX5_refuse := goodIn_r _ [11, 12, 4, 5, 6, 7, 24, 25, 26, 27, 28, 29, 30, 31, 32, 33, 34, 35, 36, 37] (by decide +kernel) (by decide +kernel)
set_option maxRecDepth 20000 in
theorem gX5_forget_X5_refuse : GoodIn wsX5_forget (wsV RX5 70 RX5 yX5_refuse wsX5_refuse) := goodIn_app (goodIn_of _ (by decide +kernel)) ggX5_forget_X5_refuse
set_option maxRecDepth 20000 in
theorem ggX5_forget_X4_size : GoodIn wsX5_forget wsX4_size := goodIn_r _ [17, 18, 19, 43, 44, 45] (by decide +kernel) (by decide +kernel)
set_option maxRecDepth 20000 in
theorem gX5_forget_X4_size : GoodIn wsX5_forget (wsV RX5 153 RX4 yX4_size wsX4_size) := goodIn_app (goodIn_of _ (by decide +kernel)) ggX5_forget_X4_size
set_option maxRecDepth 20000 in
theorem ggX5_forget_X4_empty : GoodIn wsX5_forget wsX4_empty := goodIn_r _ [23, 19, 43, 44, 45] (by decide +kernel) (by decide +kernel)
set_option maxRecDepth 20000 in
theorem gX5_forget_X4_empty : GoodIn wsX5_forget (wsV RX5 92 RX4 yX4_empty wsX4_empty) := goodIn_app (goodIn_of _ (by decide +kernel)) ggX5_forget_X4_empty
theorem dX5_forget_0 : decode cX5_forget 0 = .ok (.iload_n 1, 1) := by decide +kernel
theorem dX5_forget_1 : decode cX5_forget 1 = .ok (.iconst 0, 1) := by decide +kernel
theorem dX5_forget_2 : decode cX5_forget 2 = .ok (.iconst 1, 1) := by decide +kernel
theorem dX5_forget_3 : decode cX5_forget 3 = .ok (.invokestatic 97, 3) := by decide +kernel
theorem dX5_forget_6 : decode cX5_forget 6 = .ok (.ifCond .ne 10, 3) := by decide +kernel
theorem dX5_forget_9 : decode cX5_forget 9 = .ok (.aload_n 0, 1) := by decide +kernel
theorem dX5_forget_10 : decode cX5_forget 10 = .ok (.bipush (-2), 2) := by decide +kernel
theorem dX5_forget_12 : decode cX5_forget 12 = .ok (.invokevirtual 70, 3) := by decide +kernel
theorem dX5_forget_15 : decode cX5_forget 15 = .ok (.ireturn, 1) := by decide +kernel
theorem dX5_forget_16 : decode cX5_forget 16 = .ok (.iload_n 1, 1) := by decide +kernel
theorem dX5_forget_17 : decode cX5_forget 17 = .ok (.ifCond .ne 13, 3) := by decide +kernel
theorem dX5_forget_20 : decode cX5_forget 20 = .ok (.aload_n 0, 1) := by decide +kernel
theorem dX5_forget_21 : decode cX5_forget 21 = .ok (.getfield 12, 3) := by decide +kernel
theorem dX5_forget_24 : decode cX5_forget 24 = .ok (.getfield 195, 3) := by decide +kernel
theorem dX5_forget_27 : decode cX5_forget 27 = .ok (.goto 10, 3) := by decide +kernel
theorem dX5_forget_30 : decode cX5_forget 30 = .ok (.aload_n 0, 1) := by decide +kernel
theorem dX5_forget_31 : decode cX5_forget 31 = .ok (.getfield 12, 3) := by decide +kernel
theorem dX5_forget_34 : decode cX5_forget 34 = .ok (.getfield 204, 3) := by decide +kernel
theorem dX5_forget_37 : decode cX5_forget 37 = .ok (.astore_n 2, 1) := by decide +kernel
theorem dX5_forget_38 : decode cX5_forget 38 = .ok (.aload_n 2, 1) := by decide +kernel
theorem dX5_forget_39 : decode cX5_forget 39 = .ok (.invokevirtual 153, 3) := by decide +kernel
theorem dX5_forget_42 : decode cX5_forget 42 = .ok (.istore_n 3, 1) := by decide +kernel
theorem dX5_forget_43 : decode cX5_forget 43 = .ok (.aload_n 2, 1) := by decide +kernel
theorem dX5_forget_44 : decode cX5_forget 44 = .ok (.invokevirtual 92, 3) := by decide +kernel
theorem dX5_forget_47 : decode cX5_forget 47 = .ok (.iload_n 3, 1) := by decide +kernel
theorem dX5_forget_48 : decode cX5_forget 48 = .ok (.ireturn, 1) := by decide +kernel
set_option maxRecDepth 20000 in
theorem ggX5_is_X5_fitsNotes : GoodIn wsX5_is wsX5_fitsNotes := goodIn_r _ [5, 6, 7, 8, 9, 10, 11, 12, 13, 14, 15, 16, 17, 18, 19, 20, 21, 4, 22, 23, 24, 25, 26, 27, 28, 29, 30, 31, 32, 33, 34, 35, 36, 37, 38, 39, 40, 41, 42, 43, 44, 45, 46, 47, 48, 49, 50, 51] (by decide +kernel) (by decide +kernel)
set_option maxRecDepth 20000 in
theorem gX5_is_X5_fitsNotes : GoodIn wsX5_is (wsV RX5 207 RX5 yX5_fitsNotes wsX5_fitsNotes) := goodIn_app (goodIn_of _ (by decide +kernel)) ggX5_is_X5_fitsNotes
theorem dX5_is_0 : decode cX5_is 0 = .ok (.iconst 0, 1) := by decide +kernel
theorem dX5_is_1 : decode cX5_is 1 = .ok (.istore_n 1, 1) := by decide +kernel
theorem dX5_is_2 : decode cX5_is 2 = .ok (.iconst 0, 1) := by decide +kernel
theorem dX5_is_3 : decode cX5_is 3 = .ok (.istore_n 2, 1) := by decide +kernel
theorem dX5_is_4 : decode cX5_is 4 = .ok (.iload_n 2, 1) := by decide +kernel
theorem dX5_is_5 : decode cX5_is 5 = .ok (.bipush 6, 2) := by decide +kernel
theorem dX5_is_7 : decode cX5_is 7 = .ok (.if_icmp .ge 23, 3) := by decide +kernel
theorem dX5_is_10 : decode cX5_is 10 = .ok (.aload_n 0, 1) := by decide +kernel
theorem dX5_is_11 : decode cX5_is 11 = .ok (.iload_n 2, 1) := by decide +kernel
theorem dX5_is_12 : decode cX5_is 12 = .ok (.invokevirtual 207, 3) := by decide +kernel
theorem dX5_is_15 : decode cX5_is 15 = .ok (.ifCond .eq 9, 3) := by decide +kernel
theorem dX5_is_18 : decode cX5_is 18 = .ok (.iload_n 1, 1) := by decide +kernel
theorem dX5_is_19 : decode cX5_is 19 = .ok (.iconst 1, 1) := by decide +kernel
theorem dX5_is_20 : decode cX5_is 20 = .ok (.iload_n 2, 1) := by decide +kernel
theorem dX5_is_21 : decode cX5_is 21 = .ok (.ishl, 1) := by decide +kernel
theorem dX5_is_22 : decode cX5_is 22 = .ok (.ior, 1) := by decide +kernel
theorem dX5_is_23 : decode cX5_is 23 = .ok (.istore_n 1, 1) := by decide +kernel
theorem dX5_is_24 : decode cX5_is 24 = .ok (.iinc 2 1, 3) := by decide +kernel
theorem dX5_is_27 : decode cX5_is 27 = .ok (.goto (-23), 3) := by decide +kernel
theorem dX5_is_30 : decode cX5_is 30 = .ok (.iload_n 1, 1) := by decide +kernel
theorem dX5_is_31 : decode cX5_is 31 = .ok (.ireturn, 1) := by decide +kernel
set_option maxRecDepth 20000 in
theorem ggX5_look_X5_is : GoodIn wsX5_look wsX5_is := goodIn_r _ [6, 7, 8, 9, 5, 10, 11, 12, 13, 14, 15, 16, 17, 18, 19, 20, 21, 22, 23, 24, 25, 26, 27, 28, 29, 30, 31, 32, 33, 34, 39, 40, 41, 42, 43, 44, 45, 46, 47, 48, 49, 50, 51, 52, 53, 54, 55, 56, 57, 58, 59, 60] (by decide +kernel) (by decide +kernel)
set_option maxRecDepth 20000 in
theorem gX5_look_X5_is : GoodIn wsX5_look (wsV RX5 210 RX5 yX5_is wsX5_is) := goodIn_app (goodIn_of _ (by decide +kernel)) ggX5_look_X5_is
set_option maxRecDepth 20000 in
theorem ggX5_look_X5_hitWorth : GoodIn wsX5_look wsX5_hitWorth := goodIn_r _ [27, 28, 29, 30, 31, 32, 33, 34] (by decide +kernel) (by decide +kernel)
set_option maxRecDepth 20000 in
theorem gX5_look_X5_hitWorth : GoodIn wsX5_look (va_wsS RX5 213 yX5_hitWorth wsX5_hitWorth) := goodIn_app (goodIn_of _ (by decide +kernel)) ggX5_look_X5_hitWorth
set_option maxRecDepth 20000 in
theorem ggX5_look_X5_mostAlike : GoodIn wsX5_look wsX5_mostAlike := goodIn_r _ [38, 1, 28, 29, 30, 31, 39, 40, 41, 42, 43, 44, 45, 46, 47, 48, 49, 50, 51, 52] (by decide +kernel) (by decide +kernel)
set_option maxRecDepth 20000 in
theorem gX5_look_X5_mostAlike : GoodIn wsX5_look (wsV RX5 216 RX5 yX5_mostAlike wsX5_mostAlike) := goodIn_app (goodIn_of _ (by decide +kernel)) ggX5_look_X5_mostAlike
theorem dX5_look_0 : decode cX5_look 0 = .ok (.aload_n 0, 1) := by decide +kernel
theorem dX5_look_1 : decode cX5_look 1 = .ok (.invokevirtual 210, 3) := by decide +kernel
theorem dX5_look_4 : decode cX5_look 4 = .ok (.istore_n 1, 1) := by decide +kernel
theorem dX5_look_5 : decode cX5_look 5 = .ok (.iconst (-1), 1) := by decide +kernel
theorem dX5_look_6 : decode cX5_look 6 = .ok (.istore_n 2, 1) := by decide +kernel
theorem dX5_look_7 : decode cX5_look 7 = .ok (.bipush 7, 2) := by decide +kernel
theorem dX5_look_9 : decode cX5_look 9 = .ok (.istore_n 3, 1) := by decide +kernel
theorem dX5_look_10 : decode cX5_look 10 = .ok (.iconst 0, 1) := by decide +kernel
theorem dX5_look_11 : decode cX5_look 11 = .ok (.istore 4, 2) := by decide +kernel
theorem dX5_look_13 : decode cX5_look 13 = .ok (.iload 4, 2) := by decide +kernel
theorem dX5_look_15 : decode cX5_look 15 = .ok (.bipush 100, 2) := by decide +kernel
theorem dX5_look_17 : decode cX5_look 17 = .ok (.if_icmp .ge 70, 3) := by decide +kernel
theorem dX5_look_20 : decode cX5_look 20 = .ok (.iload_n 1, 1) := by decide +kernel
theorem dX5_look_21 : decode cX5_look 21 = .ok (.ifCond .eq 66, 3) := by decide +kernel
theorem dX5_look_24 : decode cX5_look 24 = .ok (.iconst 0, 1) := by decide +kernel
theorem dX5_look_25 : decode cX5_look 25 = .ok (.istore 5, 2) := by decide +kernel
theorem dX5_look_27 : decode cX5_look 27 = .ok (.iload 5, 2) := by decide +kernel
theorem dX5_look_29 : decode cX5_look 29 = .ok (.bipush 6, 2) := by decide +kernel
theorem dX5_look_31 : decode cX5_look 31 = .ok (.if_icmp .ge 31, 3) := by decide +kernel
theorem dX5_look_34 : decode cX5_look 34 = .ok (.aload_n 0, 1) := by decide +kernel
theorem dX5_look_35 : decode cX5_look 35 = .ok (.getfield 58, 3) := by decide +kernel
theorem dX5_look_38 : decode cX5_look 38 = .ok (.iload 5, 2) := by decide +kernel
theorem dX5_look_40 : decode cX5_look 40 = .ok (.iload 5, 2) := by decide +kernel
theorem dX5_look_42 : decode cX5_look 42 = .ok (.iload 4, 2) := by decide +kernel
theorem dX5_look_44 : decode cX5_look 44 = .ok (.bipush 10, 2) := by decide +kernel
theorem dX5_look_46 : decode cX5_look 46 = .ok (.irem, 1) := by decide +kernel
theorem dX5_look_47 : decode cX5_look 47 = .ok (.iload 4, 2) := by decide +kernel
theorem dX5_look_49 : decode cX5_look 49 = .ok (.bipush 10, 2) := by decide +kernel
theorem dX5_look_51 : decode cX5_look 51 = .ok (.idiv, 1) := by decide +kernel
theorem dX5_look_52 : decode cX5_look 52 = .ok (.invokestatic 213, 3) := by decide +kernel
theorem dX5_look_55 : decode cX5_look 55 = .ok (.iastore, 1) := by decide +kernel
theorem dX5_look_56 : decode cX5_look 56 = .ok (.iinc 5 1, 3) := by decide +kernel
theorem dX5_look_59 : decode cX5_look 59 = .ok (.goto (-32), 3) := by decide +kernel
theorem dX5_look_62 : decode cX5_look 62 = .ok (.aload_n 0, 1) := by decide +kernel
theorem dX5_look_63 : decode cX5_look 63 = .ok (.iload_n 1, 1) := by decide +kernel
theorem dX5_look_64 : decode cX5_look 64 = .ok (.invokevirtual 216, 3) := by decide +kernel
theorem dX5_look_67 : decode cX5_look 67 = .ok (.istore 5, 2) := by decide +kernel
theorem dX5_look_69 : decode cX5_look 69 = .ok (.iload 5, 2) := by decide +kernel
theorem dX5_look_71 : decode cX5_look 71 = .ok (.iload_n 3, 1) := by decide +kernel
theorem dX5_look_72 : decode cX5_look 72 = .ok (.if_icmp .ge 9, 3) := by decide +kernel
theorem dX5_look_75 : decode cX5_look 75 = .ok (.iload 5, 2) := by decide +kernel
theorem dX5_look_77 : decode cX5_look 77 = .ok (.istore_n 3, 1) := by decide +kernel
theorem dX5_look_78 : decode cX5_look 78 = .ok (.iload 4, 2) := by decide +kernel
theorem dX5_look_80 : decode cX5_look 80 = .ok (.istore_n 2, 1) := by decide +kernel
theorem dX5_look_81 : decode cX5_look 81 = .ok (.iinc 4 1, 3) := by decide +kernel
theorem dX5_look_84 : decode cX5_look 84 = .ok (.goto (-71), 3) := by decide +kernel
theorem dX5_look_87 : decode cX5_look 87 = .ok (.iload_n 2, 1) := by decide +kernel
theorem dX5_look_88 : decode cX5_look 88 = .ok (.ireturn, 1) := by decide +kernel
set_option maxRecDepth 20000 in
theorem ggX5_kinds_X5_isBatter : GoodIn wsX5_kinds wsX5_isBatter := goodIn_r _ [5, 6, 7, 8, 9, 10, 4, 11, 45, 46, 47, 48, 49, 50, 51, 52, 53, 54, 55, 56, 57, 58, 59, 60, 61, 62, 63, 64, 65, 66, 67, 68, 69, 70, 71] (by decide +kernel) (by decide +kernel)
set_option maxRecDepth 20000 in
theorem gX5_kinds_X5_isBatter : GoodIn wsX5_kinds (wsV RX5 141 RX5 yX5_isBatter wsX5_isBatter) := goodIn_app (goodIn_of _ (by decide +kernel)) ggX5_kinds_X5_isBatter
set_option maxRecDepth 20000 in
theorem ggX5_kinds_X5_refuse : GoodIn wsX5_kinds wsX5_refuse := goodIn_r _ [15, 16, 9, 10, 4, 11, 45, 46, 47, 48, 49, 50, 51, 52, 53, 54, 55, 56, 57, 58] (by decide +kernel) (by decide +kernel)
set_option maxRecDepth 20000 in
theorem gX5_kinds_X5_refuse : GoodIn wsX5_kinds (wsV RX5 70 RX5 yX5_refuse wsX5_refuse) := goodIn_app (goodIn_of _ (by decide +kernel)) ggX5_kinds_X5_refuse
set_option maxRecDepth 20000 in
theorem ggX5_kinds_X5_battersThatFit : GoodIn wsX5_kinds wsX5_battersThatFit := goodIn_r _ [20, 21, 22, 23, 4, 24, 6, 25, 26, 27, 28, 29, 30, 31, 32, 33, 34, 35, 36, 37, 38, 39, 40, 41, 42, 43, 44, 45, 46, 47, 48, 49, 50, 51, 52, 53, 54, 55, 56, 57, 58, 59, 60, 61, 62, 63, 72, 73, 74] (by decide +kernel) (by decide +kernel)
set_option maxRecDepth 20000 in
theorem gX5_kinds_X5_battersThatFit : GoodIn wsX5_kinds (wsV RX5 219 RX5 yX5_battersThatFit wsX5_battersThatFit) := goodIn_app (goodIn_of _ (by decide +kernel)) ggX5_kinds_X5_battersThatFit
theorem dX5_kinds_0 : decode cX5_kinds 0 = .ok (.aload_n 0, 1) := by decide +kernel
theorem dX5_kinds_1 : decode cX5_kinds 1 = .ok (.iload_n 1, 1) := by decide +kernel
theorem dX5_kinds_2 : decode cX5_kinds 2 = .ok (.invokevirtual 141, 3) := by decide +kernel
theorem dX5_kinds_5 : decode cX5_kinds 5 = .ok (.ifCond .ne 10, 3) := by decide +kernel
theorem dX5_kinds_8 : decode cX5_kinds 8 = .ok (.aload_n 0, 1) := by decide +kernel
theorem dX5_kinds_9 : decode cX5_kinds 9 = .ok (.bipush (-2), 2) := by decide +kernel
theorem dX5_kinds_11 : decode cX5_kinds 11 = .ok (.invokevirtual 70, 3) := by decide +kernel
theorem dX5_kinds_14 : decode cX5_kinds 14 = .ok (.ireturn, 1) := by decide +kernel
theorem dX5_kinds_15 : decode cX5_kinds 15 = .ok (.aload_n 0, 1) := by decide +kernel
theorem dX5_kinds_16 : decode cX5_kinds 16 = .ok (.iload_n 1, 1) := by decide +kernel
theorem dX5_kinds_17 : decode cX5_kinds 17 = .ok (.invokevirtual 219, 3) := by decide +kernel
theorem dX5_kinds_20 : decode cX5_kinds 20 = .ok (.ireturn, 1) := by decide +kernel
set_option maxRecDepth 20000 in
theorem ggX5_ask_X5_isBatter : GoodIn wsX5_ask wsX5_isBatter := goodIn_r _ [9, 2, 3, 10, 11, 12, 8, 13, 54, 55, 56, 57, 58, 59, 60, 61, 62, 63, 64, 65, 66, 67, 68, 69, 70, 71, 72, 73, 74, 75, 76, 77, 78, 79, 80] (by decide +kernel) (by decide +kernel)
set_option maxRecDepth 20000 in
theorem gX5_ask_X5_isBatter : GoodIn wsX5_ask (wsV RX5 141 RX5 yX5_isBatter wsX5_isBatter) := goodIn_app (goodIn_of _ (by decide +kernel)) ggX5_ask_X5_isBatter
set_option maxRecDepth 20000 in
theorem ggX5_ask_X5_refuse : GoodIn wsX5_ask wsX5_refuse := goodIn_r _ [17, 18, 11, 12, 8, 13, 54, 55, 56, 57, 58, 59, 60, 61, 62, 63, 64, 65, 66, 67] (by decide +kernel) (by decide +kernel)
set_option maxRecDepth 20000 in
theorem gX5_ask_X5_refuse : GoodIn wsX5_ask (wsV RX5 70 RX5 yX5_refuse wsX5_refuse) := goodIn_app (goodIn_of _ (by decide +kernel)) ggX5_ask_X5_refuse
set_option maxRecDepth 20000 in
theorem ggX5_ask_X5_battersThatFit : GoodIn wsX5_ask wsX5_battersThatFit := goodIn_r _ [22, 23, 24, 25, 8, 26, 2, 27, 28, 29, 30, 31, 32, 33, 34, 35, 36, 37, 38, 39, 40, 41, 42, 43, 44, 45, 46, 54, 55, 56, 57, 58, 59, 60, 61, 62, 63, 64, 65, 66, 67, 68, 69, 70, 71, 72, 81, 82, 83] (by decide +kernel) (by decide +kernel)
set_option maxRecDepth 20000 in
theorem gX5_ask_X5_battersThatFit : GoodIn wsX5_ask (wsV RX5 219 RX5 yX5_battersThatFit wsX5_battersThatFit) := goodIn_app (goodIn_of _ (by decide +kernel)) ggX5_ask_X5_battersThatFit
set_option maxRecDepth 20000 in
theorem ggX5_ask_X5_postsRun : GoodIn wsX5_ask wsX5_postsRun := goodIn_r _ [42, 43, 44, 45, 46] (by decide +kernel) (by decide +kernel)
set_option maxRecDepth 20000 in
theorem gX5_ask_X5_postsRun : GoodIn wsX5_ask (va_wsS RX5 225 yX5_postsRun wsX5_postsRun) := goodIn_app (goodIn_of _ (by decide +kernel)) ggX5_ask_X5_postsRun
set_option maxRecDepth 20000 in
theorem ggX5_ask_X5_mostAlike : GoodIn wsX5_ask wsX5_mostAlike := goodIn_r _ [50, 1, 51, 52, 45, 53, 54, 55, 56, 57, 58, 59, 60, 61, 62, 63, 64, 65, 66, 67] (by decide +kernel) (by decide +kernel)
set_option maxRecDepth 20000 in
theorem gX5_ask_X5_mostAlike : GoodIn wsX5_ask (wsV RX5 216 RX5 yX5_mostAlike wsX5_mostAlike) := goodIn_app (goodIn_of _ (by decide +kernel)) ggX5_ask_X5_mostAlike
theorem dX5_ask_0 : decode cX5_ask 0 = .ok (.aload_n 0, 1) := by decide +kernel
theorem dX5_ask_1 : decode cX5_ask 1 = .ok (.iload_n 1, 1) := by decide +kernel
theorem dX5_ask_2 : decode cX5_ask 2 = .ok (.invokevirtual 141, 3) := by decide +kernel
theorem dX5_ask_5 : decode cX5_ask 5 = .ok (.ifCond .ne 10, 3) := by decide +kernel
theorem dX5_ask_8 : decode cX5_ask 8 = .ok (.aload_n 0, 1) := by decide +kernel
theorem dX5_ask_9 : decode cX5_ask 9 = .ok (.bipush (-2), 2) := by decide +kernel
theorem dX5_ask_11 : decode cX5_ask 11 = .ok (.invokevirtual 70, 3) := by decide +kernel
theorem dX5_ask_14 : decode cX5_ask 14 = .ok (.ireturn, 1) := by decide +kernel
theorem dX5_ask_15 : decode cX5_ask 15 = .ok (.aload_n 0, 1) := by decide +kernel
theorem dX5_ask_16 : decode cX5_ask 16 = .ok (.iload_n 1, 1) := by decide +kernel
theorem dX5_ask_17 : decode cX5_ask 17 = .ok (.invokevirtual 219, 3) := by decide +kernel
theorem dX5_ask_20 : decode cX5_ask 20 = .ok (.istore_n 2, 1) := by decide +kernel
theorem dX5_ask_21 : decode cX5_ask 21 = .ok (.iconst (-1), 1) := by decide +kernel
theorem dX5_ask_22 : decode cX5_ask 22 = .ok (.istore_n 3, 1) := by decide +kernel
theorem dX5_ask_23 : decode cX5_ask 23 = .ok (.bipush 7, 2) := by decide +kernel
theorem dX5_ask_25 : decode cX5_ask 25 = .ok (.istore 4, 2) := by decide +kernel
theorem dX5_ask_27 : decode cX5_ask 27 = .ok (.iconst 1, 1) := by decide +kernel
theorem dX5_ask_28 : decode cX5_ask 28 = .ok (.istore 5, 2) := by decide +kernel
theorem dX5_ask_30 : decode cX5_ask 30 = .ok (.iload 5, 2) := by decide +kernel
theorem dX5_ask_32 : decode cX5_ask 32 = .ok (.bipush 20, 2) := by decide +kernel
theorem dX5_ask_34 : decode cX5_ask 34 = .ok (.if_icmp .gt 76, 3) := by decide +kernel
theorem dX5_ask_37 : decode cX5_ask 37 = .ok (.iload_n 2, 1) := by decide +kernel
theorem dX5_ask_38 : decode cX5_ask 38 = .ok (.ifCond .eq 72, 3) := by decide +kernel
theorem dX5_ask_41 : decode cX5_ask 41 = .ok (.iconst 0, 1) := by decide +kernel
theorem dX5_ask_42 : decode cX5_ask 42 = .ok (.istore 6, 2) := by decide +kernel
theorem dX5_ask_44 : decode cX5_ask 44 = .ok (.iload 6, 2) := by decide +kernel
theorem dX5_ask_46 : decode cX5_ask 46 = .ok (.bipush 6, 2) := by decide +kernel
theorem dX5_ask_48 : decode cX5_ask 48 = .ok (.if_icmp .ge 35, 3) := by decide +kernel
theorem dX5_ask_51 : decode cX5_ask 51 = .ok (.aload_n 0, 1) := by decide +kernel
theorem dX5_ask_52 : decode cX5_ask 52 = .ok (.getfield 58, 3) := by decide +kernel
theorem dX5_ask_55 : decode cX5_ask 55 = .ok (.iload 6, 2) := by decide +kernel
theorem dX5_ask_57 : decode cX5_ask 57 = .ok (.iload 6, 2) := by decide +kernel
theorem dX5_ask_59 : decode cX5_ask 59 = .ok (.aload_n 0, 1) := by decide +kernel
theorem dX5_ask_60 : decode cX5_ask 60 = .ok (.getfield 12, 3) := by decide +kernel
theorem dX5_ask_63 : decode cX5_ask 63 = .ok (.getfield 74, 3) := by decide +kernel
theorem dX5_ask_66 : decode cX5_ask 66 = .ok (.getfield 222, 3) := by decide +kernel
theorem dX5_ask_69 : decode cX5_ask 69 = .ok (.iload_n 1, 1) := by decide +kernel
theorem dX5_ask_70 : decode cX5_ask 70 = .ok (.iaload, 1) := by decide +kernel
theorem dX5_ask_71 : decode cX5_ask 71 = .ok (.iload 5, 2) := by decide +kernel
theorem dX5_ask_73 : decode cX5_ask 73 = .ok (.invokestatic 225, 3) := by decide +kernel
theorem dX5_ask_76 : decode cX5_ask 76 = .ok (.iastore, 1) := by decide +kernel
theorem dX5_ask_77 : decode cX5_ask 77 = .ok (.iinc 6 1, 3) := by decide +kernel
theorem dX5_ask_80 : decode cX5_ask 80 = .ok (.goto (-36), 3) := by decide +kernel
theorem dX5_ask_83 : decode cX5_ask 83 = .ok (.aload_n 0, 1) := by decide +kernel
theorem dX5_ask_84 : decode cX5_ask 84 = .ok (.iload_n 2, 1) := by decide +kernel
theorem dX5_ask_85 : decode cX5_ask 85 = .ok (.invokevirtual 216, 3) := by decide +kernel
theorem dX5_ask_88 : decode cX5_ask 88 = .ok (.istore 6, 2) := by decide +kernel
theorem dX5_ask_90 : decode cX5_ask 90 = .ok (.iload 6, 2) := by decide +kernel
theorem dX5_ask_92 : decode cX5_ask 92 = .ok (.iload 4, 2) := by decide +kernel
theorem dX5_ask_94 : decode cX5_ask 94 = .ok (.if_icmp .ge 10, 3) := by decide +kernel
theorem dX5_ask_97 : decode cX5_ask 97 = .ok (.iload 6, 2) := by decide +kernel
theorem dX5_ask_99 : decode cX5_ask 99 = .ok (.istore 4, 2) := by decide +kernel
theorem dX5_ask_101 : decode cX5_ask 101 = .ok (.iload 5, 2) := by decide +kernel
theorem dX5_ask_103 : decode cX5_ask 103 = .ok (.istore_n 3, 1) := by decide +kernel
theorem dX5_ask_104 : decode cX5_ask 104 = .ok (.iinc 5 1, 3) := by decide +kernel
theorem dX5_ask_107 : decode cX5_ask 107 = .ok (.goto (-77), 3) := by decide +kernel
theorem dX5_ask_110 : decode cX5_ask 110 = .ok (.iload_n 3, 1) := by decide +kernel
theorem dX5_ask_111 : decode cX5_ask 111 = .ok (.ireturn, 1) := by decide +kernel
set_option maxRecDepth 20000 in
theorem ggX5_captains_X5_refuse : GoodIn wsX5_captains wsX5_refuse := goodIn_r _ [8, 9, 10, 11, 7, 12, 83, 84, 85, 86, 87, 88, 89, 90, 91, 92, 93, 94, 95, 96] (by decide +kernel) (by decide +kernel)
set_option maxRecDepth 20000 in
theorem gX5_captains_X5_refuse : GoodIn wsX5_captains (wsV RX5 70 RX5 yX5_refuse wsX5_refuse) := goodIn_app (goodIn_of _ (by decide +kernel)) ggX5_captains_X5_refuse
set_option maxRecDepth 20000 in
theorem ggX5_captains_X5_fillGains : GoodIn wsX5_captains wsX5_fillGains := goodIn_r _ [16, 1, 2, 3, 17, 18, 19, 20, 21, 7, 22, 23, 24, 25, 26, 27, 28, 29, 30, 31, 32, 33, 34, 35, 36, 37, 38, 39, 40, 41, 42, 43, 44, 45, 46, 47, 48, 49, 50, 51, 52, 53, 54, 55, 56, 57, 58, 59, 60, 61, 62, 63, 64, 65, 66, 67, 68, 69, 70, 71, 72, 73, 74, 11, 12, 75, 76, 77, 78, 83, 84, 85, 86, 87, 88, 89, 90, 91, 92, 93, 94, 95, 96, 97, 98, 99, 100, 101, 102, 103, 104, 105, 106, 107, 108, 109] (by decide +kernel) (by decide +kernel)
set_option maxRecDepth 20000 in
theorem gX5_captains_X5_fillGains : GoodIn wsX5_captains (wsV RX5 228 RX5 yX5_fillGains wsX5_fillGains) := goodIn_app (goodIn_of _ (by decide +kernel)) ggX5_captains_X5_fillGains
set_option maxRecDepth 20000 in
theorem ggX5_captains_X5_rests : GoodIn wsX5_captains wsX5_rests := goodIn_r _ [82, 1, 2, 17, 18, 3, 83, 84, 85, 86, 87, 88, 89, 90, 91, 92, 93, 94, 95, 96, 97, 98, 99, 100, 101, 102, 103, 104, 105, 106, 107, 108, 109] (by decide +kernel) (by decide +kernel)
set_option maxRecDepth 20000 in
theorem gX5_captains_X5_rests : GoodIn wsX5_captains (wsV RX5 231 RX5 yX5_rests wsX5_rests) := goodIn_app (goodIn_of _ (by decide +kernel)) ggX5_captains_X5_rests
theorem dX5_captains_0 : decode cX5_captains 0 = .ok (.iload_n 1, 1) := by decide +kernel
theorem dX5_captains_1 : decode cX5_captains 1 = .ok (.iconst (-1), 1) := by decide +kernel
theorem dX5_captains_2 : decode cX5_captains 2 = .ok (.if_icmp .ge 13, 3) := by decide +kernel
theorem dX5_captains_5 : decode cX5_captains 5 = .ok (.aload_n 0, 1) := by decide +kernel
theorem dX5_captains_6 : decode cX5_captains 6 = .ok (.bipush (-2), 2) := by decide +kernel
theorem dX5_captains_8 : decode cX5_captains 8 = .ok (.invokevirtual 70, 3) := by decide +kernel
theorem dX5_captains_11 : decode cX5_captains 11 = .ok (.pop, 1) := by decide +kernel
theorem dX5_captains_12 : decode cX5_captains 12 = .ok (.bipush (-10), 2) := by decide +kernel
theorem dX5_captains_14 : decode cX5_captains 14 = .ok (.ireturn, 1) := by decide +kernel
theorem dX5_captains_15 : decode cX5_captains 15 = .ok (.aload_n 0, 1) := by decide +kernel
theorem dX5_captains_16 : decode cX5_captains 16 = .ok (.invokevirtual 228, 3) := by decide +kernel
theorem dX5_captains_19 : decode cX5_captains 19 = .ok (.iconst 0, 1) := by decide +kernel
theorem dX5_captains_20 : decode cX5_captains 20 = .ok (.istore_n 2, 1) := by decide +kernel
theorem dX5_captains_21 : decode cX5_captains 21 = .ok (.iconst 0, 1) := by decide +kernel
theorem dX5_captains_22 : decode cX5_captains 22 = .ok (.istore_n 3, 1) := by decide +kernel
theorem dX5_captains_23 : decode cX5_captains 23 = .ok (.iload_n 3, 1) := by decide +kernel
theorem dX5_captains_24 : decode cX5_captains 24 = .ok (.aload_n 0, 1) := by decide +kernel
theorem dX5_captains_25 : decode cX5_captains 25 = .ok (.getfield 12, 3) := by decide +kernel
theorem dX5_captains_28 : decode cX5_captains 28 = .ok (.getfield 74, 3) := by decide +kernel
theorem dX5_captains_31 : decode cX5_captains 31 = .ok (.getfield 77, 3) := by decide +kernel
theorem dX5_captains_34 : decode cX5_captains 34 = .ok (.if_icmp .ge 51, 3) := by decide +kernel
theorem dX5_captains_37 : decode cX5_captains 37 = .ok (.iconst 0, 1) := by decide +kernel
theorem dX5_captains_38 : decode cX5_captains 38 = .ok (.istore 4, 2) := by decide +kernel
theorem dX5_captains_40 : decode cX5_captains 40 = .ok (.iload 4, 2) := by decide +kernel
theorem dX5_captains_42 : decode cX5_captains 42 = .ok (.bipush 6, 2) := by decide +kernel
theorem dX5_captains_44 : decode cX5_captains 44 = .ok (.if_icmp .ge 35, 3) := by decide +kernel
theorem dX5_captains_47 : decode cX5_captains 47 = .ok (.aload_n 0, 1) := by decide +kernel
theorem dX5_captains_48 : decode cX5_captains 48 = .ok (.iload_n 3, 1) := by decide +kernel
theorem dX5_captains_49 : decode cX5_captains 49 = .ok (.iload 4, 2) := by decide +kernel
theorem dX5_captains_51 : decode cX5_captains 51 = .ok (.invokevirtual 231, 3) := by decide +kernel
theorem dX5_captains_54 : decode cX5_captains 54 = .ok (.ifCond .eq 19, 3) := by decide +kernel
theorem dX5_captains_57 : decode cX5_captains 57 = .ok (.iload_n 2, 1) := by decide +kernel
theorem dX5_captains_58 : decode cX5_captains 58 = .ok (.iload_n 1, 1) := by decide +kernel
theorem dX5_captains_59 : decode cX5_captains 59 = .ok (.if_icmp .ne 11, 3) := by decide +kernel
theorem dX5_captains_62 : decode cX5_captains 62 = .ok (.bipush 10, 2) := by decide +kernel
theorem dX5_captains_64 : decode cX5_captains 64 = .ok (.iload_n 3, 1) := by decide +kernel
theorem dX5_captains_65 : decode cX5_captains 65 = .ok (.imul, 1) := by decide +kernel
theorem dX5_captains_66 : decode cX5_captains 66 = .ok (.iload 4, 2) := by decide +kernel
theorem dX5_captains_68 : decode cX5_captains 68 = .ok (.iadd, 1) := by decide +kernel
theorem dX5_captains_69 : decode cX5_captains 69 = .ok (.ireturn, 1) := by decide +kernel
theorem dX5_captains_70 : decode cX5_captains 70 = .ok (.iinc 2 1, 3) := by decide +kernel
theorem dX5_captains_73 : decode cX5_captains 73 = .ok (.iinc 4 1, 3) := by decide +kernel
theorem dX5_captains_76 : decode cX5_captains 76 = .ok (.goto (-36), 3) := by decide +kernel
theorem dX5_captains_79 : decode cX5_captains 79 = .ok (.iinc 3 1, 3) := by decide +kernel
theorem dX5_captains_82 : decode cX5_captains 82 = .ok (.goto (-59), 3) := by decide +kernel
theorem dX5_captains_85 : decode cX5_captains 85 = .ok (.iload_n 1, 1) := by decide +kernel
theorem dX5_captains_86 : decode cX5_captains 86 = .ok (.ifCond .ge 7, 3) := by decide +kernel
theorem dX5_captains_89 : decode cX5_captains 89 = .ok (.iload_n 2, 1) := by decide +kernel
theorem dX5_captains_90 : decode cX5_captains 90 = .ok (.goto 5, 3) := by decide +kernel
theorem dX5_captains_93 : decode cX5_captains 93 = .ok (.bipush (-5), 2) := by decide +kernel
theorem dX5_captains_95 : decode cX5_captains 95 = .ok (.ireturn, 1) := by decide +kernel
set_option maxRecDepth 20000 in
theorem ggX5_days_X5_within : GoodIn wsX5_days wsX5_within := goodIn_r _ [13] (by decide +kernel) (by decide +kernel)
set_option maxRecDepth 20000 in
theorem gX5_days_X5_within : GoodIn wsX5_days (va_wsS RX5 97 yX5_within wsX5_within) := goodIn_app (goodIn_of _ (by decide +kernel)) ggX5_days_X5_within
set_option maxRecDepth 20000 in
theorem ggX5_days_X5_refuse : GoodIn wsX5_days wsX5_refuse := goodIn_r _ [17, 18, 10, 11, 12, 13, 72, 73, 74, 75, 76, 77, 78, 79, 80, 81, 82, 83, 84, 85] (by decide +kernel) (by decide +kernel)
set_option maxRecDepth 20000 in
theorem gX5_days_X5_refuse : GoodIn wsX5_days (wsV RX5 70 RX5 yX5_refuse wsX5_refuse) := goodIn_app (goodIn_of _ (by decide +kernel)) ggX5_days_X5_refuse
set_option maxRecDepth 20000 in
theorem ggX5_days_X2_copy : GoodIn wsX5_days wsX2_copy := goodIn_r _ [23, 24, 25, 26, 27, 28, 29, 30, 31, 32, 33, 34, 35, 91, 92, 93, 94, 95, 96, 97, 98] (by decide +kernel) (by decide +kernel)
set_option maxRecDepth 20000 in
theorem gX5_days_X2_copy : GoodIn wsX5_days (wsV RX5 113 RX2 yX2_copy wsX2_copy) := goodIn_app (goodIn_of _ (by decide +kernel)) ggX5_days_X2_copy
set_option maxRecDepth 20000 in
theorem ggX5_days_X2_isDone : GoodIn wsX5_days wsX2_isDone := goodIn_r _ [39, 26, 25, 91, 92, 93, 94, 95, 96, 97, 98] (by decide +kernel) (by decide +kernel)
set_option maxRecDepth 20000 in
theorem gX5_days_X2_isDone : GoodIn wsX5_days (wsV RX5 120 RX2 yX2_isDone wsX2_isDone) := goodIn_app (goodIn_of _ (by decide +kernel)) ggX5_days_X2_isDone
set_option maxRecDepth 20000 in
theorem ggX5_days_X2_ball : GoodIn wsX5_days wsX2_ball := goodIn_r _ [43, 44, 45, 46, 22, 47, 24, 28, 29, 26, 34, 48, 37, 38, 39, 25, 49, 12, 50, 51, 52, 53, 54, 55, 56, 57, 58, 59, 60, 61, 62, 63, 35, 27, 64, 65, 66, 67, 11, 13, 68, 69, 70, 71, 91, 92, 93, 94, 95, 96, 97, 98] (by decide +kernel) (by decide +kernel)
set_option maxRecDepth 20000 in
theorem gX5_days_X2_ball : GoodIn wsX5_days (wsV RX5 133 RX2 yX2_ball wsX2_ball) := goodIn_app (goodIn_of _ (by decide +kernel)) ggX5_days_X2_ball
theorem dX5_days_0 : decode cX5_days 0 = .ok (.iload_n 1, 1) := by decide +kernel
theorem dX5_days_1 : decode cX5_days 1 = .ok (.iconst 0, 1) := by decide +kernel
theorem dX5_days_2 : decode cX5_days 2 = .ok (.ldc 235, 2) := by decide +kernel
theorem dX5_days_4 : decode cX5_days 4 = .ok (.invokestatic 97, 3) := by decide +kernel
theorem dX5_days_7 : decode cX5_days 7 = .ok (.ifCond .eq 13, 3) := by decide +kernel
theorem dX5_days_10 : decode cX5_days 10 = .ok (.iload_n 2, 1) := by decide +kernel
theorem dX5_days_11 : decode cX5_days 11 = .ok (.iconst 0, 1) := by decide +kernel
theorem dX5_days_12 : decode cX5_days 12 = .ok (.bipush 60, 2) := by decide +kernel
theorem dX5_days_14 : decode cX5_days 14 = .ok (.invokestatic 97, 3) := by decide +kernel
theorem dX5_days_17 : decode cX5_days 17 = .ok (.ifCond .ne 10, 3) := by decide +kernel
theorem dX5_days_20 : decode cX5_days 20 = .ok (.aload_n 0, 1) := by decide +kernel
theorem dX5_days_21 : decode cX5_days 21 = .ok (.bipush (-2), 2) := by decide +kernel
theorem dX5_days_23 : decode cX5_days 23 = .ok (.invokevirtual 70, 3) := by decide +kernel
theorem dX5_days_26 : decode cX5_days 26 = .ok (.ireturn, 1) := by decide +kernel
theorem dX5_days_27 : decode cX5_days 27 = .ok (.aload_n 0, 1) := by decide +kernel
theorem dX5_days_28 : decode cX5_days 28 = .ok (.getfield 48, 3) := by decide +kernel
theorem dX5_days_31 : decode cX5_days 31 = .ok (.aload_n 0, 1) := by decide +kernel
theorem dX5_days_32 : decode cX5_days 32 = .ok (.getfield 12, 3) := by decide +kernel
theorem dX5_days_35 : decode cX5_days 35 = .ok (.getfield 74, 3) := by decide +kernel
theorem dX5_days_38 : decode cX5_days 38 = .ok (.invokevirtual 113, 3) := by decide +kernel
theorem dX5_days_41 : decode cX5_days 41 = .ok (.iload_n 1, 1) := by decide +kernel
theorem dX5_days_42 : decode cX5_days 42 = .ok (.i2l, 1) := by decide +kernel
theorem dX5_days_43 : decode cX5_days 43 = .ok (.lstore_n 3, 1) := by decide +kernel
theorem dX5_days_44 : decode cX5_days 44 = .ok (.iconst 0, 1) := by decide +kernel
theorem dX5_days_45 : decode cX5_days 45 = .ok (.istore 5, 2) := by decide +kernel
theorem dX5_days_47 : decode cX5_days 47 = .ok (.iconst 0, 1) := by decide +kernel
theorem dX5_days_48 : decode cX5_days 48 = .ok (.istore 6, 2) := by decide +kernel
theorem dX5_days_50 : decode cX5_days 50 = .ok (.iload 6, 2) := by decide +kernel
theorem dX5_days_52 : decode cX5_days 52 = .ok (.iload_n 2, 1) := by decide +kernel
theorem dX5_days_53 : decode cX5_days 53 = .ok (.if_icmp .ge 55, 3) := by decide +kernel
theorem dX5_days_56 : decode cX5_days 56 = .ok (.aload_n 0, 1) := by decide +kernel
theorem dX5_days_57 : decode cX5_days 57 = .ok (.getfield 48, 3) := by decide +kernel
theorem dX5_days_60 : decode cX5_days 60 = .ok (.invokevirtual 120, 3) := by decide +kernel
theorem dX5_days_63 : decode cX5_days 63 = .ok (.ifCond .ne 45, 3) := by decide +kernel
theorem dX5_days_66 : decode cX5_days 66 = .ok (.lload_n 3, 1) := by decide +kernel
theorem dX5_days_67 : decode cX5_days 67 = .ok (.ldc2_w 236, 3) := by decide +kernel
theorem dX5_days_70 : decode cX5_days 70 = .ok (.lmul, 1) := by decide +kernel
theorem dX5_days_71 : decode cX5_days 71 = .ok (.ldc2_w 238, 3) := by decide +kernel
theorem dX5_days_74 : decode cX5_days 74 = .ok (.ladd, 1) := by decide +kernel
theorem dX5_days_75 : decode cX5_days 75 = .ok (.ldc2_w 240, 3) := by decide +kernel
theorem dX5_days_78 : decode cX5_days 78 = .ok (.lrem, 1) := by decide +kernel
theorem dX5_days_79 : decode cX5_days 79 = .ok (.lstore_n 3, 1) := by decide +kernel
theorem dX5_days_80 : decode cX5_days 80 = .ok (.iload 5, 2) := by decide +kernel
theorem dX5_days_82 : decode cX5_days 82 = .ok (.aload_n 0, 1) := by decide +kernel
theorem dX5_days_83 : decode cX5_days 83 = .ok (.getfield 48, 3) := by decide +kernel
theorem dX5_days_86 : decode cX5_days 86 = .ok (.lload_n 3, 1) := by decide +kernel
theorem dX5_days_87 : decode cX5_days 87 = .ok (.ldc2_w 242, 3) := by decide +kernel
theorem dX5_days_90 : decode cX5_days 90 = .ok (.ldiv, 1) := by decide +kernel
theorem dX5_days_91 : decode cX5_days 91 = .ok (.ldc2_w 244, 3) := by decide +kernel
theorem dX5_days_94 : decode cX5_days 94 = .ok (.lrem, 1) := by decide +kernel
theorem dX5_days_95 : decode cX5_days 95 = .ok (.l2i, 1) := by decide +kernel
theorem dX5_days_96 : decode cX5_days 96 = .ok (.invokevirtual 133, 3) := by decide +kernel
theorem dX5_days_99 : decode cX5_days 99 = .ok (.iadd, 1) := by decide +kernel
theorem dX5_days_100 : decode cX5_days 100 = .ok (.istore 5, 2) := by decide +kernel
theorem dX5_days_102 : decode cX5_days 102 = .ok (.iinc 6 1, 3) := by decide +kernel
theorem dX5_days_105 : decode cX5_days 105 = .ok (.goto (-55), 3) := by decide +kernel
theorem dX5_days_108 : decode cX5_days 108 = .ok (.iload 5, 2) := by decide +kernel
theorem dX5_days_110 : decode cX5_days 110 = .ok (.ireturn, 1) := by decide +kernel
set_option maxRecDepth 20000 in
theorem ggX5_part_X5_within : GoodIn wsX5_part wsX5_within := goodIn_r _ [6] (by decide +kernel) (by decide +kernel)
set_option maxRecDepth 20000 in
theorem gX5_part_X5_within : GoodIn wsX5_part (va_wsS RX5 97 yX5_within wsX5_within) := goodIn_app (goodIn_of _ (by decide +kernel)) ggX5_part_X5_within
set_option maxRecDepth 20000 in
theorem ggX5_part_X5_refuse : GoodIn wsX5_part wsX5_refuse := goodIn_r _ [10, 11, 3, 4, 5, 6, 12, 13, 14, 15, 16, 17, 18, 19, 20, 21, 22, 23, 24, 25] (by decide +kernel) (by decide +kernel)
set_option maxRecDepth 20000 in
theorem gX5_part_X5_refuse : GoodIn wsX5_part (wsV RX5 70 RX5 yX5_refuse wsX5_refuse) := goodIn_app (goodIn_of _ (by decide +kernel)) ggX5_part_X5_refuse
theorem dX5_part_0 : decode cX5_part 0 = .ok (.iload_n 1, 1) := by decide +kernel
theorem dX5_part_1 : decode cX5_part 1 = .ok (.iconst 0, 1) := by decide +kernel
theorem dX5_part_2 : decode cX5_part 2 = .ok (.iconst 1, 1) := by decide +kernel
theorem dX5_part_3 : decode cX5_part 3 = .ok (.invokestatic 97, 3) := by decide +kernel
theorem dX5_part_6 : decode cX5_part 6 = .ok (.ifCond .ne 11, 3) := by decide +kernel
theorem dX5_part_9 : decode cX5_part 9 = .ok (.aload_n 0, 1) := by decide +kernel
theorem dX5_part_10 : decode cX5_part 10 = .ok (.bipush (-2), 2) := by decide +kernel
theorem dX5_part_12 : decode cX5_part 12 = .ok (.invokevirtual 70, 3) := by decide +kernel
theorem dX5_part_15 : decode cX5_part 15 = .ok (.i2l, 1) := by decide +kernel
theorem dX5_part_16 : decode cX5_part 16 = .ok (.lreturn, 1) := by decide +kernel
theorem dX5_part_17 : decode cX5_part 17 = .ok (.iload_n 1, 1) := by decide +kernel
theorem dX5_part_18 : decode cX5_part 18 = .ok (.ifCond .ne 10, 3) := by decide +kernel
theorem dX5_part_21 : decode cX5_part 21 = .ok (.aload_n 0, 1) := by decide +kernel
theorem dX5_part_22 : decode cX5_part 22 = .ok (.getfield 246, 3) := by decide +kernel
theorem dX5_part_25 : decode cX5_part 25 = .ok (.goto 7, 3) := by decide +kernel
theorem dX5_part_28 : decode cX5_part 28 = .ok (.aload_n 0, 1) := by decide +kernel
theorem dX5_part_29 : decode cX5_part 29 = .ok (.getfield 24, 3) := by decide +kernel
theorem dX5_part_32 : decode cX5_part 32 = .ok (.lreturn, 1) := by decide +kernel
set_option maxRecDepth 20000 in
theorem ggX5_image_X5_isImage : GoodIn wsX5_image wsX5_isImage := goodIn_r _ [9, 10, 11, 8, 12] (by decide +kernel) (by decide +kernel)
set_option maxRecDepth 20000 in
theorem gX5_image_X5_isImage : GoodIn wsX5_image (va_wsS RX5 249 yX5_isImage wsX5_isImage) := goodIn_app (goodIn_of _ (by decide +kernel)) ggX5_image_X5_isImage
set_option maxRecDepth 20000 in
theorem ggX5_image_X5_refuse : GoodIn wsX5_image wsX5_refuse := goodIn_r _ [16, 17, 10, 11, 8, 12, 83, 84, 85, 86, 87, 88, 89, 90, 91, 92, 93, 94, 95, 96] (by decide +kernel) (by decide +kernel)
set_option maxRecDepth 20000 in
theorem gX5_image_X5_refuse : GoodIn wsX5_image (wsV RX5 70 RX5 yX5_refuse wsX5_refuse) := goodIn_app (goodIn_of _ (by decide +kernel)) ggX5_image_X5_refuse
set_option maxRecDepth 20000 in
theorem ggX5_image_X1_init : GoodIn wsX5_image wsX1_init := goodIn_r _ [20, 21, 22, 23, 24, 25, 26, 27, 28, 29, 30, 31, 32, 33, 34, 35, 36, 37, 38, 39, 40, 41, 42, 43, 44, 45, 46, 47, 48, 49, 50, 51, 52, 53, 54, 55, 56, 102, 103, 104, 105, 106, 107, 108, 109, 97, 98, 99, 100, 101, 110, 111, 112] (by decide +kernel) (by decide +kernel)
set_option maxRecDepth 20000 in
theorem gX5_image_X1_init : GoodIn wsX5_image (wsX1_init) := ggX5_image_X1_init
set_option maxRecDepth 20000 in
theorem ggX5_image_X1_copy : GoodIn wsX5_image wsX1_copy := goodIn_r _ [60, 27, 29, 61, 62, 63, 64, 33, 34, 35, 65, 66, 67, 26, 68, 69, 70, 42, 71, 72, 39, 73, 40, 41, 74, 75, 76, 32, 77, 78, 52, 79, 80, 49, 81, 82, 97, 98, 99, 100, 101, 102, 103, 104, 105, 106, 107, 108, 109, 110, 111, 112] (by decide +kernel) (by decide +kernel)
set_option maxRecDepth 20000 in
theorem gX5_image_X1_copy : GoodIn wsX5_image (wsV RX5 252 RX1 yX1_copy wsX1_copy) := goodIn_app (goodIn_of _ (by decide +kernel)) ggX5_image_X1_copy
theorem dX5_image_0 : decode cX5_image 0 = .ok (.iload_n 1, 1) := by decide +kernel
theorem dX5_image_1 : decode cX5_image 1 = .ok (.invokestatic 249, 3) := by decide +kernel
theorem dX5_image_4 : decode cX5_image 4 = .ok (.ifCond .ne 10, 3) := by decide +kernel
theorem dX5_image_7 : decode cX5_image 7 = .ok (.aload_n 0, 1) := by decide +kernel
theorem dX5_image_8 : decode cX5_image 8 = .ok (.bipush (-2), 2) := by decide +kernel
theorem dX5_image_10 : decode cX5_image 10 = .ok (.invokevirtual 70, 3) := by decide +kernel
theorem dX5_image_13 : decode cX5_image 13 = .ok (.ireturn, 1) := by decide +kernel
theorem dX5_image_14 : decode cX5_image 14 = .ok (.aload_n 0, 1) := by decide +kernel
theorem dX5_image_15 : decode cX5_image 15 = .ok (.getfield 16, 3) := by decide +kernel
theorem dX5_image_18 : decode cX5_image 18 = .ok (.iload_n 1, 1) := by decide +kernel
theorem dX5_image_19 : decode cX5_image 19 = .ok (.aaload, 1) := by decide +kernel
theorem dX5_image_20 : decode cX5_image 20 = .ok (.ifnonnull 16, 3) := by decide +kernel
theorem dX5_image_23 : decode cX5_image 23 = .ok (.aload_n 0, 1) := by decide +kernel
theorem dX5_image_24 : decode cX5_image 24 = .ok (.getfield 16, 3) := by decide +kernel
theorem dX5_image_27 : decode cX5_image 27 = .ok (.iload_n 1, 1) := by decide +kernel
theorem dX5_image_28 : decode cX5_image 28 = .ok (.new 9, 3) := by decide +kernel
theorem dX5_image_31 : decode cX5_image 31 = .ok (.dup, 1) := by decide +kernel
theorem dX5_image_32 : decode cX5_image 32 = .ok (.invokespecial 11, 3) := by decide +kernel
theorem dX5_image_35 : decode cX5_image 35 = .ok (.aastore, 1) := by decide +kernel
theorem dX5_image_36 : decode cX5_image 36 = .ok (.aload_n 0, 1) := by decide +kernel
theorem dX5_image_37 : decode cX5_image 37 = .ok (.getfield 16, 3) := by decide +kernel
theorem dX5_image_40 : decode cX5_image 40 = .ok (.iload_n 1, 1) := by decide +kernel
theorem dX5_image_41 : decode cX5_image 41 = .ok (.aaload, 1) := by decide +kernel
theorem dX5_image_42 : decode cX5_image 42 = .ok (.aload_n 0, 1) := by decide +kernel
theorem dX5_image_43 : decode cX5_image 43 = .ok (.getfield 12, 3) := by decide +kernel
theorem dX5_image_46 : decode cX5_image 46 = .ok (.invokevirtual 252, 3) := by decide +kernel
theorem dX5_image_49 : decode cX5_image 49 = .ok (.iconst 1, 1) := by decide +kernel
theorem dX5_image_50 : decode cX5_image 50 = .ok (.ireturn, 1) := by decide +kernel
set_option maxRecDepth 20000 in
theorem ggX5_from_X5_isImage : GoodIn wsX5_from wsX5_isImage := goodIn_r _ [6, 7, 8, 5, 9] (by decide +kernel) (by decide +kernel)
set_option maxRecDepth 20000 in
theorem gX5_from_X5_isImage : GoodIn wsX5_from (va_wsS RX5 249 yX5_isImage wsX5_isImage) := goodIn_app (goodIn_of _ (by decide +kernel)) ggX5_from_X5_isImage
set_option maxRecDepth 20000 in
theorem ggX5_from_X5_refuse : GoodIn wsX5_from wsX5_refuse := goodIn_r _ [13, 14, 7, 8, 5, 9, 55, 56, 57, 58, 59, 60, 61, 62, 63, 64, 65, 66, 67, 68] (by decide +kernel) (by decide +kernel)
set_option maxRecDepth 20000 in
theorem gX5_from_X5_refuse : GoodIn wsX5_from (wsV RX5 70 RX5 yX5_refuse wsX5_refuse) := goodIn_app (goodIn_of _ (by decide +kernel)) ggX5_from_X5_refuse
set_option maxRecDepth 20000 in
theorem ggX5_from_X1_copy : GoodIn wsX5_from wsX1_copy := goodIn_r _ [19, 20, 21, 22, 23, 24, 25, 26, 27, 28, 29, 30, 31, 32, 33, 34, 35, 36, 37, 38, 39, 40, 41, 42, 43, 44, 45, 46, 47, 48, 49, 50, 51, 52, 53, 54, 69, 70, 71, 72, 73, 74, 75, 76, 77, 78, 79, 80, 81, 82, 83, 84] (by decide +kernel) (by decide +kernel)
set_option maxRecDepth 20000 in
theorem gX5_from_X1_copy : GoodIn wsX5_from (wsV RX5 252 RX1 yX1_copy wsX1_copy) := goodIn_app (goodIn_of _ (by decide +kernel)) ggX5_from_X1_copy
theorem dX5_from_0 : decode cX5_from 0 = .ok (.iload_n 1, 1) := by decide +kernel
theorem dX5_from_1 : decode cX5_from 1 = .ok (.invokestatic 249, 3) := by decide +kernel
theorem dX5_from_4 : decode cX5_from 4 = .ok (.ifCond .ne 10, 3) := by decide +kernel
theorem dX5_from_7 : decode cX5_from 7 = .ok (.aload_n 0, 1) := by decide +kernel
theorem dX5_from_8 : decode cX5_from 8 = .ok (.bipush (-2), 2) := by decide +kernel
theorem dX5_from_10 : decode cX5_from 10 = .ok (.invokevirtual 70, 3) := by decide +kernel
theorem dX5_from_13 : decode cX5_from 13 = .ok (.ireturn, 1) := by decide +kernel
theorem dX5_from_14 : decode cX5_from 14 = .ok (.aload_n 0, 1) := by decide +kernel
theorem dX5_from_15 : decode cX5_from 15 = .ok (.getfield 16, 3) := by decide +kernel
theorem dX5_from_18 : decode cX5_from 18 = .ok (.iload_n 1, 1) := by decide +kernel
theorem dX5_from_19 : decode cX5_from 19 = .ok (.aaload, 1) := by decide +kernel
theorem dX5_from_20 : decode cX5_from 20 = .ok (.ifnonnull 10, 3) := by decide +kernel
theorem dX5_from_23 : decode cX5_from 23 = .ok (.aload_n 0, 1) := by decide +kernel
theorem dX5_from_24 : decode cX5_from 24 = .ok (.bipush (-3), 2) := by decide +kernel
theorem dX5_from_26 : decode cX5_from 26 = .ok (.invokevirtual 70, 3) := by decide +kernel
theorem dX5_from_29 : decode cX5_from 29 = .ok (.ireturn, 1) := by decide +kernel
theorem dX5_from_30 : decode cX5_from 30 = .ok (.aload_n 0, 1) := by decide +kernel
theorem dX5_from_31 : decode cX5_from 31 = .ok (.getfield 12, 3) := by decide +kernel
theorem dX5_from_34 : decode cX5_from 34 = .ok (.aload_n 0, 1) := by decide +kernel
theorem dX5_from_35 : decode cX5_from 35 = .ok (.getfield 16, 3) := by decide +kernel
theorem dX5_from_38 : decode cX5_from 38 = .ok (.iload_n 1, 1) := by decide +kernel
theorem dX5_from_39 : decode cX5_from 39 = .ok (.aaload, 1) := by decide +kernel
theorem dX5_from_40 : decode cX5_from 40 = .ok (.invokevirtual 252, 3) := by decide +kernel
theorem dX5_from_43 : decode cX5_from 43 = .ok (.iconst 1, 1) := by decide +kernel
theorem dX5_from_44 : decode cX5_from 44 = .ok (.ireturn, 1) := by decide +kernel
set_option maxRecDepth 20000 in
theorem ggX5_status_X5_within : GoodIn wsX5_status wsX5_within := goodIn_r _ [5] (by decide +kernel) (by decide +kernel)
set_option maxRecDepth 20000 in
theorem gX5_status_X5_within : GoodIn wsX5_status (va_wsS RX5 97 yX5_within wsX5_within) := goodIn_app (goodIn_of _ (by decide +kernel)) ggX5_status_X5_within
set_option maxRecDepth 20000 in
theorem ggX5_status_X5_refuse : GoodIn wsX5_status wsX5_refuse := goodIn_r _ [9, 1, 2, 3, 4, 5, 10, 11, 12, 13, 14, 15, 16, 17, 18, 19, 20, 21, 22, 23] (by decide +kernel) (by decide +kernel)
set_option maxRecDepth 20000 in
theorem gX5_status_X5_refuse : GoodIn wsX5_status (wsV RX5 70 RX5 yX5_refuse wsX5_refuse) := goodIn_app (goodIn_of _ (by decide +kernel)) ggX5_status_X5_refuse
theorem dX5_status_0 : decode cX5_status 0 = .ok (.iload_n 1, 1) := by decide +kernel
theorem dX5_status_1 : decode cX5_status 1 = .ok (.iconst 0, 1) := by decide +kernel
theorem dX5_status_2 : decode cX5_status 2 = .ok (.iconst 2, 1) := by decide +kernel
theorem dX5_status_3 : decode cX5_status 3 = .ok (.invokestatic 97, 3) := by decide +kernel
theorem dX5_status_6 : decode cX5_status 6 = .ok (.ifCond .ne 12, 3) := by decide +kernel
theorem dX5_status_9 : decode cX5_status 9 = .ok (.aload_n 0, 1) := by decide +kernel
theorem dX5_status_10 : decode cX5_status 10 = .ok (.bipush (-2), 2) := by decide +kernel
theorem dX5_status_12 : decode cX5_status 12 = .ok (.invokevirtual 70, 3) := by decide +kernel
theorem dX5_status_15 : decode cX5_status 15 = .ok (.pop, 1) := by decide +kernel
theorem dX5_status_16 : decode cX5_status 16 = .ok (.iconst (-1), 1) := by decide +kernel
theorem dX5_status_17 : decode cX5_status 17 = .ok (.ireturn, 1) := by decide +kernel
theorem dX5_status_18 : decode cX5_status 18 = .ok (.aload_n 0, 1) := by decide +kernel
theorem dX5_status_19 : decode cX5_status 19 = .ok (.getfield 28, 3) := by decide +kernel
theorem dX5_status_22 : decode cX5_status 22 = .ok (.iload_n 1, 1) := by decide +kernel
theorem dX5_status_23 : decode cX5_status 23 = .ok (.iaload, 1) := by decide +kernel
theorem dX5_status_24 : decode cX5_status 24 = .ok (.ireturn, 1) := by decide +kernel
set_option maxRecDepth 20000 in
theorem ggX5_count_X2_howManyAt : GoodIn wsX5_count wsX2_howManyAt := goodIn_r _ [16, 17, 18, 19, 20, 21, 54, 55, 56, 57, 58, 59, 60, 61] (by decide +kernel) (by decide +kernel)
set_option maxRecDepth 20000 in
theorem gX5_count_X2_howManyAt : GoodIn wsX5_count (wsV RX5 255 RX2 yX2_howManyAt wsX2_howManyAt) := goodIn_app (goodIn_of _ (by decide +kernel)) ggX5_count_X2_howManyAt
set_option maxRecDepth 20000 in
theorem ggX5_count_X4_size : GoodIn wsX5_count wsX4_size := goodIn_r _ [26, 27, 28, 62, 63, 64] (by decide +kernel) (by decide +kernel)
set_option maxRecDepth 20000 in
theorem gX5_count_X4_size : GoodIn wsX5_count (wsV RX5 153 RX4 yX4_size wsX4_size) := goodIn_app (goodIn_of _ (by decide +kernel)) ggX5_count_X4_size
set_option maxRecDepth 20000 in
theorem ggX5_count_X5_refuse : GoodIn wsX5_count wsX5_refuse := goodIn_r _ [32, 33, 34, 19, 20, 21, 35, 36, 37, 38, 39, 40, 41, 42, 43, 44, 45, 46, 47, 48] (by decide +kernel) (by decide +kernel)
set_option maxRecDepth 20000 in
theorem gX5_count_X5_refuse : GoodIn wsX5_count (wsV RX5 70 RX5 yX5_refuse wsX5_refuse) := goodIn_app (goodIn_of _ (by decide +kernel)) ggX5_count_X5_refuse
theorem dX5_count_0 : decode cX5_count 0 = .ok (.iload_n 1, 1) := by decide +kernel
theorem dX5_count_1 : decode cX5_count 1 = .ok (.tableswitch 195 0 11 #[63, 74, 87, 100, 113, 124, 135, 146, 157, 168, 179, 190], 63) := by decide +kernel
theorem dX5_count_64 : decode cX5_count 64 = .ok (.aload_n 0, 1) := by decide +kernel
theorem dX5_count_65 : decode cX5_count 65 = .ok (.getfield 12, 3) := by decide +kernel
theorem dX5_count_68 : decode cX5_count 68 = .ok (.getfield 74, 3) := by decide +kernel
theorem dX5_count_71 : decode cX5_count 71 = .ok (.getfield 77, 3) := by decide +kernel
theorem dX5_count_74 : decode cX5_count 74 = .ok (.ireturn, 1) := by decide +kernel
theorem dX5_count_75 : decode cX5_count 75 = .ok (.aload_n 0, 1) := by decide +kernel
theorem dX5_count_76 : decode cX5_count 76 = .ok (.getfield 12, 3) := by decide +kernel
theorem dX5_count_79 : decode cX5_count 79 = .ok (.getfield 74, 3) := by decide +kernel
theorem dX5_count_82 : decode cX5_count 82 = .ok (.iconst 0, 1) := by decide +kernel
theorem dX5_count_83 : decode cX5_count 83 = .ok (.iconst 0, 1) := by decide +kernel
theorem dX5_count_84 : decode cX5_count 84 = .ok (.invokevirtual 255, 3) := by decide +kernel
theorem dX5_count_87 : decode cX5_count 87 = .ok (.ireturn, 1) := by decide +kernel
theorem dX5_count_88 : decode cX5_count 88 = .ok (.aload_n 0, 1) := by decide +kernel
theorem dX5_count_89 : decode cX5_count 89 = .ok (.getfield 12, 3) := by decide +kernel
theorem dX5_count_92 : decode cX5_count 92 = .ok (.getfield 74, 3) := by decide +kernel
theorem dX5_count_95 : decode cX5_count 95 = .ok (.iconst 1, 1) := by decide +kernel
theorem dX5_count_96 : decode cX5_count 96 = .ok (.iconst 3, 1) := by decide +kernel
theorem dX5_count_97 : decode cX5_count 97 = .ok (.invokevirtual 255, 3) := by decide +kernel
theorem dX5_count_100 : decode cX5_count 100 = .ok (.ireturn, 1) := by decide +kernel
theorem dX5_count_101 : decode cX5_count 101 = .ok (.aload_n 0, 1) := by decide +kernel
theorem dX5_count_102 : decode cX5_count 102 = .ok (.getfield 12, 3) := by decide +kernel
theorem dX5_count_105 : decode cX5_count 105 = .ok (.getfield 74, 3) := by decide +kernel
theorem dX5_count_108 : decode cX5_count 108 = .ok (.iconst 4, 1) := by decide +kernel
theorem dX5_count_109 : decode cX5_count 109 = .ok (.iconst 4, 1) := by decide +kernel
theorem dX5_count_110 : decode cX5_count 110 = .ok (.invokevirtual 255, 3) := by decide +kernel
theorem dX5_count_113 : decode cX5_count 113 = .ok (.ireturn, 1) := by decide +kernel
theorem dX5_count_114 : decode cX5_count 114 = .ok (.aload_n 0, 1) := by decide +kernel
theorem dX5_count_115 : decode cX5_count 115 = .ok (.getfield 12, 3) := by decide +kernel
theorem dX5_count_118 : decode cX5_count 118 = .ok (.getfield 74, 3) := by decide +kernel
theorem dX5_count_121 : decode cX5_count 121 = .ok (.getfield 147, 3) := by decide +kernel
theorem dX5_count_124 : decode cX5_count 124 = .ok (.ireturn, 1) := by decide +kernel
theorem dX5_count_125 : decode cX5_count 125 = .ok (.aload_n 0, 1) := by decide +kernel
theorem dX5_count_126 : decode cX5_count 126 = .ok (.getfield 12, 3) := by decide +kernel
theorem dX5_count_129 : decode cX5_count 129 = .ok (.getfield 74, 3) := by decide +kernel
theorem dX5_count_132 : decode cX5_count 132 = .ok (.getfield 127, 3) := by decide +kernel
theorem dX5_count_135 : decode cX5_count 135 = .ok (.ireturn, 1) := by decide +kernel
theorem dX5_count_136 : decode cX5_count 136 = .ok (.aload_n 0, 1) := by decide +kernel
theorem dX5_count_137 : decode cX5_count 137 = .ok (.getfield 12, 3) := by decide +kernel
theorem dX5_count_140 : decode cX5_count 140 = .ok (.getfield 74, 3) := by decide +kernel
theorem dX5_count_143 : decode cX5_count 143 = .ok (.getfield 124, 3) := by decide +kernel
theorem dX5_count_146 : decode cX5_count 146 = .ok (.ireturn, 1) := by decide +kernel
theorem dX5_count_147 : decode cX5_count 147 = .ok (.aload_n 0, 1) := by decide +kernel
theorem dX5_count_148 : decode cX5_count 148 = .ok (.getfield 12, 3) := by decide +kernel
theorem dX5_count_151 : decode cX5_count 151 = .ok (.getfield 74, 3) := by decide +kernel
theorem dX5_count_154 : decode cX5_count 154 = .ok (.getfield 85, 3) := by decide +kernel
theorem dX5_count_157 : decode cX5_count 157 = .ok (.ireturn, 1) := by decide +kernel
theorem dX5_count_158 : decode cX5_count 158 = .ok (.aload_n 0, 1) := by decide +kernel
theorem dX5_count_159 : decode cX5_count 159 = .ok (.getfield 12, 3) := by decide +kernel
theorem dX5_count_162 : decode cX5_count 162 = .ok (.getfield 195, 3) := by decide +kernel
theorem dX5_count_165 : decode cX5_count 165 = .ok (.invokevirtual 153, 3) := by decide +kernel
theorem dX5_count_168 : decode cX5_count 168 = .ok (.ireturn, 1) := by decide +kernel
theorem dX5_count_169 : decode cX5_count 169 = .ok (.aload_n 0, 1) := by decide +kernel
theorem dX5_count_170 : decode cX5_count 170 = .ok (.getfield 12, 3) := by decide +kernel
theorem dX5_count_173 : decode cX5_count 173 = .ok (.getfield 204, 3) := by decide +kernel
theorem dX5_count_176 : decode cX5_count 176 = .ok (.invokevirtual 153, 3) := by decide +kernel
theorem dX5_count_179 : decode cX5_count 179 = .ok (.ireturn, 1) := by decide +kernel
theorem dX5_count_180 : decode cX5_count 180 = .ok (.aload_n 0, 1) := by decide +kernel
theorem dX5_count_181 : decode cX5_count 181 = .ok (.getfield 12, 3) := by decide +kernel
theorem dX5_count_184 : decode cX5_count 184 = .ok (.getfield 88, 3) := by decide +kernel
theorem dX5_count_187 : decode cX5_count 187 = .ok (.invokevirtual 153, 3) := by decide +kernel
theorem dX5_count_190 : decode cX5_count 190 = .ok (.ireturn, 1) := by decide +kernel
theorem dX5_count_191 : decode cX5_count 191 = .ok (.aload_n 0, 1) := by decide +kernel
theorem dX5_count_192 : decode cX5_count 192 = .ok (.getfield 105, 3) := by decide +kernel
theorem dX5_count_195 : decode cX5_count 195 = .ok (.ireturn, 1) := by decide +kernel
theorem dX5_count_196 : decode cX5_count 196 = .ok (.aload_n 0, 1) := by decide +kernel
theorem dX5_count_197 : decode cX5_count 197 = .ok (.bipush (-2), 2) := by decide +kernel
theorem dX5_count_199 : decode cX5_count 199 = .ok (.invokevirtual 70, 3) := by decide +kernel
theorem dX5_count_202 : decode cX5_count 202 = .ok (.ireturn, 1) := by decide +kernel
set_option maxRecDepth 20000 in
theorem ggX5_digest_X5_count : GoodIn wsX5_digest wsX5_count := goodIn_r _ [15, 3, 4, 5, 16, 17, 18, 19, 8, 7, 20, 21, 22, 23, 24, 25, 26, 27, 28, 29, 14, 30, 31, 32, 33, 34, 35, 36, 37, 38, 39, 40, 41, 42, 43, 56, 57, 58, 59, 60, 61, 62, 63, 64, 65, 66, 67, 68, 69, 70, 71, 72, 73, 74, 75, 76, 77, 78, 79, 80, 81, 82, 83, 84, 85] (by decide +kernel) (by decide +kernel)
set_option maxRecDepth 20000 in
theorem gX5_digest_X5_count : GoodIn wsX5_digest (wsV RX5 262 RX5 yX5_count wsX5_count) := goodIn_app (goodIn_of _ (by decide +kernel)) ggX5_digest_X5_count
set_option maxRecDepth 20000 in
theorem ggX5_digest_X2_told : GoodIn wsX5_digest wsX2_told := goodIn_r _ [47, 27, 48, 49, 28, 29, 14, 30, 75, 76, 77, 78, 79, 80, 81, 82] (by decide +kernel) (by decide +kernel)
set_option maxRecDepth 20000 in
theorem gX5_digest_X2_told : GoodIn wsX5_digest (wsV RX5 159 RX2 yX2_told wsX2_told) := goodIn_app (goodIn_of _ (by decide +kernel)) ggX5_digest_X2_told
set_option maxRecDepth 20000 in
theorem ggX5_digest_X4_digestFrom : GoodIn wsX5_digest wsX4_digestFrom := goodIn_r _ [53, 37, 54, 55, 83, 84, 85] (by decide +kernel) (by decide +kernel)
set_option maxRecDepth 20000 in
theorem gX5_digest_X4_digestFrom : GoodIn wsX5_digest (wsV RX5 265 RX4 yX4_digestFrom wsX4_digestFrom) := goodIn_app (goodIn_of _ (by decide +kernel)) ggX5_digest_X4_digestFrom
theorem dX5_digest_0 : decode cX5_digest 0 = .ok (.ldc2_w 258, 3) := by decide +kernel
theorem dX5_digest_3 : decode cX5_digest 3 = .ok (.lstore_n 1, 1) := by decide +kernel
theorem dX5_digest_4 : decode cX5_digest 4 = .ok (.iconst 0, 1) := by decide +kernel
theorem dX5_digest_5 : decode cX5_digest 5 = .ok (.istore_n 3, 1) := by decide +kernel
theorem dX5_digest_6 : decode cX5_digest 6 = .ok (.iload_n 3, 1) := by decide +kernel
theorem dX5_digest_7 : decode cX5_digest 7 = .ok (.bipush 12, 2) := by decide +kernel
theorem dX5_digest_9 : decode cX5_digest 9 = .ok (.if_icmp .ge 22, 3) := by decide +kernel
theorem dX5_digest_12 : decode cX5_digest 12 = .ok (.ldc2_w 260, 3) := by decide +kernel
theorem dX5_digest_15 : decode cX5_digest 15 = .ok (.lload_n 1, 1) := by decide +kernel
theorem dX5_digest_16 : decode cX5_digest 16 = .ok (.lmul, 1) := by decide +kernel
theorem dX5_digest_17 : decode cX5_digest 17 = .ok (.aload_n 0, 1) := by decide +kernel
theorem dX5_digest_18 : decode cX5_digest 18 = .ok (.iload_n 3, 1) := by decide +kernel
theorem dX5_digest_19 : decode cX5_digest 19 = .ok (.invokevirtual 262, 3) := by decide +kernel
theorem dX5_digest_22 : decode cX5_digest 22 = .ok (.i2l, 1) := by decide +kernel
theorem dX5_digest_23 : decode cX5_digest 23 = .ok (.ladd, 1) := by decide +kernel
theorem dX5_digest_24 : decode cX5_digest 24 = .ok (.lstore_n 1, 1) := by decide +kernel
theorem dX5_digest_25 : decode cX5_digest 25 = .ok (.iinc 3 1, 3) := by decide +kernel
theorem dX5_digest_28 : decode cX5_digest 28 = .ok (.goto (-22), 3) := by decide +kernel
theorem dX5_digest_31 : decode cX5_digest 31 = .ok (.iconst 0, 1) := by decide +kernel
theorem dX5_digest_32 : decode cX5_digest 32 = .ok (.istore_n 3, 1) := by decide +kernel
theorem dX5_digest_33 : decode cX5_digest 33 = .ok (.iload_n 3, 1) := by decide +kernel
theorem dX5_digest_34 : decode cX5_digest 34 = .ok (.aload_n 0, 1) := by decide +kernel
theorem dX5_digest_35 : decode cX5_digest 35 = .ok (.getfield 12, 3) := by decide +kernel
theorem dX5_digest_38 : decode cX5_digest 38 = .ok (.getfield 74, 3) := by decide +kernel
theorem dX5_digest_41 : decode cX5_digest 41 = .ok (.getfield 77, 3) := by decide +kernel
theorem dX5_digest_44 : decode cX5_digest 44 = .ok (.if_icmp .ge 45, 3) := by decide +kernel
theorem dX5_digest_47 : decode cX5_digest 47 = .ok (.iconst 0, 1) := by decide +kernel
theorem dX5_digest_48 : decode cX5_digest 48 = .ok (.istore 4, 2) := by decide +kernel
theorem dX5_digest_50 : decode cX5_digest 50 = .ok (.iload 4, 2) := by decide +kernel
theorem dX5_digest_52 : decode cX5_digest 52 = .ok (.iconst 2, 1) := by decide +kernel
theorem dX5_digest_53 : decode cX5_digest 53 = .ok (.if_icmp .gt 30, 3) := by decide +kernel
theorem dX5_digest_56 : decode cX5_digest 56 = .ok (.ldc2_w 260, 3) := by decide +kernel
theorem dX5_digest_59 : decode cX5_digest 59 = .ok (.lload_n 1, 1) := by decide +kernel
theorem dX5_digest_60 : decode cX5_digest 60 = .ok (.lmul, 1) := by decide +kernel
theorem dX5_digest_61 : decode cX5_digest 61 = .ok (.aload_n 0, 1) := by decide +kernel
theorem dX5_digest_62 : decode cX5_digest 62 = .ok (.getfield 12, 3) := by decide +kernel
theorem dX5_digest_65 : decode cX5_digest 65 = .ok (.getfield 74, 3) := by decide +kernel
theorem dX5_digest_68 : decode cX5_digest 68 = .ok (.iload_n 3, 1) := by decide +kernel
theorem dX5_digest_69 : decode cX5_digest 69 = .ok (.iload 4, 2) := by decide +kernel
theorem dX5_digest_71 : decode cX5_digest 71 = .ok (.invokevirtual 159, 3) := by decide +kernel
theorem dX5_digest_74 : decode cX5_digest 74 = .ok (.i2l, 1) := by decide +kernel
theorem dX5_digest_75 : decode cX5_digest 75 = .ok (.ladd, 1) := by decide +kernel
theorem dX5_digest_76 : decode cX5_digest 76 = .ok (.lstore_n 1, 1) := by decide +kernel
theorem dX5_digest_77 : decode cX5_digest 77 = .ok (.iinc 4 1, 3) := by decide +kernel
theorem dX5_digest_80 : decode cX5_digest 80 = .ok (.goto (-30), 3) := by decide +kernel
theorem dX5_digest_83 : decode cX5_digest 83 = .ok (.iinc 3 1, 3) := by decide +kernel
theorem dX5_digest_86 : decode cX5_digest 86 = .ok (.goto (-53), 3) := by decide +kernel
theorem dX5_digest_89 : decode cX5_digest 89 = .ok (.iconst 0, 1) := by decide +kernel
theorem dX5_digest_90 : decode cX5_digest 90 = .ok (.istore_n 3, 1) := by decide +kernel
theorem dX5_digest_91 : decode cX5_digest 91 = .ok (.iload_n 3, 1) := by decide +kernel
theorem dX5_digest_92 : decode cX5_digest 92 = .ok (.bipush 8, 2) := by decide +kernel
theorem dX5_digest_94 : decode cX5_digest 94 = .ok (.if_icmp .ge 26, 3) := by decide +kernel
theorem dX5_digest_97 : decode cX5_digest 97 = .ok (.ldc2_w 260, 3) := by decide +kernel
theorem dX5_digest_100 : decode cX5_digest 100 = .ok (.lload_n 1, 1) := by decide +kernel
theorem dX5_digest_101 : decode cX5_digest 101 = .ok (.lmul, 1) := by decide +kernel
theorem dX5_digest_102 : decode cX5_digest 102 = .ok (.aload_n 0, 1) := by decide +kernel
theorem dX5_digest_103 : decode cX5_digest 103 = .ok (.getfield 12, 3) := by decide +kernel
theorem dX5_digest_106 : decode cX5_digest 106 = .ok (.getfield 150, 3) := by decide +kernel
theorem dX5_digest_109 : decode cX5_digest 109 = .ok (.iload_n 3, 1) := by decide +kernel
theorem dX5_digest_110 : decode cX5_digest 110 = .ok (.iaload, 1) := by decide +kernel
theorem dX5_digest_111 : decode cX5_digest 111 = .ok (.i2l, 1) := by decide +kernel
theorem dX5_digest_112 : decode cX5_digest 112 = .ok (.ladd, 1) := by decide +kernel
theorem dX5_digest_113 : decode cX5_digest 113 = .ok (.lstore_n 1, 1) := by decide +kernel
theorem dX5_digest_114 : decode cX5_digest 114 = .ok (.iinc 3 1, 3) := by decide +kernel
theorem dX5_digest_117 : decode cX5_digest 117 = .ok (.goto (-26), 3) := by decide +kernel
theorem dX5_digest_120 : decode cX5_digest 120 = .ok (.aload_n 0, 1) := by decide +kernel
theorem dX5_digest_121 : decode cX5_digest 121 = .ok (.getfield 12, 3) := by decide +kernel
theorem dX5_digest_124 : decode cX5_digest 124 = .ok (.getfield 204, 3) := by decide +kernel
theorem dX5_digest_127 : decode cX5_digest 127 = .ok (.aload_n 0, 1) := by decide +kernel
theorem dX5_digest_128 : decode cX5_digest 128 = .ok (.getfield 12, 3) := by decide +kernel
theorem dX5_digest_131 : decode cX5_digest 131 = .ok (.getfield 195, 3) := by decide +kernel
theorem dX5_digest_134 : decode cX5_digest 134 = .ok (.lload_n 1, 1) := by decide +kernel
theorem dX5_digest_135 : decode cX5_digest 135 = .ok (.invokevirtual 265, 3) := by decide +kernel
theorem dX5_digest_138 : decode cX5_digest 138 = .ok (.invokevirtual 265, 3) := by decide +kernel
theorem dX5_digest_141 : decode cX5_digest 141 = .ok (.lstore_n 1, 1) := by decide +kernel
theorem dX5_digest_142 : decode cX5_digest 142 = .ok (.ldc2_w 260, 3) := by decide +kernel
theorem dX5_digest_145 : decode cX5_digest 145 = .ok (.ldc2_w 260, 3) := by decide +kernel
theorem dX5_digest_148 : decode cX5_digest 148 = .ok (.lload_n 1, 1) := by decide +kernel
theorem dX5_digest_149 : decode cX5_digest 149 = .ok (.lmul, 1) := by decide +kernel
theorem dX5_digest_150 : decode cX5_digest 150 = .ok (.aload_n 0, 1) := by decide +kernel
theorem dX5_digest_151 : decode cX5_digest 151 = .ok (.getfield 246, 3) := by decide +kernel
theorem dX5_digest_154 : decode cX5_digest 154 = .ok (.ladd, 1) := by decide +kernel
theorem dX5_digest_155 : decode cX5_digest 155 = .ok (.lmul, 1) := by decide +kernel
theorem dX5_digest_156 : decode cX5_digest 156 = .ok (.aload_n 0, 1) := by decide +kernel
theorem dX5_digest_157 : decode cX5_digest 157 = .ok (.getfield 24, 3) := by decide +kernel
theorem dX5_digest_160 : decode cX5_digest 160 = .ok (.ladd, 1) := by decide +kernel
theorem dX5_digest_161 : decode cX5_digest 161 = .ok (.lreturn, 1) := by decide +kernel
theorem dX5_within_0 : decode cX5_within 0 = .ok (.iload_n 0, 1) := by decide +kernel
theorem dX5_within_1 : decode cX5_within 1 = .ok (.iload_n 1, 1) := by decide +kernel
theorem dX5_within_2 : decode cX5_within 2 = .ok (.if_icmp .lt 12, 3) := by decide +kernel
theorem dX5_within_5 : decode cX5_within 5 = .ok (.iload_n 0, 1) := by decide +kernel
theorem dX5_within_6 : decode cX5_within 6 = .ok (.iload_n 2, 1) := by decide +kernel
theorem dX5_within_7 : decode cX5_within 7 = .ok (.if_icmp .gt 7, 3) := by decide +kernel
theorem dX5_within_10 : decode cX5_within 10 = .ok (.iconst 1, 1) := by decide +kernel
theorem dX5_within_11 : decode cX5_within 11 = .ok (.goto 4, 3) := by decide +kernel
theorem dX5_within_14 : decode cX5_within 14 = .ok (.iconst 0, 1) := by decide +kernel
theorem dX5_within_15 : decode cX5_within 15 = .ok (.ireturn, 1) := by decide +kernel
set_option maxRecDepth 20000 in
theorem ggX5_isKind_X5_within : GoodIn wsX5_isKind wsX5_within := goodIn_r _ [4] (by decide +kernel) (by decide +kernel)
set_option maxRecDepth 20000 in
theorem gX5_isKind_X5_within : GoodIn wsX5_isKind (va_wsS RX5 97 yX5_within wsX5_within) := goodIn_app (goodIn_of _ (by decide +kernel)) ggX5_isKind_X5_within
theorem dX5_isKind_0 : decode cX5_isKind 0 = .ok (.iload_n 0, 1) := by decide +kernel
theorem dX5_isKind_1 : decode cX5_isKind 1 = .ok (.iconst 0, 1) := by decide +kernel
theorem dX5_isKind_2 : decode cX5_isKind 2 = .ok (.iconst 5, 1) := by decide +kernel
theorem dX5_isKind_3 : decode cX5_isKind 3 = .ok (.invokestatic 97, 3) := by decide +kernel
theorem dX5_isKind_6 : decode cX5_isKind 6 = .ok (.ireturn, 1) := by decide +kernel
set_option maxRecDepth 20000 in
theorem ggX5_isHit_X5_within : GoodIn wsX5_isHit wsX5_within := goodIn_r _ [4] (by decide +kernel) (by decide +kernel)
set_option maxRecDepth 20000 in
theorem gX5_isHit_X5_within : GoodIn wsX5_isHit (va_wsS RX5 97 yX5_within wsX5_within) := goodIn_app (goodIn_of _ (by decide +kernel)) ggX5_isHit_X5_within
theorem dX5_isHit_0 : decode cX5_isHit 0 = .ok (.iload_n 0, 1) := by decide +kernel
theorem dX5_isHit_1 : decode cX5_isHit 1 = .ok (.iconst 0, 1) := by decide +kernel
theorem dX5_isHit_2 : decode cX5_isHit 2 = .ok (.bipush 9, 2) := by decide +kernel
theorem dX5_isHit_4 : decode cX5_isHit 4 = .ok (.invokestatic 97, 3) := by decide +kernel
theorem dX5_isHit_7 : decode cX5_isHit 7 = .ok (.ireturn, 1) := by decide +kernel
set_option maxRecDepth 20000 in
theorem ggX5_isImage_X5_within : GoodIn wsX5_isImage wsX5_within := goodIn_r _ [4] (by decide +kernel) (by decide +kernel)
set_option maxRecDepth 20000 in
theorem gX5_isImage_X5_within : GoodIn wsX5_isImage (va_wsS RX5 97 yX5_within wsX5_within) := goodIn_app (goodIn_of _ (by decide +kernel)) ggX5_isImage_X5_within
theorem dX5_isImage_0 : decode cX5_isImage 0 = .ok (.iload_n 0, 1) := by decide +kernel
theorem dX5_isImage_1 : decode cX5_isImage 1 = .ok (.iconst 0, 1) := by decide +kernel
theorem dX5_isImage_2 : decode cX5_isImage 2 = .ok (.iconst 1, 1) := by decide +kernel
theorem dX5_isImage_3 : decode cX5_isImage 3 = .ok (.invokestatic 97, 3) := by decide +kernel
theorem dX5_isImage_6 : decode cX5_isImage 6 = .ok (.ireturn, 1) := by decide +kernel
set_option maxRecDepth 20000 in
theorem ggX5_isBatter_X5_within : GoodIn wsX5_isBatter wsX5_within := goodIn_r _ [7] (by decide +kernel) (by decide +kernel)
set_option maxRecDepth 20000 in
theorem gX5_isBatter_X5_within : GoodIn wsX5_isBatter (va_wsS RX5 97 yX5_within wsX5_within) := goodIn_app (goodIn_of _ (by decide +kernel)) ggX5_isBatter_X5_within
theorem dX5_isBatter_0 : decode cX5_isBatter 0 = .ok (.iload_n 1, 1) := by decide +kernel
theorem dX5_isBatter_1 : decode cX5_isBatter 1 = .ok (.iconst 0, 1) := by decide +kernel
theorem dX5_isBatter_2 : decode cX5_isBatter 2 = .ok (.aload_n 0, 1) := by decide +kernel
theorem dX5_isBatter_3 : decode cX5_isBatter 3 = .ok (.getfield 12, 3) := by decide +kernel
theorem dX5_isBatter_6 : decode cX5_isBatter 6 = .ok (.getfield 74, 3) := by decide +kernel
theorem dX5_isBatter_9 : decode cX5_isBatter 9 = .ok (.getfield 77, 3) := by decide +kernel
theorem dX5_isBatter_12 : decode cX5_isBatter 12 = .ok (.iconst 1, 1) := by decide +kernel
theorem dX5_isBatter_13 : decode cX5_isBatter 13 = .ok (.isub, 1) := by decide +kernel
theorem dX5_isBatter_14 : decode cX5_isBatter 14 = .ok (.invokestatic 97, 3) := by decide +kernel
theorem dX5_isBatter_17 : decode cX5_isBatter 17 = .ok (.ireturn, 1) := by decide +kernel
set_option maxRecDepth 20000 in
theorem ggX5_refuse_X5_within : GoodIn wsX5_refuse wsX5_within := goodIn_r _ [5] (by decide +kernel) (by decide +kernel)
set_option maxRecDepth 20000 in
theorem gX5_refuse_X5_within : GoodIn wsX5_refuse (va_wsS RX5 97 yX5_within wsX5_within) := goodIn_app (goodIn_of _ (by decide +kernel)) ggX5_refuse_X5_within
theorem dX5_refuse_0 : decode cX5_refuse 0 = .ok (.bipush (-2), 2) := by decide +kernel
theorem dX5_refuse_2 : decode cX5_refuse 2 = .ok (.iload_n 1, 1) := by decide +kernel
theorem dX5_refuse_3 : decode cX5_refuse 3 = .ok (.isub, 1) := by decide +kernel
theorem dX5_refuse_4 : decode cX5_refuse 4 = .ok (.istore_n 2, 1) := by decide +kernel
theorem dX5_refuse_5 : decode cX5_refuse 5 = .ok (.iload_n 2, 1) := by decide +kernel
theorem dX5_refuse_6 : decode cX5_refuse 6 = .ok (.iconst 0, 1) := by decide +kernel
theorem dX5_refuse_7 : decode cX5_refuse 7 = .ok (.iconst 2, 1) := by decide +kernel
theorem dX5_refuse_8 : decode cX5_refuse 8 = .ok (.invokestatic 97, 3) := by decide +kernel
theorem dX5_refuse_11 : decode cX5_refuse 11 = .ok (.ifCond .eq 13, 3) := by decide +kernel
theorem dX5_refuse_14 : decode cX5_refuse 14 = .ok (.aload_n 0, 1) := by decide +kernel
theorem dX5_refuse_15 : decode cX5_refuse 15 = .ok (.getfield 28, 3) := by decide +kernel
theorem dX5_refuse_18 : decode cX5_refuse 18 = .ok (.iload_n 2, 1) := by decide +kernel
theorem dX5_refuse_19 : decode cX5_refuse 19 = .ok (.dup2, 1) := by decide +kernel
theorem dX5_refuse_20 : decode cX5_refuse 20 = .ok (.iaload, 1) := by decide +kernel
theorem dX5_refuse_21 : decode cX5_refuse 21 = .ok (.iconst 1, 1) := by decide +kernel
theorem dX5_refuse_22 : decode cX5_refuse 22 = .ok (.iadd, 1) := by decide +kernel
theorem dX5_refuse_23 : decode cX5_refuse 23 = .ok (.iastore, 1) := by decide +kernel
theorem dX5_refuse_24 : decode cX5_refuse 24 = .ok (.iload_n 1, 1) := by decide +kernel
theorem dX5_refuse_25 : decode cX5_refuse 25 = .ok (.ireturn, 1) := by decide +kernel
theorem dX5_hitWorth_0 : decode cX5_hitWorth 0 = .ok (.iconst 0, 1) := by decide +kernel
theorem dX5_hitWorth_1 : decode cX5_hitWorth 1 = .ok (.iload_n 1, 1) := by decide +kernel
theorem dX5_hitWorth_2 : decode cX5_hitWorth 2 = .ok (.iconst 1, 1) := by decide +kernel
theorem dX5_hitWorth_3 : decode cX5_hitWorth 3 = .ok (.isub, 1) := by decide +kernel
theorem dX5_hitWorth_4 : decode cX5_hitWorth 4 = .ok (.invokestatic 168, 3) := by decide +kernel
theorem dX5_hitWorth_7 : decode cX5_hitWorth 7 = .ok (.istore_n 3, 1) := by decide +kernel
theorem dX5_hitWorth_8 : decode cX5_hitWorth 8 = .ok (.iload_n 2, 1) := by decide +kernel
theorem dX5_hitWorth_9 : decode cX5_hitWorth 9 = .ok (.iconst 2, 1) := by decide +kernel
theorem dX5_hitWorth_10 : decode cX5_hitWorth 10 = .ok (.irem, 1) := by decide +kernel
theorem dX5_hitWorth_11 : decode cX5_hitWorth 11 = .ok (.ifCond .ne 7, 3) := by decide +kernel
theorem dX5_hitWorth_14 : decode cX5_hitWorth 14 = .ok (.iload_n 1, 1) := by decide +kernel
theorem dX5_hitWorth_15 : decode cX5_hitWorth 15 = .ok (.goto 6, 3) := by decide +kernel
theorem dX5_hitWorth_18 : decode cX5_hitWorth 18 = .ok (.iload_n 1, 1) := by decide +kernel
theorem dX5_hitWorth_19 : decode cX5_hitWorth 19 = .ok (.iconst 1, 1) := by decide +kernel
theorem dX5_hitWorth_20 : decode cX5_hitWorth 20 = .ok (.iadd, 1) := by decide +kernel
theorem dX5_hitWorth_21 : decode cX5_hitWorth 21 = .ok (.istore 4, 2) := by decide +kernel
theorem dX5_hitWorth_23 : decode cX5_hitWorth 23 = .ok (.iload_n 0, 1) := by decide +kernel
theorem dX5_hitWorth_24 : decode cX5_hitWorth 24 = .ok (.tableswitch 79 1 5 #[36, 38, 41, 53, 67], 36) := by decide +kernel
theorem dX5_hitWorth_60 : decode cX5_hitWorth 60 = .ok (.iload_n 3, 1) := by decide +kernel
theorem dX5_hitWorth_61 : decode cX5_hitWorth 61 = .ok (.ireturn, 1) := by decide +kernel
theorem dX5_hitWorth_62 : decode cX5_hitWorth 62 = .ok (.iload 4, 2) := by decide +kernel
theorem dX5_hitWorth_64 : decode cX5_hitWorth 64 = .ok (.ireturn, 1) := by decide +kernel
theorem dX5_hitWorth_65 : decode cX5_hitWorth 65 = .ok (.iload_n 2, 1) := by decide +kernel
theorem dX5_hitWorth_66 : decode cX5_hitWorth 66 = .ok (.iconst 4, 1) := by decide +kernel
theorem dX5_hitWorth_67 : decode cX5_hitWorth 67 = .ok (.irem, 1) := by decide +kernel
theorem dX5_hitWorth_68 : decode cX5_hitWorth 68 = .ok (.ifCond .ne 7, 3) := by decide +kernel
theorem dX5_hitWorth_71 : decode cX5_hitWorth 71 = .ok (.iconst 0, 1) := by decide +kernel
theorem dX5_hitWorth_72 : decode cX5_hitWorth 72 = .ok (.goto 4, 3) := by decide +kernel
theorem dX5_hitWorth_75 : decode cX5_hitWorth 75 = .ok (.iload_n 1, 1) := by decide +kernel
theorem dX5_hitWorth_76 : decode cX5_hitWorth 76 = .ok (.ireturn, 1) := by decide +kernel
theorem dX5_hitWorth_77 : decode cX5_hitWorth 77 = .ok (.iload_n 1, 1) := by decide +kernel
theorem dX5_hitWorth_78 : decode cX5_hitWorth 78 = .ok (.bipush 7, 2) := by decide +kernel
theorem dX5_hitWorth_80 : decode cX5_hitWorth 80 = .ok (.if_icmp .lt 9, 3) := by decide +kernel
theorem dX5_hitWorth_83 : decode cX5_hitWorth 83 = .ok (.iload_n 3, 1) := by decide +kernel
theorem dX5_hitWorth_84 : decode cX5_hitWorth 84 = .ok (.iconst 2, 1) := by decide +kernel
theorem dX5_hitWorth_85 : decode cX5_hitWorth 85 = .ok (.isub, 1) := by decide +kernel
theorem dX5_hitWorth_86 : decode cX5_hitWorth 86 = .ok (.goto 4, 3) := by decide +kernel
theorem dX5_hitWorth_89 : decode cX5_hitWorth 89 = .ok (.iload_n 3, 1) := by decide +kernel
theorem dX5_hitWorth_90 : decode cX5_hitWorth 90 = .ok (.ireturn, 1) := by decide +kernel
theorem dX5_hitWorth_91 : decode cX5_hitWorth 91 = .ok (.iload 4, 2) := by decide +kernel
theorem dX5_hitWorth_93 : decode cX5_hitWorth 93 = .ok (.iconst 3, 1) := by decide +kernel
theorem dX5_hitWorth_94 : decode cX5_hitWorth 94 = .ok (.iload_n 2, 1) := by decide +kernel
theorem dX5_hitWorth_95 : decode cX5_hitWorth 95 = .ok (.bipush 20, 2) := by decide +kernel
theorem dX5_hitWorth_97 : decode cX5_hitWorth 97 = .ok (.idiv, 1) := by decide +kernel
theorem dX5_hitWorth_98 : decode cX5_hitWorth 98 = .ok (.invokestatic 136, 3) := by decide +kernel
theorem dX5_hitWorth_101 : decode cX5_hitWorth 101 = .ok (.iadd, 1) := by decide +kernel
theorem dX5_hitWorth_102 : decode cX5_hitWorth 102 = .ok (.ireturn, 1) := by decide +kernel
theorem dX5_hitWorth_103 : decode cX5_hitWorth 103 = .ok (.iload_n 1, 1) := by decide +kernel
theorem dX5_hitWorth_104 : decode cX5_hitWorth 104 = .ok (.ireturn, 1) := by decide +kernel
theorem dX5_postsRun_0 : decode cX5_postsRun 0 = .ok (.iconst 4, 1) := by decide +kernel
theorem dX5_postsRun_1 : decode cX5_postsRun 1 = .ok (.iload_n 2, 1) := by decide +kernel
theorem dX5_postsRun_2 : decode cX5_postsRun 2 = .ok (.iload_n 1, 1) := by decide +kernel
theorem dX5_postsRun_3 : decode cX5_postsRun 3 = .ok (.iadd, 1) := by decide +kernel
theorem dX5_postsRun_4 : decode cX5_postsRun 4 = .ok (.iconst 3, 1) := by decide +kernel
theorem dX5_postsRun_5 : decode cX5_postsRun 5 = .ok (.idiv, 1) := by decide +kernel
theorem dX5_postsRun_6 : decode cX5_postsRun 6 = .ok (.invokestatic 136, 3) := by decide +kernel
theorem dX5_postsRun_9 : decode cX5_postsRun 9 = .ok (.istore_n 3, 1) := by decide +kernel
theorem dX5_postsRun_10 : decode cX5_postsRun 10 = .ok (.iconst 1, 1) := by decide +kernel
theorem dX5_postsRun_11 : decode cX5_postsRun 11 = .ok (.iload_n 3, 1) := by decide +kernel
theorem dX5_postsRun_12 : decode cX5_postsRun 12 = .ok (.invokestatic 136, 3) := by decide +kernel
theorem dX5_postsRun_15 : decode cX5_postsRun 15 = .ok (.istore 4, 2) := by decide +kernel
theorem dX5_postsRun_17 : decode cX5_postsRun 17 = .ok (.iload_n 3, 1) := by decide +kernel
theorem dX5_postsRun_18 : decode cX5_postsRun 18 = .ok (.iconst 1, 1) := by decide +kernel
theorem dX5_postsRun_19 : decode cX5_postsRun 19 = .ok (.iadd, 1) := by decide +kernel
theorem dX5_postsRun_20 : decode cX5_postsRun 20 = .ok (.istore 5, 2) := by decide +kernel
theorem dX5_postsRun_22 : decode cX5_postsRun 22 = .ok (.iload_n 0, 1) := by decide +kernel
theorem dX5_postsRun_23 : decode cX5_postsRun 23 = .ok (.tableswitch 71 1 5 #[33, 47, 50, 53, 58], 33) := by decide +kernel
theorem dX5_postsRun_56 : decode cX5_postsRun 56 = .ok (.iload_n 2, 1) := by decide +kernel
theorem dX5_postsRun_57 : decode cX5_postsRun 57 = .ok (.bipush 6, 2) := by decide +kernel
theorem dX5_postsRun_59 : decode cX5_postsRun 59 = .ok (.if_icmp .lt 9, 3) := by decide +kernel
theorem dX5_postsRun_62 : decode cX5_postsRun 62 = .ok (.iload_n 3, 1) := by decide +kernel
theorem dX5_postsRun_63 : decode cX5_postsRun 63 = .ok (.iconst 1, 1) := by decide +kernel
theorem dX5_postsRun_64 : decode cX5_postsRun 64 = .ok (.iadd, 1) := by decide +kernel
theorem dX5_postsRun_65 : decode cX5_postsRun 65 = .ok (.goto 4, 3) := by decide +kernel
theorem dX5_postsRun_68 : decode cX5_postsRun 68 = .ok (.iload_n 3, 1) := by decide +kernel
theorem dX5_postsRun_69 : decode cX5_postsRun 69 = .ok (.ireturn, 1) := by decide +kernel
theorem dX5_postsRun_70 : decode cX5_postsRun 70 = .ok (.iload 4, 2) := by decide +kernel
theorem dX5_postsRun_72 : decode cX5_postsRun 72 = .ok (.ireturn, 1) := by decide +kernel
theorem dX5_postsRun_73 : decode cX5_postsRun 73 = .ok (.iload 5, 2) := by decide +kernel
theorem dX5_postsRun_75 : decode cX5_postsRun 75 = .ok (.ireturn, 1) := by decide +kernel
theorem dX5_postsRun_76 : decode cX5_postsRun 76 = .ok (.iload 5, 2) := by decide +kernel
theorem dX5_postsRun_78 : decode cX5_postsRun 78 = .ok (.iconst 1, 1) := by decide +kernel
theorem dX5_postsRun_79 : decode cX5_postsRun 79 = .ok (.iadd, 1) := by decide +kernel
theorem dX5_postsRun_80 : decode cX5_postsRun 80 = .ok (.ireturn, 1) := by decide +kernel
theorem dX5_postsRun_81 : decode cX5_postsRun 81 = .ok (.iload_n 2, 1) := by decide +kernel
theorem dX5_postsRun_82 : decode cX5_postsRun 82 = .ok (.iconst 2, 1) := by decide +kernel
theorem dX5_postsRun_83 : decode cX5_postsRun 83 = .ok (.irem, 1) := by decide +kernel
theorem dX5_postsRun_84 : decode cX5_postsRun 84 = .ok (.ifCond .ne 8, 3) := by decide +kernel
theorem dX5_postsRun_87 : decode cX5_postsRun 87 = .ok (.iload 4, 2) := by decide +kernel
theorem dX5_postsRun_89 : decode cX5_postsRun 89 = .ok (.goto 4, 3) := by decide +kernel
theorem dX5_postsRun_92 : decode cX5_postsRun 92 = .ok (.iconst 0, 1) := by decide +kernel
theorem dX5_postsRun_93 : decode cX5_postsRun 93 = .ok (.ireturn, 1) := by decide +kernel
theorem dX5_postsRun_94 : decode cX5_postsRun 94 = .ok (.iload_n 3, 1) := by decide +kernel
theorem dX5_postsRun_95 : decode cX5_postsRun 95 = .ok (.ireturn, 1) := by decide +kernel
set_option maxRecDepth 20000 in
theorem ggX5_scoreAgainst_X2_copy : GoodIn wsX5_scoreAgainst wsX2_copy := goodIn_r _ [11, 12, 13, 14, 15, 16, 17, 18, 19, 20, 21, 22, 23, 81, 82, 83, 84, 85, 86, 87, 88] (by decide +kernel) (by decide +kernel)
set_option maxRecDepth 20000 in
theorem gX5_scoreAgainst_X2_copy : GoodIn wsX5_scoreAgainst (wsV RX5 113 RX2 yX2_copy wsX2_copy) := goodIn_app (goodIn_of _ (by decide +kernel)) ggX5_scoreAgainst_X2_copy
set_option maxRecDepth 20000 in
theorem ggX5_scoreAgainst_X2_playHits : GoodIn wsX5_scoreAgainst wsX2_playHits := goodIn_r _ [27, 28, 29, 30, 10, 31, 14, 13, 32, 33, 34, 35, 12, 16, 17, 22, 36, 37, 38, 39, 40, 41, 42, 43, 44, 45, 46, 47, 48, 49, 50, 51, 23, 15, 52, 53, 54, 55, 56, 57, 58, 59, 60, 61, 81, 82, 83, 84, 85, 86, 87, 88] (by decide +kernel) (by decide +kernel)
set_option maxRecDepth 20000 in
theorem gX5_scoreAgainst_X2_playHits : GoodIn wsX5_scoreAgainst (wsV RX5 269 RX2 yX2_playHits wsX2_playHits) := goodIn_app (goodIn_of _ (by decide +kernel)) ggX5_scoreAgainst_X2_playHits
theorem dX5_scoreAgainst_0 : decode cX5_scoreAgainst 0 = .ok (.aload_n 0, 1) := by decide +kernel
theorem dX5_scoreAgainst_1 : decode cX5_scoreAgainst 1 = .ok (.getfield 48, 3) := by decide +kernel
theorem dX5_scoreAgainst_4 : decode cX5_scoreAgainst 4 = .ok (.aload_n 0, 1) := by decide +kernel
theorem dX5_scoreAgainst_5 : decode cX5_scoreAgainst 5 = .ok (.getfield 12, 3) := by decide +kernel
theorem dX5_scoreAgainst_8 : decode cX5_scoreAgainst 8 = .ok (.getfield 74, 3) := by decide +kernel
theorem dX5_scoreAgainst_11 : decode cX5_scoreAgainst 11 = .ok (.invokevirtual 113, 3) := by decide +kernel
theorem dX5_scoreAgainst_14 : decode cX5_scoreAgainst 14 = .ok (.aload_n 0, 1) := by decide +kernel
theorem dX5_scoreAgainst_15 : decode cX5_scoreAgainst 15 = .ok (.getfield 48, 3) := by decide +kernel
theorem dX5_scoreAgainst_18 : decode cX5_scoreAgainst 18 = .ok (.iload_n 1, 1) := by decide +kernel
theorem dX5_scoreAgainst_19 : decode cX5_scoreAgainst 19 = .ok (.putfield 85, 3) := by decide +kernel
theorem dX5_scoreAgainst_22 : decode cX5_scoreAgainst 22 = .ok (.aload_n 0, 1) := by decide +kernel
theorem dX5_scoreAgainst_23 : decode cX5_scoreAgainst 23 = .ok (.getfield 48, 3) := by decide +kernel
theorem dX5_scoreAgainst_26 : decode cX5_scoreAgainst 26 = .ok (.iload_n 2, 1) := by decide +kernel
theorem dX5_scoreAgainst_27 : decode cX5_scoreAgainst 27 = .ok (.putfield 147, 3) := by decide +kernel
theorem dX5_scoreAgainst_30 : decode cX5_scoreAgainst 30 = .ok (.aload_n 0, 1) := by decide +kernel
theorem dX5_scoreAgainst_31 : decode cX5_scoreAgainst 31 = .ok (.getfield 48, 3) := by decide +kernel
theorem dX5_scoreAgainst_34 : decode cX5_scoreAgainst 34 = .ok (.aload_n 0, 1) := by decide +kernel
theorem dX5_scoreAgainst_35 : decode cX5_scoreAgainst 35 = .ok (.getfield 12, 3) := by decide +kernel
theorem dX5_scoreAgainst_38 : decode cX5_scoreAgainst 38 = .ok (.getfield 150, 3) := by decide +kernel
theorem dX5_scoreAgainst_41 : decode cX5_scoreAgainst 41 = .ok (.iload_n 3, 1) := by decide +kernel
theorem dX5_scoreAgainst_42 : decode cX5_scoreAgainst 42 = .ok (.invokevirtual 269, 3) := by decide +kernel
theorem dX5_scoreAgainst_45 : decode cX5_scoreAgainst 45 = .ok (.ireturn, 1) := by decide +kernel
set_option maxRecDepth 20000 in
theorem ggX5_findBestTurn_X2_lineUp : GoodIn wsX5_findBestTurn wsX2_lineUp := goodIn_r _ [16, 17, 18, 19, 20, 21, 22, 23, 24, 15, 25, 26, 27, 28, 29, 30, 31, 32, 33, 34, 35, 98, 99, 100, 101, 102, 103, 104, 105] (by decide +kernel) (by decide +kernel)
set_option maxRecDepth 20000 in
theorem gX5_findBestTurn_X2_lineUp : GoodIn wsX5_findBestTurn (wsV RX5 272 RX2 yX2_lineUp wsX2_lineUp) := goodIn_app (goodIn_of _ (by decide +kernel)) ggX5_findBestTurn_X2_lineUp
set_option maxRecDepth 20000 in
theorem ggX5_findBestTurn_X2_playHits : GoodIn wsX5_findBestTurn wsX2_playHits := goodIn_r _ [39, 40, 41, 42, 15, 43, 26, 19, 44, 45, 46, 47, 17, 18, 20, 21, 48, 29, 49, 50, 51, 52, 53, 54, 55, 56, 57, 58, 59, 60, 61, 62, 35, 27, 63, 64, 65, 66, 28, 30, 67, 68, 69, 70, 98, 99, 100, 101, 102, 103, 104, 105] (by decide +kernel) (by decide +kernel)
set_option maxRecDepth 20000 in
theorem gX5_findBestTurn_X2_playHits : GoodIn wsX5_findBestTurn (wsV RX5 269 RX2 yX2_playHits wsX2_playHits) := goodIn_app (goodIn_of _ (by decide +kernel)) ggX5_findBestTurn_X2_playHits
set_option maxRecDepth 20000 in
theorem ggX5_findBestTurn_X5_riseTurn : GoodIn wsX5_findBestTurn wsX5_riseTurn := goodIn_r _ [74, 4, 75, 76, 77, 29, 78, 79, 80, 81, 82, 83, 84, 85, 86, 87, 88, 89, 90, 91, 92] (by decide +kernel) (by decide +kernel)
set_option maxRecDepth 20000 in
theorem gX5_findBestTurn_X5_riseTurn : GoodIn wsX5_findBestTurn (wsV RX5 282 RX5 yX5_riseTurn wsX5_riseTurn) := goodIn_app (goodIn_of _ (by decide +kernel)) ggX5_findBestTurn_X5_riseTurn
theorem dX5_findBestTurn_0 : decode cX5_findBestTurn 0 = .ok (.aload_n 0, 1) := by decide +kernel
theorem dX5_findBestTurn_1 : decode cX5_findBestTurn 1 = .ok (.getfield 12, 3) := by decide +kernel
theorem dX5_findBestTurn_4 : decode cX5_findBestTurn 4 = .ok (.getfield 74, 3) := by decide +kernel
theorem dX5_findBestTurn_7 : decode cX5_findBestTurn 7 = .ok (.getfield 77, 3) := by decide +kernel
theorem dX5_findBestTurn_10 : decode cX5_findBestTurn 10 = .ok (.istore_n 2, 1) := by decide +kernel
theorem dX5_findBestTurn_11 : decode cX5_findBestTurn 11 = .ok (.iconst (-1), 1) := by decide +kernel
theorem dX5_findBestTurn_12 : decode cX5_findBestTurn 12 = .ok (.istore_n 3, 1) := by decide +kernel
theorem dX5_findBestTurn_13 : decode cX5_findBestTurn 13 = .ok (.iconst 0, 1) := by decide +kernel
theorem dX5_findBestTurn_14 : decode cX5_findBestTurn 14 = .ok (.istore 4, 2) := by decide +kernel
theorem dX5_findBestTurn_16 : decode cX5_findBestTurn 16 = .ok (.iload 4, 2) := by decide +kernel
theorem dX5_findBestTurn_18 : decode cX5_findBestTurn 18 = .ok (.bipush 6, 2) := by decide +kernel
theorem dX5_findBestTurn_20 : decode cX5_findBestTurn 20 = .ok (.if_icmp .ge 18, 3) := by decide +kernel
theorem dX5_findBestTurn_23 : decode cX5_findBestTurn 23 = .ok (.aload_n 0, 1) := by decide +kernel
theorem dX5_findBestTurn_24 : decode cX5_findBestTurn 24 = .ok (.getfield 52, 3) := by decide +kernel
theorem dX5_findBestTurn_27 : decode cX5_findBestTurn 27 = .ok (.iload 4, 2) := by decide +kernel
theorem dX5_findBestTurn_29 : decode cX5_findBestTurn 29 = .ok (.iload 4, 2) := by decide +kernel
theorem dX5_findBestTurn_31 : decode cX5_findBestTurn 31 = .ok (.iastore, 1) := by decide +kernel
theorem dX5_findBestTurn_32 : decode cX5_findBestTurn 32 = .ok (.iinc 4 1, 3) := by decide +kernel
theorem dX5_findBestTurn_35 : decode cX5_findBestTurn 35 = .ok (.goto (-19), 3) := by decide +kernel
theorem dX5_findBestTurn_38 : decode cX5_findBestTurn 38 = .ok (.iconst 0, 1) := by decide +kernel
theorem dX5_findBestTurn_39 : decode cX5_findBestTurn 39 = .ok (.istore 4, 2) := by decide +kernel
theorem dX5_findBestTurn_41 : decode cX5_findBestTurn 41 = .ok (.iload 4, 2) := by decide +kernel
theorem dX5_findBestTurn_43 : decode cX5_findBestTurn 43 = .ok (.sipush 720, 3) := by decide +kernel
theorem dX5_findBestTurn_46 : decode cX5_findBestTurn 46 = .ok (.if_icmp .ge 79, 3) := by decide +kernel
theorem dX5_findBestTurn_49 : decode cX5_findBestTurn 49 = .ok (.aload_n 0, 1) := by decide +kernel
theorem dX5_findBestTurn_50 : decode cX5_findBestTurn 50 = .ok (.getfield 48, 3) := by decide +kernel
theorem dX5_findBestTurn_53 : decode cX5_findBestTurn 53 = .ok (.aload_n 0, 1) := by decide +kernel
theorem dX5_findBestTurn_54 : decode cX5_findBestTurn 54 = .ok (.getfield 12, 3) := by decide +kernel
theorem dX5_findBestTurn_57 : decode cX5_findBestTurn 57 = .ok (.getfield 74, 3) := by decide +kernel
theorem dX5_findBestTurn_60 : decode cX5_findBestTurn 60 = .ok (.aload_n 0, 1) := by decide +kernel
theorem dX5_findBestTurn_61 : decode cX5_findBestTurn 61 = .ok (.getfield 52, 3) := by decide +kernel
theorem dX5_findBestTurn_64 : decode cX5_findBestTurn 64 = .ok (.invokevirtual 272, 3) := by decide +kernel
theorem dX5_findBestTurn_67 : decode cX5_findBestTurn 67 = .ok (.aload_n 0, 1) := by decide +kernel
theorem dX5_findBestTurn_68 : decode cX5_findBestTurn 68 = .ok (.getfield 48, 3) := by decide +kernel
theorem dX5_findBestTurn_71 : decode cX5_findBestTurn 71 = .ok (.aload_n 0, 1) := by decide +kernel
theorem dX5_findBestTurn_72 : decode cX5_findBestTurn 72 = .ok (.getfield 12, 3) := by decide +kernel
theorem dX5_findBestTurn_75 : decode cX5_findBestTurn 75 = .ok (.getfield 150, 3) := by decide +kernel
theorem dX5_findBestTurn_78 : decode cX5_findBestTurn 78 = .ok (.iload_n 1, 1) := by decide +kernel
theorem dX5_findBestTurn_79 : decode cX5_findBestTurn 79 = .ok (.invokevirtual 269, 3) := by decide +kernel
theorem dX5_findBestTurn_82 : decode cX5_findBestTurn 82 = .ok (.istore 5, 2) := by decide +kernel
theorem dX5_findBestTurn_84 : decode cX5_findBestTurn 84 = .ok (.iload 5, 2) := by decide +kernel
theorem dX5_findBestTurn_86 : decode cX5_findBestTurn 86 = .ok (.iload_n 3, 1) := by decide +kernel
theorem dX5_findBestTurn_87 : decode cX5_findBestTurn 87 = .ok (.if_icmp .le 21, 3) := by decide +kernel
theorem dX5_findBestTurn_90 : decode cX5_findBestTurn 90 = .ok (.iload 5, 2) := by decide +kernel
theorem dX5_findBestTurn_92 : decode cX5_findBestTurn 92 = .ok (.istore_n 3, 1) := by decide +kernel
theorem dX5_findBestTurn_93 : decode cX5_findBestTurn 93 = .ok (.aload_n 0, 1) := by decide +kernel
theorem dX5_findBestTurn_94 : decode cX5_findBestTurn 94 = .ok (.getfield 52, 3) := by decide +kernel
theorem dX5_findBestTurn_97 : decode cX5_findBestTurn 97 = .ok (.iconst 0, 1) := by decide +kernel
theorem dX5_findBestTurn_98 : decode cX5_findBestTurn 98 = .ok (.aload_n 0, 1) := by decide +kernel
theorem dX5_findBestTurn_99 : decode cX5_findBestTurn 99 = .ok (.getfield 55, 3) := by decide +kernel
theorem dX5_findBestTurn_102 : decode cX5_findBestTurn 102 = .ok (.iconst 0, 1) := by decide +kernel
theorem dX5_findBestTurn_103 : decode cX5_findBestTurn 103 = .ok (.bipush 6, 2) := by decide +kernel
theorem dX5_findBestTurn_105 : decode cX5_findBestTurn 105 = .ok (.invokestatic 276, 3) := by decide +kernel
theorem dX5_findBestTurn_108 : decode cX5_findBestTurn 108 = .ok (.aload_n 0, 1) := by decide +kernel
theorem dX5_findBestTurn_109 : decode cX5_findBestTurn 109 = .ok (.iload_n 2, 1) := by decide +kernel
theorem dX5_findBestTurn_110 : decode cX5_findBestTurn 110 = .ok (.invokevirtual 282, 3) := by decide +kernel
theorem dX5_findBestTurn_113 : decode cX5_findBestTurn 113 = .ok (.ifCond .ne 6, 3) := by decide +kernel
theorem dX5_findBestTurn_116 : decode cX5_findBestTurn 116 = .ok (.goto 9, 3) := by decide +kernel
theorem dX5_findBestTurn_119 : decode cX5_findBestTurn 119 = .ok (.iinc 4 1, 3) := by decide +kernel
theorem dX5_findBestTurn_122 : decode cX5_findBestTurn 122 = .ok (.goto (-81), 3) := by decide +kernel
theorem dX5_findBestTurn_125 : decode cX5_findBestTurn 125 = .ok (.iload_n 3, 1) := by decide +kernel
theorem dX5_findBestTurn_126 : decode cX5_findBestTurn 126 = .ok (.ireturn, 1) := by decide +kernel
set_option maxRecDepth 20000 in
theorem ggX5_riseTurn_X5_swapTurn : GoodIn wsX5_riseTurn wsX5_swapTurn := goodIn_r _ [6, 1, 7, 8, 9, 10, 11, 12, 13, 14, 15, 16, 17, 18, 19, 20] (by decide +kernel) (by decide +kernel)
set_option maxRecDepth 20000 in
theorem gX5_riseTurn_X5_swapTurn : GoodIn wsX5_riseTurn (wsV RX5 285 RX5 yX5_swapTurn wsX5_swapTurn) := goodIn_app (goodIn_of _ (by decide +kernel)) ggX5_riseTurn_X5_swapTurn
theorem dX5_riseTurn_0 : decode cX5_riseTurn 0 = .ok (.iload_n 1, 1) := by decide +kernel
theorem dX5_riseTurn_1 : decode cX5_riseTurn 1 = .ok (.iconst 2, 1) := by decide +kernel
theorem dX5_riseTurn_2 : decode cX5_riseTurn 2 = .ok (.isub, 1) := by decide +kernel
theorem dX5_riseTurn_3 : decode cX5_riseTurn 3 = .ok (.istore_n 2, 1) := by decide +kernel
theorem dX5_riseTurn_4 : decode cX5_riseTurn 4 = .ok (.iload_n 2, 1) := by decide +kernel
theorem dX5_riseTurn_5 : decode cX5_riseTurn 5 = .ok (.ifCond .lt 26, 3) := by decide +kernel
theorem dX5_riseTurn_8 : decode cX5_riseTurn 8 = .ok (.aload_n 0, 1) := by decide +kernel
theorem dX5_riseTurn_9 : decode cX5_riseTurn 9 = .ok (.getfield 52, 3) := by decide +kernel
theorem dX5_riseTurn_12 : decode cX5_riseTurn 12 = .ok (.iload_n 2, 1) := by decide +kernel
theorem dX5_riseTurn_13 : decode cX5_riseTurn 13 = .ok (.iaload, 1) := by decide +kernel
theorem dX5_riseTurn_14 : decode cX5_riseTurn 14 = .ok (.aload_n 0, 1) := by decide +kernel
theorem dX5_riseTurn_15 : decode cX5_riseTurn 15 = .ok (.getfield 52, 3) := by decide +kernel
theorem dX5_riseTurn_18 : decode cX5_riseTurn 18 = .ok (.iload_n 2, 1) := by decide +kernel
theorem dX5_riseTurn_19 : decode cX5_riseTurn 19 = .ok (.iconst 1, 1) := by decide +kernel
theorem dX5_riseTurn_20 : decode cX5_riseTurn 20 = .ok (.iadd, 1) := by decide +kernel
theorem dX5_riseTurn_21 : decode cX5_riseTurn 21 = .ok (.iaload, 1) := by decide +kernel
theorem dX5_riseTurn_22 : decode cX5_riseTurn 22 = .ok (.if_icmp .le 9, 3) := by decide +kernel
theorem dX5_riseTurn_25 : decode cX5_riseTurn 25 = .ok (.iinc 2 (-1), 3) := by decide +kernel
theorem dX5_riseTurn_28 : decode cX5_riseTurn 28 = .ok (.goto (-24), 3) := by decide +kernel
theorem dX5_riseTurn_31 : decode cX5_riseTurn 31 = .ok (.iload_n 2, 1) := by decide +kernel
theorem dX5_riseTurn_32 : decode cX5_riseTurn 32 = .ok (.ifCond .ge 5, 3) := by decide +kernel
theorem dX5_riseTurn_35 : decode cX5_riseTurn 35 = .ok (.iconst 0, 1) := by decide +kernel
theorem dX5_riseTurn_36 : decode cX5_riseTurn 36 = .ok (.ireturn, 1) := by decide +kernel
theorem dX5_riseTurn_37 : decode cX5_riseTurn 37 = .ok (.iload_n 1, 1) := by decide +kernel
theorem dX5_riseTurn_38 : decode cX5_riseTurn 38 = .ok (.iconst 1, 1) := by decide +kernel
theorem dX5_riseTurn_39 : decode cX5_riseTurn 39 = .ok (.isub, 1) := by decide +kernel
theorem dX5_riseTurn_40 : decode cX5_riseTurn 40 = .ok (.istore_n 3, 1) := by decide +kernel
theorem dX5_riseTurn_41 : decode cX5_riseTurn 41 = .ok (.iload_n 3, 1) := by decide +kernel
theorem dX5_riseTurn_42 : decode cX5_riseTurn 42 = .ok (.iload_n 2, 1) := by decide +kernel
theorem dX5_riseTurn_43 : decode cX5_riseTurn 43 = .ok (.if_icmp .le 24, 3) := by decide +kernel
theorem dX5_riseTurn_46 : decode cX5_riseTurn 46 = .ok (.aload_n 0, 1) := by decide +kernel
theorem dX5_riseTurn_47 : decode cX5_riseTurn 47 = .ok (.getfield 52, 3) := by decide +kernel
theorem dX5_riseTurn_50 : decode cX5_riseTurn 50 = .ok (.iload_n 3, 1) := by decide +kernel
theorem dX5_riseTurn_51 : decode cX5_riseTurn 51 = .ok (.iaload, 1) := by decide +kernel
theorem dX5_riseTurn_52 : decode cX5_riseTurn 52 = .ok (.aload_n 0, 1) := by decide +kernel
theorem dX5_riseTurn_53 : decode cX5_riseTurn 53 = .ok (.getfield 52, 3) := by decide +kernel
theorem dX5_riseTurn_56 : decode cX5_riseTurn 56 = .ok (.iload_n 2, 1) := by decide +kernel
theorem dX5_riseTurn_57 : decode cX5_riseTurn 57 = .ok (.iaload, 1) := by decide +kernel
theorem dX5_riseTurn_58 : decode cX5_riseTurn 58 = .ok (.if_icmp .ge 9, 3) := by decide +kernel
theorem dX5_riseTurn_61 : decode cX5_riseTurn 61 = .ok (.iinc 3 (-1), 3) := by decide +kernel
theorem dX5_riseTurn_64 : decode cX5_riseTurn 64 = .ok (.goto (-23), 3) := by decide +kernel
theorem dX5_riseTurn_67 : decode cX5_riseTurn 67 = .ok (.aload_n 0, 1) := by decide +kernel
theorem dX5_riseTurn_68 : decode cX5_riseTurn 68 = .ok (.iload_n 2, 1) := by decide +kernel
theorem dX5_riseTurn_69 : decode cX5_riseTurn 69 = .ok (.iload_n 3, 1) := by decide +kernel
theorem dX5_riseTurn_70 : decode cX5_riseTurn 70 = .ok (.invokevirtual 285, 3) := by decide +kernel
theorem dX5_riseTurn_73 : decode cX5_riseTurn 73 = .ok (.iload_n 2, 1) := by decide +kernel
theorem dX5_riseTurn_74 : decode cX5_riseTurn 74 = .ok (.iconst 1, 1) := by decide +kernel
theorem dX5_riseTurn_75 : decode cX5_riseTurn 75 = .ok (.iadd, 1) := by decide +kernel
theorem dX5_riseTurn_76 : decode cX5_riseTurn 76 = .ok (.istore 4, 2) := by decide +kernel
theorem dX5_riseTurn_78 : decode cX5_riseTurn 78 = .ok (.iload_n 1, 1) := by decide +kernel
theorem dX5_riseTurn_79 : decode cX5_riseTurn 79 = .ok (.iconst 1, 1) := by decide +kernel
theorem dX5_riseTurn_80 : decode cX5_riseTurn 80 = .ok (.isub, 1) := by decide +kernel
theorem dX5_riseTurn_81 : decode cX5_riseTurn 81 = .ok (.istore 5, 2) := by decide +kernel
theorem dX5_riseTurn_83 : decode cX5_riseTurn 83 = .ok (.iload 4, 2) := by decide +kernel
theorem dX5_riseTurn_85 : decode cX5_riseTurn 85 = .ok (.iload 5, 2) := by decide +kernel
theorem dX5_riseTurn_87 : decode cX5_riseTurn 87 = .ok (.if_icmp .ge 20, 3) := by decide +kernel
theorem dX5_riseTurn_90 : decode cX5_riseTurn 90 = .ok (.aload_n 0, 1) := by decide +kernel
theorem dX5_riseTurn_91 : decode cX5_riseTurn 91 = .ok (.iload 4, 2) := by decide +kernel
theorem dX5_riseTurn_93 : decode cX5_riseTurn 93 = .ok (.iload 5, 2) := by decide +kernel
theorem dX5_riseTurn_95 : decode cX5_riseTurn 95 = .ok (.invokevirtual 285, 3) := by decide +kernel
theorem dX5_riseTurn_98 : decode cX5_riseTurn 98 = .ok (.iinc 4 1, 3) := by decide +kernel
theorem dX5_riseTurn_101 : decode cX5_riseTurn 101 = .ok (.iinc 5 (-1), 3) := by decide +kernel
theorem dX5_riseTurn_104 : decode cX5_riseTurn 104 = .ok (.goto (-21), 3) := by decide +kernel
theorem dX5_riseTurn_107 : decode cX5_riseTurn 107 = .ok (.iconst 1, 1) := by decide +kernel
theorem dX5_riseTurn_108 : decode cX5_riseTurn 108 = .ok (.ireturn, 1) := by decide +kernel
theorem dX5_swapTurn_0 : decode cX5_swapTurn 0 = .ok (.aload_n 0, 1) := by decide +kernel
theorem dX5_swapTurn_1 : decode cX5_swapTurn 1 = .ok (.getfield 52, 3) := by decide +kernel
theorem dX5_swapTurn_4 : decode cX5_swapTurn 4 = .ok (.iload_n 1, 1) := by decide +kernel
theorem dX5_swapTurn_5 : decode cX5_swapTurn 5 = .ok (.iaload, 1) := by decide +kernel
theorem dX5_swapTurn_6 : decode cX5_swapTurn 6 = .ok (.istore_n 3, 1) := by decide +kernel
theorem dX5_swapTurn_7 : decode cX5_swapTurn 7 = .ok (.aload_n 0, 1) := by decide +kernel
theorem dX5_swapTurn_8 : decode cX5_swapTurn 8 = .ok (.getfield 52, 3) := by decide +kernel
theorem dX5_swapTurn_11 : decode cX5_swapTurn 11 = .ok (.iload_n 1, 1) := by decide +kernel
theorem dX5_swapTurn_12 : decode cX5_swapTurn 12 = .ok (.aload_n 0, 1) := by decide +kernel
theorem dX5_swapTurn_13 : decode cX5_swapTurn 13 = .ok (.getfield 52, 3) := by decide +kernel
theorem dX5_swapTurn_16 : decode cX5_swapTurn 16 = .ok (.iload_n 2, 1) := by decide +kernel
theorem dX5_swapTurn_17 : decode cX5_swapTurn 17 = .ok (.iaload, 1) := by decide +kernel
theorem dX5_swapTurn_18 : decode cX5_swapTurn 18 = .ok (.iastore, 1) := by decide +kernel
theorem dX5_swapTurn_19 : decode cX5_swapTurn 19 = .ok (.aload_n 0, 1) := by decide +kernel
theorem dX5_swapTurn_20 : decode cX5_swapTurn 20 = .ok (.getfield 52, 3) := by decide +kernel
theorem dX5_swapTurn_23 : decode cX5_swapTurn 23 = .ok (.iload_n 2, 1) := by decide +kernel
theorem dX5_swapTurn_24 : decode cX5_swapTurn 24 = .ok (.iload_n 3, 1) := by decide +kernel
theorem dX5_swapTurn_25 : decode cX5_swapTurn 25 = .ok (.iastore, 1) := by decide +kernel
theorem dX5_swapTurn_26 : decode cX5_swapTurn 26 = .ok (.return_, 1) := by decide +kernel
set_option maxRecDepth 20000 in
theorem ggX5_fillGains_X5_scoreAgainst : GoodIn wsX5_fillGains wsX5_scoreAgainst := goodIn_r _ [10, 11, 1, 2, 12, 13, 14, 15, 16, 17, 18, 19, 20, 21, 22, 23, 24, 25, 26, 27, 28, 29, 30, 31, 32, 33, 34, 35, 36, 37, 38, 39, 40, 41, 42, 43, 44, 9, 45, 46, 47, 48, 49, 50, 51, 52, 53, 54, 55, 56, 57, 58, 59, 60, 61, 62, 63, 64, 65, 66, 67, 68, 69, 70, 71, 72, 73, 74, 75, 76, 77, 78, 79, 80, 81, 82, 83, 84, 85, 86, 87, 88, 89, 90, 91, 92, 93, 94, 95] (by decide +kernel) (by decide +kernel)
set_option maxRecDepth 20000 in
theorem gX5_fillGains_X5_scoreAgainst : GoodIn wsX5_fillGains (wsV RX5 171 RX5 yX5_scoreAgainst wsX5_scoreAgainst) := goodIn_app (goodIn_of _ (by decide +kernel)) ggX5_fillGains_X5_scoreAgainst
theorem dX5_fillGains_0 : decode cX5_fillGains 0 = .ok (.iconst 0, 1) := by decide +kernel
theorem dX5_fillGains_1 : decode cX5_fillGains 1 = .ok (.istore_n 1, 1) := by decide +kernel
theorem dX5_fillGains_2 : decode cX5_fillGains 2 = .ok (.iload_n 1, 1) := by decide +kernel
theorem dX5_fillGains_3 : decode cX5_fillGains 3 = .ok (.aload_n 0, 1) := by decide +kernel
theorem dX5_fillGains_4 : decode cX5_fillGains 4 = .ok (.getfield 12, 3) := by decide +kernel
theorem dX5_fillGains_7 : decode cX5_fillGains 7 = .ok (.getfield 74, 3) := by decide +kernel
theorem dX5_fillGains_10 : decode cX5_fillGains 10 = .ok (.getfield 77, 3) := by decide +kernel
theorem dX5_fillGains_13 : decode cX5_fillGains 13 = .ok (.if_icmp .ge 53, 3) := by decide +kernel
theorem dX5_fillGains_16 : decode cX5_fillGains 16 = .ok (.iconst 0, 1) := by decide +kernel
theorem dX5_fillGains_17 : decode cX5_fillGains 17 = .ok (.istore_n 2, 1) := by decide +kernel
theorem dX5_fillGains_18 : decode cX5_fillGains 18 = .ok (.iload_n 2, 1) := by decide +kernel
theorem dX5_fillGains_19 : decode cX5_fillGains 19 = .ok (.bipush 6, 2) := by decide +kernel
theorem dX5_fillGains_21 : decode cX5_fillGains 21 = .ok (.if_icmp .ge 39, 3) := by decide +kernel
theorem dX5_fillGains_24 : decode cX5_fillGains 24 = .ok (.aload_n 0, 1) := by decide +kernel
theorem dX5_fillGains_25 : decode cX5_fillGains 25 = .ok (.getfield 12, 3) := by decide +kernel
theorem dX5_fillGains_28 : decode cX5_fillGains 28 = .ok (.getfield 74, 3) := by decide +kernel
theorem dX5_fillGains_31 : decode cX5_fillGains 31 = .ok (.getfield 144, 3) := by decide +kernel
theorem dX5_fillGains_34 : decode cX5_fillGains 34 = .ok (.iload_n 1, 1) := by decide +kernel
theorem dX5_fillGains_35 : decode cX5_fillGains 35 = .ok (.iaload, 1) := by decide +kernel
theorem dX5_fillGains_36 : decode cX5_fillGains 36 = .ok (.ifCond .ne 18, 3) := by decide +kernel
theorem dX5_fillGains_39 : decode cX5_fillGains 39 = .ok (.aload_n 0, 1) := by decide +kernel
theorem dX5_fillGains_40 : decode cX5_fillGains 40 = .ok (.getfield 63, 3) := by decide +kernel
theorem dX5_fillGains_43 : decode cX5_fillGains 43 = .ok (.iload_n 1, 1) := by decide +kernel
theorem dX5_fillGains_44 : decode cX5_fillGains 44 = .ok (.aaload, 1) := by decide +kernel
theorem dX5_fillGains_45 : decode cX5_fillGains 45 = .ok (.iload_n 2, 1) := by decide +kernel
theorem dX5_fillGains_46 : decode cX5_fillGains 46 = .ok (.aload_n 0, 1) := by decide +kernel
theorem dX5_fillGains_47 : decode cX5_fillGains 47 = .ok (.iload_n 2, 1) := by decide +kernel
theorem dX5_fillGains_48 : decode cX5_fillGains 48 = .ok (.iload_n 1, 1) := by decide +kernel
theorem dX5_fillGains_49 : decode cX5_fillGains 49 = .ok (.iconst 4, 1) := by decide +kernel
theorem dX5_fillGains_50 : decode cX5_fillGains 50 = .ok (.invokevirtual 171, 3) := by decide +kernel
theorem dX5_fillGains_53 : decode cX5_fillGains 53 = .ok (.iastore, 1) := by decide +kernel
theorem dX5_fillGains_54 : decode cX5_fillGains 54 = .ok (.iinc 2 1, 3) := by decide +kernel
theorem dX5_fillGains_57 : decode cX5_fillGains 57 = .ok (.goto (-39), 3) := by decide +kernel
theorem dX5_fillGains_60 : decode cX5_fillGains 60 = .ok (.iinc 1 1, 3) := by decide +kernel
theorem dX5_fillGains_63 : decode cX5_fillGains 63 = .ok (.goto (-61), 3) := by decide +kernel
theorem dX5_fillGains_66 : decode cX5_fillGains 66 = .ok (.return_, 1) := by decide +kernel
theorem dX5_rests_0 : decode cX5_rests 0 = .ok (.aload_n 0, 1) := by decide +kernel
theorem dX5_rests_1 : decode cX5_rests 1 = .ok (.getfield 12, 3) := by decide +kernel
theorem dX5_rests_4 : decode cX5_rests 4 = .ok (.getfield 74, 3) := by decide +kernel
theorem dX5_rests_7 : decode cX5_rests 7 = .ok (.getfield 144, 3) := by decide +kernel
theorem dX5_rests_10 : decode cX5_rests 10 = .ok (.iload_n 1, 1) := by decide +kernel
theorem dX5_rests_11 : decode cX5_rests 11 = .ok (.iaload, 1) := by decide +kernel
theorem dX5_rests_12 : decode cX5_rests 12 = .ok (.ifCond .eq 5, 3) := by decide +kernel
theorem dX5_rests_15 : decode cX5_rests 15 = .ok (.iconst 0, 1) := by decide +kernel
theorem dX5_rests_16 : decode cX5_rests 16 = .ok (.ireturn, 1) := by decide +kernel
theorem dX5_rests_17 : decode cX5_rests 17 = .ok (.aload_n 0, 1) := by decide +kernel
theorem dX5_rests_18 : decode cX5_rests 18 = .ok (.getfield 63, 3) := by decide +kernel
theorem dX5_rests_21 : decode cX5_rests 21 = .ok (.iload_n 1, 1) := by decide +kernel
theorem dX5_rests_22 : decode cX5_rests 22 = .ok (.aaload, 1) := by decide +kernel
theorem dX5_rests_23 : decode cX5_rests 23 = .ok (.iload_n 2, 1) := by decide +kernel
theorem dX5_rests_24 : decode cX5_rests 24 = .ok (.iaload, 1) := by decide +kernel
theorem dX5_rests_25 : decode cX5_rests 25 = .ok (.istore_n 3, 1) := by decide +kernel
