theorem dX10_giveUp_50 : decode cX10_giveUp 50 = .ok (.iload_n 2, 1) := by decide +kernel
theorem dX10_giveUp_51 : decode cX10_giveUp 51 = .ok (.ireturn, 1) := by decide +kernel
set_option maxRecDepth 20000 in
theorem ggX10_move_X10_isPost : GoodIn wsX10_move wsX10_isPost := goodIn_r _ [11, 3, 12, 13, 14, 10, 15, 51, 52, 53, 54, 55, 56, 57, 58, 59, 60, 61, 70, 71, 72, 73, 74, 75, 76, 77, 78, 79, 80, 81, 82] (by decide +kernel) (by decide +kernel)
set_option maxRecDepth 20000 in
theorem gX10_move_X10_isPost : GoodIn wsX10_move (wsV RX10 161 RX10 yX10_isPost wsX10_isPost) := goodIn_app (goodIn_of _ (by decide +kernel)) ggX10_move_X10_isPost
set_option maxRecDepth 20000 in
theorem ggX10_move_X9_freeCellBeside : GoodIn wsX10_move wsX9_freeCellBeside := goodIn_r _ [20, 21, 22, 23, 62, 63, 64, 65, 66, 67, 68, 69, 70, 71, 72, 73, 74, 75, 76, 77, 78, 79, 80, 81, 82] (by decide +kernel) (by decide +kernel)
set_option maxRecDepth 20000 in
theorem gX10_move_X9_freeCellBeside : GoodIn wsX10_move (wsV RX10 209 RX9 yX9_freeCellBeside wsX9_freeCellBeside) := goodIn_app (goodIn_of _ (by decide +kernel)) ggX10_move_X9_freeCellBeside
set_option maxRecDepth 20000 in
theorem ggX10_move_X4_note : GoodIn wsX10_move wsX4_note := goodIn_r _ [28, 29, 30, 31, 32, 33, 34, 35, 36, 37, 38, 19, 39, 40, 41, 42, 43, 44, 21, 45, 46, 47, 48, 49, 50, 83, 84, 85, 62, 63, 64, 65, 66, 67, 68, 69] (by decide +kernel) (by decide +kernel)
set_option maxRecDepth 20000 in
theorem gX10_move_X4_note : GoodIn wsX10_move (wsV RX10 192 RX4 yX4_note wsX4_note) := goodIn_app (goodIn_of _ (by decide +kernel)) ggX10_move_X4_note
theorem dX10_move_0 : decode cX10_move 0 = .ok (.aload_n 0, 1) := by decide +kernel
theorem dX10_move_1 : decode cX10_move 1 = .ok (.iload_n 1, 1) := by decide +kernel
theorem dX10_move_2 : decode cX10_move 2 = .ok (.invokevirtual 161, 3) := by decide +kernel
theorem dX10_move_5 : decode cX10_move 5 = .ok (.ifCond .ne 6, 3) := by decide +kernel
theorem dX10_move_8 : decode cX10_move 8 = .ok (.ldc 160, 2) := by decide +kernel
theorem dX10_move_10 : decode cX10_move 10 = .ok (.ireturn, 1) := by decide +kernel
theorem dX10_move_11 : decode cX10_move 11 = .ok (.aload_n 0, 1) := by decide +kernel
theorem dX10_move_12 : decode cX10_move 12 = .ok (.getfield 19, 3) := by decide +kernel
theorem dX10_move_15 : decode cX10_move 15 = .ok (.aload_n 0, 1) := by decide +kernel
theorem dX10_move_16 : decode cX10_move 16 = .ok (.getfield 71, 3) := by decide +kernel
theorem dX10_move_19 : decode cX10_move 19 = .ok (.iload_n 1, 1) := by decide +kernel
theorem dX10_move_20 : decode cX10_move 20 = .ok (.iload_n 2, 1) := by decide +kernel
theorem dX10_move_21 : decode cX10_move 21 = .ok (.invokevirtual 209, 3) := by decide +kernel
theorem dX10_move_24 : decode cX10_move 24 = .ok (.istore_n 3, 1) := by decide +kernel
theorem dX10_move_25 : decode cX10_move 25 = .ok (.iload_n 3, 1) := by decide +kernel
theorem dX10_move_26 : decode cX10_move 26 = .ok (.iconst (-1), 1) := by decide +kernel
theorem dX10_move_27 : decode cX10_move 27 = .ok (.if_icmp .ne 6, 3) := by decide +kernel
theorem dX10_move_30 : decode cX10_move 30 = .ok (.ldc 200, 2) := by decide +kernel
theorem dX10_move_32 : decode cX10_move 32 = .ok (.ireturn, 1) := by decide +kernel
theorem dX10_move_33 : decode cX10_move 33 = .ok (.aload_n 0, 1) := by decide +kernel
theorem dX10_move_34 : decode cX10_move 34 = .ok (.getfield 29, 3) := by decide +kernel
theorem dX10_move_37 : decode cX10_move 37 = .ok (.aload_n 0, 1) := by decide +kernel
theorem dX10_move_38 : decode cX10_move 38 = .ok (.getfield 19, 3) := by decide +kernel
theorem dX10_move_41 : decode cX10_move 41 = .ok (.invokevirtual 192, 3) := by decide +kernel
theorem dX10_move_44 : decode cX10_move 44 = .ok (.aload_n 0, 1) := by decide +kernel
theorem dX10_move_45 : decode cX10_move 45 = .ok (.getfield 19, 3) := by decide +kernel
theorem dX10_move_48 : decode cX10_move 48 = .ok (.getfield 164, 3) := by decide +kernel
theorem dX10_move_51 : decode cX10_move 51 = .ok (.iload_n 1, 1) := by decide +kernel
theorem dX10_move_52 : decode cX10_move 52 = .ok (.iload_n 3, 1) := by decide +kernel
theorem dX10_move_53 : decode cX10_move 53 = .ok (.iastore, 1) := by decide +kernel
theorem dX10_move_54 : decode cX10_move 54 = .ok (.iload_n 3, 1) := by decide +kernel
theorem dX10_move_55 : decode cX10_move 55 = .ok (.ireturn, 1) := by decide +kernel
set_option maxRecDepth 20000 in
theorem ggX10_thaw_X10_within : GoodIn wsX10_thaw wsX10_within := goodIn_r _ [10] (by decide +kernel) (by decide +kernel)
set_option maxRecDepth 20000 in
theorem gX10_thaw_X10_within : GoodIn wsX10_thaw (va_wsS RX10 82 yX10_within wsX10_within) := goodIn_app (goodIn_of _ (by decide +kernel)) ggX10_thaw_X10_within
set_option maxRecDepth 20000 in
theorem ggX10_thaw_X4_note : GoodIn wsX10_thaw wsX4_note := goodIn_r _ [15, 16, 17, 18, 19, 20, 21, 22, 23, 24, 25, 26, 27, 28, 29, 30, 31, 32, 33, 34, 35, 36, 37, 38, 39, 75, 76, 77, 78, 79, 80, 81, 82, 83, 84, 85] (by decide +kernel) (by decide +kernel)
set_option maxRecDepth 20000 in
theorem gX10_thaw_X4_note : GoodIn wsX10_thaw (wsV RX10 192 RX4 yX4_note wsX4_note) := goodIn_app (goodIn_of _ (by decide +kernel)) ggX10_thaw_X4_note
set_option maxRecDepth 20000 in
theorem ggX10_thaw_X9_melt : GoodIn wsX10_thaw wsX9_melt := goodIn_r _ [43, 28, 44, 45, 21, 46, 78, 79, 80, 81, 82, 83, 84, 85] (by decide +kernel) (by decide +kernel)
set_option maxRecDepth 20000 in
theorem gX10_thaw_X9_melt : GoodIn wsX10_thaw (wsV RX10 213 RX9 yX9_melt wsX9_melt) := goodIn_app (goodIn_of _ (by decide +kernel)) ggX10_thaw_X9_melt
set_option maxRecDepth 20000 in
theorem ggX10_thaw_X9_allSnow : GoodIn wsX10_thaw wsX9_allSnow := goodIn_r _ [50, 28, 78, 79, 80, 81, 82, 83, 84, 85] (by decide +kernel) (by decide +kernel)
set_option maxRecDepth 20000 in
theorem gX10_thaw_X9_allSnow : GoodIn wsX10_thaw (wsV RX10 148 RX9 yX9_allSnow wsX9_allSnow) := goodIn_app (goodIn_of _ (by decide +kernel)) ggX10_thaw_X9_allSnow
theorem dX10_thaw_0 : decode cX10_thaw 0 = .ok (.iload_n 1, 1) := by decide +kernel
theorem dX10_thaw_1 : decode cX10_thaw 1 = .ok (.iconst 1, 1) := by decide +kernel
theorem dX10_thaw_2 : decode cX10_thaw 2 = .ok (.bipush 99, 2) := by decide +kernel
theorem dX10_thaw_4 : decode cX10_thaw 4 = .ok (.invokestatic 82, 3) := by decide +kernel
theorem dX10_thaw_7 : decode cX10_thaw 7 = .ok (.ifCond .ne 6, 3) := by decide +kernel
theorem dX10_thaw_10 : decode cX10_thaw 10 = .ok (.ldc 86, 2) := by decide +kernel
theorem dX10_thaw_12 : decode cX10_thaw 12 = .ok (.ireturn, 1) := by decide +kernel
theorem dX10_thaw_13 : decode cX10_thaw 13 = .ok (.aload_n 0, 1) := by decide +kernel
theorem dX10_thaw_14 : decode cX10_thaw 14 = .ok (.getfield 71, 3) := by decide +kernel
theorem dX10_thaw_17 : decode cX10_thaw 17 = .ok (.getfield 113, 3) := by decide +kernel
theorem dX10_thaw_20 : decode cX10_thaw 20 = .ok (.ifCond .ne 6, 3) := by decide +kernel
theorem dX10_thaw_23 : decode cX10_thaw 23 = .ok (.ldc 200, 2) := by decide +kernel
theorem dX10_thaw_25 : decode cX10_thaw 25 = .ok (.ireturn, 1) := by decide +kernel
theorem dX10_thaw_26 : decode cX10_thaw 26 = .ok (.aload_n 0, 1) := by decide +kernel
theorem dX10_thaw_27 : decode cX10_thaw 27 = .ok (.getfield 29, 3) := by decide +kernel
theorem dX10_thaw_30 : decode cX10_thaw 30 = .ok (.aload_n 0, 1) := by decide +kernel
theorem dX10_thaw_31 : decode cX10_thaw 31 = .ok (.getfield 19, 3) := by decide +kernel
theorem dX10_thaw_34 : decode cX10_thaw 34 = .ok (.invokevirtual 192, 3) := by decide +kernel
theorem dX10_thaw_37 : decode cX10_thaw 37 = .ok (.aload_n 0, 1) := by decide +kernel
theorem dX10_thaw_38 : decode cX10_thaw 38 = .ok (.getfield 19, 3) := by decide +kernel
theorem dX10_thaw_41 : decode cX10_thaw 41 = .ok (.iload_n 1, 1) := by decide +kernel
theorem dX10_thaw_42 : decode cX10_thaw 42 = .ok (.invokevirtual 213, 3) := by decide +kernel
theorem dX10_thaw_45 : decode cX10_thaw 45 = .ok (.aload_n 0, 1) := by decide +kernel
theorem dX10_thaw_46 : decode cX10_thaw 46 = .ok (.getfield 19, 3) := by decide +kernel
theorem dX10_thaw_49 : decode cX10_thaw 49 = .ok (.invokevirtual 148, 3) := by decide +kernel
theorem dX10_thaw_52 : decode cX10_thaw 52 = .ok (.ireturn, 1) := by decide +kernel
set_option maxRecDepth 20000 in
theorem ggX10_shout_X10_isCrow : GoodIn wsX10_shout wsX10_isCrow := goodIn_r _ [13, 14, 15, 16, 17, 12, 18, 47, 48, 49, 50, 51, 52, 53, 54, 55, 56, 57, 66, 67, 68, 69, 70, 71, 72, 73, 74, 75, 76, 77, 78] (by decide +kernel) (by decide +kernel)
set_option maxRecDepth 20000 in
theorem gX10_shout_X10_isCrow : GoodIn wsX10_shout (wsV RX10 173 RX10 yX10_isCrow wsX10_isCrow) := goodIn_app (goodIn_of _ (by decide +kernel)) ggX10_shout_X10_isCrow
set_option maxRecDepth 20000 in
theorem ggX10_shout_X4_note : GoodIn wsX10_shout wsX4_note := goodIn_r _ [23, 24, 25, 26, 27, 28, 7, 29, 30, 31, 32, 33, 34, 35, 36, 37, 38, 39, 40, 41, 42, 43, 44, 45, 46, 79, 80, 81, 58, 59, 60, 61, 62, 63, 64, 65] (by decide +kernel) (by decide +kernel)
set_option maxRecDepth 20000 in
theorem gX10_shout_X4_note : GoodIn wsX10_shout (wsV RX10 192 RX4 yX4_note wsX4_note) := goodIn_app (goodIn_of _ (by decide +kernel)) ggX10_shout_X4_note
theorem dX10_shout_0 : decode cX10_shout 0 = .ok (.aload_n 0, 1) := by decide +kernel
theorem dX10_shout_1 : decode cX10_shout 1 = .ok (.iload_n 1, 1) := by decide +kernel
theorem dX10_shout_2 : decode cX10_shout 2 = .ok (.invokevirtual 173, 3) := by decide +kernel
theorem dX10_shout_5 : decode cX10_shout 5 = .ok (.ifCond .ne 6, 3) := by decide +kernel
theorem dX10_shout_8 : decode cX10_shout 8 = .ok (.ldc 160, 2) := by decide +kernel
theorem dX10_shout_10 : decode cX10_shout 10 = .ok (.ireturn, 1) := by decide +kernel
theorem dX10_shout_11 : decode cX10_shout 11 = .ok (.aload_n 0, 1) := by decide +kernel
theorem dX10_shout_12 : decode cX10_shout 12 = .ok (.getfield 29, 3) := by decide +kernel
theorem dX10_shout_15 : decode cX10_shout 15 = .ok (.aload_n 0, 1) := by decide +kernel
theorem dX10_shout_16 : decode cX10_shout 16 = .ok (.getfield 19, 3) := by decide +kernel
theorem dX10_shout_19 : decode cX10_shout 19 = .ok (.invokevirtual 192, 3) := by decide +kernel
theorem dX10_shout_22 : decode cX10_shout 22 = .ok (.aload_n 0, 1) := by decide +kernel
theorem dX10_shout_23 : decode cX10_shout 23 = .ok (.getfield 19, 3) := by decide +kernel
theorem dX10_shout_26 : decode cX10_shout 26 = .ok (.getfield 176, 3) := by decide +kernel
theorem dX10_shout_29 : decode cX10_shout 29 = .ok (.iload_n 1, 1) := by decide +kernel
theorem dX10_shout_30 : decode cX10_shout 30 = .ok (.iconst 0, 1) := by decide +kernel
theorem dX10_shout_31 : decode cX10_shout 31 = .ok (.aload_n 0, 1) := by decide +kernel
theorem dX10_shout_32 : decode cX10_shout 32 = .ok (.getfield 19, 3) := by decide +kernel
theorem dX10_shout_35 : decode cX10_shout 35 = .ok (.getfield 176, 3) := by decide +kernel
theorem dX10_shout_38 : decode cX10_shout 38 = .ok (.iload_n 1, 1) := by decide +kernel
theorem dX10_shout_39 : decode cX10_shout 39 = .ok (.iaload, 1) := by decide +kernel
theorem dX10_shout_40 : decode cX10_shout 40 = .ok (.iconst 1, 1) := by decide +kernel
theorem dX10_shout_41 : decode cX10_shout 41 = .ok (.isub, 1) := by decide +kernel
theorem dX10_shout_42 : decode cX10_shout 42 = .ok (.invokestatic 216, 3) := by decide +kernel
theorem dX10_shout_45 : decode cX10_shout 45 = .ok (.iastore, 1) := by decide +kernel
theorem dX10_shout_46 : decode cX10_shout 46 = .ok (.aload_n 0, 1) := by decide +kernel
theorem dX10_shout_47 : decode cX10_shout 47 = .ok (.getfield 19, 3) := by decide +kernel
theorem dX10_shout_50 : decode cX10_shout 50 = .ok (.getfield 176, 3) := by decide +kernel
theorem dX10_shout_53 : decode cX10_shout 53 = .ok (.iload_n 1, 1) := by decide +kernel
theorem dX10_shout_54 : decode cX10_shout 54 = .ok (.iaload, 1) := by decide +kernel
theorem dX10_shout_55 : decode cX10_shout 55 = .ok (.ireturn, 1) := by decide +kernel
set_option maxRecDepth 20000 in
theorem ggX10_drift_X10_refusalOfHours : GoodIn wsX10_drift wsX10_refusalOfHours := goodIn_r _ [9, 10, 4, 11, 12, 2, 13, 14, 15, 16, 8, 17, 86, 87, 88, 89, 90, 91, 92, 93, 94, 95, 96, 97, 98, 99, 100, 101, 102, 103, 104, 105, 106, 107, 108, 109, 110, 111, 112, 113, 114, 115, 116, 117] (by decide +kernel) (by decide +kernel)
set_option maxRecDepth 20000 in
theorem gX10_drift_X10_refusalOfHours : GoodIn wsX10_drift (wsV RX10 189 RX10 yX10_refusalOfHours wsX10_refusalOfHours) := goodIn_app (goodIn_of _ (by decide +kernel)) ggX10_drift_X10_refusalOfHours
set_option maxRecDepth 20000 in
theorem ggX10_drift_X4_note : GoodIn wsX10_drift wsX4_note := goodIn_r _ [22, 23, 24, 25, 26, 27, 28, 29, 30, 31, 32, 33, 34, 35, 36, 37, 38, 39, 40, 41, 42, 43, 44, 45, 46, 118, 119, 120, 110, 111, 112, 113, 114, 115, 116, 117] (by decide +kernel) (by decide +kernel)
set_option maxRecDepth 20000 in
theorem gX10_drift_X4_note : GoodIn wsX10_drift (wsV RX10 192 RX4 yX4_note wsX4_note) := goodIn_app (goodIn_of _ (by decide +kernel)) ggX10_drift_X4_note
set_option maxRecDepth 20000 in
theorem ggX10_drift_X9_letPosts : GoodIn wsX10_drift wsX9_letPosts := goodIn_r _ [50, 41, 110, 111, 112, 113, 114, 115, 116, 117] (by decide +kernel) (by decide +kernel)
set_option maxRecDepth 20000 in
theorem gX10_drift_X9_letPosts : GoodIn wsX10_drift (wsV RX10 144 RX9 yX9_letPosts wsX9_letPosts) := goodIn_app (goodIn_of _ (by decide +kernel)) ggX10_drift_X9_letPosts
set_option maxRecDepth 20000 in
theorem ggX10_drift_X1_below : GoodIn wsX10_drift wsX1_below := goodIn_r _ [55, 56, 57, 58, 59, 60, 121] (by decide +kernel) (by decide +kernel)
set_option maxRecDepth 20000 in
theorem gX10_drift_X1_below : GoodIn wsX10_drift (wsV RX10 222 RX1 yX1_below wsX1_below) := goodIn_app (goodIn_of _ (by decide +kernel)) ggX10_drift_X1_below
set_option maxRecDepth 20000 in
theorem ggX10_drift_X9_blow : GoodIn wsX10_drift wsX9_blow := goodIn_r _ [64, 65, 66, 28, 67, 68, 44, 69, 70, 35, 71, 27, 29, 45, 72, 73, 74, 75, 76, 77, 78, 79, 80, 33, 81, 40, 97, 98, 99, 100, 101, 102, 103, 104, 105, 106, 107, 108, 109, 110, 111, 112, 113, 114, 115, 116, 117] (by decide +kernel) (by decide +kernel)
set_option maxRecDepth 20000 in
theorem gX10_drift_X9_blow : GoodIn wsX10_drift (wsV RX10 225 RX9 yX9_blow wsX9_blow) := goodIn_app (goodIn_of _ (by decide +kernel)) ggX10_drift_X9_blow
set_option maxRecDepth 20000 in
theorem ggX10_drift_X9_allSnow : GoodIn wsX10_drift wsX9_allSnow := goodIn_r _ [85, 35, 110, 111, 112, 113, 114, 115, 116, 117] (by decide +kernel) (by decide +kernel)
set_option maxRecDepth 20000 in
theorem gX10_drift_X9_allSnow : GoodIn wsX10_drift (wsV RX10 148 RX9 yX9_allSnow wsX9_allSnow) := goodIn_app (goodIn_of _ (by decide +kernel)) ggX10_drift_X9_allSnow
theorem dX10_drift_0 : decode cX10_drift 0 = .ok (.aload_n 0, 1) := by decide +kernel
theorem dX10_drift_1 : decode cX10_drift 1 = .ok (.iload_n 1, 1) := by decide +kernel
theorem dX10_drift_2 : decode cX10_drift 2 = .ok (.invokevirtual 189, 3) := by decide +kernel
theorem dX10_drift_5 : decode cX10_drift 5 = .ok (.istore_n 2, 1) := by decide +kernel
theorem dX10_drift_6 : decode cX10_drift 6 = .ok (.iload_n 2, 1) := by decide +kernel
theorem dX10_drift_7 : decode cX10_drift 7 = .ok (.ifCond .eq 5, 3) := by decide +kernel
theorem dX10_drift_10 : decode cX10_drift 10 = .ok (.iload_n 2, 1) := by decide +kernel
theorem dX10_drift_11 : decode cX10_drift 11 = .ok (.ireturn, 1) := by decide +kernel
theorem dX10_drift_12 : decode cX10_drift 12 = .ok (.aload_n 0, 1) := by decide +kernel
theorem dX10_drift_13 : decode cX10_drift 13 = .ok (.getfield 29, 3) := by decide +kernel
theorem dX10_drift_16 : decode cX10_drift 16 = .ok (.aload_n 0, 1) := by decide +kernel
theorem dX10_drift_17 : decode cX10_drift 17 = .ok (.getfield 19, 3) := by decide +kernel
theorem dX10_drift_20 : decode cX10_drift 20 = .ok (.invokevirtual 192, 3) := by decide +kernel
theorem dX10_drift_23 : decode cX10_drift 23 = .ok (.aload_n 0, 1) := by decide +kernel
theorem dX10_drift_24 : decode cX10_drift 24 = .ok (.getfield 19, 3) := by decide +kernel
theorem dX10_drift_27 : decode cX10_drift 27 = .ok (.invokevirtual 144, 3) := by decide +kernel
theorem dX10_drift_30 : decode cX10_drift 30 = .ok (.istore_n 3, 1) := by decide +kernel
theorem dX10_drift_31 : decode cX10_drift 31 = .ok (.iconst 0, 1) := by decide +kernel
theorem dX10_drift_32 : decode cX10_drift 32 = .ok (.istore 4, 2) := by decide +kernel
theorem dX10_drift_34 : decode cX10_drift 34 = .ok (.iload 4, 2) := by decide +kernel
theorem dX10_drift_36 : decode cX10_drift 36 = .ok (.iload_n 1, 1) := by decide +kernel
theorem dX10_drift_37 : decode cX10_drift 37 = .ok (.if_icmp .ge 47, 3) := by decide +kernel
theorem dX10_drift_40 : decode cX10_drift 40 = .ok (.aload_n 0, 1) := by decide +kernel
theorem dX10_drift_41 : decode cX10_drift 41 = .ok (.getfield 36, 3) := by decide +kernel
theorem dX10_drift_44 : decode cX10_drift 44 = .ok (.bipush 19, 2) := by decide +kernel
theorem dX10_drift_46 : decode cX10_drift 46 = .ok (.invokevirtual 222, 3) := by decide +kernel
theorem dX10_drift_49 : decode cX10_drift 49 = .ok (.istore 5, 2) := by decide +kernel
theorem dX10_drift_51 : decode cX10_drift 51 = .ok (.aload_n 0, 1) := by decide +kernel
theorem dX10_drift_52 : decode cX10_drift 52 = .ok (.getfield 36, 3) := by decide +kernel
theorem dX10_drift_55 : decode cX10_drift 55 = .ok (.bipush 11, 2) := by decide +kernel
theorem dX10_drift_57 : decode cX10_drift 57 = .ok (.invokevirtual 222, 3) := by decide +kernel
theorem dX10_drift_60 : decode cX10_drift 60 = .ok (.istore 6, 2) := by decide +kernel
theorem dX10_drift_62 : decode cX10_drift 62 = .ok (.aload_n 0, 1) := by decide +kernel
theorem dX10_drift_63 : decode cX10_drift 63 = .ok (.getfield 19, 3) := by decide +kernel
theorem dX10_drift_66 : decode cX10_drift 66 = .ok (.aload_n 0, 1) := by decide +kernel
theorem dX10_drift_67 : decode cX10_drift 67 = .ok (.getfield 71, 3) := by decide +kernel
theorem dX10_drift_70 : decode cX10_drift 70 = .ok (.iload 5, 2) := by decide +kernel
theorem dX10_drift_72 : decode cX10_drift 72 = .ok (.iload 6, 2) := by decide +kernel
theorem dX10_drift_74 : decode cX10_drift 74 = .ok (.iload_n 3, 1) := by decide +kernel
theorem dX10_drift_75 : decode cX10_drift 75 = .ok (.invokevirtual 225, 3) := by decide +kernel
theorem dX10_drift_78 : decode cX10_drift 78 = .ok (.iinc 4 1, 3) := by decide +kernel
theorem dX10_drift_81 : decode cX10_drift 81 = .ok (.goto (-47), 3) := by decide +kernel
theorem dX10_drift_84 : decode cX10_drift 84 = .ok (.aload_n 0, 1) := by decide +kernel
theorem dX10_drift_85 : decode cX10_drift 85 = .ok (.getfield 19, 3) := by decide +kernel
theorem dX10_drift_88 : decode cX10_drift 88 = .ok (.invokevirtual 148, 3) := by decide +kernel
theorem dX10_drift_91 : decode cX10_drift 91 = .ok (.ireturn, 1) := by decide +kernel
set_option maxRecDepth 20000 in
theorem ggX10_undo_X4_bringBack : GoodIn wsX10_undo wsX4_bringBack := goodIn_r _ [9, 10, 11, 12, 13, 14, 15, 16, 17, 18, 19, 20, 21, 22, 23, 24, 25, 26, 27, 28, 29, 41, 42, 43, 44, 45, 46, 47, 48, 49, 50, 51] (by decide +kernel) (by decide +kernel)
set_option maxRecDepth 20000 in
theorem gX10_undo_X4_bringBack : GoodIn wsX10_undo (wsV RX10 229 RX4 yX4_bringBack wsX4_bringBack) := goodIn_app (goodIn_of _ (by decide +kernel)) ggX10_undo_X4_bringBack
theorem dX10_undo_0 : decode cX10_undo 0 = .ok (.aload_n 0, 1) := by decide +kernel
theorem dX10_undo_1 : decode cX10_undo 1 = .ok (.getfield 29, 3) := by decide +kernel
theorem dX10_undo_4 : decode cX10_undo 4 = .ok (.getfield 151, 3) := by decide +kernel
theorem dX10_undo_7 : decode cX10_undo 7 = .ok (.ifCond .ne 6, 3) := by decide +kernel
theorem dX10_undo_10 : decode cX10_undo 10 = .ok (.ldc 200, 2) := by decide +kernel
theorem dX10_undo_12 : decode cX10_undo 12 = .ok (.ireturn, 1) := by decide +kernel
theorem dX10_undo_13 : decode cX10_undo 13 = .ok (.aload_n 0, 1) := by decide +kernel
theorem dX10_undo_14 : decode cX10_undo 14 = .ok (.getfield 29, 3) := by decide +kernel
theorem dX10_undo_17 : decode cX10_undo 17 = .ok (.aload_n 0, 1) := by decide +kernel
theorem dX10_undo_18 : decode cX10_undo 18 = .ok (.getfield 19, 3) := by decide +kernel
theorem dX10_undo_21 : decode cX10_undo 21 = .ok (.invokevirtual 229, 3) := by decide +kernel
theorem dX10_undo_24 : decode cX10_undo 24 = .ok (.aload_n 0, 1) := by decide +kernel
theorem dX10_undo_25 : decode cX10_undo 25 = .ok (.getfield 29, 3) := by decide +kernel
theorem dX10_undo_28 : decode cX10_undo 28 = .ok (.getfield 151, 3) := by decide +kernel
theorem dX10_undo_31 : decode cX10_undo 31 = .ok (.ireturn, 1) := by decide +kernel
set_option maxRecDepth 20000 in
theorem ggX10_lies_X10_isCell : GoodIn wsX10_lies wsX10_isCell := goodIn_r _ [9, 10, 11, 12, 13, 8, 14, 72, 73, 74, 75, 76, 77, 78, 79, 80, 81, 82, 91, 92, 93, 94, 95, 96, 97, 98, 99, 100, 101, 102, 103] (by decide +kernel) (by decide +kernel)
set_option maxRecDepth 20000 in
theorem gX10_lies_X10_isCell : GoodIn wsX10_lies (wsV RX10 152 RX10 yX10_isCell wsX10_isCell) := goodIn_app (goodIn_of _ (by decide +kernel)) ggX10_lies_X10_isCell
set_option maxRecDepth 20000 in
theorem ggX10_lies_X10_within : GoodIn wsX10_lies wsX10_within := goodIn_r _ [14] (by decide +kernel) (by decide +kernel)
set_option maxRecDepth 20000 in
theorem gX10_lies_X10_within : GoodIn wsX10_lies (va_wsS RX10 82 yX10_within wsX10_within) := goodIn_app (goodIn_of _ (by decide +kernel)) ggX10_lies_X10_within
set_option maxRecDepth 20000 in
theorem ggX10_lies_X10_tryHours : GoodIn wsX10_lies wsX10_tryHours := goodIn_r _ [18, 3, 19, 10, 20, 21, 22, 23, 24, 25, 26, 27, 28, 29, 30, 31, 32, 33, 34, 35, 36, 37, 38, 39, 40, 41, 42, 43, 44, 45, 46, 47, 48, 49, 50, 51, 52, 53, 54, 55, 56, 57, 58, 59, 60, 61, 62, 63, 64, 65, 66, 67, 68, 69, 70, 71, 72, 73, 74, 75, 76, 77, 78, 79, 80, 81, 82, 83, 84, 85, 86, 87, 88, 89, 90, 91, 92, 93, 94, 95, 96, 97, 98, 99, 100, 101, 102, 103] (by decide +kernel) (by decide +kernel)
set_option maxRecDepth 20000 in
theorem gX10_lies_X10_tryHours : GoodIn wsX10_lies (wsV RX10 232 RX10 yX10_tryHours wsX10_tryHours) := goodIn_app (goodIn_of _ (by decide +kernel)) ggX10_lies_X10_tryHours
theorem dX10_lies_0 : decode cX10_lies 0 = .ok (.aload_n 0, 1) := by decide +kernel
theorem dX10_lies_1 : decode cX10_lies 1 = .ok (.iload_n 1, 1) := by decide +kernel
theorem dX10_lies_2 : decode cX10_lies 2 = .ok (.invokevirtual 152, 3) := by decide +kernel
theorem dX10_lies_5 : decode cX10_lies 5 = .ok (.ifCond .ne 6, 3) := by decide +kernel
theorem dX10_lies_8 : decode cX10_lies 8 = .ok (.ldc 160, 2) := by decide +kernel
theorem dX10_lies_10 : decode cX10_lies 10 = .ok (.ireturn, 1) := by decide +kernel
theorem dX10_lies_11 : decode cX10_lies 11 = .ok (.iload_n 2, 1) := by decide +kernel
theorem dX10_lies_12 : decode cX10_lies 12 = .ok (.iconst 0, 1) := by decide +kernel
theorem dX10_lies_13 : decode cX10_lies 13 = .ok (.bipush 40, 2) := by decide +kernel
theorem dX10_lies_15 : decode cX10_lies 15 = .ok (.invokestatic 82, 3) := by decide +kernel
theorem dX10_lies_18 : decode cX10_lies 18 = .ok (.ifCond .ne 6, 3) := by decide +kernel
theorem dX10_lies_21 : decode cX10_lies 21 = .ok (.ldc 86, 2) := by decide +kernel
theorem dX10_lies_23 : decode cX10_lies 23 = .ok (.ireturn, 1) := by decide +kernel
theorem dX10_lies_24 : decode cX10_lies 24 = .ok (.aload_n 0, 1) := by decide +kernel
theorem dX10_lies_25 : decode cX10_lies 25 = .ok (.iload_n 2, 1) := by decide +kernel
theorem dX10_lies_26 : decode cX10_lies 26 = .ok (.invokevirtual 232, 3) := by decide +kernel
theorem dX10_lies_29 : decode cX10_lies 29 = .ok (.aload_n 0, 1) := by decide +kernel
theorem dX10_lies_30 : decode cX10_lies 30 = .ok (.getfield 23, 3) := by decide +kernel
theorem dX10_lies_33 : decode cX10_lies 33 = .ok (.getfield 156, 3) := by decide +kernel
theorem dX10_lies_36 : decode cX10_lies 36 = .ok (.iload_n 1, 1) := by decide +kernel
theorem dX10_lies_37 : decode cX10_lies 37 = .ok (.iaload, 1) := by decide +kernel
theorem dX10_lies_38 : decode cX10_lies 38 = .ok (.ireturn, 1) := by decide +kernel
set_option maxRecDepth 20000 in
theorem ggX10_open_X10_within : GoodIn wsX10_open wsX10_within := goodIn_r _ [7] (by decide +kernel) (by decide +kernel)
set_option maxRecDepth 20000 in
theorem gX10_open_X10_within : GoodIn wsX10_open (va_wsS RX10 82 yX10_within wsX10_within) := goodIn_app (goodIn_of _ (by decide +kernel)) ggX10_open_X10_within
set_option maxRecDepth 20000 in
theorem ggX10_open_X10_tryHours : GoodIn wsX10_open wsX10_tryHours := goodIn_r _ [11, 2, 12, 3, 13, 14, 15, 16, 17, 18, 19, 20, 21, 22, 23, 24, 25, 26, 27, 28, 29, 30, 31, 32, 33, 34, 35, 36, 37, 38, 39, 40, 41, 42, 43, 44, 45, 46, 47, 48, 49, 50, 51, 52, 53, 54, 55, 56, 57, 58, 59, 60, 61, 62, 63, 64, 80, 81, 82, 83, 84, 85, 86, 87, 88, 89, 90, 91, 92, 93, 94, 95, 96, 97, 98, 99, 100, 101, 102, 103, 104, 105, 106, 107, 108, 109, 110, 111] (by decide +kernel) (by decide +kernel)
set_option maxRecDepth 20000 in
theorem gX10_open_X10_tryHours : GoodIn wsX10_open (wsV RX10 232 RX10 yX10_tryHours wsX10_tryHours) := goodIn_app (goodIn_of _ (by decide +kernel)) ggX10_open_X10_tryHours
set_option maxRecDepth 20000 in
theorem ggX10_open_X9_roadIsOpen : GoodIn wsX10_open wsX9_roadIsOpen := goodIn_r _ [68, 69, 70, 71, 72, 16, 73, 51, 18, 74, 75, 76, 77, 58, 78, 79, 99, 100, 101, 102, 103, 104, 105, 106, 107, 108, 109, 110, 111, 91, 92, 93, 94, 95, 96, 97, 98] (by decide +kernel) (by decide +kernel)
set_option maxRecDepth 20000 in
theorem gX10_open_X9_roadIsOpen : GoodIn wsX10_open (wsV RX10 235 RX9 yX9_roadIsOpen wsX9_roadIsOpen) := goodIn_app (goodIn_of _ (by decide +kernel)) ggX10_open_X9_roadIsOpen
theorem dX10_open_0 : decode cX10_open 0 = .ok (.iload_n 1, 1) := by decide +kernel
theorem dX10_open_1 : decode cX10_open 1 = .ok (.iconst 0, 1) := by decide +kernel
theorem dX10_open_2 : decode cX10_open 2 = .ok (.bipush 40, 2) := by decide +kernel
theorem dX10_open_4 : decode cX10_open 4 = .ok (.invokestatic 82, 3) := by decide +kernel
theorem dX10_open_7 : decode cX10_open 7 = .ok (.ifCond .ne 6, 3) := by decide +kernel
theorem dX10_open_10 : decode cX10_open 10 = .ok (.ldc 86, 2) := by decide +kernel
theorem dX10_open_12 : decode cX10_open 12 = .ok (.ireturn, 1) := by decide +kernel
theorem dX10_open_13 : decode cX10_open 13 = .ok (.aload_n 0, 1) := by decide +kernel
theorem dX10_open_14 : decode cX10_open 14 = .ok (.iload_n 1, 1) := by decide +kernel
theorem dX10_open_15 : decode cX10_open 15 = .ok (.invokevirtual 232, 3) := by decide +kernel
theorem dX10_open_18 : decode cX10_open 18 = .ok (.aload_n 0, 1) := by decide +kernel
theorem dX10_open_19 : decode cX10_open 19 = .ok (.getfield 23, 3) := by decide +kernel
theorem dX10_open_22 : decode cX10_open 22 = .ok (.aload_n 0, 1) := by decide +kernel
theorem dX10_open_23 : decode cX10_open 23 = .ok (.getfield 71, 3) := by decide +kernel
theorem dX10_open_26 : decode cX10_open 26 = .ok (.invokevirtual 235, 3) := by decide +kernel
theorem dX10_open_29 : decode cX10_open 29 = .ok (.ifCond .eq 7, 3) := by decide +kernel
theorem dX10_open_32 : decode cX10_open 32 = .ok (.iconst 1, 1) := by decide +kernel
theorem dX10_open_33 : decode cX10_open 33 = .ok (.goto 4, 3) := by decide +kernel
theorem dX10_open_36 : decode cX10_open 36 = .ok (.iconst 0, 1) := by decide +kernel
theorem dX10_open_37 : decode cX10_open 37 = .ok (.ireturn, 1) := by decide +kernel
set_option maxRecDepth 20000 in
theorem ggX10_worth_X10_isPost : GoodIn wsX10_worth wsX10_isPost := goodIn_r _ [8, 2, 9, 10, 11, 7, 12, 26, 27, 28, 29, 30, 31, 32, 33, 34, 35, 36, 37, 38, 39, 40, 41, 42, 43, 44, 45, 46, 47, 48, 49] (by decide +kernel) (by decide +kernel)
set_option maxRecDepth 20000 in
theorem gX10_worth_X10_isPost : GoodIn wsX10_worth (wsV RX10 161 RX10 yX10_isPost wsX10_isPost) := goodIn_app (goodIn_of _ (by decide +kernel)) ggX10_worth_X10_isPost
set_option maxRecDepth 20000 in
theorem ggX10_worth_X10_isCrow : GoodIn wsX10_worth wsX10_isCrow := goodIn_r _ [16, 2, 17, 10, 11, 7, 12, 26, 27, 28, 29, 30, 31, 32, 33, 34, 35, 36, 37, 38, 39, 40, 41, 42, 43, 44, 45, 46, 47, 48, 49] (by decide +kernel) (by decide +kernel)
set_option maxRecDepth 20000 in
theorem gX10_worth_X10_isCrow : GoodIn wsX10_worth (wsV RX10 173 RX10 yX10_isCrow wsX10_isCrow) := goodIn_app (goodIn_of _ (by decide +kernel)) ggX10_worth_X10_isCrow
set_option maxRecDepth 20000 in
theorem ggX10_worth_X9_worthOf : GoodIn wsX10_worth wsX9_worthOf := goodIn_r _ [22, 23, 24, 25, 50, 51, 52, 53, 54, 55, 56, 57, 37, 38, 39, 40, 41, 42, 43, 44, 45, 46, 47, 48, 49] (by decide +kernel) (by decide +kernel)
set_option maxRecDepth 20000 in
theorem gX10_worth_X9_worthOf : GoodIn wsX10_worth (wsV RX10 201 RX9 yX9_worthOf wsX9_worthOf) := goodIn_app (goodIn_of _ (by decide +kernel)) ggX10_worth_X9_worthOf
theorem dX10_worth_0 : decode cX10_worth 0 = .ok (.aload_n 0, 1) := by decide +kernel
theorem dX10_worth_1 : decode cX10_worth 1 = .ok (.iload_n 1, 1) := by decide +kernel
theorem dX10_worth_2 : decode cX10_worth 2 = .ok (.invokevirtual 161, 3) := by decide +kernel
theorem dX10_worth_5 : decode cX10_worth 5 = .ok (.ifCond .eq 27, 3) := by decide +kernel
theorem dX10_worth_8 : decode cX10_worth 8 = .ok (.aload_n 0, 1) := by decide +kernel
theorem dX10_worth_9 : decode cX10_worth 9 = .ok (.iload_n 2, 1) := by decide +kernel
theorem dX10_worth_10 : decode cX10_worth 10 = .ok (.invokevirtual 173, 3) := by decide +kernel
theorem dX10_worth_13 : decode cX10_worth 13 = .ok (.ifCond .eq 19, 3) := by decide +kernel
theorem dX10_worth_16 : decode cX10_worth 16 = .ok (.aload_n 0, 1) := by decide +kernel
theorem dX10_worth_17 : decode cX10_worth 17 = .ok (.getfield 19, 3) := by decide +kernel
theorem dX10_worth_20 : decode cX10_worth 20 = .ok (.aload_n 0, 1) := by decide +kernel
theorem dX10_worth_21 : decode cX10_worth 21 = .ok (.getfield 71, 3) := by decide +kernel
theorem dX10_worth_24 : decode cX10_worth 24 = .ok (.iload_n 1, 1) := by decide +kernel
theorem dX10_worth_25 : decode cX10_worth 25 = .ok (.iload_n 2, 1) := by decide +kernel
theorem dX10_worth_26 : decode cX10_worth 26 = .ok (.invokevirtual 201, 3) := by decide +kernel
theorem dX10_worth_29 : decode cX10_worth 29 = .ok (.goto 5, 3) := by decide +kernel
theorem dX10_worth_32 : decode cX10_worth 32 = .ok (.ldc 160, 2) := by decide +kernel
theorem dX10_worth_34 : decode cX10_worth 34 = .ok (.ireturn, 1) := by decide +kernel
set_option maxRecDepth 20000 in
theorem ggX10_lets_X10_isPost : GoodIn wsX10_lets wsX10_isPost := goodIn_r _ [12, 4, 13, 14, 15, 11, 16, 148, 149, 150, 151, 152, 153, 154, 155, 156, 157, 158, 164, 165, 166, 167, 168, 169, 170, 171, 172, 173, 174, 175, 176] (by decide +kernel) (by decide +kernel)
set_option maxRecDepth 20000 in
theorem gX10_lets_X10_isPost : GoodIn wsX10_lets (wsV RX10 161 RX10 yX10_isPost wsX10_isPost) := goodIn_app (goodIn_of _ (by decide +kernel)) ggX10_lets_X10_isPost
set_option maxRecDepth 20000 in
theorem ggX10_lets_X10_within : GoodIn wsX10_lets wsX10_within := goodIn_r _ [16] (by decide +kernel) (by decide +kernel)
set_option maxRecDepth 20000 in
theorem gX10_lets_X10_within : GoodIn wsX10_lets (va_wsS RX10 82 yX10_within wsX10_within) := goodIn_app (goodIn_of _ (by decide +kernel)) ggX10_lets_X10_within
set_option maxRecDepth 20000 in
theorem ggX10_lets_X3_findMost : GoodIn wsX10_lets wsX3_findMost := goodIn_r _ [21, 22, 23, 24, 25, 26, 27, 28, 29, 30, 31, 32, 33, 34, 35, 20, 36, 37, 38, 39, 40, 41, 42, 43, 44, 45, 46, 47, 48, 49, 50, 51, 52, 53, 54, 55, 56, 57, 58, 59, 60, 61, 62, 63, 64, 65, 66, 67, 68, 69, 70, 71, 72, 73, 74, 75, 76, 77, 78, 79, 80, 81, 82, 83, 84, 85, 86, 87, 88, 89, 90, 91, 92, 93, 94, 95, 96, 97, 98, 99, 100, 101, 102, 103, 104, 105, 106, 107, 108, 109, 110, 111, 112, 113, 114, 115, 116, 117, 118, 119, 120, 121, 122, 123, 124, 125, 126, 127, 128, 129, 130, 131, 132, 133, 134, 135, 136, 137, 138, 139, 140, 141, 142, 143, 144, 145, 146, 147, 159, 160, 161, 162, 163, 177, 178, 179, 180, 181, 182, 164, 165, 166, 167, 168, 169, 170, 171, 172, 173, 174, 175, 176, 183, 184, 185, 186, 187, 188, 189, 190] (by decide +kernel) (by decide +kernel)
set_option maxRecDepth 20000 in
theorem gX10_lets_X3_findMost : GoodIn wsX10_lets (wsV RX10 239 RX3 yX3_findMost wsX3_findMost) := goodIn_app (goodIn_of _ (by decide +kernel)) ggX10_lets_X3_findMost
theorem dX10_lets_0 : decode cX10_lets 0 = .ok (.iload_n 2, 1) := by decide +kernel
theorem dX10_lets_1 : decode cX10_lets 1 = .ok (.iconst (-1), 1) := by decide +kernel
theorem dX10_lets_2 : decode cX10_lets 2 = .ok (.if_icmp .eq 14, 3) := by decide +kernel
theorem dX10_lets_5 : decode cX10_lets 5 = .ok (.aload_n 0, 1) := by decide +kernel
theorem dX10_lets_6 : decode cX10_lets 6 = .ok (.iload_n 2, 1) := by decide +kernel
theorem dX10_lets_7 : decode cX10_lets 7 = .ok (.invokevirtual 161, 3) := by decide +kernel
theorem dX10_lets_10 : decode cX10_lets 10 = .ok (.ifCond .ne 6, 3) := by decide +kernel
theorem dX10_lets_13 : decode cX10_lets 13 = .ok (.ldc 160, 2) := by decide +kernel
theorem dX10_lets_15 : decode cX10_lets 15 = .ok (.ireturn, 1) := by decide +kernel
theorem dX10_lets_16 : decode cX10_lets 16 = .ok (.iload_n 1, 1) := by decide +kernel
theorem dX10_lets_17 : decode cX10_lets 17 = .ok (.iconst 1, 1) := by decide +kernel
theorem dX10_lets_18 : decode cX10_lets 18 = .ok (.bipush 40, 2) := by decide +kernel
theorem dX10_lets_20 : decode cX10_lets 20 = .ok (.invokestatic 82, 3) := by decide +kernel
theorem dX10_lets_23 : decode cX10_lets 23 = .ok (.ifCond .ne 6, 3) := by decide +kernel
theorem dX10_lets_26 : decode cX10_lets 26 = .ok (.ldc 86, 2) := by decide +kernel
theorem dX10_lets_28 : decode cX10_lets 28 = .ok (.ireturn, 1) := by decide +kernel
theorem dX10_lets_29 : decode cX10_lets 29 = .ok (.aload_n 0, 1) := by decide +kernel
theorem dX10_lets_30 : decode cX10_lets 30 = .ok (.getfield 50, 3) := by decide +kernel
theorem dX10_lets_33 : decode cX10_lets 33 = .ok (.aload_n 0, 1) := by decide +kernel
theorem dX10_lets_34 : decode cX10_lets 34 = .ok (.getfield 71, 3) := by decide +kernel
theorem dX10_lets_37 : decode cX10_lets 37 = .ok (.aload_n 0, 1) := by decide +kernel
theorem dX10_lets_38 : decode cX10_lets 38 = .ok (.getfield 19, 3) := by decide +kernel
theorem dX10_lets_41 : decode cX10_lets 41 = .ok (.iload_n 1, 1) := by decide +kernel
theorem dX10_lets_42 : decode cX10_lets 42 = .ok (.invokevirtual 239, 3) := by decide +kernel
theorem dX10_lets_45 : decode cX10_lets 45 = .ok (.iload_n 2, 1) := by decide +kernel
theorem dX10_lets_46 : decode cX10_lets 46 = .ok (.iconst (-1), 1) := by decide +kernel
theorem dX10_lets_47 : decode cX10_lets 47 = .ok (.if_icmp .ne 13, 3) := by decide +kernel
theorem dX10_lets_50 : decode cX10_lets 50 = .ok (.aload_n 0, 1) := by decide +kernel
theorem dX10_lets_51 : decode cX10_lets 51 = .ok (.getfield 50, 3) := by decide +kernel
theorem dX10_lets_54 : decode cX10_lets 54 = .ok (.getfield 243, 3) := by decide +kernel
theorem dX10_lets_57 : decode cX10_lets 57 = .ok (.goto 12, 3) := by decide +kernel
theorem dX10_lets_60 : decode cX10_lets 60 = .ok (.aload_n 0, 1) := by decide +kernel
theorem dX10_lets_61 : decode cX10_lets 61 = .ok (.getfield 50, 3) := by decide +kernel
theorem dX10_lets_64 : decode cX10_lets 64 = .ok (.getfield 246, 3) := by decide +kernel
theorem dX10_lets_67 : decode cX10_lets 67 = .ok (.iload_n 2, 1) := by decide +kernel
theorem dX10_lets_68 : decode cX10_lets 68 = .ok (.iaload, 1) := by decide +kernel
theorem dX10_lets_69 : decode cX10_lets 69 = .ok (.ireturn, 1) := by decide +kernel
set_option maxRecDepth 20000 in
theorem ggX10_fewest_X10_within : GoodIn wsX10_fewest wsX10_within := goodIn_r _ [8] (by decide +kernel) (by decide +kernel)
set_option maxRecDepth 20000 in
theorem gX10_fewest_X10_within : GoodIn wsX10_fewest (va_wsS RX10 82 yX10_within wsX10_within) := goodIn_app (goodIn_of _ (by decide +kernel)) ggX10_fewest_X10_within
set_option maxRecDepth 20000 in
theorem ggX10_fewest_X3_fewestPosts : GoodIn wsX10_fewest wsX3_fewestPosts := goodIn_r _ [13, 14, 15, 16, 17, 18, 19, 20, 21, 22, 23, 24, 25, 26, 27, 28, 29, 30, 12, 31, 32, 33, 34, 35, 36, 37, 38, 39, 40, 41, 42, 43, 44, 45, 46, 47, 48, 49, 50, 51, 52, 53, 54, 55, 56, 57, 58, 59, 60, 61, 62, 63, 64, 65, 66, 67, 68, 69, 70, 71, 72, 73, 74, 75, 76, 77, 78, 79, 80, 81, 82, 83, 84, 85, 86, 87, 88, 89, 90, 91, 92, 93, 94, 95, 107, 108, 109, 110, 111, 112, 113, 114, 115, 116, 117, 118, 119, 120, 121, 122, 123, 124, 125, 126, 127, 128, 129, 130, 131, 132] (by decide +kernel) (by decide +kernel)
set_option maxRecDepth 20000 in
theorem gX10_fewest_X3_fewestPosts : GoodIn wsX10_fewest (wsV RX10 247 RX3 yX3_fewestPosts wsX3_fewestPosts) := goodIn_app (goodIn_of _ (by decide +kernel)) ggX10_fewest_X3_fewestPosts
theorem dX10_fewest_0 : decode cX10_fewest 0 = .ok (.iload_n 1, 1) := by decide +kernel
theorem dX10_fewest_1 : decode cX10_fewest 1 = .ok (.iconst 1, 1) := by decide +kernel
theorem dX10_fewest_2 : decode cX10_fewest 2 = .ok (.bipush 40, 2) := by decide +kernel
theorem dX10_fewest_4 : decode cX10_fewest 4 = .ok (.invokestatic 82, 3) := by decide +kernel
theorem dX10_fewest_7 : decode cX10_fewest 7 = .ok (.ifCond .ne 6, 3) := by decide +kernel
theorem dX10_fewest_10 : decode cX10_fewest 10 = .ok (.ldc 86, 2) := by decide +kernel
theorem dX10_fewest_12 : decode cX10_fewest 12 = .ok (.ireturn, 1) := by decide +kernel
theorem dX10_fewest_13 : decode cX10_fewest 13 = .ok (.aload_n 0, 1) := by decide +kernel
theorem dX10_fewest_14 : decode cX10_fewest 14 = .ok (.getfield 50, 3) := by decide +kernel
theorem dX10_fewest_17 : decode cX10_fewest 17 = .ok (.aload_n 0, 1) := by decide +kernel
theorem dX10_fewest_18 : decode cX10_fewest 18 = .ok (.getfield 71, 3) := by decide +kernel
theorem dX10_fewest_21 : decode cX10_fewest 21 = .ok (.aload_n 0, 1) := by decide +kernel
theorem dX10_fewest_22 : decode cX10_fewest 22 = .ok (.getfield 19, 3) := by decide +kernel
theorem dX10_fewest_25 : decode cX10_fewest 25 = .ok (.iload_n 1, 1) := by decide +kernel
theorem dX10_fewest_26 : decode cX10_fewest 26 = .ok (.invokevirtual 247, 3) := by decide +kernel
theorem dX10_fewest_29 : decode cX10_fewest 29 = .ok (.ireturn, 1) := by decide +kernel
set_option maxRecDepth 20000 in
theorem ggX10_yard_X10_isPost : GoodIn wsX10_yard wsX10_isPost := goodIn_r _ [12, 4, 13, 14, 15, 11, 16, 82, 83, 84, 85, 86, 87, 88, 89, 90, 91, 92, 101, 102, 103, 104, 105, 106, 107, 108, 109, 110, 111, 112, 113] (by decide +kernel) (by decide +kernel)
set_option maxRecDepth 20000 in
theorem gX10_yard_X10_isPost : GoodIn wsX10_yard (wsV RX10 161 RX10 yX10_isPost wsX10_isPost) := goodIn_app (goodIn_of _ (by decide +kernel)) ggX10_yard_X10_isPost
set_option maxRecDepth 20000 in
theorem ggX10_yard_X10_isCell : GoodIn wsX10_yard wsX10_isCell := goodIn_r _ [20, 4, 21, 14, 15, 11, 16, 82, 83, 84, 85, 86, 87, 88, 89, 90, 91, 92, 101, 102, 103, 104, 105, 106, 107, 108, 109, 110, 111, 112, 113] (by decide +kernel) (by decide +kernel)
set_option maxRecDepth 20000 in
theorem gX10_yard_X10_isCell : GoodIn wsX10_yard (wsV RX10 152 RX10 yX10_isCell wsX10_isCell) := goodIn_app (goodIn_of _ (by decide +kernel)) ggX10_yard_X10_isCell
set_option maxRecDepth 20000 in
theorem ggX10_yard_X10_within : GoodIn wsX10_yard wsX10_within := goodIn_r _ [16] (by decide +kernel) (by decide +kernel)
set_option maxRecDepth 20000 in
theorem gX10_yard_X10_within : GoodIn wsX10_yard (va_wsS RX10 82 yX10_within wsX10_within) := goodIn_app (goodIn_of _ (by decide +kernel)) ggX10_yard_X10_within
set_option maxRecDepth 20000 in
theorem ggX10_yard_X9_freeCellBeside : GoodIn wsX10_yard wsX9_freeCellBeside := goodIn_r _ [26, 27, 28, 29, 93, 94, 95, 96, 97, 98, 99, 100, 101, 102, 103, 104, 105, 106, 107, 108, 109, 110, 111, 112, 113] (by decide +kernel) (by decide +kernel)
set_option maxRecDepth 20000 in
theorem gX10_yard_X9_freeCellBeside : GoodIn wsX10_yard (wsV RX10 209 RX9 yX9_freeCellBeside wsX9_freeCellBeside) := goodIn_app (goodIn_of _ (by decide +kernel)) ggX10_yard_X9_freeCellBeside
set_option maxRecDepth 20000 in
theorem ggX10_yard_X10_tryHours : GoodIn wsX10_yard wsX10_tryHours := goodIn_r _ [33, 5, 3, 4, 34, 35, 36, 25, 37, 38, 39, 40, 41, 42, 27, 43, 44, 45, 46, 47, 48, 49, 50, 51, 52, 53, 54, 55, 56, 57, 58, 59, 60, 61, 62, 63, 64, 65, 66, 67, 68, 29, 28, 69, 70, 71, 72, 73, 74, 75, 76, 77, 78, 79, 80, 81, 82, 83, 84, 85, 86, 87, 88, 89, 90, 91, 92, 93, 94, 95, 96, 97, 98, 99, 100, 101, 102, 103, 104, 105, 106, 107, 108, 109, 110, 111, 112, 113] (by decide +kernel) (by decide +kernel)
set_option maxRecDepth 20000 in
theorem gX10_yard_X10_tryHours : GoodIn wsX10_yard (wsV RX10 232 RX10 yX10_tryHours wsX10_tryHours) := goodIn_app (goodIn_of _ (by decide +kernel)) ggX10_yard_X10_tryHours
set_option maxRecDepth 20000 in
theorem ggX10_yard_X9_copyFrom : GoodIn wsX10_yard wsX9_copyFrom := goodIn_r _ [37, 38, 39, 40, 41, 42, 27, 43, 44, 45, 46, 47, 48, 93, 94, 95, 96, 97, 98, 99, 100] (by decide +kernel) (by decide +kernel)
set_option maxRecDepth 20000 in
theorem gX10_yard_X9_copyFrom : GoodIn wsX10_yard (wsV RX10 251 RX9 yX9_copyFrom wsX9_copyFrom) := goodIn_app (goodIn_of _ (by decide +kernel)) ggX10_yard_X9_copyFrom
set_option maxRecDepth 20000 in
theorem ggX10_yard_X9_letPosts : GoodIn wsX10_yard wsX9_letPosts := goodIn_r _ [52, 43, 93, 94, 95, 96, 97, 98, 99, 100] (by decide +kernel) (by decide +kernel)
set_option maxRecDepth 20000 in
theorem gX10_yard_X9_letPosts : GoodIn wsX10_yard (wsV RX10 144 RX9 yX9_letPosts wsX9_letPosts) := goodIn_app (goodIn_of _ (by decide +kernel)) ggX10_yard_X9_letPosts
set_option maxRecDepth 20000 in
theorem ggX10_yard_X9_passHours : GoodIn wsX10_yard wsX9_passHours := goodIn_r _ [56, 57, 47, 58, 59, 60, 61, 62, 25, 63, 64, 65, 66, 67, 68, 46, 29, 28, 38, 69, 70, 71, 72, 73, 74, 75, 76, 77, 78, 79, 80, 81, 27, 101, 102, 103, 104, 105, 106, 107, 108, 109, 110, 111, 112, 113, 93, 94, 95, 96, 97, 98, 99, 100] (by decide +kernel) (by decide +kernel)
set_option maxRecDepth 20000 in
theorem gX10_yard_X9_passHours : GoodIn wsX10_yard (wsV RX10 196 RX9 yX9_passHours wsX9_passHours) := goodIn_app (goodIn_of _ (by decide +kernel)) ggX10_yard_X9_passHours
theorem dX10_yard_0 : decode cX10_yard 0 = .ok (.aload_n 0, 1) := by decide +kernel
theorem dX10_yard_1 : decode cX10_yard 1 = .ok (.iload_n 1, 1) := by decide +kernel
theorem dX10_yard_2 : decode cX10_yard 2 = .ok (.invokevirtual 161, 3) := by decide +kernel
theorem dX10_yard_5 : decode cX10_yard 5 = .ok (.ifCond .eq 11, 3) := by decide +kernel
theorem dX10_yard_8 : decode cX10_yard 8 = .ok (.aload_n 0, 1) := by decide +kernel
theorem dX10_yard_9 : decode cX10_yard 9 = .ok (.iload_n 2, 1) := by decide +kernel
theorem dX10_yard_10 : decode cX10_yard 10 = .ok (.invokevirtual 152, 3) := by decide +kernel
theorem dX10_yard_13 : decode cX10_yard 13 = .ok (.ifCond .ne 6, 3) := by decide +kernel
theorem dX10_yard_16 : decode cX10_yard 16 = .ok (.ldc 160, 2) := by decide +kernel
theorem dX10_yard_18 : decode cX10_yard 18 = .ok (.ireturn, 1) := by decide +kernel
theorem dX10_yard_19 : decode cX10_yard 19 = .ok (.iload_n 3, 1) := by decide +kernel
theorem dX10_yard_20 : decode cX10_yard 20 = .ok (.iconst 0, 1) := by decide +kernel
theorem dX10_yard_21 : decode cX10_yard 21 = .ok (.bipush 40, 2) := by decide +kernel
theorem dX10_yard_23 : decode cX10_yard 23 = .ok (.invokestatic 82, 3) := by decide +kernel
theorem dX10_yard_26 : decode cX10_yard 26 = .ok (.ifCond .ne 6, 3) := by decide +kernel
theorem dX10_yard_29 : decode cX10_yard 29 = .ok (.ldc 86, 2) := by decide +kernel
theorem dX10_yard_31 : decode cX10_yard 31 = .ok (.ireturn, 1) := by decide +kernel
theorem dX10_yard_32 : decode cX10_yard 32 = .ok (.aload_n 0, 1) := by decide +kernel
theorem dX10_yard_33 : decode cX10_yard 33 = .ok (.getfield 19, 3) := by decide +kernel
theorem dX10_yard_36 : decode cX10_yard 36 = .ok (.aload_n 0, 1) := by decide +kernel
theorem dX10_yard_37 : decode cX10_yard 37 = .ok (.getfield 71, 3) := by decide +kernel
theorem dX10_yard_40 : decode cX10_yard 40 = .ok (.iload_n 1, 1) := by decide +kernel
theorem dX10_yard_41 : decode cX10_yard 41 = .ok (.iconst 1, 1) := by decide +kernel
theorem dX10_yard_42 : decode cX10_yard 42 = .ok (.invokevirtual 209, 3) := by decide +kernel
theorem dX10_yard_45 : decode cX10_yard 45 = .ok (.istore 4, 2) := by decide +kernel
theorem dX10_yard_47 : decode cX10_yard 47 = .ok (.iload 4, 2) := by decide +kernel
theorem dX10_yard_49 : decode cX10_yard 49 = .ok (.iconst (-1), 1) := by decide +kernel
theorem dX10_yard_50 : decode cX10_yard 50 = .ok (.if_icmp .ne 5, 3) := by decide +kernel
theorem dX10_yard_53 : decode cX10_yard 53 = .ok (.iconst (-1), 1) := by decide +kernel
theorem dX10_yard_54 : decode cX10_yard 54 = .ok (.ireturn, 1) := by decide +kernel
theorem dX10_yard_55 : decode cX10_yard 55 = .ok (.aload_n 0, 1) := by decide +kernel
theorem dX10_yard_56 : decode cX10_yard 56 = .ok (.iload_n 3, 1) := by decide +kernel
theorem dX10_yard_57 : decode cX10_yard 57 = .ok (.invokevirtual 232, 3) := by decide +kernel
theorem dX10_yard_60 : decode cX10_yard 60 = .ok (.aload_n 0, 1) := by decide +kernel
theorem dX10_yard_61 : decode cX10_yard 61 = .ok (.getfield 23, 3) := by decide +kernel
theorem dX10_yard_64 : decode cX10_yard 64 = .ok (.getfield 156, 3) := by decide +kernel
theorem dX10_yard_67 : decode cX10_yard 67 = .ok (.iload_n 2, 1) := by decide +kernel
theorem dX10_yard_68 : decode cX10_yard 68 = .ok (.iaload, 1) := by decide +kernel
theorem dX10_yard_69 : decode cX10_yard 69 = .ok (.istore 5, 2) := by decide +kernel
theorem dX10_yard_71 : decode cX10_yard 71 = .ok (.aload_n 0, 1) := by decide +kernel
theorem dX10_yard_72 : decode cX10_yard 72 = .ok (.getfield 23, 3) := by decide +kernel
theorem dX10_yard_75 : decode cX10_yard 75 = .ok (.aload_n 0, 1) := by decide +kernel
theorem dX10_yard_76 : decode cX10_yard 76 = .ok (.getfield 19, 3) := by decide +kernel
theorem dX10_yard_79 : decode cX10_yard 79 = .ok (.invokevirtual 251, 3) := by decide +kernel
theorem dX10_yard_82 : decode cX10_yard 82 = .ok (.aload_n 0, 1) := by decide +kernel
theorem dX10_yard_83 : decode cX10_yard 83 = .ok (.getfield 23, 3) := by decide +kernel
theorem dX10_yard_86 : decode cX10_yard 86 = .ok (.getfield 164, 3) := by decide +kernel
theorem dX10_yard_89 : decode cX10_yard 89 = .ok (.iload_n 1, 1) := by decide +kernel
theorem dX10_yard_90 : decode cX10_yard 90 = .ok (.iload 4, 2) := by decide +kernel
theorem dX10_yard_92 : decode cX10_yard 92 = .ok (.iastore, 1) := by decide +kernel
theorem dX10_yard_93 : decode cX10_yard 93 = .ok (.aload_n 0, 1) := by decide +kernel
theorem dX10_yard_94 : decode cX10_yard 94 = .ok (.getfield 23, 3) := by decide +kernel
theorem dX10_yard_97 : decode cX10_yard 97 = .ok (.aload_n 0, 1) := by decide +kernel
theorem dX10_yard_98 : decode cX10_yard 98 = .ok (.getfield 71, 3) := by decide +kernel
theorem dX10_yard_101 : decode cX10_yard 101 = .ok (.iload_n 3, 1) := by decide +kernel
theorem dX10_yard_102 : decode cX10_yard 102 = .ok (.aload_n 0, 1) := by decide +kernel
theorem dX10_yard_103 : decode cX10_yard 103 = .ok (.getfield 19, 3) := by decide +kernel
theorem dX10_yard_106 : decode cX10_yard 106 = .ok (.invokevirtual 144, 3) := by decide +kernel
theorem dX10_yard_109 : decode cX10_yard 109 = .ok (.invokevirtual 196, 3) := by decide +kernel
theorem dX10_yard_112 : decode cX10_yard 112 = .ok (.aload_n 0, 1) := by decide +kernel
theorem dX10_yard_113 : decode cX10_yard 113 = .ok (.getfield 23, 3) := by decide +kernel
theorem dX10_yard_116 : decode cX10_yard 116 = .ok (.getfield 156, 3) := by decide +kernel
theorem dX10_yard_119 : decode cX10_yard 119 = .ok (.iload_n 2, 1) := by decide +kernel
theorem dX10_yard_120 : decode cX10_yard 120 = .ok (.iaload, 1) := by decide +kernel
theorem dX10_yard_121 : decode cX10_yard 121 = .ok (.iload 5, 2) := by decide +kernel
theorem dX10_yard_123 : decode cX10_yard 123 = .ok (.isub, 1) := by decide +kernel
theorem dX10_yard_124 : decode cX10_yard 124 = .ok (.sipush 10000, 3) := by decide +kernel
theorem dX10_yard_127 : decode cX10_yard 127 = .ok (.iadd, 1) := by decide +kernel
theorem dX10_yard_128 : decode cX10_yard 128 = .ok (.ireturn, 1) := by decide +kernel
set_option maxRecDepth 20000 in
theorem ggX10_out_X10_isCell : GoodIn wsX10_out wsX10_isCell := goodIn_r _ [9, 10, 11, 12, 13, 8, 14, 15, 16, 17, 18, 19, 20, 21, 22, 23, 24, 25, 34, 35, 36, 37, 38, 39, 40, 41, 42, 43, 44, 45, 46] (by decide +kernel) (by decide +kernel)
set_option maxRecDepth 20000 in
theorem gX10_out_X10_isCell : GoodIn wsX10_out (wsV RX10 152 RX10 yX10_isCell wsX10_isCell) := goodIn_app (goodIn_of _ (by decide +kernel)) ggX10_out_X10_isCell
set_option maxRecDepth 20000 in
theorem ggX10_out_X10_within : GoodIn wsX10_out wsX10_within := goodIn_r _ [14] (by decide +kernel) (by decide +kernel)
set_option maxRecDepth 20000 in
theorem gX10_out_X10_within : GoodIn wsX10_out (va_wsS RX10 82 yX10_within wsX10_within) := goodIn_app (goodIn_of _ (by decide +kernel)) ggX10_out_X10_within
theorem dX10_out_0 : decode cX10_out 0 = .ok (.aload_n 0, 1) := by decide +kernel
theorem dX10_out_1 : decode cX10_out 1 = .ok (.iload_n 1, 1) := by decide +kernel
theorem dX10_out_2 : decode cX10_out 2 = .ok (.invokevirtual 152, 3) := by decide +kernel
theorem dX10_out_5 : decode cX10_out 5 = .ok (.ifCond .ne 6, 3) := by decide +kernel
theorem dX10_out_8 : decode cX10_out 8 = .ok (.ldc 160, 2) := by decide +kernel
theorem dX10_out_10 : decode cX10_out 10 = .ok (.ireturn, 1) := by decide +kernel
theorem dX10_out_11 : decode cX10_out 11 = .ok (.iload_n 2, 1) := by decide +kernel
theorem dX10_out_12 : decode cX10_out 12 = .ok (.iconst 1, 1) := by decide +kernel
theorem dX10_out_13 : decode cX10_out 13 = .ok (.bipush 99, 2) := by decide +kernel
theorem dX10_out_15 : decode cX10_out 15 = .ok (.invokestatic 82, 3) := by decide +kernel
theorem dX10_out_18 : decode cX10_out 18 = .ok (.ifCond .ne 6, 3) := by decide +kernel
theorem dX10_out_21 : decode cX10_out 21 = .ok (.ldc 86, 2) := by decide +kernel
theorem dX10_out_23 : decode cX10_out 23 = .ok (.ireturn, 1) := by decide +kernel
theorem dX10_out_24 : decode cX10_out 24 = .ok (.aload_n 0, 1) := by decide +kernel
theorem dX10_out_25 : decode cX10_out 25 = .ok (.getfield 19, 3) := by decide +kernel
theorem dX10_out_28 : decode cX10_out 28 = .ok (.getfield 156, 3) := by decide +kernel
theorem dX10_out_31 : decode cX10_out 31 = .ok (.iload_n 1, 1) := by decide +kernel
theorem dX10_out_32 : decode cX10_out 32 = .ok (.iaload, 1) := by decide +kernel
theorem dX10_out_33 : decode cX10_out 33 = .ok (.iload_n 2, 1) := by decide +kernel
theorem dX10_out_34 : decode cX10_out 34 = .ok (.iadd, 1) := by decide +kernel
theorem dX10_out_35 : decode cX10_out 35 = .ok (.iconst 1, 1) := by decide +kernel
theorem dX10_out_36 : decode cX10_out 36 = .ok (.isub, 1) := by decide +kernel
theorem dX10_out_37 : decode cX10_out 37 = .ok (.iload_n 2, 1) := by decide +kernel
theorem dX10_out_38 : decode cX10_out 38 = .ok (.idiv, 1) := by decide +kernel
theorem dX10_out_39 : decode cX10_out 39 = .ok (.ireturn, 1) := by decide +kernel
set_option maxRecDepth 20000 in
theorem ggX10_still_X10_within : GoodIn wsX10_still wsX10_within := goodIn_r _ [7] (by decide +kernel) (by decide +kernel)
set_option maxRecDepth 20000 in
theorem gX10_still_X10_within : GoodIn wsX10_still (va_wsS RX10 82 yX10_within wsX10_within) := goodIn_app (goodIn_of _ (by decide +kernel)) ggX10_still_X10_within
theorem dX10_still_0 : decode cX10_still 0 = .ok (.iload_n 1, 1) := by decide +kernel
theorem dX10_still_1 : decode cX10_still 1 = .ok (.iconst 0, 1) := by decide +kernel
theorem dX10_still_2 : decode cX10_still 2 = .ok (.bipush 60, 2) := by decide +kernel
theorem dX10_still_4 : decode cX10_still 4 = .ok (.invokestatic 82, 3) := by decide +kernel
theorem dX10_still_7 : decode cX10_still 7 = .ok (.ifCond .eq 13, 3) := by decide +kernel
theorem dX10_still_10 : decode cX10_still 10 = .ok (.iload_n 2, 1) := by decide +kernel
theorem dX10_still_11 : decode cX10_still 11 = .ok (.iconst 0, 1) := by decide +kernel
theorem dX10_still_12 : decode cX10_still 12 = .ok (.bipush 100, 2) := by decide +kernel
theorem dX10_still_14 : decode cX10_still 14 = .ok (.invokestatic 82, 3) := by decide +kernel
theorem dX10_still_17 : decode cX10_still 17 = .ok (.ifCond .ne 6, 3) := by decide +kernel
theorem dX10_still_20 : decode cX10_still 20 = .ok (.ldc 86, 2) := by decide +kernel
theorem dX10_still_22 : decode cX10_still 22 = .ok (.ireturn, 1) := by decide +kernel
theorem dX10_still_23 : decode cX10_still 23 = .ok (.ldc2_w 254, 3) := by decide +kernel
theorem dX10_still_26 : decode cX10_still 26 = .ok (.lstore_n 3, 1) := by decide +kernel
theorem dX10_still_27 : decode cX10_still 27 = .ok (.iconst 0, 1) := by decide +kernel
theorem dX10_still_28 : decode cX10_still 28 = .ok (.istore 5, 2) := by decide +kernel
theorem dX10_still_30 : decode cX10_still 30 = .ok (.iload 5, 2) := by decide +kernel
theorem dX10_still_32 : decode cX10_still 32 = .ok (.iload_n 1, 1) := by decide +kernel
theorem dX10_still_33 : decode cX10_still 33 = .ok (.if_icmp .ge 21, 3) := by decide +kernel
theorem dX10_still_36 : decode cX10_still 36 = .ok (.lload_n 3, 1) := by decide +kernel
theorem dX10_still_37 : decode cX10_still 37 = .ok (.bipush 100, 2) := by decide +kernel
theorem dX10_still_39 : decode cX10_still 39 = .ok (.iload_n 2, 1) := by decide +kernel
theorem dX10_still_40 : decode cX10_still 40 = .ok (.isub, 1) := by decide +kernel
theorem dX10_still_41 : decode cX10_still 41 = .ok (.i2l, 1) := by decide +kernel
theorem dX10_still_42 : decode cX10_still 42 = .ok (.lmul, 1) := by decide +kernel
theorem dX10_still_43 : decode cX10_still 43 = .ok (.ldc2_w 256, 3) := by decide +kernel
theorem dX10_still_46 : decode cX10_still 46 = .ok (.ldiv, 1) := by decide +kernel
theorem dX10_still_47 : decode cX10_still 47 = .ok (.lstore_n 3, 1) := by decide +kernel
theorem dX10_still_48 : decode cX10_still 48 = .ok (.iinc 5 1, 3) := by decide +kernel
theorem dX10_still_51 : decode cX10_still 51 = .ok (.goto (-21), 3) := by decide +kernel
theorem dX10_still_54 : decode cX10_still 54 = .ok (.lload_n 3, 1) := by decide +kernel
theorem dX10_still_55 : decode cX10_still 55 = .ok (.l2i, 1) := by decide +kernel
theorem dX10_still_56 : decode cX10_still 56 = .ok (.ireturn, 1) := by decide +kernel
set_option maxRecDepth 20000 in
theorem ggX10_see_X10_isCrow : GoodIn wsX10_see wsX10_isCrow := goodIn_r _ [9, 10, 11, 12, 13, 8, 14, 28, 29, 30, 31, 32, 33, 34, 35, 36, 37, 38, 47, 48, 49, 50, 51, 52, 53, 54, 55, 56, 57, 58, 59] (by decide +kernel) (by decide +kernel)
set_option maxRecDepth 20000 in
theorem gX10_see_X10_isCrow : GoodIn wsX10_see (wsV RX10 173 RX10 yX10_isCrow wsX10_isCrow) := goodIn_app (goodIn_of _ (by decide +kernel)) ggX10_see_X10_isCrow
set_option maxRecDepth 20000 in
theorem ggX10_see_X10_isPost : GoodIn wsX10_see wsX10_isPost := goodIn_r _ [18, 10, 19, 12, 13, 8, 14, 28, 29, 30, 31, 32, 33, 34, 35, 36, 37, 38, 47, 48, 49, 50, 51, 52, 53, 54, 55, 56, 57, 58, 59] (by decide +kernel) (by decide +kernel)
set_option maxRecDepth 20000 in
theorem gX10_see_X10_isPost : GoodIn wsX10_see (wsV RX10 161 RX10 yX10_isPost wsX10_isPost) := goodIn_app (goodIn_of _ (by decide +kernel)) ggX10_see_X10_isPost
set_option maxRecDepth 20000 in
theorem ggX10_see_X6_note : GoodIn wsX10_see wsX6_note := goodIn_r _ [24, 25, 26, 27, 39, 40, 41, 42, 43, 44, 45, 46] (by decide +kernel) (by decide +kernel)
set_option maxRecDepth 20000 in
theorem gX10_see_X6_note : GoodIn wsX10_see (wsV RX10 258 RX6 yX6_note wsX6_note) := goodIn_app (goodIn_of _ (by decide +kernel)) ggX10_see_X6_note
theorem dX10_see_0 : decode cX10_see 0 = .ok (.aload_n 0, 1) := by decide +kernel
theorem dX10_see_1 : decode cX10_see 1 = .ok (.iload_n 1, 1) := by decide +kernel
theorem dX10_see_2 : decode cX10_see 2 = .ok (.invokevirtual 173, 3) := by decide +kernel
theorem dX10_see_5 : decode cX10_see 5 = .ok (.ifCond .eq 11, 3) := by decide +kernel
theorem dX10_see_8 : decode cX10_see 8 = .ok (.aload_n 0, 1) := by decide +kernel
theorem dX10_see_9 : decode cX10_see 9 = .ok (.iload_n 2, 1) := by decide +kernel
theorem dX10_see_10 : decode cX10_see 10 = .ok (.invokevirtual 161, 3) := by decide +kernel
theorem dX10_see_13 : decode cX10_see 13 = .ok (.ifCond .ne 6, 3) := by decide +kernel
theorem dX10_see_16 : decode cX10_see 16 = .ok (.ldc 160, 2) := by decide +kernel
theorem dX10_see_18 : decode cX10_see 18 = .ok (.ireturn, 1) := by decide +kernel
theorem dX10_see_19 : decode cX10_see 19 = .ok (.aload_n 0, 1) := by decide +kernel
theorem dX10_see_20 : decode cX10_see 20 = .ok (.getfield 57, 3) := by decide +kernel
theorem dX10_see_23 : decode cX10_see 23 = .ok (.getfield 109, 3) := by decide +kernel
theorem dX10_see_26 : decode cX10_see 26 = .ok (.bipush 6, 2) := by decide +kernel
theorem dX10_see_28 : decode cX10_see 28 = .ok (.if_icmp .lt 6, 3) := by decide +kernel
theorem dX10_see_31 : decode cX10_see 31 = .ok (.ldc 91, 2) := by decide +kernel
theorem dX10_see_33 : decode cX10_see 33 = .ok (.ireturn, 1) := by decide +kernel
theorem dX10_see_34 : decode cX10_see 34 = .ok (.aload_n 0, 1) := by decide +kernel
theorem dX10_see_35 : decode cX10_see 35 = .ok (.getfield 57, 3) := by decide +kernel
theorem dX10_see_38 : decode cX10_see 38 = .ok (.iload_n 1, 1) := by decide +kernel
theorem dX10_see_39 : decode cX10_see 39 = .ok (.iload_n 2, 1) := by decide +kernel
theorem dX10_see_40 : decode cX10_see 40 = .ok (.invokevirtual 258, 3) := by decide +kernel
theorem dX10_see_43 : decode cX10_see 43 = .ok (.aload_n 0, 1) := by decide +kernel
theorem dX10_see_44 : decode cX10_see 44 = .ok (.getfield 57, 3) := by decide +kernel
theorem dX10_see_47 : decode cX10_see 47 = .ok (.getfield 109, 3) := by decide +kernel
theorem dX10_see_50 : decode cX10_see 50 = .ok (.ireturn, 1) := by decide +kernel
set_option maxRecDepth 20000 in
theorem ggX10_sublets_X6_subletters : GoodIn wsX10_sublets wsX6_subletters := goodIn_r _ [8, 9, 10, 11, 12, 13, 7, 14, 15, 16, 17, 18, 34, 35, 36, 37, 38, 39, 40, 41, 42, 43, 44, 45, 46, 47, 48, 49] (by decide +kernel) (by decide +kernel)
set_option maxRecDepth 20000 in
theorem gX10_sublets_X6_subletters : GoodIn wsX10_sublets (wsV RX10 261 RX6 yX6_subletters wsX6_subletters) := goodIn_app (goodIn_of _ (by decide +kernel)) ggX10_sublets_X6_subletters
set_option maxRecDepth 20000 in
theorem ggX10_sublets_X6_guests : GoodIn wsX10_sublets wsX6_guests := goodIn_r _ [22, 16, 9, 17, 18, 42, 43, 44, 45, 46, 47, 48, 49, 34, 35, 36, 37, 38, 39, 40, 41] (by decide +kernel) (by decide +kernel)
set_option maxRecDepth 20000 in
theorem gX10_sublets_X6_guests : GoodIn wsX10_sublets (wsV RX10 265 RX6 yX6_guests wsX6_guests) := goodIn_app (goodIn_of _ (by decide +kernel)) ggX10_sublets_X6_guests
theorem dX10_sublets_0 : decode cX10_sublets 0 = .ok (.iload_n 1, 1) := by decide +kernel
theorem dX10_sublets_1 : decode cX10_sublets 1 = .ok (.lookupswitch 51 #[(0, 27), (1, 39)], 27) := by decide +kernel
theorem dX10_sublets_28 : decode cX10_sublets 28 = .ok (.aload_n 0, 1) := by decide +kernel
theorem dX10_sublets_29 : decode cX10_sublets 29 = .ok (.getfield 57, 3) := by decide +kernel
theorem dX10_sublets_32 : decode cX10_sublets 32 = .ok (.aload_n 0, 1) := by decide +kernel
theorem dX10_sublets_33 : decode cX10_sublets 33 = .ok (.getfield 19, 3) := by decide +kernel
theorem dX10_sublets_36 : decode cX10_sublets 36 = .ok (.invokevirtual 261, 3) := by decide +kernel
theorem dX10_sublets_39 : decode cX10_sublets 39 = .ok (.ireturn, 1) := by decide +kernel
theorem dX10_sublets_40 : decode cX10_sublets 40 = .ok (.aload_n 0, 1) := by decide +kernel
theorem dX10_sublets_41 : decode cX10_sublets 41 = .ok (.getfield 57, 3) := by decide +kernel
theorem dX10_sublets_44 : decode cX10_sublets 44 = .ok (.aload_n 0, 1) := by decide +kernel
theorem dX10_sublets_45 : decode cX10_sublets 45 = .ok (.getfield 19, 3) := by decide +kernel
theorem dX10_sublets_48 : decode cX10_sublets 48 = .ok (.invokevirtual 265, 3) := by decide +kernel
theorem dX10_sublets_51 : decode cX10_sublets 51 = .ok (.ireturn, 1) := by decide +kernel
theorem dX10_sublets_52 : decode cX10_sublets 52 = .ok (.ldc 86, 2) := by decide +kernel
theorem dX10_sublets_54 : decode cX10_sublets 54 = .ok (.ireturn, 1) := by decide +kernel
set_option maxRecDepth 20000 in
theorem ggX10_fit_X10_within : GoodIn wsX10_fit wsX10_within := goodIn_r _ [9] (by decide +kernel) (by decide +kernel)
set_option maxRecDepth 20000 in
theorem gX10_fit_X10_within : GoodIn wsX10_fit (va_wsS RX10 82 yX10_within wsX10_within) := goodIn_app (goodIn_of _ (by decide +kernel)) ggX10_fit_X10_within
set_option maxRecDepth 20000 in
theorem ggX10_fit_X6_findWays : GoodIn wsX10_fit wsX6_findWays := goodIn_r _ [14, 15, 16, 17, 18, 19, 20, 21, 22, 13, 23, 24, 25, 26, 27, 28, 29, 30, 31, 32, 33, 34, 35, 36, 37, 38, 39, 40, 41, 42, 43, 44, 45, 46, 47, 48, 49, 50, 51, 52, 53, 54, 55, 56, 57, 58, 59, 60, 61, 62, 63, 64, 65, 66, 89, 90, 91, 92, 93, 94, 95, 96, 110, 111, 112, 113, 114, 115, 97, 98, 99, 100, 101, 102, 103, 104, 105, 106, 107, 108, 109] (by decide +kernel) (by decide +kernel)
set_option maxRecDepth 20000 in
theorem gX10_fit_X6_findWays : GoodIn wsX10_fit (wsV RX10 268 RX6 yX6_findWays wsX6_findWays) := goodIn_app (goodIn_of _ (by decide +kernel)) ggX10_fit_X6_findWays
set_option maxRecDepth 20000 in
theorem ggX10_fit_X6_postToLookAt : GoodIn wsX10_fit wsX6_postToLookAt := goodIn_r _ [70, 16, 71, 72, 73, 74, 75, 76, 77, 89, 90, 91, 92, 93, 94, 95, 96] (by decide +kernel) (by decide +kernel)
set_option maxRecDepth 20000 in
theorem gX10_fit_X6_postToLookAt : GoodIn wsX10_fit (wsV RX10 274 RX6 yX6_postToLookAt wsX6_postToLookAt) := goodIn_app (goodIn_of _ (by decide +kernel)) ggX10_fit_X6_postToLookAt
theorem dX10_fit_0 : decode cX10_fit 0 = .ok (.iload_n 1, 1) := by decide +kernel
theorem dX10_fit_1 : decode cX10_fit 1 = .ok (.iconst 0, 1) := by decide +kernel
theorem dX10_fit_2 : decode cX10_fit 2 = .ok (.iconst 1, 1) := by decide +kernel
theorem dX10_fit_3 : decode cX10_fit 3 = .ok (.invokestatic 82, 3) := by decide +kernel
theorem dX10_fit_6 : decode cX10_fit 6 = .ok (.ifCond .ne 6, 3) := by decide +kernel
theorem dX10_fit_9 : decode cX10_fit 9 = .ok (.ldc 86, 2) := by decide +kernel
theorem dX10_fit_11 : decode cX10_fit 11 = .ok (.ireturn, 1) := by decide +kernel
theorem dX10_fit_12 : decode cX10_fit 12 = .ok (.aload_n 0, 1) := by decide +kernel
theorem dX10_fit_13 : decode cX10_fit 13 = .ok (.getfield 57, 3) := by decide +kernel
theorem dX10_fit_16 : decode cX10_fit 16 = .ok (.aload_n 0, 1) := by decide +kernel
theorem dX10_fit_17 : decode cX10_fit 17 = .ok (.getfield 71, 3) := by decide +kernel
theorem dX10_fit_20 : decode cX10_fit 20 = .ok (.invokevirtual 268, 3) := by decide +kernel
theorem dX10_fit_23 : decode cX10_fit 23 = .ok (.iload_n 1, 1) := by decide +kernel
theorem dX10_fit_24 : decode cX10_fit 24 = .ok (.ifCond .ne 13, 3) := by decide +kernel
theorem dX10_fit_27 : decode cX10_fit 27 = .ok (.aload_n 0, 1) := by decide +kernel
theorem dX10_fit_28 : decode cX10_fit 28 = .ok (.getfield 57, 3) := by decide +kernel
theorem dX10_fit_31 : decode cX10_fit 31 = .ok (.getfield 271, 3) := by decide +kernel
theorem dX10_fit_34 : decode cX10_fit 34 = .ok (.goto 17, 3) := by decide +kernel
theorem dX10_fit_37 : decode cX10_fit 37 = .ok (.aload_n 0, 1) := by decide +kernel
theorem dX10_fit_38 : decode cX10_fit 38 = .ok (.getfield 57, 3) := by decide +kernel
theorem dX10_fit_41 : decode cX10_fit 41 = .ok (.aload_n 0, 1) := by decide +kernel
theorem dX10_fit_42 : decode cX10_fit 42 = .ok (.getfield 71, 3) := by decide +kernel
theorem dX10_fit_45 : decode cX10_fit 45 = .ok (.getfield 119, 3) := by decide +kernel
theorem dX10_fit_48 : decode cX10_fit 48 = .ok (.invokevirtual 274, 3) := by decide +kernel
theorem dX10_fit_51 : decode cX10_fit 51 = .ok (.ireturn, 1) := by decide +kernel
set_option maxRecDepth 20000 in
theorem ggX10_write_X10_isCell : GoodIn wsX10_write wsX10_isCell := goodIn_r _ [10, 11, 12, 13, 14, 9, 15, 24, 25, 26, 27, 28, 29, 30, 31, 32, 33, 34, 38, 39, 40, 41, 42, 43, 44, 45, 46, 47, 48, 49, 50] (by decide +kernel) (by decide +kernel)
set_option maxRecDepth 20000 in
theorem gX10_write_X10_isCell : GoodIn wsX10_write (wsV RX10 152 RX10 yX10_isCell wsX10_isCell) := goodIn_app (goodIn_of _ (by decide +kernel)) ggX10_write_X10_isCell
set_option maxRecDepth 20000 in
theorem ggX10_write_X10_within : GoodIn wsX10_write wsX10_within := goodIn_r _ [15] (by decide +kernel) (by decide +kernel)
set_option maxRecDepth 20000 in
theorem gX10_write_X10_within : GoodIn wsX10_write (va_wsS RX10 82 yX10_within wsX10_within) := goodIn_app (goodIn_of _ (by decide +kernel)) ggX10_write_X10_within
set_option maxRecDepth 20000 in
theorem ggX10_write_X0_enter : GoodIn wsX10_write wsX0_enter := goodIn_r _ [20, 21, 22, 23, 35, 36, 37] (by decide +kernel) (by decide +kernel)
set_option maxRecDepth 20000 in
theorem gX10_write_X0_enter : GoodIn wsX10_write (wsV RX10 277 RX0 yX0_enter wsX0_enter) := goodIn_app (goodIn_of _ (by decide +kernel)) ggX10_write_X0_enter
theorem dX10_write_0 : decode cX10_write 0 = .ok (.aload_n 0, 1) := by decide +kernel
theorem dX10_write_1 : decode cX10_write 1 = .ok (.iload_n 1, 1) := by decide +kernel
theorem dX10_write_2 : decode cX10_write 2 = .ok (.invokevirtual 152, 3) := by decide +kernel
theorem dX10_write_5 : decode cX10_write 5 = .ok (.ifCond .ne 6, 3) := by decide +kernel
theorem dX10_write_8 : decode cX10_write 8 = .ok (.ldc 160, 2) := by decide +kernel
theorem dX10_write_10 : decode cX10_write 10 = .ok (.ireturn, 1) := by decide +kernel
theorem dX10_write_11 : decode cX10_write 11 = .ok (.iload_n 2, 1) := by decide +kernel
theorem dX10_write_12 : decode cX10_write 12 = .ok (.iconst 0, 1) := by decide +kernel
theorem dX10_write_13 : decode cX10_write 13 = .ok (.sipush 9999, 3) := by decide +kernel
theorem dX10_write_16 : decode cX10_write 16 = .ok (.invokestatic 82, 3) := by decide +kernel
theorem dX10_write_19 : decode cX10_write 19 = .ok (.ifCond .ne 6, 3) := by decide +kernel
theorem dX10_write_22 : decode cX10_write 22 = .ok (.ldc 86, 2) := by decide +kernel
theorem dX10_write_24 : decode cX10_write 24 = .ok (.ireturn, 1) := by decide +kernel
theorem dX10_write_25 : decode cX10_write 25 = .ok (.aload_n 0, 1) := by decide +kernel
theorem dX10_write_26 : decode cX10_write 26 = .ok (.getfield 64, 3) := by decide +kernel
theorem dX10_write_29 : decode cX10_write 29 = .ok (.getfield 112, 3) := by decide +kernel
theorem dX10_write_32 : decode cX10_write 32 = .ok (.bipush 15, 2) := by decide +kernel
theorem dX10_write_34 : decode cX10_write 34 = .ok (.if_icmp .lt 6, 3) := by decide +kernel
theorem dX10_write_37 : decode cX10_write 37 = .ok (.ldc 91, 2) := by decide +kernel
theorem dX10_write_39 : decode cX10_write 39 = .ok (.ireturn, 1) := by decide +kernel
theorem dX10_write_40 : decode cX10_write 40 = .ok (.aload_n 0, 1) := by decide +kernel
theorem dX10_write_41 : decode cX10_write 41 = .ok (.getfield 64, 3) := by decide +kernel
theorem dX10_write_44 : decode cX10_write 44 = .ok (.iload_n 1, 1) := by decide +kernel
theorem dX10_write_45 : decode cX10_write 45 = .ok (.iload_n 2, 1) := by decide +kernel
theorem dX10_write_46 : decode cX10_write 46 = .ok (.invokevirtual 277, 3) := by decide +kernel
theorem dX10_write_49 : decode cX10_write 49 = .ok (.aload_n 0, 1) := by decide +kernel
theorem dX10_write_50 : decode cX10_write 50 = .ok (.getfield 64, 3) := by decide +kernel
theorem dX10_write_53 : decode cX10_write 53 = .ok (.getfield 112, 3) := by decide +kernel
theorem dX10_write_56 : decode cX10_write 56 = .ok (.ireturn, 1) := by decide +kernel
theorem dX10_tear_0 : decode cX10_tear 0 = .ok (.aload_n 0, 1) := by decide +kernel
theorem dX10_tear_1 : decode cX10_tear 1 = .ok (.getfield 57, 3) := by decide +kernel
theorem dX10_tear_4 : decode cX10_tear 4 = .ok (.getfield 109, 3) := by decide +kernel
theorem dX10_tear_7 : decode cX10_tear 7 = .ok (.aload_n 0, 1) := by decide +kernel
theorem dX10_tear_8 : decode cX10_tear 8 = .ok (.getfield 64, 3) := by decide +kernel
theorem dX10_tear_11 : decode cX10_tear 11 = .ok (.getfield 112, 3) := by decide +kernel
theorem dX10_tear_14 : decode cX10_tear 14 = .ok (.iadd, 1) := by decide +kernel
theorem dX10_tear_15 : decode cX10_tear 15 = .ok (.istore_n 1, 1) := by decide +kernel
theorem dX10_tear_16 : decode cX10_tear 16 = .ok (.aload_n 0, 1) := by decide +kernel
theorem dX10_tear_17 : decode cX10_tear 17 = .ok (.getfield 57, 3) := by decide +kernel
theorem dX10_tear_20 : decode cX10_tear 20 = .ok (.iconst 0, 1) := by decide +kernel
theorem dX10_tear_21 : decode cX10_tear 21 = .ok (.putfield 109, 3) := by decide +kernel
theorem dX10_tear_24 : decode cX10_tear 24 = .ok (.aload_n 0, 1) := by decide +kernel
theorem dX10_tear_25 : decode cX10_tear 25 = .ok (.getfield 64, 3) := by decide +kernel
theorem dX10_tear_28 : decode cX10_tear 28 = .ok (.iconst 0, 1) := by decide +kernel
theorem dX10_tear_29 : decode cX10_tear 29 = .ok (.putfield 112, 3) := by decide +kernel
theorem dX10_tear_32 : decode cX10_tear 32 = .ok (.iload_n 1, 1) := by decide +kernel
theorem dX10_tear_33 : decode cX10_tear 33 = .ok (.ireturn, 1) := by decide +kernel
set_option maxRecDepth 20000 in
theorem ggX10_judge_X0_firstWrong : GoodIn wsX10_judge wsX0_firstWrong := goodIn_r _ [7, 8, 9, 10, 11, 23, 24, 25, 26, 27, 28, 29, 30, 31, 32, 33] (by decide +kernel) (by decide +kernel)
set_option maxRecDepth 20000 in
theorem gX10_judge_X0_firstWrong : GoodIn wsX10_judge (wsV RX10 280 RX0 yX0_firstWrong wsX0_firstWrong) := goodIn_app (goodIn_of _ (by decide +kernel)) ggX10_judge_X0_firstWrong
theorem dX10_judge_0 : decode cX10_judge 0 = .ok (.aload_n 0, 1) := by decide +kernel
theorem dX10_judge_1 : decode cX10_judge 1 = .ok (.getfield 64, 3) := by decide +kernel
theorem dX10_judge_4 : decode cX10_judge 4 = .ok (.aload_n 0, 1) := by decide +kernel
theorem dX10_judge_5 : decode cX10_judge 5 = .ok (.getfield 19, 3) := by decide +kernel
theorem dX10_judge_8 : decode cX10_judge 8 = .ok (.invokevirtual 280, 3) := by decide +kernel
theorem dX10_judge_11 : decode cX10_judge 11 = .ok (.ireturn, 1) := by decide +kernel
theorem dX10_seed_0 : decode cX10_seed 0 = .ok (.iload_n 1, 1) := by decide +kernel
theorem dX10_seed_1 : decode cX10_seed 1 = .ok (.ifCond .ge 6, 3) := by decide +kernel
theorem dX10_seed_4 : decode cX10_seed 4 = .ok (.ldc 86, 2) := by decide +kernel
theorem dX10_seed_6 : decode cX10_seed 6 = .ok (.ireturn, 1) := by decide +kernel
theorem dX10_seed_7 : decode cX10_seed 7 = .ok (.aload_n 0, 1) := by decide +kernel
theorem dX10_seed_8 : decode cX10_seed 8 = .ok (.getfield 36, 3) := by decide +kernel
theorem dX10_seed_11 : decode cX10_seed 11 = .ok (.getfield 283, 3) := by decide +kernel
theorem dX10_seed_14 : decode cX10_seed 14 = .ok (.istore_n 2, 1) := by decide +kernel
theorem dX10_seed_15 : decode cX10_seed 15 = .ok (.aload_n 0, 1) := by decide +kernel
theorem dX10_seed_16 : decode cX10_seed 16 = .ok (.getfield 36, 3) := by decide +kernel
theorem dX10_seed_19 : decode cX10_seed 19 = .ok (.iload_n 1, 1) := by decide +kernel
theorem dX10_seed_20 : decode cX10_seed 20 = .ok (.putfield 283, 3) := by decide +kernel
theorem dX10_seed_23 : decode cX10_seed 23 = .ok (.iload_n 2, 1) := by decide +kernel
theorem dX10_seed_24 : decode cX10_seed 24 = .ok (.ireturn, 1) := by decide +kernel
set_option maxRecDepth 20000 in
theorem ggX10_keep_X10_within : GoodIn wsX10_keep wsX10_within := goodIn_r _ [9] (by decide +kernel) (by decide +kernel)
set_option maxRecDepth 20000 in
theorem gX10_keep_X10_within : GoodIn wsX10_keep (va_wsS RX10 82 yX10_within wsX10_within) := goodIn_app (goodIn_of _ (by decide +kernel)) ggX10_keep_X10_within
set_option maxRecDepth 20000 in
theorem ggX10_keep_X2_take : GoodIn wsX10_keep wsX2_take := goodIn_r _ [14, 15, 16, 17, 18, 19, 20, 21, 22, 23, 24, 25, 26, 27, 28, 29, 30, 31, 32, 33, 34, 35, 53, 54, 55, 56, 57, 58, 59, 60, 61, 62, 63, 64] (by decide +kernel) (by decide +kernel)
set_option maxRecDepth 20000 in
theorem gX10_keep_X2_take : GoodIn wsX10_keep (wsV RX10 286 RX2 yX2_take wsX2_take) := goodIn_app (goodIn_of _ (by decide +kernel)) ggX10_keep_X2_take
set_option maxRecDepth 20000 in
theorem ggX10_keep_X4_forget : GoodIn wsX10_keep wsX4_forget := goodIn_r _ [40, 41, 65, 66, 67] (by decide +kernel) (by decide +kernel)
set_option maxRecDepth 20000 in
theorem gX10_keep_X4_forget : GoodIn wsX10_keep (wsV RX10 102 RX4 yX4_forget wsX4_forget) := goodIn_app (goodIn_of _ (by decide +kernel)) ggX10_keep_X4_forget
theorem dX10_keep_0 : decode cX10_keep 0 = .ok (.iload_n 1, 1) := by decide +kernel
theorem dX10_keep_1 : decode cX10_keep 1 = .ok (.iconst 0, 1) := by decide +kernel
theorem dX10_keep_2 : decode cX10_keep 2 = .ok (.iconst 1, 1) := by decide +kernel
theorem dX10_keep_3 : decode cX10_keep 3 = .ok (.invokestatic 82, 3) := by decide +kernel
theorem dX10_keep_6 : decode cX10_keep 6 = .ok (.ifCond .ne 6, 3) := by decide +kernel
theorem dX10_keep_9 : decode cX10_keep 9 = .ok (.ldc 160, 2) := by decide +kernel
theorem dX10_keep_11 : decode cX10_keep 11 = .ok (.ireturn, 1) := by decide +kernel
theorem dX10_keep_12 : decode cX10_keep 12 = .ok (.aload_n 0, 1) := by decide +kernel
theorem dX10_keep_13 : decode cX10_keep 13 = .ok (.getfield 42, 3) := by decide +kernel
theorem dX10_keep_16 : decode cX10_keep 16 = .ok (.iload_n 1, 1) := by decide +kernel
theorem dX10_keep_17 : decode cX10_keep 17 = .ok (.aaload, 1) := by decide +kernel
theorem dX10_keep_18 : decode cX10_keep 18 = .ok (.aload_n 0, 1) := by decide +kernel
theorem dX10_keep_19 : decode cX10_keep 19 = .ok (.getfield 19, 3) := by decide +kernel
theorem dX10_keep_22 : decode cX10_keep 22 = .ok (.aload_n 0, 1) := by decide +kernel
theorem dX10_keep_23 : decode cX10_keep 23 = .ok (.getfield 36, 3) := by decide +kernel
theorem dX10_keep_26 : decode cX10_keep 26 = .ok (.invokevirtual 286, 3) := by decide +kernel
theorem dX10_keep_29 : decode cX10_keep 29 = .ok (.aload_n 0, 1) := by decide +kernel
theorem dX10_keep_30 : decode cX10_keep 30 = .ok (.getfield 29, 3) := by decide +kernel
theorem dX10_keep_33 : decode cX10_keep 33 = .ok (.invokevirtual 102, 3) := by decide +kernel
theorem dX10_keep_36 : decode cX10_keep 36 = .ok (.iconst 1, 1) := by decide +kernel
theorem dX10_keep_37 : decode cX10_keep 37 = .ok (.ireturn, 1) := by decide +kernel
set_option maxRecDepth 20000 in
theorem ggX10_goBack_X10_within : GoodIn wsX10_goBack wsX10_within := goodIn_r _ [11] (by decide +kernel) (by decide +kernel)
set_option maxRecDepth 20000 in
theorem gX10_goBack_X10_within : GoodIn wsX10_goBack (va_wsS RX10 82 yX10_within wsX10_within) := goodIn_app (goodIn_of _ (by decide +kernel)) ggX10_goBack_X10_within
set_option maxRecDepth 20000 in
theorem ggX10_goBack_X2_give : GoodIn wsX10_goBack wsX2_give := goodIn_r _ [16, 17, 18, 19, 20, 21, 22, 23, 24, 25, 26, 27, 28, 29, 30, 31, 32, 33, 34, 35, 36, 54, 55, 56, 57, 58, 59, 60, 61, 62, 63, 64, 65] (by decide +kernel) (by decide +kernel)
set_option maxRecDepth 20000 in
theorem gX10_goBack_X2_give : GoodIn wsX10_goBack (wsV RX10 290 RX2 yX2_give wsX2_give) := goodIn_app (goodIn_of _ (by decide +kernel)) ggX10_goBack_X2_give
set_option maxRecDepth 20000 in
theorem ggX10_goBack_X4_forget : GoodIn wsX10_goBack wsX4_forget := goodIn_r _ [41, 42, 66, 67, 68] (by decide +kernel) (by decide +kernel)
set_option maxRecDepth 20000 in
theorem gX10_goBack_X4_forget : GoodIn wsX10_goBack (wsV RX10 102 RX4 yX4_forget wsX4_forget) := goodIn_app (goodIn_of _ (by decide +kernel)) ggX10_goBack_X4_forget
theorem dX10_goBack_0 : decode cX10_goBack 0 = .ok (.iload_n 1, 1) := by decide +kernel
theorem dX10_goBack_1 : decode cX10_goBack 1 = .ok (.iconst 0, 1) := by decide +kernel
theorem dX10_goBack_2 : decode cX10_goBack 2 = .ok (.iconst 1, 1) := by decide +kernel
theorem dX10_goBack_3 : decode cX10_goBack 3 = .ok (.invokestatic 82, 3) := by decide +kernel
theorem dX10_goBack_6 : decode cX10_goBack 6 = .ok (.ifCond .ne 6, 3) := by decide +kernel
theorem dX10_goBack_9 : decode cX10_goBack 9 = .ok (.ldc 160, 2) := by decide +kernel
theorem dX10_goBack_11 : decode cX10_goBack 11 = .ok (.ireturn, 1) := by decide +kernel
theorem dX10_goBack_12 : decode cX10_goBack 12 = .ok (.aload_n 0, 1) := by decide +kernel
theorem dX10_goBack_13 : decode cX10_goBack 13 = .ok (.getfield 42, 3) := by decide +kernel
theorem dX10_goBack_16 : decode cX10_goBack 16 = .ok (.iload_n 1, 1) := by decide +kernel
theorem dX10_goBack_17 : decode cX10_goBack 17 = .ok (.aaload, 1) := by decide +kernel
theorem dX10_goBack_18 : decode cX10_goBack 18 = .ok (.getfield 105, 3) := by decide +kernel
theorem dX10_goBack_21 : decode cX10_goBack 21 = .ok (.ifCond .ne 6, 3) := by decide +kernel
theorem dX10_goBack_24 : decode cX10_goBack 24 = .ok (.ldc 200, 2) := by decide +kernel
theorem dX10_goBack_26 : decode cX10_goBack 26 = .ok (.ireturn, 1) := by decide +kernel
theorem dX10_goBack_27 : decode cX10_goBack 27 = .ok (.aload_n 0, 1) := by decide +kernel
theorem dX10_goBack_28 : decode cX10_goBack 28 = .ok (.getfield 42, 3) := by decide +kernel
theorem dX10_goBack_31 : decode cX10_goBack 31 = .ok (.iload_n 1, 1) := by decide +kernel
theorem dX10_goBack_32 : decode cX10_goBack 32 = .ok (.aaload, 1) := by decide +kernel
theorem dX10_goBack_33 : decode cX10_goBack 33 = .ok (.aload_n 0, 1) := by decide +kernel
theorem dX10_goBack_34 : decode cX10_goBack 34 = .ok (.getfield 19, 3) := by decide +kernel
theorem dX10_goBack_37 : decode cX10_goBack 37 = .ok (.aload_n 0, 1) := by decide +kernel
theorem dX10_goBack_38 : decode cX10_goBack 38 = .ok (.getfield 36, 3) := by decide +kernel
theorem dX10_goBack_41 : decode cX10_goBack 41 = .ok (.invokevirtual 290, 3) := by decide +kernel
theorem dX10_goBack_44 : decode cX10_goBack 44 = .ok (.aload_n 0, 1) := by decide +kernel
theorem dX10_goBack_45 : decode cX10_goBack 45 = .ok (.getfield 29, 3) := by decide +kernel
theorem dX10_goBack_48 : decode cX10_goBack 48 = .ok (.invokevirtual 102, 3) := by decide +kernel
theorem dX10_goBack_51 : decode cX10_goBack 51 = .ok (.iconst 1, 1) := by decide +kernel
theorem dX10_goBack_52 : decode cX10_goBack 52 = .ok (.ireturn, 1) := by decide +kernel
theorem dX10_within_0 : decode cX10_within 0 = .ok (.iload_n 0, 1) := by decide +kernel
theorem dX10_within_1 : decode cX10_within 1 = .ok (.iload_n 1, 1) := by decide +kernel
theorem dX10_within_2 : decode cX10_within 2 = .ok (.if_icmp .lt 12, 3) := by decide +kernel
theorem dX10_within_5 : decode cX10_within 5 = .ok (.iload_n 0, 1) := by decide +kernel
theorem dX10_within_6 : decode cX10_within 6 = .ok (.iload_n 2, 1) := by decide +kernel
theorem dX10_within_7 : decode cX10_within 7 = .ok (.if_icmp .gt 7, 3) := by decide +kernel
theorem dX10_within_10 : decode cX10_within 10 = .ok (.iconst 1, 1) := by decide +kernel
theorem dX10_within_11 : decode cX10_within 11 = .ok (.goto 4, 3) := by decide +kernel
theorem dX10_within_14 : decode cX10_within 14 = .ok (.iconst 0, 1) := by decide +kernel
theorem dX10_within_15 : decode cX10_within 15 = .ok (.ireturn, 1) := by decide +kernel
set_option maxRecDepth 20000 in
theorem ggX10_isCell_X10_within : GoodIn wsX10_isCell wsX10_within := goodIn_r _ [6] (by decide +kernel) (by decide +kernel)
set_option maxRecDepth 20000 in
theorem gX10_isCell_X10_within : GoodIn wsX10_isCell (va_wsS RX10 82 yX10_within wsX10_within) := goodIn_app (goodIn_of _ (by decide +kernel)) ggX10_isCell_X10_within
theorem dX10_isCell_0 : decode cX10_isCell 0 = .ok (.iload_n 1, 1) := by decide +kernel
theorem dX10_isCell_1 : decode cX10_isCell 1 = .ok (.iconst 0, 1) := by decide +kernel
theorem dX10_isCell_2 : decode cX10_isCell 2 = .ok (.aload_n 0, 1) := by decide +kernel
theorem dX10_isCell_3 : decode cX10_isCell 3 = .ok (.getfield 71, 3) := by decide +kernel
theorem dX10_isCell_6 : decode cX10_isCell 6 = .ok (.getfield 113, 3) := by decide +kernel
theorem dX10_isCell_9 : decode cX10_isCell 9 = .ok (.iconst 1, 1) := by decide +kernel
theorem dX10_isCell_10 : decode cX10_isCell 10 = .ok (.isub, 1) := by decide +kernel
theorem dX10_isCell_11 : decode cX10_isCell 11 = .ok (.invokestatic 82, 3) := by decide +kernel
theorem dX10_isCell_14 : decode cX10_isCell 14 = .ok (.ireturn, 1) := by decide +kernel
set_option maxRecDepth 20000 in
theorem ggX10_isPost_X10_within : GoodIn wsX10_isPost wsX10_within := goodIn_r _ [6] (by decide +kernel) (by decide +kernel)
set_option maxRecDepth 20000 in
theorem gX10_isPost_X10_within : GoodIn wsX10_isPost (va_wsS RX10 82 yX10_within wsX10_within) := goodIn_app (goodIn_of _ (by decide +kernel)) ggX10_isPost_X10_within
theorem dX10_isPost_0 : decode cX10_isPost 0 = .ok (.iload_n 1, 1) := by decide +kernel
theorem dX10_isPost_1 : decode cX10_isPost 1 = .ok (.iconst 0, 1) := by decide +kernel
theorem dX10_isPost_2 : decode cX10_isPost 2 = .ok (.aload_n 0, 1) := by decide +kernel
theorem dX10_isPost_3 : decode cX10_isPost 3 = .ok (.getfield 71, 3) := by decide +kernel
theorem dX10_isPost_6 : decode cX10_isPost 6 = .ok (.getfield 119, 3) := by decide +kernel
theorem dX10_isPost_9 : decode cX10_isPost 9 = .ok (.iconst 1, 1) := by decide +kernel
theorem dX10_isPost_10 : decode cX10_isPost 10 = .ok (.isub, 1) := by decide +kernel
theorem dX10_isPost_11 : decode cX10_isPost 11 = .ok (.invokestatic 82, 3) := by decide +kernel
theorem dX10_isPost_14 : decode cX10_isPost 14 = .ok (.ireturn, 1) := by decide +kernel
set_option maxRecDepth 20000 in
theorem ggX10_isCrow_X10_within : GoodIn wsX10_isCrow wsX10_within := goodIn_r _ [6] (by decide +kernel) (by decide +kernel)
set_option maxRecDepth 20000 in
theorem gX10_isCrow_X10_within : GoodIn wsX10_isCrow (va_wsS RX10 82 yX10_within wsX10_within) := goodIn_app (goodIn_of _ (by decide +kernel)) ggX10_isCrow_X10_within
theorem dX10_isCrow_0 : decode cX10_isCrow 0 = .ok (.iload_n 1, 1) := by decide +kernel
theorem dX10_isCrow_1 : decode cX10_isCrow 1 = .ok (.iconst 0, 1) := by decide +kernel
theorem dX10_isCrow_2 : decode cX10_isCrow 2 = .ok (.aload_n 0, 1) := by decide +kernel
theorem dX10_isCrow_3 : decode cX10_isCrow 3 = .ok (.getfield 71, 3) := by decide +kernel
theorem dX10_isCrow_6 : decode cX10_isCrow 6 = .ok (.getfield 122, 3) := by decide +kernel
theorem dX10_isCrow_9 : decode cX10_isCrow 9 = .ok (.iconst 1, 1) := by decide +kernel
theorem dX10_isCrow_10 : decode cX10_isCrow 10 = .ok (.isub, 1) := by decide +kernel
theorem dX10_isCrow_11 : decode cX10_isCrow 11 = .ok (.invokestatic 82, 3) := by decide +kernel
theorem dX10_isCrow_14 : decode cX10_isCrow 14 = .ok (.ireturn, 1) := by decide +kernel
set_option maxRecDepth 20000 in
theorem ggX10_refusalOfHours_X10_within : GoodIn wsX10_refusalOfHours wsX10_within := goodIn_r _ [11] (by decide +kernel) (by decide +kernel)
set_option maxRecDepth 20000 in
theorem gX10_refusalOfHours_X10_within : GoodIn wsX10_refusalOfHours (va_wsS RX10 82 yX10_within wsX10_within) := goodIn_app (goodIn_of _ (by decide +kernel)) ggX10_refusalOfHours_X10_within
theorem dX10_refusalOfHours_0 : decode cX10_refusalOfHours 0 = .ok (.iload_n 1, 1) := by decide +kernel
theorem dX10_refusalOfHours_1 : decode cX10_refusalOfHours 1 = .ok (.iconst 1, 1) := by decide +kernel
theorem dX10_refusalOfHours_2 : decode cX10_refusalOfHours 2 = .ok (.bipush 60, 2) := by decide +kernel
theorem dX10_refusalOfHours_4 : decode cX10_refusalOfHours 4 = .ok (.invokestatic 82, 3) := by decide +kernel
theorem dX10_refusalOfHours_7 : decode cX10_refusalOfHours 7 = .ok (.ifCond .ne 6, 3) := by decide +kernel
theorem dX10_refusalOfHours_10 : decode cX10_refusalOfHours 10 = .ok (.ldc 86, 2) := by decide +kernel
theorem dX10_refusalOfHours_12 : decode cX10_refusalOfHours 12 = .ok (.ireturn, 1) := by decide +kernel
theorem dX10_refusalOfHours_13 : decode cX10_refusalOfHours 13 = .ok (.aload_n 0, 1) := by decide +kernel
theorem dX10_refusalOfHours_14 : decode cX10_refusalOfHours 14 = .ok (.getfield 71, 3) := by decide +kernel
theorem dX10_refusalOfHours_17 : decode cX10_refusalOfHours 17 = .ok (.getfield 113, 3) := by decide +kernel
theorem dX10_refusalOfHours_20 : decode cX10_refusalOfHours 20 = .ok (.ifCond .ne 6, 3) := by decide +kernel
theorem dX10_refusalOfHours_23 : decode cX10_refusalOfHours 23 = .ok (.ldc 200, 2) := by decide +kernel
theorem dX10_refusalOfHours_25 : decode cX10_refusalOfHours 25 = .ok (.ireturn, 1) := by decide +kernel
theorem dX10_refusalOfHours_26 : decode cX10_refusalOfHours 26 = .ok (.aload_n 0, 1) := by decide +kernel
theorem dX10_refusalOfHours_27 : decode cX10_refusalOfHours 27 = .ok (.getfield 19, 3) := by decide +kernel
theorem dX10_refusalOfHours_30 : decode cX10_refusalOfHours 30 = .ok (.getfield 128, 3) := by decide +kernel
theorem dX10_refusalOfHours_33 : decode cX10_refusalOfHours 33 = .ok (.sipush 9000, 3) := by decide +kernel
theorem dX10_refusalOfHours_36 : decode cX10_refusalOfHours 36 = .ok (.if_icmp .le 8, 3) := by decide +kernel
theorem dX10_refusalOfHours_39 : decode cX10_refusalOfHours 39 = .ok (.ldc 91, 2) := by decide +kernel
theorem dX10_refusalOfHours_41 : decode cX10_refusalOfHours 41 = .ok (.goto 4, 3) := by decide +kernel
theorem dX10_refusalOfHours_44 : decode cX10_refusalOfHours 44 = .ok (.iconst 0, 1) := by decide +kernel
theorem dX10_refusalOfHours_45 : decode cX10_refusalOfHours 45 = .ok (.ireturn, 1) := by decide +kernel
set_option maxRecDepth 20000 in
theorem ggX10_tryHours_X9_copyFrom : GoodIn wsX10_tryHours wsX9_copyFrom := goodIn_r _ [8, 9, 10, 11, 12, 13, 14, 15, 16, 17, 18, 19, 20, 67, 68, 69, 70, 71, 72, 73, 74] (by decide +kernel) (by decide +kernel)
set_option maxRecDepth 20000 in
theorem gX10_tryHours_X9_copyFrom : GoodIn wsX10_tryHours (wsV RX10 251 RX9 yX9_copyFrom wsX9_copyFrom) := goodIn_app (goodIn_of _ (by decide +kernel)) ggX10_tryHours_X9_copyFrom
set_option maxRecDepth 20000 in
theorem ggX10_tryHours_X9_letPosts : GoodIn wsX10_tryHours wsX9_letPosts := goodIn_r _ [24, 15, 67, 68, 69, 70, 71, 72, 73, 74] (by decide +kernel) (by decide +kernel)
set_option maxRecDepth 20000 in
theorem gX10_tryHours_X9_letPosts : GoodIn wsX10_tryHours (wsV RX10 144 RX9 yX9_letPosts wsX9_letPosts) := goodIn_app (goodIn_of _ (by decide +kernel)) ggX10_tryHours_X9_letPosts
set_option maxRecDepth 20000 in
theorem ggX10_tryHours_X9_passHours : GoodIn wsX10_tryHours wsX9_passHours := goodIn_r _ [28, 29, 19, 30, 31, 32, 33, 34, 7, 35, 36, 37, 38, 39, 40, 18, 41, 42, 9, 43, 44, 45, 46, 47, 48, 49, 50, 51, 52, 53, 54, 55, 14, 75, 76, 77, 78, 79, 80, 81, 82, 83, 84, 85, 86, 87, 67, 68, 69, 70, 71, 72, 73, 74] (by decide +kernel) (by decide +kernel)
set_option maxRecDepth 20000 in
theorem gX10_tryHours_X9_passHours : GoodIn wsX10_tryHours (wsV RX10 196 RX9 yX9_passHours wsX9_passHours) := goodIn_app (goodIn_of _ (by decide +kernel)) ggX10_tryHours_X9_passHours
theorem dX10_tryHours_0 : decode cX10_tryHours 0 = .ok (.aload_n 0, 1) := by decide +kernel
theorem dX10_tryHours_1 : decode cX10_tryHours 1 = .ok (.getfield 23, 3) := by decide +kernel
theorem dX10_tryHours_4 : decode cX10_tryHours 4 = .ok (.aload_n 0, 1) := by decide +kernel
theorem dX10_tryHours_5 : decode cX10_tryHours 5 = .ok (.getfield 19, 3) := by decide +kernel
theorem dX10_tryHours_8 : decode cX10_tryHours 8 = .ok (.invokevirtual 251, 3) := by decide +kernel
theorem dX10_tryHours_11 : decode cX10_tryHours 11 = .ok (.aload_n 0, 1) := by decide +kernel
theorem dX10_tryHours_12 : decode cX10_tryHours 12 = .ok (.getfield 23, 3) := by decide +kernel
theorem dX10_tryHours_15 : decode cX10_tryHours 15 = .ok (.aload_n 0, 1) := by decide +kernel
theorem dX10_tryHours_16 : decode cX10_tryHours 16 = .ok (.getfield 71, 3) := by decide +kernel
theorem dX10_tryHours_19 : decode cX10_tryHours 19 = .ok (.iload_n 1, 1) := by decide +kernel
theorem dX10_tryHours_20 : decode cX10_tryHours 20 = .ok (.aload_n 0, 1) := by decide +kernel
theorem dX10_tryHours_21 : decode cX10_tryHours 21 = .ok (.getfield 19, 3) := by decide +kernel
theorem dX10_tryHours_24 : decode cX10_tryHours 24 = .ok (.invokevirtual 144, 3) := by decide +kernel
theorem dX10_tryHours_27 : decode cX10_tryHours 27 = .ok (.invokevirtual 196, 3) := by decide +kernel
theorem dX10_tryHours_30 : decode cX10_tryHours 30 = .ok (.return_, 1) := by decide +kernel
theorem dJ6_bitCount_0f7a4_0 : decode cJ6_bitCount_0f7a4 0 = .ok (.iload_n 0, 1) := by decide +kernel
theorem dJ6_bitCount_0f7a4_1 : decode cJ6_bitCount_0f7a4 1 = .ok (.iload_n 0, 1) := by decide +kernel
theorem dJ6_bitCount_0f7a4_2 : decode cJ6_bitCount_0f7a4 2 = .ok (.iconst 1, 1) := by decide +kernel
theorem dJ6_bitCount_0f7a4_3 : decode cJ6_bitCount_0f7a4 3 = .ok (.iushr, 1) := by decide +kernel
theorem dJ6_bitCount_0f7a4_4 : decode cJ6_bitCount_0f7a4 4 = .ok (.ldc_w 265, 3) := by decide +kernel
theorem dJ6_bitCount_0f7a4_7 : decode cJ6_bitCount_0f7a4 7 = .ok (.iand, 1) := by decide +kernel
theorem dJ6_bitCount_0f7a4_8 : decode cJ6_bitCount_0f7a4 8 = .ok (.isub, 1) := by decide +kernel
theorem dJ6_bitCount_0f7a4_9 : decode cJ6_bitCount_0f7a4 9 = .ok (.istore_n 0, 1) := by decide +kernel
theorem dJ6_bitCount_0f7a4_10 : decode cJ6_bitCount_0f7a4 10 = .ok (.iload_n 0, 1) := by decide +kernel
theorem dJ6_bitCount_0f7a4_11 : decode cJ6_bitCount_0f7a4 11 = .ok (.ldc_w 266, 3) := by decide +kernel
theorem dJ6_bitCount_0f7a4_14 : decode cJ6_bitCount_0f7a4 14 = .ok (.iand, 1) := by decide +kernel
theorem dJ6_bitCount_0f7a4_15 : decode cJ6_bitCount_0f7a4 15 = .ok (.iload_n 0, 1) := by decide +kernel
theorem dJ6_bitCount_0f7a4_16 : decode cJ6_bitCount_0f7a4 16 = .ok (.iconst 2, 1) := by decide +kernel
theorem dJ6_bitCount_0f7a4_17 : decode cJ6_bitCount_0f7a4 17 = .ok (.iushr, 1) := by decide +kernel
theorem dJ6_bitCount_0f7a4_18 : decode cJ6_bitCount_0f7a4 18 = .ok (.ldc_w 266, 3) := by decide +kernel
theorem dJ6_bitCount_0f7a4_21 : decode cJ6_bitCount_0f7a4 21 = .ok (.iand, 1) := by decide +kernel
theorem dJ6_bitCount_0f7a4_22 : decode cJ6_bitCount_0f7a4 22 = .ok (.iadd, 1) := by decide +kernel
theorem dJ6_bitCount_0f7a4_23 : decode cJ6_bitCount_0f7a4 23 = .ok (.istore_n 0, 1) := by decide +kernel
theorem dJ6_bitCount_0f7a4_24 : decode cJ6_bitCount_0f7a4 24 = .ok (.iload_n 0, 1) := by decide +kernel
theorem dJ6_bitCount_0f7a4_25 : decode cJ6_bitCount_0f7a4 25 = .ok (.iload_n 0, 1) := by decide +kernel
theorem dJ6_bitCount_0f7a4_26 : decode cJ6_bitCount_0f7a4 26 = .ok (.iconst 4, 1) := by decide +kernel
theorem dJ6_bitCount_0f7a4_27 : decode cJ6_bitCount_0f7a4 27 = .ok (.iushr, 1) := by decide +kernel
theorem dJ6_bitCount_0f7a4_28 : decode cJ6_bitCount_0f7a4 28 = .ok (.iadd, 1) := by decide +kernel
theorem dJ6_bitCount_0f7a4_29 : decode cJ6_bitCount_0f7a4 29 = .ok (.ldc_w 267, 3) := by decide +kernel
theorem dJ6_bitCount_0f7a4_32 : decode cJ6_bitCount_0f7a4 32 = .ok (.iand, 1) := by decide +kernel
theorem dJ6_bitCount_0f7a4_33 : decode cJ6_bitCount_0f7a4 33 = .ok (.istore_n 0, 1) := by decide +kernel
theorem dJ6_bitCount_0f7a4_34 : decode cJ6_bitCount_0f7a4 34 = .ok (.iload_n 0, 1) := by decide +kernel
theorem dJ6_bitCount_0f7a4_35 : decode cJ6_bitCount_0f7a4 35 = .ok (.iload_n 0, 1) := by decide +kernel
theorem dJ6_bitCount_0f7a4_36 : decode cJ6_bitCount_0f7a4 36 = .ok (.bipush 8, 2) := by decide +kernel
theorem dJ6_bitCount_0f7a4_38 : decode cJ6_bitCount_0f7a4 38 = .ok (.iushr, 1) := by decide +kernel
theorem dJ6_bitCount_0f7a4_39 : decode cJ6_bitCount_0f7a4 39 = .ok (.iadd, 1) := by decide +kernel
theorem dJ6_bitCount_0f7a4_40 : decode cJ6_bitCount_0f7a4 40 = .ok (.istore_n 0, 1) := by decide +kernel
theorem dJ6_bitCount_0f7a4_41 : decode cJ6_bitCount_0f7a4 41 = .ok (.iload_n 0, 1) := by decide +kernel
theorem dJ6_bitCount_0f7a4_42 : decode cJ6_bitCount_0f7a4 42 = .ok (.iload_n 0, 1) := by decide +kernel
theorem dJ6_bitCount_0f7a4_43 : decode cJ6_bitCount_0f7a4 43 = .ok (.bipush 16, 2) := by decide +kernel
theorem dJ6_bitCount_0f7a4_45 : decode cJ6_bitCount_0f7a4 45 = .ok (.iushr, 1) := by decide +kernel
theorem dJ6_bitCount_0f7a4_46 : decode cJ6_bitCount_0f7a4 46 = .ok (.iadd, 1) := by decide +kernel
theorem dJ6_bitCount_0f7a4_47 : decode cJ6_bitCount_0f7a4 47 = .ok (.istore_n 0, 1) := by decide +kernel
theorem dJ6_bitCount_0f7a4_48 : decode cJ6_bitCount_0f7a4 48 = .ok (.iload_n 0, 1) := by decide +kernel
theorem dJ6_bitCount_0f7a4_49 : decode cJ6_bitCount_0f7a4 49 = .ok (.bipush 63, 2) := by decide +kernel
theorem dJ6_bitCount_0f7a4_51 : decode cJ6_bitCount_0f7a4 51 = .ok (.iand, 1) := by decide +kernel
theorem dJ6_bitCount_0f7a4_52 : decode cJ6_bitCount_0f7a4 52 = .ok (.ireturn, 1) := by decide +kernel
theorem dJ9_abs_0f7a4_0 : decode cJ9_abs_0f7a4 0 = .ok (.iload_n 0, 1) := by decide +kernel
theorem dJ9_abs_0f7a4_1 : decode cJ9_abs_0f7a4 1 = .ok (.ifCond .ge 8, 3) := by decide +kernel
theorem dJ9_abs_0f7a4_4 : decode cJ9_abs_0f7a4 4 = .ok (.iload_n 0, 1) := by decide +kernel
theorem dJ9_abs_0f7a4_5 : decode cJ9_abs_0f7a4 5 = .ok (.ineg, 1) := by decide +kernel
theorem dJ9_abs_0f7a4_6 : decode cJ9_abs_0f7a4 6 = .ok (.goto 4, 3) := by decide +kernel
theorem dJ9_abs_0f7a4_9 : decode cJ9_abs_0f7a4 9 = .ok (.iload_n 0, 1) := by decide +kernel
theorem dJ9_abs_0f7a4_10 : decode cJ9_abs_0f7a4 10 = .ok (.ireturn, 1) := by decide +kernel
theorem dJ9_max_7cf53_0 : decode cJ9_max_7cf53 0 = .ok (.iload_n 0, 1) := by decide +kernel
theorem dJ9_max_7cf53_1 : decode cJ9_max_7cf53 1 = .ok (.iload_n 1, 1) := by decide +kernel
theorem dJ9_max_7cf53_2 : decode cJ9_max_7cf53 2 = .ok (.if_icmp .lt 7, 3) := by decide +kernel
theorem dJ9_max_7cf53_5 : decode cJ9_max_7cf53 5 = .ok (.iload_n 0, 1) := by decide +kernel
theorem dJ9_max_7cf53_6 : decode cJ9_max_7cf53 6 = .ok (.goto 4, 3) := by decide +kernel
theorem dJ9_max_7cf53_9 : decode cJ9_max_7cf53 9 = .ok (.iload_n 1, 1) := by decide +kernel
theorem dJ9_max_7cf53_10 : decode cJ9_max_7cf53 10 = .ok (.ireturn, 1) := by decide +kernel
theorem dJ9_min_7cf53_0 : decode cJ9_min_7cf53 0 = .ok (.iload_n 0, 1) := by decide +kernel
theorem dJ9_min_7cf53_1 : decode cJ9_min_7cf53 1 = .ok (.iload_n 1, 1) := by decide +kernel
theorem dJ9_min_7cf53_2 : decode cJ9_min_7cf53 2 = .ok (.if_icmp .gt 7, 3) := by decide +kernel
theorem dJ9_min_7cf53_5 : decode cJ9_min_7cf53 5 = .ok (.iload_n 0, 1) := by decide +kernel
theorem dJ9_min_7cf53_6 : decode cJ9_min_7cf53 6 = .ok (.goto 4, 3) := by decide +kernel
theorem dJ9_min_7cf53_9 : decode cJ9_min_7cf53 9 = .ok (.iload_n 1, 1) := by decide +kernel
theorem dJ9_min_7cf53_10 : decode cJ9_min_7cf53 10 = .ok (.ireturn, 1) := by decide +kernel
