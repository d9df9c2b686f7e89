theorem dX0_init_0 : decode cX0_init 0 = .ok (.aload_n 0, 1) := by decide +kernel
theorem dX0_init_1 : decode cX0_init 1 = .ok (.invokespecial 3, 3) := by decide +kernel
theorem dX0_init_4 : decode cX0_init 4 = .ok (.aload_n 0, 1) := by decide +kernel
theorem dX0_init_5 : decode cX0_init 5 = .ok (.bipush 15, 2) := by decide +kernel
theorem dX0_init_7 : decode cX0_init 7 = .ok (.newarray .int, 2) := by decide +kernel
theorem dX0_init_9 : decode cX0_init 9 = .ok (.putfield 9, 3) := by decide +kernel
theorem dX0_init_12 : decode cX0_init 12 = .ok (.aload_n 0, 1) := by decide +kernel
theorem dX0_init_13 : decode cX0_init 13 = .ok (.bipush 15, 2) := by decide +kernel
theorem dX0_init_15 : decode cX0_init 15 = .ok (.newarray .int, 2) := by decide +kernel
theorem dX0_init_17 : decode cX0_init 17 = .ok (.putfield 15, 3) := by decide +kernel
theorem dX0_init_20 : decode cX0_init 20 = .ok (.return_, 1) := by decide +kernel
theorem dX0_enter_0 : decode cX0_enter 0 = .ok (.aload_n 0, 1) := by decide +kernel
theorem dX0_enter_1 : decode cX0_enter 1 = .ok (.getfield 9, 3) := by decide +kernel
theorem dX0_enter_4 : decode cX0_enter 4 = .ok (.aload_n 0, 1) := by decide +kernel
theorem dX0_enter_5 : decode cX0_enter 5 = .ok (.getfield 18, 3) := by decide +kernel
theorem dX0_enter_8 : decode cX0_enter 8 = .ok (.iload_n 1, 1) := by decide +kernel
theorem dX0_enter_9 : decode cX0_enter 9 = .ok (.iastore, 1) := by decide +kernel
theorem dX0_enter_10 : decode cX0_enter 10 = .ok (.aload_n 0, 1) := by decide +kernel
theorem dX0_enter_11 : decode cX0_enter 11 = .ok (.getfield 15, 3) := by decide +kernel
theorem dX0_enter_14 : decode cX0_enter 14 = .ok (.aload_n 0, 1) := by decide +kernel
theorem dX0_enter_15 : decode cX0_enter 15 = .ok (.getfield 18, 3) := by decide +kernel
theorem dX0_enter_18 : decode cX0_enter 18 = .ok (.iload_n 2, 1) := by decide +kernel
theorem dX0_enter_19 : decode cX0_enter 19 = .ok (.iastore, 1) := by decide +kernel
theorem dX0_enter_20 : decode cX0_enter 20 = .ok (.aload_n 0, 1) := by decide +kernel
theorem dX0_enter_21 : decode cX0_enter 21 = .ok (.dup, 1) := by decide +kernel
theorem dX0_enter_22 : decode cX0_enter 22 = .ok (.getfield 18, 3) := by decide +kernel
theorem dX0_enter_25 : decode cX0_enter 25 = .ok (.iconst 1, 1) := by decide +kernel
theorem dX0_enter_26 : decode cX0_enter 26 = .ok (.iadd, 1) := by decide +kernel
theorem dX0_enter_27 : decode cX0_enter 27 = .ok (.putfield 18, 3) := by decide +kernel
theorem dX0_enter_30 : decode cX0_enter 30 = .ok (.return_, 1) := by decide +kernel
theorem dX0_firstWrong_0 : decode cX0_firstWrong 0 = .ok (.iconst 0, 1) := by decide +kernel
theorem dX0_firstWrong_1 : decode cX0_firstWrong 1 = .ok (.istore_n 2, 1) := by decide +kernel
theorem dX0_firstWrong_2 : decode cX0_firstWrong 2 = .ok (.iload_n 2, 1) := by decide +kernel
theorem dX0_firstWrong_3 : decode cX0_firstWrong 3 = .ok (.aload_n 0, 1) := by decide +kernel
theorem dX0_firstWrong_4 : decode cX0_firstWrong 4 = .ok (.getfield 18, 3) := by decide +kernel
theorem dX0_firstWrong_7 : decode cX0_firstWrong 7 = .ok (.if_icmp .ge 31, 3) := by decide +kernel
theorem dX0_firstWrong_10 : decode cX0_firstWrong 10 = .ok (.aload_n 1, 1) := by decide +kernel
theorem dX0_firstWrong_11 : decode cX0_firstWrong 11 = .ok (.getfield 22, 3) := by decide +kernel
theorem dX0_firstWrong_14 : decode cX0_firstWrong 14 = .ok (.aload_n 0, 1) := by decide +kernel
theorem dX0_firstWrong_15 : decode cX0_firstWrong 15 = .ok (.getfield 9, 3) := by decide +kernel
theorem dX0_firstWrong_18 : decode cX0_firstWrong 18 = .ok (.iload_n 2, 1) := by decide +kernel
theorem dX0_firstWrong_19 : decode cX0_firstWrong 19 = .ok (.iaload, 1) := by decide +kernel
theorem dX0_firstWrong_20 : decode cX0_firstWrong 20 = .ok (.iaload, 1) := by decide +kernel
theorem dX0_firstWrong_21 : decode cX0_firstWrong 21 = .ok (.aload_n 0, 1) := by decide +kernel
theorem dX0_firstWrong_22 : decode cX0_firstWrong 22 = .ok (.getfield 15, 3) := by decide +kernel
theorem dX0_firstWrong_25 : decode cX0_firstWrong 25 = .ok (.iload_n 2, 1) := by decide +kernel
theorem dX0_firstWrong_26 : decode cX0_firstWrong 26 = .ok (.iaload, 1) := by decide +kernel
theorem dX0_firstWrong_27 : decode cX0_firstWrong 27 = .ok (.if_icmp .eq 5, 3) := by decide +kernel
theorem dX0_firstWrong_30 : decode cX0_firstWrong 30 = .ok (.iload_n 2, 1) := by decide +kernel
theorem dX0_firstWrong_31 : decode cX0_firstWrong 31 = .ok (.ireturn, 1) := by decide +kernel
theorem dX0_firstWrong_32 : decode cX0_firstWrong 32 = .ok (.iinc 2 1, 3) := by decide +kernel
theorem dX0_firstWrong_35 : decode cX0_firstWrong 35 = .ok (.goto (-33), 3) := by decide +kernel
theorem dX0_firstWrong_38 : decode cX0_firstWrong 38 = .ok (.iconst (-1), 1) := by decide +kernel
theorem dX0_firstWrong_39 : decode cX0_firstWrong 39 = .ok (.ireturn, 1) := by decide +kernel
theorem dX1_init_0 : decode cX1_init 0 = .ok (.aload_n 0, 1) := by decide +kernel
theorem dX1_init_1 : decode cX1_init 1 = .ok (.invokespecial 1, 3) := by decide +kernel
theorem dX1_init_4 : decode cX1_init 4 = .ok (.return_, 1) := by decide +kernel
theorem dX1_below_0 : decode cX1_below 0 = .ok (.aload_n 0, 1) := by decide +kernel
theorem dX1_below_1 : decode cX1_below 1 = .ok (.aload_n 0, 1) := by decide +kernel
theorem dX1_below_2 : decode cX1_below 2 = .ok (.getfield 7, 3) := by decide +kernel
theorem dX1_below_5 : decode cX1_below 5 = .ok (.i2l, 1) := by decide +kernel
theorem dX1_below_6 : decode cX1_below 6 = .ok (.ldc2_w 13, 3) := by decide +kernel
theorem dX1_below_9 : decode cX1_below 9 = .ok (.lmul, 1) := by decide +kernel
theorem dX1_below_10 : decode cX1_below 10 = .ok (.ldc2_w 15, 3) := by decide +kernel
theorem dX1_below_13 : decode cX1_below 13 = .ok (.ladd, 1) := by decide +kernel
theorem dX1_below_14 : decode cX1_below 14 = .ok (.ldc2_w 17, 3) := by decide +kernel
theorem dX1_below_17 : decode cX1_below 17 = .ok (.lrem, 1) := by decide +kernel
theorem dX1_below_18 : decode cX1_below 18 = .ok (.l2i, 1) := by decide +kernel
theorem dX1_below_19 : decode cX1_below 19 = .ok (.putfield 7, 3) := by decide +kernel
theorem dX1_below_22 : decode cX1_below 22 = .ok (.iload_n 1, 1) := by decide +kernel
theorem dX1_below_23 : decode cX1_below 23 = .ok (.ifCond .le 15, 3) := by decide +kernel
theorem dX1_below_26 : decode cX1_below 26 = .ok (.aload_n 0, 1) := by decide +kernel
theorem dX1_below_27 : decode cX1_below 27 = .ok (.getfield 7, 3) := by decide +kernel
theorem dX1_below_30 : decode cX1_below 30 = .ok (.ldc 19, 2) := by decide +kernel
theorem dX1_below_32 : decode cX1_below 32 = .ok (.idiv, 1) := by decide +kernel
theorem dX1_below_33 : decode cX1_below 33 = .ok (.iload_n 1, 1) := by decide +kernel
theorem dX1_below_34 : decode cX1_below 34 = .ok (.irem, 1) := by decide +kernel
theorem dX1_below_35 : decode cX1_below 35 = .ok (.goto 4, 3) := by decide +kernel
theorem dX1_below_38 : decode cX1_below 38 = .ok (.iconst 0, 1) := by decide +kernel
theorem dX1_below_39 : decode cX1_below 39 = .ok (.ireturn, 1) := by decide +kernel
set_option maxRecDepth 20000 in
theorem ggX2_init_X9_init : GoodIn wsX2_init wsX9_init := goodIn_r _ [9, 10, 2, 3, 11, 12, 13, 14, 15, 16, 17, 18, 19, 20, 21, 22, 23, 24] (by decide +kernel) (by decide +kernel)
set_option maxRecDepth 20000 in
theorem gX2_init_X9_init_n9 : GoodIn wsX2_init (wsX9_init) := ggX2_init_X9_init
theorem dX2_init_0 : decode cX2_init 0 = .ok (.aload_n 0, 1) := by decide +kernel
theorem dX2_init_1 : decode cX2_init 1 = .ok (.invokespecial 1, 3) := by decide +kernel
theorem dX2_init_4 : decode cX2_init 4 = .ok (.aload_n 0, 1) := by decide +kernel
theorem dX2_init_5 : decode cX2_init 5 = .ok (.new 7, 3) := by decide +kernel
theorem dX2_init_8 : decode cX2_init 8 = .ok (.dup, 1) := by decide +kernel
theorem dX2_init_9 : decode cX2_init 9 = .ok (.invokespecial 9, 3) := by decide +kernel
theorem dX2_init_12 : decode cX2_init 12 = .ok (.putfield 10, 3) := by decide +kernel
theorem dX2_init_15 : decode cX2_init 15 = .ok (.return_, 1) := by decide +kernel
set_option maxRecDepth 20000 in
theorem ggX2_take_X9_copyFrom : GoodIn wsX2_take wsX9_copyFrom := goodIn_r _ [9, 10, 11, 12, 13, 14, 15, 16, 17, 18, 19, 20, 21, 26, 27, 28, 29, 30, 31, 32, 33] (by decide +kernel) (by decide +kernel)
set_option maxRecDepth 20000 in
theorem gX2_take_X9_copyFrom : GoodIn wsX2_take (wsV RX2 16 RX9 yX9_copyFrom wsX9_copyFrom) := goodIn_app (goodIn_of _ (by decide +kernel)) ggX2_take_X9_copyFrom
theorem dX2_take_0 : decode cX2_take 0 = .ok (.aload_n 0, 1) := by decide +kernel
theorem dX2_take_1 : decode cX2_take 1 = .ok (.getfield 10, 3) := by decide +kernel
theorem dX2_take_4 : decode cX2_take 4 = .ok (.aload_n 1, 1) := by decide +kernel
theorem dX2_take_5 : decode cX2_take 5 = .ok (.invokevirtual 16, 3) := by decide +kernel
theorem dX2_take_8 : decode cX2_take 8 = .ok (.aload_n 0, 1) := by decide +kernel
theorem dX2_take_9 : decode cX2_take 9 = .ok (.aload_n 2, 1) := by decide +kernel
theorem dX2_take_10 : decode cX2_take 10 = .ok (.getfield 20, 3) := by decide +kernel
theorem dX2_take_13 : decode cX2_take 13 = .ok (.putfield 26, 3) := by decide +kernel
theorem dX2_take_16 : decode cX2_take 16 = .ok (.aload_n 0, 1) := by decide +kernel
theorem dX2_take_17 : decode cX2_take 17 = .ok (.iconst 1, 1) := by decide +kernel
theorem dX2_take_18 : decode cX2_take 18 = .ok (.putfield 27, 3) := by decide +kernel
theorem dX2_take_21 : decode cX2_take 21 = .ok (.return_, 1) := by decide +kernel
set_option maxRecDepth 20000 in
theorem ggX2_give_X9_copyFrom : GoodIn wsX2_give wsX9_copyFrom := goodIn_r _ [8, 9, 10, 11, 12, 13, 14, 15, 16, 17, 18, 19, 20, 25, 26, 27, 28, 29, 30, 31, 32] (by decide +kernel) (by decide +kernel)
set_option maxRecDepth 20000 in
theorem gX2_give_X9_copyFrom : GoodIn wsX2_give (wsV RX2 16 RX9 yX9_copyFrom wsX9_copyFrom) := goodIn_app (goodIn_of _ (by decide +kernel)) ggX2_give_X9_copyFrom
theorem dX2_give_0 : decode cX2_give 0 = .ok (.aload_n 1, 1) := by decide +kernel
theorem dX2_give_1 : decode cX2_give 1 = .ok (.aload_n 0, 1) := by decide +kernel
theorem dX2_give_2 : decode cX2_give 2 = .ok (.getfield 10, 3) := by decide +kernel
theorem dX2_give_5 : decode cX2_give 5 = .ok (.invokevirtual 16, 3) := by decide +kernel
theorem dX2_give_8 : decode cX2_give 8 = .ok (.aload_n 2, 1) := by decide +kernel
theorem dX2_give_9 : decode cX2_give 9 = .ok (.aload_n 0, 1) := by decide +kernel
theorem dX2_give_10 : decode cX2_give 10 = .ok (.getfield 26, 3) := by decide +kernel
theorem dX2_give_13 : decode cX2_give 13 = .ok (.putfield 20, 3) := by decide +kernel
theorem dX2_give_16 : decode cX2_give 16 = .ok (.return_, 1) := by decide +kernel
set_option maxRecDepth 20000 in
theorem ggX3_init_X9_init : GoodIn wsX3_init wsX9_init := goodIn_r _ [16, 17, 2, 3, 4, 18, 19, 20, 21, 22, 32, 33, 34, 35, 36, 37, 38, 39] (by decide +kernel) (by decide +kernel)
set_option maxRecDepth 20000 in
theorem gX3_init_X9_init_n20 : GoodIn wsX3_init (wsX9_init) := ggX3_init_X9_init
set_option maxRecDepth 20000 in
theorem ggX3_init_X8_init : GoodIn wsX3_init wsX8_init := goodIn_r _ [24, 25, 2, 3, 4, 26, 40, 41, 42, 43, 44, 45] (by decide +kernel) (by decide +kernel)
set_option maxRecDepth 20000 in
theorem gX3_init_X8_init_n27 : GoodIn wsX3_init (wsX8_init) := ggX3_init_X8_init
theorem dX3_init_0 : decode cX3_init 0 = .ok (.aload_n 0, 1) := by decide +kernel
theorem dX3_init_1 : decode cX3_init 1 = .ok (.invokespecial 3, 3) := by decide +kernel
theorem dX3_init_4 : decode cX3_init 4 = .ok (.aload_n 0, 1) := by decide +kernel
theorem dX3_init_5 : decode cX3_init 5 = .ok (.bipush 6, 2) := by decide +kernel
theorem dX3_init_7 : decode cX3_init 7 = .ok (.newarray .int, 2) := by decide +kernel
theorem dX3_init_9 : decode cX3_init 9 = .ok (.putfield 9, 3) := by decide +kernel
theorem dX3_init_12 : decode cX3_init 12 = .ok (.aload_n 0, 1) := by decide +kernel
theorem dX3_init_13 : decode cX3_init 13 = .ok (.bipush 64, 2) := by decide +kernel
theorem dX3_init_15 : decode cX3_init 15 = .ok (.newarray .int, 2) := by decide +kernel
theorem dX3_init_17 : decode cX3_init 17 = .ok (.putfield 15, 3) := by decide +kernel
theorem dX3_init_20 : decode cX3_init 20 = .ok (.aload_n 0, 1) := by decide +kernel
theorem dX3_init_21 : decode cX3_init 21 = .ok (.new 18, 3) := by decide +kernel
theorem dX3_init_24 : decode cX3_init 24 = .ok (.dup, 1) := by decide +kernel
theorem dX3_init_25 : decode cX3_init 25 = .ok (.invokespecial 20, 3) := by decide +kernel
theorem dX3_init_28 : decode cX3_init 28 = .ok (.putfield 21, 3) := by decide +kernel
theorem dX3_init_31 : decode cX3_init 31 = .ok (.aload_n 0, 1) := by decide +kernel
theorem dX3_init_32 : decode cX3_init 32 = .ok (.new 25, 3) := by decide +kernel
theorem dX3_init_35 : decode cX3_init 35 = .ok (.dup, 1) := by decide +kernel
theorem dX3_init_36 : decode cX3_init 36 = .ok (.invokespecial 27, 3) := by decide +kernel
theorem dX3_init_39 : decode cX3_init 39 = .ok (.putfield 28, 3) := by decide +kernel
theorem dX3_init_42 : decode cX3_init 42 = .ok (.return_, 1) := by decide +kernel
set_option maxRecDepth 20000 in
theorem ggX3_findMost_X3_forget : GoodIn wsX3_findMost wsX3_forget := goodIn_r _ [16, 3, 6, 17, 128, 129, 130, 131, 132] (by decide +kernel) (by decide +kernel)
set_option maxRecDepth 20000 in
theorem gX3_findMost_X3_forget : GoodIn wsX3_findMost (wsV RX3 32 RX3 yX3_forget wsX3_forget) := goodIn_app (goodIn_of _ (by decide +kernel)) ggX3_findMost_X3_forget
set_option maxRecDepth 20000 in
theorem ggX3_findMost_X8_begin : GoodIn wsX3_findMost wsX8_begin := goodIn_r _ [22, 23, 24, 25, 26, 27, 28, 29, 30, 31, 32, 21, 33, 34, 35, 36, 37, 38, 139, 140, 141, 142, 143, 144, 145, 146, 147, 148, 149, 150, 151, 133, 134, 135, 136, 137, 138] (by decide +kernel) (by decide +kernel)
set_option maxRecDepth 20000 in
theorem gX3_findMost_X8_begin : GoodIn wsX3_findMost (wsV RX3 35 RX8 yX8_begin wsX8_begin) := goodIn_app (goodIn_of _ (by decide +kernel)) ggX3_findMost_X8_begin
set_option maxRecDepth 20000 in
theorem ggX3_findMost_X3_spoonsOfWay : GoodIn wsX3_findMost wsX3_spoonsOfWay := goodIn_r _ [42, 7, 1, 5, 43, 44, 45, 46, 47, 48, 49, 50, 139, 140, 141, 142, 143, 144, 145, 146, 147, 148, 149, 150, 151, 128, 129, 130, 131, 132, 133, 134, 135, 136, 137, 138, 152, 153, 154, 155, 156, 157, 158, 159] (by decide +kernel) (by decide +kernel)
set_option maxRecDepth 20000 in
theorem gX3_findMost_X3_spoonsOfWay : GoodIn wsX3_findMost (wsV RX3 43 RX3 yX3_spoonsOfWay wsX3_spoonsOfWay) := goodIn_app (goodIn_of _ (by decide +kernel)) ggX3_findMost_X3_spoonsOfWay
set_option maxRecDepth 20000 in
theorem ggX3_findMost_X3_opensBy : GoodIn wsX3_findMost wsX3_opensBy := goodIn_r _ [54, 17, 55, 56, 57, 15, 58, 59, 60, 61, 62, 63, 46, 64, 65, 66, 9, 10, 11, 67, 68, 48, 69, 70, 71, 72, 73, 74, 75, 76, 77, 78, 79, 80, 81, 82, 83, 84, 85, 86, 87, 88, 89, 90, 91, 92, 93, 94, 95, 96, 97, 98, 99, 100, 101, 102, 103, 104, 105, 106, 107, 108, 109, 110, 111, 112, 113, 114, 115, 116, 117, 118, 119, 120, 121, 122, 123, 128, 129, 130, 131, 132, 152, 153, 154, 155, 156, 157, 158, 159, 139, 140, 141, 142, 143, 144, 145, 146, 147, 148, 149, 150, 151] (by decide +kernel) (by decide +kernel)
set_option maxRecDepth 20000 in
theorem gX3_findMost_X3_opensBy : GoodIn wsX3_findMost (wsV RX3 54 RX3 yX3_opensBy wsX3_opensBy) := goodIn_app (goodIn_of _ (by decide +kernel)) ggX3_findMost_X3_opensBy
set_option maxRecDepth 20000 in
theorem ggX3_findMost_X8_advance : GoodIn wsX3_findMost wsX8_advance := goodIn_r _ [127, 24, 34, 28, 27, 29, 30, 31, 32, 21, 33, 35, 36, 37, 38, 26, 133, 134, 135, 136, 137, 138] (by decide +kernel) (by decide +kernel)
set_option maxRecDepth 20000 in
theorem gX3_findMost_X8_advance : GoodIn wsX3_findMost (wsV RX3 70 RX8 yX8_advance wsX8_advance) := goodIn_app (goodIn_of _ (by decide +kernel)) ggX3_findMost_X8_advance
theorem dX3_findMost_0 : decode cX3_findMost 0 = .ok (.aload_n 0, 1) := by decide +kernel
theorem dX3_findMost_1 : decode cX3_findMost 1 = .ok (.invokevirtual 32, 3) := by decide +kernel
theorem dX3_findMost_4 : decode cX3_findMost 4 = .ok (.aload_n 0, 1) := by decide +kernel
theorem dX3_findMost_5 : decode cX3_findMost 5 = .ok (.getfield 28, 3) := by decide +kernel
theorem dX3_findMost_8 : decode cX3_findMost 8 = .ok (.aload_n 1, 1) := by decide +kernel
theorem dX3_findMost_9 : decode cX3_findMost 9 = .ok (.invokevirtual 35, 3) := by decide +kernel
theorem dX3_findMost_12 : decode cX3_findMost 12 = .ok (.iconst 0, 1) := by decide +kernel
theorem dX3_findMost_13 : decode cX3_findMost 13 = .ok (.istore 4, 2) := by decide +kernel
theorem dX3_findMost_15 : decode cX3_findMost 15 = .ok (.iload 4, 2) := by decide +kernel
theorem dX3_findMost_17 : decode cX3_findMost 17 = .ok (.sipush 5000, 3) := by decide +kernel
theorem dX3_findMost_20 : decode cX3_findMost 20 = .ok (.if_icmp .ge 86, 3) := by decide +kernel
theorem dX3_findMost_23 : decode cX3_findMost 23 = .ok (.aload_n 0, 1) := by decide +kernel
theorem dX3_findMost_24 : decode cX3_findMost 24 = .ok (.getfield 28, 3) := by decide +kernel
theorem dX3_findMost_27 : decode cX3_findMost 27 = .ok (.getfield 39, 3) := by decide +kernel
theorem dX3_findMost_30 : decode cX3_findMost 30 = .ok (.ifCond .ne 76, 3) := by decide +kernel
theorem dX3_findMost_33 : decode cX3_findMost 33 = .ok (.aload_n 0, 1) := by decide +kernel
theorem dX3_findMost_34 : decode cX3_findMost 34 = .ok (.aload_n 1, 1) := by decide +kernel
theorem dX3_findMost_35 : decode cX3_findMost 35 = .ok (.aload_n 2, 1) := by decide +kernel
theorem dX3_findMost_36 : decode cX3_findMost 36 = .ok (.invokevirtual 43, 3) := by decide +kernel
theorem dX3_findMost_39 : decode cX3_findMost 39 = .ok (.istore 5, 2) := by decide +kernel
theorem dX3_findMost_41 : decode cX3_findMost 41 = .ok (.iload 5, 2) := by decide +kernel
theorem dX3_findMost_43 : decode cX3_findMost 43 = .ok (.aload_n 0, 1) := by decide +kernel
theorem dX3_findMost_44 : decode cX3_findMost 44 = .ok (.getfield 47, 3) := by decide +kernel
theorem dX3_findMost_47 : decode cX3_findMost 47 = .ok (.if_icmp .le 46, 3) := by decide +kernel
theorem dX3_findMost_50 : decode cX3_findMost 50 = .ok (.aload_n 0, 1) := by decide +kernel
theorem dX3_findMost_51 : decode cX3_findMost 51 = .ok (.aload_n 1, 1) := by decide +kernel
theorem dX3_findMost_52 : decode cX3_findMost 52 = .ok (.aload_n 2, 1) := by decide +kernel
theorem dX3_findMost_53 : decode cX3_findMost 53 = .ok (.aload_n 0, 1) := by decide +kernel
theorem dX3_findMost_54 : decode cX3_findMost 54 = .ok (.getfield 28, 3) := by decide +kernel
theorem dX3_findMost_57 : decode cX3_findMost 57 = .ok (.getfield 51, 3) := by decide +kernel
theorem dX3_findMost_60 : decode cX3_findMost 60 = .ok (.iload_n 3, 1) := by decide +kernel
theorem dX3_findMost_61 : decode cX3_findMost 61 = .ok (.invokevirtual 54, 3) := by decide +kernel
theorem dX3_findMost_64 : decode cX3_findMost 64 = .ok (.ifCond .eq 29, 3) := by decide +kernel
theorem dX3_findMost_67 : decode cX3_findMost 67 = .ok (.aload_n 0, 1) := by decide +kernel
theorem dX3_findMost_68 : decode cX3_findMost 68 = .ok (.iload 5, 2) := by decide +kernel
theorem dX3_findMost_70 : decode cX3_findMost 70 = .ok (.putfield 47, 3) := by decide +kernel
theorem dX3_findMost_73 : decode cX3_findMost 73 = .ok (.aload_n 0, 1) := by decide +kernel
theorem dX3_findMost_74 : decode cX3_findMost 74 = .ok (.getfield 28, 3) := by decide +kernel
theorem dX3_findMost_77 : decode cX3_findMost 77 = .ok (.getfield 58, 3) := by decide +kernel
theorem dX3_findMost_80 : decode cX3_findMost 80 = .ok (.iconst 0, 1) := by decide +kernel
theorem dX3_findMost_81 : decode cX3_findMost 81 = .ok (.aload_n 0, 1) := by decide +kernel
theorem dX3_findMost_82 : decode cX3_findMost 82 = .ok (.getfield 9, 3) := by decide +kernel
theorem dX3_findMost_85 : decode cX3_findMost 85 = .ok (.iconst 0, 1) := by decide +kernel
theorem dX3_findMost_86 : decode cX3_findMost 86 = .ok (.aload_n 1, 1) := by decide +kernel
theorem dX3_findMost_87 : decode cX3_findMost 87 = .ok (.getfield 59, 3) := by decide +kernel
theorem dX3_findMost_90 : decode cX3_findMost 90 = .ok (.invokestatic 64, 3) := by decide +kernel
theorem dX3_findMost_93 : decode cX3_findMost 93 = .ok (.aload_n 0, 1) := by decide +kernel
theorem dX3_findMost_94 : decode cX3_findMost 94 = .ok (.getfield 28, 3) := by decide +kernel
theorem dX3_findMost_97 : decode cX3_findMost 97 = .ok (.invokevirtual 70, 3) := by decide +kernel
theorem dX3_findMost_100 : decode cX3_findMost 100 = .ok (.iinc 4 1, 3) := by decide +kernel
theorem dX3_findMost_103 : decode cX3_findMost 103 = .ok (.goto (-88), 3) := by decide +kernel
theorem dX3_findMost_106 : decode cX3_findMost 106 = .ok (.return_, 1) := by decide +kernel
theorem dX3_forget_0 : decode cX3_forget 0 = .ok (.aload_n 0, 1) := by decide +kernel
theorem dX3_forget_1 : decode cX3_forget 1 = .ok (.iconst (-1), 1) := by decide +kernel
theorem dX3_forget_2 : decode cX3_forget 2 = .ok (.putfield 47, 3) := by decide +kernel
theorem dX3_forget_5 : decode cX3_forget 5 = .ok (.iconst 0, 1) := by decide +kernel
theorem dX3_forget_6 : decode cX3_forget 6 = .ok (.istore_n 1, 1) := by decide +kernel
theorem dX3_forget_7 : decode cX3_forget 7 = .ok (.iload_n 1, 1) := by decide +kernel
theorem dX3_forget_8 : decode cX3_forget 8 = .ok (.bipush 6, 2) := by decide +kernel
theorem dX3_forget_10 : decode cX3_forget 10 = .ok (.if_icmp .ge 16, 3) := by decide +kernel
theorem dX3_forget_13 : decode cX3_forget 13 = .ok (.aload_n 0, 1) := by decide +kernel
theorem dX3_forget_14 : decode cX3_forget 14 = .ok (.getfield 9, 3) := by decide +kernel
theorem dX3_forget_17 : decode cX3_forget 17 = .ok (.iload_n 1, 1) := by decide +kernel
theorem dX3_forget_18 : decode cX3_forget 18 = .ok (.iconst (-1), 1) := by decide +kernel
theorem dX3_forget_19 : decode cX3_forget 19 = .ok (.iastore, 1) := by decide +kernel
theorem dX3_forget_20 : decode cX3_forget 20 = .ok (.iinc 1 1, 3) := by decide +kernel
theorem dX3_forget_23 : decode cX3_forget 23 = .ok (.goto (-16), 3) := by decide +kernel
theorem dX3_forget_26 : decode cX3_forget 26 = .ok (.iconst 0, 1) := by decide +kernel
theorem dX3_forget_27 : decode cX3_forget 27 = .ok (.istore_n 1, 1) := by decide +kernel
theorem dX3_forget_28 : decode cX3_forget 28 = .ok (.iload_n 1, 1) := by decide +kernel
theorem dX3_forget_29 : decode cX3_forget 29 = .ok (.bipush 64, 2) := by decide +kernel
theorem dX3_forget_31 : decode cX3_forget 31 = .ok (.if_icmp .ge 16, 3) := by decide +kernel
theorem dX3_forget_34 : decode cX3_forget 34 = .ok (.aload_n 0, 1) := by decide +kernel
theorem dX3_forget_35 : decode cX3_forget 35 = .ok (.getfield 15, 3) := by decide +kernel
theorem dX3_forget_38 : decode cX3_forget 38 = .ok (.iload_n 1, 1) := by decide +kernel
theorem dX3_forget_39 : decode cX3_forget 39 = .ok (.iconst 0, 1) := by decide +kernel
theorem dX3_forget_40 : decode cX3_forget 40 = .ok (.iastore, 1) := by decide +kernel
theorem dX3_forget_41 : decode cX3_forget 41 = .ok (.iinc 1 1, 3) := by decide +kernel
theorem dX3_forget_44 : decode cX3_forget 44 = .ok (.goto (-16), 3) := by decide +kernel
theorem dX3_forget_47 : decode cX3_forget 47 = .ok (.return_, 1) := by decide +kernel
set_option maxRecDepth 20000 in
theorem ggX3_spoonsOfWay_X9_worthOf : GoodIn wsX3_spoonsOfWay wsX9_worthOf := goodIn_r _ [8, 9, 10, 11, 36, 37, 38, 39, 40, 41, 42, 43, 12, 13, 14, 15, 16, 17, 18, 19, 20, 21, 22, 23, 24] (by decide +kernel) (by decide +kernel)
set_option maxRecDepth 20000 in
theorem gX3_spoonsOfWay_X9_worthOf : GoodIn wsX3_spoonsOfWay (wsV RX3 73 RX9 yX9_worthOf wsX9_worthOf) := goodIn_app (goodIn_of _ (by decide +kernel)) ggX3_spoonsOfWay_X9_worthOf
theorem dX3_spoonsOfWay_0 : decode cX3_spoonsOfWay 0 = .ok (.iconst 0, 1) := by decide +kernel
theorem dX3_spoonsOfWay_1 : decode cX3_spoonsOfWay 1 = .ok (.istore_n 3, 1) := by decide +kernel
theorem dX3_spoonsOfWay_2 : decode cX3_spoonsOfWay 2 = .ok (.iconst 0, 1) := by decide +kernel
theorem dX3_spoonsOfWay_3 : decode cX3_spoonsOfWay 3 = .ok (.istore 4, 2) := by decide +kernel
theorem dX3_spoonsOfWay_5 : decode cX3_spoonsOfWay 5 = .ok (.iload 4, 2) := by decide +kernel
theorem dX3_spoonsOfWay_7 : decode cX3_spoonsOfWay 7 = .ok (.aload_n 1, 1) := by decide +kernel
theorem dX3_spoonsOfWay_8 : decode cX3_spoonsOfWay 8 = .ok (.getfield 59, 3) := by decide +kernel
theorem dX3_spoonsOfWay_11 : decode cX3_spoonsOfWay 11 = .ok (.if_icmp .ge 43, 3) := by decide +kernel
theorem dX3_spoonsOfWay_14 : decode cX3_spoonsOfWay 14 = .ok (.aload_n 0, 1) := by decide +kernel
theorem dX3_spoonsOfWay_15 : decode cX3_spoonsOfWay 15 = .ok (.getfield 28, 3) := by decide +kernel
theorem dX3_spoonsOfWay_18 : decode cX3_spoonsOfWay 18 = .ok (.getfield 58, 3) := by decide +kernel
theorem dX3_spoonsOfWay_21 : decode cX3_spoonsOfWay 21 = .ok (.iload 4, 2) := by decide +kernel
theorem dX3_spoonsOfWay_23 : decode cX3_spoonsOfWay 23 = .ok (.iaload, 1) := by decide +kernel
theorem dX3_spoonsOfWay_24 : decode cX3_spoonsOfWay 24 = .ok (.iconst (-1), 1) := by decide +kernel
theorem dX3_spoonsOfWay_25 : decode cX3_spoonsOfWay 25 = .ok (.if_icmp .eq 23, 3) := by decide +kernel
theorem dX3_spoonsOfWay_28 : decode cX3_spoonsOfWay 28 = .ok (.iload_n 3, 1) := by decide +kernel
theorem dX3_spoonsOfWay_29 : decode cX3_spoonsOfWay 29 = .ok (.aload_n 2, 1) := by decide +kernel
theorem dX3_spoonsOfWay_30 : decode cX3_spoonsOfWay 30 = .ok (.aload_n 1, 1) := by decide +kernel
theorem dX3_spoonsOfWay_31 : decode cX3_spoonsOfWay 31 = .ok (.iload 4, 2) := by decide +kernel
theorem dX3_spoonsOfWay_33 : decode cX3_spoonsOfWay 33 = .ok (.aload_n 0, 1) := by decide +kernel
theorem dX3_spoonsOfWay_34 : decode cX3_spoonsOfWay 34 = .ok (.getfield 28, 3) := by decide +kernel
theorem dX3_spoonsOfWay_37 : decode cX3_spoonsOfWay 37 = .ok (.getfield 58, 3) := by decide +kernel
theorem dX3_spoonsOfWay_40 : decode cX3_spoonsOfWay 40 = .ok (.iload 4, 2) := by decide +kernel
theorem dX3_spoonsOfWay_42 : decode cX3_spoonsOfWay 42 = .ok (.iaload, 1) := by decide +kernel
theorem dX3_spoonsOfWay_43 : decode cX3_spoonsOfWay 43 = .ok (.invokevirtual 73, 3) := by decide +kernel
theorem dX3_spoonsOfWay_46 : decode cX3_spoonsOfWay 46 = .ok (.iadd, 1) := by decide +kernel
theorem dX3_spoonsOfWay_47 : decode cX3_spoonsOfWay 47 = .ok (.istore_n 3, 1) := by decide +kernel
theorem dX3_spoonsOfWay_48 : decode cX3_spoonsOfWay 48 = .ok (.iinc 4 1, 3) := by decide +kernel
theorem dX3_spoonsOfWay_51 : decode cX3_spoonsOfWay 51 = .ok (.goto (-46), 3) := by decide +kernel
theorem dX3_spoonsOfWay_54 : decode cX3_spoonsOfWay 54 = .ok (.iload_n 3, 1) := by decide +kernel
theorem dX3_spoonsOfWay_55 : decode cX3_spoonsOfWay 55 = .ok (.ireturn, 1) := by decide +kernel
set_option maxRecDepth 20000 in
theorem ggX3_opensBy_X3_staysOpen : GoodIn wsX3_opensBy wsX3_staysOpen := goodIn_r _ [6, 7, 8, 9, 10, 11, 12, 13, 14, 15, 16, 17, 18, 19, 20, 21, 22, 23, 24, 25, 26, 27, 28, 29, 30, 31, 32, 33, 34, 35, 36, 37, 38, 39, 40, 41, 42, 43, 44, 45, 46, 47, 48, 49, 50, 51, 52, 53, 54, 55, 56, 57, 58, 59, 60, 61, 62, 63, 64, 65, 66, 67, 68, 69, 70, 71, 72, 73, 74, 75, 76, 77, 78, 79, 80, 81, 82, 83, 84, 85, 86, 87, 88, 89, 90, 91, 92, 93, 94, 95, 96, 97, 98, 99, 100, 101, 102] (by decide +kernel) (by decide +kernel)
set_option maxRecDepth 20000 in
theorem gX3_opensBy_X3_staysOpen : GoodIn wsX3_opensBy (wsV RX3 77 RX3 yX3_staysOpen wsX3_staysOpen) := goodIn_app (goodIn_of _ (by decide +kernel)) ggX3_opensBy_X3_staysOpen
theorem dX3_opensBy_0 : decode cX3_opensBy 0 = .ok (.aload_n 0, 1) := by decide +kernel
theorem dX3_opensBy_1 : decode cX3_opensBy 1 = .ok (.getfield 15, 3) := by decide +kernel
theorem dX3_opensBy_4 : decode cX3_opensBy 4 = .ok (.iload_n 3, 1) := by decide +kernel
theorem dX3_opensBy_5 : decode cX3_opensBy 5 = .ok (.iaload, 1) := by decide +kernel
theorem dX3_opensBy_6 : decode cX3_opensBy 6 = .ok (.ifCond .ne 26, 3) := by decide +kernel
theorem dX3_opensBy_9 : decode cX3_opensBy 9 = .ok (.aload_n 0, 1) := by decide +kernel
theorem dX3_opensBy_10 : decode cX3_opensBy 10 = .ok (.getfield 15, 3) := by decide +kernel
theorem dX3_opensBy_13 : decode cX3_opensBy 13 = .ok (.iload_n 3, 1) := by decide +kernel
theorem dX3_opensBy_14 : decode cX3_opensBy 14 = .ok (.aload_n 0, 1) := by decide +kernel
theorem dX3_opensBy_15 : decode cX3_opensBy 15 = .ok (.aload_n 1, 1) := by decide +kernel
theorem dX3_opensBy_16 : decode cX3_opensBy 16 = .ok (.aload_n 2, 1) := by decide +kernel
theorem dX3_opensBy_17 : decode cX3_opensBy 17 = .ok (.iload_n 3, 1) := by decide +kernel
theorem dX3_opensBy_18 : decode cX3_opensBy 18 = .ok (.iload 4, 2) := by decide +kernel
theorem dX3_opensBy_20 : decode cX3_opensBy 20 = .ok (.invokevirtual 77, 3) := by decide +kernel
theorem dX3_opensBy_23 : decode cX3_opensBy 23 = .ok (.ifCond .eq 7, 3) := by decide +kernel
theorem dX3_opensBy_26 : decode cX3_opensBy 26 = .ok (.iconst 1, 1) := by decide +kernel
theorem dX3_opensBy_27 : decode cX3_opensBy 27 = .ok (.goto 4, 3) := by decide +kernel
theorem dX3_opensBy_30 : decode cX3_opensBy 30 = .ok (.iconst 2, 1) := by decide +kernel
theorem dX3_opensBy_31 : decode cX3_opensBy 31 = .ok (.iastore, 1) := by decide +kernel
theorem dX3_opensBy_32 : decode cX3_opensBy 32 = .ok (.aload_n 0, 1) := by decide +kernel
theorem dX3_opensBy_33 : decode cX3_opensBy 33 = .ok (.getfield 15, 3) := by decide +kernel
theorem dX3_opensBy_36 : decode cX3_opensBy 36 = .ok (.iload_n 3, 1) := by decide +kernel
theorem dX3_opensBy_37 : decode cX3_opensBy 37 = .ok (.iaload, 1) := by decide +kernel
theorem dX3_opensBy_38 : decode cX3_opensBy 38 = .ok (.iconst 1, 1) := by decide +kernel
theorem dX3_opensBy_39 : decode cX3_opensBy 39 = .ok (.if_icmp .ne 7, 3) := by decide +kernel
theorem dX3_opensBy_42 : decode cX3_opensBy 42 = .ok (.iconst 1, 1) := by decide +kernel
theorem dX3_opensBy_43 : decode cX3_opensBy 43 = .ok (.goto 4, 3) := by decide +kernel
theorem dX3_opensBy_46 : decode cX3_opensBy 46 = .ok (.iconst 0, 1) := by decide +kernel
theorem dX3_opensBy_47 : decode cX3_opensBy 47 = .ok (.ireturn, 1) := by decide +kernel
set_option maxRecDepth 20000 in
theorem ggX3_fewestPosts_X5_allPosts : GoodIn wsX3_fewestPosts wsX5_allPosts := goodIn_r _ [6, 7, 84, 85, 86, 87, 88, 89, 90, 91, 92, 93, 94, 95, 96] (by decide +kernel) (by decide +kernel)
set_option maxRecDepth 20000 in
theorem gX3_fewestPosts_X5_allPosts : GoodIn wsX3_fewestPosts (wsV RX3 80 RX5 yX5_allPosts wsX5_allPosts) := goodIn_app (goodIn_of _ (by decide +kernel)) ggX3_fewestPosts_X5_allPosts
set_option maxRecDepth 20000 in
theorem ggX3_fewestPosts_J6_bitCount_0f7a4 : GoodIn wsX3_fewestPosts wsJ6_bitCount_0f7a4 := goodIn_r _ [11, 12, 13, 14] (by decide +kernel) (by decide +kernel)
set_option maxRecDepth 20000 in
theorem gX3_fewestPosts_J6_bitCount_0f7a4 : GoodIn wsX3_fewestPosts (va_wsS RX3 84 yJ6_bitCount_0f7a4 wsJ6_bitCount_0f7a4) := goodIn_app (goodIn_of _ (by decide +kernel)) ggX3_fewestPosts_J6_bitCount_0f7a4
set_option maxRecDepth 20000 in
theorem ggX3_fewestPosts_X3_staysOpen : GoodIn wsX3_fewestPosts wsX3_staysOpen := goodIn_r _ [19, 20, 21, 22, 23, 24, 25, 26, 27, 28, 29, 30, 31, 32, 33, 34, 35, 36, 37, 38, 2, 3, 4, 5, 6, 7, 39, 40, 41, 42, 43, 44, 45, 46, 47, 48, 49, 50, 51, 52, 53, 54, 55, 56, 57, 58, 59, 60, 61, 62, 63, 64, 65, 66, 67, 68, 69, 70, 71, 72, 73, 74, 75, 76, 77, 78, 79, 80, 81, 82, 83, 97, 98, 99, 100, 101, 102, 103, 104, 105, 106, 107, 108, 109, 84, 85, 86, 87, 88, 89, 90, 91, 92, 93, 94, 95, 96] (by decide +kernel) (by decide +kernel)
set_option maxRecDepth 20000 in
theorem gX3_fewestPosts_X3_staysOpen : GoodIn wsX3_fewestPosts (wsV RX3 77 RX3 yX3_staysOpen wsX3_staysOpen) := goodIn_app (goodIn_of _ (by decide +kernel)) ggX3_fewestPosts_X3_staysOpen
theorem dX3_fewestPosts_0 : decode cX3_fewestPosts 0 = .ok (.iconst 0, 1) := by decide +kernel
theorem dX3_fewestPosts_1 : decode cX3_fewestPosts 1 = .ok (.istore 4, 2) := by decide +kernel
theorem dX3_fewestPosts_3 : decode cX3_fewestPosts 3 = .ok (.iload 4, 2) := by decide +kernel
theorem dX3_fewestPosts_5 : decode cX3_fewestPosts 5 = .ok (.aload_n 1, 1) := by decide +kernel
theorem dX3_fewestPosts_6 : decode cX3_fewestPosts 6 = .ok (.getfield 59, 3) := by decide +kernel
theorem dX3_fewestPosts_9 : decode cX3_fewestPosts 9 = .ok (.if_icmp .gt 52, 3) := by decide +kernel
theorem dX3_fewestPosts_12 : decode cX3_fewestPosts 12 = .ok (.iconst 0, 1) := by decide +kernel
theorem dX3_fewestPosts_13 : decode cX3_fewestPosts 13 = .ok (.istore 5, 2) := by decide +kernel
theorem dX3_fewestPosts_15 : decode cX3_fewestPosts 15 = .ok (.iload 5, 2) := by decide +kernel
theorem dX3_fewestPosts_17 : decode cX3_fewestPosts 17 = .ok (.aload_n 1, 1) := by decide +kernel
theorem dX3_fewestPosts_18 : decode cX3_fewestPosts 18 = .ok (.invokevirtual 80, 3) := by decide +kernel
theorem dX3_fewestPosts_21 : decode cX3_fewestPosts 21 = .ok (.if_icmp .gt 34, 3) := by decide +kernel
theorem dX3_fewestPosts_24 : decode cX3_fewestPosts 24 = .ok (.iload 5, 2) := by decide +kernel
theorem dX3_fewestPosts_26 : decode cX3_fewestPosts 26 = .ok (.invokestatic 84, 3) := by decide +kernel
theorem dX3_fewestPosts_29 : decode cX3_fewestPosts 29 = .ok (.iload 4, 2) := by decide +kernel
theorem dX3_fewestPosts_31 : decode cX3_fewestPosts 31 = .ok (.if_icmp .ne 18, 3) := by decide +kernel
theorem dX3_fewestPosts_34 : decode cX3_fewestPosts 34 = .ok (.aload_n 0, 1) := by decide +kernel
theorem dX3_fewestPosts_35 : decode cX3_fewestPosts 35 = .ok (.aload_n 1, 1) := by decide +kernel
theorem dX3_fewestPosts_36 : decode cX3_fewestPosts 36 = .ok (.aload_n 2, 1) := by decide +kernel
theorem dX3_fewestPosts_37 : decode cX3_fewestPosts 37 = .ok (.iload 5, 2) := by decide +kernel
theorem dX3_fewestPosts_39 : decode cX3_fewestPosts 39 = .ok (.iload_n 3, 1) := by decide +kernel
theorem dX3_fewestPosts_40 : decode cX3_fewestPosts 40 = .ok (.invokevirtual 77, 3) := by decide +kernel
theorem dX3_fewestPosts_43 : decode cX3_fewestPosts 43 = .ok (.ifCond .eq 6, 3) := by decide +kernel
theorem dX3_fewestPosts_46 : decode cX3_fewestPosts 46 = .ok (.iload 5, 2) := by decide +kernel
theorem dX3_fewestPosts_48 : decode cX3_fewestPosts 48 = .ok (.ireturn, 1) := by decide +kernel
theorem dX3_fewestPosts_49 : decode cX3_fewestPosts 49 = .ok (.iinc 5 1, 3) := by decide +kernel
theorem dX3_fewestPosts_52 : decode cX3_fewestPosts 52 = .ok (.goto (-37), 3) := by decide +kernel
theorem dX3_fewestPosts_55 : decode cX3_fewestPosts 55 = .ok (.iinc 4 1, 3) := by decide +kernel
theorem dX3_fewestPosts_58 : decode cX3_fewestPosts 58 = .ok (.goto (-55), 3) := by decide +kernel
theorem dX3_fewestPosts_61 : decode cX3_fewestPosts 61 = .ok (.iconst (-1), 1) := by decide +kernel
theorem dX3_fewestPosts_62 : decode cX3_fewestPosts 62 = .ok (.ireturn, 1) := by decide +kernel
set_option maxRecDepth 20000 in
theorem ggX3_staysOpen_X9_copyFrom : GoodIn wsX3_staysOpen wsX9_copyFrom := goodIn_r _ [7, 8, 9, 10, 11, 12, 13, 14, 15, 16, 17, 18, 19, 76, 77, 78, 79, 80, 81, 82, 83] (by decide +kernel) (by decide +kernel)
set_option maxRecDepth 20000 in
theorem gX3_staysOpen_X9_copyFrom : GoodIn wsX3_staysOpen (wsV RX3 90 RX9 yX9_copyFrom wsX9_copyFrom) := goodIn_app (goodIn_of _ (by decide +kernel)) ggX3_staysOpen_X9_copyFrom
set_option maxRecDepth 20000 in
theorem ggX3_staysOpen_X5_allPosts : GoodIn wsX3_staysOpen wsX5_allPosts := goodIn_r _ [24, 25, 84, 85, 86, 87, 88, 89, 90, 91, 92, 93, 94, 95, 96] (by decide +kernel) (by decide +kernel)
set_option maxRecDepth 20000 in
theorem gX3_staysOpen_X5_allPosts : GoodIn wsX3_staysOpen (wsV RX3 80 RX5 yX5_allPosts wsX5_allPosts) := goodIn_app (goodIn_of _ (by decide +kernel)) ggX3_staysOpen_X5_allPosts
set_option maxRecDepth 20000 in
theorem ggX3_staysOpen_X9_roadIsOpen : GoodIn wsX3_staysOpen wsX9_roadIsOpen := goodIn_r _ [29, 30, 31, 32, 33, 6, 34, 35, 8, 36, 37, 38, 39, 23, 40, 41, 84, 85, 86, 87, 88, 89, 90, 91, 92, 93, 94, 95, 96, 76, 77, 78, 79, 80, 81, 82, 83] (by decide +kernel) (by decide +kernel)
set_option maxRecDepth 20000 in
theorem gX3_staysOpen_X9_roadIsOpen : GoodIn wsX3_staysOpen (wsV RX3 97 RX9 yX9_roadIsOpen wsX9_roadIsOpen) := goodIn_app (goodIn_of _ (by decide +kernel)) ggX3_staysOpen_X9_roadIsOpen
set_option maxRecDepth 20000 in
theorem ggX3_staysOpen_X9_passHours : GoodIn wsX3_staysOpen wsX9_passHours := goodIn_r _ [45, 46, 18, 47, 48, 49, 50, 51, 6, 52, 53, 54, 55, 56, 57, 17, 58, 35, 8, 59, 60, 61, 62, 63, 64, 23, 65, 66, 67, 68, 69, 70, 13, 84, 85, 86, 87, 88, 89, 90, 91, 92, 93, 94, 95, 96, 76, 77, 78, 79, 80, 81, 82, 83] (by decide +kernel) (by decide +kernel)
set_option maxRecDepth 20000 in
theorem gX3_staysOpen_X9_passHours : GoodIn wsX3_staysOpen (wsV RX3 101 RX9 yX9_passHours wsX9_passHours) := goodIn_app (goodIn_of _ (by decide +kernel)) ggX3_staysOpen_X9_passHours
theorem dX3_staysOpen_0 : decode cX3_staysOpen 0 = .ok (.aload_n 0, 1) := by decide +kernel
theorem dX3_staysOpen_1 : decode cX3_staysOpen 1 = .ok (.getfield 21, 3) := by decide +kernel
theorem dX3_staysOpen_4 : decode cX3_staysOpen 4 = .ok (.aload_n 2, 1) := by decide +kernel
theorem dX3_staysOpen_5 : decode cX3_staysOpen 5 = .ok (.invokevirtual 90, 3) := by decide +kernel
theorem dX3_staysOpen_8 : decode cX3_staysOpen 8 = .ok (.aload_n 0, 1) := by decide +kernel
theorem dX3_staysOpen_9 : decode cX3_staysOpen 9 = .ok (.getfield 21, 3) := by decide +kernel
theorem dX3_staysOpen_12 : decode cX3_staysOpen 12 = .ok (.aload_n 1, 1) := by decide +kernel
theorem dX3_staysOpen_13 : decode cX3_staysOpen 13 = .ok (.invokevirtual 80, 3) := by decide +kernel
theorem dX3_staysOpen_16 : decode cX3_staysOpen 16 = .ok (.putfield 94, 3) := by decide +kernel
theorem dX3_staysOpen_19 : decode cX3_staysOpen 19 = .ok (.aload_n 0, 1) := by decide +kernel
theorem dX3_staysOpen_20 : decode cX3_staysOpen 20 = .ok (.getfield 21, 3) := by decide +kernel
theorem dX3_staysOpen_23 : decode cX3_staysOpen 23 = .ok (.aload_n 1, 1) := by decide +kernel
theorem dX3_staysOpen_24 : decode cX3_staysOpen 24 = .ok (.invokevirtual 97, 3) := by decide +kernel
theorem dX3_staysOpen_27 : decode cX3_staysOpen 27 = .ok (.istore 5, 2) := by decide +kernel
theorem dX3_staysOpen_29 : decode cX3_staysOpen 29 = .ok (.iconst 0, 1) := by decide +kernel
theorem dX3_staysOpen_30 : decode cX3_staysOpen 30 = .ok (.istore 6, 2) := by decide +kernel
theorem dX3_staysOpen_32 : decode cX3_staysOpen 32 = .ok (.iload 6, 2) := by decide +kernel
theorem dX3_staysOpen_34 : decode cX3_staysOpen 34 = .ok (.iload 4, 2) := by decide +kernel
theorem dX3_staysOpen_36 : decode cX3_staysOpen 36 = .ok (.if_icmp .ge 34, 3) := by decide +kernel
theorem dX3_staysOpen_39 : decode cX3_staysOpen 39 = .ok (.iload 5, 2) := by decide +kernel
theorem dX3_staysOpen_41 : decode cX3_staysOpen 41 = .ok (.ifCond .eq 29, 3) := by decide +kernel
theorem dX3_staysOpen_44 : decode cX3_staysOpen 44 = .ok (.aload_n 0, 1) := by decide +kernel
theorem dX3_staysOpen_45 : decode cX3_staysOpen 45 = .ok (.getfield 21, 3) := by decide +kernel
theorem dX3_staysOpen_48 : decode cX3_staysOpen 48 = .ok (.aload_n 1, 1) := by decide +kernel
theorem dX3_staysOpen_49 : decode cX3_staysOpen 49 = .ok (.iconst 1, 1) := by decide +kernel
theorem dX3_staysOpen_50 : decode cX3_staysOpen 50 = .ok (.iload_n 3, 1) := by decide +kernel
theorem dX3_staysOpen_51 : decode cX3_staysOpen 51 = .ok (.invokevirtual 101, 3) := by decide +kernel
theorem dX3_staysOpen_54 : decode cX3_staysOpen 54 = .ok (.aload_n 0, 1) := by decide +kernel
theorem dX3_staysOpen_55 : decode cX3_staysOpen 55 = .ok (.getfield 21, 3) := by decide +kernel
theorem dX3_staysOpen_58 : decode cX3_staysOpen 58 = .ok (.aload_n 1, 1) := by decide +kernel
theorem dX3_staysOpen_59 : decode cX3_staysOpen 59 = .ok (.invokevirtual 97, 3) := by decide +kernel
theorem dX3_staysOpen_62 : decode cX3_staysOpen 62 = .ok (.istore 5, 2) := by decide +kernel
theorem dX3_staysOpen_64 : decode cX3_staysOpen 64 = .ok (.iinc 6 1, 3) := by decide +kernel
theorem dX3_staysOpen_67 : decode cX3_staysOpen 67 = .ok (.goto (-35), 3) := by decide +kernel
theorem dX3_staysOpen_70 : decode cX3_staysOpen 70 = .ok (.iload 5, 2) := by decide +kernel
theorem dX3_staysOpen_72 : decode cX3_staysOpen 72 = .ok (.ireturn, 1) := by decide +kernel
set_option maxRecDepth 20000 in
theorem ggX4_init_X9_init : GoodIn wsX4_init wsX9_init := goodIn_r _ [9, 10, 2, 3, 11, 12, 13, 14, 15, 16, 20, 21, 22, 23, 24, 25, 26, 27] (by decide +kernel) (by decide +kernel)
set_option maxRecDepth 20000 in
theorem gX4_init_X9_init_n17 : GoodIn wsX4_init (wsX9_init) := ggX4_init_X9_init
theorem dX4_init_0 : decode cX4_init 0 = .ok (.aload_n 0, 1) := by decide +kernel
theorem dX4_init_1 : decode cX4_init 1 = .ok (.invokespecial 3, 3) := by decide +kernel
theorem dX4_init_4 : decode cX4_init 4 = .ok (.aload_n 0, 1) := by decide +kernel
theorem dX4_init_5 : decode cX4_init 5 = .ok (.bipush 20, 2) := by decide +kernel
theorem dX4_init_7 : decode cX4_init 7 = .ok (.anewarray 9, 3) := by decide +kernel
theorem dX4_init_10 : decode cX4_init 10 = .ok (.putfield 11, 3) := by decide +kernel
theorem dX4_init_13 : decode cX4_init 13 = .ok (.iconst 0, 1) := by decide +kernel
theorem dX4_init_14 : decode cX4_init 14 = .ok (.istore_n 1, 1) := by decide +kernel
theorem dX4_init_15 : decode cX4_init 15 = .ok (.iload_n 1, 1) := by decide +kernel
theorem dX4_init_16 : decode cX4_init 16 = .ok (.bipush 20, 2) := by decide +kernel
theorem dX4_init_18 : decode cX4_init 18 = .ok (.if_icmp .ge 22, 3) := by decide +kernel
theorem dX4_init_21 : decode cX4_init 21 = .ok (.aload_n 0, 1) := by decide +kernel
theorem dX4_init_22 : decode cX4_init 22 = .ok (.getfield 11, 3) := by decide +kernel
theorem dX4_init_25 : decode cX4_init 25 = .ok (.iload_n 1, 1) := by decide +kernel
theorem dX4_init_26 : decode cX4_init 26 = .ok (.new 9, 3) := by decide +kernel
theorem dX4_init_29 : decode cX4_init 29 = .ok (.dup, 1) := by decide +kernel
theorem dX4_init_30 : decode cX4_init 30 = .ok (.invokespecial 17, 3) := by decide +kernel
theorem dX4_init_33 : decode cX4_init 33 = .ok (.aastore, 1) := by decide +kernel
theorem dX4_init_34 : decode cX4_init 34 = .ok (.iinc 1 1, 3) := by decide +kernel
theorem dX4_init_37 : decode cX4_init 37 = .ok (.goto (-22), 3) := by decide +kernel
theorem dX4_init_40 : decode cX4_init 40 = .ok (.return_, 1) := by decide +kernel
set_option maxRecDepth 20000 in
theorem ggX4_note_X9_copyFrom : GoodIn wsX4_note wsX9_copyFrom := goodIn_r _ [12, 13, 14, 15, 16, 17, 18, 19, 20, 21, 22, 23, 24, 28, 29, 30, 31, 32, 33, 34, 35] (by decide +kernel) (by decide +kernel)
set_option maxRecDepth 20000 in
theorem gX4_note_X9_copyFrom : GoodIn wsX4_note (wsV RX4 22 RX9 yX9_copyFrom wsX9_copyFrom) := goodIn_app (goodIn_of _ (by decide +kernel)) ggX4_note_X9_copyFrom
theorem dX4_note_0 : decode cX4_note 0 = .ok (.aload_n 0, 1) := by decide +kernel
theorem dX4_note_1 : decode cX4_note 1 = .ok (.aload_n 0, 1) := by decide +kernel
theorem dX4_note_2 : decode cX4_note 2 = .ok (.getfield 18, 3) := by decide +kernel
theorem dX4_note_5 : decode cX4_note 5 = .ok (.iconst 1, 1) := by decide +kernel
theorem dX4_note_6 : decode cX4_note 6 = .ok (.iadd, 1) := by decide +kernel
theorem dX4_note_7 : decode cX4_note 7 = .ok (.bipush 20, 2) := by decide +kernel
theorem dX4_note_9 : decode cX4_note 9 = .ok (.irem, 1) := by decide +kernel
theorem dX4_note_10 : decode cX4_note 10 = .ok (.putfield 18, 3) := by decide +kernel
theorem dX4_note_13 : decode cX4_note 13 = .ok (.aload_n 0, 1) := by decide +kernel
theorem dX4_note_14 : decode cX4_note 14 = .ok (.getfield 11, 3) := by decide +kernel
theorem dX4_note_17 : decode cX4_note 17 = .ok (.aload_n 0, 1) := by decide +kernel
theorem dX4_note_18 : decode cX4_note 18 = .ok (.getfield 18, 3) := by decide +kernel
theorem dX4_note_21 : decode cX4_note 21 = .ok (.aaload, 1) := by decide +kernel
theorem dX4_note_22 : decode cX4_note 22 = .ok (.aload_n 1, 1) := by decide +kernel
theorem dX4_note_23 : decode cX4_note 23 = .ok (.invokevirtual 22, 3) := by decide +kernel
theorem dX4_note_26 : decode cX4_note 26 = .ok (.aload_n 0, 1) := by decide +kernel
theorem dX4_note_27 : decode cX4_note 27 = .ok (.bipush 20, 2) := by decide +kernel
theorem dX4_note_29 : decode cX4_note 29 = .ok (.aload_n 0, 1) := by decide +kernel
theorem dX4_note_30 : decode cX4_note 30 = .ok (.getfield 26, 3) := by decide +kernel
theorem dX4_note_33 : decode cX4_note 33 = .ok (.iconst 1, 1) := by decide +kernel
theorem dX4_note_34 : decode cX4_note 34 = .ok (.iadd, 1) := by decide +kernel
theorem dX4_note_35 : decode cX4_note 35 = .ok (.invokestatic 29, 3) := by decide +kernel
theorem dX4_note_38 : decode cX4_note 38 = .ok (.putfield 26, 3) := by decide +kernel
theorem dX4_note_41 : decode cX4_note 41 = .ok (.return_, 1) := by decide +kernel
set_option maxRecDepth 20000 in
theorem ggX4_bringBack_X9_copyFrom : GoodIn wsX4_bringBack wsX9_copyFrom := goodIn_r _ [8, 9, 10, 11, 12, 13, 14, 15, 16, 17, 18, 19, 20, 24, 25, 26, 27, 28, 29, 30, 31] (by decide +kernel) (by decide +kernel)
set_option maxRecDepth 20000 in
theorem gX4_bringBack_X9_copyFrom : GoodIn wsX4_bringBack (wsV RX4 22 RX9 yX9_copyFrom wsX9_copyFrom) := goodIn_app (goodIn_of _ (by decide +kernel)) ggX4_bringBack_X9_copyFrom
theorem dX4_bringBack_0 : decode cX4_bringBack 0 = .ok (.aload_n 1, 1) := by decide +kernel
theorem dX4_bringBack_1 : decode cX4_bringBack 1 = .ok (.aload_n 0, 1) := by decide +kernel
theorem dX4_bringBack_2 : decode cX4_bringBack 2 = .ok (.getfield 11, 3) := by decide +kernel
theorem dX4_bringBack_5 : decode cX4_bringBack 5 = .ok (.aload_n 0, 1) := by decide +kernel
theorem dX4_bringBack_6 : decode cX4_bringBack 6 = .ok (.getfield 18, 3) := by decide +kernel
theorem dX4_bringBack_9 : decode cX4_bringBack 9 = .ok (.aaload, 1) := by decide +kernel
theorem dX4_bringBack_10 : decode cX4_bringBack 10 = .ok (.invokevirtual 22, 3) := by decide +kernel
theorem dX4_bringBack_13 : decode cX4_bringBack 13 = .ok (.aload_n 0, 1) := by decide +kernel
theorem dX4_bringBack_14 : decode cX4_bringBack 14 = .ok (.aload_n 0, 1) := by decide +kernel
theorem dX4_bringBack_15 : decode cX4_bringBack 15 = .ok (.getfield 18, 3) := by decide +kernel
theorem dX4_bringBack_18 : decode cX4_bringBack 18 = .ok (.bipush 20, 2) := by decide +kernel
theorem dX4_bringBack_20 : decode cX4_bringBack 20 = .ok (.iadd, 1) := by decide +kernel
theorem dX4_bringBack_21 : decode cX4_bringBack 21 = .ok (.iconst 1, 1) := by decide +kernel
theorem dX4_bringBack_22 : decode cX4_bringBack 22 = .ok (.isub, 1) := by decide +kernel
theorem dX4_bringBack_23 : decode cX4_bringBack 23 = .ok (.bipush 20, 2) := by decide +kernel
theorem dX4_bringBack_25 : decode cX4_bringBack 25 = .ok (.irem, 1) := by decide +kernel
theorem dX4_bringBack_26 : decode cX4_bringBack 26 = .ok (.putfield 18, 3) := by decide +kernel
theorem dX4_bringBack_29 : decode cX4_bringBack 29 = .ok (.aload_n 0, 1) := by decide +kernel
theorem dX4_bringBack_30 : decode cX4_bringBack 30 = .ok (.dup, 1) := by decide +kernel
theorem dX4_bringBack_31 : decode cX4_bringBack 31 = .ok (.getfield 26, 3) := by decide +kernel
theorem dX4_bringBack_34 : decode cX4_bringBack 34 = .ok (.iconst 1, 1) := by decide +kernel
theorem dX4_bringBack_35 : decode cX4_bringBack 35 = .ok (.isub, 1) := by decide +kernel
theorem dX4_bringBack_36 : decode cX4_bringBack 36 = .ok (.putfield 26, 3) := by decide +kernel
theorem dX4_bringBack_39 : decode cX4_bringBack 39 = .ok (.return_, 1) := by decide +kernel
theorem dX4_forget_0 : decode cX4_forget 0 = .ok (.aload_n 0, 1) := by decide +kernel
theorem dX4_forget_1 : decode cX4_forget 1 = .ok (.iconst 0, 1) := by decide +kernel
theorem dX4_forget_2 : decode cX4_forget 2 = .ok (.putfield 26, 3) := by decide +kernel
theorem dX4_forget_5 : decode cX4_forget 5 = .ok (.return_, 1) := by decide +kernel
theorem dX5_init_0 : decode cX5_init 0 = .ok (.aload_n 0, 1) := by decide +kernel
theorem dX5_init_1 : decode cX5_init 1 = .ok (.invokespecial 3, 3) := by decide +kernel
theorem dX5_init_4 : decode cX5_init 4 = .ok (.aload_n 0, 1) := by decide +kernel
theorem dX5_init_5 : decode cX5_init 5 = .ok (.bipush 6, 2) := by decide +kernel
theorem dX5_init_7 : decode cX5_init 7 = .ok (.newarray .int, 2) := by decide +kernel
theorem dX5_init_9 : decode cX5_init 9 = .ok (.putfield 9, 3) := by decide +kernel
theorem dX5_init_12 : decode cX5_init 12 = .ok (.aload_n 0, 1) := by decide +kernel
theorem dX5_init_13 : decode cX5_init 13 = .ok (.bipush 6, 2) := by decide +kernel
theorem dX5_init_15 : decode cX5_init 15 = .ok (.newarray .int, 2) := by decide +kernel
theorem dX5_init_17 : decode cX5_init 17 = .ok (.putfield 15, 3) := by decide +kernel
theorem dX5_init_20 : decode cX5_init 20 = .ok (.aload_n 0, 1) := by decide +kernel
theorem dX5_init_21 : decode cX5_init 21 = .ok (.iconst 5, 1) := by decide +kernel
theorem dX5_init_22 : decode cX5_init 22 = .ok (.newarray .int, 2) := by decide +kernel
theorem dX5_init_24 : decode cX5_init 24 = .ok (.putfield 18, 3) := by decide +kernel
theorem dX5_init_27 : decode cX5_init 27 = .ok (.aload_n 0, 1) := by decide +kernel
theorem dX5_init_28 : decode cX5_init 28 = .ok (.iconst 5, 1) := by decide +kernel
theorem dX5_init_29 : decode cX5_init 29 = .ok (.newarray .int, 2) := by decide +kernel
theorem dX5_init_31 : decode cX5_init 31 = .ok (.putfield 21, 3) := by decide +kernel
theorem dX5_init_34 : decode cX5_init 34 = .ok (.aload_n 0, 1) := by decide +kernel
theorem dX5_init_35 : decode cX5_init 35 = .ok (.bipush 10, 2) := by decide +kernel
theorem dX5_init_37 : decode cX5_init 37 = .ok (.newarray .int, 2) := by decide +kernel
theorem dX5_init_39 : decode cX5_init 39 = .ok (.putfield 24, 3) := by decide +kernel
theorem dX5_init_42 : decode cX5_init 42 = .ok (.aload_n 0, 1) := by decide +kernel
theorem dX5_init_43 : decode cX5_init 43 = .ok (.bipush 10, 2) := by decide +kernel
theorem dX5_init_45 : decode cX5_init 45 = .ok (.newarray .int, 2) := by decide +kernel
theorem dX5_init_47 : decode cX5_init 47 = .ok (.putfield 27, 3) := by decide +kernel
theorem dX5_init_50 : decode cX5_init 50 = .ok (.return_, 1) := by decide +kernel
theorem dX5_clear_0 : decode cX5_clear 0 = .ok (.aload_n 0, 1) := by decide +kernel
theorem dX5_clear_1 : decode cX5_clear 1 = .ok (.iconst 0, 1) := by decide +kernel
theorem dX5_clear_2 : decode cX5_clear 2 = .ok (.putfield 30, 3) := by decide +kernel
theorem dX5_clear_5 : decode cX5_clear 5 = .ok (.aload_n 0, 1) := by decide +kernel
theorem dX5_clear_6 : decode cX5_clear 6 = .ok (.iconst 0, 1) := by decide +kernel
theorem dX5_clear_7 : decode cX5_clear 7 = .ok (.putfield 34, 3) := by decide +kernel
theorem dX5_clear_10 : decode cX5_clear 10 = .ok (.aload_n 0, 1) := by decide +kernel
theorem dX5_clear_11 : decode cX5_clear 11 = .ok (.iconst 0, 1) := by decide +kernel
theorem dX5_clear_12 : decode cX5_clear 12 = .ok (.putfield 37, 3) := by decide +kernel
theorem dX5_clear_15 : decode cX5_clear 15 = .ok (.aload_n 0, 1) := by decide +kernel
theorem dX5_clear_16 : decode cX5_clear 16 = .ok (.iconst 0, 1) := by decide +kernel
theorem dX5_clear_17 : decode cX5_clear 17 = .ok (.putfield 40, 3) := by decide +kernel
theorem dX5_clear_20 : decode cX5_clear 20 = .ok (.aload_n 0, 1) := by decide +kernel
theorem dX5_clear_21 : decode cX5_clear 21 = .ok (.iconst 0, 1) := by decide +kernel
theorem dX5_clear_22 : decode cX5_clear 22 = .ok (.putfield 43, 3) := by decide +kernel
theorem dX5_clear_25 : decode cX5_clear 25 = .ok (.return_, 1) := by decide +kernel
theorem dX5_isRoad_0 : decode cX5_isRoad 0 = .ok (.aload_n 0, 1) := by decide +kernel
theorem dX5_isRoad_1 : decode cX5_isRoad 1 = .ok (.getfield 34, 3) := by decide +kernel
theorem dX5_isRoad_4 : decode cX5_isRoad 4 = .ok (.iload_n 1, 1) := by decide +kernel
theorem dX5_isRoad_5 : decode cX5_isRoad 5 = .ok (.ishr, 1) := by decide +kernel
theorem dX5_isRoad_6 : decode cX5_isRoad 6 = .ok (.iconst 1, 1) := by decide +kernel
theorem dX5_isRoad_7 : decode cX5_isRoad 7 = .ok (.iand, 1) := by decide +kernel
theorem dX5_isRoad_8 : decode cX5_isRoad 8 = .ok (.ifCond .eq 7, 3) := by decide +kernel
theorem dX5_isRoad_11 : decode cX5_isRoad 11 = .ok (.iconst 1, 1) := by decide +kernel
theorem dX5_isRoad_12 : decode cX5_isRoad 12 = .ok (.goto 4, 3) := by decide +kernel
theorem dX5_isRoad_15 : decode cX5_isRoad 15 = .ok (.iconst 0, 1) := by decide +kernel
theorem dX5_isRoad_16 : decode cX5_isRoad 16 = .ok (.ireturn, 1) := by decide +kernel
theorem dX5_hasPostIn_0 : decode cX5_hasPostIn 0 = .ok (.iconst 0, 1) := by decide +kernel
theorem dX5_hasPostIn_1 : decode cX5_hasPostIn 1 = .ok (.istore_n 2, 1) := by decide +kernel
theorem dX5_hasPostIn_2 : decode cX5_hasPostIn 2 = .ok (.iload_n 2, 1) := by decide +kernel
theorem dX5_hasPostIn_3 : decode cX5_hasPostIn 3 = .ok (.aload_n 0, 1) := by decide +kernel
theorem dX5_hasPostIn_4 : decode cX5_hasPostIn 4 = .ok (.getfield 37, 3) := by decide +kernel
theorem dX5_hasPostIn_7 : decode cX5_hasPostIn 7 = .ok (.if_icmp .ge 21, 3) := by decide +kernel
theorem dX5_hasPostIn_10 : decode cX5_hasPostIn 10 = .ok (.aload_n 0, 1) := by decide +kernel
theorem dX5_hasPostIn_11 : decode cX5_hasPostIn 11 = .ok (.getfield 9, 3) := by decide +kernel
theorem dX5_hasPostIn_14 : decode cX5_hasPostIn 14 = .ok (.iload_n 2, 1) := by decide +kernel
theorem dX5_hasPostIn_15 : decode cX5_hasPostIn 15 = .ok (.iaload, 1) := by decide +kernel
theorem dX5_hasPostIn_16 : decode cX5_hasPostIn 16 = .ok (.iload_n 1, 1) := by decide +kernel
theorem dX5_hasPostIn_17 : decode cX5_hasPostIn 17 = .ok (.if_icmp .ne 5, 3) := by decide +kernel
theorem dX5_hasPostIn_20 : decode cX5_hasPostIn 20 = .ok (.iconst 1, 1) := by decide +kernel
theorem dX5_hasPostIn_21 : decode cX5_hasPostIn 21 = .ok (.ireturn, 1) := by decide +kernel
theorem dX5_hasPostIn_22 : decode cX5_hasPostIn 22 = .ok (.iinc 2 1, 3) := by decide +kernel
theorem dX5_hasPostIn_25 : decode cX5_hasPostIn 25 = .ok (.goto (-23), 3) := by decide +kernel
theorem dX5_hasPostIn_28 : decode cX5_hasPostIn 28 = .ok (.iconst 0, 1) := by decide +kernel
theorem dX5_hasPostIn_29 : decode cX5_hasPostIn 29 = .ok (.ireturn, 1) := by decide +kernel
theorem dX5_allCells_0 : decode cX5_allCells 0 = .ok (.iconst 1, 1) := by decide +kernel
theorem dX5_allCells_1 : decode cX5_allCells 1 = .ok (.aload_n 0, 1) := by decide +kernel
theorem dX5_allCells_2 : decode cX5_allCells 2 = .ok (.getfield 30, 3) := by decide +kernel
theorem dX5_allCells_5 : decode cX5_allCells 5 = .ok (.ishl, 1) := by decide +kernel
theorem dX5_allCells_6 : decode cX5_allCells 6 = .ok (.iconst 1, 1) := by decide +kernel
theorem dX5_allCells_7 : decode cX5_allCells 7 = .ok (.isub, 1) := by decide +kernel
theorem dX5_allCells_8 : decode cX5_allCells 8 = .ok (.ireturn, 1) := by decide +kernel
theorem dX5_allPosts_0 : decode cX5_allPosts 0 = .ok (.iconst 1, 1) := by decide +kernel
theorem dX5_allPosts_1 : decode cX5_allPosts 1 = .ok (.aload_n 0, 1) := by decide +kernel
theorem dX5_allPosts_2 : decode cX5_allPosts 2 = .ok (.getfield 37, 3) := by decide +kernel
theorem dX5_allPosts_5 : decode cX5_allPosts 5 = .ok (.ishl, 1) := by decide +kernel
theorem dX5_allPosts_6 : decode cX5_allPosts 6 = .ok (.iconst 1, 1) := by decide +kernel
theorem dX5_allPosts_7 : decode cX5_allPosts 7 = .ok (.isub, 1) := by decide +kernel
theorem dX5_allPosts_8 : decode cX5_allPosts 8 = .ok (.ireturn, 1) := by decide +kernel
set_option maxRecDepth 20000 in
theorem ggX6_init_X8_init : GoodIn wsX6_init wsX8_init := goodIn_r _ [14, 15, 2, 3, 4, 16, 25, 26, 27, 28, 29, 30] (by decide +kernel) (by decide +kernel)
set_option maxRecDepth 20000 in
theorem gX6_init_X8_init_n26 : GoodIn wsX6_init (wsX8_init) := ggX6_init_X8_init
theorem dX6_init_0 : decode cX6_init 0 = .ok (.aload_n 0, 1) := by decide +kernel
theorem dX6_init_1 : decode cX6_init 1 = .ok (.invokespecial 3, 3) := by decide +kernel
theorem dX6_init_4 : decode cX6_init 4 = .ok (.aload_n 0, 1) := by decide +kernel
theorem dX6_init_5 : decode cX6_init 5 = .ok (.bipush 6, 2) := by decide +kernel
theorem dX6_init_7 : decode cX6_init 7 = .ok (.newarray .int, 2) := by decide +kernel
theorem dX6_init_9 : decode cX6_init 9 = .ok (.putfield 9, 3) := by decide +kernel
theorem dX6_init_12 : decode cX6_init 12 = .ok (.aload_n 0, 1) := by decide +kernel
theorem dX6_init_13 : decode cX6_init 13 = .ok (.bipush 6, 2) := by decide +kernel
theorem dX6_init_15 : decode cX6_init 15 = .ok (.newarray .int, 2) := by decide +kernel
theorem dX6_init_17 : decode cX6_init 17 = .ok (.putfield 15, 3) := by decide +kernel
theorem dX6_init_20 : decode cX6_init 20 = .ok (.aload_n 0, 1) := by decide +kernel
theorem dX6_init_21 : decode cX6_init 21 = .ok (.bipush 6, 2) := by decide +kernel
theorem dX6_init_23 : decode cX6_init 23 = .ok (.newarray .int, 2) := by decide +kernel
theorem dX6_init_25 : decode cX6_init 25 = .ok (.putfield 18, 3) := by decide +kernel
theorem dX6_init_28 : decode cX6_init 28 = .ok (.aload_n 0, 1) := by decide +kernel
theorem dX6_init_29 : decode cX6_init 29 = .ok (.bipush 6, 2) := by decide +kernel
theorem dX6_init_31 : decode cX6_init 31 = .ok (.newarray .int, 2) := by decide +kernel
theorem dX6_init_33 : decode cX6_init 33 = .ok (.putfield 21, 3) := by decide +kernel
theorem dX6_init_36 : decode cX6_init 36 = .ok (.aload_n 0, 1) := by decide +kernel
theorem dX6_init_37 : decode cX6_init 37 = .ok (.new 24, 3) := by decide +kernel
theorem dX6_init_40 : decode cX6_init 40 = .ok (.dup, 1) := by decide +kernel
theorem dX6_init_41 : decode cX6_init 41 = .ok (.invokespecial 26, 3) := by decide +kernel
theorem dX6_init_44 : decode cX6_init 44 = .ok (.putfield 27, 3) := by decide +kernel
theorem dX6_init_47 : decode cX6_init 47 = .ok (.return_, 1) := by decide +kernel
theorem dX6_note_0 : decode cX6_note 0 = .ok (.aload_n 0, 1) := by decide +kernel
theorem dX6_note_1 : decode cX6_note 1 = .ok (.getfield 9, 3) := by decide +kernel
theorem dX6_note_4 : decode cX6_note 4 = .ok (.aload_n 0, 1) := by decide +kernel
theorem dX6_note_5 : decode cX6_note 5 = .ok (.getfield 31, 3) := by decide +kernel
theorem dX6_note_8 : decode cX6_note 8 = .ok (.iload_n 1, 1) := by decide +kernel
theorem dX6_note_9 : decode cX6_note 9 = .ok (.iastore, 1) := by decide +kernel
theorem dX6_note_10 : decode cX6_note 10 = .ok (.aload_n 0, 1) := by decide +kernel
theorem dX6_note_11 : decode cX6_note 11 = .ok (.getfield 15, 3) := by decide +kernel
theorem dX6_note_14 : decode cX6_note 14 = .ok (.aload_n 0, 1) := by decide +kernel
theorem dX6_note_15 : decode cX6_note 15 = .ok (.getfield 31, 3) := by decide +kernel
theorem dX6_note_18 : decode cX6_note 18 = .ok (.iload_n 2, 1) := by decide +kernel
theorem dX6_note_19 : decode cX6_note 19 = .ok (.iastore, 1) := by decide +kernel
theorem dX6_note_20 : decode cX6_note 20 = .ok (.aload_n 0, 1) := by decide +kernel
theorem dX6_note_21 : decode cX6_note 21 = .ok (.dup, 1) := by decide +kernel
theorem dX6_note_22 : decode cX6_note 22 = .ok (.getfield 31, 3) := by decide +kernel
theorem dX6_note_25 : decode cX6_note 25 = .ok (.iconst 1, 1) := by decide +kernel
theorem dX6_note_26 : decode cX6_note 26 = .ok (.iadd, 1) := by decide +kernel
theorem dX6_note_27 : decode cX6_note 27 = .ok (.putfield 31, 3) := by decide +kernel
theorem dX6_note_30 : decode cX6_note 30 = .ok (.return_, 1) := by decide +kernel
set_option maxRecDepth 20000 in
theorem ggX6_subletters_X6_gatherSeen : GoodIn wsX6_subletters wsX6_gatherSeen := goodIn_r _ [7, 8, 2, 9, 10, 11, 20, 21, 22, 23, 24, 25, 26, 27] (by decide +kernel) (by decide +kernel)
set_option maxRecDepth 20000 in
theorem gX6_subletters_X6_gatherSeen : GoodIn wsX6_subletters (wsV RX6 35 RX6 yX6_gatherSeen wsX6_gatherSeen) := goodIn_app (goodIn_of _ (by decide +kernel)) ggX6_subletters_X6_gatherSeen
theorem dX6_subletters_0 : decode cX6_subletters 0 = .ok (.aload_n 0, 1) := by decide +kernel
theorem dX6_subletters_1 : decode cX6_subletters 1 = .ok (.invokevirtual 35, 3) := by decide +kernel
theorem dX6_subletters_4 : decode cX6_subletters 4 = .ok (.iconst 0, 1) := by decide +kernel
theorem dX6_subletters_5 : decode cX6_subletters 5 = .ok (.istore_n 2, 1) := by decide +kernel
theorem dX6_subletters_6 : decode cX6_subletters 6 = .ok (.iconst 0, 1) := by decide +kernel
theorem dX6_subletters_7 : decode cX6_subletters 7 = .ok (.istore_n 3, 1) := by decide +kernel
theorem dX6_subletters_8 : decode cX6_subletters 8 = .ok (.iload_n 3, 1) := by decide +kernel
theorem dX6_subletters_9 : decode cX6_subletters 9 = .ok (.bipush 6, 2) := by decide +kernel
theorem dX6_subletters_11 : decode cX6_subletters 11 = .ok (.if_icmp .ge 53, 3) := by decide +kernel
theorem dX6_subletters_14 : decode cX6_subletters 14 = .ok (.aload_n 1, 1) := by decide +kernel
theorem dX6_subletters_15 : decode cX6_subletters 15 = .ok (.getfield 38, 3) := by decide +kernel
theorem dX6_subletters_18 : decode cX6_subletters 18 = .ok (.iload_n 3, 1) := by decide +kernel
theorem dX6_subletters_19 : decode cX6_subletters 19 = .ok (.iaload, 1) := by decide +kernel
theorem dX6_subletters_20 : decode cX6_subletters 20 = .ok (.istore 4, 2) := by decide +kernel
theorem dX6_subletters_22 : decode cX6_subletters 22 = .ok (.iload 4, 2) := by decide +kernel
theorem dX6_subletters_24 : decode cX6_subletters 24 = .ok (.iconst (-1), 1) := by decide +kernel
theorem dX6_subletters_25 : decode cX6_subletters 25 = .ok (.if_icmp .eq 33, 3) := by decide +kernel
theorem dX6_subletters_28 : decode cX6_subletters 28 = .ok (.aload_n 0, 1) := by decide +kernel
theorem dX6_subletters_29 : decode cX6_subletters 29 = .ok (.getfield 18, 3) := by decide +kernel
theorem dX6_subletters_32 : decode cX6_subletters 32 = .ok (.iload_n 3, 1) := by decide +kernel
theorem dX6_subletters_33 : decode cX6_subletters 33 = .ok (.iaload, 1) := by decide +kernel
theorem dX6_subletters_34 : decode cX6_subletters 34 = .ok (.ifCond .eq 24, 3) := by decide +kernel
theorem dX6_subletters_37 : decode cX6_subletters 37 = .ok (.aload_n 0, 1) := by decide +kernel
theorem dX6_subletters_38 : decode cX6_subletters 38 = .ok (.getfield 18, 3) := by decide +kernel
theorem dX6_subletters_41 : decode cX6_subletters 41 = .ok (.iload_n 3, 1) := by decide +kernel
theorem dX6_subletters_42 : decode cX6_subletters 42 = .ok (.iaload, 1) := by decide +kernel
theorem dX6_subletters_43 : decode cX6_subletters 43 = .ok (.iload 4, 2) := by decide +kernel
theorem dX6_subletters_45 : decode cX6_subletters 45 = .ok (.ishr, 1) := by decide +kernel
theorem dX6_subletters_46 : decode cX6_subletters 46 = .ok (.iconst 1, 1) := by decide +kernel
theorem dX6_subletters_47 : decode cX6_subletters 47 = .ok (.iand, 1) := by decide +kernel
theorem dX6_subletters_48 : decode cX6_subletters 48 = .ok (.ifCond .ne 10, 3) := by decide +kernel
theorem dX6_subletters_51 : decode cX6_subletters 51 = .ok (.iload_n 2, 1) := by decide +kernel
theorem dX6_subletters_52 : decode cX6_subletters 52 = .ok (.iconst 1, 1) := by decide +kernel
theorem dX6_subletters_53 : decode cX6_subletters 53 = .ok (.iload 4, 2) := by decide +kernel
theorem dX6_subletters_55 : decode cX6_subletters 55 = .ok (.ishl, 1) := by decide +kernel
theorem dX6_subletters_56 : decode cX6_subletters 56 = .ok (.ior, 1) := by decide +kernel
theorem dX6_subletters_57 : decode cX6_subletters 57 = .ok (.istore_n 2, 1) := by decide +kernel
theorem dX6_subletters_58 : decode cX6_subletters 58 = .ok (.iinc 3 1, 3) := by decide +kernel
theorem dX6_subletters_61 : decode cX6_subletters 61 = .ok (.goto (-53), 3) := by decide +kernel
theorem dX6_subletters_64 : decode cX6_subletters 64 = .ok (.iload_n 2, 1) := by decide +kernel
theorem dX6_subletters_65 : decode cX6_subletters 65 = .ok (.ireturn, 1) := by decide +kernel
theorem dX6_guests_0 : decode cX6_guests 0 = .ok (.iconst 0, 1) := by decide +kernel
theorem dX6_guests_1 : decode cX6_guests 1 = .ok (.istore_n 2, 1) := by decide +kernel
theorem dX6_guests_2 : decode cX6_guests 2 = .ok (.iconst 0, 1) := by decide +kernel
theorem dX6_guests_3 : decode cX6_guests 3 = .ok (.istore_n 3, 1) := by decide +kernel
theorem dX6_guests_4 : decode cX6_guests 4 = .ok (.iload_n 3, 1) := by decide +kernel
theorem dX6_guests_5 : decode cX6_guests 5 = .ok (.aload_n 0, 1) := by decide +kernel
theorem dX6_guests_6 : decode cX6_guests 6 = .ok (.getfield 31, 3) := by decide +kernel
theorem dX6_guests_9 : decode cX6_guests 9 = .ok (.if_icmp .ge 50, 3) := by decide +kernel
theorem dX6_guests_12 : decode cX6_guests 12 = .ok (.aload_n 1, 1) := by decide +kernel
theorem dX6_guests_13 : decode cX6_guests 13 = .ok (.getfield 38, 3) := by decide +kernel
theorem dX6_guests_16 : decode cX6_guests 16 = .ok (.aload_n 0, 1) := by decide +kernel
theorem dX6_guests_17 : decode cX6_guests 17 = .ok (.getfield 15, 3) := by decide +kernel
theorem dX6_guests_20 : decode cX6_guests 20 = .ok (.iload_n 3, 1) := by decide +kernel
theorem dX6_guests_21 : decode cX6_guests 21 = .ok (.iaload, 1) := by decide +kernel
theorem dX6_guests_22 : decode cX6_guests 22 = .ok (.iaload, 1) := by decide +kernel
theorem dX6_guests_23 : decode cX6_guests 23 = .ok (.istore 4, 2) := by decide +kernel
theorem dX6_guests_25 : decode cX6_guests 25 = .ok (.iload 4, 2) := by decide +kernel
theorem dX6_guests_27 : decode cX6_guests 27 = .ok (.iconst (-1), 1) := by decide +kernel
theorem dX6_guests_28 : decode cX6_guests 28 = .ok (.if_icmp .eq 25, 3) := by decide +kernel
theorem dX6_guests_31 : decode cX6_guests 31 = .ok (.iload 4, 2) := by decide +kernel
theorem dX6_guests_33 : decode cX6_guests 33 = .ok (.aload_n 0, 1) := by decide +kernel
theorem dX6_guests_34 : decode cX6_guests 34 = .ok (.getfield 9, 3) := by decide +kernel
theorem dX6_guests_37 : decode cX6_guests 37 = .ok (.iload_n 3, 1) := by decide +kernel
theorem dX6_guests_38 : decode cX6_guests 38 = .ok (.iaload, 1) := by decide +kernel
theorem dX6_guests_39 : decode cX6_guests 39 = .ok (.if_icmp .eq 14, 3) := by decide +kernel
theorem dX6_guests_42 : decode cX6_guests 42 = .ok (.iload_n 2, 1) := by decide +kernel
theorem dX6_guests_43 : decode cX6_guests 43 = .ok (.iconst 1, 1) := by decide +kernel
theorem dX6_guests_44 : decode cX6_guests 44 = .ok (.aload_n 0, 1) := by decide +kernel
theorem dX6_guests_45 : decode cX6_guests 45 = .ok (.getfield 9, 3) := by decide +kernel
theorem dX6_guests_48 : decode cX6_guests 48 = .ok (.iload_n 3, 1) := by decide +kernel
theorem dX6_guests_49 : decode cX6_guests 49 = .ok (.iaload, 1) := by decide +kernel
theorem dX6_guests_50 : decode cX6_guests 50 = .ok (.ishl, 1) := by decide +kernel
theorem dX6_guests_51 : decode cX6_guests 51 = .ok (.ior, 1) := by decide +kernel
theorem dX6_guests_52 : decode cX6_guests 52 = .ok (.istore_n 2, 1) := by decide +kernel
theorem dX6_guests_53 : decode cX6_guests 53 = .ok (.iinc 3 1, 3) := by decide +kernel
theorem dX6_guests_56 : decode cX6_guests 56 = .ok (.goto (-52), 3) := by decide +kernel
theorem dX6_guests_59 : decode cX6_guests 59 = .ok (.iload_n 2, 1) := by decide +kernel
theorem dX6_guests_60 : decode cX6_guests 60 = .ok (.ireturn, 1) := by decide +kernel
set_option maxRecDepth 20000 in
theorem ggX6_findWays_X6_gatherSeen : GoodIn wsX6_findWays wsX6_gatherSeen := goodIn_r _ [10, 11, 12, 13, 14, 15, 54, 55, 56, 57, 58, 59, 60, 61] (by decide +kernel) (by decide +kernel)
set_option maxRecDepth 20000 in
theorem gX6_findWays_X6_gatherSeen : GoodIn wsX6_findWays (wsV RX6 35 RX6 yX6_gatherSeen wsX6_gatherSeen) := goodIn_app (goodIn_of _ (by decide +kernel)) ggX6_findWays_X6_gatherSeen
set_option maxRecDepth 20000 in
theorem ggX6_findWays_X8_begin : GoodIn wsX6_findWays wsX8_begin := goodIn_r _ [20, 21, 22, 23, 24, 25, 26, 27, 28, 29, 30, 19, 31, 32, 33, 34, 35, 36, 68, 69, 70, 71, 72, 73, 74, 75, 76, 77, 78, 79, 80, 62, 63, 64, 65, 66, 67] (by decide +kernel) (by decide +kernel)
set_option maxRecDepth 20000 in
theorem gX6_findWays_X8_begin : GoodIn wsX6_findWays (wsV RX6 46 RX8 yX8_begin wsX8_begin) := goodIn_app (goodIn_of _ (by decide +kernel)) ggX6_findWays_X8_begin
set_option maxRecDepth 20000 in
theorem ggX6_findWays_X6_wayFits : GoodIn wsX6_findWays wsX6_wayFits := goodIn_r _ [40, 12, 3, 41, 42, 43, 44, 9, 45, 11, 54, 55, 56, 57, 58, 59, 60, 61, 62, 63, 64, 65, 66, 67] (by decide +kernel) (by decide +kernel)
set_option maxRecDepth 20000 in
theorem gX6_findWays_X6_wayFits : GoodIn wsX6_findWays (wsV RX6 59 RX6 yX6_wayFits wsX6_wayFits) := goodIn_app (goodIn_of _ (by decide +kernel)) ggX6_findWays_X6_wayFits
set_option maxRecDepth 20000 in
theorem ggX6_findWays_X6_countWay : GoodIn wsX6_findWays wsX6_countWay := goodIn_r _ [49, 1, 2, 3, 41, 54, 55, 56, 57, 58, 59, 60, 61, 62, 63, 64, 65, 66, 67] (by decide +kernel) (by decide +kernel)
set_option maxRecDepth 20000 in
theorem gX6_findWays_X6_countWay : GoodIn wsX6_findWays (wsV RX6 63 RX6 yX6_countWay wsX6_countWay) := goodIn_app (goodIn_of _ (by decide +kernel)) ggX6_findWays_X6_countWay
set_option maxRecDepth 20000 in
theorem ggX6_findWays_X8_advance : GoodIn wsX6_findWays wsX8_advance := goodIn_r _ [53, 22, 32, 26, 25, 27, 28, 29, 30, 19, 31, 33, 34, 35, 36, 24, 62, 63, 64, 65, 66, 67] (by decide +kernel) (by decide +kernel)
set_option maxRecDepth 20000 in
theorem gX6_findWays_X8_advance : GoodIn wsX6_findWays (wsV RX6 67 RX8 yX8_advance wsX8_advance) := goodIn_app (goodIn_of _ (by decide +kernel)) ggX6_findWays_X8_advance
theorem dX6_findWays_0 : decode cX6_findWays 0 = .ok (.aload_n 0, 1) := by decide +kernel
theorem dX6_findWays_1 : decode cX6_findWays 1 = .ok (.invokevirtual 35, 3) := by decide +kernel
theorem dX6_findWays_4 : decode cX6_findWays 4 = .ok (.aload_n 0, 1) := by decide +kernel
theorem dX6_findWays_5 : decode cX6_findWays 5 = .ok (.iconst 0, 1) := by decide +kernel
theorem dX6_findWays_6 : decode cX6_findWays 6 = .ok (.putfield 43, 3) := by decide +kernel
theorem dX6_findWays_9 : decode cX6_findWays 9 = .ok (.iconst 0, 1) := by decide +kernel
theorem dX6_findWays_10 : decode cX6_findWays 10 = .ok (.istore_n 2, 1) := by decide +kernel
theorem dX6_findWays_11 : decode cX6_findWays 11 = .ok (.iload_n 2, 1) := by decide +kernel
theorem dX6_findWays_12 : decode cX6_findWays 12 = .ok (.bipush 6, 2) := by decide +kernel
theorem dX6_findWays_14 : decode cX6_findWays 14 = .ok (.if_icmp .ge 16, 3) := by decide +kernel
theorem dX6_findWays_17 : decode cX6_findWays 17 = .ok (.aload_n 0, 1) := by decide +kernel
theorem dX6_findWays_18 : decode cX6_findWays 18 = .ok (.getfield 21, 3) := by decide +kernel
theorem dX6_findWays_21 : decode cX6_findWays 21 = .ok (.iload_n 2, 1) := by decide +kernel
theorem dX6_findWays_22 : decode cX6_findWays 22 = .ok (.iconst 0, 1) := by decide +kernel
theorem dX6_findWays_23 : decode cX6_findWays 23 = .ok (.iastore, 1) := by decide +kernel
theorem dX6_findWays_24 : decode cX6_findWays 24 = .ok (.iinc 2 1, 3) := by decide +kernel
theorem dX6_findWays_27 : decode cX6_findWays 27 = .ok (.goto (-16), 3) := by decide +kernel
theorem dX6_findWays_30 : decode cX6_findWays 30 = .ok (.aload_n 0, 1) := by decide +kernel
theorem dX6_findWays_31 : decode cX6_findWays 31 = .ok (.getfield 27, 3) := by decide +kernel
theorem dX6_findWays_34 : decode cX6_findWays 34 = .ok (.aload_n 1, 1) := by decide +kernel
theorem dX6_findWays_35 : decode cX6_findWays 35 = .ok (.invokevirtual 46, 3) := by decide +kernel
theorem dX6_findWays_38 : decode cX6_findWays 38 = .ok (.iconst 0, 1) := by decide +kernel
theorem dX6_findWays_39 : decode cX6_findWays 39 = .ok (.istore_n 2, 1) := by decide +kernel
theorem dX6_findWays_40 : decode cX6_findWays 40 = .ok (.iload_n 2, 1) := by decide +kernel
theorem dX6_findWays_41 : decode cX6_findWays 41 = .ok (.sipush 5000, 3) := by decide +kernel
theorem dX6_findWays_44 : decode cX6_findWays 44 = .ok (.if_icmp .ge 45, 3) := by decide +kernel
theorem dX6_findWays_47 : decode cX6_findWays 47 = .ok (.aload_n 0, 1) := by decide +kernel
theorem dX6_findWays_48 : decode cX6_findWays 48 = .ok (.getfield 27, 3) := by decide +kernel
theorem dX6_findWays_51 : decode cX6_findWays 51 = .ok (.getfield 50, 3) := by decide +kernel
theorem dX6_findWays_54 : decode cX6_findWays 54 = .ok (.ifCond .ne 35, 3) := by decide +kernel
theorem dX6_findWays_57 : decode cX6_findWays 57 = .ok (.aload_n 0, 1) := by decide +kernel
theorem dX6_findWays_58 : decode cX6_findWays 58 = .ok (.aload_n 1, 1) := by decide +kernel
theorem dX6_findWays_59 : decode cX6_findWays 59 = .ok (.getfield 54, 3) := by decide +kernel
theorem dX6_findWays_62 : decode cX6_findWays 62 = .ok (.invokevirtual 59, 3) := by decide +kernel
theorem dX6_findWays_65 : decode cX6_findWays 65 = .ok (.ifCond .eq 11, 3) := by decide +kernel
theorem dX6_findWays_68 : decode cX6_findWays 68 = .ok (.aload_n 0, 1) := by decide +kernel
theorem dX6_findWays_69 : decode cX6_findWays 69 = .ok (.aload_n 1, 1) := by decide +kernel
theorem dX6_findWays_70 : decode cX6_findWays 70 = .ok (.getfield 54, 3) := by decide +kernel
theorem dX6_findWays_73 : decode cX6_findWays 73 = .ok (.invokevirtual 63, 3) := by decide +kernel
theorem dX6_findWays_76 : decode cX6_findWays 76 = .ok (.aload_n 0, 1) := by decide +kernel
theorem dX6_findWays_77 : decode cX6_findWays 77 = .ok (.getfield 27, 3) := by decide +kernel
theorem dX6_findWays_80 : decode cX6_findWays 80 = .ok (.invokevirtual 67, 3) := by decide +kernel
theorem dX6_findWays_83 : decode cX6_findWays 83 = .ok (.iinc 2 1, 3) := by decide +kernel
theorem dX6_findWays_86 : decode cX6_findWays 86 = .ok (.goto (-46), 3) := by decide +kernel
theorem dX6_findWays_89 : decode cX6_findWays 89 = .ok (.return_, 1) := by decide +kernel
set_option maxRecDepth 20000 in
theorem ggX6_postToLookAt_J6_bitCount_0f7a4 : GoodIn wsX6_postToLookAt wsJ6_bitCount_0f7a4 := goodIn_r _ [5, 6, 7, 8] (by decide +kernel) (by decide +kernel)
set_option maxRecDepth 20000 in
theorem gX6_postToLookAt_J6_bitCount_0f7a4 : GoodIn wsX6_postToLookAt (va_wsS RX6 70 yJ6_bitCount_0f7a4 wsJ6_bitCount_0f7a4) := goodIn_app (goodIn_of _ (by decide +kernel)) ggX6_postToLookAt_J6_bitCount_0f7a4
theorem dX6_postToLookAt_0 : decode cX6_postToLookAt 0 = .ok (.iconst (-1), 1) := by decide +kernel
theorem dX6_postToLookAt_1 : decode cX6_postToLookAt 1 = .ok (.istore_n 2, 1) := by decide +kernel
theorem dX6_postToLookAt_2 : decode cX6_postToLookAt 2 = .ok (.iconst 0, 1) := by decide +kernel
theorem dX6_postToLookAt_3 : decode cX6_postToLookAt 3 = .ok (.istore_n 3, 1) := by decide +kernel
theorem dX6_postToLookAt_4 : decode cX6_postToLookAt 4 = .ok (.iconst 0, 1) := by decide +kernel
theorem dX6_postToLookAt_5 : decode cX6_postToLookAt 5 = .ok (.istore 4, 2) := by decide +kernel
theorem dX6_postToLookAt_7 : decode cX6_postToLookAt 7 = .ok (.iload 4, 2) := by decide +kernel
theorem dX6_postToLookAt_9 : decode cX6_postToLookAt 9 = .ok (.iload_n 1, 1) := by decide +kernel
theorem dX6_postToLookAt_10 : decode cX6_postToLookAt 10 = .ok (.if_icmp .ge 33, 3) := by decide +kernel
theorem dX6_postToLookAt_13 : decode cX6_postToLookAt 13 = .ok (.aload_n 0, 1) := by decide +kernel
theorem dX6_postToLookAt_14 : decode cX6_postToLookAt 14 = .ok (.getfield 21, 3) := by decide +kernel
theorem dX6_postToLookAt_17 : decode cX6_postToLookAt 17 = .ok (.iload 4, 2) := by decide +kernel
theorem dX6_postToLookAt_19 : decode cX6_postToLookAt 19 = .ok (.iaload, 1) := by decide +kernel
theorem dX6_postToLookAt_20 : decode cX6_postToLookAt 20 = .ok (.invokestatic 70, 3) := by decide +kernel
theorem dX6_postToLookAt_23 : decode cX6_postToLookAt 23 = .ok (.istore 5, 2) := by decide +kernel
theorem dX6_postToLookAt_25 : decode cX6_postToLookAt 25 = .ok (.iload 5, 2) := by decide +kernel
theorem dX6_postToLookAt_27 : decode cX6_postToLookAt 27 = .ok (.iload_n 3, 1) := by decide +kernel
theorem dX6_postToLookAt_28 : decode cX6_postToLookAt 28 = .ok (.if_icmp .le 9, 3) := by decide +kernel
theorem dX6_postToLookAt_31 : decode cX6_postToLookAt 31 = .ok (.iload 5, 2) := by decide +kernel
theorem dX6_postToLookAt_33 : decode cX6_postToLookAt 33 = .ok (.istore_n 3, 1) := by decide +kernel
theorem dX6_postToLookAt_34 : decode cX6_postToLookAt 34 = .ok (.iload 4, 2) := by decide +kernel
theorem dX6_postToLookAt_36 : decode cX6_postToLookAt 36 = .ok (.istore_n 2, 1) := by decide +kernel
theorem dX6_postToLookAt_37 : decode cX6_postToLookAt 37 = .ok (.iinc 4 1, 3) := by decide +kernel
theorem dX6_postToLookAt_40 : decode cX6_postToLookAt 40 = .ok (.goto (-33), 3) := by decide +kernel
theorem dX6_postToLookAt_43 : decode cX6_postToLookAt 43 = .ok (.iload_n 2, 1) := by decide +kernel
theorem dX6_postToLookAt_44 : decode cX6_postToLookAt 44 = .ok (.ireturn, 1) := by decide +kernel
theorem dX6_gatherSeen_0 : decode cX6_gatherSeen 0 = .ok (.aload_n 0, 1) := by decide +kernel
theorem dX6_gatherSeen_1 : decode cX6_gatherSeen 1 = .ok (.iconst 0, 1) := by decide +kernel
theorem dX6_gatherSeen_2 : decode cX6_gatherSeen 2 = .ok (.putfield 76, 3) := by decide +kernel
theorem dX6_gatherSeen_5 : decode cX6_gatherSeen 5 = .ok (.iconst 0, 1) := by decide +kernel
theorem dX6_gatherSeen_6 : decode cX6_gatherSeen 6 = .ok (.istore_n 1, 1) := by decide +kernel
theorem dX6_gatherSeen_7 : decode cX6_gatherSeen 7 = .ok (.iload_n 1, 1) := by decide +kernel
theorem dX6_gatherSeen_8 : decode cX6_gatherSeen 8 = .ok (.bipush 6, 2) := by decide +kernel
theorem dX6_gatherSeen_10 : decode cX6_gatherSeen 10 = .ok (.if_icmp .ge 16, 3) := by decide +kernel
theorem dX6_gatherSeen_13 : decode cX6_gatherSeen 13 = .ok (.aload_n 0, 1) := by decide +kernel
theorem dX6_gatherSeen_14 : decode cX6_gatherSeen 14 = .ok (.getfield 18, 3) := by decide +kernel
theorem dX6_gatherSeen_17 : decode cX6_gatherSeen 17 = .ok (.iload_n 1, 1) := by decide +kernel
theorem dX6_gatherSeen_18 : decode cX6_gatherSeen 18 = .ok (.iconst 0, 1) := by decide +kernel
theorem dX6_gatherSeen_19 : decode cX6_gatherSeen 19 = .ok (.iastore, 1) := by decide +kernel
theorem dX6_gatherSeen_20 : decode cX6_gatherSeen 20 = .ok (.iinc 1 1, 3) := by decide +kernel
theorem dX6_gatherSeen_23 : decode cX6_gatherSeen 23 = .ok (.goto (-16), 3) := by decide +kernel
theorem dX6_gatherSeen_26 : decode cX6_gatherSeen 26 = .ok (.iconst 0, 1) := by decide +kernel
theorem dX6_gatherSeen_27 : decode cX6_gatherSeen 27 = .ok (.istore_n 1, 1) := by decide +kernel
theorem dX6_gatherSeen_28 : decode cX6_gatherSeen 28 = .ok (.iload_n 1, 1) := by decide +kernel
theorem dX6_gatherSeen_29 : decode cX6_gatherSeen 29 = .ok (.aload_n 0, 1) := by decide +kernel
theorem dX6_gatherSeen_30 : decode cX6_gatherSeen 30 = .ok (.getfield 31, 3) := by decide +kernel
theorem dX6_gatherSeen_33 : decode cX6_gatherSeen 33 = .ok (.if_icmp .ge 48, 3) := by decide +kernel
theorem dX6_gatherSeen_36 : decode cX6_gatherSeen 36 = .ok (.aload_n 0, 1) := by decide +kernel
theorem dX6_gatherSeen_37 : decode cX6_gatherSeen 37 = .ok (.getfield 18, 3) := by decide +kernel
theorem dX6_gatherSeen_40 : decode cX6_gatherSeen 40 = .ok (.aload_n 0, 1) := by decide +kernel
theorem dX6_gatherSeen_41 : decode cX6_gatherSeen 41 = .ok (.getfield 15, 3) := by decide +kernel
theorem dX6_gatherSeen_44 : decode cX6_gatherSeen 44 = .ok (.iload_n 1, 1) := by decide +kernel
theorem dX6_gatherSeen_45 : decode cX6_gatherSeen 45 = .ok (.iaload, 1) := by decide +kernel
theorem dX6_gatherSeen_46 : decode cX6_gatherSeen 46 = .ok (.dup2, 1) := by decide +kernel
theorem dX6_gatherSeen_47 : decode cX6_gatherSeen 47 = .ok (.iaload, 1) := by decide +kernel
theorem dX6_gatherSeen_48 : decode cX6_gatherSeen 48 = .ok (.iconst 1, 1) := by decide +kernel
theorem dX6_gatherSeen_49 : decode cX6_gatherSeen 49 = .ok (.aload_n 0, 1) := by decide +kernel
theorem dX6_gatherSeen_50 : decode cX6_gatherSeen 50 = .ok (.getfield 9, 3) := by decide +kernel
theorem dX6_gatherSeen_53 : decode cX6_gatherSeen 53 = .ok (.iload_n 1, 1) := by decide +kernel
theorem dX6_gatherSeen_54 : decode cX6_gatherSeen 54 = .ok (.iaload, 1) := by decide +kernel
theorem dX6_gatherSeen_55 : decode cX6_gatherSeen 55 = .ok (.ishl, 1) := by decide +kernel
theorem dX6_gatherSeen_56 : decode cX6_gatherSeen 56 = .ok (.ior, 1) := by decide +kernel
theorem dX6_gatherSeen_57 : decode cX6_gatherSeen 57 = .ok (.iastore, 1) := by decide +kernel
theorem dX6_gatherSeen_58 : decode cX6_gatherSeen 58 = .ok (.aload_n 0, 1) := by decide +kernel
theorem dX6_gatherSeen_59 : decode cX6_gatherSeen 59 = .ok (.dup, 1) := by decide +kernel
theorem dX6_gatherSeen_60 : decode cX6_gatherSeen 60 = .ok (.getfield 76, 3) := by decide +kernel
theorem dX6_gatherSeen_63 : decode cX6_gatherSeen 63 = .ok (.iconst 1, 1) := by decide +kernel
theorem dX6_gatherSeen_64 : decode cX6_gatherSeen 64 = .ok (.aload_n 0, 1) := by decide +kernel
theorem dX6_gatherSeen_65 : decode cX6_gatherSeen 65 = .ok (.getfield 9, 3) := by decide +kernel
theorem dX6_gatherSeen_68 : decode cX6_gatherSeen 68 = .ok (.iload_n 1, 1) := by decide +kernel
theorem dX6_gatherSeen_69 : decode cX6_gatherSeen 69 = .ok (.iaload, 1) := by decide +kernel
theorem dX6_gatherSeen_70 : decode cX6_gatherSeen 70 = .ok (.ishl, 1) := by decide +kernel
theorem dX6_gatherSeen_71 : decode cX6_gatherSeen 71 = .ok (.ior, 1) := by decide +kernel
theorem dX6_gatherSeen_72 : decode cX6_gatherSeen 72 = .ok (.putfield 76, 3) := by decide +kernel
theorem dX6_gatherSeen_75 : decode cX6_gatherSeen 75 = .ok (.iinc 1 1, 3) := by decide +kernel
theorem dX6_gatherSeen_78 : decode cX6_gatherSeen 78 = .ok (.goto (-50), 3) := by decide +kernel
theorem dX6_gatherSeen_81 : decode cX6_gatherSeen 81 = .ok (.return_, 1) := by decide +kernel
set_option maxRecDepth 20000 in
theorem ggX6_wayFits_X6_mayHave : GoodIn wsX6_wayFits wsX6_mayHave := goodIn_r _ [8, 1, 9, 10, 11, 12, 13, 14, 15, 16, 17] (by decide +kernel) (by decide +kernel)
set_option maxRecDepth 20000 in
theorem gX6_wayFits_X6_mayHave : GoodIn wsX6_wayFits (wsV RX6 80 RX6 yX6_mayHave wsX6_mayHave) := goodIn_app (goodIn_of _ (by decide +kernel)) ggX6_wayFits_X6_mayHave
theorem dX6_wayFits_0 : decode cX6_wayFits 0 = .ok (.iconst 0, 1) := by decide +kernel
theorem dX6_wayFits_1 : decode cX6_wayFits 1 = .ok (.istore_n 2, 1) := by decide +kernel
theorem dX6_wayFits_2 : decode cX6_wayFits 2 = .ok (.iload_n 2, 1) := by decide +kernel
theorem dX6_wayFits_3 : decode cX6_wayFits 3 = .ok (.iload_n 1, 1) := by decide +kernel
theorem dX6_wayFits_4 : decode cX6_wayFits 4 = .ok (.if_icmp .ge 37, 3) := by decide +kernel
theorem dX6_wayFits_7 : decode cX6_wayFits 7 = .ok (.aload_n 0, 1) := by decide +kernel
theorem dX6_wayFits_8 : decode cX6_wayFits 8 = .ok (.getfield 18, 3) := by decide +kernel
theorem dX6_wayFits_11 : decode cX6_wayFits 11 = .ok (.iload_n 2, 1) := by decide +kernel
theorem dX6_wayFits_12 : decode cX6_wayFits 12 = .ok (.iaload, 1) := by decide +kernel
theorem dX6_wayFits_13 : decode cX6_wayFits 13 = .ok (.ifCond .eq 22, 3) := by decide +kernel
theorem dX6_wayFits_16 : decode cX6_wayFits 16 = .ok (.aload_n 0, 1) := by decide +kernel
theorem dX6_wayFits_17 : decode cX6_wayFits 17 = .ok (.iload_n 2, 1) := by decide +kernel
theorem dX6_wayFits_18 : decode cX6_wayFits 18 = .ok (.aload_n 0, 1) := by decide +kernel
theorem dX6_wayFits_19 : decode cX6_wayFits 19 = .ok (.getfield 27, 3) := by decide +kernel
theorem dX6_wayFits_22 : decode cX6_wayFits 22 = .ok (.getfield 79, 3) := by decide +kernel
theorem dX6_wayFits_25 : decode cX6_wayFits 25 = .ok (.iload_n 2, 1) := by decide +kernel
theorem dX6_wayFits_26 : decode cX6_wayFits 26 = .ok (.iaload, 1) := by decide +kernel
theorem dX6_wayFits_27 : decode cX6_wayFits 27 = .ok (.invokevirtual 80, 3) := by decide +kernel
theorem dX6_wayFits_30 : decode cX6_wayFits 30 = .ok (.ifCond .ne 5, 3) := by decide +kernel
theorem dX6_wayFits_33 : decode cX6_wayFits 33 = .ok (.iconst 0, 1) := by decide +kernel
theorem dX6_wayFits_34 : decode cX6_wayFits 34 = .ok (.ireturn, 1) := by decide +kernel
theorem dX6_wayFits_35 : decode cX6_wayFits 35 = .ok (.iinc 2 1, 3) := by decide +kernel
theorem dX6_wayFits_38 : decode cX6_wayFits 38 = .ok (.goto (-36), 3) := by decide +kernel
theorem dX6_wayFits_41 : decode cX6_wayFits 41 = .ok (.iconst 1, 1) := by decide +kernel
theorem dX6_wayFits_42 : decode cX6_wayFits 42 = .ok (.ireturn, 1) := by decide +kernel
theorem dX6_mayHave_0 : decode cX6_mayHave 0 = .ok (.iload_n 2, 1) := by decide +kernel
theorem dX6_mayHave_1 : decode cX6_mayHave 1 = .ok (.iconst (-1), 1) := by decide +kernel
theorem dX6_mayHave_2 : decode cX6_mayHave 2 = .ok (.if_icmp .ne 5, 3) := by decide +kernel
theorem dX6_mayHave_5 : decode cX6_mayHave 5 = .ok (.iconst 0, 1) := by decide +kernel
theorem dX6_mayHave_6 : decode cX6_mayHave 6 = .ok (.ireturn, 1) := by decide +kernel
theorem dX6_mayHave_7 : decode cX6_mayHave 7 = .ok (.aload_n 0, 1) := by decide +kernel
theorem dX6_mayHave_8 : decode cX6_mayHave 8 = .ok (.getfield 18, 3) := by decide +kernel
theorem dX6_mayHave_11 : decode cX6_mayHave 11 = .ok (.iload_n 1, 1) := by decide +kernel
theorem dX6_mayHave_12 : decode cX6_mayHave 12 = .ok (.iaload, 1) := by decide +kernel
theorem dX6_mayHave_13 : decode cX6_mayHave 13 = .ok (.iload_n 2, 1) := by decide +kernel
theorem dX6_mayHave_14 : decode cX6_mayHave 14 = .ok (.ishr, 1) := by decide +kernel
theorem dX6_mayHave_15 : decode cX6_mayHave 15 = .ok (.iconst 1, 1) := by decide +kernel
theorem dX6_mayHave_16 : decode cX6_mayHave 16 = .ok (.iand, 1) := by decide +kernel
theorem dX6_mayHave_17 : decode cX6_mayHave 17 = .ok (.ifCond .ne 14, 3) := by decide +kernel
theorem dX6_mayHave_20 : decode cX6_mayHave 20 = .ok (.aload_n 0, 1) := by decide +kernel
theorem dX6_mayHave_21 : decode cX6_mayHave 21 = .ok (.getfield 76, 3) := by decide +kernel
theorem dX6_mayHave_24 : decode cX6_mayHave 24 = .ok (.iload_n 2, 1) := by decide +kernel
theorem dX6_mayHave_25 : decode cX6_mayHave 25 = .ok (.ishr, 1) := by decide +kernel
theorem dX6_mayHave_26 : decode cX6_mayHave 26 = .ok (.iconst 1, 1) := by decide +kernel
