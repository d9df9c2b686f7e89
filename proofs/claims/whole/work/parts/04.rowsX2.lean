theorem dX6_mayHave_27 : decode cX6_mayHave 27 = .ok (.iand, 1) := by decide +kernel
theorem dX6_mayHave_28 : decode cX6_mayHave 28 = .ok (.ifCond .ne 7, 3) := by decide +kernel
theorem dX6_mayHave_31 : decode cX6_mayHave 31 = .ok (.iconst 1, 1) := by decide +kernel
theorem dX6_mayHave_32 : decode cX6_mayHave 32 = .ok (.goto 4, 3) := by decide +kernel
theorem dX6_mayHave_35 : decode cX6_mayHave 35 = .ok (.iconst 0, 1) := by decide +kernel
theorem dX6_mayHave_36 : decode cX6_mayHave 36 = .ok (.ireturn, 1) := by decide +kernel
theorem dX6_countWay_0 : decode cX6_countWay 0 = .ok (.aload_n 0, 1) := by decide +kernel
theorem dX6_countWay_1 : decode cX6_countWay 1 = .ok (.dup, 1) := by decide +kernel
theorem dX6_countWay_2 : decode cX6_countWay 2 = .ok (.getfield 43, 3) := by decide +kernel
theorem dX6_countWay_5 : decode cX6_countWay 5 = .ok (.iconst 1, 1) := by decide +kernel
theorem dX6_countWay_6 : decode cX6_countWay 6 = .ok (.iadd, 1) := by decide +kernel
theorem dX6_countWay_7 : decode cX6_countWay 7 = .ok (.putfield 43, 3) := by decide +kernel
theorem dX6_countWay_10 : decode cX6_countWay 10 = .ok (.iconst 0, 1) := by decide +kernel
theorem dX6_countWay_11 : decode cX6_countWay 11 = .ok (.istore_n 2, 1) := by decide +kernel
theorem dX6_countWay_12 : decode cX6_countWay 12 = .ok (.iload_n 2, 1) := by decide +kernel
theorem dX6_countWay_13 : decode cX6_countWay 13 = .ok (.iload_n 1, 1) := by decide +kernel
theorem dX6_countWay_14 : decode cX6_countWay 14 = .ok (.if_icmp .ge 31, 3) := by decide +kernel
theorem dX6_countWay_17 : decode cX6_countWay 17 = .ok (.aload_n 0, 1) := by decide +kernel
theorem dX6_countWay_18 : decode cX6_countWay 18 = .ok (.getfield 21, 3) := by decide +kernel
theorem dX6_countWay_21 : decode cX6_countWay 21 = .ok (.iload_n 2, 1) := by decide +kernel
theorem dX6_countWay_22 : decode cX6_countWay 22 = .ok (.dup2, 1) := by decide +kernel
theorem dX6_countWay_23 : decode cX6_countWay 23 = .ok (.iaload, 1) := by decide +kernel
theorem dX6_countWay_24 : decode cX6_countWay 24 = .ok (.iconst 1, 1) := by decide +kernel
theorem dX6_countWay_25 : decode cX6_countWay 25 = .ok (.aload_n 0, 1) := by decide +kernel
theorem dX6_countWay_26 : decode cX6_countWay 26 = .ok (.getfield 27, 3) := by decide +kernel
theorem dX6_countWay_29 : decode cX6_countWay 29 = .ok (.getfield 79, 3) := by decide +kernel
theorem dX6_countWay_32 : decode cX6_countWay 32 = .ok (.iload_n 2, 1) := by decide +kernel
theorem dX6_countWay_33 : decode cX6_countWay 33 = .ok (.iaload, 1) := by decide +kernel
theorem dX6_countWay_34 : decode cX6_countWay 34 = .ok (.iconst 1, 1) := by decide +kernel
theorem dX6_countWay_35 : decode cX6_countWay 35 = .ok (.iadd, 1) := by decide +kernel
theorem dX6_countWay_36 : decode cX6_countWay 36 = .ok (.ishl, 1) := by decide +kernel
theorem dX6_countWay_37 : decode cX6_countWay 37 = .ok (.ior, 1) := by decide +kernel
theorem dX6_countWay_38 : decode cX6_countWay 38 = .ok (.iastore, 1) := by decide +kernel
theorem dX6_countWay_39 : decode cX6_countWay 39 = .ok (.iinc 2 1, 3) := by decide +kernel
theorem dX6_countWay_42 : decode cX6_countWay 42 = .ok (.goto (-30), 3) := by decide +kernel
theorem dX6_countWay_45 : decode cX6_countWay 45 = .ok (.return_, 1) := by decide +kernel
theorem dX7_init_0 : decode cX7_init 0 = .ok (.aload_n 0, 1) := by decide +kernel
theorem dX7_init_1 : decode cX7_init 1 = .ok (.invokespecial 3, 3) := by decide +kernel
theorem dX7_init_4 : decode cX7_init 4 = .ok (.aload_n 0, 1) := by decide +kernel
theorem dX7_init_5 : decode cX7_init 5 = .ok (.sipush 240, 3) := by decide +kernel
theorem dX7_init_8 : decode cX7_init 8 = .ok (.newarray .int, 2) := by decide +kernel
theorem dX7_init_10 : decode cX7_init 10 = .ok (.putfield 9, 3) := by decide +kernel
theorem dX7_init_13 : decode cX7_init 13 = .ok (.aload_n 0, 1) := by decide +kernel
theorem dX7_init_14 : decode cX7_init 14 = .ok (.iconst (-1), 1) := by decide +kernel
theorem dX7_init_15 : decode cX7_init 15 = .ok (.putfield 15, 3) := by decide +kernel
theorem dX7_init_18 : decode cX7_init 18 = .ok (.return_, 1) := by decide +kernel
theorem dX7_append_0 : decode cX7_append 0 = .ok (.aload_n 0, 1) := by decide +kernel
theorem dX7_append_1 : decode cX7_append 1 = .ok (.getfield 9, 3) := by decide +kernel
theorem dX7_append_4 : decode cX7_append 4 = .ok (.aload_n 0, 1) := by decide +kernel
theorem dX7_append_5 : decode cX7_append 5 = .ok (.getfield 19, 3) := by decide +kernel
theorem dX7_append_8 : decode cX7_append 8 = .ok (.iload_n 1, 1) := by decide +kernel
theorem dX7_append_9 : decode cX7_append 9 = .ok (.iastore, 1) := by decide +kernel
theorem dX7_append_10 : decode cX7_append 10 = .ok (.aload_n 0, 1) := by decide +kernel
theorem dX7_append_11 : decode cX7_append 11 = .ok (.dup, 1) := by decide +kernel
theorem dX7_append_12 : decode cX7_append 12 = .ok (.getfield 19, 3) := by decide +kernel
theorem dX7_append_15 : decode cX7_append 15 = .ok (.iconst 1, 1) := by decide +kernel
theorem dX7_append_16 : decode cX7_append 16 = .ok (.iadd, 1) := by decide +kernel
theorem dX7_append_17 : decode cX7_append 17 = .ok (.putfield 19, 3) := by decide +kernel
theorem dX7_append_20 : decode cX7_append 20 = .ok (.return_, 1) := by decide +kernel
set_option maxRecDepth 20000 in
theorem ggX7_readInto_X5_clear : GoodIn wsX7_readInto wsX5_clear := goodIn_r _ [9, 10, 11, 12, 13, 14, 93, 94, 95, 96, 97, 98, 99, 100, 101, 102, 103, 104, 105] (by decide +kernel) (by decide +kernel)
set_option maxRecDepth 20000 in
theorem gX7_readInto_X5_clear : GoodIn wsX7_readInto (wsV RX7 22 RX5 yX5_clear wsX5_clear) := goodIn_app (goodIn_of _ (by decide +kernel)) ggX7_readInto_X5_clear
set_option maxRecDepth 20000 in
theorem ggX7_readInto_X7_skipBlanks : GoodIn wsX7_readInto wsX7_skipBlanks := goodIn_r _ [19, 3, 4, 20, 87, 88, 89, 90, 91, 92] (by decide +kernel) (by decide +kernel)
set_option maxRecDepth 20000 in
theorem gX7_readInto_X7_skipBlanks : GoodIn wsX7_readInto (wsV RX7 33 RX7 yX7_skipBlanks wsX7_skipBlanks) := goodIn_app (goodIn_of _ (by decide +kernel)) ggX7_readInto_X7_skipBlanks
set_option maxRecDepth 20000 in
theorem ggX7_readInto_X7_readClause : GoodIn wsX7_readInto wsX7_readClause := goodIn_r _ [24, 20, 3, 25, 26, 27, 28, 18, 29, 1, 2, 30, 31, 32, 33, 34, 35, 36, 37, 38, 39, 40, 41, 42, 43, 44, 4, 15, 16, 17, 19, 45, 46, 47, 48, 49, 50, 51, 52, 53, 54, 55, 8, 56, 11, 57, 58, 59, 60, 61, 62, 63, 64, 65, 66, 67, 12, 68, 69, 70, 71, 72, 73, 74, 75, 76, 77, 78, 79, 80, 81, 82, 83, 84, 85, 86, 87, 88, 89, 90, 91, 92, 93, 94, 95, 96, 97, 98, 99, 100, 101, 102, 103, 104, 105] (by decide +kernel) (by decide +kernel)
set_option maxRecDepth 20000 in
theorem gX7_readInto_X7_readClause : GoodIn wsX7_readInto (wsV RX7 36 RX7 yX7_readClause wsX7_readClause) := goodIn_app (goodIn_of _ (by decide +kernel)) ggX7_readInto_X7_readClause
theorem dX7_readInto_0 : decode cX7_readInto 0 = .ok (.aload_n 1, 1) := by decide +kernel
theorem dX7_readInto_1 : decode cX7_readInto 1 = .ok (.invokevirtual 22, 3) := by decide +kernel
theorem dX7_readInto_4 : decode cX7_readInto 4 = .ok (.aload_n 0, 1) := by decide +kernel
theorem dX7_readInto_5 : decode cX7_readInto 5 = .ok (.iconst 0, 1) := by decide +kernel
theorem dX7_readInto_6 : decode cX7_readInto 6 = .ok (.putfield 27, 3) := by decide +kernel
theorem dX7_readInto_9 : decode cX7_readInto 9 = .ok (.aload_n 0, 1) := by decide +kernel
theorem dX7_readInto_10 : decode cX7_readInto 10 = .ok (.iconst (-1), 1) := by decide +kernel
theorem dX7_readInto_11 : decode cX7_readInto 11 = .ok (.putfield 15, 3) := by decide +kernel
theorem dX7_readInto_14 : decode cX7_readInto 14 = .ok (.aload_n 0, 1) := by decide +kernel
theorem dX7_readInto_15 : decode cX7_readInto 15 = .ok (.iconst 0, 1) := by decide +kernel
theorem dX7_readInto_16 : decode cX7_readInto 16 = .ok (.putfield 30, 3) := by decide +kernel
theorem dX7_readInto_19 : decode cX7_readInto 19 = .ok (.aload_n 0, 1) := by decide +kernel
theorem dX7_readInto_20 : decode cX7_readInto 20 = .ok (.invokevirtual 33, 3) := by decide +kernel
theorem dX7_readInto_23 : decode cX7_readInto 23 = .ok (.iconst 0, 1) := by decide +kernel
theorem dX7_readInto_24 : decode cX7_readInto 24 = .ok (.istore_n 2, 1) := by decide +kernel
theorem dX7_readInto_25 : decode cX7_readInto 25 = .ok (.iload_n 2, 1) := by decide +kernel
theorem dX7_readInto_26 : decode cX7_readInto 26 = .ok (.sipush 240, 3) := by decide +kernel
theorem dX7_readInto_29 : decode cX7_readInto 29 = .ok (.if_icmp .ge 36, 3) := by decide +kernel
theorem dX7_readInto_32 : decode cX7_readInto 32 = .ok (.aload_n 0, 1) := by decide +kernel
theorem dX7_readInto_33 : decode cX7_readInto 33 = .ok (.getfield 30, 3) := by decide +kernel
theorem dX7_readInto_36 : decode cX7_readInto 36 = .ok (.aload_n 0, 1) := by decide +kernel
theorem dX7_readInto_37 : decode cX7_readInto 37 = .ok (.getfield 19, 3) := by decide +kernel
theorem dX7_readInto_40 : decode cX7_readInto 40 = .ok (.if_icmp .ge 25, 3) := by decide +kernel
theorem dX7_readInto_43 : decode cX7_readInto 43 = .ok (.aload_n 0, 1) := by decide +kernel
theorem dX7_readInto_44 : decode cX7_readInto 44 = .ok (.getfield 27, 3) := by decide +kernel
theorem dX7_readInto_47 : decode cX7_readInto 47 = .ok (.ifCond .ne 18, 3) := by decide +kernel
theorem dX7_readInto_50 : decode cX7_readInto 50 = .ok (.aload_n 0, 1) := by decide +kernel
theorem dX7_readInto_51 : decode cX7_readInto 51 = .ok (.aload_n 1, 1) := by decide +kernel
theorem dX7_readInto_52 : decode cX7_readInto 52 = .ok (.invokevirtual 36, 3) := by decide +kernel
theorem dX7_readInto_55 : decode cX7_readInto 55 = .ok (.aload_n 0, 1) := by decide +kernel
theorem dX7_readInto_56 : decode cX7_readInto 56 = .ok (.invokevirtual 33, 3) := by decide +kernel
theorem dX7_readInto_59 : decode cX7_readInto 59 = .ok (.iinc 2 1, 3) := by decide +kernel
theorem dX7_readInto_62 : decode cX7_readInto 62 = .ok (.goto (-37), 3) := by decide +kernel
theorem dX7_readInto_65 : decode cX7_readInto 65 = .ok (.aload_n 0, 1) := by decide +kernel
theorem dX7_readInto_66 : decode cX7_readInto 66 = .ok (.iconst 0, 1) := by decide +kernel
theorem dX7_readInto_67 : decode cX7_readInto 67 = .ok (.putfield 19, 3) := by decide +kernel
theorem dX7_readInto_70 : decode cX7_readInto 70 = .ok (.return_, 1) := by decide +kernel
set_option maxRecDepth 20000 in
theorem ggX7_readClause_X7_refuse : GoodIn wsX7_readClause wsX7_refuse := goodIn_r _ [8, 9, 10, 76, 77, 78, 79, 80, 81] (by decide +kernel) (by decide +kernel)
set_option maxRecDepth 20000 in
theorem gX7_readClause_X7_refuse : GoodIn wsX7_readClause (wsV RX7 43 RX7 yX7_refuse wsX7_refuse) := goodIn_app (goodIn_of _ (by decide +kernel)) ggX7_readClause_X7_refuse
set_option maxRecDepth 20000 in
theorem ggX7_readClause_X7_readWidth : GoodIn wsX7_readClause wsX7_readWidth := goodIn_r _ [14, 3, 15, 16, 17, 18, 19, 7, 20, 2, 4, 5, 6, 8, 9, 10, 21, 22, 23, 24, 25, 26, 1, 27, 28, 29, 30, 31, 32, 33, 82, 83, 84, 85, 86, 87, 88, 89, 90, 91, 92, 93, 94, 76, 77, 78, 79, 80, 81] (by decide +kernel) (by decide +kernel)
set_option maxRecDepth 20000 in
theorem gX7_readClause_X7_readWidth : GoodIn wsX7_readClause (wsV RX7 47 RX7 yX7_readWidth wsX7_readWidth) := goodIn_app (goodIn_of _ (by decide +kernel)) ggX7_readClause_X7_readWidth
set_option maxRecDepth 20000 in
theorem ggX7_readClause_X7_readRoad : GoodIn wsX7_readClause wsX7_readRoad := goodIn_r _ [37, 3, 9, 25, 38, 17, 18, 19, 7, 20, 2, 4, 5, 6, 8, 10, 21, 22, 23, 24, 26, 1, 27, 28, 29, 30, 31, 32, 33, 39, 40, 41, 42, 43, 44, 82, 83, 84, 85, 86, 87, 88, 89, 90, 91, 92, 93, 94, 76, 77, 78, 79, 80, 81] (by decide +kernel) (by decide +kernel)
set_option maxRecDepth 20000 in
theorem gX7_readClause_X7_readRoad : GoodIn wsX7_readClause (wsV RX7 50 RX7 yX7_readRoad wsX7_readRoad) := goodIn_app (goodIn_of _ (by decide +kernel)) ggX7_readClause_X7_readRoad
set_option maxRecDepth 20000 in
theorem ggX7_readClause_X7_readPost : GoodIn wsX7_readClause wsX7_readPost := goodIn_r _ [48, 49, 3, 9, 25, 50, 51, 17, 18, 19, 7, 20, 2, 4, 5, 6, 8, 10, 21, 22, 23, 24, 26, 1, 27, 28, 29, 30, 31, 32, 33, 52, 53, 54, 42, 55, 56, 57, 82, 83, 84, 85, 86, 87, 88, 89, 90, 91, 92, 93, 94, 76, 77, 78, 79, 80, 81] (by decide +kernel) (by decide +kernel)
set_option maxRecDepth 20000 in
theorem gX7_readClause_X7_readPost : GoodIn wsX7_readClause (wsV RX7 53 RX7 yX7_readPost wsX7_readPost) := goodIn_app (goodIn_of _ (by decide +kernel)) ggX7_readClause_X7_readPost
set_option maxRecDepth 20000 in
theorem ggX7_readClause_X7_readCrow : GoodIn wsX7_readClause wsX7_readCrow := goodIn_r _ [61, 62, 9, 63, 64, 17, 18, 19, 7, 20, 2, 4, 5, 6, 8, 10, 21, 22, 23, 24, 25, 26, 1, 27, 28, 29, 30, 31, 32, 33, 82, 83, 84, 85, 86, 87, 88, 89, 90, 91, 92, 93, 94, 76, 77, 78, 79, 80, 81] (by decide +kernel) (by decide +kernel)
set_option maxRecDepth 20000 in
theorem gX7_readClause_X7_readCrow : GoodIn wsX7_readClause (wsV RX7 56 RX7 yX7_readCrow wsX7_readCrow) := goodIn_app (goodIn_of _ (by decide +kernel)) ggX7_readClause_X7_readCrow
set_option maxRecDepth 20000 in
theorem ggX7_readClause_X7_readWind : GoodIn wsX7_readClause wsX7_readWind := goodIn_r _ [68, 69, 9, 70, 71, 17, 18, 19, 7, 20, 2, 4, 5, 6, 8, 10, 21, 22, 23, 24, 25, 26, 1, 27, 28, 29, 30, 31, 32, 33, 82, 83, 84, 85, 86, 87, 88, 89, 90, 91, 92, 93, 94, 76, 77, 78, 79, 80, 81] (by decide +kernel) (by decide +kernel)
set_option maxRecDepth 20000 in
theorem gX7_readClause_X7_readWind : GoodIn wsX7_readClause (wsV RX7 59 RX7 yX7_readWind wsX7_readWind) := goodIn_app (goodIn_of _ (by decide +kernel)) ggX7_readClause_X7_readWind
set_option maxRecDepth 20000 in
theorem ggX7_readClause_X7_readEnd : GoodIn wsX7_readClause wsX7_readEnd := goodIn_r _ [75, 9, 2, 26, 1, 27, 28, 29, 7, 30, 4, 5, 6, 8, 10, 76, 77, 78, 79, 80, 81] (by decide +kernel) (by decide +kernel)
set_option maxRecDepth 20000 in
theorem gX7_readClause_X7_readEnd : GoodIn wsX7_readClause (wsV RX7 62 RX7 yX7_readEnd wsX7_readEnd) := goodIn_app (goodIn_of _ (by decide +kernel)) ggX7_readClause_X7_readEnd
theorem dX7_readClause_0 : decode cX7_readClause 0 = .ok (.aload_n 0, 1) := by decide +kernel
theorem dX7_readClause_1 : decode cX7_readClause 1 = .ok (.getfield 9, 3) := by decide +kernel
theorem dX7_readClause_4 : decode cX7_readClause 4 = .ok (.aload_n 0, 1) := by decide +kernel
theorem dX7_readClause_5 : decode cX7_readClause 5 = .ok (.getfield 30, 3) := by decide +kernel
theorem dX7_readClause_8 : decode cX7_readClause 8 = .ok (.iaload, 1) := by decide +kernel
theorem dX7_readClause_9 : decode cX7_readClause 9 = .ok (.istore_n 2, 1) := by decide +kernel
theorem dX7_readClause_10 : decode cX7_readClause 10 = .ok (.aload_n 1, 1) := by decide +kernel
theorem dX7_readClause_11 : decode cX7_readClause 11 = .ok (.getfield 40, 3) := by decide +kernel
theorem dX7_readClause_14 : decode cX7_readClause 14 = .ok (.ifCond .ne 19, 3) := by decide +kernel
theorem dX7_readClause_17 : decode cX7_readClause 17 = .ok (.iload_n 2, 1) := by decide +kernel
theorem dX7_readClause_18 : decode cX7_readClause 18 = .ok (.bipush 119, 2) := by decide +kernel
theorem dX7_readClause_20 : decode cX7_readClause 20 = .ok (.if_icmp .eq 13, 3) := by decide +kernel
theorem dX7_readClause_23 : decode cX7_readClause 23 = .ok (.aload_n 0, 1) := by decide +kernel
theorem dX7_readClause_24 : decode cX7_readClause 24 = .ok (.iconst 1, 1) := by decide +kernel
theorem dX7_readClause_25 : decode cX7_readClause 25 = .ok (.aload_n 0, 1) := by decide +kernel
theorem dX7_readClause_26 : decode cX7_readClause 26 = .ok (.getfield 30, 3) := by decide +kernel
theorem dX7_readClause_29 : decode cX7_readClause 29 = .ok (.invokevirtual 43, 3) := by decide +kernel
theorem dX7_readClause_32 : decode cX7_readClause 32 = .ok (.return_, 1) := by decide +kernel
theorem dX7_readClause_33 : decode cX7_readClause 33 = .ok (.iload_n 2, 1) := by decide +kernel
theorem dX7_readClause_34 : decode cX7_readClause 34 = .ok (.lookupswitch 90 #[(99, 74), (104, 82), (112, 66), (114, 58), (119, 50)], 50) := by decide +kernel
theorem dX7_readClause_84 : decode cX7_readClause 84 = .ok (.aload_n 0, 1) := by decide +kernel
theorem dX7_readClause_85 : decode cX7_readClause 85 = .ok (.aload_n 1, 1) := by decide +kernel
theorem dX7_readClause_86 : decode cX7_readClause 86 = .ok (.invokevirtual 47, 3) := by decide +kernel
theorem dX7_readClause_89 : decode cX7_readClause 89 = .ok (.goto 44, 3) := by decide +kernel
theorem dX7_readClause_92 : decode cX7_readClause 92 = .ok (.aload_n 0, 1) := by decide +kernel
theorem dX7_readClause_93 : decode cX7_readClause 93 = .ok (.aload_n 1, 1) := by decide +kernel
theorem dX7_readClause_94 : decode cX7_readClause 94 = .ok (.invokevirtual 50, 3) := by decide +kernel
theorem dX7_readClause_97 : decode cX7_readClause 97 = .ok (.goto 36, 3) := by decide +kernel
theorem dX7_readClause_100 : decode cX7_readClause 100 = .ok (.aload_n 0, 1) := by decide +kernel
theorem dX7_readClause_101 : decode cX7_readClause 101 = .ok (.aload_n 1, 1) := by decide +kernel
theorem dX7_readClause_102 : decode cX7_readClause 102 = .ok (.invokevirtual 53, 3) := by decide +kernel
theorem dX7_readClause_105 : decode cX7_readClause 105 = .ok (.goto 28, 3) := by decide +kernel
theorem dX7_readClause_108 : decode cX7_readClause 108 = .ok (.aload_n 0, 1) := by decide +kernel
theorem dX7_readClause_109 : decode cX7_readClause 109 = .ok (.aload_n 1, 1) := by decide +kernel
theorem dX7_readClause_110 : decode cX7_readClause 110 = .ok (.invokevirtual 56, 3) := by decide +kernel
theorem dX7_readClause_113 : decode cX7_readClause 113 = .ok (.goto 20, 3) := by decide +kernel
theorem dX7_readClause_116 : decode cX7_readClause 116 = .ok (.aload_n 0, 1) := by decide +kernel
theorem dX7_readClause_117 : decode cX7_readClause 117 = .ok (.aload_n 1, 1) := by decide +kernel
theorem dX7_readClause_118 : decode cX7_readClause 118 = .ok (.invokevirtual 59, 3) := by decide +kernel
theorem dX7_readClause_121 : decode cX7_readClause 121 = .ok (.goto 12, 3) := by decide +kernel
theorem dX7_readClause_124 : decode cX7_readClause 124 = .ok (.aload_n 0, 1) := by decide +kernel
theorem dX7_readClause_125 : decode cX7_readClause 125 = .ok (.iconst 1, 1) := by decide +kernel
theorem dX7_readClause_126 : decode cX7_readClause 126 = .ok (.aload_n 0, 1) := by decide +kernel
theorem dX7_readClause_127 : decode cX7_readClause 127 = .ok (.getfield 30, 3) := by decide +kernel
theorem dX7_readClause_130 : decode cX7_readClause 130 = .ok (.invokevirtual 43, 3) := by decide +kernel
theorem dX7_readClause_133 : decode cX7_readClause 133 = .ok (.aload_n 0, 1) := by decide +kernel
theorem dX7_readClause_134 : decode cX7_readClause 134 = .ok (.invokevirtual 62, 3) := by decide +kernel
theorem dX7_readClause_137 : decode cX7_readClause 137 = .ok (.return_, 1) := by decide +kernel
set_option maxRecDepth 20000 in
theorem ggX7_readWidth_X7_readWord : GoodIn wsX7_readWidth wsX7_readWord := goodIn_r _ [8, 9, 10, 11, 12, 7, 13, 14, 15, 43, 44, 45, 46, 47, 48] (by decide +kernel) (by decide +kernel)
set_option maxRecDepth 20000 in
theorem gX7_readWidth_X7_readWord : GoodIn wsX7_readWidth (wsV RX7 65 RX7 yX7_readWord wsX7_readWord) := goodIn_app (goodIn_of _ (by decide +kernel)) ggX7_readWidth_X7_readWord
set_option maxRecDepth 20000 in
theorem ggX7_readWidth_X7_readNumber : GoodIn wsX7_readWidth wsX7_readNumber := goodIn_r _ [19, 14, 9, 20, 21, 22, 23, 24, 25, 7, 26, 27, 28, 29, 10, 11, 12, 13, 15, 43, 44, 45, 46, 47, 48] (by decide +kernel) (by decide +kernel)
set_option maxRecDepth 20000 in
theorem gX7_readWidth_X7_readNumber : GoodIn wsX7_readWidth (wsV RX7 69 RX7 yX7_readNumber wsX7_readNumber) := goodIn_app (goodIn_of _ (by decide +kernel)) ggX7_readWidth_X7_readNumber
theorem dX7_readWidth_0 : decode cX7_readWidth 0 = .ok (.aload_n 0, 1) := by decide +kernel
theorem dX7_readWidth_1 : decode cX7_readWidth 1 = .ok (.aload_n 1, 1) := by decide +kernel
theorem dX7_readWidth_2 : decode cX7_readWidth 2 = .ok (.getfield 40, 3) := by decide +kernel
theorem dX7_readWidth_5 : decode cX7_readWidth 5 = .ok (.ifCond .ne 7, 3) := by decide +kernel
theorem dX7_readWidth_8 : decode cX7_readWidth 8 = .ok (.iconst 1, 1) := by decide +kernel
theorem dX7_readWidth_9 : decode cX7_readWidth 9 = .ok (.goto 4, 3) := by decide +kernel
theorem dX7_readWidth_12 : decode cX7_readWidth 12 = .ok (.iconst 0, 1) := by decide +kernel
theorem dX7_readWidth_13 : decode cX7_readWidth 13 = .ok (.invokevirtual 65, 3) := by decide +kernel
theorem dX7_readWidth_16 : decode cX7_readWidth 16 = .ok (.aload_n 1, 1) := by decide +kernel
theorem dX7_readWidth_17 : decode cX7_readWidth 17 = .ok (.aload_n 0, 1) := by decide +kernel
theorem dX7_readWidth_18 : decode cX7_readWidth 18 = .ok (.iconst 1, 1) := by decide +kernel
theorem dX7_readWidth_19 : decode cX7_readWidth 19 = .ok (.bipush 12, 2) := by decide +kernel
theorem dX7_readWidth_21 : decode cX7_readWidth 21 = .ok (.invokevirtual 69, 3) := by decide +kernel
theorem dX7_readWidth_24 : decode cX7_readWidth 24 = .ok (.putfield 40, 3) := by decide +kernel
theorem dX7_readWidth_27 : decode cX7_readWidth 27 = .ok (.aload_n 1, 1) := by decide +kernel
theorem dX7_readWidth_28 : decode cX7_readWidth 28 = .ok (.aload_n 0, 1) := by decide +kernel
theorem dX7_readWidth_29 : decode cX7_readWidth 29 = .ok (.iconst 0, 1) := by decide +kernel
theorem dX7_readWidth_30 : decode cX7_readWidth 30 = .ok (.bipush 9, 2) := by decide +kernel
theorem dX7_readWidth_32 : decode cX7_readWidth 32 = .ok (.invokevirtual 69, 3) := by decide +kernel
theorem dX7_readWidth_35 : decode cX7_readWidth 35 = .ok (.putfield 73, 3) := by decide +kernel
theorem dX7_readWidth_38 : decode cX7_readWidth 38 = .ok (.aload_n 1, 1) := by decide +kernel
theorem dX7_readWidth_39 : decode cX7_readWidth 39 = .ok (.aload_n 0, 1) := by decide +kernel
theorem dX7_readWidth_40 : decode cX7_readWidth 40 = .ok (.iconst 0, 1) := by decide +kernel
theorem dX7_readWidth_41 : decode cX7_readWidth 41 = .ok (.bipush 99, 2) := by decide +kernel
theorem dX7_readWidth_43 : decode cX7_readWidth 43 = .ok (.invokevirtual 69, 3) := by decide +kernel
theorem dX7_readWidth_46 : decode cX7_readWidth 46 = .ok (.putfield 76, 3) := by decide +kernel
theorem dX7_readWidth_49 : decode cX7_readWidth 49 = .ok (.return_, 1) := by decide +kernel
set_option maxRecDepth 20000 in
theorem ggX7_readRoad_X7_readWord : GoodIn wsX7_readRoad wsX7_readWord := goodIn_r _ [9, 10, 11, 12, 13, 8, 14, 2, 15, 48, 49, 50, 51, 52, 53] (by decide +kernel) (by decide +kernel)
set_option maxRecDepth 20000 in
theorem gX7_readRoad_X7_readWord : GoodIn wsX7_readRoad (wsV RX7 65 RX7 yX7_readWord wsX7_readWord) := goodIn_app (goodIn_of _ (by decide +kernel)) ggX7_readRoad_X7_readWord
set_option maxRecDepth 20000 in
theorem ggX7_readRoad_X7_readNumber : GoodIn wsX7_readRoad wsX7_readNumber := goodIn_r _ [19, 2, 10, 3, 20, 21, 22, 23, 24, 8, 25, 26, 27, 28, 11, 12, 13, 14, 15, 48, 49, 50, 51, 52, 53] (by decide +kernel) (by decide +kernel)
set_option maxRecDepth 20000 in
theorem gX7_readRoad_X7_readNumber : GoodIn wsX7_readRoad (wsV RX7 69 RX7 yX7_readNumber wsX7_readNumber) := goodIn_app (goodIn_of _ (by decide +kernel)) ggX7_readRoad_X7_readNumber
set_option maxRecDepth 20000 in
theorem ggX7_readRoad_X5_isRoad : GoodIn wsX7_readRoad wsX5_isRoad := goodIn_r _ [33, 34, 35, 36, 37, 38, 39, 40, 41, 42, 43, 44, 45, 46, 47] (by decide +kernel) (by decide +kernel)
set_option maxRecDepth 20000 in
theorem gX7_readRoad_X5_isRoad : GoodIn wsX7_readRoad (wsV RX7 79 RX5 yX5_isRoad wsX5_isRoad) := goodIn_app (goodIn_of _ (by decide +kernel)) ggX7_readRoad_X5_isRoad
set_option maxRecDepth 20000 in
theorem ggX7_readRoad_X7_refuse : GoodIn wsX7_readRoad wsX7_refuse := goodIn_r _ [14, 2, 15, 48, 49, 50, 51, 52, 53] (by decide +kernel) (by decide +kernel)
set_option maxRecDepth 20000 in
theorem gX7_readRoad_X7_refuse : GoodIn wsX7_readRoad (wsV RX7 43 RX7 yX7_refuse wsX7_refuse) := goodIn_app (goodIn_of _ (by decide +kernel)) ggX7_readRoad_X7_refuse
theorem dX7_readRoad_0 : decode cX7_readRoad 0 = .ok (.aload_n 0, 1) := by decide +kernel
theorem dX7_readRoad_1 : decode cX7_readRoad 1 = .ok (.iconst 1, 1) := by decide +kernel
theorem dX7_readRoad_2 : decode cX7_readRoad 2 = .ok (.invokevirtual 65, 3) := by decide +kernel
theorem dX7_readRoad_5 : decode cX7_readRoad 5 = .ok (.aload_n 0, 1) := by decide +kernel
theorem dX7_readRoad_6 : decode cX7_readRoad 6 = .ok (.iconst 0, 1) := by decide +kernel
theorem dX7_readRoad_7 : decode cX7_readRoad 7 = .ok (.aload_n 1, 1) := by decide +kernel
theorem dX7_readRoad_8 : decode cX7_readRoad 8 = .ok (.getfield 40, 3) := by decide +kernel
theorem dX7_readRoad_11 : decode cX7_readRoad 11 = .ok (.iconst 1, 1) := by decide +kernel
theorem dX7_readRoad_12 : decode cX7_readRoad 12 = .ok (.isub, 1) := by decide +kernel
theorem dX7_readRoad_13 : decode cX7_readRoad 13 = .ok (.invokevirtual 69, 3) := by decide +kernel
theorem dX7_readRoad_16 : decode cX7_readRoad 16 = .ok (.istore_n 2, 1) := by decide +kernel
theorem dX7_readRoad_17 : decode cX7_readRoad 17 = .ok (.aload_n 0, 1) := by decide +kernel
theorem dX7_readRoad_18 : decode cX7_readRoad 18 = .ok (.getfield 27, 3) := by decide +kernel
theorem dX7_readRoad_21 : decode cX7_readRoad 21 = .ok (.ifCond .ne 20, 3) := by decide +kernel
theorem dX7_readRoad_24 : decode cX7_readRoad 24 = .ok (.aload_n 1, 1) := by decide +kernel
theorem dX7_readRoad_25 : decode cX7_readRoad 25 = .ok (.iload_n 2, 1) := by decide +kernel
theorem dX7_readRoad_26 : decode cX7_readRoad 26 = .ok (.invokevirtual 79, 3) := by decide +kernel
theorem dX7_readRoad_29 : decode cX7_readRoad 29 = .ok (.ifCond .eq 12, 3) := by decide +kernel
theorem dX7_readRoad_32 : decode cX7_readRoad 32 = .ok (.aload_n 0, 1) := by decide +kernel
theorem dX7_readRoad_33 : decode cX7_readRoad 33 = .ok (.iconst 4, 1) := by decide +kernel
theorem dX7_readRoad_34 : decode cX7_readRoad 34 = .ok (.aload_n 0, 1) := by decide +kernel
theorem dX7_readRoad_35 : decode cX7_readRoad 35 = .ok (.getfield 83, 3) := by decide +kernel
theorem dX7_readRoad_38 : decode cX7_readRoad 38 = .ok (.invokevirtual 43, 3) := by decide +kernel
theorem dX7_readRoad_41 : decode cX7_readRoad 41 = .ok (.aload_n 1, 1) := by decide +kernel
theorem dX7_readRoad_42 : decode cX7_readRoad 42 = .ok (.dup, 1) := by decide +kernel
theorem dX7_readRoad_43 : decode cX7_readRoad 43 = .ok (.getfield 86, 3) := by decide +kernel
theorem dX7_readRoad_46 : decode cX7_readRoad 46 = .ok (.iconst 1, 1) := by decide +kernel
theorem dX7_readRoad_47 : decode cX7_readRoad 47 = .ok (.iload_n 2, 1) := by decide +kernel
theorem dX7_readRoad_48 : decode cX7_readRoad 48 = .ok (.ishl, 1) := by decide +kernel
theorem dX7_readRoad_49 : decode cX7_readRoad 49 = .ok (.ior, 1) := by decide +kernel
theorem dX7_readRoad_50 : decode cX7_readRoad 50 = .ok (.putfield 86, 3) := by decide +kernel
theorem dX7_readRoad_53 : decode cX7_readRoad 53 = .ok (.return_, 1) := by decide +kernel
set_option maxRecDepth 20000 in
theorem ggX7_readPost_X7_readWord : GoodIn wsX7_readPost wsX7_readWord := goodIn_r _ [11, 12, 13, 14, 15, 10, 16, 3, 17, 51, 52, 53, 54, 55, 56] (by decide +kernel) (by decide +kernel)
set_option maxRecDepth 20000 in
theorem gX7_readPost_X7_readWord : GoodIn wsX7_readPost (wsV RX7 65 RX7 yX7_readWord wsX7_readWord) := goodIn_app (goodIn_of _ (by decide +kernel)) ggX7_readPost_X7_readWord
set_option maxRecDepth 20000 in
theorem ggX7_readPost_X7_readNumber : GoodIn wsX7_readPost wsX7_readNumber := goodIn_r _ [21, 3, 12, 4, 22, 23, 24, 25, 26, 10, 27, 28, 29, 30, 13, 14, 15, 16, 17, 51, 52, 53, 54, 55, 56] (by decide +kernel) (by decide +kernel)
set_option maxRecDepth 20000 in
theorem gX7_readPost_X7_readNumber : GoodIn wsX7_readPost (wsV RX7 69 RX7 yX7_readNumber wsX7_readNumber) := goodIn_app (goodIn_of _ (by decide +kernel)) ggX7_readPost_X7_readNumber
set_option maxRecDepth 20000 in
theorem ggX7_readPost_X5_hasPostIn : GoodIn wsX7_readPost wsX5_hasPostIn := goodIn_r _ [35, 36, 37, 38, 39, 40, 41, 42, 43, 44, 45, 46, 47, 48, 49, 50] (by decide +kernel) (by decide +kernel)
set_option maxRecDepth 20000 in
theorem gX7_readPost_X5_hasPostIn : GoodIn wsX7_readPost (wsV RX7 92 RX5 yX5_hasPostIn wsX5_hasPostIn) := goodIn_app (goodIn_of _ (by decide +kernel)) ggX7_readPost_X5_hasPostIn
set_option maxRecDepth 20000 in
theorem ggX7_readPost_X7_refuse : GoodIn wsX7_readPost wsX7_refuse := goodIn_r _ [16, 3, 17, 51, 52, 53, 54, 55, 56] (by decide +kernel) (by decide +kernel)
set_option maxRecDepth 20000 in
theorem gX7_readPost_X7_refuse : GoodIn wsX7_readPost (wsV RX7 43 RX7 yX7_refuse wsX7_refuse) := goodIn_app (goodIn_of _ (by decide +kernel)) ggX7_readPost_X7_refuse
theorem dX7_readPost_0 : decode cX7_readPost 0 = .ok (.aload_n 0, 1) := by decide +kernel
theorem dX7_readPost_1 : decode cX7_readPost 1 = .ok (.aload_n 1, 1) := by decide +kernel
theorem dX7_readPost_2 : decode cX7_readPost 2 = .ok (.getfield 89, 3) := by decide +kernel
theorem dX7_readPost_5 : decode cX7_readPost 5 = .ok (.bipush 6, 2) := by decide +kernel
theorem dX7_readPost_7 : decode cX7_readPost 7 = .ok (.if_icmp .ge 7, 3) := by decide +kernel
theorem dX7_readPost_10 : decode cX7_readPost 10 = .ok (.iconst 1, 1) := by decide +kernel
theorem dX7_readPost_11 : decode cX7_readPost 11 = .ok (.goto 4, 3) := by decide +kernel
theorem dX7_readPost_14 : decode cX7_readPost 14 = .ok (.iconst 0, 1) := by decide +kernel
theorem dX7_readPost_15 : decode cX7_readPost 15 = .ok (.invokevirtual 65, 3) := by decide +kernel
theorem dX7_readPost_18 : decode cX7_readPost 18 = .ok (.aload_n 0, 1) := by decide +kernel
theorem dX7_readPost_19 : decode cX7_readPost 19 = .ok (.iconst 0, 1) := by decide +kernel
theorem dX7_readPost_20 : decode cX7_readPost 20 = .ok (.aload_n 1, 1) := by decide +kernel
theorem dX7_readPost_21 : decode cX7_readPost 21 = .ok (.getfield 40, 3) := by decide +kernel
theorem dX7_readPost_24 : decode cX7_readPost 24 = .ok (.iconst 1, 1) := by decide +kernel
theorem dX7_readPost_25 : decode cX7_readPost 25 = .ok (.isub, 1) := by decide +kernel
theorem dX7_readPost_26 : decode cX7_readPost 26 = .ok (.invokevirtual 69, 3) := by decide +kernel
theorem dX7_readPost_29 : decode cX7_readPost 29 = .ok (.istore_n 2, 1) := by decide +kernel
theorem dX7_readPost_30 : decode cX7_readPost 30 = .ok (.aload_n 0, 1) := by decide +kernel
theorem dX7_readPost_31 : decode cX7_readPost 31 = .ok (.getfield 27, 3) := by decide +kernel
theorem dX7_readPost_34 : decode cX7_readPost 34 = .ok (.ifCond .ne 20, 3) := by decide +kernel
theorem dX7_readPost_37 : decode cX7_readPost 37 = .ok (.aload_n 1, 1) := by decide +kernel
theorem dX7_readPost_38 : decode cX7_readPost 38 = .ok (.iload_n 2, 1) := by decide +kernel
theorem dX7_readPost_39 : decode cX7_readPost 39 = .ok (.invokevirtual 92, 3) := by decide +kernel
theorem dX7_readPost_42 : decode cX7_readPost 42 = .ok (.ifCond .eq 12, 3) := by decide +kernel
theorem dX7_readPost_45 : decode cX7_readPost 45 = .ok (.aload_n 0, 1) := by decide +kernel
theorem dX7_readPost_46 : decode cX7_readPost 46 = .ok (.iconst 4, 1) := by decide +kernel
theorem dX7_readPost_47 : decode cX7_readPost 47 = .ok (.aload_n 0, 1) := by decide +kernel
theorem dX7_readPost_48 : decode cX7_readPost 48 = .ok (.getfield 83, 3) := by decide +kernel
theorem dX7_readPost_51 : decode cX7_readPost 51 = .ok (.invokevirtual 43, 3) := by decide +kernel
theorem dX7_readPost_54 : decode cX7_readPost 54 = .ok (.aload_n 0, 1) := by decide +kernel
theorem dX7_readPost_55 : decode cX7_readPost 55 = .ok (.iconst 0, 1) := by decide +kernel
theorem dX7_readPost_56 : decode cX7_readPost 56 = .ok (.bipush 9, 2) := by decide +kernel
theorem dX7_readPost_58 : decode cX7_readPost 58 = .ok (.invokevirtual 69, 3) := by decide +kernel
theorem dX7_readPost_61 : decode cX7_readPost 61 = .ok (.istore_n 3, 1) := by decide +kernel
theorem dX7_readPost_62 : decode cX7_readPost 62 = .ok (.aload_n 0, 1) := by decide +kernel
theorem dX7_readPost_63 : decode cX7_readPost 63 = .ok (.getfield 27, 3) := by decide +kernel
theorem dX7_readPost_66 : decode cX7_readPost 66 = .ok (.ifCond .ne 33, 3) := by decide +kernel
theorem dX7_readPost_69 : decode cX7_readPost 69 = .ok (.aload_n 1, 1) := by decide +kernel
theorem dX7_readPost_70 : decode cX7_readPost 70 = .ok (.getfield 95, 3) := by decide +kernel
theorem dX7_readPost_73 : decode cX7_readPost 73 = .ok (.aload_n 1, 1) := by decide +kernel
theorem dX7_readPost_74 : decode cX7_readPost 74 = .ok (.getfield 89, 3) := by decide +kernel
theorem dX7_readPost_77 : decode cX7_readPost 77 = .ok (.iload_n 2, 1) := by decide +kernel
theorem dX7_readPost_78 : decode cX7_readPost 78 = .ok (.iastore, 1) := by decide +kernel
theorem dX7_readPost_79 : decode cX7_readPost 79 = .ok (.aload_n 1, 1) := by decide +kernel
theorem dX7_readPost_80 : decode cX7_readPost 80 = .ok (.getfield 98, 3) := by decide +kernel
theorem dX7_readPost_83 : decode cX7_readPost 83 = .ok (.aload_n 1, 1) := by decide +kernel
theorem dX7_readPost_84 : decode cX7_readPost 84 = .ok (.getfield 89, 3) := by decide +kernel
theorem dX7_readPost_87 : decode cX7_readPost 87 = .ok (.iload_n 3, 1) := by decide +kernel
theorem dX7_readPost_88 : decode cX7_readPost 88 = .ok (.iastore, 1) := by decide +kernel
theorem dX7_readPost_89 : decode cX7_readPost 89 = .ok (.aload_n 1, 1) := by decide +kernel
theorem dX7_readPost_90 : decode cX7_readPost 90 = .ok (.dup, 1) := by decide +kernel
theorem dX7_readPost_91 : decode cX7_readPost 91 = .ok (.getfield 89, 3) := by decide +kernel
theorem dX7_readPost_94 : decode cX7_readPost 94 = .ok (.iconst 1, 1) := by decide +kernel
theorem dX7_readPost_95 : decode cX7_readPost 95 = .ok (.iadd, 1) := by decide +kernel
theorem dX7_readPost_96 : decode cX7_readPost 96 = .ok (.putfield 89, 3) := by decide +kernel
theorem dX7_readPost_99 : decode cX7_readPost 99 = .ok (.return_, 1) := by decide +kernel
set_option maxRecDepth 20000 in
theorem ggX7_readCrow_X7_readWord : GoodIn wsX7_readCrow wsX7_readWord := goodIn_r _ [9, 10, 11, 12, 13, 8, 14, 2, 15, 43, 44, 45, 46, 47, 48] (by decide +kernel) (by decide +kernel)
set_option maxRecDepth 20000 in
theorem gX7_readCrow_X7_readWord : GoodIn wsX7_readCrow (wsV RX7 65 RX7 yX7_readWord wsX7_readWord) := goodIn_app (goodIn_of _ (by decide +kernel)) ggX7_readCrow_X7_readWord
set_option maxRecDepth 20000 in
theorem ggX7_readCrow_X7_readNumber : GoodIn wsX7_readCrow wsX7_readNumber := goodIn_r _ [19, 2, 10, 20, 21, 22, 23, 24, 25, 8, 26, 27, 28, 29, 11, 12, 13, 14, 15, 43, 44, 45, 46, 47, 48] (by decide +kernel) (by decide +kernel)
set_option maxRecDepth 20000 in
theorem gX7_readCrow_X7_readNumber : GoodIn wsX7_readCrow (wsV RX7 69 RX7 yX7_readNumber wsX7_readNumber) := goodIn_app (goodIn_of _ (by decide +kernel)) ggX7_readCrow_X7_readNumber
theorem dX7_readCrow_0 : decode cX7_readCrow 0 = .ok (.aload_n 0, 1) := by decide +kernel
theorem dX7_readCrow_1 : decode cX7_readCrow 1 = .ok (.aload_n 1, 1) := by decide +kernel
theorem dX7_readCrow_2 : decode cX7_readCrow 2 = .ok (.getfield 101, 3) := by decide +kernel
theorem dX7_readCrow_5 : decode cX7_readCrow 5 = .ok (.iconst 5, 1) := by decide +kernel
theorem dX7_readCrow_6 : decode cX7_readCrow 6 = .ok (.if_icmp .ge 7, 3) := by decide +kernel
theorem dX7_readCrow_9 : decode cX7_readCrow 9 = .ok (.iconst 1, 1) := by decide +kernel
theorem dX7_readCrow_10 : decode cX7_readCrow 10 = .ok (.goto 4, 3) := by decide +kernel
theorem dX7_readCrow_13 : decode cX7_readCrow 13 = .ok (.iconst 0, 1) := by decide +kernel
theorem dX7_readCrow_14 : decode cX7_readCrow 14 = .ok (.invokevirtual 65, 3) := by decide +kernel
theorem dX7_readCrow_17 : decode cX7_readCrow 17 = .ok (.aload_n 0, 1) := by decide +kernel
theorem dX7_readCrow_18 : decode cX7_readCrow 18 = .ok (.iconst 0, 1) := by decide +kernel
theorem dX7_readCrow_19 : decode cX7_readCrow 19 = .ok (.bipush 99, 2) := by decide +kernel
theorem dX7_readCrow_21 : decode cX7_readCrow 21 = .ok (.invokevirtual 69, 3) := by decide +kernel
theorem dX7_readCrow_24 : decode cX7_readCrow 24 = .ok (.istore_n 2, 1) := by decide +kernel
theorem dX7_readCrow_25 : decode cX7_readCrow 25 = .ok (.aload_n 0, 1) := by decide +kernel
theorem dX7_readCrow_26 : decode cX7_readCrow 26 = .ok (.iconst 0, 1) := by decide +kernel
theorem dX7_readCrow_27 : decode cX7_readCrow 27 = .ok (.bipush 9, 2) := by decide +kernel
theorem dX7_readCrow_29 : decode cX7_readCrow 29 = .ok (.invokevirtual 69, 3) := by decide +kernel
theorem dX7_readCrow_32 : decode cX7_readCrow 32 = .ok (.istore_n 3, 1) := by decide +kernel
theorem dX7_readCrow_33 : decode cX7_readCrow 33 = .ok (.aload_n 0, 1) := by decide +kernel
theorem dX7_readCrow_34 : decode cX7_readCrow 34 = .ok (.getfield 27, 3) := by decide +kernel
theorem dX7_readCrow_37 : decode cX7_readCrow 37 = .ok (.ifCond .ne 33, 3) := by decide +kernel
theorem dX7_readCrow_40 : decode cX7_readCrow 40 = .ok (.aload_n 1, 1) := by decide +kernel
theorem dX7_readCrow_41 : decode cX7_readCrow 41 = .ok (.getfield 104, 3) := by decide +kernel
theorem dX7_readCrow_44 : decode cX7_readCrow 44 = .ok (.aload_n 1, 1) := by decide +kernel
theorem dX7_readCrow_45 : decode cX7_readCrow 45 = .ok (.getfield 101, 3) := by decide +kernel
theorem dX7_readCrow_48 : decode cX7_readCrow 48 = .ok (.iload_n 2, 1) := by decide +kernel
theorem dX7_readCrow_49 : decode cX7_readCrow 49 = .ok (.iastore, 1) := by decide +kernel
theorem dX7_readCrow_50 : decode cX7_readCrow 50 = .ok (.aload_n 1, 1) := by decide +kernel
theorem dX7_readCrow_51 : decode cX7_readCrow 51 = .ok (.getfield 107, 3) := by decide +kernel
theorem dX7_readCrow_54 : decode cX7_readCrow 54 = .ok (.aload_n 1, 1) := by decide +kernel
theorem dX7_readCrow_55 : decode cX7_readCrow 55 = .ok (.getfield 101, 3) := by decide +kernel
theorem dX7_readCrow_58 : decode cX7_readCrow 58 = .ok (.iload_n 3, 1) := by decide +kernel
theorem dX7_readCrow_59 : decode cX7_readCrow 59 = .ok (.iastore, 1) := by decide +kernel
theorem dX7_readCrow_60 : decode cX7_readCrow 60 = .ok (.aload_n 1, 1) := by decide +kernel
theorem dX7_readCrow_61 : decode cX7_readCrow 61 = .ok (.dup, 1) := by decide +kernel
theorem dX7_readCrow_62 : decode cX7_readCrow 62 = .ok (.getfield 101, 3) := by decide +kernel
theorem dX7_readCrow_65 : decode cX7_readCrow 65 = .ok (.iconst 1, 1) := by decide +kernel
theorem dX7_readCrow_66 : decode cX7_readCrow 66 = .ok (.iadd, 1) := by decide +kernel
theorem dX7_readCrow_67 : decode cX7_readCrow 67 = .ok (.putfield 101, 3) := by decide +kernel
theorem dX7_readCrow_70 : decode cX7_readCrow 70 = .ok (.return_, 1) := by decide +kernel
set_option maxRecDepth 20000 in
theorem ggX7_readWind_X7_readWord : GoodIn wsX7_readWind wsX7_readWord := goodIn_r _ [9, 10, 11, 12, 13, 8, 14, 2, 15, 43, 44, 45, 46, 47, 48] (by decide +kernel) (by decide +kernel)
set_option maxRecDepth 20000 in
theorem gX7_readWind_X7_readWord : GoodIn wsX7_readWind (wsV RX7 65 RX7 yX7_readWord wsX7_readWord) := goodIn_app (goodIn_of _ (by decide +kernel)) ggX7_readWind_X7_readWord
set_option maxRecDepth 20000 in
theorem ggX7_readWind_X7_readNumber : GoodIn wsX7_readWind wsX7_readNumber := goodIn_r _ [19, 2, 10, 20, 21, 22, 23, 24, 25, 8, 26, 27, 28, 29, 11, 12, 13, 14, 15, 43, 44, 45, 46, 47, 48] (by decide +kernel) (by decide +kernel)
set_option maxRecDepth 20000 in
theorem gX7_readWind_X7_readNumber : GoodIn wsX7_readWind (wsV RX7 69 RX7 yX7_readNumber wsX7_readNumber) := goodIn_app (goodIn_of _ (by decide +kernel)) ggX7_readWind_X7_readNumber
theorem dX7_readWind_0 : decode cX7_readWind 0 = .ok (.aload_n 0, 1) := by decide +kernel
theorem dX7_readWind_1 : decode cX7_readWind 1 = .ok (.aload_n 1, 1) := by decide +kernel
theorem dX7_readWind_2 : decode cX7_readWind 2 = .ok (.getfield 110, 3) := by decide +kernel
theorem dX7_readWind_5 : decode cX7_readWind 5 = .ok (.bipush 10, 2) := by decide +kernel
theorem dX7_readWind_7 : decode cX7_readWind 7 = .ok (.if_icmp .ge 7, 3) := by decide +kernel
theorem dX7_readWind_10 : decode cX7_readWind 10 = .ok (.iconst 1, 1) := by decide +kernel
theorem dX7_readWind_11 : decode cX7_readWind 11 = .ok (.goto 4, 3) := by decide +kernel
theorem dX7_readWind_14 : decode cX7_readWind 14 = .ok (.iconst 0, 1) := by decide +kernel
theorem dX7_readWind_15 : decode cX7_readWind 15 = .ok (.invokevirtual 65, 3) := by decide +kernel
theorem dX7_readWind_18 : decode cX7_readWind 18 = .ok (.aload_n 0, 1) := by decide +kernel
theorem dX7_readWind_19 : decode cX7_readWind 19 = .ok (.iconst 0, 1) := by decide +kernel
theorem dX7_readWind_20 : decode cX7_readWind 20 = .ok (.bipush 18, 2) := by decide +kernel
theorem dX7_readWind_22 : decode cX7_readWind 22 = .ok (.invokevirtual 69, 3) := by decide +kernel
theorem dX7_readWind_25 : decode cX7_readWind 25 = .ok (.istore_n 2, 1) := by decide +kernel
theorem dX7_readWind_26 : decode cX7_readWind 26 = .ok (.aload_n 0, 1) := by decide +kernel
theorem dX7_readWind_27 : decode cX7_readWind 27 = .ok (.iconst 0, 1) := by decide +kernel
theorem dX7_readWind_28 : decode cX7_readWind 28 = .ok (.bipush 30, 2) := by decide +kernel
theorem dX7_readWind_30 : decode cX7_readWind 30 = .ok (.invokevirtual 69, 3) := by decide +kernel
theorem dX7_readWind_33 : decode cX7_readWind 33 = .ok (.istore_n 3, 1) := by decide +kernel
theorem dX7_readWind_34 : decode cX7_readWind 34 = .ok (.aload_n 0, 1) := by decide +kernel
theorem dX7_readWind_35 : decode cX7_readWind 35 = .ok (.getfield 27, 3) := by decide +kernel
theorem dX7_readWind_38 : decode cX7_readWind 38 = .ok (.ifCond .ne 33, 3) := by decide +kernel
theorem dX7_readWind_41 : decode cX7_readWind 41 = .ok (.aload_n 1, 1) := by decide +kernel
theorem dX7_readWind_42 : decode cX7_readWind 42 = .ok (.getfield 113, 3) := by decide +kernel
theorem dX7_readWind_45 : decode cX7_readWind 45 = .ok (.aload_n 1, 1) := by decide +kernel
theorem dX7_readWind_46 : decode cX7_readWind 46 = .ok (.getfield 110, 3) := by decide +kernel
theorem dX7_readWind_49 : decode cX7_readWind 49 = .ok (.iload_n 2, 1) := by decide +kernel
theorem dX7_readWind_50 : decode cX7_readWind 50 = .ok (.iastore, 1) := by decide +kernel
theorem dX7_readWind_51 : decode cX7_readWind 51 = .ok (.aload_n 1, 1) := by decide +kernel
theorem dX7_readWind_52 : decode cX7_readWind 52 = .ok (.getfield 116, 3) := by decide +kernel
theorem dX7_readWind_55 : decode cX7_readWind 55 = .ok (.aload_n 1, 1) := by decide +kernel
theorem dX7_readWind_56 : decode cX7_readWind 56 = .ok (.getfield 110, 3) := by decide +kernel
theorem dX7_readWind_59 : decode cX7_readWind 59 = .ok (.iload_n 3, 1) := by decide +kernel
theorem dX7_readWind_60 : decode cX7_readWind 60 = .ok (.iastore, 1) := by decide +kernel
theorem dX7_readWind_61 : decode cX7_readWind 61 = .ok (.aload_n 1, 1) := by decide +kernel
theorem dX7_readWind_62 : decode cX7_readWind 62 = .ok (.dup, 1) := by decide +kernel
theorem dX7_readWind_63 : decode cX7_readWind 63 = .ok (.getfield 110, 3) := by decide +kernel
theorem dX7_readWind_66 : decode cX7_readWind 66 = .ok (.iconst 1, 1) := by decide +kernel
theorem dX7_readWind_67 : decode cX7_readWind 67 = .ok (.iadd, 1) := by decide +kernel
theorem dX7_readWind_68 : decode cX7_readWind 68 = .ok (.putfield 110, 3) := by decide +kernel
theorem dX7_readWind_71 : decode cX7_readWind 71 = .ok (.return_, 1) := by decide +kernel
set_option maxRecDepth 20000 in
theorem ggX7_readWord_X7_refuse : GoodIn wsX7_readWord wsX7_refuse := goodIn_r _ [6, 7, 8, 9, 10, 11, 12, 13, 14] (by decide +kernel) (by decide +kernel)
set_option maxRecDepth 20000 in
theorem gX7_readWord_X7_refuse : GoodIn wsX7_readWord (wsV RX7 43 RX7 yX7_refuse wsX7_refuse) := goodIn_app (goodIn_of _ (by decide +kernel)) ggX7_readWord_X7_refuse
theorem dX7_readWord_0 : decode cX7_readWord 0 = .ok (.iload_n 1, 1) := by decide +kernel
theorem dX7_readWord_1 : decode cX7_readWord 1 = .ok (.ifCond .ne 12, 3) := by decide +kernel
theorem dX7_readWord_4 : decode cX7_readWord 4 = .ok (.aload_n 0, 1) := by decide +kernel
theorem dX7_readWord_5 : decode cX7_readWord 5 = .ok (.iconst 3, 1) := by decide +kernel
theorem dX7_readWord_6 : decode cX7_readWord 6 = .ok (.aload_n 0, 1) := by decide +kernel
theorem dX7_readWord_7 : decode cX7_readWord 7 = .ok (.getfield 30, 3) := by decide +kernel
theorem dX7_readWord_10 : decode cX7_readWord 10 = .ok (.invokevirtual 43, 3) := by decide +kernel
theorem dX7_readWord_13 : decode cX7_readWord 13 = .ok (.aload_n 0, 1) := by decide +kernel
theorem dX7_readWord_14 : decode cX7_readWord 14 = .ok (.dup, 1) := by decide +kernel
theorem dX7_readWord_15 : decode cX7_readWord 15 = .ok (.getfield 30, 3) := by decide +kernel
theorem dX7_readWord_18 : decode cX7_readWord 18 = .ok (.iconst 1, 1) := by decide +kernel
theorem dX7_readWord_19 : decode cX7_readWord 19 = .ok (.iadd, 1) := by decide +kernel
theorem dX7_readWord_20 : decode cX7_readWord 20 = .ok (.putfield 30, 3) := by decide +kernel
theorem dX7_readWord_23 : decode cX7_readWord 23 = .ok (.return_, 1) := by decide +kernel
set_option maxRecDepth 20000 in
theorem ggX7_readNumber_X7_skipBlanks : GoodIn wsX7_readNumber wsX7_skipBlanks := goodIn_r _ [10, 2, 4, 5, 19, 20, 21, 22, 23, 24] (by decide +kernel) (by decide +kernel)
set_option maxRecDepth 20000 in
theorem gX7_readNumber_X7_skipBlanks : GoodIn wsX7_readNumber (wsV RX7 33 RX7 yX7_skipBlanks wsX7_skipBlanks) := goodIn_app (goodIn_of _ (by decide +kernel)) ggX7_readNumber_X7_skipBlanks
set_option maxRecDepth 20000 in
theorem ggX7_readNumber_X7_isFigure : GoodIn wsX7_readNumber wsX7_isFigure := goodIn_r _ [13] (by decide +kernel) (by decide +kernel)
set_option maxRecDepth 20000 in
theorem gX7_readNumber_X7_isFigure : GoodIn wsX7_readNumber (va_wsS RX7 119 yX7_isFigure wsX7_isFigure) := goodIn_app (goodIn_of _ (by decide +kernel)) ggX7_readNumber_X7_isFigure
set_option maxRecDepth 20000 in
theorem ggX7_readNumber_X7_refuse : GoodIn wsX7_readNumber wsX7_refuse := goodIn_r _ [17, 1, 18, 19, 20, 21, 22, 23, 24] (by decide +kernel) (by decide +kernel)
set_option maxRecDepth 20000 in
theorem gX7_readNumber_X7_refuse : GoodIn wsX7_readNumber (wsV RX7 43 RX7 yX7_refuse wsX7_refuse) := goodIn_app (goodIn_of _ (by decide +kernel)) ggX7_readNumber_X7_refuse
theorem dX7_readNumber_0 : decode cX7_readNumber 0 = .ok (.aload_n 0, 1) := by decide +kernel
theorem dX7_readNumber_1 : decode cX7_readNumber 1 = .ok (.getfield 27, 3) := by decide +kernel
theorem dX7_readNumber_4 : decode cX7_readNumber 4 = .ok (.ifCond .eq 5, 3) := by decide +kernel
theorem dX7_readNumber_7 : decode cX7_readNumber 7 = .ok (.iconst 0, 1) := by decide +kernel
theorem dX7_readNumber_8 : decode cX7_readNumber 8 = .ok (.ireturn, 1) := by decide +kernel
theorem dX7_readNumber_9 : decode cX7_readNumber 9 = .ok (.aload_n 0, 1) := by decide +kernel
theorem dX7_readNumber_10 : decode cX7_readNumber 10 = .ok (.invokevirtual 33, 3) := by decide +kernel
theorem dX7_readNumber_13 : decode cX7_readNumber 13 = .ok (.aload_n 0, 1) := by decide +kernel
theorem dX7_readNumber_14 : decode cX7_readNumber 14 = .ok (.aload_n 0, 1) := by decide +kernel
theorem dX7_readNumber_15 : decode cX7_readNumber 15 = .ok (.getfield 30, 3) := by decide +kernel
theorem dX7_readNumber_18 : decode cX7_readNumber 18 = .ok (.putfield 83, 3) := by decide +kernel
theorem dX7_readNumber_21 : decode cX7_readNumber 21 = .ok (.iconst 0, 1) := by decide +kernel
theorem dX7_readNumber_22 : decode cX7_readNumber 22 = .ok (.istore_n 3, 1) := by decide +kernel
theorem dX7_readNumber_23 : decode cX7_readNumber 23 = .ok (.aload_n 0, 1) := by decide +kernel
theorem dX7_readNumber_24 : decode cX7_readNumber 24 = .ok (.getfield 30, 3) := by decide +kernel
theorem dX7_readNumber_27 : decode cX7_readNumber 27 = .ok (.aload_n 0, 1) := by decide +kernel
theorem dX7_readNumber_28 : decode cX7_readNumber 28 = .ok (.getfield 19, 3) := by decide +kernel
theorem dX7_readNumber_31 : decode cX7_readNumber 31 = .ok (.if_icmp .ge 53, 3) := by decide +kernel
theorem dX7_readNumber_34 : decode cX7_readNumber 34 = .ok (.aload_n 0, 1) := by decide +kernel
theorem dX7_readNumber_35 : decode cX7_readNumber 35 = .ok (.getfield 9, 3) := by decide +kernel
theorem dX7_readNumber_38 : decode cX7_readNumber 38 = .ok (.aload_n 0, 1) := by decide +kernel
theorem dX7_readNumber_39 : decode cX7_readNumber 39 = .ok (.getfield 30, 3) := by decide +kernel
theorem dX7_readNumber_42 : decode cX7_readNumber 42 = .ok (.iaload, 1) := by decide +kernel
theorem dX7_readNumber_43 : decode cX7_readNumber 43 = .ok (.invokestatic 119, 3) := by decide +kernel
theorem dX7_readNumber_46 : decode cX7_readNumber 46 = .ok (.ifCond .eq 38, 3) := by decide +kernel
theorem dX7_readNumber_49 : decode cX7_readNumber 49 = .ok (.iload_n 3, 1) := by decide +kernel
theorem dX7_readNumber_50 : decode cX7_readNumber 50 = .ok (.bipush 10, 2) := by decide +kernel
theorem dX7_readNumber_52 : decode cX7_readNumber 52 = .ok (.imul, 1) := by decide +kernel
theorem dX7_readNumber_53 : decode cX7_readNumber 53 = .ok (.aload_n 0, 1) := by decide +kernel
theorem dX7_readNumber_54 : decode cX7_readNumber 54 = .ok (.getfield 9, 3) := by decide +kernel
theorem dX7_readNumber_57 : decode cX7_readNumber 57 = .ok (.aload_n 0, 1) := by decide +kernel
theorem dX7_readNumber_58 : decode cX7_readNumber 58 = .ok (.getfield 30, 3) := by decide +kernel
theorem dX7_readNumber_61 : decode cX7_readNumber 61 = .ok (.iaload, 1) := by decide +kernel
theorem dX7_readNumber_62 : decode cX7_readNumber 62 = .ok (.iadd, 1) := by decide +kernel
theorem dX7_readNumber_63 : decode cX7_readNumber 63 = .ok (.bipush 48, 2) := by decide +kernel
theorem dX7_readNumber_65 : decode cX7_readNumber 65 = .ok (.isub, 1) := by decide +kernel
theorem dX7_readNumber_66 : decode cX7_readNumber 66 = .ok (.sipush 10000, 3) := by decide +kernel
theorem dX7_readNumber_69 : decode cX7_readNumber 69 = .ok (.irem, 1) := by decide +kernel
theorem dX7_readNumber_70 : decode cX7_readNumber 70 = .ok (.istore_n 3, 1) := by decide +kernel
theorem dX7_readNumber_71 : decode cX7_readNumber 71 = .ok (.aload_n 0, 1) := by decide +kernel
theorem dX7_readNumber_72 : decode cX7_readNumber 72 = .ok (.dup, 1) := by decide +kernel
theorem dX7_readNumber_73 : decode cX7_readNumber 73 = .ok (.getfield 30, 3) := by decide +kernel
theorem dX7_readNumber_76 : decode cX7_readNumber 76 = .ok (.iconst 1, 1) := by decide +kernel
theorem dX7_readNumber_77 : decode cX7_readNumber 77 = .ok (.iadd, 1) := by decide +kernel
theorem dX7_readNumber_78 : decode cX7_readNumber 78 = .ok (.putfield 30, 3) := by decide +kernel
theorem dX7_readNumber_81 : decode cX7_readNumber 81 = .ok (.goto (-58), 3) := by decide +kernel
theorem dX7_readNumber_84 : decode cX7_readNumber 84 = .ok (.aload_n 0, 1) := by decide +kernel
theorem dX7_readNumber_85 : decode cX7_readNumber 85 = .ok (.getfield 30, 3) := by decide +kernel
theorem dX7_readNumber_88 : decode cX7_readNumber 88 = .ok (.aload_n 0, 1) := by decide +kernel
theorem dX7_readNumber_89 : decode cX7_readNumber 89 = .ok (.getfield 83, 3) := by decide +kernel
theorem dX7_readNumber_92 : decode cX7_readNumber 92 = .ok (.isub, 1) := by decide +kernel
theorem dX7_readNumber_93 : decode cX7_readNumber 93 = .ok (.istore 4, 2) := by decide +kernel
theorem dX7_readNumber_95 : decode cX7_readNumber 95 = .ok (.iload 4, 2) := by decide +kernel
theorem dX7_readNumber_97 : decode cX7_readNumber 97 = .ok (.ifCond .ne 15, 3) := by decide +kernel
theorem dX7_readNumber_100 : decode cX7_readNumber 100 = .ok (.aload_n 0, 1) := by decide +kernel
theorem dX7_readNumber_101 : decode cX7_readNumber 101 = .ok (.iconst 1, 1) := by decide +kernel
theorem dX7_readNumber_102 : decode cX7_readNumber 102 = .ok (.aload_n 0, 1) := by decide +kernel
theorem dX7_readNumber_103 : decode cX7_readNumber 103 = .ok (.getfield 30, 3) := by decide +kernel
theorem dX7_readNumber_106 : decode cX7_readNumber 106 = .ok (.invokevirtual 43, 3) := by decide +kernel
theorem dX7_readNumber_109 : decode cX7_readNumber 109 = .ok (.goto 28, 3) := by decide +kernel
theorem dX7_readNumber_112 : decode cX7_readNumber 112 = .ok (.iload 4, 2) := by decide +kernel
theorem dX7_readNumber_114 : decode cX7_readNumber 114 = .ok (.iconst 3, 1) := by decide +kernel
theorem dX7_readNumber_115 : decode cX7_readNumber 115 = .ok (.if_icmp .gt 13, 3) := by decide +kernel
theorem dX7_readNumber_118 : decode cX7_readNumber 118 = .ok (.iload_n 3, 1) := by decide +kernel
theorem dX7_readNumber_119 : decode cX7_readNumber 119 = .ok (.iload_n 1, 1) := by decide +kernel
theorem dX7_readNumber_120 : decode cX7_readNumber 120 = .ok (.if_icmp .lt 8, 3) := by decide +kernel
theorem dX7_readNumber_123 : decode cX7_readNumber 123 = .ok (.iload_n 3, 1) := by decide +kernel
theorem dX7_readNumber_124 : decode cX7_readNumber 124 = .ok (.iload_n 2, 1) := by decide +kernel
theorem dX7_readNumber_125 : decode cX7_readNumber 125 = .ok (.if_icmp .le 12, 3) := by decide +kernel
theorem dX7_readNumber_128 : decode cX7_readNumber 128 = .ok (.aload_n 0, 1) := by decide +kernel
theorem dX7_readNumber_129 : decode cX7_readNumber 129 = .ok (.iconst 2, 1) := by decide +kernel
theorem dX7_readNumber_130 : decode cX7_readNumber 130 = .ok (.aload_n 0, 1) := by decide +kernel
theorem dX7_readNumber_131 : decode cX7_readNumber 131 = .ok (.getfield 83, 3) := by decide +kernel
theorem dX7_readNumber_134 : decode cX7_readNumber 134 = .ok (.invokevirtual 43, 3) := by decide +kernel
theorem dX7_readNumber_137 : decode cX7_readNumber 137 = .ok (.aload_n 0, 1) := by decide +kernel
theorem dX7_readNumber_138 : decode cX7_readNumber 138 = .ok (.getfield 27, 3) := by decide +kernel
theorem dX7_readNumber_141 : decode cX7_readNumber 141 = .ok (.ifCond .ne 7, 3) := by decide +kernel
theorem dX7_readNumber_144 : decode cX7_readNumber 144 = .ok (.iload_n 3, 1) := by decide +kernel
theorem dX7_readNumber_145 : decode cX7_readNumber 145 = .ok (.goto 4, 3) := by decide +kernel
theorem dX7_readNumber_148 : decode cX7_readNumber 148 = .ok (.iconst 0, 1) := by decide +kernel
theorem dX7_readNumber_149 : decode cX7_readNumber 149 = .ok (.ireturn, 1) := by decide +kernel
set_option maxRecDepth 20000 in
theorem ggX7_readEnd_X7_skipBlanks : GoodIn wsX7_readEnd wsX7_skipBlanks := goodIn_r _ [9, 2, 3, 4, 15, 16, 17, 18, 19, 20] (by decide +kernel) (by decide +kernel)
set_option maxRecDepth 20000 in
theorem gX7_readEnd_X7_skipBlanks : GoodIn wsX7_readEnd (wsV RX7 33 RX7 yX7_skipBlanks wsX7_skipBlanks) := goodIn_app (goodIn_of _ (by decide +kernel)) ggX7_readEnd_X7_skipBlanks
set_option maxRecDepth 20000 in
theorem ggX7_readEnd_X7_refuse : GoodIn wsX7_readEnd wsX7_refuse := goodIn_r _ [13, 1, 14, 15, 16, 17, 18, 19, 20] (by decide +kernel) (by decide +kernel)
set_option maxRecDepth 20000 in
theorem gX7_readEnd_X7_refuse : GoodIn wsX7_readEnd (wsV RX7 43 RX7 yX7_refuse wsX7_refuse) := goodIn_app (goodIn_of _ (by decide +kernel)) ggX7_readEnd_X7_refuse
theorem dX7_readEnd_0 : decode cX7_readEnd 0 = .ok (.aload_n 0, 1) := by decide +kernel
theorem dX7_readEnd_1 : decode cX7_readEnd 1 = .ok (.getfield 27, 3) := by decide +kernel
theorem dX7_readEnd_4 : decode cX7_readEnd 4 = .ok (.ifCond .eq 4, 3) := by decide +kernel
theorem dX7_readEnd_7 : decode cX7_readEnd 7 = .ok (.return_, 1) := by decide +kernel
theorem dX7_readEnd_8 : decode cX7_readEnd 8 = .ok (.aload_n 0, 1) := by decide +kernel
theorem dX7_readEnd_9 : decode cX7_readEnd 9 = .ok (.invokevirtual 33, 3) := by decide +kernel
theorem dX7_readEnd_12 : decode cX7_readEnd 12 = .ok (.aload_n 0, 1) := by decide +kernel
theorem dX7_readEnd_13 : decode cX7_readEnd 13 = .ok (.getfield 30, 3) := by decide +kernel
theorem dX7_readEnd_16 : decode cX7_readEnd 16 = .ok (.aload_n 0, 1) := by decide +kernel
theorem dX7_readEnd_17 : decode cX7_readEnd 17 = .ok (.getfield 19, 3) := by decide +kernel
theorem dX7_readEnd_20 : decode cX7_readEnd 20 = .ok (.if_icmp .ge 17, 3) := by decide +kernel
theorem dX7_readEnd_23 : decode cX7_readEnd 23 = .ok (.aload_n 0, 1) := by decide +kernel
theorem dX7_readEnd_24 : decode cX7_readEnd 24 = .ok (.getfield 9, 3) := by decide +kernel
theorem dX7_readEnd_27 : decode cX7_readEnd 27 = .ok (.aload_n 0, 1) := by decide +kernel
theorem dX7_readEnd_28 : decode cX7_readEnd 28 = .ok (.getfield 30, 3) := by decide +kernel
theorem dX7_readEnd_31 : decode cX7_readEnd 31 = .ok (.iaload, 1) := by decide +kernel
theorem dX7_readEnd_32 : decode cX7_readEnd 32 = .ok (.bipush 59, 2) := by decide +kernel
theorem dX7_readEnd_34 : decode cX7_readEnd 34 = .ok (.if_icmp .eq 12, 3) := by decide +kernel
theorem dX7_readEnd_37 : decode cX7_readEnd 37 = .ok (.aload_n 0, 1) := by decide +kernel
theorem dX7_readEnd_38 : decode cX7_readEnd 38 = .ok (.iconst 1, 1) := by decide +kernel
theorem dX7_readEnd_39 : decode cX7_readEnd 39 = .ok (.aload_n 0, 1) := by decide +kernel
theorem dX7_readEnd_40 : decode cX7_readEnd 40 = .ok (.getfield 30, 3) := by decide +kernel
theorem dX7_readEnd_43 : decode cX7_readEnd 43 = .ok (.invokevirtual 43, 3) := by decide +kernel
theorem dX7_readEnd_46 : decode cX7_readEnd 46 = .ok (.aload_n 0, 1) := by decide +kernel
theorem dX7_readEnd_47 : decode cX7_readEnd 47 = .ok (.dup, 1) := by decide +kernel
theorem dX7_readEnd_48 : decode cX7_readEnd 48 = .ok (.getfield 30, 3) := by decide +kernel
theorem dX7_readEnd_51 : decode cX7_readEnd 51 = .ok (.iconst 1, 1) := by decide +kernel
theorem dX7_readEnd_52 : decode cX7_readEnd 52 = .ok (.iadd, 1) := by decide +kernel
theorem dX7_readEnd_53 : decode cX7_readEnd 53 = .ok (.putfield 30, 3) := by decide +kernel
theorem dX7_readEnd_56 : decode cX7_readEnd 56 = .ok (.return_, 1) := by decide +kernel
theorem dX7_skipBlanks_0 : decode cX7_skipBlanks 0 = .ok (.aload_n 0, 1) := by decide +kernel
theorem dX7_skipBlanks_1 : decode cX7_skipBlanks 1 = .ok (.getfield 30, 3) := by decide +kernel
theorem dX7_skipBlanks_4 : decode cX7_skipBlanks 4 = .ok (.aload_n 0, 1) := by decide +kernel
theorem dX7_skipBlanks_5 : decode cX7_skipBlanks 5 = .ok (.getfield 19, 3) := by decide +kernel
theorem dX7_skipBlanks_8 : decode cX7_skipBlanks 8 = .ok (.if_icmp .ge 30, 3) := by decide +kernel
theorem dX7_skipBlanks_11 : decode cX7_skipBlanks 11 = .ok (.aload_n 0, 1) := by decide +kernel
theorem dX7_skipBlanks_12 : decode cX7_skipBlanks 12 = .ok (.getfield 9, 3) := by decide +kernel
theorem dX7_skipBlanks_15 : decode cX7_skipBlanks 15 = .ok (.aload_n 0, 1) := by decide +kernel
theorem dX7_skipBlanks_16 : decode cX7_skipBlanks 16 = .ok (.getfield 30, 3) := by decide +kernel
theorem dX7_skipBlanks_19 : decode cX7_skipBlanks 19 = .ok (.iaload, 1) := by decide +kernel
theorem dX7_skipBlanks_20 : decode cX7_skipBlanks 20 = .ok (.bipush 32, 2) := by decide +kernel
theorem dX7_skipBlanks_22 : decode cX7_skipBlanks 22 = .ok (.if_icmp .ne 16, 3) := by decide +kernel
theorem dX7_skipBlanks_25 : decode cX7_skipBlanks 25 = .ok (.aload_n 0, 1) := by decide +kernel
theorem dX7_skipBlanks_26 : decode cX7_skipBlanks 26 = .ok (.dup, 1) := by decide +kernel
theorem dX7_skipBlanks_27 : decode cX7_skipBlanks 27 = .ok (.getfield 30, 3) := by decide +kernel
theorem dX7_skipBlanks_30 : decode cX7_skipBlanks 30 = .ok (.iconst 1, 1) := by decide +kernel
theorem dX7_skipBlanks_31 : decode cX7_skipBlanks 31 = .ok (.iadd, 1) := by decide +kernel
theorem dX7_skipBlanks_32 : decode cX7_skipBlanks 32 = .ok (.putfield 30, 3) := by decide +kernel
theorem dX7_skipBlanks_35 : decode cX7_skipBlanks 35 = .ok (.goto (-35), 3) := by decide +kernel
theorem dX7_skipBlanks_38 : decode cX7_skipBlanks 38 = .ok (.return_, 1) := by decide +kernel
theorem dX7_isFigure_0 : decode cX7_isFigure 0 = .ok (.iload_n 0, 1) := by decide +kernel
theorem dX7_isFigure_1 : decode cX7_isFigure 1 = .ok (.bipush 48, 2) := by decide +kernel
theorem dX7_isFigure_3 : decode cX7_isFigure 3 = .ok (.if_icmp .lt 13, 3) := by decide +kernel
theorem dX7_isFigure_6 : decode cX7_isFigure 6 = .ok (.iload_n 0, 1) := by decide +kernel
theorem dX7_isFigure_7 : decode cX7_isFigure 7 = .ok (.bipush 57, 2) := by decide +kernel
theorem dX7_isFigure_9 : decode cX7_isFigure 9 = .ok (.if_icmp .gt 7, 3) := by decide +kernel
theorem dX7_isFigure_12 : decode cX7_isFigure 12 = .ok (.iconst 1, 1) := by decide +kernel
theorem dX7_isFigure_13 : decode cX7_isFigure 13 = .ok (.goto 4, 3) := by decide +kernel
theorem dX7_isFigure_16 : decode cX7_isFigure 16 = .ok (.iconst 0, 1) := by decide +kernel
theorem dX7_isFigure_17 : decode cX7_isFigure 17 = .ok (.ireturn, 1) := by decide +kernel
theorem dX7_refuse_0 : decode cX7_refuse 0 = .ok (.aload_n 0, 1) := by decide +kernel
theorem dX7_refuse_1 : decode cX7_refuse 1 = .ok (.getfield 27, 3) := by decide +kernel
theorem dX7_refuse_4 : decode cX7_refuse 4 = .ok (.ifCond .ne 13, 3) := by decide +kernel
theorem dX7_refuse_7 : decode cX7_refuse 7 = .ok (.aload_n 0, 1) := by decide +kernel
theorem dX7_refuse_8 : decode cX7_refuse 8 = .ok (.iload_n 1, 1) := by decide +kernel
theorem dX7_refuse_9 : decode cX7_refuse 9 = .ok (.putfield 27, 3) := by decide +kernel
theorem dX7_refuse_12 : decode cX7_refuse 12 = .ok (.aload_n 0, 1) := by decide +kernel
theorem dX7_refuse_13 : decode cX7_refuse 13 = .ok (.iload_n 2, 1) := by decide +kernel
theorem dX7_refuse_14 : decode cX7_refuse 14 = .ok (.putfield 15, 3) := by decide +kernel
theorem dX7_refuse_17 : decode cX7_refuse 17 = .ok (.return_, 1) := by decide +kernel
theorem dX8_init_0 : decode cX8_init 0 = .ok (.aload_n 0, 1) := by decide +kernel
theorem dX8_init_1 : decode cX8_init 1 = .ok (.invokespecial 3, 3) := by decide +kernel
theorem dX8_init_4 : decode cX8_init 4 = .ok (.aload_n 0, 1) := by decide +kernel
theorem dX8_init_5 : decode cX8_init 5 = .ok (.bipush 6, 2) := by decide +kernel
theorem dX8_init_7 : decode cX8_init 7 = .ok (.newarray .int, 2) := by decide +kernel
theorem dX8_init_9 : decode cX8_init 9 = .ok (.putfield 9, 3) := by decide +kernel
theorem dX8_init_12 : decode cX8_init 12 = .ok (.return_, 1) := by decide +kernel
set_option maxRecDepth 20000 in
theorem ggX8_begin_X8_settle : GoodIn wsX8_begin wsX8_settle := goodIn_r _ [12, 2, 13, 6, 5, 14, 15, 16, 11, 17, 4, 31, 32, 33, 34, 35, 36] (by decide +kernel) (by decide +kernel)
set_option maxRecDepth 20000 in
theorem gX8_begin_X8_settle : GoodIn wsX8_begin (wsV RX8 36 RX8 yX8_settle wsX8_settle) := goodIn_app (goodIn_of _ (by decide +kernel)) ggX8_begin_X8_settle
theorem dX8_begin_0 : decode cX8_begin 0 = .ok (.aload_n 0, 1) := by decide +kernel
theorem dX8_begin_1 : decode cX8_begin 1 = .ok (.aload_n 1, 1) := by decide +kernel
theorem dX8_begin_2 : decode cX8_begin 2 = .ok (.getfield 15, 3) := by decide +kernel
theorem dX8_begin_5 : decode cX8_begin 5 = .ok (.putfield 21, 3) := by decide +kernel
theorem dX8_begin_8 : decode cX8_begin 8 = .ok (.aload_n 0, 1) := by decide +kernel
theorem dX8_begin_9 : decode cX8_begin 9 = .ok (.aload_n 1, 1) := by decide +kernel
theorem dX8_begin_10 : decode cX8_begin 10 = .ok (.getfield 22, 3) := by decide +kernel
theorem dX8_begin_13 : decode cX8_begin 13 = .ok (.putfield 25, 3) := by decide +kernel
theorem dX8_begin_16 : decode cX8_begin 16 = .ok (.aload_n 0, 1) := by decide +kernel
theorem dX8_begin_17 : decode cX8_begin 17 = .ok (.iconst 0, 1) := by decide +kernel
theorem dX8_begin_18 : decode cX8_begin 18 = .ok (.putfield 26, 3) := by decide +kernel
theorem dX8_begin_21 : decode cX8_begin 21 = .ok (.aload_n 0, 1) := by decide +kernel
theorem dX8_begin_22 : decode cX8_begin 22 = .ok (.iconst 0, 1) := by decide +kernel
theorem dX8_begin_23 : decode cX8_begin 23 = .ok (.putfield 29, 3) := by decide +kernel
theorem dX8_begin_26 : decode cX8_begin 26 = .ok (.aload_n 0, 1) := by decide +kernel
theorem dX8_begin_27 : decode cX8_begin 27 = .ok (.iconst 0, 1) := by decide +kernel
theorem dX8_begin_28 : decode cX8_begin 28 = .ok (.putfield 32, 3) := by decide +kernel
theorem dX8_begin_31 : decode cX8_begin 31 = .ok (.aload_n 0, 1) := by decide +kernel
theorem dX8_begin_32 : decode cX8_begin 32 = .ok (.iconst 0, 1) := by decide +kernel
theorem dX8_begin_33 : decode cX8_begin 33 = .ok (.iconst 0, 1) := by decide +kernel
theorem dX8_begin_34 : decode cX8_begin 34 = .ok (.invokevirtual 36, 3) := by decide +kernel
theorem dX8_begin_37 : decode cX8_begin 37 = .ok (.return_, 1) := by decide +kernel
set_option maxRecDepth 20000 in
theorem ggX8_advance_X8_settle : GoodIn wsX8_advance wsX8_settle := goodIn_r _ [10, 1, 2, 3, 4, 11, 12, 13, 9, 14, 15, 16, 17, 18, 19, 20, 21] (by decide +kernel) (by decide +kernel)
set_option maxRecDepth 20000 in
theorem gX8_advance_X8_settle : GoodIn wsX8_advance (wsV RX8 36 RX8 yX8_settle wsX8_settle) := goodIn_app (goodIn_of _ (by decide +kernel)) ggX8_advance_X8_settle
theorem dX8_advance_0 : decode cX8_advance 0 = .ok (.aload_n 0, 1) := by decide +kernel
theorem dX8_advance_1 : decode cX8_advance 1 = .ok (.getfield 21, 3) := by decide +kernel
theorem dX8_advance_4 : decode cX8_advance 4 = .ok (.iconst 1, 1) := by decide +kernel
theorem dX8_advance_5 : decode cX8_advance 5 = .ok (.isub, 1) := by decide +kernel
theorem dX8_advance_6 : decode cX8_advance 6 = .ok (.istore_n 1, 1) := by decide +kernel
theorem dX8_advance_7 : decode cX8_advance 7 = .ok (.iload_n 1, 1) := by decide +kernel
theorem dX8_advance_8 : decode cX8_advance 8 = .ok (.ifCond .lt 58, 3) := by decide +kernel
theorem dX8_advance_11 : decode cX8_advance 11 = .ok (.aload_n 0, 1) := by decide +kernel
theorem dX8_advance_12 : decode cX8_advance 12 = .ok (.getfield 9, 3) := by decide +kernel
theorem dX8_advance_15 : decode cX8_advance 15 = .ok (.iload_n 1, 1) := by decide +kernel
theorem dX8_advance_16 : decode cX8_advance 16 = .ok (.iaload, 1) := by decide +kernel
theorem dX8_advance_17 : decode cX8_advance 17 = .ok (.istore_n 2, 1) := by decide +kernel
theorem dX8_advance_18 : decode cX8_advance 18 = .ok (.iload_n 2, 1) := by decide +kernel
theorem dX8_advance_19 : decode cX8_advance 19 = .ok (.iconst (-1), 1) := by decide +kernel
theorem dX8_advance_20 : decode cX8_advance 20 = .ok (.if_icmp .eq 40, 3) := by decide +kernel
theorem dX8_advance_23 : decode cX8_advance 23 = .ok (.aload_n 0, 1) := by decide +kernel
theorem dX8_advance_24 : decode cX8_advance 24 = .ok (.dup, 1) := by decide +kernel
theorem dX8_advance_25 : decode cX8_advance 25 = .ok (.getfield 29, 3) := by decide +kernel
theorem dX8_advance_28 : decode cX8_advance 28 = .ok (.iconst 1, 1) := by decide +kernel
theorem dX8_advance_29 : decode cX8_advance 29 = .ok (.iload_n 2, 1) := by decide +kernel
theorem dX8_advance_30 : decode cX8_advance 30 = .ok (.ishl, 1) := by decide +kernel
theorem dX8_advance_31 : decode cX8_advance 31 = .ok (.iconst (-1), 1) := by decide +kernel
theorem dX8_advance_32 : decode cX8_advance 32 = .ok (.ixor, 1) := by decide +kernel
theorem dX8_advance_33 : decode cX8_advance 33 = .ok (.iand, 1) := by decide +kernel
theorem dX8_advance_34 : decode cX8_advance 34 = .ok (.putfield 29, 3) := by decide +kernel
theorem dX8_advance_37 : decode cX8_advance 37 = .ok (.aload_n 0, 1) := by decide +kernel
theorem dX8_advance_38 : decode cX8_advance 38 = .ok (.dup, 1) := by decide +kernel
theorem dX8_advance_39 : decode cX8_advance 39 = .ok (.getfield 26, 3) := by decide +kernel
theorem dX8_advance_42 : decode cX8_advance 42 = .ok (.iconst 1, 1) := by decide +kernel
theorem dX8_advance_43 : decode cX8_advance 43 = .ok (.iload_n 1, 1) := by decide +kernel
theorem dX8_advance_44 : decode cX8_advance 44 = .ok (.ishl, 1) := by decide +kernel
theorem dX8_advance_45 : decode cX8_advance 45 = .ok (.iconst (-1), 1) := by decide +kernel
theorem dX8_advance_46 : decode cX8_advance 46 = .ok (.ixor, 1) := by decide +kernel
theorem dX8_advance_47 : decode cX8_advance 47 = .ok (.iand, 1) := by decide +kernel
theorem dX8_advance_48 : decode cX8_advance 48 = .ok (.putfield 26, 3) := by decide +kernel
theorem dX8_advance_51 : decode cX8_advance 51 = .ok (.aload_n 0, 1) := by decide +kernel
theorem dX8_advance_52 : decode cX8_advance 52 = .ok (.iload_n 1, 1) := by decide +kernel
theorem dX8_advance_53 : decode cX8_advance 53 = .ok (.iload_n 2, 1) := by decide +kernel
theorem dX8_advance_54 : decode cX8_advance 54 = .ok (.iconst 1, 1) := by decide +kernel
theorem dX8_advance_55 : decode cX8_advance 55 = .ok (.iadd, 1) := by decide +kernel
theorem dX8_advance_56 : decode cX8_advance 56 = .ok (.invokevirtual 36, 3) := by decide +kernel
theorem dX8_advance_59 : decode cX8_advance 59 = .ok (.return_, 1) := by decide +kernel
theorem dX8_advance_60 : decode cX8_advance 60 = .ok (.iinc 1 (-1), 3) := by decide +kernel
theorem dX8_advance_63 : decode cX8_advance 63 = .ok (.goto (-56), 3) := by decide +kernel
theorem dX8_advance_66 : decode cX8_advance 66 = .ok (.aload_n 0, 1) := by decide +kernel
theorem dX8_advance_67 : decode cX8_advance 67 = .ok (.iconst 1, 1) := by decide +kernel
theorem dX8_advance_68 : decode cX8_advance 68 = .ok (.putfield 32, 3) := by decide +kernel
theorem dX8_advance_71 : decode cX8_advance 71 = .ok (.return_, 1) := by decide +kernel
set_option maxRecDepth 20000 in
theorem ggX8_settle_X8_leastFree : GoodIn wsX8_settle wsX8_leastFree := goodIn_r _ [9, 10, 3, 11, 12, 13, 14, 15, 16] (by decide +kernel) (by decide +kernel)
set_option maxRecDepth 20000 in
theorem gX8_settle_X8_leastFree : GoodIn wsX8_settle (wsV RX8 40 RX8 yX8_leastFree wsX8_leastFree) := goodIn_app (goodIn_of _ (by decide +kernel)) ggX8_settle_X8_leastFree
theorem dX8_settle_0 : decode cX8_settle 0 = .ok (.iload_n 2, 1) := by decide +kernel
theorem dX8_settle_1 : decode cX8_settle 1 = .ok (.istore_n 3, 1) := by decide +kernel
theorem dX8_settle_2 : decode cX8_settle 2 = .ok (.iload_n 1, 1) := by decide +kernel
theorem dX8_settle_3 : decode cX8_settle 3 = .ok (.istore 4, 2) := by decide +kernel
theorem dX8_settle_5 : decode cX8_settle 5 = .ok (.iload 4, 2) := by decide +kernel
theorem dX8_settle_7 : decode cX8_settle 7 = .ok (.aload_n 0, 1) := by decide +kernel
theorem dX8_settle_8 : decode cX8_settle 8 = .ok (.getfield 21, 3) := by decide +kernel
theorem dX8_settle_11 : decode cX8_settle 11 = .ok (.if_icmp .ge 65, 3) := by decide +kernel
theorem dX8_settle_14 : decode cX8_settle 14 = .ok (.aload_n 0, 1) := by decide +kernel
theorem dX8_settle_15 : decode cX8_settle 15 = .ok (.getfield 9, 3) := by decide +kernel
theorem dX8_settle_18 : decode cX8_settle 18 = .ok (.iload 4, 2) := by decide +kernel
theorem dX8_settle_20 : decode cX8_settle 20 = .ok (.aload_n 0, 1) := by decide +kernel
theorem dX8_settle_21 : decode cX8_settle 21 = .ok (.iload_n 3, 1) := by decide +kernel
theorem dX8_settle_22 : decode cX8_settle 22 = .ok (.invokevirtual 40, 3) := by decide +kernel
theorem dX8_settle_25 : decode cX8_settle 25 = .ok (.iastore, 1) := by decide +kernel
theorem dX8_settle_26 : decode cX8_settle 26 = .ok (.aload_n 0, 1) := by decide +kernel
theorem dX8_settle_27 : decode cX8_settle 27 = .ok (.getfield 9, 3) := by decide +kernel
theorem dX8_settle_30 : decode cX8_settle 30 = .ok (.iload 4, 2) := by decide +kernel
theorem dX8_settle_32 : decode cX8_settle 32 = .ok (.iaload, 1) := by decide +kernel
theorem dX8_settle_33 : decode cX8_settle 33 = .ok (.iconst (-1), 1) := by decide +kernel
theorem dX8_settle_34 : decode cX8_settle 34 = .ok (.if_icmp .eq 34, 3) := by decide +kernel
theorem dX8_settle_37 : decode cX8_settle 37 = .ok (.aload_n 0, 1) := by decide +kernel
theorem dX8_settle_38 : decode cX8_settle 38 = .ok (.dup, 1) := by decide +kernel
theorem dX8_settle_39 : decode cX8_settle 39 = .ok (.getfield 29, 3) := by decide +kernel
theorem dX8_settle_42 : decode cX8_settle 42 = .ok (.iconst 1, 1) := by decide +kernel
theorem dX8_settle_43 : decode cX8_settle 43 = .ok (.aload_n 0, 1) := by decide +kernel
theorem dX8_settle_44 : decode cX8_settle 44 = .ok (.getfield 9, 3) := by decide +kernel
theorem dX8_settle_47 : decode cX8_settle 47 = .ok (.iload 4, 2) := by decide +kernel
theorem dX8_settle_49 : decode cX8_settle 49 = .ok (.iaload, 1) := by decide +kernel
theorem dX8_settle_50 : decode cX8_settle 50 = .ok (.ishl, 1) := by decide +kernel
theorem dX8_settle_51 : decode cX8_settle 51 = .ok (.ior, 1) := by decide +kernel
theorem dX8_settle_52 : decode cX8_settle 52 = .ok (.putfield 29, 3) := by decide +kernel
theorem dX8_settle_55 : decode cX8_settle 55 = .ok (.aload_n 0, 1) := by decide +kernel
theorem dX8_settle_56 : decode cX8_settle 56 = .ok (.dup, 1) := by decide +kernel
theorem dX8_settle_57 : decode cX8_settle 57 = .ok (.getfield 26, 3) := by decide +kernel
theorem dX8_settle_60 : decode cX8_settle 60 = .ok (.iconst 1, 1) := by decide +kernel
theorem dX8_settle_61 : decode cX8_settle 61 = .ok (.iload 4, 2) := by decide +kernel
theorem dX8_settle_63 : decode cX8_settle 63 = .ok (.ishl, 1) := by decide +kernel
theorem dX8_settle_64 : decode cX8_settle 64 = .ok (.ior, 1) := by decide +kernel
theorem dX8_settle_65 : decode cX8_settle 65 = .ok (.putfield 26, 3) := by decide +kernel
theorem dX8_settle_68 : decode cX8_settle 68 = .ok (.iconst 0, 1) := by decide +kernel
theorem dX8_settle_69 : decode cX8_settle 69 = .ok (.istore_n 3, 1) := by decide +kernel
theorem dX8_settle_70 : decode cX8_settle 70 = .ok (.iinc 4 1, 3) := by decide +kernel
theorem dX8_settle_73 : decode cX8_settle 73 = .ok (.goto (-68), 3) := by decide +kernel
theorem dX8_settle_76 : decode cX8_settle 76 = .ok (.return_, 1) := by decide +kernel
theorem dX8_leastFree_0 : decode cX8_leastFree 0 = .ok (.iload_n 1, 1) := by decide +kernel
theorem dX8_leastFree_1 : decode cX8_leastFree 1 = .ok (.istore_n 2, 1) := by decide +kernel
theorem dX8_leastFree_2 : decode cX8_leastFree 2 = .ok (.iload_n 2, 1) := by decide +kernel
theorem dX8_leastFree_3 : decode cX8_leastFree 3 = .ok (.aload_n 0, 1) := by decide +kernel
theorem dX8_leastFree_4 : decode cX8_leastFree 4 = .ok (.getfield 25, 3) := by decide +kernel
theorem dX8_leastFree_7 : decode cX8_leastFree 7 = .ok (.if_icmp .ge 22, 3) := by decide +kernel
theorem dX8_leastFree_10 : decode cX8_leastFree 10 = .ok (.aload_n 0, 1) := by decide +kernel
theorem dX8_leastFree_11 : decode cX8_leastFree 11 = .ok (.getfield 29, 3) := by decide +kernel
theorem dX8_leastFree_14 : decode cX8_leastFree 14 = .ok (.iload_n 2, 1) := by decide +kernel
theorem dX8_leastFree_15 : decode cX8_leastFree 15 = .ok (.ishr, 1) := by decide +kernel
theorem dX8_leastFree_16 : decode cX8_leastFree 16 = .ok (.iconst 1, 1) := by decide +kernel
theorem dX8_leastFree_17 : decode cX8_leastFree 17 = .ok (.iand, 1) := by decide +kernel
theorem dX8_leastFree_18 : decode cX8_leastFree 18 = .ok (.ifCond .ne 5, 3) := by decide +kernel
theorem dX8_leastFree_21 : decode cX8_leastFree 21 = .ok (.iload_n 2, 1) := by decide +kernel
theorem dX8_leastFree_22 : decode cX8_leastFree 22 = .ok (.ireturn, 1) := by decide +kernel
theorem dX8_leastFree_23 : decode cX8_leastFree 23 = .ok (.iinc 2 1, 3) := by decide +kernel
theorem dX8_leastFree_26 : decode cX8_leastFree 26 = .ok (.goto (-24), 3) := by decide +kernel
theorem dX8_leastFree_29 : decode cX8_leastFree 29 = .ok (.iconst (-1), 1) := by decide +kernel
theorem dX8_leastFree_30 : decode cX8_leastFree 30 = .ok (.ireturn, 1) := by decide +kernel
theorem dX9_init_0 : decode cX9_init 0 = .ok (.aload_n 0, 1) := by decide +kernel
theorem dX9_init_1 : decode cX9_init 1 = .ok (.invokespecial 3, 3) := by decide +kernel
theorem dX9_init_4 : decode cX9_init 4 = .ok (.aload_n 0, 1) := by decide +kernel
theorem dX9_init_5 : decode cX9_init 5 = .ok (.bipush 12, 2) := by decide +kernel
theorem dX9_init_7 : decode cX9_init 7 = .ok (.newarray .int, 2) := by decide +kernel
theorem dX9_init_9 : decode cX9_init 9 = .ok (.putfield 9, 3) := by decide +kernel
theorem dX9_init_12 : decode cX9_init 12 = .ok (.aload_n 0, 1) := by decide +kernel
theorem dX9_init_13 : decode cX9_init 13 = .ok (.bipush 6, 2) := by decide +kernel
theorem dX9_init_15 : decode cX9_init 15 = .ok (.newarray .int, 2) := by decide +kernel
theorem dX9_init_17 : decode cX9_init 17 = .ok (.putfield 15, 3) := by decide +kernel
theorem dX9_init_20 : decode cX9_init 20 = .ok (.aload_n 0, 1) := by decide +kernel
theorem dX9_init_21 : decode cX9_init 21 = .ok (.bipush 6, 2) := by decide +kernel
theorem dX9_init_23 : decode cX9_init 23 = .ok (.newarray .int, 2) := by decide +kernel
theorem dX9_init_25 : decode cX9_init 25 = .ok (.putfield 18, 3) := by decide +kernel
theorem dX9_init_28 : decode cX9_init 28 = .ok (.aload_n 0, 1) := by decide +kernel
theorem dX9_init_29 : decode cX9_init 29 = .ok (.iconst 5, 1) := by decide +kernel
theorem dX9_init_30 : decode cX9_init 30 = .ok (.newarray .int, 2) := by decide +kernel
theorem dX9_init_32 : decode cX9_init 32 = .ok (.putfield 21, 3) := by decide +kernel
theorem dX9_init_35 : decode cX9_init 35 = .ok (.aload_n 0, 1) := by decide +kernel
theorem dX9_init_36 : decode cX9_init 36 = .ok (.iconst 5, 1) := by decide +kernel
theorem dX9_init_37 : decode cX9_init 37 = .ok (.newarray .int, 2) := by decide +kernel
theorem dX9_init_39 : decode cX9_init 39 = .ok (.putfield 24, 3) := by decide +kernel
theorem dX9_init_42 : decode cX9_init 42 = .ok (.return_, 1) := by decide +kernel
set_option maxRecDepth 20000 in
theorem ggX9_begin_X5_allPosts : GoodIn wsX9_begin wsX5_allPosts := goodIn_r _ [15, 16, 25, 26, 27, 28, 29, 30, 31, 32, 33, 34, 35, 36, 37] (by decide +kernel) (by decide +kernel)
set_option maxRecDepth 20000 in
theorem gX9_begin_X5_allPosts : GoodIn wsX9_begin (wsV RX9 31 RX5 yX5_allPosts wsX5_allPosts) := goodIn_app (goodIn_of _ (by decide +kernel)) ggX9_begin_X5_allPosts
theorem dX9_begin_0 : decode cX9_begin 0 = .ok (.iconst 0, 1) := by decide +kernel
theorem dX9_begin_1 : decode cX9_begin 1 = .ok (.istore_n 2, 1) := by decide +kernel
theorem dX9_begin_2 : decode cX9_begin 2 = .ok (.iload_n 2, 1) := by decide +kernel
theorem dX9_begin_3 : decode cX9_begin 3 = .ok (.bipush 12, 2) := by decide +kernel
theorem dX9_begin_5 : decode cX9_begin 5 = .ok (.if_icmp .ge 16, 3) := by decide +kernel
theorem dX9_begin_8 : decode cX9_begin 8 = .ok (.aload_n 0, 1) := by decide +kernel
theorem dX9_begin_9 : decode cX9_begin 9 = .ok (.getfield 9, 3) := by decide +kernel
theorem dX9_begin_12 : decode cX9_begin 12 = .ok (.iload_n 2, 1) := by decide +kernel
theorem dX9_begin_13 : decode cX9_begin 13 = .ok (.iconst 0, 1) := by decide +kernel
theorem dX9_begin_14 : decode cX9_begin 14 = .ok (.iastore, 1) := by decide +kernel
theorem dX9_begin_15 : decode cX9_begin 15 = .ok (.iinc 2 1, 3) := by decide +kernel
theorem dX9_begin_18 : decode cX9_begin 18 = .ok (.goto (-16), 3) := by decide +kernel
theorem dX9_begin_21 : decode cX9_begin 21 = .ok (.iconst 0, 1) := by decide +kernel
theorem dX9_begin_22 : decode cX9_begin 22 = .ok (.istore_n 2, 1) := by decide +kernel
theorem dX9_begin_23 : decode cX9_begin 23 = .ok (.iload_n 2, 1) := by decide +kernel
theorem dX9_begin_24 : decode cX9_begin 24 = .ok (.bipush 6, 2) := by decide +kernel
theorem dX9_begin_26 : decode cX9_begin 26 = .ok (.if_icmp .ge 28, 3) := by decide +kernel
theorem dX9_begin_29 : decode cX9_begin 29 = .ok (.aload_n 0, 1) := by decide +kernel
theorem dX9_begin_30 : decode cX9_begin 30 = .ok (.getfield 15, 3) := by decide +kernel
theorem dX9_begin_33 : decode cX9_begin 33 = .ok (.iload_n 2, 1) := by decide +kernel
theorem dX9_begin_34 : decode cX9_begin 34 = .ok (.aload_n 1, 1) := by decide +kernel
theorem dX9_begin_35 : decode cX9_begin 35 = .ok (.getfield 27, 3) := by decide +kernel
theorem dX9_begin_38 : decode cX9_begin 38 = .ok (.iload_n 2, 1) := by decide +kernel
theorem dX9_begin_39 : decode cX9_begin 39 = .ok (.iaload, 1) := by decide +kernel
theorem dX9_begin_40 : decode cX9_begin 40 = .ok (.iastore, 1) := by decide +kernel
theorem dX9_begin_41 : decode cX9_begin 41 = .ok (.aload_n 0, 1) := by decide +kernel
theorem dX9_begin_42 : decode cX9_begin 42 = .ok (.getfield 18, 3) := by decide +kernel
theorem dX9_begin_45 : decode cX9_begin 45 = .ok (.iload_n 2, 1) := by decide +kernel
theorem dX9_begin_46 : decode cX9_begin 46 = .ok (.iconst (-1), 1) := by decide +kernel
theorem dX9_begin_47 : decode cX9_begin 47 = .ok (.iastore, 1) := by decide +kernel
theorem dX9_begin_48 : decode cX9_begin 48 = .ok (.iinc 2 1, 3) := by decide +kernel
theorem dX9_begin_51 : decode cX9_begin 51 = .ok (.goto (-28), 3) := by decide +kernel
theorem dX9_begin_54 : decode cX9_begin 54 = .ok (.iconst 0, 1) := by decide +kernel
theorem dX9_begin_55 : decode cX9_begin 55 = .ok (.istore_n 2, 1) := by decide +kernel
theorem dX9_begin_56 : decode cX9_begin 56 = .ok (.iload_n 2, 1) := by decide +kernel
theorem dX9_begin_57 : decode cX9_begin 57 = .ok (.iconst 5, 1) := by decide +kernel
theorem dX9_begin_58 : decode cX9_begin 58 = .ok (.if_icmp .ge 28, 3) := by decide +kernel
theorem dX9_begin_61 : decode cX9_begin 61 = .ok (.aload_n 0, 1) := by decide +kernel
theorem dX9_begin_62 : decode cX9_begin 62 = .ok (.getfield 21, 3) := by decide +kernel
theorem dX9_begin_65 : decode cX9_begin 65 = .ok (.iload_n 2, 1) := by decide +kernel
theorem dX9_begin_66 : decode cX9_begin 66 = .ok (.aload_n 1, 1) := by decide +kernel
theorem dX9_begin_67 : decode cX9_begin 67 = .ok (.getfield 30, 3) := by decide +kernel
theorem dX9_begin_70 : decode cX9_begin 70 = .ok (.iload_n 2, 1) := by decide +kernel
theorem dX9_begin_71 : decode cX9_begin 71 = .ok (.iaload, 1) := by decide +kernel
theorem dX9_begin_72 : decode cX9_begin 72 = .ok (.iastore, 1) := by decide +kernel
theorem dX9_begin_73 : decode cX9_begin 73 = .ok (.aload_n 0, 1) := by decide +kernel
theorem dX9_begin_74 : decode cX9_begin 74 = .ok (.getfield 24, 3) := by decide +kernel
theorem dX9_begin_77 : decode cX9_begin 77 = .ok (.iload_n 2, 1) := by decide +kernel
theorem dX9_begin_78 : decode cX9_begin 78 = .ok (.iconst 0, 1) := by decide +kernel
theorem dX9_begin_79 : decode cX9_begin 79 = .ok (.iastore, 1) := by decide +kernel
theorem dX9_begin_80 : decode cX9_begin 80 = .ok (.iinc 2 1, 3) := by decide +kernel
theorem dX9_begin_83 : decode cX9_begin 83 = .ok (.goto (-27), 3) := by decide +kernel
theorem dX9_begin_86 : decode cX9_begin 86 = .ok (.aload_n 0, 1) := by decide +kernel
theorem dX9_begin_87 : decode cX9_begin 87 = .ok (.aload_n 1, 1) := by decide +kernel
theorem dX9_begin_88 : decode cX9_begin 88 = .ok (.invokevirtual 31, 3) := by decide +kernel
theorem dX9_begin_91 : decode cX9_begin 91 = .ok (.putfield 35, 3) := by decide +kernel
theorem dX9_begin_94 : decode cX9_begin 94 = .ok (.aload_n 0, 1) := by decide +kernel
theorem dX9_begin_95 : decode cX9_begin 95 = .ok (.iconst 0, 1) := by decide +kernel
theorem dX9_begin_96 : decode cX9_begin 96 = .ok (.putfield 39, 3) := by decide +kernel
theorem dX9_begin_99 : decode cX9_begin 99 = .ok (.aload_n 0, 1) := by decide +kernel
theorem dX9_begin_100 : decode cX9_begin 100 = .ok (.iconst 0, 1) := by decide +kernel
theorem dX9_begin_101 : decode cX9_begin 101 = .ok (.putfield 42, 3) := by decide +kernel
theorem dX9_begin_104 : decode cX9_begin 104 = .ok (.return_, 1) := by decide +kernel
theorem dX9_copyFrom_0 : decode cX9_copyFrom 0 = .ok (.aload_n 1, 1) := by decide +kernel
theorem dX9_copyFrom_1 : decode cX9_copyFrom 1 = .ok (.getfield 9, 3) := by decide +kernel
theorem dX9_copyFrom_4 : decode cX9_copyFrom 4 = .ok (.iconst 0, 1) := by decide +kernel
theorem dX9_copyFrom_5 : decode cX9_copyFrom 5 = .ok (.aload_n 0, 1) := by decide +kernel
theorem dX9_copyFrom_6 : decode cX9_copyFrom 6 = .ok (.getfield 9, 3) := by decide +kernel
theorem dX9_copyFrom_9 : decode cX9_copyFrom 9 = .ok (.iconst 0, 1) := by decide +kernel
theorem dX9_copyFrom_10 : decode cX9_copyFrom 10 = .ok (.bipush 12, 2) := by decide +kernel
theorem dX9_copyFrom_12 : decode cX9_copyFrom 12 = .ok (.invokestatic 45, 3) := by decide +kernel
theorem dX9_copyFrom_15 : decode cX9_copyFrom 15 = .ok (.aload_n 1, 1) := by decide +kernel
theorem dX9_copyFrom_16 : decode cX9_copyFrom 16 = .ok (.getfield 15, 3) := by decide +kernel
theorem dX9_copyFrom_19 : decode cX9_copyFrom 19 = .ok (.iconst 0, 1) := by decide +kernel
theorem dX9_copyFrom_20 : decode cX9_copyFrom 20 = .ok (.aload_n 0, 1) := by decide +kernel
theorem dX9_copyFrom_21 : decode cX9_copyFrom 21 = .ok (.getfield 15, 3) := by decide +kernel
theorem dX9_copyFrom_24 : decode cX9_copyFrom 24 = .ok (.iconst 0, 1) := by decide +kernel
theorem dX9_copyFrom_25 : decode cX9_copyFrom 25 = .ok (.bipush 6, 2) := by decide +kernel
theorem dX9_copyFrom_27 : decode cX9_copyFrom 27 = .ok (.invokestatic 45, 3) := by decide +kernel
theorem dX9_copyFrom_30 : decode cX9_copyFrom 30 = .ok (.aload_n 1, 1) := by decide +kernel
theorem dX9_copyFrom_31 : decode cX9_copyFrom 31 = .ok (.getfield 18, 3) := by decide +kernel
theorem dX9_copyFrom_34 : decode cX9_copyFrom 34 = .ok (.iconst 0, 1) := by decide +kernel
theorem dX9_copyFrom_35 : decode cX9_copyFrom 35 = .ok (.aload_n 0, 1) := by decide +kernel
theorem dX9_copyFrom_36 : decode cX9_copyFrom 36 = .ok (.getfield 18, 3) := by decide +kernel
theorem dX9_copyFrom_39 : decode cX9_copyFrom 39 = .ok (.iconst 0, 1) := by decide +kernel
theorem dX9_copyFrom_40 : decode cX9_copyFrom 40 = .ok (.bipush 6, 2) := by decide +kernel
theorem dX9_copyFrom_42 : decode cX9_copyFrom 42 = .ok (.invokestatic 45, 3) := by decide +kernel
theorem dX9_copyFrom_45 : decode cX9_copyFrom 45 = .ok (.aload_n 1, 1) := by decide +kernel
theorem dX9_copyFrom_46 : decode cX9_copyFrom 46 = .ok (.getfield 21, 3) := by decide +kernel
theorem dX9_copyFrom_49 : decode cX9_copyFrom 49 = .ok (.iconst 0, 1) := by decide +kernel
theorem dX9_copyFrom_50 : decode cX9_copyFrom 50 = .ok (.aload_n 0, 1) := by decide +kernel
theorem dX9_copyFrom_51 : decode cX9_copyFrom 51 = .ok (.getfield 21, 3) := by decide +kernel
theorem dX9_copyFrom_54 : decode cX9_copyFrom 54 = .ok (.iconst 0, 1) := by decide +kernel
theorem dX9_copyFrom_55 : decode cX9_copyFrom 55 = .ok (.iconst 5, 1) := by decide +kernel
theorem dX9_copyFrom_56 : decode cX9_copyFrom 56 = .ok (.invokestatic 45, 3) := by decide +kernel
theorem dX9_copyFrom_59 : decode cX9_copyFrom 59 = .ok (.aload_n 1, 1) := by decide +kernel
theorem dX9_copyFrom_60 : decode cX9_copyFrom 60 = .ok (.getfield 24, 3) := by decide +kernel
theorem dX9_copyFrom_63 : decode cX9_copyFrom 63 = .ok (.iconst 0, 1) := by decide +kernel
theorem dX9_copyFrom_64 : decode cX9_copyFrom 64 = .ok (.aload_n 0, 1) := by decide +kernel
theorem dX9_copyFrom_65 : decode cX9_copyFrom 65 = .ok (.getfield 24, 3) := by decide +kernel
theorem dX9_copyFrom_68 : decode cX9_copyFrom 68 = .ok (.iconst 0, 1) := by decide +kernel
theorem dX9_copyFrom_69 : decode cX9_copyFrom 69 = .ok (.iconst 5, 1) := by decide +kernel
theorem dX9_copyFrom_70 : decode cX9_copyFrom 70 = .ok (.invokestatic 45, 3) := by decide +kernel
theorem dX9_copyFrom_73 : decode cX9_copyFrom 73 = .ok (.aload_n 0, 1) := by decide +kernel
theorem dX9_copyFrom_74 : decode cX9_copyFrom 74 = .ok (.aload_n 1, 1) := by decide +kernel
theorem dX9_copyFrom_75 : decode cX9_copyFrom 75 = .ok (.getfield 35, 3) := by decide +kernel
theorem dX9_copyFrom_78 : decode cX9_copyFrom 78 = .ok (.putfield 35, 3) := by decide +kernel
theorem dX9_copyFrom_81 : decode cX9_copyFrom 81 = .ok (.aload_n 0, 1) := by decide +kernel
