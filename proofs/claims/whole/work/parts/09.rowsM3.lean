theorem dX11_bid_14 : decode cX11_bid 14 = .ok (.iaload, 1) := by decide +kernel
theorem dX11_bid_15 : decode cX11_bid 15 = .ok (.aload_n 0, 1) := by decide +kernel
theorem dX11_bid_16 : decode cX11_bid 16 = .ok (.getfield 7, 3) := by decide +kernel
theorem dX11_bid_19 : decode cX11_bid 19 = .ok (.iload_n 1, 1) := by decide +kernel
theorem dX11_bid_20 : decode cX11_bid 20 = .ok (.iaload, 1) := by decide +kernel
theorem dX11_bid_21 : decode cX11_bid 21 = .ok (.imul, 1) := by decide +kernel
theorem dX11_bid_22 : decode cX11_bid 22 = .ok (.iadd, 1) := by decide +kernel
theorem dX11_bid_23 : decode cX11_bid 23 = .ok (.ireturn, 1) := by decide +kernel
set_option maxRecDepth 20000 in
theorem ggX11_let_X11_isPost : GoodIn wsX11_let wsX11_isPost := goodIn_r _ [9, 10, 11, 12, 8, 13, 38, 39, 40, 41, 42, 43, 44, 45, 46, 47, 48, 49, 50, 51, 52, 53, 54, 55, 56, 57, 58, 59, 60, 61, 62, 63, 64, 65, 66, 67, 68, 69, 70, 71, 72, 73, 74, 75, 76, 77, 78, 79, 80, 81, 82] (by decide +kernel) (by decide +kernel)
set_option maxRecDepth 20000 in
theorem gX11_let_X11_isPost : GoodIn wsX11_let (wsV RX11 220 RX11 yX11_isPost wsX11_isPost) := goodIn_app (goodIn_of _ (by decide +kernel)) ggX11_let_X11_isPost
set_option maxRecDepth 20000 in
theorem ggX11_let_X11_isCrow : GoodIn wsX11_let wsX11_isCrow := goodIn_r _ [17, 18, 11, 12, 8, 13, 38, 39, 40, 41, 42, 43, 44, 45, 46, 47, 48, 49, 50, 51, 52, 53, 54, 55, 56, 57, 58, 59, 60, 61, 62, 63, 64, 65, 66, 67, 68, 69, 70, 71, 72, 73, 74, 75, 76, 77, 78, 79, 80, 81, 82] (by decide +kernel) (by decide +kernel)
set_option maxRecDepth 20000 in
theorem gX11_let_X11_isCrow : GoodIn wsX11_let (wsV RX11 223 RX11 yX11_isCrow wsX11_isCrow) := goodIn_app (goodIn_of _ (by decide +kernel)) ggX11_let_X11_isCrow
set_option maxRecDepth 20000 in
theorem ggX11_let_X11_postOf : GoodIn wsX11_let wsX11_postOf := goodIn_r _ [22, 10, 2, 38, 39, 40, 41, 42, 43, 44, 45, 46, 47, 48, 49, 50, 51, 52, 53, 54, 55, 56, 57, 58, 59, 60, 61, 62, 63, 64, 65, 66, 67, 68, 69, 70, 71, 72, 73, 74, 75, 76, 77, 78, 79, 80, 81, 82] (by decide +kernel) (by decide +kernel)
set_option maxRecDepth 20000 in
theorem gX11_let_X11_postOf : GoodIn wsX11_let (wsV RX11 226 RX11 yX11_postOf wsX11_postOf) := goodIn_app (goodIn_of _ (by decide +kernel)) ggX11_let_X11_postOf
set_option maxRecDepth 20000 in
theorem ggX11_let_X11_remember : GoodIn wsX11_let wsX11_remember := goodIn_r _ [26, 27, 28, 2, 38, 39, 40, 41, 42, 43, 44, 45, 46, 47, 48, 49, 50, 51, 52, 53, 54, 55, 56, 57, 58, 59, 60, 61, 62, 63, 64, 65, 66, 67, 68, 69, 70, 71, 72, 73, 74, 75, 76, 77, 78, 79, 80, 81, 82] (by decide +kernel) (by decide +kernel)
set_option maxRecDepth 20000 in
theorem gX11_let_X11_remember : GoodIn wsX11_let (wsV RX11 251 RX11 yX11_remember wsX11_remember) := goodIn_app (goodIn_of _ (by decide +kernel)) ggX11_let_X11_remember
set_option maxRecDepth 20000 in
theorem ggX11_let_X11_bid : GoodIn wsX11_let wsX11_bid := goodIn_r _ [32, 2, 33, 34, 38, 39, 40, 41, 42, 43, 44, 45, 46, 47, 48, 49, 50, 51, 52, 53, 54, 55, 56, 57, 58, 59, 60, 61, 62, 63, 64, 65, 66, 67, 68, 69, 70, 71, 72, 73, 74, 75, 76, 77, 78, 79, 80, 81, 82] (by decide +kernel) (by decide +kernel)
set_option maxRecDepth 20000 in
theorem gX11_let_X11_bid : GoodIn wsX11_let (wsV RX11 257 RX11 yX11_bid wsX11_bid) := goodIn_app (goodIn_of _ (by decide +kernel)) ggX11_let_X11_bid
set_option maxRecDepth 20000 in
theorem ggX11_let_X11_atMost : GoodIn wsX11_let wsX11_atMost := goodIn_r _ [37] (by decide +kernel) (by decide +kernel)
set_option maxRecDepth 20000 in
theorem gX11_let_X11_atMost : GoodIn wsX11_let (va_wsS RX11 229 yX11_atMost wsX11_atMost) := goodIn_app (goodIn_of _ (by decide +kernel)) ggX11_let_X11_atMost
theorem dX11_let_0 : decode cX11_let 0 = .ok (.aload_n 0, 1) := by decide +kernel
theorem dX11_let_1 : decode cX11_let 1 = .ok (.iload_n 1, 1) := by decide +kernel
theorem dX11_let_2 : decode cX11_let 2 = .ok (.invokevirtual 220, 3) := by decide +kernel
theorem dX11_let_5 : decode cX11_let 5 = .ok (.ifCond .eq 11, 3) := by decide +kernel
theorem dX11_let_8 : decode cX11_let 8 = .ok (.aload_n 0, 1) := by decide +kernel
theorem dX11_let_9 : decode cX11_let 9 = .ok (.iload_n 2, 1) := by decide +kernel
theorem dX11_let_10 : decode cX11_let 10 = .ok (.invokevirtual 223, 3) := by decide +kernel
theorem dX11_let_13 : decode cX11_let 13 = .ok (.ifCond .ne 6, 3) := by decide +kernel
theorem dX11_let_16 : decode cX11_let 16 = .ok (.ldc 219, 2) := by decide +kernel
theorem dX11_let_18 : decode cX11_let 18 = .ok (.ireturn, 1) := by decide +kernel
theorem dX11_let_19 : decode cX11_let 19 = .ok (.aload_n 0, 1) := by decide +kernel
theorem dX11_let_20 : decode cX11_let 20 = .ok (.getfield 22, 3) := by decide +kernel
theorem dX11_let_23 : decode cX11_let 23 = .ok (.bipush 18, 2) := by decide +kernel
theorem dX11_let_25 : decode cX11_let 25 = .ok (.iload_n 1, 1) := by decide +kernel
theorem dX11_let_26 : decode cX11_let 26 = .ok (.iadd, 1) := by decide +kernel
theorem dX11_let_27 : decode cX11_let 27 = .ok (.iaload, 1) := by decide +kernel
theorem dX11_let_28 : decode cX11_let 28 = .ok (.ifCond .ge 11, 3) := by decide +kernel
theorem dX11_let_31 : decode cX11_let 31 = .ok (.aload_n 0, 1) := by decide +kernel
theorem dX11_let_32 : decode cX11_let 32 = .ok (.iload_n 2, 1) := by decide +kernel
theorem dX11_let_33 : decode cX11_let 33 = .ok (.invokevirtual 226, 3) := by decide +kernel
theorem dX11_let_36 : decode cX11_let 36 = .ok (.ifCond .lt 6, 3) := by decide +kernel
theorem dX11_let_39 : decode cX11_let 39 = .ok (.ldc 247, 2) := by decide +kernel
theorem dX11_let_41 : decode cX11_let 41 = .ok (.ireturn, 1) := by decide +kernel
theorem dX11_let_42 : decode cX11_let 42 = .ok (.aload_n 0, 1) := by decide +kernel
theorem dX11_let_43 : decode cX11_let 43 = .ok (.invokevirtual 251, 3) := by decide +kernel
theorem dX11_let_46 : decode cX11_let 46 = .ok (.aload_n 0, 1) := by decide +kernel
theorem dX11_let_47 : decode cX11_let 47 = .ok (.iload_n 1, 1) := by decide +kernel
theorem dX11_let_48 : decode cX11_let 48 = .ok (.iload_n 2, 1) := by decide +kernel
theorem dX11_let_49 : decode cX11_let 49 = .ok (.invokevirtual 257, 3) := by decide +kernel
theorem dX11_let_52 : decode cX11_let 52 = .ok (.istore_n 3, 1) := by decide +kernel
theorem dX11_let_53 : decode cX11_let 53 = .ok (.aload_n 0, 1) := by decide +kernel
theorem dX11_let_54 : decode cX11_let 54 = .ok (.getfield 22, 3) := by decide +kernel
theorem dX11_let_57 : decode cX11_let 57 = .ok (.bipush 18, 2) := by decide +kernel
theorem dX11_let_59 : decode cX11_let 59 = .ok (.iload_n 1, 1) := by decide +kernel
theorem dX11_let_60 : decode cX11_let 60 = .ok (.iadd, 1) := by decide +kernel
theorem dX11_let_61 : decode cX11_let 61 = .ok (.iload_n 2, 1) := by decide +kernel
theorem dX11_let_62 : decode cX11_let 62 = .ok (.iastore, 1) := by decide +kernel
theorem dX11_let_63 : decode cX11_let 63 = .ok (.aload_n 0, 1) := by decide +kernel
theorem dX11_let_64 : decode cX11_let 64 = .ok (.getfield 22, 3) := by decide +kernel
theorem dX11_let_67 : decode cX11_let 67 = .ok (.bipush 24, 2) := by decide +kernel
theorem dX11_let_69 : decode cX11_let 69 = .ok (.dup2, 1) := by decide +kernel
theorem dX11_let_70 : decode cX11_let 70 = .ok (.iaload, 1) := by decide +kernel
theorem dX11_let_71 : decode cX11_let 71 = .ok (.iconst 1, 1) := by decide +kernel
theorem dX11_let_72 : decode cX11_let 72 = .ok (.iload_n 1, 1) := by decide +kernel
theorem dX11_let_73 : decode cX11_let 73 = .ok (.ishl, 1) := by decide +kernel
theorem dX11_let_74 : decode cX11_let 74 = .ok (.ior, 1) := by decide +kernel
theorem dX11_let_75 : decode cX11_let 75 = .ok (.iastore, 1) := by decide +kernel
theorem dX11_let_76 : decode cX11_let 76 = .ok (.aload_n 0, 1) := by decide +kernel
theorem dX11_let_77 : decode cX11_let 77 = .ok (.getfield 22, 3) := by decide +kernel
theorem dX11_let_80 : decode cX11_let 80 = .ok (.bipush 30, 2) := by decide +kernel
theorem dX11_let_82 : decode cX11_let 82 = .ok (.iload_n 2, 1) := by decide +kernel
theorem dX11_let_83 : decode cX11_let 83 = .ok (.iadd, 1) := by decide +kernel
theorem dX11_let_84 : decode cX11_let 84 = .ok (.aload_n 0, 1) := by decide +kernel
theorem dX11_let_85 : decode cX11_let 85 = .ok (.getfield 22, 3) := by decide +kernel
theorem dX11_let_88 : decode cX11_let 88 = .ok (.bipush 30, 2) := by decide +kernel
theorem dX11_let_90 : decode cX11_let 90 = .ok (.iload_n 2, 1) := by decide +kernel
theorem dX11_let_91 : decode cX11_let 91 = .ok (.iadd, 1) := by decide +kernel
theorem dX11_let_92 : decode cX11_let 92 = .ok (.iaload, 1) := by decide +kernel
theorem dX11_let_93 : decode cX11_let 93 = .ok (.iload_n 3, 1) := by decide +kernel
theorem dX11_let_94 : decode cX11_let 94 = .ok (.iadd, 1) := by decide +kernel
theorem dX11_let_95 : decode cX11_let 95 = .ok (.ldc_w 260, 3) := by decide +kernel
theorem dX11_let_98 : decode cX11_let 98 = .ok (.invokestatic 229, 3) := by decide +kernel
theorem dX11_let_101 : decode cX11_let 101 = .ok (.iastore, 1) := by decide +kernel
theorem dX11_let_102 : decode cX11_let 102 = .ok (.aload_n 0, 1) := by decide +kernel
theorem dX11_let_103 : decode cX11_let 103 = .ok (.getfield 22, 3) := by decide +kernel
theorem dX11_let_106 : decode cX11_let 106 = .ok (.bipush 36, 2) := by decide +kernel
theorem dX11_let_108 : decode cX11_let 108 = .ok (.aload_n 0, 1) := by decide +kernel
theorem dX11_let_109 : decode cX11_let 109 = .ok (.getfield 22, 3) := by decide +kernel
theorem dX11_let_112 : decode cX11_let 112 = .ok (.bipush 36, 2) := by decide +kernel
theorem dX11_let_114 : decode cX11_let 114 = .ok (.iaload, 1) := by decide +kernel
theorem dX11_let_115 : decode cX11_let 115 = .ok (.iload_n 3, 1) := by decide +kernel
theorem dX11_let_116 : decode cX11_let 116 = .ok (.iadd, 1) := by decide +kernel
theorem dX11_let_117 : decode cX11_let 117 = .ok (.ldc_w 260, 3) := by decide +kernel
theorem dX11_let_120 : decode cX11_let 120 = .ok (.invokestatic 229, 3) := by decide +kernel
theorem dX11_let_123 : decode cX11_let 123 = .ok (.iastore, 1) := by decide +kernel
theorem dX11_let_124 : decode cX11_let 124 = .ok (.iload_n 3, 1) := by decide +kernel
theorem dX11_let_125 : decode cX11_let 125 = .ok (.ireturn, 1) := by decide +kernel
set_option maxRecDepth 20000 in
theorem ggX11_giveUp_X11_isPost : GoodIn wsX11_giveUp wsX11_isPost := goodIn_r _ [8, 9, 10, 11, 7, 12, 19, 20, 21, 22, 23, 24, 25, 26, 27, 28, 29, 30, 31, 32, 33, 34, 35, 36, 37, 38, 39, 40, 41, 42, 43, 44, 45, 46, 47, 48, 49, 50, 51, 52, 53, 54, 55, 56, 57, 58, 59, 60, 61, 62, 63] (by decide +kernel) (by decide +kernel)
set_option maxRecDepth 20000 in
theorem gX11_giveUp_X11_isPost : GoodIn wsX11_giveUp (wsV RX11 220 RX11 yX11_isPost wsX11_isPost) := goodIn_app (goodIn_of _ (by decide +kernel)) ggX11_giveUp_X11_isPost
set_option maxRecDepth 20000 in
theorem ggX11_giveUp_X11_remember : GoodIn wsX11_giveUp wsX11_remember := goodIn_r _ [16, 17, 18, 2, 19, 20, 21, 22, 23, 24, 25, 26, 27, 28, 29, 30, 31, 32, 33, 34, 35, 36, 37, 38, 39, 40, 41, 42, 43, 44, 45, 46, 47, 48, 49, 50, 51, 52, 53, 54, 55, 56, 57, 58, 59, 60, 61, 62, 63] (by decide +kernel) (by decide +kernel)
set_option maxRecDepth 20000 in
theorem gX11_giveUp_X11_remember : GoodIn wsX11_giveUp (wsV RX11 251 RX11 yX11_remember wsX11_remember) := goodIn_app (goodIn_of _ (by decide +kernel)) ggX11_giveUp_X11_remember
theorem dX11_giveUp_0 : decode cX11_giveUp 0 = .ok (.aload_n 0, 1) := by decide +kernel
theorem dX11_giveUp_1 : decode cX11_giveUp 1 = .ok (.iload_n 1, 1) := by decide +kernel
theorem dX11_giveUp_2 : decode cX11_giveUp 2 = .ok (.invokevirtual 220, 3) := by decide +kernel
theorem dX11_giveUp_5 : decode cX11_giveUp 5 = .ok (.ifCond .ne 6, 3) := by decide +kernel
theorem dX11_giveUp_8 : decode cX11_giveUp 8 = .ok (.ldc 219, 2) := by decide +kernel
theorem dX11_giveUp_10 : decode cX11_giveUp 10 = .ok (.ireturn, 1) := by decide +kernel
theorem dX11_giveUp_11 : decode cX11_giveUp 11 = .ok (.aload_n 0, 1) := by decide +kernel
theorem dX11_giveUp_12 : decode cX11_giveUp 12 = .ok (.getfield 22, 3) := by decide +kernel
theorem dX11_giveUp_15 : decode cX11_giveUp 15 = .ok (.bipush 18, 2) := by decide +kernel
theorem dX11_giveUp_17 : decode cX11_giveUp 17 = .ok (.iload_n 1, 1) := by decide +kernel
theorem dX11_giveUp_18 : decode cX11_giveUp 18 = .ok (.iadd, 1) := by decide +kernel
theorem dX11_giveUp_19 : decode cX11_giveUp 19 = .ok (.iaload, 1) := by decide +kernel
theorem dX11_giveUp_20 : decode cX11_giveUp 20 = .ok (.ifCond .ge 6, 3) := by decide +kernel
theorem dX11_giveUp_23 : decode cX11_giveUp 23 = .ok (.ldc 247, 2) := by decide +kernel
theorem dX11_giveUp_25 : decode cX11_giveUp 25 = .ok (.ireturn, 1) := by decide +kernel
theorem dX11_giveUp_26 : decode cX11_giveUp 26 = .ok (.aload_n 0, 1) := by decide +kernel
theorem dX11_giveUp_27 : decode cX11_giveUp 27 = .ok (.invokevirtual 251, 3) := by decide +kernel
theorem dX11_giveUp_30 : decode cX11_giveUp 30 = .ok (.aload_n 0, 1) := by decide +kernel
theorem dX11_giveUp_31 : decode cX11_giveUp 31 = .ok (.getfield 22, 3) := by decide +kernel
theorem dX11_giveUp_34 : decode cX11_giveUp 34 = .ok (.bipush 18, 2) := by decide +kernel
theorem dX11_giveUp_36 : decode cX11_giveUp 36 = .ok (.iload_n 1, 1) := by decide +kernel
theorem dX11_giveUp_37 : decode cX11_giveUp 37 = .ok (.iadd, 1) := by decide +kernel
theorem dX11_giveUp_38 : decode cX11_giveUp 38 = .ok (.iaload, 1) := by decide +kernel
theorem dX11_giveUp_39 : decode cX11_giveUp 39 = .ok (.istore_n 2, 1) := by decide +kernel
theorem dX11_giveUp_40 : decode cX11_giveUp 40 = .ok (.aload_n 0, 1) := by decide +kernel
theorem dX11_giveUp_41 : decode cX11_giveUp 41 = .ok (.getfield 22, 3) := by decide +kernel
theorem dX11_giveUp_44 : decode cX11_giveUp 44 = .ok (.bipush 18, 2) := by decide +kernel
theorem dX11_giveUp_46 : decode cX11_giveUp 46 = .ok (.iload_n 1, 1) := by decide +kernel
theorem dX11_giveUp_47 : decode cX11_giveUp 47 = .ok (.iadd, 1) := by decide +kernel
theorem dX11_giveUp_48 : decode cX11_giveUp 48 = .ok (.iconst (-1), 1) := by decide +kernel
theorem dX11_giveUp_49 : decode cX11_giveUp 49 = .ok (.iastore, 1) := by decide +kernel
theorem dX11_giveUp_50 : decode cX11_giveUp 50 = .ok (.iload_n 2, 1) := by decide +kernel
theorem dX11_giveUp_51 : decode cX11_giveUp 51 = .ok (.ireturn, 1) := by decide +kernel
set_option maxRecDepth 20000 in
theorem ggX11_mayMove_X11_isCell : GoodIn wsX11_mayMove wsX11_isCell := goodIn_r _ [7, 8, 9, 10, 6, 11, 12, 13, 14, 15, 16, 17, 18, 19, 20, 21, 22, 23, 24, 25, 26, 27, 28, 29, 30, 31, 32, 33, 34, 35, 36, 37, 38, 39, 40, 41, 42, 43, 44, 45, 46, 47, 48, 49, 50, 51, 52, 53, 54, 55, 56] (by decide +kernel) (by decide +kernel)
set_option maxRecDepth 20000 in
theorem gX11_mayMove_X11_isCell : GoodIn wsX11_mayMove (wsV RX11 216 RX11 yX11_isCell wsX11_isCell) := goodIn_app (goodIn_of _ (by decide +kernel)) ggX11_mayMove_X11_isCell
theorem dX11_mayMove_0 : decode cX11_mayMove 0 = .ok (.aload_n 0, 1) := by decide +kernel
theorem dX11_mayMove_1 : decode cX11_mayMove 1 = .ok (.iload_n 2, 1) := by decide +kernel
theorem dX11_mayMove_2 : decode cX11_mayMove 2 = .ok (.invokevirtual 216, 3) := by decide +kernel
theorem dX11_mayMove_5 : decode cX11_mayMove 5 = .ok (.istore_n 3, 1) := by decide +kernel
theorem dX11_mayMove_6 : decode cX11_mayMove 6 = .ok (.iconst 0, 1) := by decide +kernel
theorem dX11_mayMove_7 : decode cX11_mayMove 7 = .ok (.istore 4, 2) := by decide +kernel
theorem dX11_mayMove_9 : decode cX11_mayMove 9 = .ok (.iload 4, 2) := by decide +kernel
theorem dX11_mayMove_11 : decode cX11_mayMove 11 = .ok (.aload_n 0, 1) := by decide +kernel
theorem dX11_mayMove_12 : decode cX11_mayMove 12 = .ok (.getfield 97, 3) := by decide +kernel
theorem dX11_mayMove_15 : decode cX11_mayMove 15 = .ok (.if_icmp .ge 33, 3) := by decide +kernel
theorem dX11_mayMove_18 : decode cX11_mayMove 18 = .ok (.iload_n 3, 1) := by decide +kernel
theorem dX11_mayMove_19 : decode cX11_mayMove 19 = .ok (.ifCond .eq 21, 3) := by decide +kernel
theorem dX11_mayMove_22 : decode cX11_mayMove 22 = .ok (.aload_n 0, 1) := by decide +kernel
theorem dX11_mayMove_23 : decode cX11_mayMove 23 = .ok (.getfield 22, 3) := by decide +kernel
theorem dX11_mayMove_26 : decode cX11_mayMove 26 = .ok (.bipush 12, 2) := by decide +kernel
theorem dX11_mayMove_28 : decode cX11_mayMove 28 = .ok (.iload 4, 2) := by decide +kernel
theorem dX11_mayMove_30 : decode cX11_mayMove 30 = .ok (.iadd, 1) := by decide +kernel
theorem dX11_mayMove_31 : decode cX11_mayMove 31 = .ok (.iaload, 1) := by decide +kernel
theorem dX11_mayMove_32 : decode cX11_mayMove 32 = .ok (.iload_n 2, 1) := by decide +kernel
theorem dX11_mayMove_33 : decode cX11_mayMove 33 = .ok (.if_icmp .eq 7, 3) := by decide +kernel
theorem dX11_mayMove_36 : decode cX11_mayMove 36 = .ok (.iconst 1, 1) := by decide +kernel
theorem dX11_mayMove_37 : decode cX11_mayMove 37 = .ok (.goto 4, 3) := by decide +kernel
theorem dX11_mayMove_40 : decode cX11_mayMove 40 = .ok (.iconst 0, 1) := by decide +kernel
theorem dX11_mayMove_41 : decode cX11_mayMove 41 = .ok (.istore_n 3, 1) := by decide +kernel
theorem dX11_mayMove_42 : decode cX11_mayMove 42 = .ok (.iinc 4 1, 3) := by decide +kernel
theorem dX11_mayMove_45 : decode cX11_mayMove 45 = .ok (.goto (-36), 3) := by decide +kernel
theorem dX11_mayMove_48 : decode cX11_mayMove 48 = .ok (.iload_n 3, 1) := by decide +kernel
theorem dX11_mayMove_49 : decode cX11_mayMove 49 = .ok (.ireturn, 1) := by decide +kernel
set_option maxRecDepth 20000 in
theorem ggX11_move_X11_isPost : GoodIn wsX11_move wsX11_isPost := goodIn_r _ [8, 9, 10, 11, 7, 12, 28, 29, 30, 31, 32, 33, 34, 35, 36, 37, 38, 39, 40, 41, 42, 43, 44, 45, 46, 47, 48, 49, 50, 51, 52, 53, 54, 55, 56, 57, 58, 59, 60, 61, 62, 63, 64, 65, 66, 67, 68, 69, 70, 71, 72] (by decide +kernel) (by decide +kernel)
set_option maxRecDepth 20000 in
theorem gX11_move_X11_isPost : GoodIn wsX11_move (wsV RX11 220 RX11 yX11_isPost wsX11_isPost) := goodIn_app (goodIn_of _ (by decide +kernel)) ggX11_move_X11_isPost
set_option maxRecDepth 20000 in
theorem ggX11_move_X11_mayMove : GoodIn wsX11_move wsX11_mayMove := goodIn_r _ [16, 9, 2, 17, 18, 19, 7, 20, 21, 10, 11, 12, 28, 29, 30, 31, 32, 33, 34, 35, 36, 37, 38, 39, 40, 41, 42, 43, 44, 45, 46, 47, 48, 49, 50, 51, 52, 53, 54, 55, 56, 57, 58, 59, 60, 61, 62, 63, 64, 65, 66, 67, 68, 69, 70, 71, 72] (by decide +kernel) (by decide +kernel)
set_option maxRecDepth 20000 in
theorem gX11_move_X11_mayMove : GoodIn wsX11_move (wsV RX11 261 RX11 yX11_mayMove wsX11_mayMove) := goodIn_app (goodIn_of _ (by decide +kernel)) ggX11_move_X11_mayMove
set_option maxRecDepth 20000 in
theorem ggX11_move_X11_remember : GoodIn wsX11_move wsX11_remember := goodIn_r _ [25, 26, 27, 2, 28, 29, 30, 31, 32, 33, 34, 35, 36, 37, 38, 39, 40, 41, 42, 43, 44, 45, 46, 47, 48, 49, 50, 51, 52, 53, 54, 55, 56, 57, 58, 59, 60, 61, 62, 63, 64, 65, 66, 67, 68, 69, 70, 71, 72] (by decide +kernel) (by decide +kernel)
set_option maxRecDepth 20000 in
theorem gX11_move_X11_remember : GoodIn wsX11_move (wsV RX11 251 RX11 yX11_remember wsX11_remember) := goodIn_app (goodIn_of _ (by decide +kernel)) ggX11_move_X11_remember
theorem dX11_move_0 : decode cX11_move 0 = .ok (.aload_n 0, 1) := by decide +kernel
theorem dX11_move_1 : decode cX11_move 1 = .ok (.iload_n 1, 1) := by decide +kernel
theorem dX11_move_2 : decode cX11_move 2 = .ok (.invokevirtual 220, 3) := by decide +kernel
theorem dX11_move_5 : decode cX11_move 5 = .ok (.ifCond .ne 6, 3) := by decide +kernel
theorem dX11_move_8 : decode cX11_move 8 = .ok (.ldc 219, 2) := by decide +kernel
theorem dX11_move_10 : decode cX11_move 10 = .ok (.ireturn, 1) := by decide +kernel
theorem dX11_move_11 : decode cX11_move 11 = .ok (.aload_n 0, 1) := by decide +kernel
theorem dX11_move_12 : decode cX11_move 12 = .ok (.getfield 22, 3) := by decide +kernel
theorem dX11_move_15 : decode cX11_move 15 = .ok (.bipush 12, 2) := by decide +kernel
theorem dX11_move_17 : decode cX11_move 17 = .ok (.iload_n 1, 1) := by decide +kernel
theorem dX11_move_18 : decode cX11_move 18 = .ok (.iadd, 1) := by decide +kernel
theorem dX11_move_19 : decode cX11_move 19 = .ok (.iaload, 1) := by decide +kernel
theorem dX11_move_20 : decode cX11_move 20 = .ok (.iload_n 2, 1) := by decide +kernel
theorem dX11_move_21 : decode cX11_move 21 = .ok (.ifCond .eq 7, 3) := by decide +kernel
theorem dX11_move_24 : decode cX11_move 24 = .ok (.iconst 1, 1) := by decide +kernel
theorem dX11_move_25 : decode cX11_move 25 = .ok (.goto 4, 3) := by decide +kernel
theorem dX11_move_28 : decode cX11_move 28 = .ok (.iconst (-1), 1) := by decide +kernel
theorem dX11_move_29 : decode cX11_move 29 = .ok (.iadd, 1) := by decide +kernel
theorem dX11_move_30 : decode cX11_move 30 = .ok (.istore_n 3, 1) := by decide +kernel
theorem dX11_move_31 : decode cX11_move 31 = .ok (.aload_n 0, 1) := by decide +kernel
theorem dX11_move_32 : decode cX11_move 32 = .ok (.iload_n 1, 1) := by decide +kernel
theorem dX11_move_33 : decode cX11_move 33 = .ok (.iload_n 3, 1) := by decide +kernel
theorem dX11_move_34 : decode cX11_move 34 = .ok (.invokevirtual 261, 3) := by decide +kernel
theorem dX11_move_37 : decode cX11_move 37 = .ok (.ifCond .ne 6, 3) := by decide +kernel
theorem dX11_move_40 : decode cX11_move 40 = .ok (.ldc 247, 2) := by decide +kernel
theorem dX11_move_42 : decode cX11_move 42 = .ok (.ireturn, 1) := by decide +kernel
theorem dX11_move_43 : decode cX11_move 43 = .ok (.aload_n 0, 1) := by decide +kernel
theorem dX11_move_44 : decode cX11_move 44 = .ok (.invokevirtual 251, 3) := by decide +kernel
theorem dX11_move_47 : decode cX11_move 47 = .ok (.aload_n 0, 1) := by decide +kernel
theorem dX11_move_48 : decode cX11_move 48 = .ok (.getfield 22, 3) := by decide +kernel
theorem dX11_move_51 : decode cX11_move 51 = .ok (.bipush 12, 2) := by decide +kernel
theorem dX11_move_53 : decode cX11_move 53 = .ok (.iload_n 1, 1) := by decide +kernel
theorem dX11_move_54 : decode cX11_move 54 = .ok (.iadd, 1) := by decide +kernel
theorem dX11_move_55 : decode cX11_move 55 = .ok (.iload_n 3, 1) := by decide +kernel
theorem dX11_move_56 : decode cX11_move 56 = .ok (.iastore, 1) := by decide +kernel
theorem dX11_move_57 : decode cX11_move 57 = .ok (.iload_n 3, 1) := by decide +kernel
theorem dX11_move_58 : decode cX11_move 58 = .ok (.ireturn, 1) := by decide +kernel
set_option maxRecDepth 20000 in
theorem ggX11_thaw_X11_in : GoodIn wsX11_thaw wsX11_in := goodIn_r _ [9] (by decide +kernel) (by decide +kernel)
set_option maxRecDepth 20000 in
theorem gX11_thaw_X11_in : GoodIn wsX11_thaw (va_wsS RX11 93 yX11_in wsX11_in) := goodIn_app (goodIn_of _ (by decide +kernel)) ggX11_thaw_X11_in
set_option maxRecDepth 20000 in
theorem ggX11_thaw_X11_remember : GoodIn wsX11_thaw wsX11_remember := goodIn_r _ [13, 14, 15, 5, 20, 21, 22, 23, 24, 25, 26, 27, 28, 29, 30, 31, 32, 33, 34, 35, 36, 37, 38, 39, 40, 41, 42, 43, 44, 45, 46, 47, 48, 49, 50, 51, 52, 53, 54, 55, 56, 57, 58, 59, 60, 61, 62, 63, 64] (by decide +kernel) (by decide +kernel)
set_option maxRecDepth 20000 in
theorem gX11_thaw_X11_remember : GoodIn wsX11_thaw (wsV RX11 251 RX11 yX11_remember wsX11_remember) := goodIn_app (goodIn_of _ (by decide +kernel)) ggX11_thaw_X11_remember
set_option maxRecDepth 20000 in
theorem ggX11_thaw_X11_allSnow : GoodIn wsX11_thaw wsX11_allSnow := goodIn_r _ [19, 3, 5, 20, 21, 22, 23, 24, 25, 26, 27, 28, 29, 30, 31, 32, 33, 34, 35, 36, 37, 38, 39, 40, 41, 42, 43, 44, 45, 46, 47, 48, 49, 50, 51, 52, 53, 54, 55, 56, 57, 58, 59, 60, 61, 62, 63, 64] (by decide +kernel) (by decide +kernel)
set_option maxRecDepth 20000 in
theorem gX11_thaw_X11_allSnow : GoodIn wsX11_thaw (wsV RX11 213 RX11 yX11_allSnow wsX11_allSnow) := goodIn_app (goodIn_of _ (by decide +kernel)) ggX11_thaw_X11_allSnow
theorem dX11_thaw_0 : decode cX11_thaw 0 = .ok (.iload_n 1, 1) := by decide +kernel
theorem dX11_thaw_1 : decode cX11_thaw 1 = .ok (.i2l, 1) := by decide +kernel
theorem dX11_thaw_2 : decode cX11_thaw 2 = .ok (.lconst 1, 1) := by decide +kernel
theorem dX11_thaw_3 : decode cX11_thaw 3 = .ok (.ldc2_w 264, 3) := by decide +kernel
theorem dX11_thaw_6 : decode cX11_thaw 6 = .ok (.invokestatic 93, 3) := by decide +kernel
theorem dX11_thaw_9 : decode cX11_thaw 9 = .ok (.ifCond .ne 6, 3) := by decide +kernel
theorem dX11_thaw_12 : decode cX11_thaw 12 = .ok (.ldc 105, 2) := by decide +kernel
theorem dX11_thaw_14 : decode cX11_thaw 14 = .ok (.ireturn, 1) := by decide +kernel
theorem dX11_thaw_15 : decode cX11_thaw 15 = .ok (.aload_n 0, 1) := by decide +kernel
theorem dX11_thaw_16 : decode cX11_thaw 16 = .ok (.getfield 90, 3) := by decide +kernel
theorem dX11_thaw_19 : decode cX11_thaw 19 = .ok (.ifCond .ne 6, 3) := by decide +kernel
theorem dX11_thaw_22 : decode cX11_thaw 22 = .ok (.ldc 247, 2) := by decide +kernel
theorem dX11_thaw_24 : decode cX11_thaw 24 = .ok (.ireturn, 1) := by decide +kernel
theorem dX11_thaw_25 : decode cX11_thaw 25 = .ok (.aload_n 0, 1) := by decide +kernel
theorem dX11_thaw_26 : decode cX11_thaw 26 = .ok (.invokevirtual 251, 3) := by decide +kernel
theorem dX11_thaw_29 : decode cX11_thaw 29 = .ok (.iconst 0, 1) := by decide +kernel
theorem dX11_thaw_30 : decode cX11_thaw 30 = .ok (.istore_n 2, 1) := by decide +kernel
theorem dX11_thaw_31 : decode cX11_thaw 31 = .ok (.iload_n 2, 1) := by decide +kernel
theorem dX11_thaw_32 : decode cX11_thaw 32 = .ok (.aload_n 0, 1) := by decide +kernel
theorem dX11_thaw_33 : decode cX11_thaw 33 = .ok (.getfield 90, 3) := by decide +kernel
theorem dX11_thaw_36 : decode cX11_thaw 36 = .ok (.if_icmp .ge 37, 3) := by decide +kernel
theorem dX11_thaw_39 : decode cX11_thaw 39 = .ok (.aload_n 0, 1) := by decide +kernel
theorem dX11_thaw_40 : decode cX11_thaw 40 = .ok (.getfield 22, 3) := by decide +kernel
theorem dX11_thaw_43 : decode cX11_thaw 43 = .ok (.iload_n 2, 1) := by decide +kernel
theorem dX11_thaw_44 : decode cX11_thaw 44 = .ok (.aload_n 0, 1) := by decide +kernel
theorem dX11_thaw_45 : decode cX11_thaw 45 = .ok (.getfield 22, 3) := by decide +kernel
theorem dX11_thaw_48 : decode cX11_thaw 48 = .ok (.iload_n 2, 1) := by decide +kernel
theorem dX11_thaw_49 : decode cX11_thaw 49 = .ok (.iaload, 1) := by decide +kernel
theorem dX11_thaw_50 : decode cX11_thaw 50 = .ok (.iload_n 1, 1) := by decide +kernel
theorem dX11_thaw_51 : decode cX11_thaw 51 = .ok (.if_icmp .le 14, 3) := by decide +kernel
theorem dX11_thaw_54 : decode cX11_thaw 54 = .ok (.aload_n 0, 1) := by decide +kernel
theorem dX11_thaw_55 : decode cX11_thaw 55 = .ok (.getfield 22, 3) := by decide +kernel
theorem dX11_thaw_58 : decode cX11_thaw 58 = .ok (.iload_n 2, 1) := by decide +kernel
theorem dX11_thaw_59 : decode cX11_thaw 59 = .ok (.iaload, 1) := by decide +kernel
theorem dX11_thaw_60 : decode cX11_thaw 60 = .ok (.iload_n 1, 1) := by decide +kernel
theorem dX11_thaw_61 : decode cX11_thaw 61 = .ok (.isub, 1) := by decide +kernel
theorem dX11_thaw_62 : decode cX11_thaw 62 = .ok (.goto 4, 3) := by decide +kernel
theorem dX11_thaw_65 : decode cX11_thaw 65 = .ok (.iconst 0, 1) := by decide +kernel
theorem dX11_thaw_66 : decode cX11_thaw 66 = .ok (.iastore, 1) := by decide +kernel
theorem dX11_thaw_67 : decode cX11_thaw 67 = .ok (.iinc 2 1, 3) := by decide +kernel
theorem dX11_thaw_70 : decode cX11_thaw 70 = .ok (.goto (-39), 3) := by decide +kernel
theorem dX11_thaw_73 : decode cX11_thaw 73 = .ok (.aload_n 0, 1) := by decide +kernel
theorem dX11_thaw_74 : decode cX11_thaw 74 = .ok (.invokevirtual 213, 3) := by decide +kernel
theorem dX11_thaw_77 : decode cX11_thaw 77 = .ok (.ireturn, 1) := by decide +kernel
set_option maxRecDepth 20000 in
theorem ggX11_shout_X11_isCrow : GoodIn wsX11_shout wsX11_isCrow := goodIn_r _ [7, 8, 9, 10, 6, 11, 18, 19, 20, 21, 22, 23, 24, 25, 26, 27, 28, 29, 30, 31, 32, 33, 34, 35, 36, 37, 38, 39, 40, 41, 42, 43, 44, 45, 46, 47, 48, 49, 50, 51, 52, 53, 54, 55, 56, 57, 58, 59, 60, 61, 62] (by decide +kernel) (by decide +kernel)
set_option maxRecDepth 20000 in
theorem gX11_shout_X11_isCrow : GoodIn wsX11_shout (wsV RX11 223 RX11 yX11_isCrow wsX11_isCrow) := goodIn_app (goodIn_of _ (by decide +kernel)) ggX11_shout_X11_isCrow
set_option maxRecDepth 20000 in
theorem ggX11_shout_X11_remember : GoodIn wsX11_shout wsX11_remember := goodIn_r _ [15, 16, 17, 2, 18, 19, 20, 21, 22, 23, 24, 25, 26, 27, 28, 29, 30, 31, 32, 33, 34, 35, 36, 37, 38, 39, 40, 41, 42, 43, 44, 45, 46, 47, 48, 49, 50, 51, 52, 53, 54, 55, 56, 57, 58, 59, 60, 61, 62] (by decide +kernel) (by decide +kernel)
set_option maxRecDepth 20000 in
theorem gX11_shout_X11_remember : GoodIn wsX11_shout (wsV RX11 251 RX11 yX11_remember wsX11_remember) := goodIn_app (goodIn_of _ (by decide +kernel)) ggX11_shout_X11_remember
theorem dX11_shout_0 : decode cX11_shout 0 = .ok (.aload_n 0, 1) := by decide +kernel
theorem dX11_shout_1 : decode cX11_shout 1 = .ok (.iload_n 1, 1) := by decide +kernel
theorem dX11_shout_2 : decode cX11_shout 2 = .ok (.invokevirtual 223, 3) := by decide +kernel
theorem dX11_shout_5 : decode cX11_shout 5 = .ok (.ifCond .ne 6, 3) := by decide +kernel
theorem dX11_shout_8 : decode cX11_shout 8 = .ok (.ldc 219, 2) := by decide +kernel
theorem dX11_shout_10 : decode cX11_shout 10 = .ok (.ireturn, 1) := by decide +kernel
theorem dX11_shout_11 : decode cX11_shout 11 = .ok (.aload_n 0, 1) := by decide +kernel
theorem dX11_shout_12 : decode cX11_shout 12 = .ok (.invokevirtual 251, 3) := by decide +kernel
theorem dX11_shout_15 : decode cX11_shout 15 = .ok (.aload_n 0, 1) := by decide +kernel
theorem dX11_shout_16 : decode cX11_shout 16 = .ok (.getfield 22, 3) := by decide +kernel
theorem dX11_shout_19 : decode cX11_shout 19 = .ok (.bipush 25, 2) := by decide +kernel
theorem dX11_shout_21 : decode cX11_shout 21 = .ok (.iload_n 1, 1) := by decide +kernel
theorem dX11_shout_22 : decode cX11_shout 22 = .ok (.iadd, 1) := by decide +kernel
theorem dX11_shout_23 : decode cX11_shout 23 = .ok (.dup2, 1) := by decide +kernel
theorem dX11_shout_24 : decode cX11_shout 24 = .ok (.iaload, 1) := by decide +kernel
theorem dX11_shout_25 : decode cX11_shout 25 = .ok (.aload_n 0, 1) := by decide +kernel
theorem dX11_shout_26 : decode cX11_shout 26 = .ok (.getfield 22, 3) := by decide +kernel
theorem dX11_shout_29 : decode cX11_shout 29 = .ok (.bipush 25, 2) := by decide +kernel
theorem dX11_shout_31 : decode cX11_shout 31 = .ok (.iload_n 1, 1) := by decide +kernel
theorem dX11_shout_32 : decode cX11_shout 32 = .ok (.iadd, 1) := by decide +kernel
theorem dX11_shout_33 : decode cX11_shout 33 = .ok (.iaload, 1) := by decide +kernel
theorem dX11_shout_34 : decode cX11_shout 34 = .ok (.ifCond .le 7, 3) := by decide +kernel
theorem dX11_shout_37 : decode cX11_shout 37 = .ok (.iconst 1, 1) := by decide +kernel
theorem dX11_shout_38 : decode cX11_shout 38 = .ok (.goto 4, 3) := by decide +kernel
theorem dX11_shout_41 : decode cX11_shout 41 = .ok (.iconst 0, 1) := by decide +kernel
theorem dX11_shout_42 : decode cX11_shout 42 = .ok (.isub, 1) := by decide +kernel
theorem dX11_shout_43 : decode cX11_shout 43 = .ok (.iastore, 1) := by decide +kernel
theorem dX11_shout_44 : decode cX11_shout 44 = .ok (.aload_n 0, 1) := by decide +kernel
theorem dX11_shout_45 : decode cX11_shout 45 = .ok (.getfield 22, 3) := by decide +kernel
theorem dX11_shout_48 : decode cX11_shout 48 = .ok (.bipush 25, 2) := by decide +kernel
theorem dX11_shout_50 : decode cX11_shout 50 = .ok (.iload_n 1, 1) := by decide +kernel
theorem dX11_shout_51 : decode cX11_shout 51 = .ok (.iadd, 1) := by decide +kernel
theorem dX11_shout_52 : decode cX11_shout 52 = .ok (.iaload, 1) := by decide +kernel
theorem dX11_shout_53 : decode cX11_shout 53 = .ok (.ireturn, 1) := by decide +kernel
theorem dX11_draw_0 : decode cX11_draw 0 = .ok (.aload_n 0, 1) := by decide +kernel
theorem dX11_draw_1 : decode cX11_draw 1 = .ok (.aload_n 0, 1) := by decide +kernel
theorem dX11_draw_2 : decode cX11_draw 2 = .ok (.getfield 266, 3) := by decide +kernel
theorem dX11_draw_5 : decode cX11_draw 5 = .ok (.i2l, 1) := by decide +kernel
theorem dX11_draw_6 : decode cX11_draw 6 = .ok (.ldc2_w 269, 3) := by decide +kernel
theorem dX11_draw_9 : decode cX11_draw 9 = .ok (.lmul, 1) := by decide +kernel
theorem dX11_draw_10 : decode cX11_draw 10 = .ok (.ldc2_w 271, 3) := by decide +kernel
theorem dX11_draw_13 : decode cX11_draw 13 = .ok (.ladd, 1) := by decide +kernel
theorem dX11_draw_14 : decode cX11_draw 14 = .ok (.ldc2_w 273, 3) := by decide +kernel
theorem dX11_draw_17 : decode cX11_draw 17 = .ok (.lrem, 1) := by decide +kernel
theorem dX11_draw_18 : decode cX11_draw 18 = .ok (.l2i, 1) := by decide +kernel
theorem dX11_draw_19 : decode cX11_draw 19 = .ok (.putfield 266, 3) := by decide +kernel
theorem dX11_draw_22 : decode cX11_draw 22 = .ok (.aload_n 0, 1) := by decide +kernel
theorem dX11_draw_23 : decode cX11_draw 23 = .ok (.getfield 266, 3) := by decide +kernel
theorem dX11_draw_26 : decode cX11_draw 26 = .ok (.ldc_w 275, 3) := by decide +kernel
theorem dX11_draw_29 : decode cX11_draw 29 = .ok (.idiv, 1) := by decide +kernel
theorem dX11_draw_30 : decode cX11_draw 30 = .ok (.iload_n 1, 1) := by decide +kernel
theorem dX11_draw_31 : decode cX11_draw 31 = .ok (.irem, 1) := by decide +kernel
theorem dX11_draw_32 : decode cX11_draw 32 = .ok (.ireturn, 1) := by decide +kernel
set_option maxRecDepth 20000 in
theorem ggX11_drift_X11_hoursRefused : GoodIn wsX11_drift wsX11_hoursRefused := goodIn_r _ [5, 6, 7, 8, 9, 10, 11, 12, 13, 4, 14, 58, 59, 60, 61, 62, 63, 64, 65, 66, 67, 68, 69, 70, 71, 72, 73, 74, 75, 76, 77, 78, 79, 80, 81, 82, 83, 84, 85, 86, 87, 88, 89, 90, 91, 92, 93, 94, 95, 96, 97, 98, 99, 100, 101, 102] (by decide +kernel) (by decide +kernel)
set_option maxRecDepth 20000 in
theorem gX11_drift_X11_hoursRefused : GoodIn wsX11_drift (wsV RX11 248 RX11 yX11_hoursRefused wsX11_hoursRefused) := goodIn_app (goodIn_of _ (by decide +kernel)) ggX11_drift_X11_hoursRefused
set_option maxRecDepth 20000 in
theorem ggX11_drift_X11_remember : GoodIn wsX11_drift wsX11_remember := goodIn_r _ [18, 19, 20, 10, 58, 59, 60, 61, 62, 63, 64, 65, 66, 67, 68, 69, 70, 71, 72, 73, 74, 75, 76, 77, 78, 79, 80, 81, 82, 83, 84, 85, 86, 87, 88, 89, 90, 91, 92, 93, 94, 95, 96, 97, 98, 99, 100, 101, 102] (by decide +kernel) (by decide +kernel)
set_option maxRecDepth 20000 in
theorem gX11_drift_X11_remember : GoodIn wsX11_drift (wsV RX11 251 RX11 yX11_remember wsX11_remember) := goodIn_app (goodIn_of _ (by decide +kernel)) ggX11_drift_X11_remember
set_option maxRecDepth 20000 in
theorem ggX11_drift_X11_draw : GoodIn wsX11_drift wsX11_draw := goodIn_r _ [24, 25, 26, 27, 28, 29, 58, 59, 60, 61, 62, 63, 64, 65, 66, 67, 68, 69, 70, 71, 72, 73, 74, 75, 76, 77, 78, 79, 80, 81, 82, 83, 84, 85, 86, 87, 88, 89, 90, 91, 92, 93, 94, 95, 96, 97, 98, 99, 100, 101, 102] (by decide +kernel) (by decide +kernel)
set_option maxRecDepth 20000 in
theorem gX11_drift_X11_draw : GoodIn wsX11_drift (wsV RX11 276 RX11 yX11_draw wsX11_draw) := goodIn_app (goodIn_of _ (by decide +kernel)) ggX11_drift_X11_draw
set_option maxRecDepth 20000 in
theorem ggX11_drift_X11_hourBy : GoodIn wsX11_drift wsX11_hourBy := goodIn_r _ [33, 34, 35, 10, 8, 36, 37, 38, 4, 39, 40, 41, 42, 43, 44, 45, 46, 47, 48, 49, 50, 51, 52, 53, 58, 59, 60, 61, 62, 63, 64, 65, 66, 67, 68, 69, 70, 71, 72, 73, 74, 75, 76, 77, 78, 79, 80, 81, 82, 83, 84, 85, 86, 87, 88, 89, 90, 91, 92, 93, 94, 95, 96, 97, 98, 99, 100, 101, 102] (by decide +kernel) (by decide +kernel)
set_option maxRecDepth 20000 in
theorem gX11_drift_X11_hourBy : GoodIn wsX11_drift (wsV RX11 242 RX11 yX11_hourBy wsX11_hourBy) := goodIn_app (goodIn_of _ (by decide +kernel)) ggX11_drift_X11_hourBy
set_option maxRecDepth 20000 in
theorem ggX11_drift_X11_allSnow : GoodIn wsX11_drift wsX11_allSnow := goodIn_r _ [57, 8, 10, 58, 59, 60, 61, 62, 63, 64, 65, 66, 67, 68, 69, 70, 71, 72, 73, 74, 75, 76, 77, 78, 79, 80, 81, 82, 83, 84, 85, 86, 87, 88, 89, 90, 91, 92, 93, 94, 95, 96, 97, 98, 99, 100, 101, 102] (by decide +kernel) (by decide +kernel)
set_option maxRecDepth 20000 in
theorem gX11_drift_X11_allSnow : GoodIn wsX11_drift (wsV RX11 213 RX11 yX11_allSnow wsX11_allSnow) := goodIn_app (goodIn_of _ (by decide +kernel)) ggX11_drift_X11_allSnow
theorem dX11_drift_0 : decode cX11_drift 0 = .ok (.aload_n 0, 1) := by decide +kernel
theorem dX11_drift_1 : decode cX11_drift 1 = .ok (.iload_n 1, 1) := by decide +kernel
theorem dX11_drift_2 : decode cX11_drift 2 = .ok (.invokevirtual 248, 3) := by decide +kernel
theorem dX11_drift_5 : decode cX11_drift 5 = .ok (.istore_n 2, 1) := by decide +kernel
theorem dX11_drift_6 : decode cX11_drift 6 = .ok (.iload_n 2, 1) := by decide +kernel
theorem dX11_drift_7 : decode cX11_drift 7 = .ok (.ifCond .eq 5, 3) := by decide +kernel
theorem dX11_drift_10 : decode cX11_drift 10 = .ok (.iload_n 2, 1) := by decide +kernel
theorem dX11_drift_11 : decode cX11_drift 11 = .ok (.ireturn, 1) := by decide +kernel
theorem dX11_drift_12 : decode cX11_drift 12 = .ok (.aload_n 0, 1) := by decide +kernel
theorem dX11_drift_13 : decode cX11_drift 13 = .ok (.invokevirtual 251, 3) := by decide +kernel
theorem dX11_drift_16 : decode cX11_drift 16 = .ok (.iconst 0, 1) := by decide +kernel
theorem dX11_drift_17 : decode cX11_drift 17 = .ok (.istore_n 3, 1) := by decide +kernel
theorem dX11_drift_18 : decode cX11_drift 18 = .ok (.iload_n 3, 1) := by decide +kernel
theorem dX11_drift_19 : decode cX11_drift 19 = .ok (.iload_n 1, 1) := by decide +kernel
theorem dX11_drift_20 : decode cX11_drift 20 = .ok (.if_icmp .ge 29, 3) := by decide +kernel
theorem dX11_drift_23 : decode cX11_drift 23 = .ok (.aload_n 0, 1) := by decide +kernel
theorem dX11_drift_24 : decode cX11_drift 24 = .ok (.bipush 19, 2) := by decide +kernel
theorem dX11_drift_26 : decode cX11_drift 26 = .ok (.invokevirtual 276, 3) := by decide +kernel
theorem dX11_drift_29 : decode cX11_drift 29 = .ok (.istore 4, 2) := by decide +kernel
theorem dX11_drift_31 : decode cX11_drift 31 = .ok (.aload_n 0, 1) := by decide +kernel
theorem dX11_drift_32 : decode cX11_drift 32 = .ok (.iload 4, 2) := by decide +kernel
theorem dX11_drift_34 : decode cX11_drift 34 = .ok (.aload_n 0, 1) := by decide +kernel
theorem dX11_drift_35 : decode cX11_drift 35 = .ok (.bipush 11, 2) := by decide +kernel
theorem dX11_drift_37 : decode cX11_drift 37 = .ok (.invokevirtual 276, 3) := by decide +kernel
theorem dX11_drift_40 : decode cX11_drift 40 = .ok (.invokevirtual 242, 3) := by decide +kernel
theorem dX11_drift_43 : decode cX11_drift 43 = .ok (.iinc 3 1, 3) := by decide +kernel
theorem dX11_drift_46 : decode cX11_drift 46 = .ok (.goto (-28), 3) := by decide +kernel
theorem dX11_drift_49 : decode cX11_drift 49 = .ok (.aload_n 0, 1) := by decide +kernel
theorem dX11_drift_50 : decode cX11_drift 50 = .ok (.invokevirtual 213, 3) := by decide +kernel
theorem dX11_drift_53 : decode cX11_drift 53 = .ok (.ireturn, 1) := by decide +kernel
theorem dX11_undo_0 : decode cX11_undo 0 = .ok (.aload_n 0, 1) := by decide +kernel
theorem dX11_undo_1 : decode cX11_undo 1 = .ok (.getfield 204, 3) := by decide +kernel
theorem dX11_undo_4 : decode cX11_undo 4 = .ok (.ifCond .ne 6, 3) := by decide +kernel
theorem dX11_undo_7 : decode cX11_undo 7 = .ok (.ldc 247, 2) := by decide +kernel
theorem dX11_undo_9 : decode cX11_undo 9 = .ok (.ireturn, 1) := by decide +kernel
theorem dX11_undo_10 : decode cX11_undo 10 = .ok (.aload_n 0, 1) := by decide +kernel
theorem dX11_undo_11 : decode cX11_undo 11 = .ok (.dup, 1) := by decide +kernel
theorem dX11_undo_12 : decode cX11_undo 12 = .ok (.getfield 204, 3) := by decide +kernel
theorem dX11_undo_15 : decode cX11_undo 15 = .ok (.iconst 1, 1) := by decide +kernel
theorem dX11_undo_16 : decode cX11_undo 16 = .ok (.isub, 1) := by decide +kernel
theorem dX11_undo_17 : decode cX11_undo 17 = .ok (.putfield 204, 3) := by decide +kernel
theorem dX11_undo_20 : decode cX11_undo 20 = .ok (.iconst 0, 1) := by decide +kernel
theorem dX11_undo_21 : decode cX11_undo 21 = .ok (.istore_n 1, 1) := by decide +kernel
theorem dX11_undo_22 : decode cX11_undo 22 = .ok (.iload_n 1, 1) := by decide +kernel
theorem dX11_undo_23 : decode cX11_undo 23 = .ok (.bipush 37, 2) := by decide +kernel
theorem dX11_undo_25 : decode cX11_undo 25 = .ok (.if_icmp .ge 29, 3) := by decide +kernel
theorem dX11_undo_28 : decode cX11_undo 28 = .ok (.aload_n 0, 1) := by decide +kernel
theorem dX11_undo_29 : decode cX11_undo 29 = .ok (.getfield 22, 3) := by decide +kernel
theorem dX11_undo_32 : decode cX11_undo 32 = .ok (.iload_n 1, 1) := by decide +kernel
theorem dX11_undo_33 : decode cX11_undo 33 = .ok (.aload_n 0, 1) := by decide +kernel
theorem dX11_undo_34 : decode cX11_undo 34 = .ok (.getfield 53, 3) := by decide +kernel
theorem dX11_undo_37 : decode cX11_undo 37 = .ok (.bipush 37, 2) := by decide +kernel
theorem dX11_undo_39 : decode cX11_undo 39 = .ok (.aload_n 0, 1) := by decide +kernel
theorem dX11_undo_40 : decode cX11_undo 40 = .ok (.getfield 204, 3) := by decide +kernel
theorem dX11_undo_43 : decode cX11_undo 43 = .ok (.imul, 1) := by decide +kernel
theorem dX11_undo_44 : decode cX11_undo 44 = .ok (.iload_n 1, 1) := by decide +kernel
theorem dX11_undo_45 : decode cX11_undo 45 = .ok (.iadd, 1) := by decide +kernel
theorem dX11_undo_46 : decode cX11_undo 46 = .ok (.iaload, 1) := by decide +kernel
theorem dX11_undo_47 : decode cX11_undo 47 = .ok (.iastore, 1) := by decide +kernel
theorem dX11_undo_48 : decode cX11_undo 48 = .ok (.iinc 1 1, 3) := by decide +kernel
theorem dX11_undo_51 : decode cX11_undo 51 = .ok (.goto (-29), 3) := by decide +kernel
theorem dX11_undo_54 : decode cX11_undo 54 = .ok (.aload_n 0, 1) := by decide +kernel
theorem dX11_undo_55 : decode cX11_undo 55 = .ok (.getfield 204, 3) := by decide +kernel
theorem dX11_undo_58 : decode cX11_undo 58 = .ok (.ireturn, 1) := by decide +kernel
theorem dX11_save_0 : decode cX11_save 0 = .ok (.iconst 0, 1) := by decide +kernel
theorem dX11_save_1 : decode cX11_save 1 = .ok (.istore_n 1, 1) := by decide +kernel
theorem dX11_save_2 : decode cX11_save 2 = .ok (.iload_n 1, 1) := by decide +kernel
theorem dX11_save_3 : decode cX11_save 3 = .ok (.bipush 37, 2) := by decide +kernel
theorem dX11_save_5 : decode cX11_save 5 = .ok (.if_icmp .ge 21, 3) := by decide +kernel
theorem dX11_save_8 : decode cX11_save 8 = .ok (.aload_n 0, 1) := by decide +kernel
theorem dX11_save_9 : decode cX11_save 9 = .ok (.getfield 56, 3) := by decide +kernel
theorem dX11_save_12 : decode cX11_save 12 = .ok (.iload_n 1, 1) := by decide +kernel
theorem dX11_save_13 : decode cX11_save 13 = .ok (.aload_n 0, 1) := by decide +kernel
theorem dX11_save_14 : decode cX11_save 14 = .ok (.getfield 22, 3) := by decide +kernel
theorem dX11_save_17 : decode cX11_save 17 = .ok (.iload_n 1, 1) := by decide +kernel
theorem dX11_save_18 : decode cX11_save 18 = .ok (.iaload, 1) := by decide +kernel
theorem dX11_save_19 : decode cX11_save 19 = .ok (.iastore, 1) := by decide +kernel
theorem dX11_save_20 : decode cX11_save 20 = .ok (.iinc 1 1, 3) := by decide +kernel
theorem dX11_save_23 : decode cX11_save 23 = .ok (.goto (-21), 3) := by decide +kernel
theorem dX11_save_26 : decode cX11_save 26 = .ok (.return_, 1) := by decide +kernel
theorem dX11_putBack_0 : decode cX11_putBack 0 = .ok (.iconst 0, 1) := by decide +kernel
theorem dX11_putBack_1 : decode cX11_putBack 1 = .ok (.istore_n 1, 1) := by decide +kernel
theorem dX11_putBack_2 : decode cX11_putBack 2 = .ok (.iload_n 1, 1) := by decide +kernel
theorem dX11_putBack_3 : decode cX11_putBack 3 = .ok (.bipush 37, 2) := by decide +kernel
theorem dX11_putBack_5 : decode cX11_putBack 5 = .ok (.if_icmp .ge 21, 3) := by decide +kernel
theorem dX11_putBack_8 : decode cX11_putBack 8 = .ok (.aload_n 0, 1) := by decide +kernel
theorem dX11_putBack_9 : decode cX11_putBack 9 = .ok (.getfield 22, 3) := by decide +kernel
theorem dX11_putBack_12 : decode cX11_putBack 12 = .ok (.iload_n 1, 1) := by decide +kernel
theorem dX11_putBack_13 : decode cX11_putBack 13 = .ok (.aload_n 0, 1) := by decide +kernel
theorem dX11_putBack_14 : decode cX11_putBack 14 = .ok (.getfield 56, 3) := by decide +kernel
theorem dX11_putBack_17 : decode cX11_putBack 17 = .ok (.iload_n 1, 1) := by decide +kernel
theorem dX11_putBack_18 : decode cX11_putBack 18 = .ok (.iaload, 1) := by decide +kernel
theorem dX11_putBack_19 : decode cX11_putBack 19 = .ok (.iastore, 1) := by decide +kernel
theorem dX11_putBack_20 : decode cX11_putBack 20 = .ok (.iinc 1 1, 3) := by decide +kernel
theorem dX11_putBack_23 : decode cX11_putBack 23 = .ok (.goto (-21), 3) := by decide +kernel
theorem dX11_putBack_26 : decode cX11_putBack 26 = .ok (.return_, 1) := by decide +kernel
set_option maxRecDepth 20000 in
theorem ggX11_passAll_X11_pass : GoodIn wsX11_passAll wsX11_pass := goodIn_r _ [5, 6, 7, 8, 9, 10, 11, 12, 4, 13, 14, 15, 16, 17, 18, 19, 20, 21, 22, 23, 24, 25, 26, 27, 28, 29, 30, 31, 32, 33, 34, 35, 36, 37, 38, 39, 40, 41, 42, 43, 44, 45, 46, 47, 48, 49, 50, 51, 52, 53, 54, 55, 56, 57, 58, 59, 60, 61, 62, 63, 64, 65, 66, 67, 68, 69, 70, 71, 72, 73, 74, 75, 76, 77, 78, 79] (by decide +kernel) (by decide +kernel)
set_option maxRecDepth 20000 in
theorem gX11_passAll_X11_pass : GoodIn wsX11_passAll (wsV RX11 254 RX11 yX11_pass wsX11_pass) := goodIn_app (goodIn_of _ (by decide +kernel)) ggX11_passAll_X11_pass
theorem dX11_passAll_0 : decode cX11_passAll 0 = .ok (.iconst 0, 1) := by decide +kernel
theorem dX11_passAll_1 : decode cX11_passAll 1 = .ok (.istore_n 2, 1) := by decide +kernel
theorem dX11_passAll_2 : decode cX11_passAll 2 = .ok (.iload_n 2, 1) := by decide +kernel
theorem dX11_passAll_3 : decode cX11_passAll 3 = .ok (.iload_n 1, 1) := by decide +kernel
theorem dX11_passAll_4 : decode cX11_passAll 4 = .ok (.if_icmp .ge 13, 3) := by decide +kernel
theorem dX11_passAll_7 : decode cX11_passAll 7 = .ok (.aload_n 0, 1) := by decide +kernel
theorem dX11_passAll_8 : decode cX11_passAll 8 = .ok (.invokevirtual 254, 3) := by decide +kernel
theorem dX11_passAll_11 : decode cX11_passAll 11 = .ok (.iinc 2 1, 3) := by decide +kernel
theorem dX11_passAll_14 : decode cX11_passAll 14 = .ok (.goto (-12), 3) := by decide +kernel
theorem dX11_passAll_17 : decode cX11_passAll 17 = .ok (.return_, 1) := by decide +kernel
set_option maxRecDepth 20000 in
theorem ggX11_lies_X11_isCell : GoodIn wsX11_lies wsX11_isCell := goodIn_r _ [9, 10, 11, 12, 8, 13, 58, 59, 60, 61, 62, 63, 64, 65, 66, 67, 68, 69, 70, 71, 72, 73, 74, 75, 76, 77, 78, 79, 80, 81, 82, 83, 84, 85, 86, 87, 88, 89, 90, 91, 92, 93, 94, 95, 96, 97, 98, 99, 100, 101, 102] (by decide +kernel) (by decide +kernel)
set_option maxRecDepth 20000 in
theorem gX11_lies_X11_isCell : GoodIn wsX11_lies (wsV RX11 216 RX11 yX11_isCell wsX11_isCell) := goodIn_app (goodIn_of _ (by decide +kernel)) ggX11_lies_X11_isCell
set_option maxRecDepth 20000 in
theorem ggX11_lies_X11_in : GoodIn wsX11_lies wsX11_in := goodIn_r _ [13] (by decide +kernel) (by decide +kernel)
set_option maxRecDepth 20000 in
theorem gX11_lies_X11_in : GoodIn wsX11_lies (va_wsS RX11 93 yX11_in wsX11_in) := goodIn_app (goodIn_of _ (by decide +kernel)) ggX11_lies_X11_in
set_option maxRecDepth 20000 in
theorem ggX11_lies_X11_save : GoodIn wsX11_lies wsX11_save := goodIn_r _ [17, 18, 4, 58, 59, 60, 61, 62, 63, 64, 65, 66, 67, 68, 69, 70, 71, 72, 73, 74, 75, 76, 77, 78, 79, 80, 81, 82, 83, 84, 85, 86, 87, 88, 89, 90, 91, 92, 93, 94, 95, 96, 97, 98, 99, 100, 101, 102] (by decide +kernel) (by decide +kernel)
set_option maxRecDepth 20000 in
theorem gX11_lies_X11_save : GoodIn wsX11_lies (wsV RX11 281 RX11 yX11_save wsX11_save) := goodIn_app (goodIn_of _ (by decide +kernel)) ggX11_lies_X11_save
set_option maxRecDepth 20000 in
theorem ggX11_lies_X11_passAll : GoodIn wsX11_lies wsX11_passAll := goodIn_r _ [22, 23, 24, 25, 8, 26, 27, 4, 28, 29, 30, 31, 32, 33, 34, 35, 10, 36, 37, 38, 39, 40, 41, 42, 43, 44, 45, 46, 47, 48, 49, 50, 51, 52, 53, 58, 59, 60, 61, 62, 63, 64, 65, 66, 67, 68, 69, 70, 71, 72, 73, 74, 75, 76, 77, 78, 79, 80, 81, 82, 83, 84, 85, 86, 87, 88, 89, 90, 91, 92, 93, 94, 95, 96, 97, 98, 99, 100, 101, 102] (by decide +kernel) (by decide +kernel)
set_option maxRecDepth 20000 in
theorem gX11_lies_X11_passAll : GoodIn wsX11_lies (wsV RX11 284 RX11 yX11_passAll wsX11_passAll) := goodIn_app (goodIn_of _ (by decide +kernel)) ggX11_lies_X11_passAll
set_option maxRecDepth 20000 in
theorem ggX11_lies_X11_putBack : GoodIn wsX11_lies wsX11_putBack := goodIn_r _ [57, 4, 18, 58, 59, 60, 61, 62, 63, 64, 65, 66, 67, 68, 69, 70, 71, 72, 73, 74, 75, 76, 77, 78, 79, 80, 81, 82, 83, 84, 85, 86, 87, 88, 89, 90, 91, 92, 93, 94, 95, 96, 97, 98, 99, 100, 101, 102] (by decide +kernel) (by decide +kernel)
set_option maxRecDepth 20000 in
theorem gX11_lies_X11_putBack : GoodIn wsX11_lies (wsV RX11 288 RX11 yX11_putBack wsX11_putBack) := goodIn_app (goodIn_of _ (by decide +kernel)) ggX11_lies_X11_putBack
theorem dX11_lies_0 : decode cX11_lies 0 = .ok (.aload_n 0, 1) := by decide +kernel
theorem dX11_lies_1 : decode cX11_lies 1 = .ok (.iload_n 1, 1) := by decide +kernel
theorem dX11_lies_2 : decode cX11_lies 2 = .ok (.invokevirtual 216, 3) := by decide +kernel
theorem dX11_lies_5 : decode cX11_lies 5 = .ok (.ifCond .ne 6, 3) := by decide +kernel
theorem dX11_lies_8 : decode cX11_lies 8 = .ok (.ldc 219, 2) := by decide +kernel
theorem dX11_lies_10 : decode cX11_lies 10 = .ok (.ireturn, 1) := by decide +kernel
theorem dX11_lies_11 : decode cX11_lies 11 = .ok (.iload_n 2, 1) := by decide +kernel
theorem dX11_lies_12 : decode cX11_lies 12 = .ok (.i2l, 1) := by decide +kernel
theorem dX11_lies_13 : decode cX11_lies 13 = .ok (.lconst 0, 1) := by decide +kernel
theorem dX11_lies_14 : decode cX11_lies 14 = .ok (.ldc2_w 279, 3) := by decide +kernel
theorem dX11_lies_17 : decode cX11_lies 17 = .ok (.invokestatic 93, 3) := by decide +kernel
theorem dX11_lies_20 : decode cX11_lies 20 = .ok (.ifCond .ne 6, 3) := by decide +kernel
theorem dX11_lies_23 : decode cX11_lies 23 = .ok (.ldc 105, 2) := by decide +kernel
theorem dX11_lies_25 : decode cX11_lies 25 = .ok (.ireturn, 1) := by decide +kernel
theorem dX11_lies_26 : decode cX11_lies 26 = .ok (.aload_n 0, 1) := by decide +kernel
theorem dX11_lies_27 : decode cX11_lies 27 = .ok (.invokevirtual 281, 3) := by decide +kernel
theorem dX11_lies_30 : decode cX11_lies 30 = .ok (.aload_n 0, 1) := by decide +kernel
theorem dX11_lies_31 : decode cX11_lies 31 = .ok (.iload_n 2, 1) := by decide +kernel
theorem dX11_lies_32 : decode cX11_lies 32 = .ok (.invokevirtual 284, 3) := by decide +kernel
theorem dX11_lies_35 : decode cX11_lies 35 = .ok (.aload_n 0, 1) := by decide +kernel
theorem dX11_lies_36 : decode cX11_lies 36 = .ok (.getfield 22, 3) := by decide +kernel
theorem dX11_lies_39 : decode cX11_lies 39 = .ok (.iload_n 1, 1) := by decide +kernel
theorem dX11_lies_40 : decode cX11_lies 40 = .ok (.iaload, 1) := by decide +kernel
theorem dX11_lies_41 : decode cX11_lies 41 = .ok (.istore_n 3, 1) := by decide +kernel
theorem dX11_lies_42 : decode cX11_lies 42 = .ok (.aload_n 0, 1) := by decide +kernel
theorem dX11_lies_43 : decode cX11_lies 43 = .ok (.invokevirtual 288, 3) := by decide +kernel
theorem dX11_lies_46 : decode cX11_lies 46 = .ok (.iload_n 3, 1) := by decide +kernel
theorem dX11_lies_47 : decode cX11_lies 47 = .ok (.ireturn, 1) := by decide +kernel
set_option maxRecDepth 20000 in
theorem ggX11_open_X11_in : GoodIn wsX11_open wsX11_in := goodIn_r _ [7] (by decide +kernel) (by decide +kernel)
set_option maxRecDepth 20000 in
theorem gX11_open_X11_in : GoodIn wsX11_open (va_wsS RX11 93 yX11_in wsX11_in) := goodIn_app (goodIn_of _ (by decide +kernel)) ggX11_open_X11_in
set_option maxRecDepth 20000 in
theorem ggX11_open_X11_save : GoodIn wsX11_open wsX11_save := goodIn_r _ [11, 12, 13, 59, 60, 61, 62, 63, 64, 65, 66, 67, 68, 69, 70, 71, 72, 73, 74, 75, 76, 77, 78, 79, 80, 81, 82, 83, 84, 85, 86, 87, 88, 89, 90, 91, 92, 93, 94, 95, 96, 97, 98, 99, 100, 101, 102, 103] (by decide +kernel) (by decide +kernel)
set_option maxRecDepth 20000 in
theorem gX11_open_X11_save : GoodIn wsX11_open (wsV RX11 281 RX11 yX11_save wsX11_save) := goodIn_app (goodIn_of _ (by decide +kernel)) ggX11_open_X11_save
set_option maxRecDepth 20000 in
theorem ggX11_open_X11_passAll : GoodIn wsX11_open wsX11_passAll := goodIn_r _ [17, 18, 19, 20, 6, 21, 22, 13, 23, 24, 25, 26, 27, 28, 29, 30, 31, 32, 33, 34, 35, 36, 37, 38, 39, 40, 41, 42, 43, 44, 45, 46, 47, 48, 49, 59, 60, 61, 62, 63, 64, 65, 66, 67, 68, 69, 70, 71, 72, 73, 74, 75, 76, 77, 78, 79, 80, 81, 82, 83, 84, 85, 86, 87, 88, 89, 90, 91, 92, 93, 94, 95, 96, 97, 98, 99, 100, 101, 102, 103] (by decide +kernel) (by decide +kernel)
set_option maxRecDepth 20000 in
theorem gX11_open_X11_passAll : GoodIn wsX11_open (wsV RX11 284 RX11 yX11_passAll wsX11_passAll) := goodIn_app (goodIn_of _ (by decide +kernel)) ggX11_open_X11_passAll
set_option maxRecDepth 20000 in
theorem ggX11_open_X11_openCells : GoodIn wsX11_open wsX11_openCells := goodIn_r _ [53, 31, 3, 13, 54, 40, 41, 6, 42, 59, 60, 61, 62, 63, 64, 65, 66, 67, 68, 69, 70, 71, 72, 73, 74, 75, 76, 77, 78, 79, 80, 81, 82, 83, 84, 85, 86, 87, 88, 89, 90, 91, 92, 93, 94, 95, 96, 97, 98, 99, 100, 101, 102, 103] (by decide +kernel) (by decide +kernel)
set_option maxRecDepth 20000 in
theorem gX11_open_X11_openCells : GoodIn wsX11_open (wsV RX11 207 RX11 yX11_openCells wsX11_openCells) := goodIn_app (goodIn_of _ (by decide +kernel)) ggX11_open_X11_openCells
set_option maxRecDepth 20000 in
theorem ggX11_open_X11_putBack : GoodIn wsX11_open wsX11_putBack := goodIn_r _ [58, 13, 12, 59, 60, 61, 62, 63, 64, 65, 66, 67, 68, 69, 70, 71, 72, 73, 74, 75, 76, 77, 78, 79, 80, 81, 82, 83, 84, 85, 86, 87, 88, 89, 90, 91, 92, 93, 94, 95, 96, 97, 98, 99, 100, 101, 102, 103] (by decide +kernel) (by decide +kernel)
set_option maxRecDepth 20000 in
theorem gX11_open_X11_putBack : GoodIn wsX11_open (wsV RX11 288 RX11 yX11_putBack wsX11_putBack) := goodIn_app (goodIn_of _ (by decide +kernel)) ggX11_open_X11_putBack
theorem dX11_open_0 : decode cX11_open 0 = .ok (.iload_n 1, 1) := by decide +kernel
theorem dX11_open_1 : decode cX11_open 1 = .ok (.i2l, 1) := by decide +kernel
theorem dX11_open_2 : decode cX11_open 2 = .ok (.lconst 0, 1) := by decide +kernel
theorem dX11_open_3 : decode cX11_open 3 = .ok (.ldc2_w 279, 3) := by decide +kernel
theorem dX11_open_6 : decode cX11_open 6 = .ok (.invokestatic 93, 3) := by decide +kernel
theorem dX11_open_9 : decode cX11_open 9 = .ok (.ifCond .ne 6, 3) := by decide +kernel
theorem dX11_open_12 : decode cX11_open 12 = .ok (.ldc 105, 2) := by decide +kernel
theorem dX11_open_14 : decode cX11_open 14 = .ok (.ireturn, 1) := by decide +kernel
theorem dX11_open_15 : decode cX11_open 15 = .ok (.aload_n 0, 1) := by decide +kernel
theorem dX11_open_16 : decode cX11_open 16 = .ok (.invokevirtual 281, 3) := by decide +kernel
theorem dX11_open_19 : decode cX11_open 19 = .ok (.aload_n 0, 1) := by decide +kernel
theorem dX11_open_20 : decode cX11_open 20 = .ok (.iload_n 1, 1) := by decide +kernel
theorem dX11_open_21 : decode cX11_open 21 = .ok (.invokevirtual 284, 3) := by decide +kernel
theorem dX11_open_24 : decode cX11_open 24 = .ok (.aload_n 0, 1) := by decide +kernel
theorem dX11_open_25 : decode cX11_open 25 = .ok (.invokevirtual 207, 3) := by decide +kernel
theorem dX11_open_28 : decode cX11_open 28 = .ok (.aload_n 0, 1) := by decide +kernel
theorem dX11_open_29 : decode cX11_open 29 = .ok (.getfield 186, 3) := by decide +kernel
theorem dX11_open_32 : decode cX11_open 32 = .ok (.if_icmp .ne 7, 3) := by decide +kernel
theorem dX11_open_35 : decode cX11_open 35 = .ok (.iconst 1, 1) := by decide +kernel
theorem dX11_open_36 : decode cX11_open 36 = .ok (.goto 4, 3) := by decide +kernel
theorem dX11_open_39 : decode cX11_open 39 = .ok (.iconst 0, 1) := by decide +kernel
theorem dX11_open_40 : decode cX11_open 40 = .ok (.istore_n 2, 1) := by decide +kernel
theorem dX11_open_41 : decode cX11_open 41 = .ok (.aload_n 0, 1) := by decide +kernel
theorem dX11_open_42 : decode cX11_open 42 = .ok (.invokevirtual 288, 3) := by decide +kernel
theorem dX11_open_45 : decode cX11_open 45 = .ok (.iload_n 2, 1) := by decide +kernel
theorem dX11_open_46 : decode cX11_open 46 = .ok (.ifCond .eq 7, 3) := by decide +kernel
theorem dX11_open_49 : decode cX11_open 49 = .ok (.iconst 1, 1) := by decide +kernel
theorem dX11_open_50 : decode cX11_open 50 = .ok (.goto 4, 3) := by decide +kernel
theorem dX11_open_53 : decode cX11_open 53 = .ok (.iconst 0, 1) := by decide +kernel
theorem dX11_open_54 : decode cX11_open 54 = .ok (.ireturn, 1) := by decide +kernel
set_option maxRecDepth 20000 in
theorem ggX11_worth_X11_isPost : GoodIn wsX11_worth wsX11_isPost := goodIn_r _ [6, 7, 8, 9, 5, 10, 23, 24, 25, 26, 27, 28, 29, 30, 31, 32, 33, 34, 35, 36, 37, 38, 39, 40, 41, 42, 43, 44, 45, 46, 47, 48, 49, 50, 51, 52, 53, 54, 55, 56, 57, 58, 59, 60, 61, 62, 63, 64, 65, 66, 67] (by decide +kernel) (by decide +kernel)
set_option maxRecDepth 20000 in
theorem gX11_worth_X11_isPost : GoodIn wsX11_worth (wsV RX11 220 RX11 yX11_isPost wsX11_isPost) := goodIn_app (goodIn_of _ (by decide +kernel)) ggX11_worth_X11_isPost
set_option maxRecDepth 20000 in
theorem ggX11_worth_X11_isCrow : GoodIn wsX11_worth wsX11_isCrow := goodIn_r _ [14, 15, 8, 9, 5, 10, 23, 24, 25, 26, 27, 28, 29, 30, 31, 32, 33, 34, 35, 36, 37, 38, 39, 40, 41, 42, 43, 44, 45, 46, 47, 48, 49, 50, 51, 52, 53, 54, 55, 56, 57, 58, 59, 60, 61, 62, 63, 64, 65, 66, 67] (by decide +kernel) (by decide +kernel)
set_option maxRecDepth 20000 in
theorem gX11_worth_X11_isCrow : GoodIn wsX11_worth (wsV RX11 223 RX11 yX11_isCrow wsX11_isCrow) := goodIn_app (goodIn_of _ (by decide +kernel)) ggX11_worth_X11_isCrow
set_option maxRecDepth 20000 in
theorem ggX11_worth_X11_bid : GoodIn wsX11_worth wsX11_bid := goodIn_r _ [19, 20, 21, 22, 23, 24, 25, 26, 27, 28, 29, 30, 31, 32, 33, 34, 35, 36, 37, 38, 39, 40, 41, 42, 43, 44, 45, 46, 47, 48, 49, 50, 51, 52, 53, 54, 55, 56, 57, 58, 59, 60, 61, 62, 63, 64, 65, 66, 67] (by decide +kernel) (by decide +kernel)
set_option maxRecDepth 20000 in
theorem gX11_worth_X11_bid : GoodIn wsX11_worth (wsV RX11 257 RX11 yX11_bid wsX11_bid) := goodIn_app (goodIn_of _ (by decide +kernel)) ggX11_worth_X11_bid
theorem dX11_worth_0 : decode cX11_worth 0 = .ok (.aload_n 0, 1) := by decide +kernel
theorem dX11_worth_1 : decode cX11_worth 1 = .ok (.iload_n 1, 1) := by decide +kernel
theorem dX11_worth_2 : decode cX11_worth 2 = .ok (.invokevirtual 220, 3) := by decide +kernel
theorem dX11_worth_5 : decode cX11_worth 5 = .ok (.ifCond .eq 20, 3) := by decide +kernel
theorem dX11_worth_8 : decode cX11_worth 8 = .ok (.aload_n 0, 1) := by decide +kernel
theorem dX11_worth_9 : decode cX11_worth 9 = .ok (.iload_n 2, 1) := by decide +kernel
theorem dX11_worth_10 : decode cX11_worth 10 = .ok (.invokevirtual 223, 3) := by decide +kernel
theorem dX11_worth_13 : decode cX11_worth 13 = .ok (.ifCond .eq 12, 3) := by decide +kernel
theorem dX11_worth_16 : decode cX11_worth 16 = .ok (.aload_n 0, 1) := by decide +kernel
theorem dX11_worth_17 : decode cX11_worth 17 = .ok (.iload_n 1, 1) := by decide +kernel
theorem dX11_worth_18 : decode cX11_worth 18 = .ok (.iload_n 2, 1) := by decide +kernel
theorem dX11_worth_19 : decode cX11_worth 19 = .ok (.invokevirtual 257, 3) := by decide +kernel
theorem dX11_worth_22 : decode cX11_worth 22 = .ok (.goto 5, 3) := by decide +kernel
theorem dX11_worth_25 : decode cX11_worth 25 = .ok (.ldc 219, 2) := by decide +kernel
theorem dX11_worth_27 : decode cX11_worth 27 = .ok (.ireturn, 1) := by decide +kernel
set_option maxRecDepth 20000 in
theorem ggX11_findOpens_X11_save : GoodIn wsX11_findOpens wsX11_save := goodIn_r _ [9, 10, 2, 55, 56, 57, 58, 59, 60, 61, 62, 63, 64, 65, 66, 67, 68, 69, 70, 71, 72, 73, 74, 75, 76, 77, 78, 79, 80, 81, 82, 83, 84, 85, 86, 87, 88, 89, 90, 91, 92, 93, 94, 95, 96, 97, 98, 99] (by decide +kernel) (by decide +kernel)
set_option maxRecDepth 20000 in
theorem gX11_findOpens_X11_save : GoodIn wsX11_findOpens (wsV RX11 281 RX11 yX11_save wsX11_save) := goodIn_app (goodIn_of _ (by decide +kernel)) ggX11_findOpens_X11_save
set_option maxRecDepth 20000 in
theorem ggX11_findOpens_X11_has : GoodIn wsX11_findOpens wsX11_has := goodIn_r _ [13] (by decide +kernel) (by decide +kernel)
set_option maxRecDepth 20000 in
theorem gX11_findOpens_X11_has : GoodIn wsX11_findOpens (va_wsS RX11 141 yX11_has wsX11_has) := goodIn_app (goodIn_of _ (by decide +kernel)) ggX11_findOpens_X11_has
set_option maxRecDepth 20000 in
theorem ggX11_findOpens_X11_passAll : GoodIn wsX11_findOpens wsX11_passAll := goodIn_r _ [17, 18, 19, 20, 8, 21, 22, 2, 23, 24, 25, 26, 27, 28, 1, 29, 30, 31, 32, 33, 34, 35, 36, 37, 38, 11, 12, 13, 39, 40, 41, 42, 43, 44, 45, 55, 56, 57, 58, 59, 60, 61, 62, 63, 64, 65, 66, 67, 68, 69, 70, 71, 72, 73, 74, 75, 76, 77, 78, 79, 80, 81, 82, 83, 84, 85, 86, 87, 88, 89, 90, 91, 92, 93, 94, 95, 96, 97, 98, 99] (by decide +kernel) (by decide +kernel)
set_option maxRecDepth 20000 in
theorem gX11_findOpens_X11_passAll : GoodIn wsX11_findOpens (wsV RX11 284 RX11 yX11_passAll wsX11_passAll) := goodIn_app (goodIn_of _ (by decide +kernel)) ggX11_findOpens_X11_passAll
set_option maxRecDepth 20000 in
theorem ggX11_findOpens_X11_openCells : GoodIn wsX11_findOpens wsX11_openCells := goodIn_r _ [49, 30, 4, 2, 50, 11, 12, 8, 13, 55, 56, 57, 58, 59, 60, 61, 62, 63, 64, 65, 66, 67, 68, 69, 70, 71, 72, 73, 74, 75, 76, 77, 78, 79, 80, 81, 82, 83, 84, 85, 86, 87, 88, 89, 90, 91, 92, 93, 94, 95, 96, 97, 98, 99] (by decide +kernel) (by decide +kernel)
set_option maxRecDepth 20000 in
theorem gX11_findOpens_X11_openCells : GoodIn wsX11_findOpens (wsV RX11 207 RX11 yX11_openCells wsX11_openCells) := goodIn_app (goodIn_of _ (by decide +kernel)) ggX11_findOpens_X11_openCells
set_option maxRecDepth 20000 in
theorem ggX11_findOpens_X11_putBack : GoodIn wsX11_findOpens wsX11_putBack := goodIn_r _ [54, 2, 10, 55, 56, 57, 58, 59, 60, 61, 62, 63, 64, 65, 66, 67, 68, 69, 70, 71, 72, 73, 74, 75, 76, 77, 78, 79, 80, 81, 82, 83, 84, 85, 86, 87, 88, 89, 90, 91, 92, 93, 94, 95, 96, 97, 98, 99] (by decide +kernel) (by decide +kernel)
set_option maxRecDepth 20000 in
theorem gX11_findOpens_X11_putBack : GoodIn wsX11_findOpens (wsV RX11 288 RX11 yX11_putBack wsX11_putBack) := goodIn_app (goodIn_of _ (by decide +kernel)) ggX11_findOpens_X11_putBack
theorem dX11_findOpens_0 : decode cX11_findOpens 0 = .ok (.aload_n 0, 1) := by decide +kernel
theorem dX11_findOpens_1 : decode cX11_findOpens 1 = .ok (.invokevirtual 281, 3) := by decide +kernel
theorem dX11_findOpens_4 : decode cX11_findOpens 4 = .ok (.iconst 0, 1) := by decide +kernel
theorem dX11_findOpens_5 : decode cX11_findOpens 5 = .ok (.istore_n 2, 1) := by decide +kernel
theorem dX11_findOpens_6 : decode cX11_findOpens 6 = .ok (.iload_n 2, 1) := by decide +kernel
theorem dX11_findOpens_7 : decode cX11_findOpens 7 = .ok (.iconst 1, 1) := by decide +kernel
theorem dX11_findOpens_8 : decode cX11_findOpens 8 = .ok (.aload_n 0, 1) := by decide +kernel
theorem dX11_findOpens_9 : decode cX11_findOpens 9 = .ok (.getfield 97, 3) := by decide +kernel
theorem dX11_findOpens_12 : decode cX11_findOpens 12 = .ok (.ishl, 1) := by decide +kernel
theorem dX11_findOpens_13 : decode cX11_findOpens 13 = .ok (.if_icmp .ge 93, 3) := by decide +kernel
theorem dX11_findOpens_16 : decode cX11_findOpens 16 = .ok (.iconst 0, 1) := by decide +kernel
theorem dX11_findOpens_17 : decode cX11_findOpens 17 = .ok (.istore_n 3, 1) := by decide +kernel
theorem dX11_findOpens_18 : decode cX11_findOpens 18 = .ok (.iload_n 3, 1) := by decide +kernel
theorem dX11_findOpens_19 : decode cX11_findOpens 19 = .ok (.aload_n 0, 1) := by decide +kernel
theorem dX11_findOpens_20 : decode cX11_findOpens 20 = .ok (.getfield 97, 3) := by decide +kernel
theorem dX11_findOpens_23 : decode cX11_findOpens 23 = .ok (.if_icmp .ge 31, 3) := by decide +kernel
theorem dX11_findOpens_26 : decode cX11_findOpens 26 = .ok (.aload_n 0, 1) := by decide +kernel
theorem dX11_findOpens_27 : decode cX11_findOpens 27 = .ok (.getfield 22, 3) := by decide +kernel
theorem dX11_findOpens_30 : decode cX11_findOpens 30 = .ok (.bipush 18, 2) := by decide +kernel
theorem dX11_findOpens_32 : decode cX11_findOpens 32 = .ok (.iload_n 3, 1) := by decide +kernel
theorem dX11_findOpens_33 : decode cX11_findOpens 33 = .ok (.iadd, 1) := by decide +kernel
theorem dX11_findOpens_34 : decode cX11_findOpens 34 = .ok (.iload_n 2, 1) := by decide +kernel
theorem dX11_findOpens_35 : decode cX11_findOpens 35 = .ok (.iload_n 3, 1) := by decide +kernel
theorem dX11_findOpens_36 : decode cX11_findOpens 36 = .ok (.invokestatic 141, 3) := by decide +kernel
theorem dX11_findOpens_39 : decode cX11_findOpens 39 = .ok (.ifCond .eq 7, 3) := by decide +kernel
theorem dX11_findOpens_42 : decode cX11_findOpens 42 = .ok (.iconst 0, 1) := by decide +kernel
theorem dX11_findOpens_43 : decode cX11_findOpens 43 = .ok (.goto 4, 3) := by decide +kernel
theorem dX11_findOpens_46 : decode cX11_findOpens 46 = .ok (.iconst (-1), 1) := by decide +kernel
theorem dX11_findOpens_47 : decode cX11_findOpens 47 = .ok (.iastore, 1) := by decide +kernel
theorem dX11_findOpens_48 : decode cX11_findOpens 48 = .ok (.iinc 3 1, 3) := by decide +kernel
theorem dX11_findOpens_51 : decode cX11_findOpens 51 = .ok (.goto (-33), 3) := by decide +kernel
theorem dX11_findOpens_54 : decode cX11_findOpens 54 = .ok (.aload_n 0, 1) := by decide +kernel
theorem dX11_findOpens_55 : decode cX11_findOpens 55 = .ok (.getfield 22, 3) := by decide +kernel
theorem dX11_findOpens_58 : decode cX11_findOpens 58 = .ok (.bipush 24, 2) := by decide +kernel
theorem dX11_findOpens_60 : decode cX11_findOpens 60 = .ok (.iconst 1, 1) := by decide +kernel
theorem dX11_findOpens_61 : decode cX11_findOpens 61 = .ok (.aload_n 0, 1) := by decide +kernel
theorem dX11_findOpens_62 : decode cX11_findOpens 62 = .ok (.getfield 97, 3) := by decide +kernel
theorem dX11_findOpens_65 : decode cX11_findOpens 65 = .ok (.ishl, 1) := by decide +kernel
theorem dX11_findOpens_66 : decode cX11_findOpens 66 = .ok (.iconst 1, 1) := by decide +kernel
theorem dX11_findOpens_67 : decode cX11_findOpens 67 = .ok (.isub, 1) := by decide +kernel
theorem dX11_findOpens_68 : decode cX11_findOpens 68 = .ok (.iastore, 1) := by decide +kernel
theorem dX11_findOpens_69 : decode cX11_findOpens 69 = .ok (.aload_n 0, 1) := by decide +kernel
theorem dX11_findOpens_70 : decode cX11_findOpens 70 = .ok (.iload_n 1, 1) := by decide +kernel
theorem dX11_findOpens_71 : decode cX11_findOpens 71 = .ok (.invokevirtual 284, 3) := by decide +kernel
theorem dX11_findOpens_74 : decode cX11_findOpens 74 = .ok (.aload_n 0, 1) := by decide +kernel
theorem dX11_findOpens_75 : decode cX11_findOpens 75 = .ok (.getfield 59, 3) := by decide +kernel
theorem dX11_findOpens_78 : decode cX11_findOpens 78 = .ok (.iload_n 2, 1) := by decide +kernel
theorem dX11_findOpens_79 : decode cX11_findOpens 79 = .ok (.aload_n 0, 1) := by decide +kernel
theorem dX11_findOpens_80 : decode cX11_findOpens 80 = .ok (.invokevirtual 207, 3) := by decide +kernel
theorem dX11_findOpens_83 : decode cX11_findOpens 83 = .ok (.aload_n 0, 1) := by decide +kernel
theorem dX11_findOpens_84 : decode cX11_findOpens 84 = .ok (.getfield 186, 3) := by decide +kernel
theorem dX11_findOpens_87 : decode cX11_findOpens 87 = .ok (.if_icmp .ne 7, 3) := by decide +kernel
theorem dX11_findOpens_90 : decode cX11_findOpens 90 = .ok (.iconst 1, 1) := by decide +kernel
theorem dX11_findOpens_91 : decode cX11_findOpens 91 = .ok (.goto 4, 3) := by decide +kernel
theorem dX11_findOpens_94 : decode cX11_findOpens 94 = .ok (.iconst 0, 1) := by decide +kernel
theorem dX11_findOpens_95 : decode cX11_findOpens 95 = .ok (.bastore, 1) := by decide +kernel
theorem dX11_findOpens_96 : decode cX11_findOpens 96 = .ok (.aload_n 0, 1) := by decide +kernel
theorem dX11_findOpens_97 : decode cX11_findOpens 97 = .ok (.invokevirtual 288, 3) := by decide +kernel
theorem dX11_findOpens_100 : decode cX11_findOpens 100 = .ok (.iinc 2 1, 3) := by decide +kernel
theorem dX11_findOpens_103 : decode cX11_findOpens 103 = .ok (.goto (-97), 3) := by decide +kernel
theorem dX11_findOpens_106 : decode cX11_findOpens 106 = .ok (.return_, 1) := by decide +kernel
theorem dX11_waysToLet_0 : decode cX11_waysToLet 0 = .ok (.iconst 1, 1) := by decide +kernel
theorem dX11_waysToLet_1 : decode cX11_waysToLet 1 = .ok (.istore_n 1, 1) := by decide +kernel
theorem dX11_waysToLet_2 : decode cX11_waysToLet 2 = .ok (.iconst 0, 1) := by decide +kernel
theorem dX11_waysToLet_3 : decode cX11_waysToLet 3 = .ok (.istore_n 2, 1) := by decide +kernel
theorem dX11_waysToLet_4 : decode cX11_waysToLet 4 = .ok (.iload_n 2, 1) := by decide +kernel
theorem dX11_waysToLet_5 : decode cX11_waysToLet 5 = .ok (.aload_n 0, 1) := by decide +kernel
theorem dX11_waysToLet_6 : decode cX11_waysToLet 6 = .ok (.getfield 97, 3) := by decide +kernel
theorem dX11_waysToLet_9 : decode cX11_waysToLet 9 = .ok (.if_icmp .ge 14, 3) := by decide +kernel
theorem dX11_waysToLet_12 : decode cX11_waysToLet 12 = .ok (.iload_n 1, 1) := by decide +kernel
theorem dX11_waysToLet_13 : decode cX11_waysToLet 13 = .ok (.bipush 6, 2) := by decide +kernel
theorem dX11_waysToLet_15 : decode cX11_waysToLet 15 = .ok (.imul, 1) := by decide +kernel
theorem dX11_waysToLet_16 : decode cX11_waysToLet 16 = .ok (.istore_n 1, 1) := by decide +kernel
theorem dX11_waysToLet_17 : decode cX11_waysToLet 17 = .ok (.iinc 2 1, 3) := by decide +kernel
theorem dX11_waysToLet_20 : decode cX11_waysToLet 20 = .ok (.goto (-16), 3) := by decide +kernel
theorem dX11_waysToLet_23 : decode cX11_waysToLet 23 = .ok (.iload_n 1, 1) := by decide +kernel
theorem dX11_waysToLet_24 : decode cX11_waysToLet 24 = .ok (.ireturn, 1) := by decide +kernel
set_option maxRecDepth 20000 in
theorem ggX11_takeGiven_X11_has : GoodIn wsX11_takeGiven wsX11_has := goodIn_r _ [7] (by decide +kernel) (by decide +kernel)
set_option maxRecDepth 20000 in
theorem gX11_takeGiven_X11_has : GoodIn wsX11_takeGiven (va_wsS RX11 141 yX11_has wsX11_has) := goodIn_app (goodIn_of _ (by decide +kernel)) ggX11_takeGiven_X11_has
theorem dX11_takeGiven_0 : decode cX11_takeGiven 0 = .ok (.iload_n 1, 1) := by decide +kernel
theorem dX11_takeGiven_1 : decode cX11_takeGiven 1 = .ok (.istore_n 2, 1) := by decide +kernel
theorem dX11_takeGiven_2 : decode cX11_takeGiven 2 = .ok (.iconst 0, 1) := by decide +kernel
theorem dX11_takeGiven_3 : decode cX11_takeGiven 3 = .ok (.istore_n 3, 1) := by decide +kernel
theorem dX11_takeGiven_4 : decode cX11_takeGiven 4 = .ok (.iconst 1, 1) := by decide +kernel
theorem dX11_takeGiven_5 : decode cX11_takeGiven 5 = .ok (.istore 4, 2) := by decide +kernel
theorem dX11_takeGiven_7 : decode cX11_takeGiven 7 = .ok (.aload_n 0, 1) := by decide +kernel
theorem dX11_takeGiven_8 : decode cX11_takeGiven 8 = .ok (.getfield 97, 3) := by decide +kernel
theorem dX11_takeGiven_11 : decode cX11_takeGiven 11 = .ok (.iconst 1, 1) := by decide +kernel
theorem dX11_takeGiven_12 : decode cX11_takeGiven 12 = .ok (.isub, 1) := by decide +kernel
theorem dX11_takeGiven_13 : decode cX11_takeGiven 13 = .ok (.istore 5, 2) := by decide +kernel
theorem dX11_takeGiven_15 : decode cX11_takeGiven 15 = .ok (.iload 5, 2) := by decide +kernel
theorem dX11_takeGiven_17 : decode cX11_takeGiven 17 = .ok (.ifCond .lt 82, 3) := by decide +kernel
theorem dX11_takeGiven_20 : decode cX11_takeGiven 20 = .ok (.iload_n 2, 1) := by decide +kernel
theorem dX11_takeGiven_21 : decode cX11_takeGiven 21 = .ok (.bipush 6, 2) := by decide +kernel
theorem dX11_takeGiven_23 : decode cX11_takeGiven 23 = .ok (.irem, 1) := by decide +kernel
theorem dX11_takeGiven_24 : decode cX11_takeGiven 24 = .ok (.istore 6, 2) := by decide +kernel
theorem dX11_takeGiven_26 : decode cX11_takeGiven 26 = .ok (.iload_n 2, 1) := by decide +kernel
theorem dX11_takeGiven_27 : decode cX11_takeGiven 27 = .ok (.bipush 6, 2) := by decide +kernel
theorem dX11_takeGiven_29 : decode cX11_takeGiven 29 = .ok (.idiv, 1) := by decide +kernel
theorem dX11_takeGiven_30 : decode cX11_takeGiven 30 = .ok (.istore_n 2, 1) := by decide +kernel
theorem dX11_takeGiven_31 : decode cX11_takeGiven 31 = .ok (.aload_n 0, 1) := by decide +kernel
theorem dX11_takeGiven_32 : decode cX11_takeGiven 32 = .ok (.getfield 63, 3) := by decide +kernel
theorem dX11_takeGiven_35 : decode cX11_takeGiven 35 = .ok (.iload 5, 2) := by decide +kernel
theorem dX11_takeGiven_37 : decode cX11_takeGiven 37 = .ok (.iload 6, 2) := by decide +kernel
theorem dX11_takeGiven_39 : decode cX11_takeGiven 39 = .ok (.iconst 5, 1) := by decide +kernel
theorem dX11_takeGiven_40 : decode cX11_takeGiven 40 = .ok (.if_icmp .ne 7, 3) := by decide +kernel
theorem dX11_takeGiven_43 : decode cX11_takeGiven 43 = .ok (.iconst (-1), 1) := by decide +kernel
theorem dX11_takeGiven_44 : decode cX11_takeGiven 44 = .ok (.goto 5, 3) := by decide +kernel
theorem dX11_takeGiven_47 : decode cX11_takeGiven 47 = .ok (.iload 6, 2) := by decide +kernel
theorem dX11_takeGiven_49 : decode cX11_takeGiven 49 = .ok (.iastore, 1) := by decide +kernel
theorem dX11_takeGiven_50 : decode cX11_takeGiven 50 = .ok (.iload 4, 2) := by decide +kernel
theorem dX11_takeGiven_52 : decode cX11_takeGiven 52 = .ok (.ifCond .eq 31, 3) := by decide +kernel
theorem dX11_takeGiven_55 : decode cX11_takeGiven 55 = .ok (.iload 6, 2) := by decide +kernel
theorem dX11_takeGiven_57 : decode cX11_takeGiven 57 = .ok (.iconst 5, 1) := by decide +kernel
theorem dX11_takeGiven_58 : decode cX11_takeGiven 58 = .ok (.if_icmp .eq 21, 3) := by decide +kernel
theorem dX11_takeGiven_61 : decode cX11_takeGiven 61 = .ok (.iload 6, 2) := by decide +kernel
theorem dX11_takeGiven_63 : decode cX11_takeGiven 63 = .ok (.aload_n 0, 1) := by decide +kernel
theorem dX11_takeGiven_64 : decode cX11_takeGiven 64 = .ok (.getfield 100, 3) := by decide +kernel
theorem dX11_takeGiven_67 : decode cX11_takeGiven 67 = .ok (.if_icmp .ge 16, 3) := by decide +kernel
theorem dX11_takeGiven_70 : decode cX11_takeGiven 70 = .ok (.iload_n 3, 1) := by decide +kernel
theorem dX11_takeGiven_71 : decode cX11_takeGiven 71 = .ok (.iload 6, 2) := by decide +kernel
theorem dX11_takeGiven_73 : decode cX11_takeGiven 73 = .ok (.invokestatic 141, 3) := by decide +kernel
theorem dX11_takeGiven_76 : decode cX11_takeGiven 76 = .ok (.ifCond .ne 7, 3) := by decide +kernel
theorem dX11_takeGiven_79 : decode cX11_takeGiven 79 = .ok (.iconst 1, 1) := by decide +kernel
theorem dX11_takeGiven_80 : decode cX11_takeGiven 80 = .ok (.goto 4, 3) := by decide +kernel
theorem dX11_takeGiven_83 : decode cX11_takeGiven 83 = .ok (.iconst 0, 1) := by decide +kernel
theorem dX11_takeGiven_84 : decode cX11_takeGiven 84 = .ok (.istore 4, 2) := by decide +kernel
theorem dX11_takeGiven_86 : decode cX11_takeGiven 86 = .ok (.iload_n 3, 1) := by decide +kernel
theorem dX11_takeGiven_87 : decode cX11_takeGiven 87 = .ok (.iconst 1, 1) := by decide +kernel
theorem dX11_takeGiven_88 : decode cX11_takeGiven 88 = .ok (.iload 6, 2) := by decide +kernel
theorem dX11_takeGiven_90 : decode cX11_takeGiven 90 = .ok (.ishl, 1) := by decide +kernel
theorem dX11_takeGiven_91 : decode cX11_takeGiven 91 = .ok (.ior, 1) := by decide +kernel
theorem dX11_takeGiven_92 : decode cX11_takeGiven 92 = .ok (.istore_n 3, 1) := by decide +kernel
theorem dX11_takeGiven_93 : decode cX11_takeGiven 93 = .ok (.iinc 5 (-1), 3) := by decide +kernel
theorem dX11_takeGiven_96 : decode cX11_takeGiven 96 = .ok (.goto (-81), 3) := by decide +kernel
theorem dX11_takeGiven_99 : decode cX11_takeGiven 99 = .ok (.iload 4, 2) := by decide +kernel
theorem dX11_takeGiven_101 : decode cX11_takeGiven 101 = .ok (.ireturn, 1) := by decide +kernel
theorem dX11_givenSet_0 : decode cX11_givenSet 0 = .ok (.iconst 0, 1) := by decide +kernel
theorem dX11_givenSet_1 : decode cX11_givenSet 1 = .ok (.istore_n 1, 1) := by decide +kernel
theorem dX11_givenSet_2 : decode cX11_givenSet 2 = .ok (.iconst 0, 1) := by decide +kernel
theorem dX11_givenSet_3 : decode cX11_givenSet 3 = .ok (.istore_n 2, 1) := by decide +kernel
theorem dX11_givenSet_4 : decode cX11_givenSet 4 = .ok (.iload_n 2, 1) := by decide +kernel
theorem dX11_givenSet_5 : decode cX11_givenSet 5 = .ok (.aload_n 0, 1) := by decide +kernel
theorem dX11_givenSet_6 : decode cX11_givenSet 6 = .ok (.getfield 97, 3) := by decide +kernel
theorem dX11_givenSet_9 : decode cX11_givenSet 9 = .ok (.if_icmp .ge 28, 3) := by decide +kernel
theorem dX11_givenSet_12 : decode cX11_givenSet 12 = .ok (.iload_n 1, 1) := by decide +kernel
theorem dX11_givenSet_13 : decode cX11_givenSet 13 = .ok (.aload_n 0, 1) := by decide +kernel
theorem dX11_givenSet_14 : decode cX11_givenSet 14 = .ok (.getfield 63, 3) := by decide +kernel
theorem dX11_givenSet_17 : decode cX11_givenSet 17 = .ok (.iload_n 2, 1) := by decide +kernel
theorem dX11_givenSet_18 : decode cX11_givenSet 18 = .ok (.iaload, 1) := by decide +kernel
theorem dX11_givenSet_19 : decode cX11_givenSet 19 = .ok (.ifCond .lt 9, 3) := by decide +kernel
theorem dX11_givenSet_22 : decode cX11_givenSet 22 = .ok (.iconst 1, 1) := by decide +kernel
theorem dX11_givenSet_23 : decode cX11_givenSet 23 = .ok (.iload_n 2, 1) := by decide +kernel
theorem dX11_givenSet_24 : decode cX11_givenSet 24 = .ok (.ishl, 1) := by decide +kernel
theorem dX11_givenSet_25 : decode cX11_givenSet 25 = .ok (.goto 4, 3) := by decide +kernel
theorem dX11_givenSet_28 : decode cX11_givenSet 28 = .ok (.iconst 0, 1) := by decide +kernel
theorem dX11_givenSet_29 : decode cX11_givenSet 29 = .ok (.ior, 1) := by decide +kernel
theorem dX11_givenSet_30 : decode cX11_givenSet 30 = .ok (.istore_n 1, 1) := by decide +kernel
theorem dX11_givenSet_31 : decode cX11_givenSet 31 = .ok (.iinc 2 1, 3) := by decide +kernel
theorem dX11_givenSet_34 : decode cX11_givenSet 34 = .ok (.goto (-30), 3) := by decide +kernel
theorem dX11_givenSet_37 : decode cX11_givenSet 37 = .ok (.iload_n 1, 1) := by decide +kernel
theorem dX11_givenSet_38 : decode cX11_givenSet 38 = .ok (.ireturn, 1) := by decide +kernel
set_option maxRecDepth 20000 in
theorem ggX11_givenSpoons_X11_bid : GoodIn wsX11_givenSpoons wsX11_bid := goodIn_r _ [7, 8, 9, 10, 11, 12, 13, 14, 15, 16, 17, 18, 19, 20, 21, 22, 23, 24, 25, 26, 27, 28, 29, 30, 31, 32, 33, 34, 35, 36, 37, 38, 39, 40, 41, 42, 43, 44, 45, 46, 47, 48, 49, 50, 51, 52, 53, 54, 55] (by decide +kernel) (by decide +kernel)
set_option maxRecDepth 20000 in
theorem gX11_givenSpoons_X11_bid : GoodIn wsX11_givenSpoons (wsV RX11 257 RX11 yX11_bid wsX11_bid) := goodIn_app (goodIn_of _ (by decide +kernel)) ggX11_givenSpoons_X11_bid
theorem dX11_givenSpoons_0 : decode cX11_givenSpoons 0 = .ok (.iconst 0, 1) := by decide +kernel
theorem dX11_givenSpoons_1 : decode cX11_givenSpoons 1 = .ok (.istore_n 1, 1) := by decide +kernel
theorem dX11_givenSpoons_2 : decode cX11_givenSpoons 2 = .ok (.iconst 0, 1) := by decide +kernel
theorem dX11_givenSpoons_3 : decode cX11_givenSpoons 3 = .ok (.istore_n 2, 1) := by decide +kernel
theorem dX11_givenSpoons_4 : decode cX11_givenSpoons 4 = .ok (.iload_n 2, 1) := by decide +kernel
theorem dX11_givenSpoons_5 : decode cX11_givenSpoons 5 = .ok (.aload_n 0, 1) := by decide +kernel
theorem dX11_givenSpoons_6 : decode cX11_givenSpoons 6 = .ok (.getfield 97, 3) := by decide +kernel
theorem dX11_givenSpoons_9 : decode cX11_givenSpoons 9 = .ok (.if_icmp .ge 36, 3) := by decide +kernel
theorem dX11_givenSpoons_12 : decode cX11_givenSpoons 12 = .ok (.iload_n 1, 1) := by decide +kernel
theorem dX11_givenSpoons_13 : decode cX11_givenSpoons 13 = .ok (.aload_n 0, 1) := by decide +kernel
theorem dX11_givenSpoons_14 : decode cX11_givenSpoons 14 = .ok (.getfield 63, 3) := by decide +kernel
theorem dX11_givenSpoons_17 : decode cX11_givenSpoons 17 = .ok (.iload_n 2, 1) := by decide +kernel
theorem dX11_givenSpoons_18 : decode cX11_givenSpoons 18 = .ok (.iaload, 1) := by decide +kernel
theorem dX11_givenSpoons_19 : decode cX11_givenSpoons 19 = .ok (.ifCond .lt 17, 3) := by decide +kernel
theorem dX11_givenSpoons_22 : decode cX11_givenSpoons 22 = .ok (.aload_n 0, 1) := by decide +kernel
theorem dX11_givenSpoons_23 : decode cX11_givenSpoons 23 = .ok (.iload_n 2, 1) := by decide +kernel
theorem dX11_givenSpoons_24 : decode cX11_givenSpoons 24 = .ok (.aload_n 0, 1) := by decide +kernel
theorem dX11_givenSpoons_25 : decode cX11_givenSpoons 25 = .ok (.getfield 63, 3) := by decide +kernel
theorem dX11_givenSpoons_28 : decode cX11_givenSpoons 28 = .ok (.iload_n 2, 1) := by decide +kernel
theorem dX11_givenSpoons_29 : decode cX11_givenSpoons 29 = .ok (.iaload, 1) := by decide +kernel
theorem dX11_givenSpoons_30 : decode cX11_givenSpoons 30 = .ok (.invokevirtual 257, 3) := by decide +kernel
theorem dX11_givenSpoons_33 : decode cX11_givenSpoons 33 = .ok (.goto 4, 3) := by decide +kernel
theorem dX11_givenSpoons_36 : decode cX11_givenSpoons 36 = .ok (.iconst 0, 1) := by decide +kernel
theorem dX11_givenSpoons_37 : decode cX11_givenSpoons 37 = .ok (.iadd, 1) := by decide +kernel
theorem dX11_givenSpoons_38 : decode cX11_givenSpoons 38 = .ok (.istore_n 1, 1) := by decide +kernel
theorem dX11_givenSpoons_39 : decode cX11_givenSpoons 39 = .ok (.iinc 2 1, 3) := by decide +kernel
theorem dX11_givenSpoons_42 : decode cX11_givenSpoons 42 = .ok (.goto (-38), 3) := by decide +kernel
theorem dX11_givenSpoons_45 : decode cX11_givenSpoons 45 = .ok (.iload_n 1, 1) := by decide +kernel
theorem dX11_givenSpoons_46 : decode cX11_givenSpoons 46 = .ok (.ireturn, 1) := by decide +kernel
set_option maxRecDepth 20000 in
theorem ggX11_lets_X11_isPost : GoodIn wsX11_lets wsX11_isPost := goodIn_r _ [12, 5, 13, 14, 11, 15, 94, 95, 96, 97, 98, 99, 100, 101, 102, 103, 104, 105, 106, 107, 108, 109, 110, 111, 112, 113, 114, 115, 116, 117, 118, 119, 120, 121, 122, 123, 124, 125, 126, 127, 128, 129, 130, 131, 132, 133, 134, 135, 136, 137, 138] (by decide +kernel) (by decide +kernel)
set_option maxRecDepth 20000 in
theorem gX11_lets_X11_isPost : GoodIn wsX11_lets (wsV RX11 220 RX11 yX11_isPost wsX11_isPost) := goodIn_app (goodIn_of _ (by decide +kernel)) ggX11_lets_X11_isPost
set_option maxRecDepth 20000 in
theorem ggX11_lets_X11_in : GoodIn wsX11_lets wsX11_in := goodIn_r _ [15] (by decide +kernel) (by decide +kernel)
set_option maxRecDepth 20000 in
theorem gX11_lets_X11_in : GoodIn wsX11_lets (va_wsS RX11 93 yX11_in wsX11_in) := goodIn_app (goodIn_of _ (by decide +kernel)) ggX11_lets_X11_in
set_option maxRecDepth 20000 in
theorem ggX11_lets_X11_findOpens : GoodIn wsX11_lets wsX11_findOpens := goodIn_r _ [19, 5, 20, 4, 21, 22, 23, 24, 11, 25, 26, 27, 28, 29, 30, 31, 32, 33, 34, 35, 36, 37, 38, 39, 40, 41, 42, 43, 44, 45, 46, 47, 48, 49, 50, 51, 52, 53, 54, 55, 56, 57, 58, 59, 60, 61, 62, 63, 64, 65, 66, 67, 68, 69, 70, 94, 95, 96, 97, 98, 99, 100, 101, 102, 103, 104, 105, 106, 107, 108, 109, 110, 111, 112, 113, 114, 115, 116, 117, 118, 119, 120, 121, 122, 123, 124, 125, 126, 127, 128, 129, 130, 131, 132, 133, 134, 135, 136, 137, 138] (by decide +kernel) (by decide +kernel)
set_option maxRecDepth 20000 in
theorem gX11_lets_X11_findOpens : GoodIn wsX11_lets (wsV RX11 291 RX11 yX11_findOpens wsX11_findOpens) := goodIn_app (goodIn_of _ (by decide +kernel)) ggX11_lets_X11_findOpens
set_option maxRecDepth 20000 in
theorem ggX11_lets_X11_waysToLet : GoodIn wsX11_lets wsX11_waysToLet := goodIn_r _ [74, 5, 94, 95, 96, 97, 98, 99, 100, 101, 102, 103, 104, 105, 106, 107, 108, 109, 110, 111, 112, 113, 114, 115, 116, 117, 118, 119, 120, 121, 122, 123, 124, 125, 126, 127, 128, 129, 130, 131, 132, 133, 134, 135, 136, 137, 138] (by decide +kernel) (by decide +kernel)
set_option maxRecDepth 20000 in
theorem gX11_lets_X11_waysToLet : GoodIn wsX11_lets (wsV RX11 294 RX11 yX11_waysToLet wsX11_waysToLet) := goodIn_app (goodIn_of _ (by decide +kernel)) ggX11_lets_X11_waysToLet
set_option maxRecDepth 20000 in
theorem ggX11_lets_X11_takeGiven : GoodIn wsX11_lets wsX11_takeGiven := goodIn_r _ [78, 5, 7, 79, 27, 28, 11, 29, 94, 95, 96, 97, 98, 99, 100, 101, 102, 103, 104, 105, 106, 107, 108, 109, 110, 111, 112, 113, 114, 115, 116, 117, 118, 119, 120, 121, 122, 123, 124, 125, 126, 127, 128, 129, 130, 131, 132, 133, 134, 135, 136, 137, 138] (by decide +kernel) (by decide +kernel)
set_option maxRecDepth 20000 in
theorem gX11_lets_X11_takeGiven : GoodIn wsX11_lets (wsV RX11 297 RX11 yX11_takeGiven wsX11_takeGiven) := goodIn_app (goodIn_of _ (by decide +kernel)) ggX11_lets_X11_takeGiven
set_option maxRecDepth 20000 in
theorem ggX11_lets_X11_givenSet : GoodIn wsX11_lets wsX11_givenSet := goodIn_r _ [83, 5, 7, 94, 95, 96, 97, 98, 99, 100, 101, 102, 103, 104, 105, 106, 107, 108, 109, 110, 111, 112, 113, 114, 115, 116, 117, 118, 119, 120, 121, 122, 123, 124, 125, 126, 127, 128, 129, 130, 131, 132, 133, 134, 135, 136, 137, 138] (by decide +kernel) (by decide +kernel)
set_option maxRecDepth 20000 in
theorem gX11_lets_X11_givenSet : GoodIn wsX11_lets (wsV RX11 300 RX11 yX11_givenSet wsX11_givenSet) := goodIn_app (goodIn_of _ (by decide +kernel)) ggX11_lets_X11_givenSet
set_option maxRecDepth 20000 in
theorem ggX11_lets_X11_givenSpoons : GoodIn wsX11_lets wsX11_givenSpoons := goodIn_r _ [87, 5, 7, 88, 89, 90, 11, 91, 20, 92, 93, 94, 95, 96, 97, 98, 99, 100, 101, 102, 103, 104, 105, 106, 107, 108, 109, 110, 111, 112, 113, 114, 115, 116, 117, 118, 119, 120, 121, 122, 123, 124, 125, 126, 127, 128, 129, 130, 131, 132, 133, 134, 135, 136, 137, 138] (by decide +kernel) (by decide +kernel)
set_option maxRecDepth 20000 in
theorem gX11_lets_X11_givenSpoons : GoodIn wsX11_lets (wsV RX11 303 RX11 yX11_givenSpoons wsX11_givenSpoons) := goodIn_app (goodIn_of _ (by decide +kernel)) ggX11_lets_X11_givenSpoons
theorem dX11_lets_0 : decode cX11_lets 0 = .ok (.iload_n 2, 1) := by decide +kernel
theorem dX11_lets_1 : decode cX11_lets 1 = .ok (.iconst (-1), 1) := by decide +kernel
theorem dX11_lets_2 : decode cX11_lets 2 = .ok (.if_icmp .eq 14, 3) := by decide +kernel
theorem dX11_lets_5 : decode cX11_lets 5 = .ok (.aload_n 0, 1) := by decide +kernel
theorem dX11_lets_6 : decode cX11_lets 6 = .ok (.iload_n 2, 1) := by decide +kernel
theorem dX11_lets_7 : decode cX11_lets 7 = .ok (.invokevirtual 220, 3) := by decide +kernel
theorem dX11_lets_10 : decode cX11_lets 10 = .ok (.ifCond .ne 6, 3) := by decide +kernel
theorem dX11_lets_13 : decode cX11_lets 13 = .ok (.ldc 219, 2) := by decide +kernel
theorem dX11_lets_15 : decode cX11_lets 15 = .ok (.ireturn, 1) := by decide +kernel
theorem dX11_lets_16 : decode cX11_lets 16 = .ok (.iload_n 1, 1) := by decide +kernel
theorem dX11_lets_17 : decode cX11_lets 17 = .ok (.i2l, 1) := by decide +kernel
theorem dX11_lets_18 : decode cX11_lets 18 = .ok (.lconst 1, 1) := by decide +kernel
theorem dX11_lets_19 : decode cX11_lets 19 = .ok (.ldc2_w 279, 3) := by decide +kernel
theorem dX11_lets_22 : decode cX11_lets 22 = .ok (.invokestatic 93, 3) := by decide +kernel
theorem dX11_lets_25 : decode cX11_lets 25 = .ok (.ifCond .ne 6, 3) := by decide +kernel
theorem dX11_lets_28 : decode cX11_lets 28 = .ok (.ldc 105, 2) := by decide +kernel
theorem dX11_lets_30 : decode cX11_lets 30 = .ok (.ireturn, 1) := by decide +kernel
theorem dX11_lets_31 : decode cX11_lets 31 = .ok (.aload_n 0, 1) := by decide +kernel
theorem dX11_lets_32 : decode cX11_lets 32 = .ok (.iload_n 1, 1) := by decide +kernel
theorem dX11_lets_33 : decode cX11_lets 33 = .ok (.invokevirtual 291, 3) := by decide +kernel
theorem dX11_lets_36 : decode cX11_lets 36 = .ok (.iconst (-1), 1) := by decide +kernel
theorem dX11_lets_37 : decode cX11_lets 37 = .ok (.istore_n 3, 1) := by decide +kernel
theorem dX11_lets_38 : decode cX11_lets 38 = .ok (.iconst 0, 1) := by decide +kernel
theorem dX11_lets_39 : decode cX11_lets 39 = .ok (.istore 4, 2) := by decide +kernel
