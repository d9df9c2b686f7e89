theorem dX11_lets_41 : decode cX11_lets 41 = .ok (.iload 4, 2) := by decide +kernel
theorem dX11_lets_43 : decode cX11_lets 43 = .ok (.aload_n 0, 1) := by decide +kernel
theorem dX11_lets_44 : decode cX11_lets 44 = .ok (.invokevirtual 294, 3) := by decide +kernel
theorem dX11_lets_47 : decode cX11_lets 47 = .ok (.if_icmp .ge 75, 3) := by decide +kernel
theorem dX11_lets_50 : decode cX11_lets 50 = .ok (.aload_n 0, 1) := by decide +kernel
theorem dX11_lets_51 : decode cX11_lets 51 = .ok (.iload 4, 2) := by decide +kernel
theorem dX11_lets_53 : decode cX11_lets 53 = .ok (.invokevirtual 297, 3) := by decide +kernel
theorem dX11_lets_56 : decode cX11_lets 56 = .ok (.ifCond .eq 60, 3) := by decide +kernel
theorem dX11_lets_59 : decode cX11_lets 59 = .ok (.aload_n 0, 1) := by decide +kernel
theorem dX11_lets_60 : decode cX11_lets 60 = .ok (.getfield 59, 3) := by decide +kernel
theorem dX11_lets_63 : decode cX11_lets 63 = .ok (.aload_n 0, 1) := by decide +kernel
theorem dX11_lets_64 : decode cX11_lets 64 = .ok (.invokevirtual 300, 3) := by decide +kernel
theorem dX11_lets_67 : decode cX11_lets 67 = .ok (.baload, 1) := by decide +kernel
theorem dX11_lets_68 : decode cX11_lets 68 = .ok (.ifCond .eq 48, 3) := by decide +kernel
theorem dX11_lets_71 : decode cX11_lets 71 = .ok (.aload_n 0, 1) := by decide +kernel
theorem dX11_lets_72 : decode cX11_lets 72 = .ok (.invokevirtual 303, 3) := by decide +kernel
theorem dX11_lets_75 : decode cX11_lets 75 = .ok (.iload_n 3, 1) := by decide +kernel
theorem dX11_lets_76 : decode cX11_lets 76 = .ok (.if_icmp .le 40, 3) := by decide +kernel
theorem dX11_lets_79 : decode cX11_lets 79 = .ok (.aload_n 0, 1) := by decide +kernel
theorem dX11_lets_80 : decode cX11_lets 80 = .ok (.invokevirtual 303, 3) := by decide +kernel
theorem dX11_lets_83 : decode cX11_lets 83 = .ok (.istore_n 3, 1) := by decide +kernel
theorem dX11_lets_84 : decode cX11_lets 84 = .ok (.iconst 0, 1) := by decide +kernel
theorem dX11_lets_85 : decode cX11_lets 85 = .ok (.istore 5, 2) := by decide +kernel
theorem dX11_lets_87 : decode cX11_lets 87 = .ok (.iload 5, 2) := by decide +kernel
theorem dX11_lets_89 : decode cX11_lets 89 = .ok (.aload_n 0, 1) := by decide +kernel
theorem dX11_lets_90 : decode cX11_lets 90 = .ok (.getfield 97, 3) := by decide +kernel
theorem dX11_lets_93 : decode cX11_lets 93 = .ok (.if_icmp .ge 23, 3) := by decide +kernel
theorem dX11_lets_96 : decode cX11_lets 96 = .ok (.aload_n 0, 1) := by decide +kernel
theorem dX11_lets_97 : decode cX11_lets 97 = .ok (.getfield 66, 3) := by decide +kernel
theorem dX11_lets_100 : decode cX11_lets 100 = .ok (.iload 5, 2) := by decide +kernel
theorem dX11_lets_102 : decode cX11_lets 102 = .ok (.aload_n 0, 1) := by decide +kernel
theorem dX11_lets_103 : decode cX11_lets 103 = .ok (.getfield 63, 3) := by decide +kernel
theorem dX11_lets_106 : decode cX11_lets 106 = .ok (.iload 5, 2) := by decide +kernel
theorem dX11_lets_108 : decode cX11_lets 108 = .ok (.iaload, 1) := by decide +kernel
theorem dX11_lets_109 : decode cX11_lets 109 = .ok (.iastore, 1) := by decide +kernel
theorem dX11_lets_110 : decode cX11_lets 110 = .ok (.iinc 5 1, 3) := by decide +kernel
theorem dX11_lets_113 : decode cX11_lets 113 = .ok (.goto (-26), 3) := by decide +kernel
theorem dX11_lets_116 : decode cX11_lets 116 = .ok (.iinc 4 1, 3) := by decide +kernel
theorem dX11_lets_119 : decode cX11_lets 119 = .ok (.goto (-78), 3) := by decide +kernel
theorem dX11_lets_122 : decode cX11_lets 122 = .ok (.iload_n 3, 1) := by decide +kernel
theorem dX11_lets_123 : decode cX11_lets 123 = .ok (.ifCond .lt 8, 3) := by decide +kernel
theorem dX11_lets_126 : decode cX11_lets 126 = .ok (.iload_n 2, 1) := by decide +kernel
theorem dX11_lets_127 : decode cX11_lets 127 = .ok (.iconst (-1), 1) := by decide +kernel
theorem dX11_lets_128 : decode cX11_lets 128 = .ok (.if_icmp .ne 7, 3) := by decide +kernel
theorem dX11_lets_131 : decode cX11_lets 131 = .ok (.iload_n 3, 1) := by decide +kernel
theorem dX11_lets_132 : decode cX11_lets 132 = .ok (.goto 9, 3) := by decide +kernel
theorem dX11_lets_135 : decode cX11_lets 135 = .ok (.aload_n 0, 1) := by decide +kernel
theorem dX11_lets_136 : decode cX11_lets 136 = .ok (.getfield 66, 3) := by decide +kernel
theorem dX11_lets_139 : decode cX11_lets 139 = .ok (.iload_n 2, 1) := by decide +kernel
theorem dX11_lets_140 : decode cX11_lets 140 = .ok (.iaload, 1) := by decide +kernel
theorem dX11_lets_141 : decode cX11_lets 141 = .ok (.ireturn, 1) := by decide +kernel
set_option maxRecDepth 20000 in
theorem ggX11_fewest_X11_in : GoodIn wsX11_fewest wsX11_in := goodIn_r _ [8] (by decide +kernel) (by decide +kernel)
set_option maxRecDepth 20000 in
theorem gX11_fewest_X11_in : GoodIn wsX11_fewest (va_wsS RX11 93 yX11_in wsX11_in) := goodIn_app (goodIn_of _ (by decide +kernel)) ggX11_fewest_X11_in
set_option maxRecDepth 20000 in
theorem ggX11_fewest_X11_findOpens : GoodIn wsX11_fewest wsX11_findOpens := goodIn_r _ [12, 3, 13, 4, 14, 15, 16, 17, 7, 18, 19, 20, 21, 22, 23, 24, 25, 26, 27, 28, 29, 30, 31, 32, 33, 34, 35, 36, 37, 38, 39, 40, 41, 42, 43, 44, 45, 46, 47, 48, 49, 50, 51, 52, 53, 54, 55, 56, 57, 58, 59, 60, 61, 62, 63, 67, 68, 69, 70, 71, 72, 73, 74, 75, 76, 77, 78, 79, 80, 81, 82, 83, 84, 85, 86, 87, 88, 89, 90, 91, 92, 93, 94, 95, 96, 97, 98, 99, 100, 101, 102, 103, 104, 105, 106, 107, 108, 109, 110, 111] (by decide +kernel) (by decide +kernel)
set_option maxRecDepth 20000 in
theorem gX11_fewest_X11_findOpens : GoodIn wsX11_fewest (wsV RX11 291 RX11 yX11_findOpens wsX11_findOpens) := goodIn_app (goodIn_of _ (by decide +kernel)) ggX11_fewest_X11_findOpens
set_option maxRecDepth 20000 in
theorem ggX11_fewest_X11_bits : GoodIn wsX11_fewest wsX11_bits := goodIn_r _ [66] (by decide +kernel) (by decide +kernel)
set_option maxRecDepth 20000 in
theorem gX11_fewest_X11_bits : GoodIn wsX11_fewest (va_wsS RX11 306 yX11_bits wsX11_bits) := goodIn_app (goodIn_of _ (by decide +kernel)) ggX11_fewest_X11_bits
theorem dX11_fewest_0 : decode cX11_fewest 0 = .ok (.iload_n 1, 1) := by decide +kernel
theorem dX11_fewest_1 : decode cX11_fewest 1 = .ok (.i2l, 1) := by decide +kernel
theorem dX11_fewest_2 : decode cX11_fewest 2 = .ok (.lconst 1, 1) := by decide +kernel
theorem dX11_fewest_3 : decode cX11_fewest 3 = .ok (.ldc2_w 279, 3) := by decide +kernel
theorem dX11_fewest_6 : decode cX11_fewest 6 = .ok (.invokestatic 93, 3) := by decide +kernel
theorem dX11_fewest_9 : decode cX11_fewest 9 = .ok (.ifCond .ne 6, 3) := by decide +kernel
theorem dX11_fewest_12 : decode cX11_fewest 12 = .ok (.ldc 105, 2) := by decide +kernel
theorem dX11_fewest_14 : decode cX11_fewest 14 = .ok (.ireturn, 1) := by decide +kernel
theorem dX11_fewest_15 : decode cX11_fewest 15 = .ok (.aload_n 0, 1) := by decide +kernel
theorem dX11_fewest_16 : decode cX11_fewest 16 = .ok (.iload_n 1, 1) := by decide +kernel
theorem dX11_fewest_17 : decode cX11_fewest 17 = .ok (.invokevirtual 291, 3) := by decide +kernel
theorem dX11_fewest_20 : decode cX11_fewest 20 = .ok (.iconst (-1), 1) := by decide +kernel
theorem dX11_fewest_21 : decode cX11_fewest 21 = .ok (.istore_n 2, 1) := by decide +kernel
theorem dX11_fewest_22 : decode cX11_fewest 22 = .ok (.iconst 0, 1) := by decide +kernel
theorem dX11_fewest_23 : decode cX11_fewest 23 = .ok (.istore_n 3, 1) := by decide +kernel
theorem dX11_fewest_24 : decode cX11_fewest 24 = .ok (.iload_n 3, 1) := by decide +kernel
theorem dX11_fewest_25 : decode cX11_fewest 25 = .ok (.iconst 1, 1) := by decide +kernel
theorem dX11_fewest_26 : decode cX11_fewest 26 = .ok (.aload_n 0, 1) := by decide +kernel
theorem dX11_fewest_27 : decode cX11_fewest 27 = .ok (.getfield 97, 3) := by decide +kernel
theorem dX11_fewest_30 : decode cX11_fewest 30 = .ok (.ishl, 1) := by decide +kernel
theorem dX11_fewest_31 : decode cX11_fewest 31 = .ok (.if_icmp .ge 51, 3) := by decide +kernel
theorem dX11_fewest_34 : decode cX11_fewest 34 = .ok (.iload_n 2, 1) := by decide +kernel
theorem dX11_fewest_35 : decode cX11_fewest 35 = .ok (.ifCond .lt 14, 3) := by decide +kernel
theorem dX11_fewest_38 : decode cX11_fewest 38 = .ok (.iload_n 3, 1) := by decide +kernel
theorem dX11_fewest_39 : decode cX11_fewest 39 = .ok (.invokestatic 306, 3) := by decide +kernel
theorem dX11_fewest_42 : decode cX11_fewest 42 = .ok (.iload_n 2, 1) := by decide +kernel
theorem dX11_fewest_43 : decode cX11_fewest 43 = .ok (.invokestatic 306, 3) := by decide +kernel
theorem dX11_fewest_46 : decode cX11_fewest 46 = .ok (.if_icmp .ge 7, 3) := by decide +kernel
theorem dX11_fewest_49 : decode cX11_fewest 49 = .ok (.iconst 1, 1) := by decide +kernel
theorem dX11_fewest_50 : decode cX11_fewest 50 = .ok (.goto 4, 3) := by decide +kernel
theorem dX11_fewest_53 : decode cX11_fewest 53 = .ok (.iconst 0, 1) := by decide +kernel
theorem dX11_fewest_54 : decode cX11_fewest 54 = .ok (.istore 4, 2) := by decide +kernel
theorem dX11_fewest_56 : decode cX11_fewest 56 = .ok (.iload 4, 2) := by decide +kernel
theorem dX11_fewest_58 : decode cX11_fewest 58 = .ok (.ifCond .eq 16, 3) := by decide +kernel
theorem dX11_fewest_61 : decode cX11_fewest 61 = .ok (.aload_n 0, 1) := by decide +kernel
theorem dX11_fewest_62 : decode cX11_fewest 62 = .ok (.getfield 59, 3) := by decide +kernel
theorem dX11_fewest_65 : decode cX11_fewest 65 = .ok (.iload_n 3, 1) := by decide +kernel
theorem dX11_fewest_66 : decode cX11_fewest 66 = .ok (.baload, 1) := by decide +kernel
theorem dX11_fewest_67 : decode cX11_fewest 67 = .ok (.ifCond .eq 7, 3) := by decide +kernel
theorem dX11_fewest_70 : decode cX11_fewest 70 = .ok (.iload_n 3, 1) := by decide +kernel
theorem dX11_fewest_71 : decode cX11_fewest 71 = .ok (.goto 4, 3) := by decide +kernel
theorem dX11_fewest_74 : decode cX11_fewest 74 = .ok (.iload_n 2, 1) := by decide +kernel
theorem dX11_fewest_75 : decode cX11_fewest 75 = .ok (.istore_n 2, 1) := by decide +kernel
theorem dX11_fewest_76 : decode cX11_fewest 76 = .ok (.iinc 3 1, 3) := by decide +kernel
theorem dX11_fewest_79 : decode cX11_fewest 79 = .ok (.goto (-55), 3) := by decide +kernel
theorem dX11_fewest_82 : decode cX11_fewest 82 = .ok (.iload_n 2, 1) := by decide +kernel
theorem dX11_fewest_83 : decode cX11_fewest 83 = .ok (.ireturn, 1) := by decide +kernel
set_option maxRecDepth 20000 in
theorem ggX11_yard_X11_isPost : GoodIn wsX11_yard wsX11_isPost := goodIn_r _ [9, 10, 11, 12, 8, 13, 70, 71, 72, 73, 74, 75, 76, 77, 78, 79, 80, 81, 82, 83, 84, 85, 86, 87, 88, 89, 90, 91, 92, 93, 94, 95, 96, 97, 98, 99, 100, 101, 102, 103, 104, 105, 106, 107, 108, 109, 110, 111, 112, 113, 114] (by decide +kernel) (by decide +kernel)
set_option maxRecDepth 20000 in
theorem gX11_yard_X11_isPost : GoodIn wsX11_yard (wsV RX11 220 RX11 yX11_isPost wsX11_isPost) := goodIn_app (goodIn_of _ (by decide +kernel)) ggX11_yard_X11_isPost
set_option maxRecDepth 20000 in
theorem ggX11_yard_X11_isCell : GoodIn wsX11_yard wsX11_isCell := goodIn_r _ [17, 18, 11, 12, 8, 13, 70, 71, 72, 73, 74, 75, 76, 77, 78, 79, 80, 81, 82, 83, 84, 85, 86, 87, 88, 89, 90, 91, 92, 93, 94, 95, 96, 97, 98, 99, 100, 101, 102, 103, 104, 105, 106, 107, 108, 109, 110, 111, 112, 113, 114] (by decide +kernel) (by decide +kernel)
set_option maxRecDepth 20000 in
theorem gX11_yard_X11_isCell : GoodIn wsX11_yard (wsV RX11 216 RX11 yX11_isCell wsX11_isCell) := goodIn_app (goodIn_of _ (by decide +kernel)) ggX11_yard_X11_isCell
set_option maxRecDepth 20000 in
theorem ggX11_yard_X11_in : GoodIn wsX11_yard wsX11_in := goodIn_r _ [13] (by decide +kernel) (by decide +kernel)
set_option maxRecDepth 20000 in
theorem gX11_yard_X11_in : GoodIn wsX11_yard (va_wsS RX11 93 yX11_in wsX11_in) := goodIn_app (goodIn_of _ (by decide +kernel)) ggX11_yard_X11_in
set_option maxRecDepth 20000 in
theorem ggX11_yard_X11_mayMove : GoodIn wsX11_yard wsX11_mayMove := goodIn_r _ [22, 10, 4, 14, 15, 16, 8, 17, 18, 11, 12, 13, 70, 71, 72, 73, 74, 75, 76, 77, 78, 79, 80, 81, 82, 83, 84, 85, 86, 87, 88, 89, 90, 91, 92, 93, 94, 95, 96, 97, 98, 99, 100, 101, 102, 103, 104, 105, 106, 107, 108, 109, 110, 111, 112, 113, 114] (by decide +kernel) (by decide +kernel)
set_option maxRecDepth 20000 in
theorem gX11_yard_X11_mayMove : GoodIn wsX11_yard (wsV RX11 261 RX11 yX11_mayMove wsX11_mayMove) := goodIn_app (goodIn_of _ (by decide +kernel)) ggX11_yard_X11_mayMove
set_option maxRecDepth 20000 in
theorem ggX11_yard_X11_lies : GoodIn wsX11_yard wsX11_lies := goodIn_r _ [26, 1, 2, 3, 4, 14, 15, 16, 8, 17, 18, 11, 12, 13, 27, 28, 29, 30, 31, 32, 33, 34, 35, 36, 37, 38, 39, 40, 41, 42, 43, 44, 45, 46, 10, 47, 48, 49, 50, 51, 52, 53, 54, 55, 56, 57, 58, 59, 60, 61, 62, 63, 64, 65, 66, 67, 68, 69, 70, 71, 72, 73, 74, 75, 76, 77, 78, 79, 80, 81, 82, 83, 84, 85, 86, 87, 88, 89, 90, 91, 92, 93, 94, 95, 96, 97, 98, 99, 100, 101, 102, 103, 104, 105, 106, 107, 108, 109, 110, 111, 112, 113, 114] (by decide +kernel) (by decide +kernel)
set_option maxRecDepth 20000 in
theorem gX11_yard_X11_lies : GoodIn wsX11_yard (wsV RX11 309 RX11 yX11_lies wsX11_lies) := goodIn_app (goodIn_of _ (by decide +kernel)) ggX11_yard_X11_lies
set_option maxRecDepth 20000 in
theorem ggX11_yard_X11_save : GoodIn wsX11_yard wsX11_save := goodIn_r _ [30, 31, 4, 70, 71, 72, 73, 74, 75, 76, 77, 78, 79, 80, 81, 82, 83, 84, 85, 86, 87, 88, 89, 90, 91, 92, 93, 94, 95, 96, 97, 98, 99, 100, 101, 102, 103, 104, 105, 106, 107, 108, 109, 110, 111, 112, 113, 114] (by decide +kernel) (by decide +kernel)
set_option maxRecDepth 20000 in
theorem gX11_yard_X11_save : GoodIn wsX11_yard (wsV RX11 281 RX11 yX11_save wsX11_save) := goodIn_app (goodIn_of _ (by decide +kernel)) ggX11_yard_X11_save
set_option maxRecDepth 20000 in
theorem ggX11_yard_X11_passAll : GoodIn wsX11_yard wsX11_passAll := goodIn_r _ [35, 36, 37, 38, 8, 39, 40, 4, 41, 42, 43, 44, 45, 46, 10, 47, 18, 48, 49, 50, 51, 52, 53, 54, 55, 56, 57, 58, 59, 60, 61, 62, 63, 64, 65, 70, 71, 72, 73, 74, 75, 76, 77, 78, 79, 80, 81, 82, 83, 84, 85, 86, 87, 88, 89, 90, 91, 92, 93, 94, 95, 96, 97, 98, 99, 100, 101, 102, 103, 104, 105, 106, 107, 108, 109, 110, 111, 112, 113, 114] (by decide +kernel) (by decide +kernel)
set_option maxRecDepth 20000 in
theorem gX11_yard_X11_passAll : GoodIn wsX11_yard (wsV RX11 284 RX11 yX11_passAll wsX11_passAll) := goodIn_app (goodIn_of _ (by decide +kernel)) ggX11_yard_X11_passAll
set_option maxRecDepth 20000 in
theorem ggX11_yard_X11_putBack : GoodIn wsX11_yard wsX11_putBack := goodIn_r _ [69, 4, 31, 70, 71, 72, 73, 74, 75, 76, 77, 78, 79, 80, 81, 82, 83, 84, 85, 86, 87, 88, 89, 90, 91, 92, 93, 94, 95, 96, 97, 98, 99, 100, 101, 102, 103, 104, 105, 106, 107, 108, 109, 110, 111, 112, 113, 114] (by decide +kernel) (by decide +kernel)
set_option maxRecDepth 20000 in
theorem gX11_yard_X11_putBack : GoodIn wsX11_yard (wsV RX11 288 RX11 yX11_putBack wsX11_putBack) := goodIn_app (goodIn_of _ (by decide +kernel)) ggX11_yard_X11_putBack
theorem dX11_yard_0 : decode cX11_yard 0 = .ok (.aload_n 0, 1) := by decide +kernel
theorem dX11_yard_1 : decode cX11_yard 1 = .ok (.iload_n 1, 1) := by decide +kernel
theorem dX11_yard_2 : decode cX11_yard 2 = .ok (.invokevirtual 220, 3) := by decide +kernel
theorem dX11_yard_5 : decode cX11_yard 5 = .ok (.ifCond .eq 11, 3) := by decide +kernel
theorem dX11_yard_8 : decode cX11_yard 8 = .ok (.aload_n 0, 1) := by decide +kernel
theorem dX11_yard_9 : decode cX11_yard 9 = .ok (.iload_n 2, 1) := by decide +kernel
theorem dX11_yard_10 : decode cX11_yard 10 = .ok (.invokevirtual 216, 3) := by decide +kernel
theorem dX11_yard_13 : decode cX11_yard 13 = .ok (.ifCond .ne 6, 3) := by decide +kernel
theorem dX11_yard_16 : decode cX11_yard 16 = .ok (.ldc 219, 2) := by decide +kernel
theorem dX11_yard_18 : decode cX11_yard 18 = .ok (.ireturn, 1) := by decide +kernel
theorem dX11_yard_19 : decode cX11_yard 19 = .ok (.iload_n 3, 1) := by decide +kernel
theorem dX11_yard_20 : decode cX11_yard 20 = .ok (.i2l, 1) := by decide +kernel
theorem dX11_yard_21 : decode cX11_yard 21 = .ok (.lconst 0, 1) := by decide +kernel
theorem dX11_yard_22 : decode cX11_yard 22 = .ok (.ldc2_w 279, 3) := by decide +kernel
theorem dX11_yard_25 : decode cX11_yard 25 = .ok (.invokestatic 93, 3) := by decide +kernel
theorem dX11_yard_28 : decode cX11_yard 28 = .ok (.ifCond .ne 6, 3) := by decide +kernel
theorem dX11_yard_31 : decode cX11_yard 31 = .ok (.ldc 105, 2) := by decide +kernel
theorem dX11_yard_33 : decode cX11_yard 33 = .ok (.ireturn, 1) := by decide +kernel
theorem dX11_yard_34 : decode cX11_yard 34 = .ok (.aload_n 0, 1) := by decide +kernel
theorem dX11_yard_35 : decode cX11_yard 35 = .ok (.getfield 22, 3) := by decide +kernel
theorem dX11_yard_38 : decode cX11_yard 38 = .ok (.bipush 12, 2) := by decide +kernel
theorem dX11_yard_40 : decode cX11_yard 40 = .ok (.iload_n 1, 1) := by decide +kernel
theorem dX11_yard_41 : decode cX11_yard 41 = .ok (.iadd, 1) := by decide +kernel
theorem dX11_yard_42 : decode cX11_yard 42 = .ok (.iaload, 1) := by decide +kernel
theorem dX11_yard_43 : decode cX11_yard 43 = .ok (.iconst 1, 1) := by decide +kernel
theorem dX11_yard_44 : decode cX11_yard 44 = .ok (.iadd, 1) := by decide +kernel
theorem dX11_yard_45 : decode cX11_yard 45 = .ok (.istore 4, 2) := by decide +kernel
theorem dX11_yard_47 : decode cX11_yard 47 = .ok (.aload_n 0, 1) := by decide +kernel
theorem dX11_yard_48 : decode cX11_yard 48 = .ok (.iload_n 1, 1) := by decide +kernel
theorem dX11_yard_49 : decode cX11_yard 49 = .ok (.iload 4, 2) := by decide +kernel
theorem dX11_yard_51 : decode cX11_yard 51 = .ok (.invokevirtual 261, 3) := by decide +kernel
theorem dX11_yard_54 : decode cX11_yard 54 = .ok (.ifCond .ne 5, 3) := by decide +kernel
theorem dX11_yard_57 : decode cX11_yard 57 = .ok (.iconst (-1), 1) := by decide +kernel
theorem dX11_yard_58 : decode cX11_yard 58 = .ok (.ireturn, 1) := by decide +kernel
theorem dX11_yard_59 : decode cX11_yard 59 = .ok (.aload_n 0, 1) := by decide +kernel
theorem dX11_yard_60 : decode cX11_yard 60 = .ok (.iload_n 2, 1) := by decide +kernel
theorem dX11_yard_61 : decode cX11_yard 61 = .ok (.iload_n 3, 1) := by decide +kernel
theorem dX11_yard_62 : decode cX11_yard 62 = .ok (.invokevirtual 309, 3) := by decide +kernel
theorem dX11_yard_65 : decode cX11_yard 65 = .ok (.istore 5, 2) := by decide +kernel
theorem dX11_yard_67 : decode cX11_yard 67 = .ok (.aload_n 0, 1) := by decide +kernel
theorem dX11_yard_68 : decode cX11_yard 68 = .ok (.invokevirtual 281, 3) := by decide +kernel
theorem dX11_yard_71 : decode cX11_yard 71 = .ok (.aload_n 0, 1) := by decide +kernel
theorem dX11_yard_72 : decode cX11_yard 72 = .ok (.getfield 22, 3) := by decide +kernel
theorem dX11_yard_75 : decode cX11_yard 75 = .ok (.bipush 12, 2) := by decide +kernel
theorem dX11_yard_77 : decode cX11_yard 77 = .ok (.iload_n 1, 1) := by decide +kernel
theorem dX11_yard_78 : decode cX11_yard 78 = .ok (.iadd, 1) := by decide +kernel
theorem dX11_yard_79 : decode cX11_yard 79 = .ok (.iload 4, 2) := by decide +kernel
theorem dX11_yard_81 : decode cX11_yard 81 = .ok (.iastore, 1) := by decide +kernel
theorem dX11_yard_82 : decode cX11_yard 82 = .ok (.aload_n 0, 1) := by decide +kernel
theorem dX11_yard_83 : decode cX11_yard 83 = .ok (.iload_n 3, 1) := by decide +kernel
theorem dX11_yard_84 : decode cX11_yard 84 = .ok (.invokevirtual 284, 3) := by decide +kernel
theorem dX11_yard_87 : decode cX11_yard 87 = .ok (.aload_n 0, 1) := by decide +kernel
theorem dX11_yard_88 : decode cX11_yard 88 = .ok (.getfield 22, 3) := by decide +kernel
theorem dX11_yard_91 : decode cX11_yard 91 = .ok (.iload_n 2, 1) := by decide +kernel
theorem dX11_yard_92 : decode cX11_yard 92 = .ok (.iaload, 1) := by decide +kernel
theorem dX11_yard_93 : decode cX11_yard 93 = .ok (.istore 6, 2) := by decide +kernel
theorem dX11_yard_95 : decode cX11_yard 95 = .ok (.aload_n 0, 1) := by decide +kernel
theorem dX11_yard_96 : decode cX11_yard 96 = .ok (.invokevirtual 288, 3) := by decide +kernel
theorem dX11_yard_99 : decode cX11_yard 99 = .ok (.iload 6, 2) := by decide +kernel
theorem dX11_yard_101 : decode cX11_yard 101 = .ok (.iload 5, 2) := by decide +kernel
theorem dX11_yard_103 : decode cX11_yard 103 = .ok (.isub, 1) := by decide +kernel
theorem dX11_yard_104 : decode cX11_yard 104 = .ok (.sipush 10000, 3) := by decide +kernel
theorem dX11_yard_107 : decode cX11_yard 107 = .ok (.iadd, 1) := by decide +kernel
theorem dX11_yard_108 : decode cX11_yard 108 = .ok (.ireturn, 1) := by decide +kernel
set_option maxRecDepth 20000 in
theorem ggX11_out_X11_isCell : GoodIn wsX11_out wsX11_isCell := goodIn_r _ [9, 10, 11, 12, 8, 13, 14, 15, 16, 17, 18, 19, 20, 21, 22, 23, 24, 25, 26, 27, 28, 29, 30, 31, 32, 33, 34, 35, 36, 37, 38, 39, 40, 41, 42, 43, 44, 45, 46, 47, 48, 49, 50, 51, 52, 53, 54, 55, 56, 57, 58] (by decide +kernel) (by decide +kernel)
set_option maxRecDepth 20000 in
theorem gX11_out_X11_isCell : GoodIn wsX11_out (wsV RX11 216 RX11 yX11_isCell wsX11_isCell) := goodIn_app (goodIn_of _ (by decide +kernel)) ggX11_out_X11_isCell
set_option maxRecDepth 20000 in
theorem ggX11_out_X11_in : GoodIn wsX11_out wsX11_in := goodIn_r _ [13] (by decide +kernel) (by decide +kernel)
set_option maxRecDepth 20000 in
theorem gX11_out_X11_in : GoodIn wsX11_out (va_wsS RX11 93 yX11_in wsX11_in) := goodIn_app (goodIn_of _ (by decide +kernel)) ggX11_out_X11_in
theorem dX11_out_0 : decode cX11_out 0 = .ok (.aload_n 0, 1) := by decide +kernel
theorem dX11_out_1 : decode cX11_out 1 = .ok (.iload_n 1, 1) := by decide +kernel
theorem dX11_out_2 : decode cX11_out 2 = .ok (.invokevirtual 216, 3) := by decide +kernel
theorem dX11_out_5 : decode cX11_out 5 = .ok (.ifCond .ne 6, 3) := by decide +kernel
theorem dX11_out_8 : decode cX11_out 8 = .ok (.ldc 219, 2) := by decide +kernel
theorem dX11_out_10 : decode cX11_out 10 = .ok (.ireturn, 1) := by decide +kernel
theorem dX11_out_11 : decode cX11_out 11 = .ok (.iload_n 2, 1) := by decide +kernel
theorem dX11_out_12 : decode cX11_out 12 = .ok (.i2l, 1) := by decide +kernel
theorem dX11_out_13 : decode cX11_out 13 = .ok (.lconst 1, 1) := by decide +kernel
theorem dX11_out_14 : decode cX11_out 14 = .ok (.ldc2_w 264, 3) := by decide +kernel
theorem dX11_out_17 : decode cX11_out 17 = .ok (.invokestatic 93, 3) := by decide +kernel
theorem dX11_out_20 : decode cX11_out 20 = .ok (.ifCond .eq 18, 3) := by decide +kernel
theorem dX11_out_23 : decode cX11_out 23 = .ok (.aload_n 0, 1) := by decide +kernel
theorem dX11_out_24 : decode cX11_out 24 = .ok (.getfield 22, 3) := by decide +kernel
theorem dX11_out_27 : decode cX11_out 27 = .ok (.iload_n 1, 1) := by decide +kernel
theorem dX11_out_28 : decode cX11_out 28 = .ok (.iaload, 1) := by decide +kernel
theorem dX11_out_29 : decode cX11_out 29 = .ok (.iload_n 2, 1) := by decide +kernel
theorem dX11_out_30 : decode cX11_out 30 = .ok (.iadd, 1) := by decide +kernel
theorem dX11_out_31 : decode cX11_out 31 = .ok (.iconst 1, 1) := by decide +kernel
theorem dX11_out_32 : decode cX11_out 32 = .ok (.isub, 1) := by decide +kernel
theorem dX11_out_33 : decode cX11_out 33 = .ok (.iload_n 2, 1) := by decide +kernel
theorem dX11_out_34 : decode cX11_out 34 = .ok (.idiv, 1) := by decide +kernel
theorem dX11_out_35 : decode cX11_out 35 = .ok (.goto 5, 3) := by decide +kernel
theorem dX11_out_38 : decode cX11_out 38 = .ok (.ldc 105, 2) := by decide +kernel
theorem dX11_out_40 : decode cX11_out 40 = .ok (.ireturn, 1) := by decide +kernel
set_option maxRecDepth 20000 in
theorem ggX11_still_X11_in : GoodIn wsX11_still wsX11_in := goodIn_r _ [8] (by decide +kernel) (by decide +kernel)
set_option maxRecDepth 20000 in
theorem gX11_still_X11_in : GoodIn wsX11_still (va_wsS RX11 93 yX11_in wsX11_in) := goodIn_app (goodIn_of _ (by decide +kernel)) ggX11_still_X11_in
theorem dX11_still_0 : decode cX11_still 0 = .ok (.iload_n 1, 1) := by decide +kernel
theorem dX11_still_1 : decode cX11_still 1 = .ok (.i2l, 1) := by decide +kernel
theorem dX11_still_2 : decode cX11_still 2 = .ok (.lconst 0, 1) := by decide +kernel
theorem dX11_still_3 : decode cX11_still 3 = .ok (.ldc2_w 245, 3) := by decide +kernel
theorem dX11_still_6 : decode cX11_still 6 = .ok (.invokestatic 93, 3) := by decide +kernel
theorem dX11_still_9 : decode cX11_still 9 = .ok (.ifCond .eq 15, 3) := by decide +kernel
theorem dX11_still_12 : decode cX11_still 12 = .ok (.iload_n 2, 1) := by decide +kernel
theorem dX11_still_13 : decode cX11_still 13 = .ok (.i2l, 1) := by decide +kernel
theorem dX11_still_14 : decode cX11_still 14 = .ok (.lconst 0, 1) := by decide +kernel
theorem dX11_still_15 : decode cX11_still 15 = .ok (.ldc2_w 312, 3) := by decide +kernel
theorem dX11_still_18 : decode cX11_still 18 = .ok (.invokestatic 93, 3) := by decide +kernel
theorem dX11_still_21 : decode cX11_still 21 = .ok (.ifCond .ne 6, 3) := by decide +kernel
theorem dX11_still_24 : decode cX11_still 24 = .ok (.ldc 105, 2) := by decide +kernel
theorem dX11_still_26 : decode cX11_still 26 = .ok (.ireturn, 1) := by decide +kernel
theorem dX11_still_27 : decode cX11_still 27 = .ok (.ldc2_w 314, 3) := by decide +kernel
theorem dX11_still_30 : decode cX11_still 30 = .ok (.lstore_n 3, 1) := by decide +kernel
theorem dX11_still_31 : decode cX11_still 31 = .ok (.iconst 0, 1) := by decide +kernel
theorem dX11_still_32 : decode cX11_still 32 = .ok (.istore 5, 2) := by decide +kernel
theorem dX11_still_34 : decode cX11_still 34 = .ok (.iload 5, 2) := by decide +kernel
theorem dX11_still_36 : decode cX11_still 36 = .ok (.iload_n 1, 1) := by decide +kernel
theorem dX11_still_37 : decode cX11_still 37 = .ok (.if_icmp .ge 21, 3) := by decide +kernel
theorem dX11_still_40 : decode cX11_still 40 = .ok (.lload_n 3, 1) := by decide +kernel
theorem dX11_still_41 : decode cX11_still 41 = .ok (.bipush 100, 2) := by decide +kernel
theorem dX11_still_43 : decode cX11_still 43 = .ok (.iload_n 2, 1) := by decide +kernel
theorem dX11_still_44 : decode cX11_still 44 = .ok (.isub, 1) := by decide +kernel
theorem dX11_still_45 : decode cX11_still 45 = .ok (.i2l, 1) := by decide +kernel
theorem dX11_still_46 : decode cX11_still 46 = .ok (.lmul, 1) := by decide +kernel
theorem dX11_still_47 : decode cX11_still 47 = .ok (.ldc2_w 312, 3) := by decide +kernel
theorem dX11_still_50 : decode cX11_still 50 = .ok (.ldiv, 1) := by decide +kernel
theorem dX11_still_51 : decode cX11_still 51 = .ok (.lstore_n 3, 1) := by decide +kernel
theorem dX11_still_52 : decode cX11_still 52 = .ok (.iinc 5 1, 3) := by decide +kernel
theorem dX11_still_55 : decode cX11_still 55 = .ok (.goto (-21), 3) := by decide +kernel
theorem dX11_still_58 : decode cX11_still 58 = .ok (.lload_n 3, 1) := by decide +kernel
theorem dX11_still_59 : decode cX11_still 59 = .ok (.l2i, 1) := by decide +kernel
theorem dX11_still_60 : decode cX11_still 60 = .ok (.ireturn, 1) := by decide +kernel
set_option maxRecDepth 20000 in
theorem ggX11_see_X11_isCrow : GoodIn wsX11_see wsX11_isCrow := goodIn_r _ [10, 11, 12, 13, 9, 14, 20, 21, 22, 23, 24, 25, 26, 27, 28, 29, 30, 31, 32, 33, 34, 35, 36, 37, 38, 39, 40, 41, 42, 43, 44, 45, 46, 47, 48, 49, 50, 51, 52, 53, 54, 55, 56, 57, 58, 59, 60, 61, 62, 63, 64] (by decide +kernel) (by decide +kernel)
set_option maxRecDepth 20000 in
theorem gX11_see_X11_isCrow : GoodIn wsX11_see (wsV RX11 223 RX11 yX11_isCrow wsX11_isCrow) := goodIn_app (goodIn_of _ (by decide +kernel)) ggX11_see_X11_isCrow
set_option maxRecDepth 20000 in
theorem ggX11_see_X11_isPost : GoodIn wsX11_see wsX11_isPost := goodIn_r _ [18, 19, 12, 13, 9, 14, 20, 21, 22, 23, 24, 25, 26, 27, 28, 29, 30, 31, 32, 33, 34, 35, 36, 37, 38, 39, 40, 41, 42, 43, 44, 45, 46, 47, 48, 49, 50, 51, 52, 53, 54, 55, 56, 57, 58, 59, 60, 61, 62, 63, 64] (by decide +kernel) (by decide +kernel)
set_option maxRecDepth 20000 in
theorem gX11_see_X11_isPost : GoodIn wsX11_see (wsV RX11 220 RX11 yX11_isPost wsX11_isPost) := goodIn_app (goodIn_of _ (by decide +kernel)) ggX11_see_X11_isPost
theorem dX11_see_0 : decode cX11_see 0 = .ok (.aload_n 0, 1) := by decide +kernel
theorem dX11_see_1 : decode cX11_see 1 = .ok (.iload_n 1, 1) := by decide +kernel
theorem dX11_see_2 : decode cX11_see 2 = .ok (.invokevirtual 223, 3) := by decide +kernel
theorem dX11_see_5 : decode cX11_see 5 = .ok (.ifCond .eq 11, 3) := by decide +kernel
theorem dX11_see_8 : decode cX11_see 8 = .ok (.aload_n 0, 1) := by decide +kernel
theorem dX11_see_9 : decode cX11_see 9 = .ok (.iload_n 2, 1) := by decide +kernel
theorem dX11_see_10 : decode cX11_see 10 = .ok (.invokevirtual 220, 3) := by decide +kernel
theorem dX11_see_13 : decode cX11_see 13 = .ok (.ifCond .ne 6, 3) := by decide +kernel
theorem dX11_see_16 : decode cX11_see 16 = .ok (.ldc 219, 2) := by decide +kernel
theorem dX11_see_18 : decode cX11_see 18 = .ok (.ireturn, 1) := by decide +kernel
theorem dX11_see_19 : decode cX11_see 19 = .ok (.aload_n 0, 1) := by decide +kernel
theorem dX11_see_20 : decode cX11_see 20 = .ok (.getfield 198, 3) := by decide +kernel
theorem dX11_see_23 : decode cX11_see 23 = .ok (.bipush 6, 2) := by decide +kernel
theorem dX11_see_25 : decode cX11_see 25 = .ok (.if_icmp .ne 6, 3) := by decide +kernel
theorem dX11_see_28 : decode cX11_see 28 = .ok (.ldc 109, 2) := by decide +kernel
theorem dX11_see_30 : decode cX11_see 30 = .ok (.ireturn, 1) := by decide +kernel
theorem dX11_see_31 : decode cX11_see 31 = .ok (.aload_n 0, 1) := by decide +kernel
theorem dX11_see_32 : decode cX11_see 32 = .ok (.getfield 69, 3) := by decide +kernel
theorem dX11_see_35 : decode cX11_see 35 = .ok (.aload_n 0, 1) := by decide +kernel
theorem dX11_see_36 : decode cX11_see 36 = .ok (.getfield 198, 3) := by decide +kernel
theorem dX11_see_39 : decode cX11_see 39 = .ok (.iload_n 1, 1) := by decide +kernel
theorem dX11_see_40 : decode cX11_see 40 = .ok (.iastore, 1) := by decide +kernel
theorem dX11_see_41 : decode cX11_see 41 = .ok (.aload_n 0, 1) := by decide +kernel
theorem dX11_see_42 : decode cX11_see 42 = .ok (.getfield 72, 3) := by decide +kernel
theorem dX11_see_45 : decode cX11_see 45 = .ok (.aload_n 0, 1) := by decide +kernel
theorem dX11_see_46 : decode cX11_see 46 = .ok (.getfield 198, 3) := by decide +kernel
theorem dX11_see_49 : decode cX11_see 49 = .ok (.iload_n 2, 1) := by decide +kernel
theorem dX11_see_50 : decode cX11_see 50 = .ok (.iastore, 1) := by decide +kernel
theorem dX11_see_51 : decode cX11_see 51 = .ok (.aload_n 0, 1) := by decide +kernel
theorem dX11_see_52 : decode cX11_see 52 = .ok (.dup, 1) := by decide +kernel
theorem dX11_see_53 : decode cX11_see 53 = .ok (.getfield 198, 3) := by decide +kernel
theorem dX11_see_56 : decode cX11_see 56 = .ok (.iconst 1, 1) := by decide +kernel
theorem dX11_see_57 : decode cX11_see 57 = .ok (.iadd, 1) := by decide +kernel
theorem dX11_see_58 : decode cX11_see 58 = .ok (.putfield 198, 3) := by decide +kernel
theorem dX11_see_61 : decode cX11_see 61 = .ok (.aload_n 0, 1) := by decide +kernel
theorem dX11_see_62 : decode cX11_see 62 = .ok (.getfield 198, 3) := by decide +kernel
theorem dX11_see_65 : decode cX11_see 65 = .ok (.ireturn, 1) := by decide +kernel
theorem dX11_seenAt_0 : decode cX11_seenAt 0 = .ok (.iconst 0, 1) := by decide +kernel
theorem dX11_seenAt_1 : decode cX11_seenAt 1 = .ok (.istore_n 2, 1) := by decide +kernel
theorem dX11_seenAt_2 : decode cX11_seenAt 2 = .ok (.iconst 0, 1) := by decide +kernel
theorem dX11_seenAt_3 : decode cX11_seenAt 3 = .ok (.istore_n 3, 1) := by decide +kernel
theorem dX11_seenAt_4 : decode cX11_seenAt 4 = .ok (.iload_n 3, 1) := by decide +kernel
theorem dX11_seenAt_5 : decode cX11_seenAt 5 = .ok (.aload_n 0, 1) := by decide +kernel
theorem dX11_seenAt_6 : decode cX11_seenAt 6 = .ok (.getfield 198, 3) := by decide +kernel
theorem dX11_seenAt_9 : decode cX11_seenAt 9 = .ok (.if_icmp .ge 34, 3) := by decide +kernel
theorem dX11_seenAt_12 : decode cX11_seenAt 12 = .ok (.iload_n 2, 1) := by decide +kernel
theorem dX11_seenAt_13 : decode cX11_seenAt 13 = .ok (.aload_n 0, 1) := by decide +kernel
theorem dX11_seenAt_14 : decode cX11_seenAt 14 = .ok (.getfield 72, 3) := by decide +kernel
theorem dX11_seenAt_17 : decode cX11_seenAt 17 = .ok (.iload_n 3, 1) := by decide +kernel
theorem dX11_seenAt_18 : decode cX11_seenAt 18 = .ok (.iaload, 1) := by decide +kernel
theorem dX11_seenAt_19 : decode cX11_seenAt 19 = .ok (.iload_n 1, 1) := by decide +kernel
theorem dX11_seenAt_20 : decode cX11_seenAt 20 = .ok (.if_icmp .ne 14, 3) := by decide +kernel
theorem dX11_seenAt_23 : decode cX11_seenAt 23 = .ok (.iconst 1, 1) := by decide +kernel
theorem dX11_seenAt_24 : decode cX11_seenAt 24 = .ok (.aload_n 0, 1) := by decide +kernel
theorem dX11_seenAt_25 : decode cX11_seenAt 25 = .ok (.getfield 69, 3) := by decide +kernel
theorem dX11_seenAt_28 : decode cX11_seenAt 28 = .ok (.iload_n 3, 1) := by decide +kernel
theorem dX11_seenAt_29 : decode cX11_seenAt 29 = .ok (.iaload, 1) := by decide +kernel
theorem dX11_seenAt_30 : decode cX11_seenAt 30 = .ok (.ishl, 1) := by decide +kernel
theorem dX11_seenAt_31 : decode cX11_seenAt 31 = .ok (.goto 4, 3) := by decide +kernel
theorem dX11_seenAt_34 : decode cX11_seenAt 34 = .ok (.iconst 0, 1) := by decide +kernel
theorem dX11_seenAt_35 : decode cX11_seenAt 35 = .ok (.ior, 1) := by decide +kernel
theorem dX11_seenAt_36 : decode cX11_seenAt 36 = .ok (.istore_n 2, 1) := by decide +kernel
theorem dX11_seenAt_37 : decode cX11_seenAt 37 = .ok (.iinc 3 1, 3) := by decide +kernel
theorem dX11_seenAt_40 : decode cX11_seenAt 40 = .ok (.goto (-36), 3) := by decide +kernel
theorem dX11_seenAt_43 : decode cX11_seenAt 43 = .ok (.iload_n 2, 1) := by decide +kernel
theorem dX11_seenAt_44 : decode cX11_seenAt 44 = .ok (.ireturn, 1) := by decide +kernel
theorem dX11_allSeen_0 : decode cX11_allSeen 0 = .ok (.iconst 0, 1) := by decide +kernel
theorem dX11_allSeen_1 : decode cX11_allSeen 1 = .ok (.istore_n 1, 1) := by decide +kernel
theorem dX11_allSeen_2 : decode cX11_allSeen 2 = .ok (.iconst 0, 1) := by decide +kernel
theorem dX11_allSeen_3 : decode cX11_allSeen 3 = .ok (.istore_n 2, 1) := by decide +kernel
theorem dX11_allSeen_4 : decode cX11_allSeen 4 = .ok (.iload_n 2, 1) := by decide +kernel
theorem dX11_allSeen_5 : decode cX11_allSeen 5 = .ok (.aload_n 0, 1) := by decide +kernel
theorem dX11_allSeen_6 : decode cX11_allSeen 6 = .ok (.getfield 198, 3) := by decide +kernel
theorem dX11_allSeen_9 : decode cX11_allSeen 9 = .ok (.if_icmp .ge 20, 3) := by decide +kernel
theorem dX11_allSeen_12 : decode cX11_allSeen 12 = .ok (.iload_n 1, 1) := by decide +kernel
theorem dX11_allSeen_13 : decode cX11_allSeen 13 = .ok (.iconst 1, 1) := by decide +kernel
theorem dX11_allSeen_14 : decode cX11_allSeen 14 = .ok (.aload_n 0, 1) := by decide +kernel
theorem dX11_allSeen_15 : decode cX11_allSeen 15 = .ok (.getfield 69, 3) := by decide +kernel
theorem dX11_allSeen_18 : decode cX11_allSeen 18 = .ok (.iload_n 2, 1) := by decide +kernel
theorem dX11_allSeen_19 : decode cX11_allSeen 19 = .ok (.iaload, 1) := by decide +kernel
theorem dX11_allSeen_20 : decode cX11_allSeen 20 = .ok (.ishl, 1) := by decide +kernel
theorem dX11_allSeen_21 : decode cX11_allSeen 21 = .ok (.ior, 1) := by decide +kernel
theorem dX11_allSeen_22 : decode cX11_allSeen 22 = .ok (.istore_n 1, 1) := by decide +kernel
theorem dX11_allSeen_23 : decode cX11_allSeen 23 = .ok (.iinc 2 1, 3) := by decide +kernel
theorem dX11_allSeen_26 : decode cX11_allSeen 26 = .ok (.goto (-22), 3) := by decide +kernel
theorem dX11_allSeen_29 : decode cX11_allSeen 29 = .ok (.iload_n 1, 1) := by decide +kernel
theorem dX11_allSeen_30 : decode cX11_allSeen 30 = .ok (.ireturn, 1) := by decide +kernel
set_option maxRecDepth 20000 in
theorem ggX11_sublets_X11_in : GoodIn wsX11_sublets wsX11_in := goodIn_r _ [7] (by decide +kernel) (by decide +kernel)
set_option maxRecDepth 20000 in
theorem gX11_sublets_X11_in : GoodIn wsX11_sublets (va_wsS RX11 93 yX11_in wsX11_in) := goodIn_app (goodIn_of _ (by decide +kernel)) ggX11_sublets_X11_in
set_option maxRecDepth 20000 in
theorem ggX11_sublets_X11_seenAt : GoodIn wsX11_sublets wsX11_seenAt := goodIn_r _ [11, 12, 13, 14, 18, 19, 20, 21, 22, 23, 24, 25, 26, 27, 28, 29, 30, 31, 32, 33, 34, 35, 36, 37, 38, 39, 40, 41, 42, 43, 44, 45, 46, 47, 48, 49, 50, 51, 52, 53, 54, 55, 56, 57, 58, 59, 60, 61, 62] (by decide +kernel) (by decide +kernel)
set_option maxRecDepth 20000 in
theorem gX11_sublets_X11_seenAt : GoodIn wsX11_sublets (wsV RX11 316 RX11 yX11_seenAt wsX11_seenAt) := goodIn_app (goodIn_of _ (by decide +kernel)) ggX11_sublets_X11_seenAt
set_option maxRecDepth 20000 in
theorem ggX11_sublets_X11_has : GoodIn wsX11_sublets wsX11_has := goodIn_r _ [17] (by decide +kernel) (by decide +kernel)
set_option maxRecDepth 20000 in
theorem gX11_sublets_X11_has : GoodIn wsX11_sublets (va_wsS RX11 141 yX11_has wsX11_has) := goodIn_app (goodIn_of _ (by decide +kernel)) ggX11_sublets_X11_has
theorem dX11_sublets_0 : decode cX11_sublets 0 = .ok (.iload_n 1, 1) := by decide +kernel
theorem dX11_sublets_1 : decode cX11_sublets 1 = .ok (.i2l, 1) := by decide +kernel
theorem dX11_sublets_2 : decode cX11_sublets 2 = .ok (.lconst 0, 1) := by decide +kernel
theorem dX11_sublets_3 : decode cX11_sublets 3 = .ok (.lconst 1, 1) := by decide +kernel
theorem dX11_sublets_4 : decode cX11_sublets 4 = .ok (.invokestatic 93, 3) := by decide +kernel
theorem dX11_sublets_7 : decode cX11_sublets 7 = .ok (.ifCond .ne 6, 3) := by decide +kernel
theorem dX11_sublets_10 : decode cX11_sublets 10 = .ok (.ldc 105, 2) := by decide +kernel
theorem dX11_sublets_12 : decode cX11_sublets 12 = .ok (.ireturn, 1) := by decide +kernel
theorem dX11_sublets_13 : decode cX11_sublets 13 = .ok (.iconst 0, 1) := by decide +kernel
theorem dX11_sublets_14 : decode cX11_sublets 14 = .ok (.istore_n 2, 1) := by decide +kernel
theorem dX11_sublets_15 : decode cX11_sublets 15 = .ok (.iconst 0, 1) := by decide +kernel
theorem dX11_sublets_16 : decode cX11_sublets 16 = .ok (.istore_n 3, 1) := by decide +kernel
theorem dX11_sublets_17 : decode cX11_sublets 17 = .ok (.iconst 0, 1) := by decide +kernel
theorem dX11_sublets_18 : decode cX11_sublets 18 = .ok (.istore 4, 2) := by decide +kernel
theorem dX11_sublets_20 : decode cX11_sublets 20 = .ok (.iload 4, 2) := by decide +kernel
theorem dX11_sublets_22 : decode cX11_sublets 22 = .ok (.aload_n 0, 1) := by decide +kernel
theorem dX11_sublets_23 : decode cX11_sublets 23 = .ok (.getfield 97, 3) := by decide +kernel
theorem dX11_sublets_26 : decode cX11_sublets 26 = .ok (.if_icmp .ge 72, 3) := by decide +kernel
theorem dX11_sublets_29 : decode cX11_sublets 29 = .ok (.aload_n 0, 1) := by decide +kernel
theorem dX11_sublets_30 : decode cX11_sublets 30 = .ok (.getfield 22, 3) := by decide +kernel
theorem dX11_sublets_33 : decode cX11_sublets 33 = .ok (.bipush 18, 2) := by decide +kernel
theorem dX11_sublets_35 : decode cX11_sublets 35 = .ok (.iload 4, 2) := by decide +kernel
theorem dX11_sublets_37 : decode cX11_sublets 37 = .ok (.iadd, 1) := by decide +kernel
theorem dX11_sublets_38 : decode cX11_sublets 38 = .ok (.iaload, 1) := by decide +kernel
theorem dX11_sublets_39 : decode cX11_sublets 39 = .ok (.istore 5, 2) := by decide +kernel
theorem dX11_sublets_41 : decode cX11_sublets 41 = .ok (.aload_n 0, 1) := by decide +kernel
theorem dX11_sublets_42 : decode cX11_sublets 42 = .ok (.iload 4, 2) := by decide +kernel
theorem dX11_sublets_44 : decode cX11_sublets 44 = .ok (.invokevirtual 316, 3) := by decide +kernel
theorem dX11_sublets_47 : decode cX11_sublets 47 = .ok (.istore 6, 2) := by decide +kernel
theorem dX11_sublets_49 : decode cX11_sublets 49 = .ok (.iload 5, 2) := by decide +kernel
theorem dX11_sublets_51 : decode cX11_sublets 51 = .ok (.ifCond .lt 41, 3) := by decide +kernel
theorem dX11_sublets_54 : decode cX11_sublets 54 = .ok (.iload_n 2, 1) := by decide +kernel
theorem dX11_sublets_55 : decode cX11_sublets 55 = .ok (.iload 6, 2) := by decide +kernel
theorem dX11_sublets_57 : decode cX11_sublets 57 = .ok (.ifCond .eq 20, 3) := by decide +kernel
theorem dX11_sublets_60 : decode cX11_sublets 60 = .ok (.iload 6, 2) := by decide +kernel
theorem dX11_sublets_62 : decode cX11_sublets 62 = .ok (.iload 5, 2) := by decide +kernel
theorem dX11_sublets_64 : decode cX11_sublets 64 = .ok (.invokestatic 141, 3) := by decide +kernel
theorem dX11_sublets_67 : decode cX11_sublets 67 = .ok (.ifCond .ne 10, 3) := by decide +kernel
theorem dX11_sublets_70 : decode cX11_sublets 70 = .ok (.iconst 1, 1) := by decide +kernel
theorem dX11_sublets_71 : decode cX11_sublets 71 = .ok (.iload 5, 2) := by decide +kernel
theorem dX11_sublets_73 : decode cX11_sublets 73 = .ok (.ishl, 1) := by decide +kernel
theorem dX11_sublets_74 : decode cX11_sublets 74 = .ok (.goto 4, 3) := by decide +kernel
theorem dX11_sublets_77 : decode cX11_sublets 77 = .ok (.iconst 0, 1) := by decide +kernel
theorem dX11_sublets_78 : decode cX11_sublets 78 = .ok (.ior, 1) := by decide +kernel
theorem dX11_sublets_79 : decode cX11_sublets 79 = .ok (.istore_n 2, 1) := by decide +kernel
theorem dX11_sublets_80 : decode cX11_sublets 80 = .ok (.iload_n 3, 1) := by decide +kernel
theorem dX11_sublets_81 : decode cX11_sublets 81 = .ok (.iload 6, 2) := by decide +kernel
theorem dX11_sublets_83 : decode cX11_sublets 83 = .ok (.iconst 1, 1) := by decide +kernel
theorem dX11_sublets_84 : decode cX11_sublets 84 = .ok (.iload 5, 2) := by decide +kernel
theorem dX11_sublets_86 : decode cX11_sublets 86 = .ok (.ishl, 1) := by decide +kernel
theorem dX11_sublets_87 : decode cX11_sublets 87 = .ok (.iconst (-1), 1) := by decide +kernel
theorem dX11_sublets_88 : decode cX11_sublets 88 = .ok (.ixor, 1) := by decide +kernel
theorem dX11_sublets_89 : decode cX11_sublets 89 = .ok (.iand, 1) := by decide +kernel
theorem dX11_sublets_90 : decode cX11_sublets 90 = .ok (.ior, 1) := by decide +kernel
theorem dX11_sublets_91 : decode cX11_sublets 91 = .ok (.istore_n 3, 1) := by decide +kernel
theorem dX11_sublets_92 : decode cX11_sublets 92 = .ok (.iinc 4 1, 3) := by decide +kernel
theorem dX11_sublets_95 : decode cX11_sublets 95 = .ok (.goto (-75), 3) := by decide +kernel
theorem dX11_sublets_98 : decode cX11_sublets 98 = .ok (.iload_n 1, 1) := by decide +kernel
theorem dX11_sublets_99 : decode cX11_sublets 99 = .ok (.ifCond .ne 7, 3) := by decide +kernel
theorem dX11_sublets_102 : decode cX11_sublets 102 = .ok (.iload_n 2, 1) := by decide +kernel
theorem dX11_sublets_103 : decode cX11_sublets 103 = .ok (.goto 4, 3) := by decide +kernel
theorem dX11_sublets_106 : decode cX11_sublets 106 = .ok (.iload_n 3, 1) := by decide +kernel
theorem dX11_sublets_107 : decode cX11_sublets 107 = .ok (.ireturn, 1) := by decide +kernel
set_option maxRecDepth 20000 in
theorem ggX11_couldBe_X11_seenAt : GoodIn wsX11_couldBe wsX11_seenAt := goodIn_r _ [7, 8, 9, 10, 18, 19, 20, 21, 22, 23, 24, 25, 26, 27, 28, 29, 30, 31, 32, 33, 34, 35, 36, 37, 38, 39, 40, 41, 42, 43, 44, 45, 46, 47, 48, 49, 50, 51, 52, 53, 54, 55, 56, 57, 58, 59, 60, 61, 62] (by decide +kernel) (by decide +kernel)
set_option maxRecDepth 20000 in
theorem gX11_couldBe_X11_seenAt : GoodIn wsX11_couldBe (wsV RX11 316 RX11 yX11_seenAt wsX11_seenAt) := goodIn_app (goodIn_of _ (by decide +kernel)) ggX11_couldBe_X11_seenAt
set_option maxRecDepth 20000 in
theorem ggX11_couldBe_X11_has : GoodIn wsX11_couldBe wsX11_has := goodIn_r _ [13] (by decide +kernel) (by decide +kernel)
set_option maxRecDepth 20000 in
theorem gX11_couldBe_X11_has : GoodIn wsX11_couldBe (va_wsS RX11 141 yX11_has wsX11_has) := goodIn_app (goodIn_of _ (by decide +kernel)) ggX11_couldBe_X11_has
set_option maxRecDepth 20000 in
theorem ggX11_couldBe_X11_allSeen : GoodIn wsX11_couldBe wsX11_allSeen := goodIn_r _ [17, 8, 10, 18, 19, 20, 21, 22, 23, 24, 25, 26, 27, 28, 29, 30, 31, 32, 33, 34, 35, 36, 37, 38, 39, 40, 41, 42, 43, 44, 45, 46, 47, 48, 49, 50, 51, 52, 53, 54, 55, 56, 57, 58, 59, 60, 61, 62] (by decide +kernel) (by decide +kernel)
set_option maxRecDepth 20000 in
theorem gX11_couldBe_X11_allSeen : GoodIn wsX11_couldBe (wsV RX11 319 RX11 yX11_allSeen wsX11_allSeen) := goodIn_app (goodIn_of _ (by decide +kernel)) ggX11_couldBe_X11_allSeen
theorem dX11_couldBe_0 : decode cX11_couldBe 0 = .ok (.iconst 1, 1) := by decide +kernel
theorem dX11_couldBe_1 : decode cX11_couldBe 1 = .ok (.istore_n 1, 1) := by decide +kernel
theorem dX11_couldBe_2 : decode cX11_couldBe 2 = .ok (.iconst 0, 1) := by decide +kernel
theorem dX11_couldBe_3 : decode cX11_couldBe 3 = .ok (.istore_n 2, 1) := by decide +kernel
theorem dX11_couldBe_4 : decode cX11_couldBe 4 = .ok (.iload_n 2, 1) := by decide +kernel
theorem dX11_couldBe_5 : decode cX11_couldBe 5 = .ok (.aload_n 0, 1) := by decide +kernel
theorem dX11_couldBe_6 : decode cX11_couldBe 6 = .ok (.getfield 97, 3) := by decide +kernel
theorem dX11_couldBe_9 : decode cX11_couldBe 9 = .ok (.if_icmp .ge 63, 3) := by decide +kernel
theorem dX11_couldBe_12 : decode cX11_couldBe 12 = .ok (.aload_n 0, 1) := by decide +kernel
theorem dX11_couldBe_13 : decode cX11_couldBe 13 = .ok (.iload_n 2, 1) := by decide +kernel
theorem dX11_couldBe_14 : decode cX11_couldBe 14 = .ok (.invokevirtual 316, 3) := by decide +kernel
theorem dX11_couldBe_17 : decode cX11_couldBe 17 = .ok (.istore_n 3, 1) := by decide +kernel
theorem dX11_couldBe_18 : decode cX11_couldBe 18 = .ok (.aload_n 0, 1) := by decide +kernel
theorem dX11_couldBe_19 : decode cX11_couldBe 19 = .ok (.getfield 63, 3) := by decide +kernel
theorem dX11_couldBe_22 : decode cX11_couldBe 22 = .ok (.iload_n 2, 1) := by decide +kernel
theorem dX11_couldBe_23 : decode cX11_couldBe 23 = .ok (.iaload, 1) := by decide +kernel
theorem dX11_couldBe_24 : decode cX11_couldBe 24 = .ok (.istore 4, 2) := by decide +kernel
theorem dX11_couldBe_26 : decode cX11_couldBe 26 = .ok (.iload_n 1, 1) := by decide +kernel
theorem dX11_couldBe_27 : decode cX11_couldBe 27 = .ok (.ifCond .eq 37, 3) := by decide +kernel
theorem dX11_couldBe_30 : decode cX11_couldBe 30 = .ok (.iload_n 3, 1) := by decide +kernel
theorem dX11_couldBe_31 : decode cX11_couldBe 31 = .ok (.ifCond .eq 29, 3) := by decide +kernel
theorem dX11_couldBe_34 : decode cX11_couldBe 34 = .ok (.iload 4, 2) := by decide +kernel
theorem dX11_couldBe_36 : decode cX11_couldBe 36 = .ok (.ifCond .lt 28, 3) := by decide +kernel
theorem dX11_couldBe_39 : decode cX11_couldBe 39 = .ok (.iload_n 3, 1) := by decide +kernel
theorem dX11_couldBe_40 : decode cX11_couldBe 40 = .ok (.iload 4, 2) := by decide +kernel
theorem dX11_couldBe_42 : decode cX11_couldBe 42 = .ok (.invokestatic 141, 3) := by decide +kernel
theorem dX11_couldBe_45 : decode cX11_couldBe 45 = .ok (.ifCond .ne 15, 3) := by decide +kernel
theorem dX11_couldBe_48 : decode cX11_couldBe 48 = .ok (.aload_n 0, 1) := by decide +kernel
theorem dX11_couldBe_49 : decode cX11_couldBe 49 = .ok (.invokevirtual 319, 3) := by decide +kernel
theorem dX11_couldBe_52 : decode cX11_couldBe 52 = .ok (.iload 4, 2) := by decide +kernel
theorem dX11_couldBe_54 : decode cX11_couldBe 54 = .ok (.invokestatic 141, 3) := by decide +kernel
theorem dX11_couldBe_57 : decode cX11_couldBe 57 = .ok (.ifCond .ne 7, 3) := by decide +kernel
theorem dX11_couldBe_60 : decode cX11_couldBe 60 = .ok (.iconst 1, 1) := by decide +kernel
theorem dX11_couldBe_61 : decode cX11_couldBe 61 = .ok (.goto 4, 3) := by decide +kernel
theorem dX11_couldBe_64 : decode cX11_couldBe 64 = .ok (.iconst 0, 1) := by decide +kernel
theorem dX11_couldBe_65 : decode cX11_couldBe 65 = .ok (.istore_n 1, 1) := by decide +kernel
theorem dX11_couldBe_66 : decode cX11_couldBe 66 = .ok (.iinc 2 1, 3) := by decide +kernel
theorem dX11_couldBe_69 : decode cX11_couldBe 69 = .ok (.goto (-65), 3) := by decide +kernel
theorem dX11_couldBe_72 : decode cX11_couldBe 72 = .ok (.iload_n 1, 1) := by decide +kernel
theorem dX11_couldBe_73 : decode cX11_couldBe 73 = .ok (.ireturn, 1) := by decide +kernel
set_option maxRecDepth 20000 in
theorem ggX11_fit_X11_in : GoodIn wsX11_fit wsX11_in := goodIn_r _ [8] (by decide +kernel) (by decide +kernel)
set_option maxRecDepth 20000 in
theorem gX11_fit_X11_in : GoodIn wsX11_fit (va_wsS RX11 93 yX11_in wsX11_in) := goodIn_app (goodIn_of _ (by decide +kernel)) ggX11_fit_X11_in
set_option maxRecDepth 20000 in
theorem ggX11_fit_X11_waysToLet : GoodIn wsX11_fit wsX11_waysToLet := goodIn_r _ [12, 3, 39, 40, 41, 42, 43, 44, 45, 46, 47, 48, 49, 50, 51, 52, 53, 54, 55, 56, 57, 58, 59, 60, 61, 62, 63, 64, 65, 66, 67, 68, 69, 70, 71, 72, 73, 74, 75, 76, 77, 78, 79, 80, 81, 82, 83] (by decide +kernel) (by decide +kernel)
set_option maxRecDepth 20000 in
theorem gX11_fit_X11_waysToLet : GoodIn wsX11_fit (wsV RX11 294 RX11 yX11_waysToLet wsX11_waysToLet) := goodIn_app (goodIn_of _ (by decide +kernel)) ggX11_fit_X11_waysToLet
set_option maxRecDepth 20000 in
theorem ggX11_fit_X11_takeGiven : GoodIn wsX11_fit wsX11_takeGiven := goodIn_r _ [16, 3, 4, 17, 18, 19, 7, 20, 39, 40, 41, 42, 43, 44, 45, 46, 47, 48, 49, 50, 51, 52, 53, 54, 55, 56, 57, 58, 59, 60, 61, 62, 63, 64, 65, 66, 67, 68, 69, 70, 71, 72, 73, 74, 75, 76, 77, 78, 79, 80, 81, 82, 83] (by decide +kernel) (by decide +kernel)
set_option maxRecDepth 20000 in
theorem gX11_fit_X11_takeGiven : GoodIn wsX11_fit (wsV RX11 297 RX11 yX11_takeGiven wsX11_takeGiven) := goodIn_app (goodIn_of _ (by decide +kernel)) ggX11_fit_X11_takeGiven
set_option maxRecDepth 20000 in
theorem ggX11_fit_X11_couldBe : GoodIn wsX11_fit wsX11_couldBe := goodIn_r _ [24, 3, 4, 25, 26, 27, 7, 28, 29, 30, 31, 18, 19, 20, 32, 33, 34, 35, 39, 40, 41, 42, 43, 44, 45, 46, 47, 48, 49, 50, 51, 52, 53, 54, 55, 56, 57, 58, 59, 60, 61, 62, 63, 64, 65, 66, 67, 68, 69, 70, 71, 72, 73, 74, 75, 76, 77, 78, 79, 80, 81, 82, 83] (by decide +kernel) (by decide +kernel)
set_option maxRecDepth 20000 in
theorem gX11_fit_X11_couldBe : GoodIn wsX11_fit (wsV RX11 322 RX11 yX11_couldBe wsX11_couldBe) := goodIn_app (goodIn_of _ (by decide +kernel)) ggX11_fit_X11_couldBe
set_option maxRecDepth 20000 in
theorem ggX11_fit_X11_bits : GoodIn wsX11_fit wsX11_bits := goodIn_r _ [38] (by decide +kernel) (by decide +kernel)
set_option maxRecDepth 20000 in
theorem gX11_fit_X11_bits : GoodIn wsX11_fit (va_wsS RX11 306 yX11_bits wsX11_bits) := goodIn_app (goodIn_of _ (by decide +kernel)) ggX11_fit_X11_bits
theorem dX11_fit_0 : decode cX11_fit 0 = .ok (.iload_n 1, 1) := by decide +kernel
theorem dX11_fit_1 : decode cX11_fit 1 = .ok (.i2l, 1) := by decide +kernel
theorem dX11_fit_2 : decode cX11_fit 2 = .ok (.lconst 0, 1) := by decide +kernel
theorem dX11_fit_3 : decode cX11_fit 3 = .ok (.lconst 1, 1) := by decide +kernel
theorem dX11_fit_4 : decode cX11_fit 4 = .ok (.invokestatic 93, 3) := by decide +kernel
theorem dX11_fit_7 : decode cX11_fit 7 = .ok (.ifCond .ne 6, 3) := by decide +kernel
theorem dX11_fit_10 : decode cX11_fit 10 = .ok (.ldc 105, 2) := by decide +kernel
theorem dX11_fit_12 : decode cX11_fit 12 = .ok (.ireturn, 1) := by decide +kernel
theorem dX11_fit_13 : decode cX11_fit 13 = .ok (.iconst 0, 1) := by decide +kernel
theorem dX11_fit_14 : decode cX11_fit 14 = .ok (.istore_n 2, 1) := by decide +kernel
theorem dX11_fit_15 : decode cX11_fit 15 = .ok (.iload_n 2, 1) := by decide +kernel
theorem dX11_fit_16 : decode cX11_fit 16 = .ok (.bipush 6, 2) := by decide +kernel
theorem dX11_fit_18 : decode cX11_fit 18 = .ok (.if_icmp .ge 16, 3) := by decide +kernel
theorem dX11_fit_21 : decode cX11_fit 21 = .ok (.aload_n 0, 1) := by decide +kernel
theorem dX11_fit_22 : decode cX11_fit 22 = .ok (.getfield 75, 3) := by decide +kernel
theorem dX11_fit_25 : decode cX11_fit 25 = .ok (.iload_n 2, 1) := by decide +kernel
theorem dX11_fit_26 : decode cX11_fit 26 = .ok (.iconst 0, 1) := by decide +kernel
theorem dX11_fit_27 : decode cX11_fit 27 = .ok (.iastore, 1) := by decide +kernel
theorem dX11_fit_28 : decode cX11_fit 28 = .ok (.iinc 2 1, 3) := by decide +kernel
theorem dX11_fit_31 : decode cX11_fit 31 = .ok (.goto (-16), 3) := by decide +kernel
theorem dX11_fit_34 : decode cX11_fit 34 = .ok (.iconst 0, 1) := by decide +kernel
theorem dX11_fit_35 : decode cX11_fit 35 = .ok (.istore_n 2, 1) := by decide +kernel
theorem dX11_fit_36 : decode cX11_fit 36 = .ok (.iconst 0, 1) := by decide +kernel
theorem dX11_fit_37 : decode cX11_fit 37 = .ok (.istore_n 3, 1) := by decide +kernel
theorem dX11_fit_38 : decode cX11_fit 38 = .ok (.iload_n 3, 1) := by decide +kernel
theorem dX11_fit_39 : decode cX11_fit 39 = .ok (.aload_n 0, 1) := by decide +kernel
theorem dX11_fit_40 : decode cX11_fit 40 = .ok (.invokevirtual 294, 3) := by decide +kernel
theorem dX11_fit_43 : decode cX11_fit 43 = .ok (.if_icmp .ge 78, 3) := by decide +kernel
theorem dX11_fit_46 : decode cX11_fit 46 = .ok (.aload_n 0, 1) := by decide +kernel
theorem dX11_fit_47 : decode cX11_fit 47 = .ok (.iload_n 3, 1) := by decide +kernel
theorem dX11_fit_48 : decode cX11_fit 48 = .ok (.invokevirtual 297, 3) := by decide +kernel
theorem dX11_fit_51 : decode cX11_fit 51 = .ok (.ifCond .eq 64, 3) := by decide +kernel
theorem dX11_fit_54 : decode cX11_fit 54 = .ok (.aload_n 0, 1) := by decide +kernel
theorem dX11_fit_55 : decode cX11_fit 55 = .ok (.invokevirtual 322, 3) := by decide +kernel
theorem dX11_fit_58 : decode cX11_fit 58 = .ok (.ifCond .eq 57, 3) := by decide +kernel
theorem dX11_fit_61 : decode cX11_fit 61 = .ok (.iinc 2 1, 3) := by decide +kernel
theorem dX11_fit_64 : decode cX11_fit 64 = .ok (.iconst 0, 1) := by decide +kernel
theorem dX11_fit_65 : decode cX11_fit 65 = .ok (.istore 4, 2) := by decide +kernel
theorem dX11_fit_67 : decode cX11_fit 67 = .ok (.iload 4, 2) := by decide +kernel
theorem dX11_fit_69 : decode cX11_fit 69 = .ok (.aload_n 0, 1) := by decide +kernel
theorem dX11_fit_70 : decode cX11_fit 70 = .ok (.getfield 97, 3) := by decide +kernel
theorem dX11_fit_73 : decode cX11_fit 73 = .ok (.if_icmp .ge 42, 3) := by decide +kernel
theorem dX11_fit_76 : decode cX11_fit 76 = .ok (.aload_n 0, 1) := by decide +kernel
theorem dX11_fit_77 : decode cX11_fit 77 = .ok (.getfield 75, 3) := by decide +kernel
theorem dX11_fit_80 : decode cX11_fit 80 = .ok (.iload 4, 2) := by decide +kernel
theorem dX11_fit_82 : decode cX11_fit 82 = .ok (.dup2, 1) := by decide +kernel
theorem dX11_fit_83 : decode cX11_fit 83 = .ok (.iaload, 1) := by decide +kernel
theorem dX11_fit_84 : decode cX11_fit 84 = .ok (.iconst 1, 1) := by decide +kernel
theorem dX11_fit_85 : decode cX11_fit 85 = .ok (.aload_n 0, 1) := by decide +kernel
theorem dX11_fit_86 : decode cX11_fit 86 = .ok (.getfield 63, 3) := by decide +kernel
theorem dX11_fit_89 : decode cX11_fit 89 = .ok (.iload 4, 2) := by decide +kernel
theorem dX11_fit_91 : decode cX11_fit 91 = .ok (.iaload, 1) := by decide +kernel
theorem dX11_fit_92 : decode cX11_fit 92 = .ok (.ifCond .ge 7, 3) := by decide +kernel
theorem dX11_fit_95 : decode cX11_fit 95 = .ok (.iconst 5, 1) := by decide +kernel
theorem dX11_fit_96 : decode cX11_fit 96 = .ok (.goto 10, 3) := by decide +kernel
theorem dX11_fit_99 : decode cX11_fit 99 = .ok (.aload_n 0, 1) := by decide +kernel
theorem dX11_fit_100 : decode cX11_fit 100 = .ok (.getfield 63, 3) := by decide +kernel
theorem dX11_fit_103 : decode cX11_fit 103 = .ok (.iload 4, 2) := by decide +kernel
theorem dX11_fit_105 : decode cX11_fit 105 = .ok (.iaload, 1) := by decide +kernel
theorem dX11_fit_106 : decode cX11_fit 106 = .ok (.ishl, 1) := by decide +kernel
theorem dX11_fit_107 : decode cX11_fit 107 = .ok (.ior, 1) := by decide +kernel
theorem dX11_fit_108 : decode cX11_fit 108 = .ok (.iastore, 1) := by decide +kernel
theorem dX11_fit_109 : decode cX11_fit 109 = .ok (.iinc 4 1, 3) := by decide +kernel
theorem dX11_fit_112 : decode cX11_fit 112 = .ok (.goto (-45), 3) := by decide +kernel
theorem dX11_fit_115 : decode cX11_fit 115 = .ok (.iinc 3 1, 3) := by decide +kernel
theorem dX11_fit_118 : decode cX11_fit 118 = .ok (.goto (-80), 3) := by decide +kernel
theorem dX11_fit_121 : decode cX11_fit 121 = .ok (.iload_n 1, 1) := by decide +kernel
theorem dX11_fit_122 : decode cX11_fit 122 = .ok (.ifCond .ne 5, 3) := by decide +kernel
theorem dX11_fit_125 : decode cX11_fit 125 = .ok (.iload_n 2, 1) := by decide +kernel
theorem dX11_fit_126 : decode cX11_fit 126 = .ok (.ireturn, 1) := by decide +kernel
theorem dX11_fit_127 : decode cX11_fit 127 = .ok (.iconst (-1), 1) := by decide +kernel
theorem dX11_fit_128 : decode cX11_fit 128 = .ok (.istore_n 3, 1) := by decide +kernel
theorem dX11_fit_129 : decode cX11_fit 129 = .ok (.iconst 0, 1) := by decide +kernel
theorem dX11_fit_130 : decode cX11_fit 130 = .ok (.istore 4, 2) := by decide +kernel
theorem dX11_fit_132 : decode cX11_fit 132 = .ok (.iconst 0, 1) := by decide +kernel
theorem dX11_fit_133 : decode cX11_fit 133 = .ok (.istore 5, 2) := by decide +kernel
theorem dX11_fit_135 : decode cX11_fit 135 = .ok (.iload 5, 2) := by decide +kernel
theorem dX11_fit_137 : decode cX11_fit 137 = .ok (.aload_n 0, 1) := by decide +kernel
theorem dX11_fit_138 : decode cX11_fit 138 = .ok (.getfield 97, 3) := by decide +kernel
theorem dX11_fit_141 : decode cX11_fit 141 = .ok (.if_icmp .ge 63, 3) := by decide +kernel
theorem dX11_fit_144 : decode cX11_fit 144 = .ok (.aload_n 0, 1) := by decide +kernel
theorem dX11_fit_145 : decode cX11_fit 145 = .ok (.getfield 75, 3) := by decide +kernel
theorem dX11_fit_148 : decode cX11_fit 148 = .ok (.iload 5, 2) := by decide +kernel
theorem dX11_fit_150 : decode cX11_fit 150 = .ok (.iaload, 1) := by decide +kernel
theorem dX11_fit_151 : decode cX11_fit 151 = .ok (.invokestatic 306, 3) := by decide +kernel
theorem dX11_fit_154 : decode cX11_fit 154 = .ok (.iload 4, 2) := by decide +kernel
theorem dX11_fit_156 : decode cX11_fit 156 = .ok (.if_icmp .le 8, 3) := by decide +kernel
theorem dX11_fit_159 : decode cX11_fit 159 = .ok (.iload 5, 2) := by decide +kernel
theorem dX11_fit_161 : decode cX11_fit 161 = .ok (.goto 4, 3) := by decide +kernel
theorem dX11_fit_164 : decode cX11_fit 164 = .ok (.iload_n 3, 1) := by decide +kernel
theorem dX11_fit_165 : decode cX11_fit 165 = .ok (.istore_n 3, 1) := by decide +kernel
theorem dX11_fit_166 : decode cX11_fit 166 = .ok (.aload_n 0, 1) := by decide +kernel
theorem dX11_fit_167 : decode cX11_fit 167 = .ok (.getfield 75, 3) := by decide +kernel
theorem dX11_fit_170 : decode cX11_fit 170 = .ok (.iload 5, 2) := by decide +kernel
theorem dX11_fit_172 : decode cX11_fit 172 = .ok (.iaload, 1) := by decide +kernel
theorem dX11_fit_173 : decode cX11_fit 173 = .ok (.invokestatic 306, 3) := by decide +kernel
theorem dX11_fit_176 : decode cX11_fit 176 = .ok (.iload 4, 2) := by decide +kernel
theorem dX11_fit_178 : decode cX11_fit 178 = .ok (.if_icmp .le 16, 3) := by decide +kernel
theorem dX11_fit_181 : decode cX11_fit 181 = .ok (.aload_n 0, 1) := by decide +kernel
theorem dX11_fit_182 : decode cX11_fit 182 = .ok (.getfield 75, 3) := by decide +kernel
theorem dX11_fit_185 : decode cX11_fit 185 = .ok (.iload 5, 2) := by decide +kernel
theorem dX11_fit_187 : decode cX11_fit 187 = .ok (.iaload, 1) := by decide +kernel
theorem dX11_fit_188 : decode cX11_fit 188 = .ok (.invokestatic 306, 3) := by decide +kernel
theorem dX11_fit_191 : decode cX11_fit 191 = .ok (.goto 5, 3) := by decide +kernel
theorem dX11_fit_194 : decode cX11_fit 194 = .ok (.iload 4, 2) := by decide +kernel
theorem dX11_fit_196 : decode cX11_fit 196 = .ok (.istore 4, 2) := by decide +kernel
theorem dX11_fit_198 : decode cX11_fit 198 = .ok (.iinc 5 1, 3) := by decide +kernel
theorem dX11_fit_201 : decode cX11_fit 201 = .ok (.goto (-66), 3) := by decide +kernel
theorem dX11_fit_204 : decode cX11_fit 204 = .ok (.iload_n 3, 1) := by decide +kernel
theorem dX11_fit_205 : decode cX11_fit 205 = .ok (.ireturn, 1) := by decide +kernel
set_option maxRecDepth 20000 in
theorem ggX11_write_X11_isCell : GoodIn wsX11_write wsX11_isCell := goodIn_r _ [12, 13, 14, 15, 11, 16, 17, 18, 19, 20, 21, 22, 23, 24, 25, 26, 27, 28, 29, 30, 31, 32, 33, 34, 35, 36, 37, 38, 39, 40, 41, 42, 43, 44, 45, 46, 47, 48, 49, 50, 51, 52, 53, 54, 55, 56, 57, 58, 59, 60, 61] (by decide +kernel) (by decide +kernel)
set_option maxRecDepth 20000 in
theorem gX11_write_X11_isCell : GoodIn wsX11_write (wsV RX11 216 RX11 yX11_isCell wsX11_isCell) := goodIn_app (goodIn_of _ (by decide +kernel)) ggX11_write_X11_isCell
set_option maxRecDepth 20000 in
theorem ggX11_write_X11_in : GoodIn wsX11_write wsX11_in := goodIn_r _ [16] (by decide +kernel) (by decide +kernel)
set_option maxRecDepth 20000 in
theorem gX11_write_X11_in : GoodIn wsX11_write (va_wsS RX11 93 yX11_in wsX11_in) := goodIn_app (goodIn_of _ (by decide +kernel)) ggX11_write_X11_in
theorem dX11_write_0 : decode cX11_write 0 = .ok (.aload_n 0, 1) := by decide +kernel
theorem dX11_write_1 : decode cX11_write 1 = .ok (.iload_n 1, 1) := by decide +kernel
theorem dX11_write_2 : decode cX11_write 2 = .ok (.invokevirtual 216, 3) := by decide +kernel
theorem dX11_write_5 : decode cX11_write 5 = .ok (.ifCond .ne 6, 3) := by decide +kernel
theorem dX11_write_8 : decode cX11_write 8 = .ok (.ldc 219, 2) := by decide +kernel
theorem dX11_write_10 : decode cX11_write 10 = .ok (.ireturn, 1) := by decide +kernel
theorem dX11_write_11 : decode cX11_write 11 = .ok (.iload_n 2, 1) := by decide +kernel
theorem dX11_write_12 : decode cX11_write 12 = .ok (.i2l, 1) := by decide +kernel
theorem dX11_write_13 : decode cX11_write 13 = .ok (.lconst 0, 1) := by decide +kernel
theorem dX11_write_14 : decode cX11_write 14 = .ok (.ldc2_w 326, 3) := by decide +kernel
theorem dX11_write_17 : decode cX11_write 17 = .ok (.invokestatic 93, 3) := by decide +kernel
theorem dX11_write_20 : decode cX11_write 20 = .ok (.ifCond .ne 6, 3) := by decide +kernel
theorem dX11_write_23 : decode cX11_write 23 = .ok (.ldc 105, 2) := by decide +kernel
theorem dX11_write_25 : decode cX11_write 25 = .ok (.ireturn, 1) := by decide +kernel
theorem dX11_write_26 : decode cX11_write 26 = .ok (.aload_n 0, 1) := by decide +kernel
theorem dX11_write_27 : decode cX11_write 27 = .ok (.getfield 201, 3) := by decide +kernel
theorem dX11_write_30 : decode cX11_write 30 = .ok (.bipush 15, 2) := by decide +kernel
theorem dX11_write_32 : decode cX11_write 32 = .ok (.if_icmp .ne 6, 3) := by decide +kernel
theorem dX11_write_35 : decode cX11_write 35 = .ok (.ldc 109, 2) := by decide +kernel
theorem dX11_write_37 : decode cX11_write 37 = .ok (.ireturn, 1) := by decide +kernel
theorem dX11_write_38 : decode cX11_write 38 = .ok (.aload_n 0, 1) := by decide +kernel
theorem dX11_write_39 : decode cX11_write 39 = .ok (.getfield 78, 3) := by decide +kernel
theorem dX11_write_42 : decode cX11_write 42 = .ok (.aload_n 0, 1) := by decide +kernel
theorem dX11_write_43 : decode cX11_write 43 = .ok (.getfield 201, 3) := by decide +kernel
theorem dX11_write_46 : decode cX11_write 46 = .ok (.iload_n 1, 1) := by decide +kernel
theorem dX11_write_47 : decode cX11_write 47 = .ok (.iastore, 1) := by decide +kernel
theorem dX11_write_48 : decode cX11_write 48 = .ok (.aload_n 0, 1) := by decide +kernel
theorem dX11_write_49 : decode cX11_write 49 = .ok (.getfield 81, 3) := by decide +kernel
theorem dX11_write_52 : decode cX11_write 52 = .ok (.aload_n 0, 1) := by decide +kernel
theorem dX11_write_53 : decode cX11_write 53 = .ok (.getfield 201, 3) := by decide +kernel
theorem dX11_write_56 : decode cX11_write 56 = .ok (.iload_n 2, 1) := by decide +kernel
theorem dX11_write_57 : decode cX11_write 57 = .ok (.iastore, 1) := by decide +kernel
theorem dX11_write_58 : decode cX11_write 58 = .ok (.aload_n 0, 1) := by decide +kernel
theorem dX11_write_59 : decode cX11_write 59 = .ok (.dup, 1) := by decide +kernel
theorem dX11_write_60 : decode cX11_write 60 = .ok (.getfield 201, 3) := by decide +kernel
theorem dX11_write_63 : decode cX11_write 63 = .ok (.iconst 1, 1) := by decide +kernel
theorem dX11_write_64 : decode cX11_write 64 = .ok (.iadd, 1) := by decide +kernel
theorem dX11_write_65 : decode cX11_write 65 = .ok (.putfield 201, 3) := by decide +kernel
theorem dX11_write_68 : decode cX11_write 68 = .ok (.aload_n 0, 1) := by decide +kernel
theorem dX11_write_69 : decode cX11_write 69 = .ok (.getfield 201, 3) := by decide +kernel
theorem dX11_write_72 : decode cX11_write 72 = .ok (.ireturn, 1) := by decide +kernel
theorem dX11_tear_0 : decode cX11_tear 0 = .ok (.aload_n 0, 1) := by decide +kernel
theorem dX11_tear_1 : decode cX11_tear 1 = .ok (.getfield 198, 3) := by decide +kernel
theorem dX11_tear_4 : decode cX11_tear 4 = .ok (.aload_n 0, 1) := by decide +kernel
theorem dX11_tear_5 : decode cX11_tear 5 = .ok (.getfield 201, 3) := by decide +kernel
theorem dX11_tear_8 : decode cX11_tear 8 = .ok (.iadd, 1) := by decide +kernel
theorem dX11_tear_9 : decode cX11_tear 9 = .ok (.istore_n 1, 1) := by decide +kernel
theorem dX11_tear_10 : decode cX11_tear 10 = .ok (.aload_n 0, 1) := by decide +kernel
theorem dX11_tear_11 : decode cX11_tear 11 = .ok (.iconst 0, 1) := by decide +kernel
theorem dX11_tear_12 : decode cX11_tear 12 = .ok (.putfield 198, 3) := by decide +kernel
theorem dX11_tear_15 : decode cX11_tear 15 = .ok (.aload_n 0, 1) := by decide +kernel
theorem dX11_tear_16 : decode cX11_tear 16 = .ok (.iconst 0, 1) := by decide +kernel
theorem dX11_tear_17 : decode cX11_tear 17 = .ok (.putfield 201, 3) := by decide +kernel
theorem dX11_tear_20 : decode cX11_tear 20 = .ok (.iload_n 1, 1) := by decide +kernel
theorem dX11_tear_21 : decode cX11_tear 21 = .ok (.ireturn, 1) := by decide +kernel
theorem dX11_judge_0 : decode cX11_judge 0 = .ok (.iconst 0, 1) := by decide +kernel
theorem dX11_judge_1 : decode cX11_judge 1 = .ok (.istore_n 1, 1) := by decide +kernel
theorem dX11_judge_2 : decode cX11_judge 2 = .ok (.iload_n 1, 1) := by decide +kernel
theorem dX11_judge_3 : decode cX11_judge 3 = .ok (.aload_n 0, 1) := by decide +kernel
theorem dX11_judge_4 : decode cX11_judge 4 = .ok (.getfield 201, 3) := by decide +kernel
theorem dX11_judge_7 : decode cX11_judge 7 = .ok (.if_icmp .ge 31, 3) := by decide +kernel
theorem dX11_judge_10 : decode cX11_judge 10 = .ok (.aload_n 0, 1) := by decide +kernel
theorem dX11_judge_11 : decode cX11_judge 11 = .ok (.getfield 22, 3) := by decide +kernel
theorem dX11_judge_14 : decode cX11_judge 14 = .ok (.aload_n 0, 1) := by decide +kernel
theorem dX11_judge_15 : decode cX11_judge 15 = .ok (.getfield 78, 3) := by decide +kernel
theorem dX11_judge_18 : decode cX11_judge 18 = .ok (.iload_n 1, 1) := by decide +kernel
theorem dX11_judge_19 : decode cX11_judge 19 = .ok (.iaload, 1) := by decide +kernel
theorem dX11_judge_20 : decode cX11_judge 20 = .ok (.iaload, 1) := by decide +kernel
theorem dX11_judge_21 : decode cX11_judge 21 = .ok (.aload_n 0, 1) := by decide +kernel
theorem dX11_judge_22 : decode cX11_judge 22 = .ok (.getfield 81, 3) := by decide +kernel
theorem dX11_judge_25 : decode cX11_judge 25 = .ok (.iload_n 1, 1) := by decide +kernel
theorem dX11_judge_26 : decode cX11_judge 26 = .ok (.iaload, 1) := by decide +kernel
theorem dX11_judge_27 : decode cX11_judge 27 = .ok (.if_icmp .eq 5, 3) := by decide +kernel
theorem dX11_judge_30 : decode cX11_judge 30 = .ok (.iload_n 1, 1) := by decide +kernel
theorem dX11_judge_31 : decode cX11_judge 31 = .ok (.ireturn, 1) := by decide +kernel
theorem dX11_judge_32 : decode cX11_judge 32 = .ok (.iinc 1 1, 3) := by decide +kernel
theorem dX11_judge_35 : decode cX11_judge 35 = .ok (.goto (-33), 3) := by decide +kernel
theorem dX11_judge_38 : decode cX11_judge 38 = .ok (.iconst (-1), 1) := by decide +kernel
theorem dX11_judge_39 : decode cX11_judge 39 = .ok (.ireturn, 1) := by decide +kernel
theorem dX11_seed_0 : decode cX11_seed 0 = .ok (.iload_n 1, 1) := by decide +kernel
theorem dX11_seed_1 : decode cX11_seed 1 = .ok (.ifCond .ge 6, 3) := by decide +kernel
theorem dX11_seed_4 : decode cX11_seed 4 = .ok (.ldc 105, 2) := by decide +kernel
theorem dX11_seed_6 : decode cX11_seed 6 = .ok (.ireturn, 1) := by decide +kernel
theorem dX11_seed_7 : decode cX11_seed 7 = .ok (.aload_n 0, 1) := by decide +kernel
theorem dX11_seed_8 : decode cX11_seed 8 = .ok (.getfield 266, 3) := by decide +kernel
theorem dX11_seed_11 : decode cX11_seed 11 = .ok (.istore_n 2, 1) := by decide +kernel
theorem dX11_seed_12 : decode cX11_seed 12 = .ok (.aload_n 0, 1) := by decide +kernel
theorem dX11_seed_13 : decode cX11_seed 13 = .ok (.iload_n 1, 1) := by decide +kernel
theorem dX11_seed_14 : decode cX11_seed 14 = .ok (.putfield 266, 3) := by decide +kernel
theorem dX11_seed_17 : decode cX11_seed 17 = .ok (.iload_n 2, 1) := by decide +kernel
theorem dX11_seed_18 : decode cX11_seed 18 = .ok (.ireturn, 1) := by decide +kernel
set_option maxRecDepth 20000 in
theorem ggX11_keep_X11_in : GoodIn wsX11_keep wsX11_in := goodIn_r _ [10] (by decide +kernel) (by decide +kernel)
set_option maxRecDepth 20000 in
theorem gX11_keep_X11_in : GoodIn wsX11_keep (va_wsS RX11 93 yX11_in wsX11_in) := goodIn_app (goodIn_of _ (by decide +kernel)) ggX11_keep_X11_in
theorem dX11_keep_0 : decode cX11_keep 0 = .ok (.iload_n 1, 1) := by decide +kernel
theorem dX11_keep_1 : decode cX11_keep 1 = .ok (.i2l, 1) := by decide +kernel
theorem dX11_keep_2 : decode cX11_keep 2 = .ok (.lconst 0, 1) := by decide +kernel
theorem dX11_keep_3 : decode cX11_keep 3 = .ok (.lconst 1, 1) := by decide +kernel
theorem dX11_keep_4 : decode cX11_keep 4 = .ok (.invokestatic 93, 3) := by decide +kernel
theorem dX11_keep_7 : decode cX11_keep 7 = .ok (.ifCond .ne 6, 3) := by decide +kernel
theorem dX11_keep_10 : decode cX11_keep 10 = .ok (.ldc 219, 2) := by decide +kernel
theorem dX11_keep_12 : decode cX11_keep 12 = .ok (.ireturn, 1) := by decide +kernel
theorem dX11_keep_13 : decode cX11_keep 13 = .ok (.iconst 0, 1) := by decide +kernel
theorem dX11_keep_14 : decode cX11_keep 14 = .ok (.istore_n 2, 1) := by decide +kernel
theorem dX11_keep_15 : decode cX11_keep 15 = .ok (.iload_n 2, 1) := by decide +kernel
theorem dX11_keep_16 : decode cX11_keep 16 = .ok (.bipush 37, 2) := by decide +kernel
theorem dX11_keep_18 : decode cX11_keep 18 = .ok (.if_icmp .ge 26, 3) := by decide +kernel
theorem dX11_keep_21 : decode cX11_keep 21 = .ok (.aload_n 0, 1) := by decide +kernel
theorem dX11_keep_22 : decode cX11_keep 22 = .ok (.getfield 84, 3) := by decide +kernel
theorem dX11_keep_25 : decode cX11_keep 25 = .ok (.bipush 38, 2) := by decide +kernel
theorem dX11_keep_27 : decode cX11_keep 27 = .ok (.iload_n 1, 1) := by decide +kernel
theorem dX11_keep_28 : decode cX11_keep 28 = .ok (.imul, 1) := by decide +kernel
theorem dX11_keep_29 : decode cX11_keep 29 = .ok (.iload_n 2, 1) := by decide +kernel
theorem dX11_keep_30 : decode cX11_keep 30 = .ok (.iadd, 1) := by decide +kernel
theorem dX11_keep_31 : decode cX11_keep 31 = .ok (.aload_n 0, 1) := by decide +kernel
theorem dX11_keep_32 : decode cX11_keep 32 = .ok (.getfield 22, 3) := by decide +kernel
theorem dX11_keep_35 : decode cX11_keep 35 = .ok (.iload_n 2, 1) := by decide +kernel
theorem dX11_keep_36 : decode cX11_keep 36 = .ok (.iaload, 1) := by decide +kernel
theorem dX11_keep_37 : decode cX11_keep 37 = .ok (.iastore, 1) := by decide +kernel
theorem dX11_keep_38 : decode cX11_keep 38 = .ok (.iinc 2 1, 3) := by decide +kernel
theorem dX11_keep_41 : decode cX11_keep 41 = .ok (.goto (-26), 3) := by decide +kernel
theorem dX11_keep_44 : decode cX11_keep 44 = .ok (.aload_n 0, 1) := by decide +kernel
theorem dX11_keep_45 : decode cX11_keep 45 = .ok (.getfield 84, 3) := by decide +kernel
theorem dX11_keep_48 : decode cX11_keep 48 = .ok (.bipush 38, 2) := by decide +kernel
theorem dX11_keep_50 : decode cX11_keep 50 = .ok (.iload_n 1, 1) := by decide +kernel
theorem dX11_keep_51 : decode cX11_keep 51 = .ok (.imul, 1) := by decide +kernel
theorem dX11_keep_52 : decode cX11_keep 52 = .ok (.bipush 37, 2) := by decide +kernel
theorem dX11_keep_54 : decode cX11_keep 54 = .ok (.iadd, 1) := by decide +kernel
theorem dX11_keep_55 : decode cX11_keep 55 = .ok (.aload_n 0, 1) := by decide +kernel
theorem dX11_keep_56 : decode cX11_keep 56 = .ok (.getfield 266, 3) := by decide +kernel
theorem dX11_keep_59 : decode cX11_keep 59 = .ok (.iastore, 1) := by decide +kernel
theorem dX11_keep_60 : decode cX11_keep 60 = .ok (.aload_n 0, 1) := by decide +kernel
theorem dX11_keep_61 : decode cX11_keep 61 = .ok (.getfield 87, 3) := by decide +kernel
theorem dX11_keep_64 : decode cX11_keep 64 = .ok (.iload_n 1, 1) := by decide +kernel
theorem dX11_keep_65 : decode cX11_keep 65 = .ok (.iconst 1, 1) := by decide +kernel
theorem dX11_keep_66 : decode cX11_keep 66 = .ok (.bastore, 1) := by decide +kernel
theorem dX11_keep_67 : decode cX11_keep 67 = .ok (.aload_n 0, 1) := by decide +kernel
theorem dX11_keep_68 : decode cX11_keep 68 = .ok (.iconst 0, 1) := by decide +kernel
theorem dX11_keep_69 : decode cX11_keep 69 = .ok (.putfield 204, 3) := by decide +kernel
theorem dX11_keep_72 : decode cX11_keep 72 = .ok (.iconst 1, 1) := by decide +kernel
theorem dX11_keep_73 : decode cX11_keep 73 = .ok (.ireturn, 1) := by decide +kernel
set_option maxRecDepth 20000 in
theorem ggX11_goBack_X11_in : GoodIn wsX11_goBack wsX11_in := goodIn_r _ [11] (by decide +kernel) (by decide +kernel)
set_option maxRecDepth 20000 in
theorem gX11_goBack_X11_in : GoodIn wsX11_goBack (va_wsS RX11 93 yX11_in wsX11_in) := goodIn_app (goodIn_of _ (by decide +kernel)) ggX11_goBack_X11_in
theorem dX11_goBack_0 : decode cX11_goBack 0 = .ok (.iload_n 1, 1) := by decide +kernel
theorem dX11_goBack_1 : decode cX11_goBack 1 = .ok (.i2l, 1) := by decide +kernel
theorem dX11_goBack_2 : decode cX11_goBack 2 = .ok (.lconst 0, 1) := by decide +kernel
theorem dX11_goBack_3 : decode cX11_goBack 3 = .ok (.lconst 1, 1) := by decide +kernel
theorem dX11_goBack_4 : decode cX11_goBack 4 = .ok (.invokestatic 93, 3) := by decide +kernel
theorem dX11_goBack_7 : decode cX11_goBack 7 = .ok (.ifCond .ne 6, 3) := by decide +kernel
theorem dX11_goBack_10 : decode cX11_goBack 10 = .ok (.ldc 219, 2) := by decide +kernel
theorem dX11_goBack_12 : decode cX11_goBack 12 = .ok (.ireturn, 1) := by decide +kernel
theorem dX11_goBack_13 : decode cX11_goBack 13 = .ok (.aload_n 0, 1) := by decide +kernel
theorem dX11_goBack_14 : decode cX11_goBack 14 = .ok (.getfield 87, 3) := by decide +kernel
theorem dX11_goBack_17 : decode cX11_goBack 17 = .ok (.iload_n 1, 1) := by decide +kernel
theorem dX11_goBack_18 : decode cX11_goBack 18 = .ok (.baload, 1) := by decide +kernel
theorem dX11_goBack_19 : decode cX11_goBack 19 = .ok (.ifCond .ne 6, 3) := by decide +kernel
theorem dX11_goBack_22 : decode cX11_goBack 22 = .ok (.ldc 247, 2) := by decide +kernel
theorem dX11_goBack_24 : decode cX11_goBack 24 = .ok (.ireturn, 1) := by decide +kernel
theorem dX11_goBack_25 : decode cX11_goBack 25 = .ok (.iconst 0, 1) := by decide +kernel
theorem dX11_goBack_26 : decode cX11_goBack 26 = .ok (.istore_n 2, 1) := by decide +kernel
theorem dX11_goBack_27 : decode cX11_goBack 27 = .ok (.iload_n 2, 1) := by decide +kernel
theorem dX11_goBack_28 : decode cX11_goBack 28 = .ok (.bipush 37, 2) := by decide +kernel
theorem dX11_goBack_30 : decode cX11_goBack 30 = .ok (.if_icmp .ge 26, 3) := by decide +kernel
theorem dX11_goBack_33 : decode cX11_goBack 33 = .ok (.aload_n 0, 1) := by decide +kernel
theorem dX11_goBack_34 : decode cX11_goBack 34 = .ok (.getfield 22, 3) := by decide +kernel
theorem dX11_goBack_37 : decode cX11_goBack 37 = .ok (.iload_n 2, 1) := by decide +kernel
theorem dX11_goBack_38 : decode cX11_goBack 38 = .ok (.aload_n 0, 1) := by decide +kernel
theorem dX11_goBack_39 : decode cX11_goBack 39 = .ok (.getfield 84, 3) := by decide +kernel
theorem dX11_goBack_42 : decode cX11_goBack 42 = .ok (.bipush 38, 2) := by decide +kernel
theorem dX11_goBack_44 : decode cX11_goBack 44 = .ok (.iload_n 1, 1) := by decide +kernel
theorem dX11_goBack_45 : decode cX11_goBack 45 = .ok (.imul, 1) := by decide +kernel
theorem dX11_goBack_46 : decode cX11_goBack 46 = .ok (.iload_n 2, 1) := by decide +kernel
theorem dX11_goBack_47 : decode cX11_goBack 47 = .ok (.iadd, 1) := by decide +kernel
theorem dX11_goBack_48 : decode cX11_goBack 48 = .ok (.iaload, 1) := by decide +kernel
theorem dX11_goBack_49 : decode cX11_goBack 49 = .ok (.iastore, 1) := by decide +kernel
theorem dX11_goBack_50 : decode cX11_goBack 50 = .ok (.iinc 2 1, 3) := by decide +kernel
theorem dX11_goBack_53 : decode cX11_goBack 53 = .ok (.goto (-26), 3) := by decide +kernel
theorem dX11_goBack_56 : decode cX11_goBack 56 = .ok (.aload_n 0, 1) := by decide +kernel
theorem dX11_goBack_57 : decode cX11_goBack 57 = .ok (.aload_n 0, 1) := by decide +kernel
theorem dX11_goBack_58 : decode cX11_goBack 58 = .ok (.getfield 84, 3) := by decide +kernel
theorem dX11_goBack_61 : decode cX11_goBack 61 = .ok (.bipush 38, 2) := by decide +kernel
theorem dX11_goBack_63 : decode cX11_goBack 63 = .ok (.iload_n 1, 1) := by decide +kernel
theorem dX11_goBack_64 : decode cX11_goBack 64 = .ok (.imul, 1) := by decide +kernel
theorem dX11_goBack_65 : decode cX11_goBack 65 = .ok (.bipush 37, 2) := by decide +kernel
theorem dX11_goBack_67 : decode cX11_goBack 67 = .ok (.iadd, 1) := by decide +kernel
theorem dX11_goBack_68 : decode cX11_goBack 68 = .ok (.iaload, 1) := by decide +kernel
theorem dX11_goBack_69 : decode cX11_goBack 69 = .ok (.putfield 266, 3) := by decide +kernel
theorem dX11_goBack_72 : decode cX11_goBack 72 = .ok (.aload_n 0, 1) := by decide +kernel
theorem dX11_goBack_73 : decode cX11_goBack 73 = .ok (.iconst 0, 1) := by decide +kernel
theorem dX11_goBack_74 : decode cX11_goBack 74 = .ok (.putfield 204, 3) := by decide +kernel
theorem dX11_goBack_77 : decode cX11_goBack 77 = .ok (.iconst 1, 1) := by decide +kernel
theorem dX11_goBack_78 : decode cX11_goBack 78 = .ok (.ireturn, 1) := by decide +kernel
