theorem dX11_init_0 : decode cX11_init 0 = .ok (.aload_n 0, 1) := by decide +kernel
theorem dX11_init_1 : decode cX11_init 1 = .ok (.invokespecial 1, 3) := by decide +kernel
theorem dX11_init_4 : decode cX11_init 4 = .ok (.aload_n 0, 1) := by decide +kernel
theorem dX11_init_5 : decode cX11_init 5 = .ok (.bipush 6, 2) := by decide +kernel
theorem dX11_init_7 : decode cX11_init 7 = .ok (.newarray .int, 2) := by decide +kernel
theorem dX11_init_9 : decode cX11_init 9 = .ok (.putfield 7, 3) := by decide +kernel
theorem dX11_init_12 : decode cX11_init 12 = .ok (.aload_n 0, 1) := by decide +kernel
theorem dX11_init_13 : decode cX11_init 13 = .ok (.iconst 5, 1) := by decide +kernel
theorem dX11_init_14 : decode cX11_init 14 = .ok (.newarray .int, 2) := by decide +kernel
theorem dX11_init_16 : decode cX11_init 16 = .ok (.putfield 13, 3) := by decide +kernel
theorem dX11_init_19 : decode cX11_init 19 = .ok (.aload_n 0, 1) := by decide +kernel
theorem dX11_init_20 : decode cX11_init 20 = .ok (.bipush 10, 2) := by decide +kernel
theorem dX11_init_22 : decode cX11_init 22 = .ok (.newarray .int, 2) := by decide +kernel
theorem dX11_init_24 : decode cX11_init 24 = .ok (.putfield 16, 3) := by decide +kernel
theorem dX11_init_27 : decode cX11_init 27 = .ok (.aload_n 0, 1) := by decide +kernel
theorem dX11_init_28 : decode cX11_init 28 = .ok (.bipush 10, 2) := by decide +kernel
theorem dX11_init_30 : decode cX11_init 30 = .ok (.newarray .int, 2) := by decide +kernel
theorem dX11_init_32 : decode cX11_init 32 = .ok (.putfield 19, 3) := by decide +kernel
theorem dX11_init_35 : decode cX11_init 35 = .ok (.aload_n 0, 1) := by decide +kernel
theorem dX11_init_36 : decode cX11_init 36 = .ok (.bipush 37, 2) := by decide +kernel
theorem dX11_init_38 : decode cX11_init 38 = .ok (.newarray .int, 2) := by decide +kernel
theorem dX11_init_40 : decode cX11_init 40 = .ok (.putfield 22, 3) := by decide +kernel
theorem dX11_init_43 : decode cX11_init 43 = .ok (.aload_n 0, 1) := by decide +kernel
theorem dX11_init_44 : decode cX11_init 44 = .ok (.sipush 240, 3) := by decide +kernel
theorem dX11_init_47 : decode cX11_init 47 = .ok (.newarray .int, 2) := by decide +kernel
theorem dX11_init_49 : decode cX11_init 49 = .ok (.putfield 25, 3) := by decide +kernel
theorem dX11_init_52 : decode cX11_init 52 = .ok (.aload_n 0, 1) := by decide +kernel
theorem dX11_init_53 : decode cX11_init 53 = .ok (.iconst (-1), 1) := by decide +kernel
theorem dX11_init_54 : decode cX11_init 54 = .ok (.putfield 28, 3) := by decide +kernel
theorem dX11_init_57 : decode cX11_init 57 = .ok (.aload_n 0, 1) := by decide +kernel
theorem dX11_init_58 : decode cX11_init 58 = .ok (.iconst 3, 1) := by decide +kernel
theorem dX11_init_59 : decode cX11_init 59 = .ok (.newarray .int, 2) := by decide +kernel
theorem dX11_init_61 : decode cX11_init 61 = .ok (.putfield 32, 3) := by decide +kernel
theorem dX11_init_64 : decode cX11_init 64 = .ok (.aload_n 0, 1) := by decide +kernel
theorem dX11_init_65 : decode cX11_init 65 = .ok (.bipush 6, 2) := by decide +kernel
theorem dX11_init_67 : decode cX11_init 67 = .ok (.newarray .int, 2) := by decide +kernel
theorem dX11_init_69 : decode cX11_init 69 = .ok (.putfield 35, 3) := by decide +kernel
theorem dX11_init_72 : decode cX11_init 72 = .ok (.aload_n 0, 1) := by decide +kernel
theorem dX11_init_73 : decode cX11_init 73 = .ok (.bipush 6, 2) := by decide +kernel
theorem dX11_init_75 : decode cX11_init 75 = .ok (.newarray .int, 2) := by decide +kernel
theorem dX11_init_77 : decode cX11_init 77 = .ok (.putfield 38, 3) := by decide +kernel
theorem dX11_init_80 : decode cX11_init 80 = .ok (.aload_n 0, 1) := by decide +kernel
theorem dX11_init_81 : decode cX11_init 81 = .ok (.iconst 5, 1) := by decide +kernel
theorem dX11_init_82 : decode cX11_init 82 = .ok (.newarray .int, 2) := by decide +kernel
theorem dX11_init_84 : decode cX11_init 84 = .ok (.putfield 41, 3) := by decide +kernel
theorem dX11_init_87 : decode cX11_init 87 = .ok (.aload_n 0, 1) := by decide +kernel
theorem dX11_init_88 : decode cX11_init 88 = .ok (.iconst 5, 1) := by decide +kernel
theorem dX11_init_89 : decode cX11_init 89 = .ok (.newarray .int, 2) := by decide +kernel
theorem dX11_init_91 : decode cX11_init 91 = .ok (.putfield 44, 3) := by decide +kernel
theorem dX11_init_94 : decode cX11_init 94 = .ok (.aload_n 0, 1) := by decide +kernel
theorem dX11_init_95 : decode cX11_init 95 = .ok (.bipush 10, 2) := by decide +kernel
theorem dX11_init_97 : decode cX11_init 97 = .ok (.newarray .int, 2) := by decide +kernel
theorem dX11_init_99 : decode cX11_init 99 = .ok (.putfield 47, 3) := by decide +kernel
theorem dX11_init_102 : decode cX11_init 102 = .ok (.aload_n 0, 1) := by decide +kernel
theorem dX11_init_103 : decode cX11_init 103 = .ok (.bipush 10, 2) := by decide +kernel
theorem dX11_init_105 : decode cX11_init 105 = .ok (.newarray .int, 2) := by decide +kernel
theorem dX11_init_107 : decode cX11_init 107 = .ok (.putfield 50, 3) := by decide +kernel
theorem dX11_init_110 : decode cX11_init 110 = .ok (.aload_n 0, 1) := by decide +kernel
theorem dX11_init_111 : decode cX11_init 111 = .ok (.sipush 740, 3) := by decide +kernel
theorem dX11_init_114 : decode cX11_init 114 = .ok (.newarray .int, 2) := by decide +kernel
theorem dX11_init_116 : decode cX11_init 116 = .ok (.putfield 53, 3) := by decide +kernel
theorem dX11_init_119 : decode cX11_init 119 = .ok (.aload_n 0, 1) := by decide +kernel
theorem dX11_init_120 : decode cX11_init 120 = .ok (.bipush 37, 2) := by decide +kernel
theorem dX11_init_122 : decode cX11_init 122 = .ok (.newarray .int, 2) := by decide +kernel
theorem dX11_init_124 : decode cX11_init 124 = .ok (.putfield 56, 3) := by decide +kernel
theorem dX11_init_127 : decode cX11_init 127 = .ok (.aload_n 0, 1) := by decide +kernel
theorem dX11_init_128 : decode cX11_init 128 = .ok (.bipush 64, 2) := by decide +kernel
theorem dX11_init_130 : decode cX11_init 130 = .ok (.newarray .boolean, 2) := by decide +kernel
theorem dX11_init_132 : decode cX11_init 132 = .ok (.putfield 59, 3) := by decide +kernel
theorem dX11_init_135 : decode cX11_init 135 = .ok (.aload_n 0, 1) := by decide +kernel
theorem dX11_init_136 : decode cX11_init 136 = .ok (.bipush 6, 2) := by decide +kernel
theorem dX11_init_138 : decode cX11_init 138 = .ok (.newarray .int, 2) := by decide +kernel
theorem dX11_init_140 : decode cX11_init 140 = .ok (.putfield 63, 3) := by decide +kernel
theorem dX11_init_143 : decode cX11_init 143 = .ok (.aload_n 0, 1) := by decide +kernel
theorem dX11_init_144 : decode cX11_init 144 = .ok (.bipush 6, 2) := by decide +kernel
theorem dX11_init_146 : decode cX11_init 146 = .ok (.newarray .int, 2) := by decide +kernel
theorem dX11_init_148 : decode cX11_init 148 = .ok (.putfield 66, 3) := by decide +kernel
theorem dX11_init_151 : decode cX11_init 151 = .ok (.aload_n 0, 1) := by decide +kernel
theorem dX11_init_152 : decode cX11_init 152 = .ok (.bipush 6, 2) := by decide +kernel
theorem dX11_init_154 : decode cX11_init 154 = .ok (.newarray .int, 2) := by decide +kernel
theorem dX11_init_156 : decode cX11_init 156 = .ok (.putfield 69, 3) := by decide +kernel
theorem dX11_init_159 : decode cX11_init 159 = .ok (.aload_n 0, 1) := by decide +kernel
theorem dX11_init_160 : decode cX11_init 160 = .ok (.bipush 6, 2) := by decide +kernel
theorem dX11_init_162 : decode cX11_init 162 = .ok (.newarray .int, 2) := by decide +kernel
theorem dX11_init_164 : decode cX11_init 164 = .ok (.putfield 72, 3) := by decide +kernel
theorem dX11_init_167 : decode cX11_init 167 = .ok (.aload_n 0, 1) := by decide +kernel
theorem dX11_init_168 : decode cX11_init 168 = .ok (.bipush 6, 2) := by decide +kernel
theorem dX11_init_170 : decode cX11_init 170 = .ok (.newarray .int, 2) := by decide +kernel
theorem dX11_init_172 : decode cX11_init 172 = .ok (.putfield 75, 3) := by decide +kernel
theorem dX11_init_175 : decode cX11_init 175 = .ok (.aload_n 0, 1) := by decide +kernel
theorem dX11_init_176 : decode cX11_init 176 = .ok (.bipush 15, 2) := by decide +kernel
theorem dX11_init_178 : decode cX11_init 178 = .ok (.newarray .int, 2) := by decide +kernel
theorem dX11_init_180 : decode cX11_init 180 = .ok (.putfield 78, 3) := by decide +kernel
theorem dX11_init_183 : decode cX11_init 183 = .ok (.aload_n 0, 1) := by decide +kernel
theorem dX11_init_184 : decode cX11_init 184 = .ok (.bipush 15, 2) := by decide +kernel
theorem dX11_init_186 : decode cX11_init 186 = .ok (.newarray .int, 2) := by decide +kernel
theorem dX11_init_188 : decode cX11_init 188 = .ok (.putfield 81, 3) := by decide +kernel
theorem dX11_init_191 : decode cX11_init 191 = .ok (.aload_n 0, 1) := by decide +kernel
theorem dX11_init_192 : decode cX11_init 192 = .ok (.bipush 76, 2) := by decide +kernel
theorem dX11_init_194 : decode cX11_init 194 = .ok (.newarray .int, 2) := by decide +kernel
theorem dX11_init_196 : decode cX11_init 196 = .ok (.putfield 84, 3) := by decide +kernel
theorem dX11_init_199 : decode cX11_init 199 = .ok (.aload_n 0, 1) := by decide +kernel
theorem dX11_init_200 : decode cX11_init 200 = .ok (.iconst 2, 1) := by decide +kernel
theorem dX11_init_201 : decode cX11_init 201 = .ok (.newarray .boolean, 2) := by decide +kernel
theorem dX11_init_203 : decode cX11_init 203 = .ok (.putfield 87, 3) := by decide +kernel
theorem dX11_init_206 : decode cX11_init 206 = .ok (.aload_n 0, 1) := by decide +kernel
theorem dX11_init_207 : decode cX11_init 207 = .ok (.iconst 0, 1) := by decide +kernel
theorem dX11_init_208 : decode cX11_init 208 = .ok (.putfield 90, 3) := by decide +kernel
theorem dX11_init_211 : decode cX11_init 211 = .ok (.return_, 1) := by decide +kernel
theorem dX11_in_0 : decode cX11_in 0 = .ok (.lload_n 0, 1) := by decide +kernel
theorem dX11_in_1 : decode cX11_in 1 = .ok (.lload_n 2, 1) := by decide +kernel
theorem dX11_in_2 : decode cX11_in 2 = .ok (.lcmp, 1) := by decide +kernel
theorem dX11_in_3 : decode cX11_in 3 = .ok (.ifCond .lt 14, 3) := by decide +kernel
theorem dX11_in_6 : decode cX11_in 6 = .ok (.lload_n 0, 1) := by decide +kernel
theorem dX11_in_7 : decode cX11_in 7 = .ok (.lload 4, 2) := by decide +kernel
theorem dX11_in_9 : decode cX11_in 9 = .ok (.lcmp, 1) := by decide +kernel
theorem dX11_in_10 : decode cX11_in 10 = .ok (.ifCond .gt 7, 3) := by decide +kernel
theorem dX11_in_13 : decode cX11_in 13 = .ok (.iconst 1, 1) := by decide +kernel
theorem dX11_in_14 : decode cX11_in 14 = .ok (.goto 4, 3) := by decide +kernel
theorem dX11_in_17 : decode cX11_in 17 = .ok (.iconst 0, 1) := by decide +kernel
theorem dX11_in_18 : decode cX11_in 18 = .ok (.ireturn, 1) := by decide +kernel
theorem dX11_has_0 : decode cX11_has 0 = .ok (.iload_n 0, 1) := by decide +kernel
theorem dX11_has_1 : decode cX11_has 1 = .ok (.iload_n 1, 1) := by decide +kernel
theorem dX11_has_2 : decode cX11_has 2 = .ok (.ishr, 1) := by decide +kernel
theorem dX11_has_3 : decode cX11_has 3 = .ok (.iconst 1, 1) := by decide +kernel
theorem dX11_has_4 : decode cX11_has 4 = .ok (.iand, 1) := by decide +kernel
theorem dX11_has_5 : decode cX11_has 5 = .ok (.iconst 1, 1) := by decide +kernel
theorem dX11_has_6 : decode cX11_has 6 = .ok (.if_icmp .ne 7, 3) := by decide +kernel
theorem dX11_has_9 : decode cX11_has 9 = .ok (.iconst 1, 1) := by decide +kernel
theorem dX11_has_10 : decode cX11_has 10 = .ok (.goto 4, 3) := by decide +kernel
theorem dX11_has_13 : decode cX11_has 13 = .ok (.iconst 0, 1) := by decide +kernel
theorem dX11_has_14 : decode cX11_has 14 = .ok (.ireturn, 1) := by decide +kernel
theorem dX11_bits_0 : decode cX11_bits 0 = .ok (.iconst 0, 1) := by decide +kernel
theorem dX11_bits_1 : decode cX11_bits 1 = .ok (.istore_n 1, 1) := by decide +kernel
theorem dX11_bits_2 : decode cX11_bits 2 = .ok (.iconst 0, 1) := by decide +kernel
theorem dX11_bits_3 : decode cX11_bits 3 = .ok (.istore_n 2, 1) := by decide +kernel
theorem dX11_bits_4 : decode cX11_bits 4 = .ok (.iload_n 2, 1) := by decide +kernel
theorem dX11_bits_5 : decode cX11_bits 5 = .ok (.bipush 6, 2) := by decide +kernel
theorem dX11_bits_7 : decode cX11_bits 7 = .ok (.if_icmp .ge 17, 3) := by decide +kernel
theorem dX11_bits_10 : decode cX11_bits 10 = .ok (.iload_n 1, 1) := by decide +kernel
theorem dX11_bits_11 : decode cX11_bits 11 = .ok (.iload_n 0, 1) := by decide +kernel
theorem dX11_bits_12 : decode cX11_bits 12 = .ok (.iload_n 2, 1) := by decide +kernel
theorem dX11_bits_13 : decode cX11_bits 13 = .ok (.ishr, 1) := by decide +kernel
theorem dX11_bits_14 : decode cX11_bits 14 = .ok (.iconst 1, 1) := by decide +kernel
theorem dX11_bits_15 : decode cX11_bits 15 = .ok (.iand, 1) := by decide +kernel
theorem dX11_bits_16 : decode cX11_bits 16 = .ok (.iadd, 1) := by decide +kernel
theorem dX11_bits_17 : decode cX11_bits 17 = .ok (.istore_n 1, 1) := by decide +kernel
theorem dX11_bits_18 : decode cX11_bits 18 = .ok (.iinc 2 1, 3) := by decide +kernel
theorem dX11_bits_21 : decode cX11_bits 21 = .ok (.goto (-17), 3) := by decide +kernel
theorem dX11_bits_24 : decode cX11_bits 24 = .ok (.iload_n 1, 1) := by decide +kernel
theorem dX11_bits_25 : decode cX11_bits 25 = .ok (.ireturn, 1) := by decide +kernel
theorem dX11_atMost_0 : decode cX11_atMost 0 = .ok (.iload_n 0, 1) := by decide +kernel
theorem dX11_atMost_1 : decode cX11_atMost 1 = .ok (.iload_n 1, 1) := by decide +kernel
theorem dX11_atMost_2 : decode cX11_atMost 2 = .ok (.if_icmp .ge 7, 3) := by decide +kernel
theorem dX11_atMost_5 : decode cX11_atMost 5 = .ok (.iload_n 0, 1) := by decide +kernel
theorem dX11_atMost_6 : decode cX11_atMost 6 = .ok (.goto 4, 3) := by decide +kernel
theorem dX11_atMost_9 : decode cX11_atMost 9 = .ok (.iload_n 1, 1) := by decide +kernel
theorem dX11_atMost_10 : decode cX11_atMost 10 = .ok (.ireturn, 1) := by decide +kernel
set_option maxRecDepth 20000 in
theorem ggX11_isCell_X11_in : GoodIn wsX11_isCell wsX11_in := goodIn_r _ [5] (by decide +kernel) (by decide +kernel)
set_option maxRecDepth 20000 in
theorem gX11_isCell_X11_in : GoodIn wsX11_isCell (va_wsS RX11 93 yX11_in wsX11_in) := goodIn_app (goodIn_of _ (by decide +kernel)) ggX11_isCell_X11_in
theorem dX11_isCell_0 : decode cX11_isCell 0 = .ok (.iload_n 1, 1) := by decide +kernel
theorem dX11_isCell_1 : decode cX11_isCell 1 = .ok (.i2l, 1) := by decide +kernel
theorem dX11_isCell_2 : decode cX11_isCell 2 = .ok (.lconst 0, 1) := by decide +kernel
theorem dX11_isCell_3 : decode cX11_isCell 3 = .ok (.aload_n 0, 1) := by decide +kernel
theorem dX11_isCell_4 : decode cX11_isCell 4 = .ok (.getfield 90, 3) := by decide +kernel
theorem dX11_isCell_7 : decode cX11_isCell 7 = .ok (.iconst 1, 1) := by decide +kernel
theorem dX11_isCell_8 : decode cX11_isCell 8 = .ok (.isub, 1) := by decide +kernel
theorem dX11_isCell_9 : decode cX11_isCell 9 = .ok (.i2l, 1) := by decide +kernel
theorem dX11_isCell_10 : decode cX11_isCell 10 = .ok (.invokestatic 93, 3) := by decide +kernel
theorem dX11_isCell_13 : decode cX11_isCell 13 = .ok (.ireturn, 1) := by decide +kernel
set_option maxRecDepth 20000 in
theorem ggX11_isPost_X11_in : GoodIn wsX11_isPost wsX11_in := goodIn_r _ [5] (by decide +kernel) (by decide +kernel)
set_option maxRecDepth 20000 in
theorem gX11_isPost_X11_in : GoodIn wsX11_isPost (va_wsS RX11 93 yX11_in wsX11_in) := goodIn_app (goodIn_of _ (by decide +kernel)) ggX11_isPost_X11_in
theorem dX11_isPost_0 : decode cX11_isPost 0 = .ok (.iload_n 1, 1) := by decide +kernel
theorem dX11_isPost_1 : decode cX11_isPost 1 = .ok (.i2l, 1) := by decide +kernel
theorem dX11_isPost_2 : decode cX11_isPost 2 = .ok (.lconst 0, 1) := by decide +kernel
theorem dX11_isPost_3 : decode cX11_isPost 3 = .ok (.aload_n 0, 1) := by decide +kernel
theorem dX11_isPost_4 : decode cX11_isPost 4 = .ok (.getfield 97, 3) := by decide +kernel
theorem dX11_isPost_7 : decode cX11_isPost 7 = .ok (.iconst 1, 1) := by decide +kernel
theorem dX11_isPost_8 : decode cX11_isPost 8 = .ok (.isub, 1) := by decide +kernel
theorem dX11_isPost_9 : decode cX11_isPost 9 = .ok (.i2l, 1) := by decide +kernel
theorem dX11_isPost_10 : decode cX11_isPost 10 = .ok (.invokestatic 93, 3) := by decide +kernel
theorem dX11_isPost_13 : decode cX11_isPost 13 = .ok (.ireturn, 1) := by decide +kernel
set_option maxRecDepth 20000 in
theorem ggX11_isCrow_X11_in : GoodIn wsX11_isCrow wsX11_in := goodIn_r _ [5] (by decide +kernel) (by decide +kernel)
set_option maxRecDepth 20000 in
theorem gX11_isCrow_X11_in : GoodIn wsX11_isCrow (va_wsS RX11 93 yX11_in wsX11_in) := goodIn_app (goodIn_of _ (by decide +kernel)) ggX11_isCrow_X11_in
theorem dX11_isCrow_0 : decode cX11_isCrow 0 = .ok (.iload_n 1, 1) := by decide +kernel
theorem dX11_isCrow_1 : decode cX11_isCrow 1 = .ok (.i2l, 1) := by decide +kernel
theorem dX11_isCrow_2 : decode cX11_isCrow 2 = .ok (.lconst 0, 1) := by decide +kernel
theorem dX11_isCrow_3 : decode cX11_isCrow 3 = .ok (.aload_n 0, 1) := by decide +kernel
theorem dX11_isCrow_4 : decode cX11_isCrow 4 = .ok (.getfield 100, 3) := by decide +kernel
theorem dX11_isCrow_7 : decode cX11_isCrow 7 = .ok (.iconst 1, 1) := by decide +kernel
theorem dX11_isCrow_8 : decode cX11_isCrow 8 = .ok (.isub, 1) := by decide +kernel
theorem dX11_isCrow_9 : decode cX11_isCrow 9 = .ok (.i2l, 1) := by decide +kernel
theorem dX11_isCrow_10 : decode cX11_isCrow 10 = .ok (.invokestatic 93, 3) := by decide +kernel
theorem dX11_isCrow_13 : decode cX11_isCrow 13 = .ok (.ireturn, 1) := by decide +kernel
set_option maxRecDepth 20000 in
theorem ggX11_feed_X11_in : GoodIn wsX11_feed wsX11_in := goodIn_r _ [9] (by decide +kernel) (by decide +kernel)
set_option maxRecDepth 20000 in
theorem gX11_feed_X11_in : GoodIn wsX11_feed (va_wsS RX11 93 yX11_in wsX11_in) := goodIn_app (goodIn_of _ (by decide +kernel)) ggX11_feed_X11_in
theorem dX11_feed_0 : decode cX11_feed 0 = .ok (.iload_n 1, 1) := by decide +kernel
theorem dX11_feed_1 : decode cX11_feed 1 = .ok (.i2l, 1) := by decide +kernel
theorem dX11_feed_2 : decode cX11_feed 2 = .ok (.lconst 0, 1) := by decide +kernel
theorem dX11_feed_3 : decode cX11_feed 3 = .ok (.ldc2_w 103, 3) := by decide +kernel
theorem dX11_feed_6 : decode cX11_feed 6 = .ok (.invokestatic 93, 3) := by decide +kernel
theorem dX11_feed_9 : decode cX11_feed 9 = .ok (.ifCond .ne 6, 3) := by decide +kernel
theorem dX11_feed_12 : decode cX11_feed 12 = .ok (.ldc 105, 2) := by decide +kernel
theorem dX11_feed_14 : decode cX11_feed 14 = .ok (.ireturn, 1) := by decide +kernel
theorem dX11_feed_15 : decode cX11_feed 15 = .ok (.aload_n 0, 1) := by decide +kernel
theorem dX11_feed_16 : decode cX11_feed 16 = .ok (.getfield 106, 3) := by decide +kernel
theorem dX11_feed_19 : decode cX11_feed 19 = .ok (.sipush 240, 3) := by decide +kernel
theorem dX11_feed_22 : decode cX11_feed 22 = .ok (.if_icmp .ne 6, 3) := by decide +kernel
theorem dX11_feed_25 : decode cX11_feed 25 = .ok (.ldc 109, 2) := by decide +kernel
theorem dX11_feed_27 : decode cX11_feed 27 = .ok (.ireturn, 1) := by decide +kernel
theorem dX11_feed_28 : decode cX11_feed 28 = .ok (.aload_n 0, 1) := by decide +kernel
theorem dX11_feed_29 : decode cX11_feed 29 = .ok (.getfield 25, 3) := by decide +kernel
theorem dX11_feed_32 : decode cX11_feed 32 = .ok (.aload_n 0, 1) := by decide +kernel
theorem dX11_feed_33 : decode cX11_feed 33 = .ok (.getfield 106, 3) := by decide +kernel
theorem dX11_feed_36 : decode cX11_feed 36 = .ok (.iload_n 1, 1) := by decide +kernel
theorem dX11_feed_37 : decode cX11_feed 37 = .ok (.iastore, 1) := by decide +kernel
theorem dX11_feed_38 : decode cX11_feed 38 = .ok (.aload_n 0, 1) := by decide +kernel
theorem dX11_feed_39 : decode cX11_feed 39 = .ok (.dup, 1) := by decide +kernel
theorem dX11_feed_40 : decode cX11_feed 40 = .ok (.getfield 106, 3) := by decide +kernel
theorem dX11_feed_43 : decode cX11_feed 43 = .ok (.iconst 1, 1) := by decide +kernel
theorem dX11_feed_44 : decode cX11_feed 44 = .ok (.iadd, 1) := by decide +kernel
theorem dX11_feed_45 : decode cX11_feed 45 = .ok (.putfield 106, 3) := by decide +kernel
theorem dX11_feed_48 : decode cX11_feed 48 = .ok (.aload_n 0, 1) := by decide +kernel
theorem dX11_feed_49 : decode cX11_feed 49 = .ok (.getfield 106, 3) := by decide +kernel
theorem dX11_feed_52 : decode cX11_feed 52 = .ok (.ireturn, 1) := by decide +kernel
theorem dX11_here_0 : decode cX11_here 0 = .ok (.aload_n 0, 1) := by decide +kernel
theorem dX11_here_1 : decode cX11_here 1 = .ok (.getfield 110, 3) := by decide +kernel
theorem dX11_here_4 : decode cX11_here 4 = .ok (.aload_n 0, 1) := by decide +kernel
theorem dX11_here_5 : decode cX11_here 5 = .ok (.getfield 106, 3) := by decide +kernel
theorem dX11_here_8 : decode cX11_here 8 = .ok (.if_icmp .ge 30, 3) := by decide +kernel
theorem dX11_here_11 : decode cX11_here 11 = .ok (.aload_n 0, 1) := by decide +kernel
theorem dX11_here_12 : decode cX11_here 12 = .ok (.getfield 25, 3) := by decide +kernel
theorem dX11_here_15 : decode cX11_here 15 = .ok (.aload_n 0, 1) := by decide +kernel
theorem dX11_here_16 : decode cX11_here 16 = .ok (.getfield 110, 3) := by decide +kernel
theorem dX11_here_19 : decode cX11_here 19 = .ok (.iaload, 1) := by decide +kernel
theorem dX11_here_20 : decode cX11_here 20 = .ok (.bipush 32, 2) := by decide +kernel
theorem dX11_here_22 : decode cX11_here 22 = .ok (.if_icmp .ne 16, 3) := by decide +kernel
theorem dX11_here_25 : decode cX11_here 25 = .ok (.aload_n 0, 1) := by decide +kernel
theorem dX11_here_26 : decode cX11_here 26 = .ok (.dup, 1) := by decide +kernel
theorem dX11_here_27 : decode cX11_here 27 = .ok (.getfield 110, 3) := by decide +kernel
theorem dX11_here_30 : decode cX11_here 30 = .ok (.iconst 1, 1) := by decide +kernel
theorem dX11_here_31 : decode cX11_here 31 = .ok (.iadd, 1) := by decide +kernel
theorem dX11_here_32 : decode cX11_here 32 = .ok (.putfield 110, 3) := by decide +kernel
theorem dX11_here_35 : decode cX11_here 35 = .ok (.goto (-35), 3) := by decide +kernel
theorem dX11_here_38 : decode cX11_here 38 = .ok (.aload_n 0, 1) := by decide +kernel
theorem dX11_here_39 : decode cX11_here 39 = .ok (.getfield 110, 3) := by decide +kernel
theorem dX11_here_42 : decode cX11_here 42 = .ok (.aload_n 0, 1) := by decide +kernel
theorem dX11_here_43 : decode cX11_here 43 = .ok (.getfield 106, 3) := by decide +kernel
theorem dX11_here_46 : decode cX11_here 46 = .ok (.if_icmp .ge 15, 3) := by decide +kernel
theorem dX11_here_49 : decode cX11_here 49 = .ok (.aload_n 0, 1) := by decide +kernel
theorem dX11_here_50 : decode cX11_here 50 = .ok (.getfield 25, 3) := by decide +kernel
theorem dX11_here_53 : decode cX11_here 53 = .ok (.aload_n 0, 1) := by decide +kernel
theorem dX11_here_54 : decode cX11_here 54 = .ok (.getfield 110, 3) := by decide +kernel
theorem dX11_here_57 : decode cX11_here 57 = .ok (.iaload, 1) := by decide +kernel
theorem dX11_here_58 : decode cX11_here 58 = .ok (.goto 4, 3) := by decide +kernel
theorem dX11_here_61 : decode cX11_here 61 = .ok (.iconst (-1), 1) := by decide +kernel
theorem dX11_here_62 : decode cX11_here 62 = .ok (.ireturn, 1) := by decide +kernel
theorem dX11_fails_0 : decode cX11_fails 0 = .ok (.aload_n 0, 1) := by decide +kernel
theorem dX11_fails_1 : decode cX11_fails 1 = .ok (.iload_n 2, 1) := by decide +kernel
theorem dX11_fails_2 : decode cX11_fails 2 = .ok (.putfield 28, 3) := by decide +kernel
theorem dX11_fails_5 : decode cX11_fails 5 = .ok (.iload_n 1, 1) := by decide +kernel
theorem dX11_fails_6 : decode cX11_fails 6 = .ok (.ireturn, 1) := by decide +kernel
set_option maxRecDepth 20000 in
theorem ggX11_takeNumber_X11_here : GoodIn wsX11_takeNumber wsX11_here := goodIn_r _ [12, 3, 6, 7, 21, 22, 23, 24, 25, 26, 27, 28, 29, 30, 31, 32, 33, 34, 35, 36, 37, 38, 39, 40, 41, 42, 43, 44, 45, 46, 47, 48, 49, 50, 51, 52, 53, 54, 55, 56, 57, 58, 59, 60, 61, 62, 63, 64, 65] (by decide +kernel) (by decide +kernel)
set_option maxRecDepth 20000 in
theorem gX11_takeNumber_X11_here : GoodIn wsX11_takeNumber (wsV RX11 113 RX11 yX11_here wsX11_here) := goodIn_app (goodIn_of _ (by decide +kernel)) ggX11_takeNumber_X11_here
set_option maxRecDepth 20000 in
theorem ggX11_takeNumber_X11_in : GoodIn wsX11_takeNumber wsX11_in := goodIn_r _ [15] (by decide +kernel) (by decide +kernel)
set_option maxRecDepth 20000 in
theorem gX11_takeNumber_X11_in : GoodIn wsX11_takeNumber (va_wsS RX11 93 yX11_in wsX11_in) := goodIn_app (goodIn_of _ (by decide +kernel)) ggX11_takeNumber_X11_in
set_option maxRecDepth 20000 in
theorem ggX11_takeNumber_X11_fails : GoodIn wsX11_takeNumber wsX11_fails := goodIn_r _ [19, 20, 21, 22, 23, 24, 25, 26, 27, 28, 29, 30, 31, 32, 33, 34, 35, 36, 37, 38, 39, 40, 41, 42, 43, 44, 45, 46, 47, 48, 49, 50, 51, 52, 53, 54, 55, 56, 57, 58, 59, 60, 61, 62, 63, 64, 65] (by decide +kernel) (by decide +kernel)
set_option maxRecDepth 20000 in
theorem gX11_takeNumber_X11_fails : GoodIn wsX11_takeNumber (wsV RX11 121 RX11 yX11_fails wsX11_fails) := goodIn_app (goodIn_of _ (by decide +kernel)) ggX11_takeNumber_X11_fails
theorem dX11_takeNumber_0 : decode cX11_takeNumber 0 = .ok (.aload_n 0, 1) := by decide +kernel
theorem dX11_takeNumber_1 : decode cX11_takeNumber 1 = .ok (.invokevirtual 113, 3) := by decide +kernel
theorem dX11_takeNumber_4 : decode cX11_takeNumber 4 = .ok (.istore_n 3, 1) := by decide +kernel
theorem dX11_takeNumber_5 : decode cX11_takeNumber 5 = .ok (.iload_n 3, 1) := by decide +kernel
theorem dX11_takeNumber_6 : decode cX11_takeNumber 6 = .ok (.i2l, 1) := by decide +kernel
theorem dX11_takeNumber_7 : decode cX11_takeNumber 7 = .ok (.ldc2_w 117, 3) := by decide +kernel
theorem dX11_takeNumber_10 : decode cX11_takeNumber 10 = .ok (.ldc2_w 119, 3) := by decide +kernel
theorem dX11_takeNumber_13 : decode cX11_takeNumber 13 = .ok (.invokestatic 93, 3) := by decide +kernel
theorem dX11_takeNumber_16 : decode cX11_takeNumber 16 = .ok (.ifCond .ne 13, 3) := by decide +kernel
theorem dX11_takeNumber_19 : decode cX11_takeNumber 19 = .ok (.aload_n 0, 1) := by decide +kernel
theorem dX11_takeNumber_20 : decode cX11_takeNumber 20 = .ok (.iconst 1, 1) := by decide +kernel
theorem dX11_takeNumber_21 : decode cX11_takeNumber 21 = .ok (.aload_n 0, 1) := by decide +kernel
theorem dX11_takeNumber_22 : decode cX11_takeNumber 22 = .ok (.getfield 110, 3) := by decide +kernel
theorem dX11_takeNumber_25 : decode cX11_takeNumber 25 = .ok (.invokevirtual 121, 3) := by decide +kernel
theorem dX11_takeNumber_28 : decode cX11_takeNumber 28 = .ok (.ireturn, 1) := by decide +kernel
theorem dX11_takeNumber_29 : decode cX11_takeNumber 29 = .ok (.aload_n 0, 1) := by decide +kernel
theorem dX11_takeNumber_30 : decode cX11_takeNumber 30 = .ok (.aload_n 0, 1) := by decide +kernel
theorem dX11_takeNumber_31 : decode cX11_takeNumber 31 = .ok (.getfield 110, 3) := by decide +kernel
theorem dX11_takeNumber_34 : decode cX11_takeNumber 34 = .ok (.putfield 125, 3) := by decide +kernel
theorem dX11_takeNumber_37 : decode cX11_takeNumber 37 = .ok (.aload_n 0, 1) := by decide +kernel
theorem dX11_takeNumber_38 : decode cX11_takeNumber 38 = .ok (.iconst 0, 1) := by decide +kernel
theorem dX11_takeNumber_39 : decode cX11_takeNumber 39 = .ok (.putfield 128, 3) := by decide +kernel
theorem dX11_takeNumber_42 : decode cX11_takeNumber 42 = .ok (.aload_n 0, 1) := by decide +kernel
theorem dX11_takeNumber_43 : decode cX11_takeNumber 43 = .ok (.getfield 110, 3) := by decide +kernel
theorem dX11_takeNumber_46 : decode cX11_takeNumber 46 = .ok (.aload_n 0, 1) := by decide +kernel
theorem dX11_takeNumber_47 : decode cX11_takeNumber 47 = .ok (.getfield 106, 3) := by decide +kernel
theorem dX11_takeNumber_50 : decode cX11_takeNumber 50 = .ok (.if_icmp .ge 79, 3) := by decide +kernel
theorem dX11_takeNumber_53 : decode cX11_takeNumber 53 = .ok (.aload_n 0, 1) := by decide +kernel
theorem dX11_takeNumber_54 : decode cX11_takeNumber 54 = .ok (.getfield 25, 3) := by decide +kernel
theorem dX11_takeNumber_57 : decode cX11_takeNumber 57 = .ok (.aload_n 0, 1) := by decide +kernel
theorem dX11_takeNumber_58 : decode cX11_takeNumber 58 = .ok (.getfield 110, 3) := by decide +kernel
theorem dX11_takeNumber_61 : decode cX11_takeNumber 61 = .ok (.iaload, 1) := by decide +kernel
theorem dX11_takeNumber_62 : decode cX11_takeNumber 62 = .ok (.i2l, 1) := by decide +kernel
theorem dX11_takeNumber_63 : decode cX11_takeNumber 63 = .ok (.ldc2_w 117, 3) := by decide +kernel
theorem dX11_takeNumber_66 : decode cX11_takeNumber 66 = .ok (.ldc2_w 119, 3) := by decide +kernel
theorem dX11_takeNumber_69 : decode cX11_takeNumber 69 = .ok (.invokestatic 93, 3) := by decide +kernel
theorem dX11_takeNumber_72 : decode cX11_takeNumber 72 = .ok (.ifCond .eq 57, 3) := by decide +kernel
theorem dX11_takeNumber_75 : decode cX11_takeNumber 75 = .ok (.aload_n 0, 1) := by decide +kernel
theorem dX11_takeNumber_76 : decode cX11_takeNumber 76 = .ok (.aload_n 0, 1) := by decide +kernel
theorem dX11_takeNumber_77 : decode cX11_takeNumber 77 = .ok (.getfield 128, 3) := by decide +kernel
theorem dX11_takeNumber_80 : decode cX11_takeNumber 80 = .ok (.sipush 10000, 3) := by decide +kernel
theorem dX11_takeNumber_83 : decode cX11_takeNumber 83 = .ok (.if_icmp .le 10, 3) := by decide +kernel
theorem dX11_takeNumber_86 : decode cX11_takeNumber 86 = .ok (.aload_n 0, 1) := by decide +kernel
theorem dX11_takeNumber_87 : decode cX11_takeNumber 87 = .ok (.getfield 128, 3) := by decide +kernel
theorem dX11_takeNumber_90 : decode cX11_takeNumber 90 = .ok (.goto 23, 3) := by decide +kernel
theorem dX11_takeNumber_93 : decode cX11_takeNumber 93 = .ok (.bipush 10, 2) := by decide +kernel
theorem dX11_takeNumber_95 : decode cX11_takeNumber 95 = .ok (.aload_n 0, 1) := by decide +kernel
theorem dX11_takeNumber_96 : decode cX11_takeNumber 96 = .ok (.getfield 128, 3) := by decide +kernel
theorem dX11_takeNumber_99 : decode cX11_takeNumber 99 = .ok (.imul, 1) := by decide +kernel
theorem dX11_takeNumber_100 : decode cX11_takeNumber 100 = .ok (.aload_n 0, 1) := by decide +kernel
theorem dX11_takeNumber_101 : decode cX11_takeNumber 101 = .ok (.getfield 25, 3) := by decide +kernel
theorem dX11_takeNumber_104 : decode cX11_takeNumber 104 = .ok (.aload_n 0, 1) := by decide +kernel
theorem dX11_takeNumber_105 : decode cX11_takeNumber 105 = .ok (.getfield 110, 3) := by decide +kernel
theorem dX11_takeNumber_108 : decode cX11_takeNumber 108 = .ok (.iaload, 1) := by decide +kernel
theorem dX11_takeNumber_109 : decode cX11_takeNumber 109 = .ok (.iadd, 1) := by decide +kernel
theorem dX11_takeNumber_110 : decode cX11_takeNumber 110 = .ok (.bipush 48, 2) := by decide +kernel
theorem dX11_takeNumber_112 : decode cX11_takeNumber 112 = .ok (.isub, 1) := by decide +kernel
theorem dX11_takeNumber_113 : decode cX11_takeNumber 113 = .ok (.putfield 128, 3) := by decide +kernel
theorem dX11_takeNumber_116 : decode cX11_takeNumber 116 = .ok (.aload_n 0, 1) := by decide +kernel
theorem dX11_takeNumber_117 : decode cX11_takeNumber 117 = .ok (.dup, 1) := by decide +kernel
theorem dX11_takeNumber_118 : decode cX11_takeNumber 118 = .ok (.getfield 110, 3) := by decide +kernel
theorem dX11_takeNumber_121 : decode cX11_takeNumber 121 = .ok (.iconst 1, 1) := by decide +kernel
theorem dX11_takeNumber_122 : decode cX11_takeNumber 122 = .ok (.iadd, 1) := by decide +kernel
theorem dX11_takeNumber_123 : decode cX11_takeNumber 123 = .ok (.putfield 110, 3) := by decide +kernel
theorem dX11_takeNumber_126 : decode cX11_takeNumber 126 = .ok (.goto (-84), 3) := by decide +kernel
theorem dX11_takeNumber_129 : decode cX11_takeNumber 129 = .ok (.aload_n 0, 1) := by decide +kernel
theorem dX11_takeNumber_130 : decode cX11_takeNumber 130 = .ok (.getfield 110, 3) := by decide +kernel
theorem dX11_takeNumber_133 : decode cX11_takeNumber 133 = .ok (.aload_n 0, 1) := by decide +kernel
theorem dX11_takeNumber_134 : decode cX11_takeNumber 134 = .ok (.getfield 125, 3) := by decide +kernel
theorem dX11_takeNumber_137 : decode cX11_takeNumber 137 = .ok (.isub, 1) := by decide +kernel
theorem dX11_takeNumber_138 : decode cX11_takeNumber 138 = .ok (.iconst 3, 1) := by decide +kernel
theorem dX11_takeNumber_139 : decode cX11_takeNumber 139 = .ok (.if_icmp .gt 18, 3) := by decide +kernel
theorem dX11_takeNumber_142 : decode cX11_takeNumber 142 = .ok (.aload_n 0, 1) := by decide +kernel
theorem dX11_takeNumber_143 : decode cX11_takeNumber 143 = .ok (.getfield 128, 3) := by decide +kernel
theorem dX11_takeNumber_146 : decode cX11_takeNumber 146 = .ok (.i2l, 1) := by decide +kernel
theorem dX11_takeNumber_147 : decode cX11_takeNumber 147 = .ok (.iload_n 1, 1) := by decide +kernel
theorem dX11_takeNumber_148 : decode cX11_takeNumber 148 = .ok (.i2l, 1) := by decide +kernel
theorem dX11_takeNumber_149 : decode cX11_takeNumber 149 = .ok (.iload_n 2, 1) := by decide +kernel
theorem dX11_takeNumber_150 : decode cX11_takeNumber 150 = .ok (.i2l, 1) := by decide +kernel
theorem dX11_takeNumber_151 : decode cX11_takeNumber 151 = .ok (.invokestatic 93, 3) := by decide +kernel
theorem dX11_takeNumber_154 : decode cX11_takeNumber 154 = .ok (.ifCond .ne 15, 3) := by decide +kernel
theorem dX11_takeNumber_157 : decode cX11_takeNumber 157 = .ok (.aload_n 0, 1) := by decide +kernel
theorem dX11_takeNumber_158 : decode cX11_takeNumber 158 = .ok (.iconst 2, 1) := by decide +kernel
theorem dX11_takeNumber_159 : decode cX11_takeNumber 159 = .ok (.aload_n 0, 1) := by decide +kernel
theorem dX11_takeNumber_160 : decode cX11_takeNumber 160 = .ok (.getfield 125, 3) := by decide +kernel
theorem dX11_takeNumber_163 : decode cX11_takeNumber 163 = .ok (.invokevirtual 121, 3) := by decide +kernel
theorem dX11_takeNumber_166 : decode cX11_takeNumber 166 = .ok (.goto 4, 3) := by decide +kernel
theorem dX11_takeNumber_169 : decode cX11_takeNumber 169 = .ok (.iconst 0, 1) := by decide +kernel
theorem dX11_takeNumber_170 : decode cX11_takeNumber 170 = .ok (.ireturn, 1) := by decide +kernel
set_option maxRecDepth 20000 in
theorem ggX11_into_X11_takeNumber : GoodIn wsX11_into wsX11_takeNumber := goodIn_r _ [6, 7, 8, 9, 10, 1, 11, 12, 13, 14, 15, 5, 16, 17, 18, 19, 20, 21, 22, 23, 24, 25, 26, 27, 28, 29, 30, 31, 32, 33, 34, 35, 36, 37, 38, 39, 40, 41, 42, 43, 44, 45, 46, 47, 48, 49, 50, 51, 52, 53, 54, 55, 56, 57, 58, 59, 60, 61, 62, 63, 64, 65, 66, 67, 68, 69] (by decide +kernel) (by decide +kernel)
set_option maxRecDepth 20000 in
theorem gX11_into_X11_takeNumber : GoodIn wsX11_into (wsV RX11 131 RX11 yX11_takeNumber wsX11_takeNumber) := goodIn_app (goodIn_of _ (by decide +kernel)) ggX11_into_X11_takeNumber
theorem dX11_into_0 : decode cX11_into 0 = .ok (.aload_n 0, 1) := by decide +kernel
theorem dX11_into_1 : decode cX11_into 1 = .ok (.iload_n 3, 1) := by decide +kernel
theorem dX11_into_2 : decode cX11_into 2 = .ok (.iload 4, 2) := by decide +kernel
theorem dX11_into_4 : decode cX11_into 4 = .ok (.invokevirtual 131, 3) := by decide +kernel
theorem dX11_into_7 : decode cX11_into 7 = .ok (.istore 5, 2) := by decide +kernel
theorem dX11_into_9 : decode cX11_into 9 = .ok (.aload_n 1, 1) := by decide +kernel
theorem dX11_into_10 : decode cX11_into 10 = .ok (.iload_n 2, 1) := by decide +kernel
theorem dX11_into_11 : decode cX11_into 11 = .ok (.aload_n 0, 1) := by decide +kernel
theorem dX11_into_12 : decode cX11_into 12 = .ok (.getfield 128, 3) := by decide +kernel
theorem dX11_into_15 : decode cX11_into 15 = .ok (.iastore, 1) := by decide +kernel
theorem dX11_into_16 : decode cX11_into 16 = .ok (.iload 5, 2) := by decide +kernel
theorem dX11_into_18 : decode cX11_into 18 = .ok (.ireturn, 1) := by decide +kernel
set_option maxRecDepth 20000 in
theorem ggX11_takeLaw_X11_into : GoodIn wsX11_takeLaw wsX11_into := goodIn_r _ [6, 7, 8, 9, 10, 5, 11, 12, 13, 14, 15, 16, 17, 18, 19, 20, 21, 22, 23, 24, 25, 26, 27, 28, 29, 30, 31, 32, 33, 34, 35, 36, 37, 38, 39, 40, 41, 42, 43, 44, 45, 46, 47, 48, 49, 50, 51, 52, 53, 54, 55, 56, 57, 58, 59, 60, 61, 62, 63, 64, 65, 66, 67, 68, 69, 70, 71, 72, 73, 74] (by decide +kernel) (by decide +kernel)
set_option maxRecDepth 20000 in
theorem gX11_takeLaw_X11_into : GoodIn wsX11_takeLaw (wsV RX11 134 RX11 yX11_into wsX11_into) := goodIn_app (goodIn_of _ (by decide +kernel)) ggX11_takeLaw_X11_into
theorem dX11_takeLaw_0 : decode cX11_takeLaw 0 = .ok (.aload_n 0, 1) := by decide +kernel
theorem dX11_takeLaw_1 : decode cX11_takeLaw 1 = .ok (.aload_n 0, 1) := by decide +kernel
theorem dX11_takeLaw_2 : decode cX11_takeLaw 2 = .ok (.getfield 32, 3) := by decide +kernel
theorem dX11_takeLaw_5 : decode cX11_takeLaw 5 = .ok (.iconst 0, 1) := by decide +kernel
theorem dX11_takeLaw_6 : decode cX11_takeLaw 6 = .ok (.iconst 1, 1) := by decide +kernel
theorem dX11_takeLaw_7 : decode cX11_takeLaw 7 = .ok (.bipush 12, 2) := by decide +kernel
theorem dX11_takeLaw_9 : decode cX11_takeLaw 9 = .ok (.invokevirtual 134, 3) := by decide +kernel
theorem dX11_takeLaw_12 : decode cX11_takeLaw 12 = .ok (.istore_n 1, 1) := by decide +kernel
theorem dX11_takeLaw_13 : decode cX11_takeLaw 13 = .ok (.iload_n 1, 1) := by decide +kernel
theorem dX11_takeLaw_14 : decode cX11_takeLaw 14 = .ok (.ifCond .le 7, 3) := by decide +kernel
theorem dX11_takeLaw_17 : decode cX11_takeLaw 17 = .ok (.iload_n 1, 1) := by decide +kernel
theorem dX11_takeLaw_18 : decode cX11_takeLaw 18 = .ok (.goto 15, 3) := by decide +kernel
theorem dX11_takeLaw_21 : decode cX11_takeLaw 21 = .ok (.aload_n 0, 1) := by decide +kernel
theorem dX11_takeLaw_22 : decode cX11_takeLaw 22 = .ok (.aload_n 0, 1) := by decide +kernel
theorem dX11_takeLaw_23 : decode cX11_takeLaw 23 = .ok (.getfield 32, 3) := by decide +kernel
theorem dX11_takeLaw_26 : decode cX11_takeLaw 26 = .ok (.iconst 1, 1) := by decide +kernel
theorem dX11_takeLaw_27 : decode cX11_takeLaw 27 = .ok (.iconst 0, 1) := by decide +kernel
theorem dX11_takeLaw_28 : decode cX11_takeLaw 28 = .ok (.bipush 9, 2) := by decide +kernel
theorem dX11_takeLaw_30 : decode cX11_takeLaw 30 = .ok (.invokevirtual 134, 3) := by decide +kernel
theorem dX11_takeLaw_33 : decode cX11_takeLaw 33 = .ok (.istore_n 1, 1) := by decide +kernel
theorem dX11_takeLaw_34 : decode cX11_takeLaw 34 = .ok (.iload_n 1, 1) := by decide +kernel
theorem dX11_takeLaw_35 : decode cX11_takeLaw 35 = .ok (.ifCond .le 7, 3) := by decide +kernel
theorem dX11_takeLaw_38 : decode cX11_takeLaw 38 = .ok (.iload_n 1, 1) := by decide +kernel
theorem dX11_takeLaw_39 : decode cX11_takeLaw 39 = .ok (.goto 15, 3) := by decide +kernel
theorem dX11_takeLaw_42 : decode cX11_takeLaw 42 = .ok (.aload_n 0, 1) := by decide +kernel
theorem dX11_takeLaw_43 : decode cX11_takeLaw 43 = .ok (.aload_n 0, 1) := by decide +kernel
theorem dX11_takeLaw_44 : decode cX11_takeLaw 44 = .ok (.getfield 32, 3) := by decide +kernel
theorem dX11_takeLaw_47 : decode cX11_takeLaw 47 = .ok (.iconst 2, 1) := by decide +kernel
theorem dX11_takeLaw_48 : decode cX11_takeLaw 48 = .ok (.iconst 0, 1) := by decide +kernel
theorem dX11_takeLaw_49 : decode cX11_takeLaw 49 = .ok (.bipush 99, 2) := by decide +kernel
theorem dX11_takeLaw_51 : decode cX11_takeLaw 51 = .ok (.invokevirtual 134, 3) := by decide +kernel
theorem dX11_takeLaw_54 : decode cX11_takeLaw 54 = .ok (.ireturn, 1) := by decide +kernel
set_option maxRecDepth 20000 in
theorem ggX11_takeRoad_X11_takeNumber : GoodIn wsX11_takeRoad wsX11_takeNumber := goodIn_r _ [9, 10, 11, 12, 4, 3, 13, 14, 15, 16, 17, 8, 18, 19, 20, 21, 22, 23, 24, 25, 26, 30, 31, 32, 33, 34, 35, 36, 37, 38, 39, 40, 41, 42, 43, 44, 45, 46, 47, 48, 49, 50, 51, 52, 53, 54, 55, 56, 57, 58, 59, 60, 61, 62, 63, 64, 65, 66, 67, 68, 69, 70, 71, 72, 73, 74] (by decide +kernel) (by decide +kernel)
set_option maxRecDepth 20000 in
theorem gX11_takeRoad_X11_takeNumber : GoodIn wsX11_takeRoad (wsV RX11 131 RX11 yX11_takeNumber wsX11_takeNumber) := goodIn_app (goodIn_of _ (by decide +kernel)) ggX11_takeRoad_X11_takeNumber
set_option maxRecDepth 20000 in
theorem ggX11_takeRoad_X11_has : GoodIn wsX11_takeRoad wsX11_has := goodIn_r _ [29] (by decide +kernel) (by decide +kernel)
set_option maxRecDepth 20000 in
theorem gX11_takeRoad_X11_has : GoodIn wsX11_takeRoad (va_wsS RX11 141 yX11_has wsX11_has) := goodIn_app (goodIn_of _ (by decide +kernel)) ggX11_takeRoad_X11_has
set_option maxRecDepth 20000 in
theorem ggX11_takeRoad_X11_fails : GoodIn wsX11_takeRoad wsX11_fails := goodIn_r _ [25, 26, 30, 31, 32, 33, 34, 35, 36, 37, 38, 39, 40, 41, 42, 43, 44, 45, 46, 47, 48, 49, 50, 51, 52, 53, 54, 55, 56, 57, 58, 59, 60, 61, 62, 63, 64, 65, 66, 67, 68, 69, 70, 71, 72, 73, 74] (by decide +kernel) (by decide +kernel)
set_option maxRecDepth 20000 in
theorem gX11_takeRoad_X11_fails : GoodIn wsX11_takeRoad (wsV RX11 121 RX11 yX11_fails wsX11_fails) := goodIn_app (goodIn_of _ (by decide +kernel)) ggX11_takeRoad_X11_fails
theorem dX11_takeRoad_0 : decode cX11_takeRoad 0 = .ok (.aload_n 0, 1) := by decide +kernel
theorem dX11_takeRoad_1 : decode cX11_takeRoad 1 = .ok (.iconst 0, 1) := by decide +kernel
theorem dX11_takeRoad_2 : decode cX11_takeRoad 2 = .ok (.aload_n 0, 1) := by decide +kernel
theorem dX11_takeRoad_3 : decode cX11_takeRoad 3 = .ok (.getfield 32, 3) := by decide +kernel
theorem dX11_takeRoad_6 : decode cX11_takeRoad 6 = .ok (.iconst 0, 1) := by decide +kernel
theorem dX11_takeRoad_7 : decode cX11_takeRoad 7 = .ok (.iaload, 1) := by decide +kernel
theorem dX11_takeRoad_8 : decode cX11_takeRoad 8 = .ok (.iconst 1, 1) := by decide +kernel
theorem dX11_takeRoad_9 : decode cX11_takeRoad 9 = .ok (.isub, 1) := by decide +kernel
theorem dX11_takeRoad_10 : decode cX11_takeRoad 10 = .ok (.invokevirtual 131, 3) := by decide +kernel
theorem dX11_takeRoad_13 : decode cX11_takeRoad 13 = .ok (.istore_n 1, 1) := by decide +kernel
theorem dX11_takeRoad_14 : decode cX11_takeRoad 14 = .ok (.iload_n 1, 1) := by decide +kernel
theorem dX11_takeRoad_15 : decode cX11_takeRoad 15 = .ok (.ifCond .ne 27, 3) := by decide +kernel
theorem dX11_takeRoad_18 : decode cX11_takeRoad 18 = .ok (.aload_n 0, 1) := by decide +kernel
theorem dX11_takeRoad_19 : decode cX11_takeRoad 19 = .ok (.getfield 138, 3) := by decide +kernel
theorem dX11_takeRoad_22 : decode cX11_takeRoad 22 = .ok (.aload_n 0, 1) := by decide +kernel
theorem dX11_takeRoad_23 : decode cX11_takeRoad 23 = .ok (.getfield 128, 3) := by decide +kernel
theorem dX11_takeRoad_26 : decode cX11_takeRoad 26 = .ok (.invokestatic 141, 3) := by decide +kernel
theorem dX11_takeRoad_29 : decode cX11_takeRoad 29 = .ok (.ifCond .eq 13, 3) := by decide +kernel
theorem dX11_takeRoad_32 : decode cX11_takeRoad 32 = .ok (.aload_n 0, 1) := by decide +kernel
theorem dX11_takeRoad_33 : decode cX11_takeRoad 33 = .ok (.iconst 4, 1) := by decide +kernel
theorem dX11_takeRoad_34 : decode cX11_takeRoad 34 = .ok (.aload_n 0, 1) := by decide +kernel
theorem dX11_takeRoad_35 : decode cX11_takeRoad 35 = .ok (.getfield 125, 3) := by decide +kernel
theorem dX11_takeRoad_38 : decode cX11_takeRoad 38 = .ok (.invokevirtual 121, 3) := by decide +kernel
theorem dX11_takeRoad_41 : decode cX11_takeRoad 41 = .ok (.ireturn, 1) := by decide +kernel
theorem dX11_takeRoad_42 : decode cX11_takeRoad 42 = .ok (.iload_n 1, 1) := by decide +kernel
theorem dX11_takeRoad_43 : decode cX11_takeRoad 43 = .ok (.ifCond .ne 18, 3) := by decide +kernel
theorem dX11_takeRoad_46 : decode cX11_takeRoad 46 = .ok (.aload_n 0, 1) := by decide +kernel
theorem dX11_takeRoad_47 : decode cX11_takeRoad 47 = .ok (.dup, 1) := by decide +kernel
theorem dX11_takeRoad_48 : decode cX11_takeRoad 48 = .ok (.getfield 138, 3) := by decide +kernel
theorem dX11_takeRoad_51 : decode cX11_takeRoad 51 = .ok (.iconst 1, 1) := by decide +kernel
theorem dX11_takeRoad_52 : decode cX11_takeRoad 52 = .ok (.aload_n 0, 1) := by decide +kernel
theorem dX11_takeRoad_53 : decode cX11_takeRoad 53 = .ok (.getfield 128, 3) := by decide +kernel
theorem dX11_takeRoad_56 : decode cX11_takeRoad 56 = .ok (.ishl, 1) := by decide +kernel
theorem dX11_takeRoad_57 : decode cX11_takeRoad 57 = .ok (.ior, 1) := by decide +kernel
theorem dX11_takeRoad_58 : decode cX11_takeRoad 58 = .ok (.putfield 138, 3) := by decide +kernel
theorem dX11_takeRoad_61 : decode cX11_takeRoad 61 = .ok (.iload_n 1, 1) := by decide +kernel
theorem dX11_takeRoad_62 : decode cX11_takeRoad 62 = .ok (.ireturn, 1) := by decide +kernel
set_option maxRecDepth 20000 in
theorem ggX11_takePost_X11_into : GoodIn wsX11_takePost wsX11_into := goodIn_r _ [10, 11, 12, 13, 14, 9, 15, 16, 17, 18, 4, 19, 20, 21, 22, 23, 24, 25, 26, 27, 28, 29, 30, 31, 32, 33, 34, 35, 36, 37, 38, 39, 40, 41, 42, 43, 44, 45, 46, 47, 48, 49, 50, 51, 52, 53, 54, 55, 56, 57, 58, 59, 60, 61, 62, 63, 64, 65, 66, 67, 68, 69, 70, 71, 72, 73, 74, 75, 76, 77] (by decide +kernel) (by decide +kernel)
set_option maxRecDepth 20000 in
theorem gX11_takePost_X11_into : GoodIn wsX11_takePost (wsV RX11 134 RX11 yX11_into wsX11_into) := goodIn_app (goodIn_of _ (by decide +kernel)) ggX11_takePost_X11_into
set_option maxRecDepth 20000 in
theorem ggX11_takePost_X11_fails : GoodIn wsX11_takePost wsX11_fails := goodIn_r _ [31, 32, 33, 34, 35, 36, 37, 38, 39, 40, 41, 42, 43, 44, 45, 46, 47, 48, 49, 50, 51, 52, 53, 54, 55, 56, 57, 58, 59, 60, 61, 62, 63, 64, 65, 66, 67, 68, 69, 70, 71, 72, 73, 74, 75, 76, 77] (by decide +kernel) (by decide +kernel)
set_option maxRecDepth 20000 in
theorem gX11_takePost_X11_fails : GoodIn wsX11_takePost (wsV RX11 121 RX11 yX11_fails wsX11_fails) := goodIn_app (goodIn_of _ (by decide +kernel)) ggX11_takePost_X11_fails
theorem dX11_takePost_0 : decode cX11_takePost 0 = .ok (.aload_n 0, 1) := by decide +kernel
theorem dX11_takePost_1 : decode cX11_takePost 1 = .ok (.getfield 145, 3) := by decide +kernel
theorem dX11_takePost_4 : decode cX11_takePost 4 = .ok (.istore_n 1, 1) := by decide +kernel
theorem dX11_takePost_5 : decode cX11_takePost 5 = .ok (.aload_n 0, 1) := by decide +kernel
theorem dX11_takePost_6 : decode cX11_takePost 6 = .ok (.dup, 1) := by decide +kernel
theorem dX11_takePost_7 : decode cX11_takePost 7 = .ok (.getfield 145, 3) := by decide +kernel
theorem dX11_takePost_10 : decode cX11_takePost 10 = .ok (.iconst 1, 1) := by decide +kernel
theorem dX11_takePost_11 : decode cX11_takePost 11 = .ok (.iadd, 1) := by decide +kernel
theorem dX11_takePost_12 : decode cX11_takePost 12 = .ok (.putfield 145, 3) := by decide +kernel
theorem dX11_takePost_15 : decode cX11_takePost 15 = .ok (.aload_n 0, 1) := by decide +kernel
theorem dX11_takePost_16 : decode cX11_takePost 16 = .ok (.aload_n 0, 1) := by decide +kernel
theorem dX11_takePost_17 : decode cX11_takePost 17 = .ok (.getfield 35, 3) := by decide +kernel
theorem dX11_takePost_20 : decode cX11_takePost 20 = .ok (.iload_n 1, 1) := by decide +kernel
theorem dX11_takePost_21 : decode cX11_takePost 21 = .ok (.iconst 0, 1) := by decide +kernel
theorem dX11_takePost_22 : decode cX11_takePost 22 = .ok (.aload_n 0, 1) := by decide +kernel
theorem dX11_takePost_23 : decode cX11_takePost 23 = .ok (.getfield 32, 3) := by decide +kernel
theorem dX11_takePost_26 : decode cX11_takePost 26 = .ok (.iconst 0, 1) := by decide +kernel
theorem dX11_takePost_27 : decode cX11_takePost 27 = .ok (.iaload, 1) := by decide +kernel
theorem dX11_takePost_28 : decode cX11_takePost 28 = .ok (.iconst 1, 1) := by decide +kernel
theorem dX11_takePost_29 : decode cX11_takePost 29 = .ok (.isub, 1) := by decide +kernel
theorem dX11_takePost_30 : decode cX11_takePost 30 = .ok (.invokevirtual 134, 3) := by decide +kernel
theorem dX11_takePost_33 : decode cX11_takePost 33 = .ok (.istore_n 2, 1) := by decide +kernel
theorem dX11_takePost_34 : decode cX11_takePost 34 = .ok (.iconst 0, 1) := by decide +kernel
theorem dX11_takePost_35 : decode cX11_takePost 35 = .ok (.istore_n 3, 1) := by decide +kernel
theorem dX11_takePost_36 : decode cX11_takePost 36 = .ok (.iload_n 3, 1) := by decide +kernel
theorem dX11_takePost_37 : decode cX11_takePost 37 = .ok (.iload_n 1, 1) := by decide +kernel
theorem dX11_takePost_38 : decode cX11_takePost 38 = .ok (.if_icmp .ge 38, 3) := by decide +kernel
theorem dX11_takePost_41 : decode cX11_takePost 41 = .ok (.iload_n 2, 1) := by decide +kernel
theorem dX11_takePost_42 : decode cX11_takePost 42 = .ok (.ifCond .ne 34, 3) := by decide +kernel
theorem dX11_takePost_45 : decode cX11_takePost 45 = .ok (.aload_n 0, 1) := by decide +kernel
theorem dX11_takePost_46 : decode cX11_takePost 46 = .ok (.getfield 35, 3) := by decide +kernel
theorem dX11_takePost_49 : decode cX11_takePost 49 = .ok (.iload_n 3, 1) := by decide +kernel
theorem dX11_takePost_50 : decode cX11_takePost 50 = .ok (.iaload, 1) := by decide +kernel
theorem dX11_takePost_51 : decode cX11_takePost 51 = .ok (.aload_n 0, 1) := by decide +kernel
theorem dX11_takePost_52 : decode cX11_takePost 52 = .ok (.getfield 35, 3) := by decide +kernel
theorem dX11_takePost_55 : decode cX11_takePost 55 = .ok (.iload_n 1, 1) := by decide +kernel
theorem dX11_takePost_56 : decode cX11_takePost 56 = .ok (.iaload, 1) := by decide +kernel
theorem dX11_takePost_57 : decode cX11_takePost 57 = .ok (.if_icmp .ne 13, 3) := by decide +kernel
theorem dX11_takePost_60 : decode cX11_takePost 60 = .ok (.aload_n 0, 1) := by decide +kernel
theorem dX11_takePost_61 : decode cX11_takePost 61 = .ok (.iconst 4, 1) := by decide +kernel
theorem dX11_takePost_62 : decode cX11_takePost 62 = .ok (.aload_n 0, 1) := by decide +kernel
theorem dX11_takePost_63 : decode cX11_takePost 63 = .ok (.getfield 125, 3) := by decide +kernel
theorem dX11_takePost_66 : decode cX11_takePost 66 = .ok (.invokevirtual 121, 3) := by decide +kernel
theorem dX11_takePost_69 : decode cX11_takePost 69 = .ok (.ireturn, 1) := by decide +kernel
theorem dX11_takePost_70 : decode cX11_takePost 70 = .ok (.iinc 3 1, 3) := by decide +kernel
theorem dX11_takePost_73 : decode cX11_takePost 73 = .ok (.goto (-37), 3) := by decide +kernel
theorem dX11_takePost_76 : decode cX11_takePost 76 = .ok (.iload_n 2, 1) := by decide +kernel
theorem dX11_takePost_77 : decode cX11_takePost 77 = .ok (.ifCond .le 7, 3) := by decide +kernel
theorem dX11_takePost_80 : decode cX11_takePost 80 = .ok (.iload_n 2, 1) := by decide +kernel
theorem dX11_takePost_81 : decode cX11_takePost 81 = .ok (.goto 15, 3) := by decide +kernel
theorem dX11_takePost_84 : decode cX11_takePost 84 = .ok (.aload_n 0, 1) := by decide +kernel
theorem dX11_takePost_85 : decode cX11_takePost 85 = .ok (.aload_n 0, 1) := by decide +kernel
theorem dX11_takePost_86 : decode cX11_takePost 86 = .ok (.getfield 38, 3) := by decide +kernel
theorem dX11_takePost_89 : decode cX11_takePost 89 = .ok (.iload_n 1, 1) := by decide +kernel
theorem dX11_takePost_90 : decode cX11_takePost 90 = .ok (.iconst 0, 1) := by decide +kernel
theorem dX11_takePost_91 : decode cX11_takePost 91 = .ok (.bipush 9, 2) := by decide +kernel
theorem dX11_takePost_93 : decode cX11_takePost 93 = .ok (.invokevirtual 134, 3) := by decide +kernel
theorem dX11_takePost_96 : decode cX11_takePost 96 = .ok (.ireturn, 1) := by decide +kernel
set_option maxRecDepth 20000 in
theorem ggX11_takeCrow_X11_into : GoodIn wsX11_takeCrow wsX11_into := goodIn_r _ [8, 9, 10, 11, 12, 7, 13, 14, 15, 16, 17, 18, 19, 20, 21, 22, 23, 24, 25, 26, 27, 28, 29, 30, 31, 32, 33, 34, 35, 36, 37, 38, 39, 40, 41, 42, 43, 44, 45, 46, 47, 48, 49, 50, 51, 52, 53, 54, 55, 56, 57, 58, 59, 60, 61, 62, 63, 64, 65, 66, 67, 68, 69, 70, 71, 72, 73, 74, 75, 76] (by decide +kernel) (by decide +kernel)
set_option maxRecDepth 20000 in
theorem gX11_takeCrow_X11_into : GoodIn wsX11_takeCrow (wsV RX11 134 RX11 yX11_into wsX11_into) := goodIn_app (goodIn_of _ (by decide +kernel)) ggX11_takeCrow_X11_into
theorem dX11_takeCrow_0 : decode cX11_takeCrow 0 = .ok (.aload_n 0, 1) := by decide +kernel
theorem dX11_takeCrow_1 : decode cX11_takeCrow 1 = .ok (.getfield 148, 3) := by decide +kernel
theorem dX11_takeCrow_4 : decode cX11_takeCrow 4 = .ok (.istore_n 1, 1) := by decide +kernel
theorem dX11_takeCrow_5 : decode cX11_takeCrow 5 = .ok (.aload_n 0, 1) := by decide +kernel
theorem dX11_takeCrow_6 : decode cX11_takeCrow 6 = .ok (.dup, 1) := by decide +kernel
theorem dX11_takeCrow_7 : decode cX11_takeCrow 7 = .ok (.getfield 148, 3) := by decide +kernel
theorem dX11_takeCrow_10 : decode cX11_takeCrow 10 = .ok (.iconst 1, 1) := by decide +kernel
theorem dX11_takeCrow_11 : decode cX11_takeCrow 11 = .ok (.iadd, 1) := by decide +kernel
theorem dX11_takeCrow_12 : decode cX11_takeCrow 12 = .ok (.putfield 148, 3) := by decide +kernel
theorem dX11_takeCrow_15 : decode cX11_takeCrow 15 = .ok (.aload_n 0, 1) := by decide +kernel
theorem dX11_takeCrow_16 : decode cX11_takeCrow 16 = .ok (.aload_n 0, 1) := by decide +kernel
theorem dX11_takeCrow_17 : decode cX11_takeCrow 17 = .ok (.getfield 41, 3) := by decide +kernel
theorem dX11_takeCrow_20 : decode cX11_takeCrow 20 = .ok (.iload_n 1, 1) := by decide +kernel
theorem dX11_takeCrow_21 : decode cX11_takeCrow 21 = .ok (.iconst 0, 1) := by decide +kernel
theorem dX11_takeCrow_22 : decode cX11_takeCrow 22 = .ok (.bipush 99, 2) := by decide +kernel
theorem dX11_takeCrow_24 : decode cX11_takeCrow 24 = .ok (.invokevirtual 134, 3) := by decide +kernel
theorem dX11_takeCrow_27 : decode cX11_takeCrow 27 = .ok (.istore_n 2, 1) := by decide +kernel
theorem dX11_takeCrow_28 : decode cX11_takeCrow 28 = .ok (.iload_n 2, 1) := by decide +kernel
theorem dX11_takeCrow_29 : decode cX11_takeCrow 29 = .ok (.ifCond .le 7, 3) := by decide +kernel
theorem dX11_takeCrow_32 : decode cX11_takeCrow 32 = .ok (.iload_n 2, 1) := by decide +kernel
theorem dX11_takeCrow_33 : decode cX11_takeCrow 33 = .ok (.goto 15, 3) := by decide +kernel
theorem dX11_takeCrow_36 : decode cX11_takeCrow 36 = .ok (.aload_n 0, 1) := by decide +kernel
theorem dX11_takeCrow_37 : decode cX11_takeCrow 37 = .ok (.aload_n 0, 1) := by decide +kernel
theorem dX11_takeCrow_38 : decode cX11_takeCrow 38 = .ok (.getfield 44, 3) := by decide +kernel
theorem dX11_takeCrow_41 : decode cX11_takeCrow 41 = .ok (.iload_n 1, 1) := by decide +kernel
theorem dX11_takeCrow_42 : decode cX11_takeCrow 42 = .ok (.iconst 0, 1) := by decide +kernel
theorem dX11_takeCrow_43 : decode cX11_takeCrow 43 = .ok (.bipush 9, 2) := by decide +kernel
theorem dX11_takeCrow_45 : decode cX11_takeCrow 45 = .ok (.invokevirtual 134, 3) := by decide +kernel
theorem dX11_takeCrow_48 : decode cX11_takeCrow 48 = .ok (.ireturn, 1) := by decide +kernel
set_option maxRecDepth 20000 in
theorem ggX11_takeHour_X11_into : GoodIn wsX11_takeHour wsX11_into := goodIn_r _ [8, 9, 10, 11, 12, 7, 13, 14, 15, 16, 17, 18, 19, 20, 21, 22, 23, 24, 25, 26, 27, 28, 29, 30, 31, 32, 33, 34, 35, 36, 37, 38, 39, 40, 41, 42, 43, 44, 45, 46, 47, 48, 49, 50, 51, 52, 53, 54, 55, 56, 57, 58, 59, 60, 61, 62, 63, 64, 65, 66, 67, 68, 69, 70, 71, 72, 73, 74, 75, 76] (by decide +kernel) (by decide +kernel)
set_option maxRecDepth 20000 in
theorem gX11_takeHour_X11_into : GoodIn wsX11_takeHour (wsV RX11 134 RX11 yX11_into wsX11_into) := goodIn_app (goodIn_of _ (by decide +kernel)) ggX11_takeHour_X11_into
theorem dX11_takeHour_0 : decode cX11_takeHour 0 = .ok (.aload_n 0, 1) := by decide +kernel
theorem dX11_takeHour_1 : decode cX11_takeHour 1 = .ok (.getfield 151, 3) := by decide +kernel
theorem dX11_takeHour_4 : decode cX11_takeHour 4 = .ok (.istore_n 1, 1) := by decide +kernel
theorem dX11_takeHour_5 : decode cX11_takeHour 5 = .ok (.aload_n 0, 1) := by decide +kernel
theorem dX11_takeHour_6 : decode cX11_takeHour 6 = .ok (.dup, 1) := by decide +kernel
theorem dX11_takeHour_7 : decode cX11_takeHour 7 = .ok (.getfield 151, 3) := by decide +kernel
theorem dX11_takeHour_10 : decode cX11_takeHour 10 = .ok (.iconst 1, 1) := by decide +kernel
theorem dX11_takeHour_11 : decode cX11_takeHour 11 = .ok (.iadd, 1) := by decide +kernel
theorem dX11_takeHour_12 : decode cX11_takeHour 12 = .ok (.putfield 151, 3) := by decide +kernel
theorem dX11_takeHour_15 : decode cX11_takeHour 15 = .ok (.aload_n 0, 1) := by decide +kernel
theorem dX11_takeHour_16 : decode cX11_takeHour 16 = .ok (.aload_n 0, 1) := by decide +kernel
theorem dX11_takeHour_17 : decode cX11_takeHour 17 = .ok (.getfield 47, 3) := by decide +kernel
theorem dX11_takeHour_20 : decode cX11_takeHour 20 = .ok (.iload_n 1, 1) := by decide +kernel
theorem dX11_takeHour_21 : decode cX11_takeHour 21 = .ok (.iconst 0, 1) := by decide +kernel
theorem dX11_takeHour_22 : decode cX11_takeHour 22 = .ok (.bipush 18, 2) := by decide +kernel
theorem dX11_takeHour_24 : decode cX11_takeHour 24 = .ok (.invokevirtual 134, 3) := by decide +kernel
theorem dX11_takeHour_27 : decode cX11_takeHour 27 = .ok (.istore_n 2, 1) := by decide +kernel
theorem dX11_takeHour_28 : decode cX11_takeHour 28 = .ok (.iload_n 2, 1) := by decide +kernel
theorem dX11_takeHour_29 : decode cX11_takeHour 29 = .ok (.ifCond .le 7, 3) := by decide +kernel
theorem dX11_takeHour_32 : decode cX11_takeHour 32 = .ok (.iload_n 2, 1) := by decide +kernel
theorem dX11_takeHour_33 : decode cX11_takeHour 33 = .ok (.goto 15, 3) := by decide +kernel
theorem dX11_takeHour_36 : decode cX11_takeHour 36 = .ok (.aload_n 0, 1) := by decide +kernel
theorem dX11_takeHour_37 : decode cX11_takeHour 37 = .ok (.aload_n 0, 1) := by decide +kernel
theorem dX11_takeHour_38 : decode cX11_takeHour 38 = .ok (.getfield 50, 3) := by decide +kernel
theorem dX11_takeHour_41 : decode cX11_takeHour 41 = .ok (.iload_n 1, 1) := by decide +kernel
theorem dX11_takeHour_42 : decode cX11_takeHour 42 = .ok (.iconst 0, 1) := by decide +kernel
theorem dX11_takeHour_43 : decode cX11_takeHour 43 = .ok (.bipush 30, 2) := by decide +kernel
theorem dX11_takeHour_45 : decode cX11_takeHour 45 = .ok (.invokevirtual 134, 3) := by decide +kernel
theorem dX11_takeHour_48 : decode cX11_takeHour 48 = .ok (.ireturn, 1) := by decide +kernel
theorem dX11_whichClause_0 : decode cX11_whichClause 0 = .ok (.iload_n 1, 1) := by decide +kernel
theorem dX11_whichClause_1 : decode cX11_whichClause 1 = .ok (.bipush 119, 2) := by decide +kernel
theorem dX11_whichClause_3 : decode cX11_whichClause 3 = .ok (.if_icmp .ne 7, 3) := by decide +kernel
theorem dX11_whichClause_6 : decode cX11_whichClause 6 = .ok (.iconst 0, 1) := by decide +kernel
theorem dX11_whichClause_7 : decode cX11_whichClause 7 = .ok (.goto 44, 3) := by decide +kernel
theorem dX11_whichClause_10 : decode cX11_whichClause 10 = .ok (.iload_n 1, 1) := by decide +kernel
theorem dX11_whichClause_11 : decode cX11_whichClause 11 = .ok (.bipush 114, 2) := by decide +kernel
theorem dX11_whichClause_13 : decode cX11_whichClause 13 = .ok (.if_icmp .ne 7, 3) := by decide +kernel
theorem dX11_whichClause_16 : decode cX11_whichClause 16 = .ok (.iconst 1, 1) := by decide +kernel
theorem dX11_whichClause_17 : decode cX11_whichClause 17 = .ok (.goto 34, 3) := by decide +kernel
theorem dX11_whichClause_20 : decode cX11_whichClause 20 = .ok (.iload_n 1, 1) := by decide +kernel
theorem dX11_whichClause_21 : decode cX11_whichClause 21 = .ok (.bipush 112, 2) := by decide +kernel
theorem dX11_whichClause_23 : decode cX11_whichClause 23 = .ok (.if_icmp .ne 7, 3) := by decide +kernel
theorem dX11_whichClause_26 : decode cX11_whichClause 26 = .ok (.iconst 2, 1) := by decide +kernel
theorem dX11_whichClause_27 : decode cX11_whichClause 27 = .ok (.goto 24, 3) := by decide +kernel
theorem dX11_whichClause_30 : decode cX11_whichClause 30 = .ok (.iload_n 1, 1) := by decide +kernel
theorem dX11_whichClause_31 : decode cX11_whichClause 31 = .ok (.bipush 99, 2) := by decide +kernel
theorem dX11_whichClause_33 : decode cX11_whichClause 33 = .ok (.if_icmp .ne 7, 3) := by decide +kernel
theorem dX11_whichClause_36 : decode cX11_whichClause 36 = .ok (.iconst 3, 1) := by decide +kernel
theorem dX11_whichClause_37 : decode cX11_whichClause 37 = .ok (.goto 14, 3) := by decide +kernel
theorem dX11_whichClause_40 : decode cX11_whichClause 40 = .ok (.iload_n 1, 1) := by decide +kernel
theorem dX11_whichClause_41 : decode cX11_whichClause 41 = .ok (.bipush 104, 2) := by decide +kernel
theorem dX11_whichClause_43 : decode cX11_whichClause 43 = .ok (.if_icmp .ne 7, 3) := by decide +kernel
theorem dX11_whichClause_46 : decode cX11_whichClause 46 = .ok (.iconst 4, 1) := by decide +kernel
theorem dX11_whichClause_47 : decode cX11_whichClause 47 = .ok (.goto 4, 3) := by decide +kernel
theorem dX11_whichClause_50 : decode cX11_whichClause 50 = .ok (.iconst (-1), 1) := by decide +kernel
theorem dX11_whichClause_51 : decode cX11_whichClause 51 = .ok (.ireturn, 1) := by decide +kernel
theorem dX11_isFull_0 : decode cX11_isFull 0 = .ok (.iload_n 1, 1) := by decide +kernel
theorem dX11_isFull_1 : decode cX11_isFull 1 = .ok (.tableswitch 77 0 3 #[31, 46, 48, 63], 31) := by decide +kernel
theorem dX11_isFull_32 : decode cX11_isFull 32 = .ok (.aload_n 0, 1) := by decide +kernel
theorem dX11_isFull_33 : decode cX11_isFull 33 = .ok (.getfield 32, 3) := by decide +kernel
theorem dX11_isFull_36 : decode cX11_isFull 36 = .ok (.iconst 0, 1) := by decide +kernel
theorem dX11_isFull_37 : decode cX11_isFull 37 = .ok (.iaload, 1) := by decide +kernel
theorem dX11_isFull_38 : decode cX11_isFull 38 = .ok (.ifCond .le 7, 3) := by decide +kernel
theorem dX11_isFull_41 : decode cX11_isFull 41 = .ok (.iconst 1, 1) := by decide +kernel
theorem dX11_isFull_42 : decode cX11_isFull 42 = .ok (.goto 4, 3) := by decide +kernel
theorem dX11_isFull_45 : decode cX11_isFull 45 = .ok (.iconst 0, 1) := by decide +kernel
theorem dX11_isFull_46 : decode cX11_isFull 46 = .ok (.ireturn, 1) := by decide +kernel
theorem dX11_isFull_47 : decode cX11_isFull 47 = .ok (.iconst 0, 1) := by decide +kernel
theorem dX11_isFull_48 : decode cX11_isFull 48 = .ok (.ireturn, 1) := by decide +kernel
theorem dX11_isFull_49 : decode cX11_isFull 49 = .ok (.aload_n 0, 1) := by decide +kernel
theorem dX11_isFull_50 : decode cX11_isFull 50 = .ok (.getfield 145, 3) := by decide +kernel
theorem dX11_isFull_53 : decode cX11_isFull 53 = .ok (.bipush 6, 2) := by decide +kernel
theorem dX11_isFull_55 : decode cX11_isFull 55 = .ok (.if_icmp .ne 7, 3) := by decide +kernel
theorem dX11_isFull_58 : decode cX11_isFull 58 = .ok (.iconst 1, 1) := by decide +kernel
theorem dX11_isFull_59 : decode cX11_isFull 59 = .ok (.goto 4, 3) := by decide +kernel
theorem dX11_isFull_62 : decode cX11_isFull 62 = .ok (.iconst 0, 1) := by decide +kernel
theorem dX11_isFull_63 : decode cX11_isFull 63 = .ok (.ireturn, 1) := by decide +kernel
theorem dX11_isFull_64 : decode cX11_isFull 64 = .ok (.aload_n 0, 1) := by decide +kernel
theorem dX11_isFull_65 : decode cX11_isFull 65 = .ok (.getfield 148, 3) := by decide +kernel
theorem dX11_isFull_68 : decode cX11_isFull 68 = .ok (.iconst 5, 1) := by decide +kernel
theorem dX11_isFull_69 : decode cX11_isFull 69 = .ok (.if_icmp .ne 7, 3) := by decide +kernel
theorem dX11_isFull_72 : decode cX11_isFull 72 = .ok (.iconst 1, 1) := by decide +kernel
theorem dX11_isFull_73 : decode cX11_isFull 73 = .ok (.goto 4, 3) := by decide +kernel
theorem dX11_isFull_76 : decode cX11_isFull 76 = .ok (.iconst 0, 1) := by decide +kernel
theorem dX11_isFull_77 : decode cX11_isFull 77 = .ok (.ireturn, 1) := by decide +kernel
theorem dX11_isFull_78 : decode cX11_isFull 78 = .ok (.aload_n 0, 1) := by decide +kernel
theorem dX11_isFull_79 : decode cX11_isFull 79 = .ok (.getfield 151, 3) := by decide +kernel
theorem dX11_isFull_82 : decode cX11_isFull 82 = .ok (.bipush 10, 2) := by decide +kernel
theorem dX11_isFull_84 : decode cX11_isFull 84 = .ok (.if_icmp .ne 7, 3) := by decide +kernel
theorem dX11_isFull_87 : decode cX11_isFull 87 = .ok (.iconst 1, 1) := by decide +kernel
theorem dX11_isFull_88 : decode cX11_isFull 88 = .ok (.goto 4, 3) := by decide +kernel
theorem dX11_isFull_91 : decode cX11_isFull 91 = .ok (.iconst 0, 1) := by decide +kernel
theorem dX11_isFull_92 : decode cX11_isFull 92 = .ok (.ireturn, 1) := by decide +kernel
set_option maxRecDepth 20000 in
theorem ggX11_takeBody_X11_takeLaw : GoodIn wsX11_takeBody wsX11_takeLaw := goodIn_r _ [5, 6, 7, 8, 9, 4, 10, 11, 12, 13, 14, 15, 16, 17, 18, 19, 20, 21, 22, 23, 24, 25, 26, 27, 28, 29, 30, 31, 32, 33, 63, 64, 65, 66, 67, 68, 69, 70, 71, 72, 73, 74, 75, 76, 77, 78, 79, 80, 81, 82, 83, 84, 85, 86, 87, 88, 89, 90, 91, 92, 93, 94, 95, 96, 97, 98, 99, 100, 101, 102, 103, 104, 105, 106, 107] (by decide +kernel) (by decide +kernel)
set_option maxRecDepth 20000 in
theorem gX11_takeBody_X11_takeLaw : GoodIn wsX11_takeBody (wsV RX11 154 RX11 yX11_takeLaw wsX11_takeLaw) := goodIn_app (goodIn_of _ (by decide +kernel)) ggX11_takeBody_X11_takeLaw
set_option maxRecDepth 20000 in
theorem ggX11_takeBody_X11_takeRoad : GoodIn wsX11_takeBody wsX11_takeRoad := goodIn_r _ [37, 6, 38, 11, 19, 12, 13, 14, 4, 15, 16, 17, 18, 20, 21, 22, 23, 24, 25, 26, 27, 28, 29, 30, 31, 32, 33, 39, 40, 41, 63, 64, 65, 66, 67, 68, 69, 70, 71, 72, 73, 74, 75, 76, 77, 78, 79, 80, 81, 82, 83, 84, 85, 86, 87, 88, 89, 90, 91, 92, 93, 94, 95, 96, 97, 98, 99, 100, 101, 102, 103, 104, 105, 106, 107] (by decide +kernel) (by decide +kernel)
set_option maxRecDepth 20000 in
theorem gX11_takeBody_X11_takeRoad : GoodIn wsX11_takeBody (wsV RX11 157 RX11 yX11_takeRoad wsX11_takeRoad) := goodIn_app (goodIn_of _ (by decide +kernel)) ggX11_takeBody_X11_takeRoad
set_option maxRecDepth 20000 in
theorem ggX11_takeBody_X11_takePost : GoodIn wsX11_takeBody wsX11_takePost := goodIn_r _ [45, 46, 47, 6, 19, 48, 7, 8, 9, 4, 10, 11, 12, 13, 14, 15, 16, 17, 18, 20, 21, 22, 23, 24, 25, 26, 27, 28, 29, 30, 31, 32, 33, 63, 64, 65, 66, 67, 68, 69, 70, 71, 72, 73, 74, 75, 76, 77, 78, 79, 80, 81, 82, 83, 84, 85, 86, 87, 88, 89, 90, 91, 92, 93, 94, 95, 96, 97, 98, 99, 100, 101, 102, 103, 104, 105, 106, 107] (by decide +kernel) (by decide +kernel)
set_option maxRecDepth 20000 in
theorem gX11_takeBody_X11_takePost : GoodIn wsX11_takeBody (wsV RX11 160 RX11 yX11_takePost wsX11_takePost) := goodIn_app (goodIn_of _ (by decide +kernel)) ggX11_takeBody_X11_takePost
set_option maxRecDepth 20000 in
theorem ggX11_takeBody_X11_takeCrow : GoodIn wsX11_takeBody wsX11_takeCrow := goodIn_r _ [52, 53, 54, 55, 7, 8, 9, 4, 10, 11, 12, 13, 14, 15, 16, 17, 18, 19, 20, 21, 22, 23, 24, 25, 26, 27, 28, 29, 30, 31, 32, 33, 63, 64, 65, 66, 67, 68, 69, 70, 71, 72, 73, 74, 75, 76, 77, 78, 79, 80, 81, 82, 83, 84, 85, 86, 87, 88, 89, 90, 91, 92, 93, 94, 95, 96, 97, 98, 99, 100, 101, 102, 103, 104, 105, 106, 107] (by decide +kernel) (by decide +kernel)
set_option maxRecDepth 20000 in
theorem gX11_takeBody_X11_takeCrow : GoodIn wsX11_takeBody (wsV RX11 163 RX11 yX11_takeCrow wsX11_takeCrow) := goodIn_app (goodIn_of _ (by decide +kernel)) ggX11_takeBody_X11_takeCrow
set_option maxRecDepth 20000 in
theorem ggX11_takeBody_X11_takeHour : GoodIn wsX11_takeBody wsX11_takeHour := goodIn_r _ [59, 60, 61, 62, 7, 8, 9, 4, 10, 11, 12, 13, 14, 15, 16, 17, 18, 19, 20, 21, 22, 23, 24, 25, 26, 27, 28, 29, 30, 31, 32, 33, 63, 64, 65, 66, 67, 68, 69, 70, 71, 72, 73, 74, 75, 76, 77, 78, 79, 80, 81, 82, 83, 84, 85, 86, 87, 88, 89, 90, 91, 92, 93, 94, 95, 96, 97, 98, 99, 100, 101, 102, 103, 104, 105, 106, 107] (by decide +kernel) (by decide +kernel)
set_option maxRecDepth 20000 in
theorem gX11_takeBody_X11_takeHour : GoodIn wsX11_takeBody (wsV RX11 166 RX11 yX11_takeHour wsX11_takeHour) := goodIn_app (goodIn_of _ (by decide +kernel)) ggX11_takeBody_X11_takeHour
theorem dX11_takeBody_0 : decode cX11_takeBody 0 = .ok (.iload_n 1, 1) := by decide +kernel
theorem dX11_takeBody_1 : decode cX11_takeBody 1 = .ok (.tableswitch 51 0 3 #[31, 36, 41, 46], 31) := by decide +kernel
theorem dX11_takeBody_32 : decode cX11_takeBody 32 = .ok (.aload_n 0, 1) := by decide +kernel
theorem dX11_takeBody_33 : decode cX11_takeBody 33 = .ok (.invokevirtual 154, 3) := by decide +kernel
theorem dX11_takeBody_36 : decode cX11_takeBody 36 = .ok (.ireturn, 1) := by decide +kernel
theorem dX11_takeBody_37 : decode cX11_takeBody 37 = .ok (.aload_n 0, 1) := by decide +kernel
theorem dX11_takeBody_38 : decode cX11_takeBody 38 = .ok (.invokevirtual 157, 3) := by decide +kernel
theorem dX11_takeBody_41 : decode cX11_takeBody 41 = .ok (.ireturn, 1) := by decide +kernel
theorem dX11_takeBody_42 : decode cX11_takeBody 42 = .ok (.aload_n 0, 1) := by decide +kernel
theorem dX11_takeBody_43 : decode cX11_takeBody 43 = .ok (.invokevirtual 160, 3) := by decide +kernel
theorem dX11_takeBody_46 : decode cX11_takeBody 46 = .ok (.ireturn, 1) := by decide +kernel
theorem dX11_takeBody_47 : decode cX11_takeBody 47 = .ok (.aload_n 0, 1) := by decide +kernel
theorem dX11_takeBody_48 : decode cX11_takeBody 48 = .ok (.invokevirtual 163, 3) := by decide +kernel
theorem dX11_takeBody_51 : decode cX11_takeBody 51 = .ok (.ireturn, 1) := by decide +kernel
theorem dX11_takeBody_52 : decode cX11_takeBody 52 = .ok (.aload_n 0, 1) := by decide +kernel
theorem dX11_takeBody_53 : decode cX11_takeBody 53 = .ok (.invokevirtual 166, 3) := by decide +kernel
theorem dX11_takeBody_56 : decode cX11_takeBody 56 = .ok (.ireturn, 1) := by decide +kernel
set_option maxRecDepth 20000 in
theorem ggX11_takeClause_X11_here : GoodIn wsX11_takeClause wsX11_here := goodIn_r _ [7, 2, 8, 9, 75, 76, 77, 78, 79, 80, 81, 82, 83, 84, 85, 86, 87, 88, 89, 90, 91, 92, 93, 94, 95, 96, 97, 98, 99, 100, 101, 102, 103, 104, 105, 106, 107, 108, 109, 110, 111, 112, 113, 114, 115, 116, 117, 118, 119] (by decide +kernel) (by decide +kernel)
set_option maxRecDepth 20000 in
theorem gX11_takeClause_X11_here : GoodIn wsX11_takeClause (wsV RX11 113 RX11 yX11_here wsX11_here) := goodIn_app (goodIn_of _ (by decide +kernel)) ggX11_takeClause_X11_here
set_option maxRecDepth 20000 in
theorem ggX11_takeClause_X11_whichClause : GoodIn wsX11_takeClause wsX11_whichClause := goodIn_r _ [13] (by decide +kernel) (by decide +kernel)
set_option maxRecDepth 20000 in
theorem gX11_takeClause_X11_whichClause : GoodIn wsX11_takeClause (wsV RX11 169 RX11 yX11_whichClause wsX11_whichClause) := goodIn_app (goodIn_of _ (by decide +kernel)) ggX11_takeClause_X11_whichClause
set_option maxRecDepth 20000 in
theorem ggX11_takeClause_X11_fails : GoodIn wsX11_takeClause wsX11_fails := goodIn_r _ [17, 18, 75, 76, 77, 78, 79, 80, 81, 82, 83, 84, 85, 86, 87, 88, 89, 90, 91, 92, 93, 94, 95, 96, 97, 98, 99, 100, 101, 102, 103, 104, 105, 106, 107, 108, 109, 110, 111, 112, 113, 114, 115, 116, 117, 118, 119] (by decide +kernel) (by decide +kernel)
set_option maxRecDepth 20000 in
theorem gX11_takeClause_X11_fails : GoodIn wsX11_takeClause (wsV RX11 121 RX11 yX11_fails wsX11_fails) := goodIn_app (goodIn_of _ (by decide +kernel)) ggX11_takeClause_X11_fails
set_option maxRecDepth 20000 in
theorem ggX11_takeClause_X11_isFull : GoodIn wsX11_takeClause wsX11_isFull := goodIn_r _ [22, 1, 23, 24, 25, 75, 76, 77, 78, 79, 80, 81, 82, 83, 84, 85, 86, 87, 88, 89, 90, 91, 92, 93, 94, 95, 96, 97, 98, 99, 100, 101, 102, 103, 104, 105, 106, 107, 108, 109, 110, 111, 112, 113, 114, 115, 116, 117, 118, 119] (by decide +kernel) (by decide +kernel)
set_option maxRecDepth 20000 in
theorem gX11_takeClause_X11_isFull : GoodIn wsX11_takeClause (wsV RX11 173 RX11 yX11_isFull wsX11_isFull) := goodIn_app (goodIn_of _ (by decide +kernel)) ggX11_takeClause_X11_isFull
set_option maxRecDepth 20000 in
theorem ggX11_takeClause_X11_takeBody : GoodIn wsX11_takeClause wsX11_takeBody := goodIn_r _ [29, 30, 31, 32, 6, 33, 1, 34, 35, 36, 37, 38, 39, 40, 41, 42, 43, 44, 2, 45, 8, 9, 3, 4, 5, 7, 46, 47, 48, 14, 15, 16, 17, 18, 49, 50, 51, 52, 53, 54, 55, 56, 57, 58, 59, 60, 23, 61, 62, 63, 64, 65, 66, 24, 67, 68, 69, 70, 71, 72, 25, 73, 74, 75, 76, 77, 78, 79, 80, 81, 82, 83, 84, 85, 86, 87, 88, 89, 90, 91, 92, 93, 94, 95, 96, 97, 98, 99, 100, 101, 102, 103, 104, 105, 106, 107, 108, 109, 110, 111, 112, 113, 114, 115, 116, 117, 118, 119] (by decide +kernel) (by decide +kernel)
set_option maxRecDepth 20000 in
theorem gX11_takeClause_X11_takeBody : GoodIn wsX11_takeClause (wsV RX11 177 RX11 yX11_takeBody wsX11_takeBody) := goodIn_app (goodIn_of _ (by decide +kernel)) ggX11_takeClause_X11_takeBody
theorem dX11_takeClause_0 : decode cX11_takeClause 0 = .ok (.aload_n 0, 1) := by decide +kernel
theorem dX11_takeClause_1 : decode cX11_takeClause 1 = .ok (.aload_n 0, 1) := by decide +kernel
theorem dX11_takeClause_2 : decode cX11_takeClause 2 = .ok (.invokevirtual 113, 3) := by decide +kernel
theorem dX11_takeClause_5 : decode cX11_takeClause 5 = .ok (.invokevirtual 169, 3) := by decide +kernel
theorem dX11_takeClause_8 : decode cX11_takeClause 8 = .ok (.istore_n 1, 1) := by decide +kernel
theorem dX11_takeClause_9 : decode cX11_takeClause 9 = .ok (.iload_n 1, 1) := by decide +kernel
theorem dX11_takeClause_10 : decode cX11_takeClause 10 = .ok (.ifCond .lt 16, 3) := by decide +kernel
theorem dX11_takeClause_13 : decode cX11_takeClause 13 = .ok (.iload_n 1, 1) := by decide +kernel
theorem dX11_takeClause_14 : decode cX11_takeClause 14 = .ok (.ifCond .le 22, 3) := by decide +kernel
theorem dX11_takeClause_17 : decode cX11_takeClause 17 = .ok (.aload_n 0, 1) := by decide +kernel
theorem dX11_takeClause_18 : decode cX11_takeClause 18 = .ok (.getfield 32, 3) := by decide +kernel
theorem dX11_takeClause_21 : decode cX11_takeClause 21 = .ok (.iconst 0, 1) := by decide +kernel
theorem dX11_takeClause_22 : decode cX11_takeClause 22 = .ok (.iaload, 1) := by decide +kernel
theorem dX11_takeClause_23 : decode cX11_takeClause 23 = .ok (.ifCond .ne 13, 3) := by decide +kernel
theorem dX11_takeClause_26 : decode cX11_takeClause 26 = .ok (.aload_n 0, 1) := by decide +kernel
theorem dX11_takeClause_27 : decode cX11_takeClause 27 = .ok (.iconst 1, 1) := by decide +kernel
theorem dX11_takeClause_28 : decode cX11_takeClause 28 = .ok (.aload_n 0, 1) := by decide +kernel
theorem dX11_takeClause_29 : decode cX11_takeClause 29 = .ok (.getfield 110, 3) := by decide +kernel
theorem dX11_takeClause_32 : decode cX11_takeClause 32 = .ok (.invokevirtual 121, 3) := by decide +kernel
theorem dX11_takeClause_35 : decode cX11_takeClause 35 = .ok (.ireturn, 1) := by decide +kernel
theorem dX11_takeClause_36 : decode cX11_takeClause 36 = .ok (.aload_n 0, 1) := by decide +kernel
theorem dX11_takeClause_37 : decode cX11_takeClause 37 = .ok (.iload_n 1, 1) := by decide +kernel
theorem dX11_takeClause_38 : decode cX11_takeClause 38 = .ok (.invokevirtual 173, 3) := by decide +kernel
theorem dX11_takeClause_41 : decode cX11_takeClause 41 = .ok (.ifCond .eq 13, 3) := by decide +kernel
theorem dX11_takeClause_44 : decode cX11_takeClause 44 = .ok (.aload_n 0, 1) := by decide +kernel
theorem dX11_takeClause_45 : decode cX11_takeClause 45 = .ok (.iconst 3, 1) := by decide +kernel
theorem dX11_takeClause_46 : decode cX11_takeClause 46 = .ok (.aload_n 0, 1) := by decide +kernel
theorem dX11_takeClause_47 : decode cX11_takeClause 47 = .ok (.getfield 110, 3) := by decide +kernel
theorem dX11_takeClause_50 : decode cX11_takeClause 50 = .ok (.invokevirtual 121, 3) := by decide +kernel
theorem dX11_takeClause_53 : decode cX11_takeClause 53 = .ok (.ireturn, 1) := by decide +kernel
theorem dX11_takeClause_54 : decode cX11_takeClause 54 = .ok (.aload_n 0, 1) := by decide +kernel
theorem dX11_takeClause_55 : decode cX11_takeClause 55 = .ok (.dup, 1) := by decide +kernel
theorem dX11_takeClause_56 : decode cX11_takeClause 56 = .ok (.getfield 110, 3) := by decide +kernel
theorem dX11_takeClause_59 : decode cX11_takeClause 59 = .ok (.iconst 1, 1) := by decide +kernel
theorem dX11_takeClause_60 : decode cX11_takeClause 60 = .ok (.iadd, 1) := by decide +kernel
theorem dX11_takeClause_61 : decode cX11_takeClause 61 = .ok (.putfield 110, 3) := by decide +kernel
theorem dX11_takeClause_64 : decode cX11_takeClause 64 = .ok (.aload_n 0, 1) := by decide +kernel
theorem dX11_takeClause_65 : decode cX11_takeClause 65 = .ok (.iload_n 1, 1) := by decide +kernel
theorem dX11_takeClause_66 : decode cX11_takeClause 66 = .ok (.invokevirtual 177, 3) := by decide +kernel
theorem dX11_takeClause_69 : decode cX11_takeClause 69 = .ok (.istore_n 2, 1) := by decide +kernel
theorem dX11_takeClause_70 : decode cX11_takeClause 70 = .ok (.iload_n 2, 1) := by decide +kernel
theorem dX11_takeClause_71 : decode cX11_takeClause 71 = .ok (.ifCond .ne 22, 3) := by decide +kernel
theorem dX11_takeClause_74 : decode cX11_takeClause 74 = .ok (.aload_n 0, 1) := by decide +kernel
theorem dX11_takeClause_75 : decode cX11_takeClause 75 = .ok (.invokevirtual 113, 3) := by decide +kernel
theorem dX11_takeClause_78 : decode cX11_takeClause 78 = .ok (.bipush 59, 2) := by decide +kernel
theorem dX11_takeClause_80 : decode cX11_takeClause 80 = .ok (.if_icmp .eq 13, 3) := by decide +kernel
theorem dX11_takeClause_83 : decode cX11_takeClause 83 = .ok (.aload_n 0, 1) := by decide +kernel
theorem dX11_takeClause_84 : decode cX11_takeClause 84 = .ok (.iconst 1, 1) := by decide +kernel
theorem dX11_takeClause_85 : decode cX11_takeClause 85 = .ok (.aload_n 0, 1) := by decide +kernel
theorem dX11_takeClause_86 : decode cX11_takeClause 86 = .ok (.getfield 110, 3) := by decide +kernel
theorem dX11_takeClause_89 : decode cX11_takeClause 89 = .ok (.invokevirtual 121, 3) := by decide +kernel
theorem dX11_takeClause_92 : decode cX11_takeClause 92 = .ok (.ireturn, 1) := by decide +kernel
theorem dX11_takeClause_93 : decode cX11_takeClause 93 = .ok (.aload_n 0, 1) := by decide +kernel
theorem dX11_takeClause_94 : decode cX11_takeClause 94 = .ok (.dup, 1) := by decide +kernel
theorem dX11_takeClause_95 : decode cX11_takeClause 95 = .ok (.getfield 110, 3) := by decide +kernel
theorem dX11_takeClause_98 : decode cX11_takeClause 98 = .ok (.iconst 1, 1) := by decide +kernel
theorem dX11_takeClause_99 : decode cX11_takeClause 99 = .ok (.iadd, 1) := by decide +kernel
theorem dX11_takeClause_100 : decode cX11_takeClause 100 = .ok (.putfield 110, 3) := by decide +kernel
theorem dX11_takeClause_103 : decode cX11_takeClause 103 = .ok (.iload_n 2, 1) := by decide +kernel
theorem dX11_takeClause_104 : decode cX11_takeClause 104 = .ok (.ireturn, 1) := by decide +kernel
theorem dX11_takeRead_0 : decode cX11_takeRead 0 = .ok (.aload_n 0, 1) := by decide +kernel
theorem dX11_takeRead_1 : decode cX11_takeRead 1 = .ok (.aload_n 0, 1) := by decide +kernel
theorem dX11_takeRead_2 : decode cX11_takeRead 2 = .ok (.getfield 32, 3) := by decide +kernel
theorem dX11_takeRead_5 : decode cX11_takeRead 5 = .ok (.iconst 0, 1) := by decide +kernel
theorem dX11_takeRead_6 : decode cX11_takeRead 6 = .ok (.iaload, 1) := by decide +kernel
theorem dX11_takeRead_7 : decode cX11_takeRead 7 = .ok (.putfield 90, 3) := by decide +kernel
theorem dX11_takeRead_10 : decode cX11_takeRead 10 = .ok (.aload_n 0, 1) := by decide +kernel
theorem dX11_takeRead_11 : decode cX11_takeRead 11 = .ok (.aload_n 0, 1) := by decide +kernel
theorem dX11_takeRead_12 : decode cX11_takeRead 12 = .ok (.getfield 32, 3) := by decide +kernel
theorem dX11_takeRead_15 : decode cX11_takeRead 15 = .ok (.iconst 1, 1) := by decide +kernel
theorem dX11_takeRead_16 : decode cX11_takeRead 16 = .ok (.iaload, 1) := by decide +kernel
theorem dX11_takeRead_17 : decode cX11_takeRead 17 = .ok (.putfield 180, 3) := by decide +kernel
theorem dX11_takeRead_20 : decode cX11_takeRead 20 = .ok (.aload_n 0, 1) := by decide +kernel
theorem dX11_takeRead_21 : decode cX11_takeRead 21 = .ok (.aload_n 0, 1) := by decide +kernel
theorem dX11_takeRead_22 : decode cX11_takeRead 22 = .ok (.getfield 32, 3) := by decide +kernel
theorem dX11_takeRead_25 : decode cX11_takeRead 25 = .ok (.iconst 2, 1) := by decide +kernel
theorem dX11_takeRead_26 : decode cX11_takeRead 26 = .ok (.iaload, 1) := by decide +kernel
theorem dX11_takeRead_27 : decode cX11_takeRead 27 = .ok (.putfield 183, 3) := by decide +kernel
theorem dX11_takeRead_30 : decode cX11_takeRead 30 = .ok (.aload_n 0, 1) := by decide +kernel
theorem dX11_takeRead_31 : decode cX11_takeRead 31 = .ok (.aload_n 0, 1) := by decide +kernel
theorem dX11_takeRead_32 : decode cX11_takeRead 32 = .ok (.getfield 138, 3) := by decide +kernel
theorem dX11_takeRead_35 : decode cX11_takeRead 35 = .ok (.putfield 186, 3) := by decide +kernel
theorem dX11_takeRead_38 : decode cX11_takeRead 38 = .ok (.aload_n 0, 1) := by decide +kernel
theorem dX11_takeRead_39 : decode cX11_takeRead 39 = .ok (.aload_n 0, 1) := by decide +kernel
theorem dX11_takeRead_40 : decode cX11_takeRead 40 = .ok (.getfield 145, 3) := by decide +kernel
theorem dX11_takeRead_43 : decode cX11_takeRead 43 = .ok (.putfield 97, 3) := by decide +kernel
theorem dX11_takeRead_46 : decode cX11_takeRead 46 = .ok (.aload_n 0, 1) := by decide +kernel
theorem dX11_takeRead_47 : decode cX11_takeRead 47 = .ok (.aload_n 0, 1) := by decide +kernel
theorem dX11_takeRead_48 : decode cX11_takeRead 48 = .ok (.getfield 148, 3) := by decide +kernel
theorem dX11_takeRead_51 : decode cX11_takeRead 51 = .ok (.putfield 100, 3) := by decide +kernel
theorem dX11_takeRead_54 : decode cX11_takeRead 54 = .ok (.aload_n 0, 1) := by decide +kernel
theorem dX11_takeRead_55 : decode cX11_takeRead 55 = .ok (.aload_n 0, 1) := by decide +kernel
theorem dX11_takeRead_56 : decode cX11_takeRead 56 = .ok (.getfield 151, 3) := by decide +kernel
theorem dX11_takeRead_59 : decode cX11_takeRead 59 = .ok (.putfield 189, 3) := by decide +kernel
theorem dX11_takeRead_62 : decode cX11_takeRead 62 = .ok (.iconst 0, 1) := by decide +kernel
theorem dX11_takeRead_63 : decode cX11_takeRead 63 = .ok (.istore_n 1, 1) := by decide +kernel
theorem dX11_takeRead_64 : decode cX11_takeRead 64 = .ok (.iload_n 1, 1) := by decide +kernel
theorem dX11_takeRead_65 : decode cX11_takeRead 65 = .ok (.bipush 37, 2) := by decide +kernel
theorem dX11_takeRead_67 : decode cX11_takeRead 67 = .ok (.if_icmp .ge 16, 3) := by decide +kernel
