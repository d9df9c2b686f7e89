theorem dX11_takeRead_70 : decode cX11_takeRead 70 = .ok (.aload_n 0, 1) := by decide +kernel
theorem dX11_takeRead_71 : decode cX11_takeRead 71 = .ok (.getfield 22, 3) := by decide +kernel
theorem dX11_takeRead_74 : decode cX11_takeRead 74 = .ok (.iload_n 1, 1) := by decide +kernel
theorem dX11_takeRead_75 : decode cX11_takeRead 75 = .ok (.iconst 0, 1) := by decide +kernel
theorem dX11_takeRead_76 : decode cX11_takeRead 76 = .ok (.iastore, 1) := by decide +kernel
theorem dX11_takeRead_77 : decode cX11_takeRead 77 = .ok (.iinc 1 1, 3) := by decide +kernel
theorem dX11_takeRead_80 : decode cX11_takeRead 80 = .ok (.goto (-16), 3) := by decide +kernel
theorem dX11_takeRead_83 : decode cX11_takeRead 83 = .ok (.iconst 0, 1) := by decide +kernel
theorem dX11_takeRead_84 : decode cX11_takeRead 84 = .ok (.istore_n 1, 1) := by decide +kernel
theorem dX11_takeRead_85 : decode cX11_takeRead 85 = .ok (.iload_n 1, 1) := by decide +kernel
theorem dX11_takeRead_86 : decode cX11_takeRead 86 = .ok (.bipush 6, 2) := by decide +kernel
theorem dX11_takeRead_88 : decode cX11_takeRead 88 = .ok (.if_icmp .ge 58, 3) := by decide +kernel
theorem dX11_takeRead_91 : decode cX11_takeRead 91 = .ok (.aload_n 0, 1) := by decide +kernel
theorem dX11_takeRead_92 : decode cX11_takeRead 92 = .ok (.getfield 22, 3) := by decide +kernel
theorem dX11_takeRead_95 : decode cX11_takeRead 95 = .ok (.bipush 12, 2) := by decide +kernel
theorem dX11_takeRead_97 : decode cX11_takeRead 97 = .ok (.iload_n 1, 1) := by decide +kernel
theorem dX11_takeRead_98 : decode cX11_takeRead 98 = .ok (.iadd, 1) := by decide +kernel
theorem dX11_takeRead_99 : decode cX11_takeRead 99 = .ok (.iload_n 1, 1) := by decide +kernel
theorem dX11_takeRead_100 : decode cX11_takeRead 100 = .ok (.aload_n 0, 1) := by decide +kernel
theorem dX11_takeRead_101 : decode cX11_takeRead 101 = .ok (.getfield 97, 3) := by decide +kernel
theorem dX11_takeRead_104 : decode cX11_takeRead 104 = .ok (.if_icmp .ge 12, 3) := by decide +kernel
theorem dX11_takeRead_107 : decode cX11_takeRead 107 = .ok (.aload_n 0, 1) := by decide +kernel
theorem dX11_takeRead_108 : decode cX11_takeRead 108 = .ok (.getfield 35, 3) := by decide +kernel
theorem dX11_takeRead_111 : decode cX11_takeRead 111 = .ok (.iload_n 1, 1) := by decide +kernel
theorem dX11_takeRead_112 : decode cX11_takeRead 112 = .ok (.iaload, 1) := by decide +kernel
theorem dX11_takeRead_113 : decode cX11_takeRead 113 = .ok (.goto 4, 3) := by decide +kernel
theorem dX11_takeRead_116 : decode cX11_takeRead 116 = .ok (.iconst 0, 1) := by decide +kernel
theorem dX11_takeRead_117 : decode cX11_takeRead 117 = .ok (.iastore, 1) := by decide +kernel
theorem dX11_takeRead_118 : decode cX11_takeRead 118 = .ok (.aload_n 0, 1) := by decide +kernel
theorem dX11_takeRead_119 : decode cX11_takeRead 119 = .ok (.getfield 22, 3) := by decide +kernel
theorem dX11_takeRead_122 : decode cX11_takeRead 122 = .ok (.bipush 18, 2) := by decide +kernel
theorem dX11_takeRead_124 : decode cX11_takeRead 124 = .ok (.iload_n 1, 1) := by decide +kernel
theorem dX11_takeRead_125 : decode cX11_takeRead 125 = .ok (.iadd, 1) := by decide +kernel
theorem dX11_takeRead_126 : decode cX11_takeRead 126 = .ok (.iconst (-1), 1) := by decide +kernel
theorem dX11_takeRead_127 : decode cX11_takeRead 127 = .ok (.iastore, 1) := by decide +kernel
theorem dX11_takeRead_128 : decode cX11_takeRead 128 = .ok (.aload_n 0, 1) := by decide +kernel
theorem dX11_takeRead_129 : decode cX11_takeRead 129 = .ok (.getfield 7, 3) := by decide +kernel
theorem dX11_takeRead_132 : decode cX11_takeRead 132 = .ok (.iload_n 1, 1) := by decide +kernel
theorem dX11_takeRead_133 : decode cX11_takeRead 133 = .ok (.aload_n 0, 1) := by decide +kernel
theorem dX11_takeRead_134 : decode cX11_takeRead 134 = .ok (.getfield 38, 3) := by decide +kernel
theorem dX11_takeRead_137 : decode cX11_takeRead 137 = .ok (.iload_n 1, 1) := by decide +kernel
theorem dX11_takeRead_138 : decode cX11_takeRead 138 = .ok (.iaload, 1) := by decide +kernel
theorem dX11_takeRead_139 : decode cX11_takeRead 139 = .ok (.iastore, 1) := by decide +kernel
theorem dX11_takeRead_140 : decode cX11_takeRead 140 = .ok (.iinc 1 1, 3) := by decide +kernel
theorem dX11_takeRead_143 : decode cX11_takeRead 143 = .ok (.goto (-58), 3) := by decide +kernel
theorem dX11_takeRead_146 : decode cX11_takeRead 146 = .ok (.aload_n 0, 1) := by decide +kernel
theorem dX11_takeRead_147 : decode cX11_takeRead 147 = .ok (.getfield 22, 3) := by decide +kernel
theorem dX11_takeRead_150 : decode cX11_takeRead 150 = .ok (.bipush 24, 2) := by decide +kernel
theorem dX11_takeRead_152 : decode cX11_takeRead 152 = .ok (.iconst 1, 1) := by decide +kernel
theorem dX11_takeRead_153 : decode cX11_takeRead 153 = .ok (.aload_n 0, 1) := by decide +kernel
theorem dX11_takeRead_154 : decode cX11_takeRead 154 = .ok (.getfield 97, 3) := by decide +kernel
theorem dX11_takeRead_157 : decode cX11_takeRead 157 = .ok (.ishl, 1) := by decide +kernel
theorem dX11_takeRead_158 : decode cX11_takeRead 158 = .ok (.iconst 1, 1) := by decide +kernel
theorem dX11_takeRead_159 : decode cX11_takeRead 159 = .ok (.isub, 1) := by decide +kernel
theorem dX11_takeRead_160 : decode cX11_takeRead 160 = .ok (.iastore, 1) := by decide +kernel
theorem dX11_takeRead_161 : decode cX11_takeRead 161 = .ok (.iconst 0, 1) := by decide +kernel
theorem dX11_takeRead_162 : decode cX11_takeRead 162 = .ok (.istore_n 1, 1) := by decide +kernel
theorem dX11_takeRead_163 : decode cX11_takeRead 163 = .ok (.iload_n 1, 1) := by decide +kernel
theorem dX11_takeRead_164 : decode cX11_takeRead 164 = .ok (.aload_n 0, 1) := by decide +kernel
theorem dX11_takeRead_165 : decode cX11_takeRead 165 = .ok (.getfield 100, 3) := by decide +kernel
theorem dX11_takeRead_168 : decode cX11_takeRead 168 = .ok (.if_icmp .ge 36, 3) := by decide +kernel
theorem dX11_takeRead_171 : decode cX11_takeRead 171 = .ok (.aload_n 0, 1) := by decide +kernel
theorem dX11_takeRead_172 : decode cX11_takeRead 172 = .ok (.getfield 22, 3) := by decide +kernel
theorem dX11_takeRead_175 : decode cX11_takeRead 175 = .ok (.bipush 25, 2) := by decide +kernel
theorem dX11_takeRead_177 : decode cX11_takeRead 177 = .ok (.iload_n 1, 1) := by decide +kernel
theorem dX11_takeRead_178 : decode cX11_takeRead 178 = .ok (.iadd, 1) := by decide +kernel
theorem dX11_takeRead_179 : decode cX11_takeRead 179 = .ok (.aload_n 0, 1) := by decide +kernel
theorem dX11_takeRead_180 : decode cX11_takeRead 180 = .ok (.getfield 41, 3) := by decide +kernel
theorem dX11_takeRead_183 : decode cX11_takeRead 183 = .ok (.iload_n 1, 1) := by decide +kernel
theorem dX11_takeRead_184 : decode cX11_takeRead 184 = .ok (.iaload, 1) := by decide +kernel
theorem dX11_takeRead_185 : decode cX11_takeRead 185 = .ok (.iastore, 1) := by decide +kernel
theorem dX11_takeRead_186 : decode cX11_takeRead 186 = .ok (.aload_n 0, 1) := by decide +kernel
theorem dX11_takeRead_187 : decode cX11_takeRead 187 = .ok (.getfield 13, 3) := by decide +kernel
theorem dX11_takeRead_190 : decode cX11_takeRead 190 = .ok (.iload_n 1, 1) := by decide +kernel
theorem dX11_takeRead_191 : decode cX11_takeRead 191 = .ok (.aload_n 0, 1) := by decide +kernel
theorem dX11_takeRead_192 : decode cX11_takeRead 192 = .ok (.getfield 44, 3) := by decide +kernel
theorem dX11_takeRead_195 : decode cX11_takeRead 195 = .ok (.iload_n 1, 1) := by decide +kernel
theorem dX11_takeRead_196 : decode cX11_takeRead 196 = .ok (.iaload, 1) := by decide +kernel
theorem dX11_takeRead_197 : decode cX11_takeRead 197 = .ok (.iastore, 1) := by decide +kernel
theorem dX11_takeRead_198 : decode cX11_takeRead 198 = .ok (.iinc 1 1, 3) := by decide +kernel
theorem dX11_takeRead_201 : decode cX11_takeRead 201 = .ok (.goto (-38), 3) := by decide +kernel
theorem dX11_takeRead_204 : decode cX11_takeRead 204 = .ok (.iconst 0, 1) := by decide +kernel
theorem dX11_takeRead_205 : decode cX11_takeRead 205 = .ok (.istore_n 1, 1) := by decide +kernel
theorem dX11_takeRead_206 : decode cX11_takeRead 206 = .ok (.iload_n 1, 1) := by decide +kernel
theorem dX11_takeRead_207 : decode cX11_takeRead 207 = .ok (.aload_n 0, 1) := by decide +kernel
theorem dX11_takeRead_208 : decode cX11_takeRead 208 = .ok (.getfield 189, 3) := by decide +kernel
theorem dX11_takeRead_211 : decode cX11_takeRead 211 = .ok (.if_icmp .ge 33, 3) := by decide +kernel
theorem dX11_takeRead_214 : decode cX11_takeRead 214 = .ok (.aload_n 0, 1) := by decide +kernel
theorem dX11_takeRead_215 : decode cX11_takeRead 215 = .ok (.getfield 16, 3) := by decide +kernel
theorem dX11_takeRead_218 : decode cX11_takeRead 218 = .ok (.iload_n 1, 1) := by decide +kernel
theorem dX11_takeRead_219 : decode cX11_takeRead 219 = .ok (.aload_n 0, 1) := by decide +kernel
theorem dX11_takeRead_220 : decode cX11_takeRead 220 = .ok (.getfield 47, 3) := by decide +kernel
theorem dX11_takeRead_223 : decode cX11_takeRead 223 = .ok (.iload_n 1, 1) := by decide +kernel
theorem dX11_takeRead_224 : decode cX11_takeRead 224 = .ok (.iaload, 1) := by decide +kernel
theorem dX11_takeRead_225 : decode cX11_takeRead 225 = .ok (.iastore, 1) := by decide +kernel
theorem dX11_takeRead_226 : decode cX11_takeRead 226 = .ok (.aload_n 0, 1) := by decide +kernel
theorem dX11_takeRead_227 : decode cX11_takeRead 227 = .ok (.getfield 19, 3) := by decide +kernel
theorem dX11_takeRead_230 : decode cX11_takeRead 230 = .ok (.iload_n 1, 1) := by decide +kernel
theorem dX11_takeRead_231 : decode cX11_takeRead 231 = .ok (.aload_n 0, 1) := by decide +kernel
theorem dX11_takeRead_232 : decode cX11_takeRead 232 = .ok (.getfield 50, 3) := by decide +kernel
theorem dX11_takeRead_235 : decode cX11_takeRead 235 = .ok (.iload_n 1, 1) := by decide +kernel
theorem dX11_takeRead_236 : decode cX11_takeRead 236 = .ok (.iaload, 1) := by decide +kernel
theorem dX11_takeRead_237 : decode cX11_takeRead 237 = .ok (.iastore, 1) := by decide +kernel
theorem dX11_takeRead_238 : decode cX11_takeRead 238 = .ok (.iinc 1 1, 3) := by decide +kernel
theorem dX11_takeRead_241 : decode cX11_takeRead 241 = .ok (.goto (-35), 3) := by decide +kernel
theorem dX11_takeRead_244 : decode cX11_takeRead 244 = .ok (.return_, 1) := by decide +kernel
set_option maxRecDepth 20000 in
theorem ggX11_plateau_X11_here : GoodIn wsX11_plateau wsX11_here := goodIn_r _ [18, 2, 8, 19, 99, 100, 101, 102, 103, 104, 105, 106, 107, 108, 109, 110, 111, 112, 113, 114, 115, 116, 117, 118, 119, 120, 121, 122, 123, 124, 125, 126, 127, 128, 129, 130, 131, 132, 133, 134, 135, 136, 137, 138, 139, 140, 141, 142, 143] (by decide +kernel) (by decide +kernel)
set_option maxRecDepth 20000 in
theorem gX11_plateau_X11_here : GoodIn wsX11_plateau (wsV RX11 113 RX11 yX11_here wsX11_here) := goodIn_app (goodIn_of _ (by decide +kernel)) ggX11_plateau_X11_here
set_option maxRecDepth 20000 in
theorem ggX11_plateau_X11_takeClause : GoodIn wsX11_plateau wsX11_takeClause := goodIn_r _ [23, 3, 2, 14, 15, 16, 17, 18, 8, 19, 24, 25, 26, 27, 28, 29, 30, 31, 1, 32, 33, 34, 35, 5, 6, 7, 36, 37, 38, 39, 40, 41, 42, 43, 44, 45, 46, 47, 48, 49, 50, 51, 52, 53, 54, 55, 56, 57, 58, 59, 60, 61, 62, 4, 63, 64, 65, 66, 67, 68, 69, 70, 71, 72, 73, 74, 75, 76, 77, 78, 79, 80, 81, 82, 83, 99, 100, 101, 102, 103, 104, 105, 106, 107, 108, 109, 110, 111, 112, 113, 114, 115, 116, 117, 118, 119, 120, 121, 122, 123, 124, 125, 126, 127, 128, 129, 130, 131, 132, 133, 134, 135, 136, 137, 138, 139, 140, 141, 142, 143] (by decide +kernel) (by decide +kernel)
set_option maxRecDepth 20000 in
theorem gX11_plateau_X11_takeClause : GoodIn wsX11_plateau (wsV RX11 192 RX11 yX11_takeClause wsX11_takeClause) := goodIn_app (goodIn_of _ (by decide +kernel)) ggX11_plateau_X11_takeClause
set_option maxRecDepth 20000 in
theorem ggX11_plateau_X11_takeRead : GoodIn wsX11_plateau wsX11_takeRead := goodIn_r _ [87, 3, 13, 88, 89, 4, 90, 5, 91, 6, 92, 7, 93, 94, 70, 95, 71, 76, 96, 77, 97, 82, 98, 83, 99, 100, 101, 102, 103, 104, 105, 106, 107, 108, 109, 110, 111, 112, 113, 114, 115, 116, 117, 118, 119, 120, 121, 122, 123, 124, 125, 126, 127, 128, 129, 130, 131, 132, 133, 134, 135, 136, 137, 138, 139, 140, 141, 142, 143] (by decide +kernel) (by decide +kernel)
set_option maxRecDepth 20000 in
theorem gX11_plateau_X11_takeRead : GoodIn wsX11_plateau (wsV RX11 195 RX11 yX11_takeRead wsX11_takeRead) := goodIn_app (goodIn_of _ (by decide +kernel)) ggX11_plateau_X11_takeRead
theorem dX11_plateau_0 : decode cX11_plateau 0 = .ok (.aload_n 0, 1) := by decide +kernel
theorem dX11_plateau_1 : decode cX11_plateau 1 = .ok (.iconst (-1), 1) := by decide +kernel
theorem dX11_plateau_2 : decode cX11_plateau 2 = .ok (.putfield 28, 3) := by decide +kernel
theorem dX11_plateau_5 : decode cX11_plateau 5 = .ok (.aload_n 0, 1) := by decide +kernel
theorem dX11_plateau_6 : decode cX11_plateau 6 = .ok (.iconst 0, 1) := by decide +kernel
theorem dX11_plateau_7 : decode cX11_plateau 7 = .ok (.putfield 110, 3) := by decide +kernel
theorem dX11_plateau_10 : decode cX11_plateau 10 = .ok (.iconst 0, 1) := by decide +kernel
theorem dX11_plateau_11 : decode cX11_plateau 11 = .ok (.istore_n 1, 1) := by decide +kernel
theorem dX11_plateau_12 : decode cX11_plateau 12 = .ok (.iload_n 1, 1) := by decide +kernel
theorem dX11_plateau_13 : decode cX11_plateau 13 = .ok (.iconst 3, 1) := by decide +kernel
theorem dX11_plateau_14 : decode cX11_plateau 14 = .ok (.if_icmp .ge 16, 3) := by decide +kernel
theorem dX11_plateau_17 : decode cX11_plateau 17 = .ok (.aload_n 0, 1) := by decide +kernel
theorem dX11_plateau_18 : decode cX11_plateau 18 = .ok (.getfield 32, 3) := by decide +kernel
theorem dX11_plateau_21 : decode cX11_plateau 21 = .ok (.iload_n 1, 1) := by decide +kernel
theorem dX11_plateau_22 : decode cX11_plateau 22 = .ok (.iconst 0, 1) := by decide +kernel
theorem dX11_plateau_23 : decode cX11_plateau 23 = .ok (.iastore, 1) := by decide +kernel
theorem dX11_plateau_24 : decode cX11_plateau 24 = .ok (.iinc 1 1, 3) := by decide +kernel
theorem dX11_plateau_27 : decode cX11_plateau 27 = .ok (.goto (-15), 3) := by decide +kernel
theorem dX11_plateau_30 : decode cX11_plateau 30 = .ok (.aload_n 0, 1) := by decide +kernel
theorem dX11_plateau_31 : decode cX11_plateau 31 = .ok (.iconst 0, 1) := by decide +kernel
theorem dX11_plateau_32 : decode cX11_plateau 32 = .ok (.putfield 138, 3) := by decide +kernel
theorem dX11_plateau_35 : decode cX11_plateau 35 = .ok (.aload_n 0, 1) := by decide +kernel
theorem dX11_plateau_36 : decode cX11_plateau 36 = .ok (.iconst 0, 1) := by decide +kernel
theorem dX11_plateau_37 : decode cX11_plateau 37 = .ok (.putfield 145, 3) := by decide +kernel
theorem dX11_plateau_40 : decode cX11_plateau 40 = .ok (.aload_n 0, 1) := by decide +kernel
theorem dX11_plateau_41 : decode cX11_plateau 41 = .ok (.iconst 0, 1) := by decide +kernel
theorem dX11_plateau_42 : decode cX11_plateau 42 = .ok (.putfield 148, 3) := by decide +kernel
theorem dX11_plateau_45 : decode cX11_plateau 45 = .ok (.aload_n 0, 1) := by decide +kernel
theorem dX11_plateau_46 : decode cX11_plateau 46 = .ok (.iconst 0, 1) := by decide +kernel
theorem dX11_plateau_47 : decode cX11_plateau 47 = .ok (.putfield 151, 3) := by decide +kernel
theorem dX11_plateau_50 : decode cX11_plateau 50 = .ok (.iconst 0, 1) := by decide +kernel
theorem dX11_plateau_51 : decode cX11_plateau 51 = .ok (.istore_n 1, 1) := by decide +kernel
theorem dX11_plateau_52 : decode cX11_plateau 52 = .ok (.iload_n 1, 1) := by decide +kernel
theorem dX11_plateau_53 : decode cX11_plateau 53 = .ok (.ifCond .ne 18, 3) := by decide +kernel
theorem dX11_plateau_56 : decode cX11_plateau 56 = .ok (.aload_n 0, 1) := by decide +kernel
theorem dX11_plateau_57 : decode cX11_plateau 57 = .ok (.invokevirtual 113, 3) := by decide +kernel
theorem dX11_plateau_60 : decode cX11_plateau 60 = .ok (.ifCond .lt 11, 3) := by decide +kernel
theorem dX11_plateau_63 : decode cX11_plateau 63 = .ok (.aload_n 0, 1) := by decide +kernel
theorem dX11_plateau_64 : decode cX11_plateau 64 = .ok (.invokevirtual 192, 3) := by decide +kernel
theorem dX11_plateau_67 : decode cX11_plateau 67 = .ok (.istore_n 1, 1) := by decide +kernel
theorem dX11_plateau_68 : decode cX11_plateau 68 = .ok (.goto (-16), 3) := by decide +kernel
theorem dX11_plateau_71 : decode cX11_plateau 71 = .ok (.aload_n 0, 1) := by decide +kernel
theorem dX11_plateau_72 : decode cX11_plateau 72 = .ok (.iconst 0, 1) := by decide +kernel
theorem dX11_plateau_73 : decode cX11_plateau 73 = .ok (.putfield 106, 3) := by decide +kernel
theorem dX11_plateau_76 : decode cX11_plateau 76 = .ok (.iload_n 1, 1) := by decide +kernel
theorem dX11_plateau_77 : decode cX11_plateau 77 = .ok (.ifCond .le 8, 3) := by decide +kernel
theorem dX11_plateau_80 : decode cX11_plateau 80 = .ok (.bipush (-10), 2) := by decide +kernel
theorem dX11_plateau_82 : decode cX11_plateau 82 = .ok (.iload_n 1, 1) := by decide +kernel
theorem dX11_plateau_83 : decode cX11_plateau 83 = .ok (.isub, 1) := by decide +kernel
theorem dX11_plateau_84 : decode cX11_plateau 84 = .ok (.ireturn, 1) := by decide +kernel
theorem dX11_plateau_85 : decode cX11_plateau 85 = .ok (.aload_n 0, 1) := by decide +kernel
theorem dX11_plateau_86 : decode cX11_plateau 86 = .ok (.invokevirtual 195, 3) := by decide +kernel
theorem dX11_plateau_89 : decode cX11_plateau 89 = .ok (.aload_n 0, 1) := by decide +kernel
theorem dX11_plateau_90 : decode cX11_plateau 90 = .ok (.iconst 0, 1) := by decide +kernel
theorem dX11_plateau_91 : decode cX11_plateau 91 = .ok (.putfield 198, 3) := by decide +kernel
theorem dX11_plateau_94 : decode cX11_plateau 94 = .ok (.aload_n 0, 1) := by decide +kernel
theorem dX11_plateau_95 : decode cX11_plateau 95 = .ok (.iconst 0, 1) := by decide +kernel
theorem dX11_plateau_96 : decode cX11_plateau 96 = .ok (.putfield 201, 3) := by decide +kernel
theorem dX11_plateau_99 : decode cX11_plateau 99 = .ok (.aload_n 0, 1) := by decide +kernel
theorem dX11_plateau_100 : decode cX11_plateau 100 = .ok (.iconst 0, 1) := by decide +kernel
theorem dX11_plateau_101 : decode cX11_plateau 101 = .ok (.putfield 204, 3) := by decide +kernel
theorem dX11_plateau_104 : decode cX11_plateau 104 = .ok (.aload_n 0, 1) := by decide +kernel
theorem dX11_plateau_105 : decode cX11_plateau 105 = .ok (.getfield 87, 3) := by decide +kernel
theorem dX11_plateau_108 : decode cX11_plateau 108 = .ok (.iconst 0, 1) := by decide +kernel
theorem dX11_plateau_109 : decode cX11_plateau 109 = .ok (.iconst 0, 1) := by decide +kernel
theorem dX11_plateau_110 : decode cX11_plateau 110 = .ok (.bastore, 1) := by decide +kernel
theorem dX11_plateau_111 : decode cX11_plateau 111 = .ok (.aload_n 0, 1) := by decide +kernel
theorem dX11_plateau_112 : decode cX11_plateau 112 = .ok (.getfield 87, 3) := by decide +kernel
theorem dX11_plateau_115 : decode cX11_plateau 115 = .ok (.iconst 1, 1) := by decide +kernel
theorem dX11_plateau_116 : decode cX11_plateau 116 = .ok (.iconst 0, 1) := by decide +kernel
theorem dX11_plateau_117 : decode cX11_plateau 117 = .ok (.bastore, 1) := by decide +kernel
theorem dX11_plateau_118 : decode cX11_plateau 118 = .ok (.aload_n 0, 1) := by decide +kernel
theorem dX11_plateau_119 : decode cX11_plateau 119 = .ok (.getfield 90, 3) := by decide +kernel
theorem dX11_plateau_122 : decode cX11_plateau 122 = .ok (.ireturn, 1) := by decide +kernel
theorem dX11_fault_0 : decode cX11_fault 0 = .ok (.aload_n 0, 1) := by decide +kernel
theorem dX11_fault_1 : decode cX11_fault 1 = .ok (.getfield 28, 3) := by decide +kernel
theorem dX11_fault_4 : decode cX11_fault 4 = .ok (.ireturn, 1) := by decide +kernel
set_option maxRecDepth 20000 in
theorem ggX11_openCells_X11_has : GoodIn wsX11_openCells wsX11_has := goodIn_r _ [8] (by decide +kernel) (by decide +kernel)
set_option maxRecDepth 20000 in
theorem gX11_openCells_X11_has : GoodIn wsX11_openCells (va_wsS RX11 141 yX11_has wsX11_has) := goodIn_app (goodIn_of _ (by decide +kernel)) ggX11_openCells_X11_has
theorem dX11_openCells_0 : decode cX11_openCells 0 = .ok (.iconst 0, 1) := by decide +kernel
theorem dX11_openCells_1 : decode cX11_openCells 1 = .ok (.istore_n 1, 1) := by decide +kernel
theorem dX11_openCells_2 : decode cX11_openCells 2 = .ok (.iconst 0, 1) := by decide +kernel
theorem dX11_openCells_3 : decode cX11_openCells 3 = .ok (.istore_n 2, 1) := by decide +kernel
theorem dX11_openCells_4 : decode cX11_openCells 4 = .ok (.iload_n 2, 1) := by decide +kernel
theorem dX11_openCells_5 : decode cX11_openCells 5 = .ok (.aload_n 0, 1) := by decide +kernel
theorem dX11_openCells_6 : decode cX11_openCells 6 = .ok (.getfield 90, 3) := by decide +kernel
theorem dX11_openCells_9 : decode cX11_openCells 9 = .ok (.if_icmp .ge 43, 3) := by decide +kernel
theorem dX11_openCells_12 : decode cX11_openCells 12 = .ok (.iload_n 1, 1) := by decide +kernel
theorem dX11_openCells_13 : decode cX11_openCells 13 = .ok (.aload_n 0, 1) := by decide +kernel
theorem dX11_openCells_14 : decode cX11_openCells 14 = .ok (.getfield 186, 3) := by decide +kernel
theorem dX11_openCells_17 : decode cX11_openCells 17 = .ok (.iload_n 2, 1) := by decide +kernel
theorem dX11_openCells_18 : decode cX11_openCells 18 = .ok (.invokestatic 141, 3) := by decide +kernel
theorem dX11_openCells_21 : decode cX11_openCells 21 = .ok (.ifCond .eq 22, 3) := by decide +kernel
theorem dX11_openCells_24 : decode cX11_openCells 24 = .ok (.aload_n 0, 1) := by decide +kernel
theorem dX11_openCells_25 : decode cX11_openCells 25 = .ok (.getfield 22, 3) := by decide +kernel
theorem dX11_openCells_28 : decode cX11_openCells 28 = .ok (.iload_n 2, 1) := by decide +kernel
theorem dX11_openCells_29 : decode cX11_openCells 29 = .ok (.iaload, 1) := by decide +kernel
theorem dX11_openCells_30 : decode cX11_openCells 30 = .ok (.aload_n 0, 1) := by decide +kernel
theorem dX11_openCells_31 : decode cX11_openCells 31 = .ok (.getfield 183, 3) := by decide +kernel
theorem dX11_openCells_34 : decode cX11_openCells 34 = .ok (.if_icmp .gt 9, 3) := by decide +kernel
theorem dX11_openCells_37 : decode cX11_openCells 37 = .ok (.iconst 1, 1) := by decide +kernel
theorem dX11_openCells_38 : decode cX11_openCells 38 = .ok (.iload_n 2, 1) := by decide +kernel
theorem dX11_openCells_39 : decode cX11_openCells 39 = .ok (.ishl, 1) := by decide +kernel
theorem dX11_openCells_40 : decode cX11_openCells 40 = .ok (.goto 4, 3) := by decide +kernel
theorem dX11_openCells_43 : decode cX11_openCells 43 = .ok (.iconst 0, 1) := by decide +kernel
theorem dX11_openCells_44 : decode cX11_openCells 44 = .ok (.ior, 1) := by decide +kernel
theorem dX11_openCells_45 : decode cX11_openCells 45 = .ok (.istore_n 1, 1) := by decide +kernel
theorem dX11_openCells_46 : decode cX11_openCells 46 = .ok (.iinc 2 1, 3) := by decide +kernel
theorem dX11_openCells_49 : decode cX11_openCells 49 = .ok (.goto (-45), 3) := by decide +kernel
theorem dX11_openCells_52 : decode cX11_openCells 52 = .ok (.iload_n 1, 1) := by decide +kernel
theorem dX11_openCells_53 : decode cX11_openCells 53 = .ok (.ireturn, 1) := by decide +kernel
theorem dX11_letPosts_0 : decode cX11_letPosts 0 = .ok (.iconst 0, 1) := by decide +kernel
theorem dX11_letPosts_1 : decode cX11_letPosts 1 = .ok (.istore_n 1, 1) := by decide +kernel
theorem dX11_letPosts_2 : decode cX11_letPosts 2 = .ok (.iconst 0, 1) := by decide +kernel
theorem dX11_letPosts_3 : decode cX11_letPosts 3 = .ok (.istore_n 2, 1) := by decide +kernel
theorem dX11_letPosts_4 : decode cX11_letPosts 4 = .ok (.iload_n 2, 1) := by decide +kernel
theorem dX11_letPosts_5 : decode cX11_letPosts 5 = .ok (.aload_n 0, 1) := by decide +kernel
theorem dX11_letPosts_6 : decode cX11_letPosts 6 = .ok (.getfield 97, 3) := by decide +kernel
theorem dX11_letPosts_9 : decode cX11_letPosts 9 = .ok (.if_icmp .ge 31, 3) := by decide +kernel
theorem dX11_letPosts_12 : decode cX11_letPosts 12 = .ok (.iload_n 1, 1) := by decide +kernel
theorem dX11_letPosts_13 : decode cX11_letPosts 13 = .ok (.aload_n 0, 1) := by decide +kernel
theorem dX11_letPosts_14 : decode cX11_letPosts 14 = .ok (.getfield 22, 3) := by decide +kernel
theorem dX11_letPosts_17 : decode cX11_letPosts 17 = .ok (.bipush 18, 2) := by decide +kernel
theorem dX11_letPosts_19 : decode cX11_letPosts 19 = .ok (.iload_n 2, 1) := by decide +kernel
theorem dX11_letPosts_20 : decode cX11_letPosts 20 = .ok (.iadd, 1) := by decide +kernel
theorem dX11_letPosts_21 : decode cX11_letPosts 21 = .ok (.iaload, 1) := by decide +kernel
theorem dX11_letPosts_22 : decode cX11_letPosts 22 = .ok (.ifCond .lt 9, 3) := by decide +kernel
theorem dX11_letPosts_25 : decode cX11_letPosts 25 = .ok (.iconst 1, 1) := by decide +kernel
theorem dX11_letPosts_26 : decode cX11_letPosts 26 = .ok (.iload_n 2, 1) := by decide +kernel
theorem dX11_letPosts_27 : decode cX11_letPosts 27 = .ok (.ishl, 1) := by decide +kernel
theorem dX11_letPosts_28 : decode cX11_letPosts 28 = .ok (.goto 4, 3) := by decide +kernel
theorem dX11_letPosts_31 : decode cX11_letPosts 31 = .ok (.iconst 0, 1) := by decide +kernel
theorem dX11_letPosts_32 : decode cX11_letPosts 32 = .ok (.ior, 1) := by decide +kernel
theorem dX11_letPosts_33 : decode cX11_letPosts 33 = .ok (.istore_n 1, 1) := by decide +kernel
theorem dX11_letPosts_34 : decode cX11_letPosts 34 = .ok (.iinc 2 1, 3) := by decide +kernel
theorem dX11_letPosts_37 : decode cX11_letPosts 37 = .ok (.goto (-33), 3) := by decide +kernel
theorem dX11_letPosts_40 : decode cX11_letPosts 40 = .ok (.iload_n 1, 1) := by decide +kernel
theorem dX11_letPosts_41 : decode cX11_letPosts 41 = .ok (.ireturn, 1) := by decide +kernel
theorem dX11_allSnow_0 : decode cX11_allSnow 0 = .ok (.iconst 0, 1) := by decide +kernel
theorem dX11_allSnow_1 : decode cX11_allSnow 1 = .ok (.istore_n 1, 1) := by decide +kernel
theorem dX11_allSnow_2 : decode cX11_allSnow 2 = .ok (.iconst 0, 1) := by decide +kernel
theorem dX11_allSnow_3 : decode cX11_allSnow 3 = .ok (.istore_n 2, 1) := by decide +kernel
theorem dX11_allSnow_4 : decode cX11_allSnow 4 = .ok (.iload_n 2, 1) := by decide +kernel
theorem dX11_allSnow_5 : decode cX11_allSnow 5 = .ok (.aload_n 0, 1) := by decide +kernel
theorem dX11_allSnow_6 : decode cX11_allSnow 6 = .ok (.getfield 90, 3) := by decide +kernel
theorem dX11_allSnow_9 : decode cX11_allSnow 9 = .ok (.if_icmp .ge 18, 3) := by decide +kernel
theorem dX11_allSnow_12 : decode cX11_allSnow 12 = .ok (.iload_n 1, 1) := by decide +kernel
theorem dX11_allSnow_13 : decode cX11_allSnow 13 = .ok (.aload_n 0, 1) := by decide +kernel
theorem dX11_allSnow_14 : decode cX11_allSnow 14 = .ok (.getfield 22, 3) := by decide +kernel
theorem dX11_allSnow_17 : decode cX11_allSnow 17 = .ok (.iload_n 2, 1) := by decide +kernel
theorem dX11_allSnow_18 : decode cX11_allSnow 18 = .ok (.iaload, 1) := by decide +kernel
theorem dX11_allSnow_19 : decode cX11_allSnow 19 = .ok (.iadd, 1) := by decide +kernel
theorem dX11_allSnow_20 : decode cX11_allSnow 20 = .ok (.istore_n 1, 1) := by decide +kernel
theorem dX11_allSnow_21 : decode cX11_allSnow 21 = .ok (.iinc 2 1, 3) := by decide +kernel
theorem dX11_allSnow_24 : decode cX11_allSnow 24 = .ok (.goto (-20), 3) := by decide +kernel
theorem dX11_allSnow_27 : decode cX11_allSnow 27 = .ok (.iload_n 1, 1) := by decide +kernel
theorem dX11_allSnow_28 : decode cX11_allSnow 28 = .ok (.ireturn, 1) := by decide +kernel
set_option maxRecDepth 20000 in
theorem ggX11_told_X11_openCells : GoodIn wsX11_told wsX11_openCells := goodIn_r _ [16, 1, 7, 6, 17, 18, 19, 15, 20, 29, 30, 31, 32, 33, 34, 35, 36, 37, 38, 39, 40, 41, 42, 43, 44, 45, 46, 47, 48, 49, 50, 51, 52, 53, 54, 55, 56, 57, 58, 59, 60, 61, 62, 63, 64, 65, 66, 67, 68, 69, 70, 71, 72, 73] (by decide +kernel) (by decide +kernel)
set_option maxRecDepth 20000 in
theorem gX11_told_X11_openCells : GoodIn wsX11_told (wsV RX11 207 RX11 yX11_openCells wsX11_openCells) := goodIn_app (goodIn_of _ (by decide +kernel)) ggX11_told_X11_openCells
set_option maxRecDepth 20000 in
theorem ggX11_told_X11_letPosts : GoodIn wsX11_told wsX11_letPosts := goodIn_r _ [24, 2, 6, 29, 30, 31, 32, 33, 34, 35, 36, 37, 38, 39, 40, 41, 42, 43, 44, 45, 46, 47, 48, 49, 50, 51, 52, 53, 54, 55, 56, 57, 58, 59, 60, 61, 62, 63, 64, 65, 66, 67, 68, 69, 70, 71, 72, 73] (by decide +kernel) (by decide +kernel)
set_option maxRecDepth 20000 in
theorem gX11_told_X11_letPosts : GoodIn wsX11_told (wsV RX11 210 RX11 yX11_letPosts wsX11_letPosts) := goodIn_app (goodIn_of _ (by decide +kernel)) ggX11_told_X11_letPosts
set_option maxRecDepth 20000 in
theorem ggX11_told_X11_allSnow : GoodIn wsX11_told wsX11_allSnow := goodIn_r _ [28, 1, 6, 29, 30, 31, 32, 33, 34, 35, 36, 37, 38, 39, 40, 41, 42, 43, 44, 45, 46, 47, 48, 49, 50, 51, 52, 53, 54, 55, 56, 57, 58, 59, 60, 61, 62, 63, 64, 65, 66, 67, 68, 69, 70, 71, 72, 73] (by decide +kernel) (by decide +kernel)
set_option maxRecDepth 20000 in
theorem gX11_told_X11_allSnow : GoodIn wsX11_told (wsV RX11 213 RX11 yX11_allSnow wsX11_allSnow) := goodIn_app (goodIn_of _ (by decide +kernel)) ggX11_told_X11_allSnow
theorem dX11_told_0 : decode cX11_told 0 = .ok (.iload_n 1, 1) := by decide +kernel
theorem dX11_told_1 : decode cX11_told 1 = .ok (.tableswitch 159 0 14 #[75, 80, 85, 90, 95, 100, 108, 116, 121, 126, 134, 139, 144, 149, 154], 75) := by decide +kernel
theorem dX11_told_76 : decode cX11_told 76 = .ok (.aload_n 0, 1) := by decide +kernel
theorem dX11_told_77 : decode cX11_told 77 = .ok (.getfield 90, 3) := by decide +kernel
theorem dX11_told_80 : decode cX11_told 80 = .ok (.ireturn, 1) := by decide +kernel
theorem dX11_told_81 : decode cX11_told 81 = .ok (.aload_n 0, 1) := by decide +kernel
theorem dX11_told_82 : decode cX11_told 82 = .ok (.getfield 97, 3) := by decide +kernel
theorem dX11_told_85 : decode cX11_told 85 = .ok (.ireturn, 1) := by decide +kernel
theorem dX11_told_86 : decode cX11_told 86 = .ok (.aload_n 0, 1) := by decide +kernel
theorem dX11_told_87 : decode cX11_told 87 = .ok (.getfield 100, 3) := by decide +kernel
theorem dX11_told_90 : decode cX11_told 90 = .ok (.ireturn, 1) := by decide +kernel
theorem dX11_told_91 : decode cX11_told 91 = .ok (.aload_n 0, 1) := by decide +kernel
theorem dX11_told_92 : decode cX11_told 92 = .ok (.getfield 189, 3) := by decide +kernel
theorem dX11_told_95 : decode cX11_told 95 = .ok (.ireturn, 1) := by decide +kernel
theorem dX11_told_96 : decode cX11_told 96 = .ok (.aload_n 0, 1) := by decide +kernel
theorem dX11_told_97 : decode cX11_told 97 = .ok (.getfield 106, 3) := by decide +kernel
theorem dX11_told_100 : decode cX11_told 100 = .ok (.ireturn, 1) := by decide +kernel
theorem dX11_told_101 : decode cX11_told 101 = .ok (.aload_n 0, 1) := by decide +kernel
theorem dX11_told_102 : decode cX11_told 102 = .ok (.getfield 22, 3) := by decide +kernel
theorem dX11_told_105 : decode cX11_told 105 = .ok (.bipush 35, 2) := by decide +kernel
theorem dX11_told_107 : decode cX11_told 107 = .ok (.iaload, 1) := by decide +kernel
theorem dX11_told_108 : decode cX11_told 108 = .ok (.ireturn, 1) := by decide +kernel
theorem dX11_told_109 : decode cX11_told 109 = .ok (.aload_n 0, 1) := by decide +kernel
theorem dX11_told_110 : decode cX11_told 110 = .ok (.getfield 22, 3) := by decide +kernel
theorem dX11_told_113 : decode cX11_told 113 = .ok (.bipush 36, 2) := by decide +kernel
theorem dX11_told_115 : decode cX11_told 115 = .ok (.iaload, 1) := by decide +kernel
theorem dX11_told_116 : decode cX11_told 116 = .ok (.ireturn, 1) := by decide +kernel
theorem dX11_told_117 : decode cX11_told 117 = .ok (.aload_n 0, 1) := by decide +kernel
theorem dX11_told_118 : decode cX11_told 118 = .ok (.getfield 186, 3) := by decide +kernel
theorem dX11_told_121 : decode cX11_told 121 = .ok (.ireturn, 1) := by decide +kernel
theorem dX11_told_122 : decode cX11_told 122 = .ok (.aload_n 0, 1) := by decide +kernel
theorem dX11_told_123 : decode cX11_told 123 = .ok (.invokevirtual 207, 3) := by decide +kernel
theorem dX11_told_126 : decode cX11_told 126 = .ok (.ireturn, 1) := by decide +kernel
theorem dX11_told_127 : decode cX11_told 127 = .ok (.aload_n 0, 1) := by decide +kernel
theorem dX11_told_128 : decode cX11_told 128 = .ok (.getfield 22, 3) := by decide +kernel
theorem dX11_told_131 : decode cX11_told 131 = .ok (.bipush 24, 2) := by decide +kernel
theorem dX11_told_133 : decode cX11_told 133 = .ok (.iaload, 1) := by decide +kernel
theorem dX11_told_134 : decode cX11_told 134 = .ok (.ireturn, 1) := by decide +kernel
theorem dX11_told_135 : decode cX11_told 135 = .ok (.aload_n 0, 1) := by decide +kernel
theorem dX11_told_136 : decode cX11_told 136 = .ok (.invokevirtual 210, 3) := by decide +kernel
theorem dX11_told_139 : decode cX11_told 139 = .ok (.ireturn, 1) := by decide +kernel
theorem dX11_told_140 : decode cX11_told 140 = .ok (.aload_n 0, 1) := by decide +kernel
theorem dX11_told_141 : decode cX11_told 141 = .ok (.invokevirtual 213, 3) := by decide +kernel
theorem dX11_told_144 : decode cX11_told 144 = .ok (.ireturn, 1) := by decide +kernel
theorem dX11_told_145 : decode cX11_told 145 = .ok (.aload_n 0, 1) := by decide +kernel
theorem dX11_told_146 : decode cX11_told 146 = .ok (.getfield 198, 3) := by decide +kernel
theorem dX11_told_149 : decode cX11_told 149 = .ok (.ireturn, 1) := by decide +kernel
theorem dX11_told_150 : decode cX11_told 150 = .ok (.aload_n 0, 1) := by decide +kernel
theorem dX11_told_151 : decode cX11_told 151 = .ok (.getfield 201, 3) := by decide +kernel
theorem dX11_told_154 : decode cX11_told 154 = .ok (.ireturn, 1) := by decide +kernel
theorem dX11_told_155 : decode cX11_told 155 = .ok (.aload_n 0, 1) := by decide +kernel
theorem dX11_told_156 : decode cX11_told 156 = .ok (.getfield 204, 3) := by decide +kernel
theorem dX11_told_159 : decode cX11_told 159 = .ok (.ireturn, 1) := by decide +kernel
theorem dX11_told_160 : decode cX11_told 160 = .ok (.ldc 105, 2) := by decide +kernel
theorem dX11_told_162 : decode cX11_told 162 = .ok (.ireturn, 1) := by decide +kernel
set_option maxRecDepth 20000 in
theorem ggX11_snow_X11_isCell : GoodIn wsX11_snow wsX11_isCell := goodIn_r _ [7, 8, 9, 10, 6, 11, 12, 13, 14, 15, 16, 17, 18, 19, 20, 21, 22, 23, 24, 25, 26, 27, 28, 29, 30, 31, 32, 33, 34, 35, 36, 37, 38, 39, 40, 41, 42, 43, 44, 45, 46, 47, 48, 49, 50, 51, 52, 53, 54, 55, 56] (by decide +kernel) (by decide +kernel)
set_option maxRecDepth 20000 in
theorem gX11_snow_X11_isCell : GoodIn wsX11_snow (wsV RX11 216 RX11 yX11_isCell wsX11_isCell) := goodIn_app (goodIn_of _ (by decide +kernel)) ggX11_snow_X11_isCell
theorem dX11_snow_0 : decode cX11_snow 0 = .ok (.aload_n 0, 1) := by decide +kernel
theorem dX11_snow_1 : decode cX11_snow 1 = .ok (.iload_n 1, 1) := by decide +kernel
theorem dX11_snow_2 : decode cX11_snow 2 = .ok (.invokevirtual 216, 3) := by decide +kernel
theorem dX11_snow_5 : decode cX11_snow 5 = .ok (.ifCond .eq 12, 3) := by decide +kernel
theorem dX11_snow_8 : decode cX11_snow 8 = .ok (.aload_n 0, 1) := by decide +kernel
theorem dX11_snow_9 : decode cX11_snow 9 = .ok (.getfield 22, 3) := by decide +kernel
theorem dX11_snow_12 : decode cX11_snow 12 = .ok (.iload_n 1, 1) := by decide +kernel
theorem dX11_snow_13 : decode cX11_snow 13 = .ok (.iaload, 1) := by decide +kernel
theorem dX11_snow_14 : decode cX11_snow 14 = .ok (.goto 5, 3) := by decide +kernel
theorem dX11_snow_17 : decode cX11_snow 17 = .ok (.ldc 219, 2) := by decide +kernel
theorem dX11_snow_19 : decode cX11_snow 19 = .ok (.ireturn, 1) := by decide +kernel
set_option maxRecDepth 20000 in
theorem ggX11_post_X11_isPost : GoodIn wsX11_post wsX11_isPost := goodIn_r _ [9, 10, 11, 12, 8, 13, 14, 15, 16, 17, 18, 19, 20, 21, 22, 23, 24, 25, 26, 27, 28, 29, 30, 31, 32, 33, 34, 35, 36, 37, 38, 39, 40, 41, 42, 43, 44, 45, 46, 47, 48, 49, 50, 51, 52, 53, 54, 55, 56, 57, 58] (by decide +kernel) (by decide +kernel)
set_option maxRecDepth 20000 in
theorem gX11_post_X11_isPost : GoodIn wsX11_post (wsV RX11 220 RX11 yX11_isPost wsX11_isPost) := goodIn_app (goodIn_of _ (by decide +kernel)) ggX11_post_X11_isPost
theorem dX11_post_0 : decode cX11_post 0 = .ok (.aload_n 0, 1) := by decide +kernel
theorem dX11_post_1 : decode cX11_post 1 = .ok (.iload_n 1, 1) := by decide +kernel
theorem dX11_post_2 : decode cX11_post 2 = .ok (.invokevirtual 220, 3) := by decide +kernel
theorem dX11_post_5 : decode cX11_post 5 = .ok (.ifCond .ne 6, 3) := by decide +kernel
theorem dX11_post_8 : decode cX11_post 8 = .ok (.ldc 219, 2) := by decide +kernel
theorem dX11_post_10 : decode cX11_post 10 = .ok (.ireturn, 1) := by decide +kernel
theorem dX11_post_11 : decode cX11_post 11 = .ok (.iload_n 2, 1) := by decide +kernel
theorem dX11_post_12 : decode cX11_post 12 = .ok (.tableswitch 71 0 3 #[32, 42, 49, 59], 32) := by decide +kernel
theorem dX11_post_44 : decode cX11_post 44 = .ok (.aload_n 0, 1) := by decide +kernel
theorem dX11_post_45 : decode cX11_post 45 = .ok (.getfield 22, 3) := by decide +kernel
theorem dX11_post_48 : decode cX11_post 48 = .ok (.bipush 12, 2) := by decide +kernel
theorem dX11_post_50 : decode cX11_post 50 = .ok (.iload_n 1, 1) := by decide +kernel
theorem dX11_post_51 : decode cX11_post 51 = .ok (.iadd, 1) := by decide +kernel
theorem dX11_post_52 : decode cX11_post 52 = .ok (.iaload, 1) := by decide +kernel
theorem dX11_post_53 : decode cX11_post 53 = .ok (.ireturn, 1) := by decide +kernel
theorem dX11_post_54 : decode cX11_post 54 = .ok (.aload_n 0, 1) := by decide +kernel
theorem dX11_post_55 : decode cX11_post 55 = .ok (.getfield 7, 3) := by decide +kernel
theorem dX11_post_58 : decode cX11_post 58 = .ok (.iload_n 1, 1) := by decide +kernel
theorem dX11_post_59 : decode cX11_post 59 = .ok (.iaload, 1) := by decide +kernel
theorem dX11_post_60 : decode cX11_post 60 = .ok (.ireturn, 1) := by decide +kernel
theorem dX11_post_61 : decode cX11_post 61 = .ok (.aload_n 0, 1) := by decide +kernel
theorem dX11_post_62 : decode cX11_post 62 = .ok (.getfield 22, 3) := by decide +kernel
theorem dX11_post_65 : decode cX11_post 65 = .ok (.bipush 18, 2) := by decide +kernel
theorem dX11_post_67 : decode cX11_post 67 = .ok (.iload_n 1, 1) := by decide +kernel
theorem dX11_post_68 : decode cX11_post 68 = .ok (.iadd, 1) := by decide +kernel
theorem dX11_post_69 : decode cX11_post 69 = .ok (.iaload, 1) := by decide +kernel
theorem dX11_post_70 : decode cX11_post 70 = .ok (.ireturn, 1) := by decide +kernel
theorem dX11_post_71 : decode cX11_post 71 = .ok (.aload_n 0, 1) := by decide +kernel
theorem dX11_post_72 : decode cX11_post 72 = .ok (.getfield 22, 3) := by decide +kernel
theorem dX11_post_75 : decode cX11_post 75 = .ok (.bipush 24, 2) := by decide +kernel
theorem dX11_post_77 : decode cX11_post 77 = .ok (.iaload, 1) := by decide +kernel
theorem dX11_post_78 : decode cX11_post 78 = .ok (.iload_n 1, 1) := by decide +kernel
theorem dX11_post_79 : decode cX11_post 79 = .ok (.ishr, 1) := by decide +kernel
theorem dX11_post_80 : decode cX11_post 80 = .ok (.iconst 1, 1) := by decide +kernel
theorem dX11_post_81 : decode cX11_post 81 = .ok (.iand, 1) := by decide +kernel
theorem dX11_post_82 : decode cX11_post 82 = .ok (.ireturn, 1) := by decide +kernel
theorem dX11_post_83 : decode cX11_post 83 = .ok (.ldc 105, 2) := by decide +kernel
theorem dX11_post_85 : decode cX11_post 85 = .ok (.ireturn, 1) := by decide +kernel
theorem dX11_postOf_0 : decode cX11_postOf 0 = .ok (.iconst (-1), 1) := by decide +kernel
theorem dX11_postOf_1 : decode cX11_postOf 1 = .ok (.istore_n 2, 1) := by decide +kernel
theorem dX11_postOf_2 : decode cX11_postOf 2 = .ok (.iconst 0, 1) := by decide +kernel
theorem dX11_postOf_3 : decode cX11_postOf 3 = .ok (.istore_n 3, 1) := by decide +kernel
theorem dX11_postOf_4 : decode cX11_postOf 4 = .ok (.iload_n 3, 1) := by decide +kernel
theorem dX11_postOf_5 : decode cX11_postOf 5 = .ok (.aload_n 0, 1) := by decide +kernel
theorem dX11_postOf_6 : decode cX11_postOf 6 = .ok (.getfield 97, 3) := by decide +kernel
theorem dX11_postOf_9 : decode cX11_postOf 9 = .ok (.if_icmp .ge 28, 3) := by decide +kernel
theorem dX11_postOf_12 : decode cX11_postOf 12 = .ok (.aload_n 0, 1) := by decide +kernel
theorem dX11_postOf_13 : decode cX11_postOf 13 = .ok (.getfield 22, 3) := by decide +kernel
theorem dX11_postOf_16 : decode cX11_postOf 16 = .ok (.bipush 18, 2) := by decide +kernel
theorem dX11_postOf_18 : decode cX11_postOf 18 = .ok (.iload_n 3, 1) := by decide +kernel
theorem dX11_postOf_19 : decode cX11_postOf 19 = .ok (.iadd, 1) := by decide +kernel
theorem dX11_postOf_20 : decode cX11_postOf 20 = .ok (.iaload, 1) := by decide +kernel
theorem dX11_postOf_21 : decode cX11_postOf 21 = .ok (.iload_n 1, 1) := by decide +kernel
theorem dX11_postOf_22 : decode cX11_postOf 22 = .ok (.if_icmp .ne 7, 3) := by decide +kernel
theorem dX11_postOf_25 : decode cX11_postOf 25 = .ok (.iload_n 3, 1) := by decide +kernel
theorem dX11_postOf_26 : decode cX11_postOf 26 = .ok (.goto 4, 3) := by decide +kernel
theorem dX11_postOf_29 : decode cX11_postOf 29 = .ok (.iload_n 2, 1) := by decide +kernel
theorem dX11_postOf_30 : decode cX11_postOf 30 = .ok (.istore_n 2, 1) := by decide +kernel
theorem dX11_postOf_31 : decode cX11_postOf 31 = .ok (.iinc 3 1, 3) := by decide +kernel
theorem dX11_postOf_34 : decode cX11_postOf 34 = .ok (.goto (-30), 3) := by decide +kernel
theorem dX11_postOf_37 : decode cX11_postOf 37 = .ok (.iload_n 2, 1) := by decide +kernel
theorem dX11_postOf_38 : decode cX11_postOf 38 = .ok (.ireturn, 1) := by decide +kernel
set_option maxRecDepth 20000 in
theorem ggX11_crow_X11_isCrow : GoodIn wsX11_crow wsX11_isCrow := goodIn_r _ [9, 10, 11, 12, 8, 13, 19, 20, 21, 22, 23, 24, 25, 26, 27, 28, 29, 30, 31, 32, 33, 34, 35, 36, 37, 38, 39, 40, 41, 42, 43, 44, 45, 46, 47, 48, 49, 50, 51, 52, 53, 54, 55, 56, 57, 58, 59, 60, 61, 62, 63] (by decide +kernel) (by decide +kernel)
set_option maxRecDepth 20000 in
theorem gX11_crow_X11_isCrow : GoodIn wsX11_crow (wsV RX11 223 RX11 yX11_isCrow wsX11_isCrow) := goodIn_app (goodIn_of _ (by decide +kernel)) ggX11_crow_X11_isCrow
set_option maxRecDepth 20000 in
theorem ggX11_crow_X11_postOf : GoodIn wsX11_crow wsX11_postOf := goodIn_r _ [17, 18, 2, 19, 20, 21, 22, 23, 24, 25, 26, 27, 28, 29, 30, 31, 32, 33, 34, 35, 36, 37, 38, 39, 40, 41, 42, 43, 44, 45, 46, 47, 48, 49, 50, 51, 52, 53, 54, 55, 56, 57, 58, 59, 60, 61, 62, 63] (by decide +kernel) (by decide +kernel)
set_option maxRecDepth 20000 in
theorem gX11_crow_X11_postOf : GoodIn wsX11_crow (wsV RX11 226 RX11 yX11_postOf wsX11_postOf) := goodIn_app (goodIn_of _ (by decide +kernel)) ggX11_crow_X11_postOf
theorem dX11_crow_0 : decode cX11_crow 0 = .ok (.aload_n 0, 1) := by decide +kernel
theorem dX11_crow_1 : decode cX11_crow 1 = .ok (.iload_n 1, 1) := by decide +kernel
theorem dX11_crow_2 : decode cX11_crow 2 = .ok (.invokevirtual 223, 3) := by decide +kernel
theorem dX11_crow_5 : decode cX11_crow 5 = .ok (.ifCond .ne 6, 3) := by decide +kernel
theorem dX11_crow_8 : decode cX11_crow 8 = .ok (.ldc 219, 2) := by decide +kernel
theorem dX11_crow_10 : decode cX11_crow 10 = .ok (.ireturn, 1) := by decide +kernel
theorem dX11_crow_11 : decode cX11_crow 11 = .ok (.iload_n 2, 1) := by decide +kernel
theorem dX11_crow_12 : decode cX11_crow 12 = .ok (.tableswitch 65 0 3 #[32, 42, 49, 55], 32) := by decide +kernel
theorem dX11_crow_44 : decode cX11_crow 44 = .ok (.aload_n 0, 1) := by decide +kernel
theorem dX11_crow_45 : decode cX11_crow 45 = .ok (.getfield 22, 3) := by decide +kernel
theorem dX11_crow_48 : decode cX11_crow 48 = .ok (.bipush 25, 2) := by decide +kernel
theorem dX11_crow_50 : decode cX11_crow 50 = .ok (.iload_n 1, 1) := by decide +kernel
theorem dX11_crow_51 : decode cX11_crow 51 = .ok (.iadd, 1) := by decide +kernel
theorem dX11_crow_52 : decode cX11_crow 52 = .ok (.iaload, 1) := by decide +kernel
theorem dX11_crow_53 : decode cX11_crow 53 = .ok (.ireturn, 1) := by decide +kernel
theorem dX11_crow_54 : decode cX11_crow 54 = .ok (.aload_n 0, 1) := by decide +kernel
theorem dX11_crow_55 : decode cX11_crow 55 = .ok (.getfield 13, 3) := by decide +kernel
theorem dX11_crow_58 : decode cX11_crow 58 = .ok (.iload_n 1, 1) := by decide +kernel
theorem dX11_crow_59 : decode cX11_crow 59 = .ok (.iaload, 1) := by decide +kernel
theorem dX11_crow_60 : decode cX11_crow 60 = .ok (.ireturn, 1) := by decide +kernel
theorem dX11_crow_61 : decode cX11_crow 61 = .ok (.aload_n 0, 1) := by decide +kernel
theorem dX11_crow_62 : decode cX11_crow 62 = .ok (.iload_n 1, 1) := by decide +kernel
theorem dX11_crow_63 : decode cX11_crow 63 = .ok (.invokevirtual 226, 3) := by decide +kernel
theorem dX11_crow_66 : decode cX11_crow 66 = .ok (.ireturn, 1) := by decide +kernel
theorem dX11_crow_67 : decode cX11_crow 67 = .ok (.aload_n 0, 1) := by decide +kernel
theorem dX11_crow_68 : decode cX11_crow 68 = .ok (.getfield 22, 3) := by decide +kernel
theorem dX11_crow_71 : decode cX11_crow 71 = .ok (.bipush 30, 2) := by decide +kernel
theorem dX11_crow_73 : decode cX11_crow 73 = .ok (.iload_n 1, 1) := by decide +kernel
theorem dX11_crow_74 : decode cX11_crow 74 = .ok (.iadd, 1) := by decide +kernel
theorem dX11_crow_75 : decode cX11_crow 75 = .ok (.iaload, 1) := by decide +kernel
theorem dX11_crow_76 : decode cX11_crow 76 = .ok (.ireturn, 1) := by decide +kernel
theorem dX11_crow_77 : decode cX11_crow 77 = .ok (.ldc 105, 2) := by decide +kernel
theorem dX11_crow_79 : decode cX11_crow 79 = .ok (.ireturn, 1) := by decide +kernel
set_option maxRecDepth 20000 in
theorem ggX11_hasFence_X11_has : GoodIn wsX11_hasFence wsX11_has := goodIn_r _ [6] (by decide +kernel) (by decide +kernel)
set_option maxRecDepth 20000 in
theorem gX11_hasFence_X11_has : GoodIn wsX11_hasFence (va_wsS RX11 141 yX11_has wsX11_has) := goodIn_app (goodIn_of _ (by decide +kernel)) ggX11_hasFence_X11_has
theorem dX11_hasFence_0 : decode cX11_hasFence 0 = .ok (.iconst 0, 1) := by decide +kernel
theorem dX11_hasFence_1 : decode cX11_hasFence 1 = .ok (.istore_n 2, 1) := by decide +kernel
theorem dX11_hasFence_2 : decode cX11_hasFence 2 = .ok (.iconst 0, 1) := by decide +kernel
theorem dX11_hasFence_3 : decode cX11_hasFence 3 = .ok (.istore_n 3, 1) := by decide +kernel
theorem dX11_hasFence_4 : decode cX11_hasFence 4 = .ok (.iload_n 3, 1) := by decide +kernel
theorem dX11_hasFence_5 : decode cX11_hasFence 5 = .ok (.aload_n 0, 1) := by decide +kernel
theorem dX11_hasFence_6 : decode cX11_hasFence 6 = .ok (.getfield 97, 3) := by decide +kernel
theorem dX11_hasFence_9 : decode cX11_hasFence 9 = .ok (.if_icmp .ge 46, 3) := by decide +kernel
theorem dX11_hasFence_12 : decode cX11_hasFence 12 = .ok (.iload_n 2, 1) := by decide +kernel
theorem dX11_hasFence_13 : decode cX11_hasFence 13 = .ok (.ifCond .ne 30, 3) := by decide +kernel
theorem dX11_hasFence_16 : decode cX11_hasFence 16 = .ok (.aload_n 0, 1) := by decide +kernel
theorem dX11_hasFence_17 : decode cX11_hasFence 17 = .ok (.getfield 22, 3) := by decide +kernel
theorem dX11_hasFence_20 : decode cX11_hasFence 20 = .ok (.bipush 12, 2) := by decide +kernel
theorem dX11_hasFence_22 : decode cX11_hasFence 22 = .ok (.iload_n 3, 1) := by decide +kernel
theorem dX11_hasFence_23 : decode cX11_hasFence 23 = .ok (.iadd, 1) := by decide +kernel
theorem dX11_hasFence_24 : decode cX11_hasFence 24 = .ok (.iaload, 1) := by decide +kernel
theorem dX11_hasFence_25 : decode cX11_hasFence 25 = .ok (.iload_n 1, 1) := by decide +kernel
theorem dX11_hasFence_26 : decode cX11_hasFence 26 = .ok (.if_icmp .ne 21, 3) := by decide +kernel
theorem dX11_hasFence_29 : decode cX11_hasFence 29 = .ok (.aload_n 0, 1) := by decide +kernel
theorem dX11_hasFence_30 : decode cX11_hasFence 30 = .ok (.getfield 22, 3) := by decide +kernel
theorem dX11_hasFence_33 : decode cX11_hasFence 33 = .ok (.bipush 24, 2) := by decide +kernel
theorem dX11_hasFence_35 : decode cX11_hasFence 35 = .ok (.iaload, 1) := by decide +kernel
theorem dX11_hasFence_36 : decode cX11_hasFence 36 = .ok (.iload_n 3, 1) := by decide +kernel
theorem dX11_hasFence_37 : decode cX11_hasFence 37 = .ok (.invokestatic 141, 3) := by decide +kernel
theorem dX11_hasFence_40 : decode cX11_hasFence 40 = .ok (.ifCond .eq 7, 3) := by decide +kernel
theorem dX11_hasFence_43 : decode cX11_hasFence 43 = .ok (.iconst 1, 1) := by decide +kernel
theorem dX11_hasFence_44 : decode cX11_hasFence 44 = .ok (.goto 4, 3) := by decide +kernel
theorem dX11_hasFence_47 : decode cX11_hasFence 47 = .ok (.iconst 0, 1) := by decide +kernel
theorem dX11_hasFence_48 : decode cX11_hasFence 48 = .ok (.istore_n 2, 1) := by decide +kernel
theorem dX11_hasFence_49 : decode cX11_hasFence 49 = .ok (.iinc 3 1, 3) := by decide +kernel
theorem dX11_hasFence_52 : decode cX11_hasFence 52 = .ok (.goto (-48), 3) := by decide +kernel
theorem dX11_hasFence_55 : decode cX11_hasFence 55 = .ok (.iload_n 2, 1) := by decide +kernel
theorem dX11_hasFence_56 : decode cX11_hasFence 56 = .ok (.ireturn, 1) := by decide +kernel
set_option maxRecDepth 20000 in
theorem ggX11_lay_X11_atMost : GoodIn wsX11_lay wsX11_atMost := goodIn_r _ [5] (by decide +kernel) (by decide +kernel)
set_option maxRecDepth 20000 in
theorem gX11_lay_X11_atMost : GoodIn wsX11_lay (va_wsS RX11 229 yX11_atMost wsX11_atMost) := goodIn_app (goodIn_of _ (by decide +kernel)) ggX11_lay_X11_atMost
theorem dX11_lay_0 : decode cX11_lay 0 = .ok (.aload_n 0, 1) := by decide +kernel
theorem dX11_lay_1 : decode cX11_lay 1 = .ok (.getfield 22, 3) := by decide +kernel
theorem dX11_lay_4 : decode cX11_lay 4 = .ok (.iload_n 1, 1) := by decide +kernel
theorem dX11_lay_5 : decode cX11_lay 5 = .ok (.aload_n 0, 1) := by decide +kernel
theorem dX11_lay_6 : decode cX11_lay 6 = .ok (.getfield 22, 3) := by decide +kernel
theorem dX11_lay_9 : decode cX11_lay 9 = .ok (.iload_n 1, 1) := by decide +kernel
theorem dX11_lay_10 : decode cX11_lay 10 = .ok (.iaload, 1) := by decide +kernel
theorem dX11_lay_11 : decode cX11_lay 11 = .ok (.iload_n 2, 1) := by decide +kernel
theorem dX11_lay_12 : decode cX11_lay 12 = .ok (.iadd, 1) := by decide +kernel
theorem dX11_lay_13 : decode cX11_lay 13 = .ok (.sipush 9999, 3) := by decide +kernel
theorem dX11_lay_16 : decode cX11_lay 16 = .ok (.invokestatic 229, 3) := by decide +kernel
theorem dX11_lay_19 : decode cX11_lay 19 = .ok (.iastore, 1) := by decide +kernel
theorem dX11_lay_20 : decode cX11_lay 20 = .ok (.return_, 1) := by decide +kernel
set_option maxRecDepth 20000 in
theorem ggX11_blow_X11_hasFence : GoodIn wsX11_blow wsX11_hasFence := goodIn_r _ [6, 7, 8, 9, 10, 5, 11, 19, 20, 21, 22, 23, 24, 25, 26, 27, 28, 29, 30, 31, 32, 33, 34, 35, 36, 37, 38, 39, 40, 41, 42, 43, 44, 45, 46, 47, 48, 49, 50, 51, 52, 53, 54, 55, 56, 57, 58, 59, 60, 61, 62, 63] (by decide +kernel) (by decide +kernel)
set_option maxRecDepth 20000 in
theorem gX11_blow_X11_hasFence : GoodIn wsX11_blow (wsV RX11 232 RX11 yX11_hasFence wsX11_hasFence) := goodIn_app (goodIn_of _ (by decide +kernel)) ggX11_blow_X11_hasFence
set_option maxRecDepth 20000 in
theorem ggX11_blow_X11_lay : GoodIn wsX11_blow wsX11_lay := goodIn_r _ [15, 8, 16, 17, 5, 18, 19, 20, 21, 22, 23, 24, 25, 26, 27, 28, 29, 30, 31, 32, 33, 34, 35, 36, 37, 38, 39, 40, 41, 42, 43, 44, 45, 46, 47, 48, 49, 50, 51, 52, 53, 54, 55, 56, 57, 58, 59, 60, 61, 62, 63] (by decide +kernel) (by decide +kernel)
set_option maxRecDepth 20000 in
theorem gX11_blow_X11_lay : GoodIn wsX11_blow (wsV RX11 235 RX11 yX11_lay wsX11_lay) := goodIn_app (goodIn_of _ (by decide +kernel)) ggX11_blow_X11_lay
theorem dX11_blow_0 : decode cX11_blow 0 = .ok (.iconst 0, 1) := by decide +kernel
theorem dX11_blow_1 : decode cX11_blow 1 = .ok (.istore_n 3, 1) := by decide +kernel
theorem dX11_blow_2 : decode cX11_blow 2 = .ok (.iconst 0, 1) := by decide +kernel
theorem dX11_blow_3 : decode cX11_blow 3 = .ok (.istore 4, 2) := by decide +kernel
theorem dX11_blow_5 : decode cX11_blow 5 = .ok (.iload 4, 2) := by decide +kernel
theorem dX11_blow_7 : decode cX11_blow 7 = .ok (.aload_n 0, 1) := by decide +kernel
theorem dX11_blow_8 : decode cX11_blow 8 = .ok (.getfield 90, 3) := by decide +kernel
theorem dX11_blow_11 : decode cX11_blow 11 = .ok (.if_icmp .ge 64, 3) := by decide +kernel
theorem dX11_blow_14 : decode cX11_blow 14 = .ok (.iload_n 1, 1) := by decide +kernel
theorem dX11_blow_15 : decode cX11_blow 15 = .ok (.ifCond .le 8, 3) := by decide +kernel
theorem dX11_blow_18 : decode cX11_blow 18 = .ok (.iload 4, 2) := by decide +kernel
theorem dX11_blow_20 : decode cX11_blow 20 = .ok (.goto 12, 3) := by decide +kernel
theorem dX11_blow_23 : decode cX11_blow 23 = .ok (.aload_n 0, 1) := by decide +kernel
theorem dX11_blow_24 : decode cX11_blow 24 = .ok (.getfield 90, 3) := by decide +kernel
theorem dX11_blow_27 : decode cX11_blow 27 = .ok (.iconst 1, 1) := by decide +kernel
theorem dX11_blow_28 : decode cX11_blow 28 = .ok (.isub, 1) := by decide +kernel
theorem dX11_blow_29 : decode cX11_blow 29 = .ok (.iload 4, 2) := by decide +kernel
theorem dX11_blow_31 : decode cX11_blow 31 = .ok (.isub, 1) := by decide +kernel
theorem dX11_blow_32 : decode cX11_blow 32 = .ok (.istore 5, 2) := by decide +kernel
theorem dX11_blow_34 : decode cX11_blow 34 = .ok (.iload_n 3, 1) := by decide +kernel
theorem dX11_blow_35 : decode cX11_blow 35 = .ok (.iload_n 2, 1) := by decide +kernel
theorem dX11_blow_36 : decode cX11_blow 36 = .ok (.iadd, 1) := by decide +kernel
theorem dX11_blow_37 : decode cX11_blow 37 = .ok (.istore_n 3, 1) := by decide +kernel
theorem dX11_blow_38 : decode cX11_blow 38 = .ok (.aload_n 0, 1) := by decide +kernel
theorem dX11_blow_39 : decode cX11_blow 39 = .ok (.iload 5, 2) := by decide +kernel
theorem dX11_blow_41 : decode cX11_blow 41 = .ok (.invokevirtual 232, 3) := by decide +kernel
theorem dX11_blow_44 : decode cX11_blow 44 = .ok (.ifCond .eq 7, 3) := by decide +kernel
theorem dX11_blow_47 : decode cX11_blow 47 = .ok (.iload_n 3, 1) := by decide +kernel
theorem dX11_blow_48 : decode cX11_blow 48 = .ok (.goto 6, 3) := by decide +kernel
theorem dX11_blow_51 : decode cX11_blow 51 = .ok (.iload_n 3, 1) := by decide +kernel
theorem dX11_blow_52 : decode cX11_blow 52 = .ok (.iconst 2, 1) := by decide +kernel
theorem dX11_blow_53 : decode cX11_blow 53 = .ok (.idiv, 1) := by decide +kernel
theorem dX11_blow_54 : decode cX11_blow 54 = .ok (.istore 6, 2) := by decide +kernel
theorem dX11_blow_56 : decode cX11_blow 56 = .ok (.aload_n 0, 1) := by decide +kernel
theorem dX11_blow_57 : decode cX11_blow 57 = .ok (.iload 5, 2) := by decide +kernel
theorem dX11_blow_59 : decode cX11_blow 59 = .ok (.iload 6, 2) := by decide +kernel
theorem dX11_blow_61 : decode cX11_blow 61 = .ok (.invokevirtual 235, 3) := by decide +kernel
theorem dX11_blow_64 : decode cX11_blow 64 = .ok (.iload_n 3, 1) := by decide +kernel
theorem dX11_blow_65 : decode cX11_blow 65 = .ok (.iload 6, 2) := by decide +kernel
theorem dX11_blow_67 : decode cX11_blow 67 = .ok (.isub, 1) := by decide +kernel
theorem dX11_blow_68 : decode cX11_blow 68 = .ok (.istore_n 3, 1) := by decide +kernel
theorem dX11_blow_69 : decode cX11_blow 69 = .ok (.iinc 4 1, 3) := by decide +kernel
theorem dX11_blow_72 : decode cX11_blow 72 = .ok (.goto (-67), 3) := by decide +kernel
theorem dX11_blow_75 : decode cX11_blow 75 = .ok (.return_, 1) := by decide +kernel
set_option maxRecDepth 20000 in
theorem ggX11_hourBy_X11_blow : GoodIn wsX11_hourBy wsX11_blow := goodIn_r _ [9, 4, 10, 11, 12, 8, 13, 1, 3, 14, 15, 16, 17, 18, 19, 20, 21, 22, 23, 24, 25, 26, 27, 28, 29, 30, 31, 32, 33, 34, 35, 36, 37, 38, 39, 40, 41, 42, 43, 44, 45, 46, 47, 48, 49, 50, 51, 52, 53, 54, 55, 56, 57, 58, 59, 60, 61, 62, 63, 64, 65, 66, 67, 68] (by decide +kernel) (by decide +kernel)
set_option maxRecDepth 20000 in
theorem gX11_hourBy_X11_blow : GoodIn wsX11_hourBy (wsV RX11 239 RX11 yX11_blow wsX11_blow) := goodIn_app (goodIn_of _ (by decide +kernel)) ggX11_hourBy_X11_blow
set_option maxRecDepth 20000 in
theorem ggX11_hourBy_X11_lay : GoodIn wsX11_hourBy wsX11_lay := goodIn_r _ [20, 3, 21, 22, 8, 23, 24, 25, 26, 27, 28, 29, 30, 31, 32, 33, 34, 35, 36, 37, 38, 39, 40, 41, 42, 43, 44, 45, 46, 47, 48, 49, 50, 51, 52, 53, 54, 55, 56, 57, 58, 59, 60, 61, 62, 63, 64, 65, 66, 67, 68] (by decide +kernel) (by decide +kernel)
set_option maxRecDepth 20000 in
theorem gX11_hourBy_X11_lay : GoodIn wsX11_hourBy (wsV RX11 235 RX11 yX11_lay wsX11_lay) := goodIn_app (goodIn_of _ (by decide +kernel)) ggX11_hourBy_X11_lay
theorem dX11_hourBy_0 : decode cX11_hourBy 0 = .ok (.iload_n 1, 1) := by decide +kernel
theorem dX11_hourBy_1 : decode cX11_hourBy 1 = .ok (.bipush 9, 2) := by decide +kernel
theorem dX11_hourBy_3 : decode cX11_hourBy 3 = .ok (.isub, 1) := by decide +kernel
theorem dX11_hourBy_4 : decode cX11_hourBy 4 = .ok (.istore_n 3, 1) := by decide +kernel
theorem dX11_hourBy_5 : decode cX11_hourBy 5 = .ok (.iload_n 3, 1) := by decide +kernel
theorem dX11_hourBy_6 : decode cX11_hourBy 6 = .ok (.ifCond .ge 8, 3) := by decide +kernel
theorem dX11_hourBy_9 : decode cX11_hourBy 9 = .ok (.iload_n 3, 1) := by decide +kernel
theorem dX11_hourBy_10 : decode cX11_hourBy 10 = .ok (.ineg, 1) := by decide +kernel
theorem dX11_hourBy_11 : decode cX11_hourBy 11 = .ok (.goto 4, 3) := by decide +kernel
theorem dX11_hourBy_14 : decode cX11_hourBy 14 = .ok (.iload_n 3, 1) := by decide +kernel
theorem dX11_hourBy_15 : decode cX11_hourBy 15 = .ok (.istore 4, 2) := by decide +kernel
theorem dX11_hourBy_17 : decode cX11_hourBy 17 = .ok (.iconst 0, 1) := by decide +kernel
theorem dX11_hourBy_18 : decode cX11_hourBy 18 = .ok (.istore 5, 2) := by decide +kernel
theorem dX11_hourBy_20 : decode cX11_hourBy 20 = .ok (.iload 5, 2) := by decide +kernel
theorem dX11_hourBy_22 : decode cX11_hourBy 22 = .ok (.aload_n 0, 1) := by decide +kernel
theorem dX11_hourBy_23 : decode cX11_hourBy 23 = .ok (.getfield 97, 3) := by decide +kernel
theorem dX11_hourBy_26 : decode cX11_hourBy 26 = .ok (.if_icmp .ge 51, 3) := by decide +kernel
theorem dX11_hourBy_29 : decode cX11_hourBy 29 = .ok (.iload 4, 2) := by decide +kernel
theorem dX11_hourBy_31 : decode cX11_hourBy 31 = .ok (.aload_n 0, 1) := by decide +kernel
theorem dX11_hourBy_32 : decode cX11_hourBy 32 = .ok (.getfield 180, 3) := by decide +kernel
theorem dX11_hourBy_35 : decode cX11_hourBy 35 = .ok (.if_icmp .le 42, 3) := by decide +kernel
theorem dX11_hourBy_38 : decode cX11_hourBy 38 = .ok (.aload_n 0, 1) := by decide +kernel
theorem dX11_hourBy_39 : decode cX11_hourBy 39 = .ok (.getfield 22, 3) := by decide +kernel
theorem dX11_hourBy_42 : decode cX11_hourBy 42 = .ok (.bipush 24, 2) := by decide +kernel
theorem dX11_hourBy_44 : decode cX11_hourBy 44 = .ok (.dup2, 1) := by decide +kernel
theorem dX11_hourBy_45 : decode cX11_hourBy 45 = .ok (.iaload, 1) := by decide +kernel
theorem dX11_hourBy_46 : decode cX11_hourBy 46 = .ok (.aload_n 0, 1) := by decide +kernel
theorem dX11_hourBy_47 : decode cX11_hourBy 47 = .ok (.getfield 22, 3) := by decide +kernel
theorem dX11_hourBy_50 : decode cX11_hourBy 50 = .ok (.bipush 18, 2) := by decide +kernel
theorem dX11_hourBy_52 : decode cX11_hourBy 52 = .ok (.iload 5, 2) := by decide +kernel
theorem dX11_hourBy_54 : decode cX11_hourBy 54 = .ok (.iadd, 1) := by decide +kernel
theorem dX11_hourBy_55 : decode cX11_hourBy 55 = .ok (.iaload, 1) := by decide +kernel
theorem dX11_hourBy_56 : decode cX11_hourBy 56 = .ok (.ifCond .ge 12, 3) := by decide +kernel
theorem dX11_hourBy_59 : decode cX11_hourBy 59 = .ok (.iconst 1, 1) := by decide +kernel
theorem dX11_hourBy_60 : decode cX11_hourBy 60 = .ok (.iload 5, 2) := by decide +kernel
theorem dX11_hourBy_62 : decode cX11_hourBy 62 = .ok (.ishl, 1) := by decide +kernel
theorem dX11_hourBy_63 : decode cX11_hourBy 63 = .ok (.iconst (-1), 1) := by decide +kernel
theorem dX11_hourBy_64 : decode cX11_hourBy 64 = .ok (.ixor, 1) := by decide +kernel
theorem dX11_hourBy_65 : decode cX11_hourBy 65 = .ok (.goto 4, 3) := by decide +kernel
theorem dX11_hourBy_68 : decode cX11_hourBy 68 = .ok (.iconst (-1), 1) := by decide +kernel
theorem dX11_hourBy_69 : decode cX11_hourBy 69 = .ok (.iand, 1) := by decide +kernel
theorem dX11_hourBy_70 : decode cX11_hourBy 70 = .ok (.iastore, 1) := by decide +kernel
theorem dX11_hourBy_71 : decode cX11_hourBy 71 = .ok (.iinc 5 1, 3) := by decide +kernel
theorem dX11_hourBy_74 : decode cX11_hourBy 74 = .ok (.goto (-54), 3) := by decide +kernel
theorem dX11_hourBy_77 : decode cX11_hourBy 77 = .ok (.iload_n 3, 1) := by decide +kernel
theorem dX11_hourBy_78 : decode cX11_hourBy 78 = .ok (.ifCond .eq 12, 3) := by decide +kernel
theorem dX11_hourBy_81 : decode cX11_hourBy 81 = .ok (.aload_n 0, 1) := by decide +kernel
theorem dX11_hourBy_82 : decode cX11_hourBy 82 = .ok (.iload_n 3, 1) := by decide +kernel
theorem dX11_hourBy_83 : decode cX11_hourBy 83 = .ok (.iload_n 2, 1) := by decide +kernel
theorem dX11_hourBy_84 : decode cX11_hourBy 84 = .ok (.invokevirtual 239, 3) := by decide +kernel
theorem dX11_hourBy_87 : decode cX11_hourBy 87 = .ok (.goto 28, 3) := by decide +kernel
theorem dX11_hourBy_90 : decode cX11_hourBy 90 = .ok (.iconst 0, 1) := by decide +kernel
theorem dX11_hourBy_91 : decode cX11_hourBy 91 = .ok (.istore 5, 2) := by decide +kernel
theorem dX11_hourBy_93 : decode cX11_hourBy 93 = .ok (.iload 5, 2) := by decide +kernel
theorem dX11_hourBy_95 : decode cX11_hourBy 95 = .ok (.aload_n 0, 1) := by decide +kernel
theorem dX11_hourBy_96 : decode cX11_hourBy 96 = .ok (.getfield 90, 3) := by decide +kernel
theorem dX11_hourBy_99 : decode cX11_hourBy 99 = .ok (.if_icmp .ge 16, 3) := by decide +kernel
theorem dX11_hourBy_102 : decode cX11_hourBy 102 = .ok (.aload_n 0, 1) := by decide +kernel
theorem dX11_hourBy_103 : decode cX11_hourBy 103 = .ok (.iload 5, 2) := by decide +kernel
theorem dX11_hourBy_105 : decode cX11_hourBy 105 = .ok (.iload_n 2, 1) := by decide +kernel
theorem dX11_hourBy_106 : decode cX11_hourBy 106 = .ok (.invokevirtual 235, 3) := by decide +kernel
theorem dX11_hourBy_109 : decode cX11_hourBy 109 = .ok (.iinc 5 1, 3) := by decide +kernel
theorem dX11_hourBy_112 : decode cX11_hourBy 112 = .ok (.goto (-19), 3) := by decide +kernel
theorem dX11_hourBy_115 : decode cX11_hourBy 115 = .ok (.aload_n 0, 1) := by decide +kernel
theorem dX11_hourBy_116 : decode cX11_hourBy 116 = .ok (.getfield 22, 3) := by decide +kernel
theorem dX11_hourBy_119 : decode cX11_hourBy 119 = .ok (.bipush 35, 2) := by decide +kernel
theorem dX11_hourBy_121 : decode cX11_hourBy 121 = .ok (.dup2, 1) := by decide +kernel
theorem dX11_hourBy_122 : decode cX11_hourBy 122 = .ok (.iaload, 1) := by decide +kernel
theorem dX11_hourBy_123 : decode cX11_hourBy 123 = .ok (.iconst 1, 1) := by decide +kernel
theorem dX11_hourBy_124 : decode cX11_hourBy 124 = .ok (.iadd, 1) := by decide +kernel
theorem dX11_hourBy_125 : decode cX11_hourBy 125 = .ok (.iastore, 1) := by decide +kernel
theorem dX11_hourBy_126 : decode cX11_hourBy 126 = .ok (.return_, 1) := by decide +kernel
set_option maxRecDepth 20000 in
theorem ggX11_pass_X11_hourBy : GoodIn wsX11_pass wsX11_hourBy := goodIn_r _ [9, 10, 11, 2, 12, 13, 14, 15, 8, 16, 17, 18, 19, 20, 21, 22, 23, 24, 25, 26, 27, 28, 29, 30, 31, 32, 33, 34, 35, 36, 37, 38, 39, 40, 41, 42, 43, 44, 45, 46, 47, 48, 49, 50, 51, 52, 53, 54, 55, 56, 57, 58, 59, 60, 61, 62, 63, 64, 65, 66, 67, 68, 69, 70, 71, 72, 73, 74, 75] (by decide +kernel) (by decide +kernel)
set_option maxRecDepth 20000 in
theorem gX11_pass_X11_hourBy : GoodIn wsX11_pass (wsV RX11 242 RX11 yX11_hourBy wsX11_hourBy) := goodIn_app (goodIn_of _ (by decide +kernel)) ggX11_pass_X11_hourBy
theorem dX11_pass_0 : decode cX11_pass 0 = .ok (.aload_n 0, 1) := by decide +kernel
theorem dX11_pass_1 : decode cX11_pass 1 = .ok (.getfield 189, 3) := by decide +kernel
theorem dX11_pass_4 : decode cX11_pass 4 = .ok (.ifCond .ne 7, 3) := by decide +kernel
theorem dX11_pass_7 : decode cX11_pass 7 = .ok (.iconst 0, 1) := by decide +kernel
theorem dX11_pass_8 : decode cX11_pass 8 = .ok (.goto 15, 3) := by decide +kernel
theorem dX11_pass_11 : decode cX11_pass 11 = .ok (.aload_n 0, 1) := by decide +kernel
theorem dX11_pass_12 : decode cX11_pass 12 = .ok (.getfield 22, 3) := by decide +kernel
theorem dX11_pass_15 : decode cX11_pass 15 = .ok (.bipush 35, 2) := by decide +kernel
theorem dX11_pass_17 : decode cX11_pass 17 = .ok (.iaload, 1) := by decide +kernel
theorem dX11_pass_18 : decode cX11_pass 18 = .ok (.aload_n 0, 1) := by decide +kernel
theorem dX11_pass_19 : decode cX11_pass 19 = .ok (.getfield 189, 3) := by decide +kernel
theorem dX11_pass_22 : decode cX11_pass 22 = .ok (.irem, 1) := by decide +kernel
theorem dX11_pass_23 : decode cX11_pass 23 = .ok (.istore_n 1, 1) := by decide +kernel
theorem dX11_pass_24 : decode cX11_pass 24 = .ok (.aload_n 0, 1) := by decide +kernel
theorem dX11_pass_25 : decode cX11_pass 25 = .ok (.aload_n 0, 1) := by decide +kernel
theorem dX11_pass_26 : decode cX11_pass 26 = .ok (.getfield 189, 3) := by decide +kernel
theorem dX11_pass_29 : decode cX11_pass 29 = .ok (.ifCond .ne 8, 3) := by decide +kernel
theorem dX11_pass_32 : decode cX11_pass 32 = .ok (.bipush 9, 2) := by decide +kernel
theorem dX11_pass_34 : decode cX11_pass 34 = .ok (.goto 9, 3) := by decide +kernel
theorem dX11_pass_37 : decode cX11_pass 37 = .ok (.aload_n 0, 1) := by decide +kernel
theorem dX11_pass_38 : decode cX11_pass 38 = .ok (.getfield 16, 3) := by decide +kernel
theorem dX11_pass_41 : decode cX11_pass 41 = .ok (.iload_n 1, 1) := by decide +kernel
theorem dX11_pass_42 : decode cX11_pass 42 = .ok (.iaload, 1) := by decide +kernel
theorem dX11_pass_43 : decode cX11_pass 43 = .ok (.aload_n 0, 1) := by decide +kernel
theorem dX11_pass_44 : decode cX11_pass 44 = .ok (.getfield 189, 3) := by decide +kernel
theorem dX11_pass_47 : decode cX11_pass 47 = .ok (.ifCond .ne 7, 3) := by decide +kernel
theorem dX11_pass_50 : decode cX11_pass 50 = .ok (.iconst 0, 1) := by decide +kernel
theorem dX11_pass_51 : decode cX11_pass 51 = .ok (.goto 9, 3) := by decide +kernel
theorem dX11_pass_54 : decode cX11_pass 54 = .ok (.aload_n 0, 1) := by decide +kernel
theorem dX11_pass_55 : decode cX11_pass 55 = .ok (.getfield 19, 3) := by decide +kernel
theorem dX11_pass_58 : decode cX11_pass 58 = .ok (.iload_n 1, 1) := by decide +kernel
theorem dX11_pass_59 : decode cX11_pass 59 = .ok (.iaload, 1) := by decide +kernel
theorem dX11_pass_60 : decode cX11_pass 60 = .ok (.invokevirtual 242, 3) := by decide +kernel
theorem dX11_pass_63 : decode cX11_pass 63 = .ok (.return_, 1) := by decide +kernel
theorem dX11_remember_0 : decode cX11_remember 0 = .ok (.aload_n 0, 1) := by decide +kernel
theorem dX11_remember_1 : decode cX11_remember 1 = .ok (.getfield 204, 3) := by decide +kernel
theorem dX11_remember_4 : decode cX11_remember 4 = .ok (.bipush 20, 2) := by decide +kernel
theorem dX11_remember_6 : decode cX11_remember 6 = .ok (.if_icmp .ne 44, 3) := by decide +kernel
theorem dX11_remember_9 : decode cX11_remember 9 = .ok (.bipush 37, 2) := by decide +kernel
theorem dX11_remember_11 : decode cX11_remember 11 = .ok (.istore_n 1, 1) := by decide +kernel
theorem dX11_remember_12 : decode cX11_remember 12 = .ok (.iload_n 1, 1) := by decide +kernel
theorem dX11_remember_13 : decode cX11_remember 13 = .ok (.sipush 740, 3) := by decide +kernel
theorem dX11_remember_16 : decode cX11_remember 16 = .ok (.if_icmp .ge 24, 3) := by decide +kernel
theorem dX11_remember_19 : decode cX11_remember 19 = .ok (.aload_n 0, 1) := by decide +kernel
theorem dX11_remember_20 : decode cX11_remember 20 = .ok (.getfield 53, 3) := by decide +kernel
theorem dX11_remember_23 : decode cX11_remember 23 = .ok (.iload_n 1, 1) := by decide +kernel
theorem dX11_remember_24 : decode cX11_remember 24 = .ok (.bipush 37, 2) := by decide +kernel
theorem dX11_remember_26 : decode cX11_remember 26 = .ok (.isub, 1) := by decide +kernel
theorem dX11_remember_27 : decode cX11_remember 27 = .ok (.aload_n 0, 1) := by decide +kernel
theorem dX11_remember_28 : decode cX11_remember 28 = .ok (.getfield 53, 3) := by decide +kernel
theorem dX11_remember_31 : decode cX11_remember 31 = .ok (.iload_n 1, 1) := by decide +kernel
theorem dX11_remember_32 : decode cX11_remember 32 = .ok (.iaload, 1) := by decide +kernel
theorem dX11_remember_33 : decode cX11_remember 33 = .ok (.iastore, 1) := by decide +kernel
theorem dX11_remember_34 : decode cX11_remember 34 = .ok (.iinc 1 1, 3) := by decide +kernel
theorem dX11_remember_37 : decode cX11_remember 37 = .ok (.goto (-25), 3) := by decide +kernel
theorem dX11_remember_40 : decode cX11_remember 40 = .ok (.aload_n 0, 1) := by decide +kernel
theorem dX11_remember_41 : decode cX11_remember 41 = .ok (.dup, 1) := by decide +kernel
theorem dX11_remember_42 : decode cX11_remember 42 = .ok (.getfield 204, 3) := by decide +kernel
theorem dX11_remember_45 : decode cX11_remember 45 = .ok (.iconst 1, 1) := by decide +kernel
theorem dX11_remember_46 : decode cX11_remember 46 = .ok (.isub, 1) := by decide +kernel
theorem dX11_remember_47 : decode cX11_remember 47 = .ok (.putfield 204, 3) := by decide +kernel
theorem dX11_remember_50 : decode cX11_remember 50 = .ok (.iconst 0, 1) := by decide +kernel
theorem dX11_remember_51 : decode cX11_remember 51 = .ok (.istore_n 1, 1) := by decide +kernel
theorem dX11_remember_52 : decode cX11_remember 52 = .ok (.iload_n 1, 1) := by decide +kernel
theorem dX11_remember_53 : decode cX11_remember 53 = .ok (.bipush 37, 2) := by decide +kernel
theorem dX11_remember_55 : decode cX11_remember 55 = .ok (.if_icmp .ge 29, 3) := by decide +kernel
theorem dX11_remember_58 : decode cX11_remember 58 = .ok (.aload_n 0, 1) := by decide +kernel
theorem dX11_remember_59 : decode cX11_remember 59 = .ok (.getfield 53, 3) := by decide +kernel
theorem dX11_remember_62 : decode cX11_remember 62 = .ok (.bipush 37, 2) := by decide +kernel
theorem dX11_remember_64 : decode cX11_remember 64 = .ok (.aload_n 0, 1) := by decide +kernel
theorem dX11_remember_65 : decode cX11_remember 65 = .ok (.getfield 204, 3) := by decide +kernel
theorem dX11_remember_68 : decode cX11_remember 68 = .ok (.imul, 1) := by decide +kernel
theorem dX11_remember_69 : decode cX11_remember 69 = .ok (.iload_n 1, 1) := by decide +kernel
theorem dX11_remember_70 : decode cX11_remember 70 = .ok (.iadd, 1) := by decide +kernel
theorem dX11_remember_71 : decode cX11_remember 71 = .ok (.aload_n 0, 1) := by decide +kernel
theorem dX11_remember_72 : decode cX11_remember 72 = .ok (.getfield 22, 3) := by decide +kernel
theorem dX11_remember_75 : decode cX11_remember 75 = .ok (.iload_n 1, 1) := by decide +kernel
theorem dX11_remember_76 : decode cX11_remember 76 = .ok (.iaload, 1) := by decide +kernel
theorem dX11_remember_77 : decode cX11_remember 77 = .ok (.iastore, 1) := by decide +kernel
theorem dX11_remember_78 : decode cX11_remember 78 = .ok (.iinc 1 1, 3) := by decide +kernel
theorem dX11_remember_81 : decode cX11_remember 81 = .ok (.goto (-29), 3) := by decide +kernel
theorem dX11_remember_84 : decode cX11_remember 84 = .ok (.aload_n 0, 1) := by decide +kernel
theorem dX11_remember_85 : decode cX11_remember 85 = .ok (.dup, 1) := by decide +kernel
theorem dX11_remember_86 : decode cX11_remember 86 = .ok (.getfield 204, 3) := by decide +kernel
theorem dX11_remember_89 : decode cX11_remember 89 = .ok (.iconst 1, 1) := by decide +kernel
theorem dX11_remember_90 : decode cX11_remember 90 = .ok (.iadd, 1) := by decide +kernel
theorem dX11_remember_91 : decode cX11_remember 91 = .ok (.putfield 204, 3) := by decide +kernel
theorem dX11_remember_94 : decode cX11_remember 94 = .ok (.return_, 1) := by decide +kernel
set_option maxRecDepth 20000 in
theorem ggX11_hoursRefused_X11_in : GoodIn wsX11_hoursRefused wsX11_in := goodIn_r _ [10] (by decide +kernel) (by decide +kernel)
set_option maxRecDepth 20000 in
theorem gX11_hoursRefused_X11_in : GoodIn wsX11_hoursRefused (va_wsS RX11 93 yX11_in wsX11_in) := goodIn_app (goodIn_of _ (by decide +kernel)) ggX11_hoursRefused_X11_in
theorem dX11_hoursRefused_0 : decode cX11_hoursRefused 0 = .ok (.iload_n 1, 1) := by decide +kernel
theorem dX11_hoursRefused_1 : decode cX11_hoursRefused 1 = .ok (.i2l, 1) := by decide +kernel
theorem dX11_hoursRefused_2 : decode cX11_hoursRefused 2 = .ok (.lconst 1, 1) := by decide +kernel
theorem dX11_hoursRefused_3 : decode cX11_hoursRefused 3 = .ok (.ldc2_w 245, 3) := by decide +kernel
theorem dX11_hoursRefused_6 : decode cX11_hoursRefused 6 = .ok (.invokestatic 93, 3) := by decide +kernel
theorem dX11_hoursRefused_9 : decode cX11_hoursRefused 9 = .ok (.ifCond .ne 6, 3) := by decide +kernel
theorem dX11_hoursRefused_12 : decode cX11_hoursRefused 12 = .ok (.ldc 105, 2) := by decide +kernel
theorem dX11_hoursRefused_14 : decode cX11_hoursRefused 14 = .ok (.ireturn, 1) := by decide +kernel
theorem dX11_hoursRefused_15 : decode cX11_hoursRefused 15 = .ok (.aload_n 0, 1) := by decide +kernel
theorem dX11_hoursRefused_16 : decode cX11_hoursRefused 16 = .ok (.getfield 90, 3) := by decide +kernel
theorem dX11_hoursRefused_19 : decode cX11_hoursRefused 19 = .ok (.ifCond .ne 8, 3) := by decide +kernel
theorem dX11_hoursRefused_22 : decode cX11_hoursRefused 22 = .ok (.ldc 247, 2) := by decide +kernel
theorem dX11_hoursRefused_24 : decode cX11_hoursRefused 24 = .ok (.goto 22, 3) := by decide +kernel
theorem dX11_hoursRefused_27 : decode cX11_hoursRefused 27 = .ok (.aload_n 0, 1) := by decide +kernel
theorem dX11_hoursRefused_28 : decode cX11_hoursRefused 28 = .ok (.getfield 22, 3) := by decide +kernel
theorem dX11_hoursRefused_31 : decode cX11_hoursRefused 31 = .ok (.bipush 35, 2) := by decide +kernel
theorem dX11_hoursRefused_33 : decode cX11_hoursRefused 33 = .ok (.iaload, 1) := by decide +kernel
theorem dX11_hoursRefused_34 : decode cX11_hoursRefused 34 = .ok (.sipush 9000, 3) := by decide +kernel
theorem dX11_hoursRefused_37 : decode cX11_hoursRefused 37 = .ok (.if_icmp .le 8, 3) := by decide +kernel
theorem dX11_hoursRefused_40 : decode cX11_hoursRefused 40 = .ok (.ldc 109, 2) := by decide +kernel
theorem dX11_hoursRefused_42 : decode cX11_hoursRefused 42 = .ok (.goto 4, 3) := by decide +kernel
theorem dX11_hoursRefused_45 : decode cX11_hoursRefused 45 = .ok (.iconst 0, 1) := by decide +kernel
theorem dX11_hoursRefused_46 : decode cX11_hoursRefused 46 = .ok (.ireturn, 1) := by decide +kernel
set_option maxRecDepth 20000 in
theorem ggX11_hour_X11_hoursRefused : GoodIn wsX11_hour wsX11_hoursRefused := goodIn_r _ [5, 6, 7, 8, 9, 10, 11, 12, 13, 4, 14, 56, 57, 58, 59, 60, 61, 62, 63, 64, 65, 66, 67, 68, 69, 70, 71, 72, 73, 74, 75, 76, 77, 78, 79, 80, 81, 82, 83, 84, 85, 86, 87, 88, 89, 90, 91, 92, 93, 94, 95, 96, 97, 98, 99, 100] (by decide +kernel) (by decide +kernel)
set_option maxRecDepth 20000 in
theorem gX11_hour_X11_hoursRefused : GoodIn wsX11_hour (wsV RX11 248 RX11 yX11_hoursRefused wsX11_hoursRefused) := goodIn_app (goodIn_of _ (by decide +kernel)) ggX11_hour_X11_hoursRefused
set_option maxRecDepth 20000 in
theorem ggX11_hour_X11_remember : GoodIn wsX11_hour wsX11_remember := goodIn_r _ [18, 19, 20, 10, 56, 57, 58, 59, 60, 61, 62, 63, 64, 65, 66, 67, 68, 69, 70, 71, 72, 73, 74, 75, 76, 77, 78, 79, 80, 81, 82, 83, 84, 85, 86, 87, 88, 89, 90, 91, 92, 93, 94, 95, 96, 97, 98, 99, 100] (by decide +kernel) (by decide +kernel)
set_option maxRecDepth 20000 in
theorem gX11_hour_X11_remember : GoodIn wsX11_hour (wsV RX11 251 RX11 yX11_remember wsX11_remember) := goodIn_app (goodIn_of _ (by decide +kernel)) ggX11_hour_X11_remember
set_option maxRecDepth 20000 in
theorem ggX11_hour_X11_pass : GoodIn wsX11_hour wsX11_pass := goodIn_r _ [24, 25, 10, 26, 27, 28, 29, 30, 4, 31, 32, 33, 8, 34, 35, 36, 37, 38, 39, 40, 41, 42, 43, 44, 45, 46, 47, 48, 49, 50, 51, 56, 57, 58, 59, 60, 61, 62, 63, 64, 65, 66, 67, 68, 69, 70, 71, 72, 73, 74, 75, 76, 77, 78, 79, 80, 81, 82, 83, 84, 85, 86, 87, 88, 89, 90, 91, 92, 93, 94, 95, 96, 97, 98, 99, 100] (by decide +kernel) (by decide +kernel)
set_option maxRecDepth 20000 in
theorem gX11_hour_X11_pass : GoodIn wsX11_hour (wsV RX11 254 RX11 yX11_pass wsX11_pass) := goodIn_app (goodIn_of _ (by decide +kernel)) ggX11_hour_X11_pass
set_option maxRecDepth 20000 in
theorem ggX11_hour_X11_allSnow : GoodIn wsX11_hour wsX11_allSnow := goodIn_r _ [55, 8, 10, 56, 57, 58, 59, 60, 61, 62, 63, 64, 65, 66, 67, 68, 69, 70, 71, 72, 73, 74, 75, 76, 77, 78, 79, 80, 81, 82, 83, 84, 85, 86, 87, 88, 89, 90, 91, 92, 93, 94, 95, 96, 97, 98, 99, 100] (by decide +kernel) (by decide +kernel)
set_option maxRecDepth 20000 in
theorem gX11_hour_X11_allSnow : GoodIn wsX11_hour (wsV RX11 213 RX11 yX11_allSnow wsX11_allSnow) := goodIn_app (goodIn_of _ (by decide +kernel)) ggX11_hour_X11_allSnow
theorem dX11_hour_0 : decode cX11_hour 0 = .ok (.aload_n 0, 1) := by decide +kernel
theorem dX11_hour_1 : decode cX11_hour 1 = .ok (.iload_n 1, 1) := by decide +kernel
theorem dX11_hour_2 : decode cX11_hour 2 = .ok (.invokevirtual 248, 3) := by decide +kernel
theorem dX11_hour_5 : decode cX11_hour 5 = .ok (.istore_n 2, 1) := by decide +kernel
theorem dX11_hour_6 : decode cX11_hour 6 = .ok (.iload_n 2, 1) := by decide +kernel
theorem dX11_hour_7 : decode cX11_hour 7 = .ok (.ifCond .eq 5, 3) := by decide +kernel
theorem dX11_hour_10 : decode cX11_hour 10 = .ok (.iload_n 2, 1) := by decide +kernel
theorem dX11_hour_11 : decode cX11_hour 11 = .ok (.ireturn, 1) := by decide +kernel
theorem dX11_hour_12 : decode cX11_hour 12 = .ok (.aload_n 0, 1) := by decide +kernel
theorem dX11_hour_13 : decode cX11_hour 13 = .ok (.invokevirtual 251, 3) := by decide +kernel
theorem dX11_hour_16 : decode cX11_hour 16 = .ok (.iconst 0, 1) := by decide +kernel
theorem dX11_hour_17 : decode cX11_hour 17 = .ok (.istore_n 3, 1) := by decide +kernel
theorem dX11_hour_18 : decode cX11_hour 18 = .ok (.iload_n 3, 1) := by decide +kernel
theorem dX11_hour_19 : decode cX11_hour 19 = .ok (.iload_n 1, 1) := by decide +kernel
theorem dX11_hour_20 : decode cX11_hour 20 = .ok (.if_icmp .ge 13, 3) := by decide +kernel
theorem dX11_hour_23 : decode cX11_hour 23 = .ok (.aload_n 0, 1) := by decide +kernel
theorem dX11_hour_24 : decode cX11_hour 24 = .ok (.invokevirtual 254, 3) := by decide +kernel
theorem dX11_hour_27 : decode cX11_hour 27 = .ok (.iinc 3 1, 3) := by decide +kernel
theorem dX11_hour_30 : decode cX11_hour 30 = .ok (.goto (-12), 3) := by decide +kernel
theorem dX11_hour_33 : decode cX11_hour 33 = .ok (.aload_n 0, 1) := by decide +kernel
theorem dX11_hour_34 : decode cX11_hour 34 = .ok (.invokevirtual 213, 3) := by decide +kernel
theorem dX11_hour_37 : decode cX11_hour 37 = .ok (.ireturn, 1) := by decide +kernel
theorem dX11_bid_0 : decode cX11_bid 0 = .ok (.aload_n 0, 1) := by decide +kernel
theorem dX11_bid_1 : decode cX11_bid 1 = .ok (.getfield 22, 3) := by decide +kernel
theorem dX11_bid_4 : decode cX11_bid 4 = .ok (.bipush 25, 2) := by decide +kernel
theorem dX11_bid_6 : decode cX11_bid 6 = .ok (.iload_n 2, 1) := by decide +kernel
theorem dX11_bid_7 : decode cX11_bid 7 = .ok (.iadd, 1) := by decide +kernel
theorem dX11_bid_8 : decode cX11_bid 8 = .ok (.iaload, 1) := by decide +kernel
theorem dX11_bid_9 : decode cX11_bid 9 = .ok (.aload_n 0, 1) := by decide +kernel
theorem dX11_bid_10 : decode cX11_bid 10 = .ok (.getfield 13, 3) := by decide +kernel
theorem dX11_bid_13 : decode cX11_bid 13 = .ok (.iload_n 2, 1) := by decide +kernel
