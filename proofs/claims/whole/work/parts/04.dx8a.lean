theorem dX8_init_0 : decode cX8_init 0 = .ok (.aload_n 0, 1) := by decide +kernel
theorem dX8_init_1 : decode cX8_init 1 = .ok (.invokespecial 1, 3) := by decide +kernel
theorem dX8_init_4 : decode cX8_init 4 = .ok (.aload_n 0, 1) := by decide +kernel
theorem dX8_init_5 : decode cX8_init 5 = .ok (.bipush 13, 2) := by decide +kernel
theorem dX8_init_7 : decode cX8_init 7 = .ok (.newarray .int, 2) := by decide +kernel
theorem dX8_init_9 : decode cX8_init 9 = .ok (.putfield 7, 3) := by decide +kernel
theorem dX8_init_12 : decode cX8_init 12 = .ok (.aload_n 0, 1) := by decide +kernel
theorem dX8_init_13 : decode cX8_init 13 = .ok (.bipush 104, 2) := by decide +kernel
theorem dX8_init_15 : decode cX8_init 15 = .ok (.newarray .int, 2) := by decide +kernel
theorem dX8_init_17 : decode cX8_init 17 = .ok (.putfield 13, 3) := by decide +kernel
theorem dX8_init_20 : decode cX8_init 20 = .ok (.aload_n 0, 1) := by decide +kernel
theorem dX8_init_21 : decode cX8_init 21 = .ok (.bipush 104, 2) := by decide +kernel
theorem dX8_init_23 : decode cX8_init 23 = .ok (.newarray .int, 2) := by decide +kernel
theorem dX8_init_25 : decode cX8_init 25 = .ok (.putfield 16, 3) := by decide +kernel
theorem dX8_init_28 : decode cX8_init 28 = .ok (.aload_n 0, 1) := by decide +kernel
theorem dX8_init_29 : decode cX8_init 29 = .ok (.sipush 600, 3) := by decide +kernel
theorem dX8_init_32 : decode cX8_init 32 = .ok (.newarray .byte, 2) := by decide +kernel
theorem dX8_init_34 : decode cX8_init 34 = .ok (.putfield 19, 3) := by decide +kernel
theorem dX8_init_37 : decode cX8_init 37 = .ok (.aload_n 0, 1) := by decide +kernel
theorem dX8_init_38 : decode cX8_init 38 = .ok (.sipush 600, 3) := by decide +kernel
theorem dX8_init_41 : decode cX8_init 41 = .ok (.newarray .byte, 2) := by decide +kernel
theorem dX8_init_43 : decode cX8_init 43 = .ok (.putfield 23, 3) := by decide +kernel
theorem dX8_init_46 : decode cX8_init 46 = .ok (.aload_n 0, 1) := by decide +kernel
theorem dX8_init_47 : decode cX8_init 47 = .ok (.iconst (-1), 1) := by decide +kernel
theorem dX8_init_48 : decode cX8_init 48 = .ok (.putfield 26, 3) := by decide +kernel
theorem dX8_init_51 : decode cX8_init 51 = .ok (.aload_n 0, 1) := by decide +kernel
theorem dX8_init_52 : decode cX8_init 52 = .ok (.bipush 20, 2) := by decide +kernel
theorem dX8_init_54 : decode cX8_init 54 = .ok (.newarray .int, 2) := by decide +kernel
theorem dX8_init_56 : decode cX8_init 56 = .ok (.putfield 30, 3) := by decide +kernel
theorem dX8_init_59 : decode cX8_init 59 = .ok (.aload_n 0, 1) := by decide +kernel
theorem dX8_init_60 : decode cX8_init 60 = .ok (.bipush 20, 2) := by decide +kernel
theorem dX8_init_62 : decode cX8_init 62 = .ok (.newarray .int, 2) := by decide +kernel
theorem dX8_init_64 : decode cX8_init 64 = .ok (.putfield 33, 3) := by decide +kernel
theorem dX8_init_67 : decode cX8_init 67 = .ok (.aload_n 0, 1) := by decide +kernel
theorem dX8_init_68 : decode cX8_init 68 = .ok (.bipush 21, 2) := by decide +kernel
theorem dX8_init_70 : decode cX8_init 70 = .ok (.newarray .int, 2) := by decide +kernel
theorem dX8_init_72 : decode cX8_init 72 = .ok (.putfield 36, 3) := by decide +kernel
theorem dX8_init_75 : decode cX8_init 75 = .ok (.aload_n 0, 1) := by decide +kernel
theorem dX8_init_76 : decode cX8_init 76 = .ok (.sipush 168, 3) := by decide +kernel
theorem dX8_init_79 : decode cX8_init 79 = .ok (.newarray .int, 2) := by decide +kernel
theorem dX8_init_81 : decode cX8_init 81 = .ok (.putfield 39, 3) := by decide +kernel
theorem dX8_init_84 : decode cX8_init 84 = .ok (.aload_n 0, 1) := by decide +kernel
theorem dX8_init_85 : decode cX8_init 85 = .ok (.sipush 168, 3) := by decide +kernel
theorem dX8_init_88 : decode cX8_init 88 = .ok (.newarray .int, 2) := by decide +kernel
theorem dX8_init_90 : decode cX8_init 90 = .ok (.putfield 42, 3) := by decide +kernel
theorem dX8_init_93 : decode cX8_init 93 = .ok (.aload_n 0, 1) := by decide +kernel
theorem dX8_init_94 : decode cX8_init 94 = .ok (.sipush 672, 3) := by decide +kernel
theorem dX8_init_97 : decode cX8_init 97 = .ok (.newarray .int, 2) := by decide +kernel
theorem dX8_init_99 : decode cX8_init 99 = .ok (.putfield 45, 3) := by decide +kernel
theorem dX8_init_102 : decode cX8_init 102 = .ok (.aload_n 0, 1) := by decide +kernel
theorem dX8_init_103 : decode cX8_init 103 = .ok (.bipush 40, 2) := by decide +kernel
theorem dX8_init_105 : decode cX8_init 105 = .ok (.newarray .int, 2) := by decide +kernel
theorem dX8_init_107 : decode cX8_init 107 = .ok (.putfield 48, 3) := by decide +kernel
theorem dX8_init_110 : decode cX8_init 110 = .ok (.aload_n 0, 1) := by decide +kernel
theorem dX8_init_111 : decode cX8_init 111 = .ok (.bipush 40, 2) := by decide +kernel
theorem dX8_init_113 : decode cX8_init 113 = .ok (.newarray .int, 2) := by decide +kernel
theorem dX8_init_115 : decode cX8_init 115 = .ok (.putfield 51, 3) := by decide +kernel
theorem dX8_init_118 : decode cX8_init 118 = .ok (.aload_n 0, 1) := by decide +kernel
theorem dX8_init_119 : decode cX8_init 119 = .ok (.bipush 40, 2) := by decide +kernel
theorem dX8_init_121 : decode cX8_init 121 = .ok (.newarray .int, 2) := by decide +kernel
theorem dX8_init_123 : decode cX8_init 123 = .ok (.putfield 54, 3) := by decide +kernel
theorem dX8_init_126 : decode cX8_init 126 = .ok (.aload_n 0, 1) := by decide +kernel
theorem dX8_init_127 : decode cX8_init 127 = .ok (.bipush 40, 2) := by decide +kernel
theorem dX8_init_129 : decode cX8_init 129 = .ok (.newarray .int, 2) := by decide +kernel
theorem dX8_init_131 : decode cX8_init 131 = .ok (.putfield 57, 3) := by decide +kernel
theorem dX8_init_134 : decode cX8_init 134 = .ok (.aload_n 0, 1) := by decide +kernel
theorem dX8_init_135 : decode cX8_init 135 = .ok (.bipush 40, 2) := by decide +kernel
theorem dX8_init_137 : decode cX8_init 137 = .ok (.newarray .int, 2) := by decide +kernel
theorem dX8_init_139 : decode cX8_init 139 = .ok (.putfield 60, 3) := by decide +kernel
theorem dX8_init_142 : decode cX8_init 142 = .ok (.aload_n 0, 1) := by decide +kernel
theorem dX8_init_143 : decode cX8_init 143 = .ok (.bipush 40, 2) := by decide +kernel
theorem dX8_init_145 : decode cX8_init 145 = .ok (.newarray .int, 2) := by decide +kernel
theorem dX8_init_147 : decode cX8_init 147 = .ok (.putfield 63, 3) := by decide +kernel
theorem dX8_init_150 : decode cX8_init 150 = .ok (.aload_n 0, 1) := by decide +kernel
theorem dX8_init_151 : decode cX8_init 151 = .ok (.bipush 40, 2) := by decide +kernel
theorem dX8_init_153 : decode cX8_init 153 = .ok (.newarray .int, 2) := by decide +kernel
theorem dX8_init_155 : decode cX8_init 155 = .ok (.putfield 66, 3) := by decide +kernel
theorem dX8_init_158 : decode cX8_init 158 = .ok (.aload_n 0, 1) := by decide +kernel
theorem dX8_init_159 : decode cX8_init 159 = .ok (.bipush 40, 2) := by decide +kernel
theorem dX8_init_161 : decode cX8_init 161 = .ok (.newarray .int, 2) := by decide +kernel
theorem dX8_init_163 : decode cX8_init 163 = .ok (.putfield 69, 3) := by decide +kernel
theorem dX8_init_166 : decode cX8_init 166 = .ok (.aload_n 0, 1) := by decide +kernel
theorem dX8_init_167 : decode cX8_init 167 = .ok (.bipush 40, 2) := by decide +kernel
theorem dX8_init_169 : decode cX8_init 169 = .ok (.newarray .int, 2) := by decide +kernel
theorem dX8_init_171 : decode cX8_init 171 = .ok (.putfield 72, 3) := by decide +kernel
theorem dX8_init_174 : decode cX8_init 174 = .ok (.aload_n 0, 1) := by decide +kernel
theorem dX8_init_175 : decode cX8_init 175 = .ok (.bipush 40, 2) := by decide +kernel
theorem dX8_init_177 : decode cX8_init 177 = .ok (.newarray .int, 2) := by decide +kernel
theorem dX8_init_179 : decode cX8_init 179 = .ok (.putfield 75, 3) := by decide +kernel
theorem dX8_init_182 : decode cX8_init 182 = .ok (.aload_n 0, 1) := by decide +kernel
theorem dX8_init_183 : decode cX8_init 183 = .ok (.bipush 40, 2) := by decide +kernel
theorem dX8_init_185 : decode cX8_init 185 = .ok (.newarray .int, 2) := by decide +kernel
theorem dX8_init_187 : decode cX8_init 187 = .ok (.putfield 78, 3) := by decide +kernel
theorem dX8_init_190 : decode cX8_init 190 = .ok (.aload_n 0, 1) := by decide +kernel
theorem dX8_init_191 : decode cX8_init 191 = .ok (.bipush 40, 2) := by decide +kernel
theorem dX8_init_193 : decode cX8_init 193 = .ok (.newarray .int, 2) := by decide +kernel
theorem dX8_init_195 : decode cX8_init 195 = .ok (.putfield 81, 3) := by decide +kernel
theorem dX8_init_198 : decode cX8_init 198 = .ok (.aload_n 0, 1) := by decide +kernel
theorem dX8_init_199 : decode cX8_init 199 = .ok (.bipush 40, 2) := by decide +kernel
theorem dX8_init_201 : decode cX8_init 201 = .ok (.newarray .int, 2) := by decide +kernel
theorem dX8_init_203 : decode cX8_init 203 = .ok (.putfield 84, 3) := by decide +kernel
theorem dX8_init_206 : decode cX8_init 206 = .ok (.aload_n 0, 1) := by decide +kernel
theorem dX8_init_207 : decode cX8_init 207 = .ok (.bipush 40, 2) := by decide +kernel
theorem dX8_init_209 : decode cX8_init 209 = .ok (.newarray .int, 2) := by decide +kernel
theorem dX8_init_211 : decode cX8_init 211 = .ok (.putfield 87, 3) := by decide +kernel
theorem dX8_init_214 : decode cX8_init 214 = .ok (.aload_n 0, 1) := by decide +kernel
theorem dX8_init_215 : decode cX8_init 215 = .ok (.bipush 40, 2) := by decide +kernel
theorem dX8_init_217 : decode cX8_init 217 = .ok (.newarray .int, 2) := by decide +kernel
theorem dX8_init_219 : decode cX8_init 219 = .ok (.putfield 90, 3) := by decide +kernel
theorem dX8_init_222 : decode cX8_init 222 = .ok (.aload_n 0, 1) := by decide +kernel
theorem dX8_init_223 : decode cX8_init 223 = .ok (.bipush 40, 2) := by decide +kernel
theorem dX8_init_225 : decode cX8_init 225 = .ok (.newarray .int, 2) := by decide +kernel
theorem dX8_init_227 : decode cX8_init 227 = .ok (.putfield 93, 3) := by decide +kernel
theorem dX8_init_230 : decode cX8_init 230 = .ok (.aload_n 0, 1) := by decide +kernel
theorem dX8_init_231 : decode cX8_init 231 = .ok (.bipush 40, 2) := by decide +kernel
theorem dX8_init_233 : decode cX8_init 233 = .ok (.newarray .boolean, 2) := by decide +kernel
theorem dX8_init_235 : decode cX8_init 235 = .ok (.putfield 96, 3) := by decide +kernel
theorem dX8_init_238 : decode cX8_init 238 = .ok (.aload_n 0, 1) := by decide +kernel
theorem dX8_init_239 : decode cX8_init 239 = .ok (.sipush 480, 3) := by decide +kernel
theorem dX8_init_242 : decode cX8_init 242 = .ok (.newarray .boolean, 2) := by decide +kernel
theorem dX8_init_244 : decode cX8_init 244 = .ok (.putfield 100, 3) := by decide +kernel
theorem dX8_init_247 : decode cX8_init 247 = .ok (.aload_n 0, 1) := by decide +kernel
theorem dX8_init_248 : decode cX8_init 248 = .ok (.bipush 100, 2) := by decide +kernel
theorem dX8_init_250 : decode cX8_init 250 = .ok (.newarray .int, 2) := by decide +kernel
theorem dX8_init_252 : decode cX8_init 252 = .ok (.putfield 103, 3) := by decide +kernel
theorem dX8_init_255 : decode cX8_init 255 = .ok (.aload_n 0, 1) := by decide +kernel
theorem dX8_init_256 : decode cX8_init 256 = .ok (.bipush 100, 2) := by decide +kernel
theorem dX8_init_258 : decode cX8_init 258 = .ok (.newarray .int, 2) := by decide +kernel
theorem dX8_init_260 : decode cX8_init 260 = .ok (.putfield 106, 3) := by decide +kernel
theorem dX8_init_263 : decode cX8_init 263 = .ok (.aload_n 0, 1) := by decide +kernel
theorem dX8_init_264 : decode cX8_init 264 = .ok (.bipush 100, 2) := by decide +kernel
theorem dX8_init_266 : decode cX8_init 266 = .ok (.newarray .int, 2) := by decide +kernel
theorem dX8_init_268 : decode cX8_init 268 = .ok (.putfield 109, 3) := by decide +kernel
theorem dX8_init_271 : decode cX8_init 271 = .ok (.aload_n 0, 1) := by decide +kernel
theorem dX8_init_272 : decode cX8_init 272 = .ok (.bipush 100, 2) := by decide +kernel
theorem dX8_init_274 : decode cX8_init 274 = .ok (.newarray .int, 2) := by decide +kernel
theorem dX8_init_276 : decode cX8_init 276 = .ok (.putfield 112, 3) := by decide +kernel
theorem dX8_init_279 : decode cX8_init 279 = .ok (.return_, 1) := by decide +kernel
theorem dX8_isIn_0 : decode cX8_isIn 0 = .ok (.iload_n 0, 1) := by decide +kernel
theorem dX8_isIn_1 : decode cX8_isIn 1 = .ok (.iload_n 1, 1) := by decide +kernel
theorem dX8_isIn_2 : decode cX8_isIn 2 = .ok (.if_icmp .lt 12, 3) := by decide +kernel
theorem dX8_isIn_5 : decode cX8_isIn 5 = .ok (.iload_n 0, 1) := by decide +kernel
theorem dX8_isIn_6 : decode cX8_isIn 6 = .ok (.iload_n 2, 1) := by decide +kernel
theorem dX8_isIn_7 : decode cX8_isIn 7 = .ok (.if_icmp .gt 7, 3) := by decide +kernel
theorem dX8_isIn_10 : decode cX8_isIn 10 = .ok (.iconst 1, 1) := by decide +kernel
theorem dX8_isIn_11 : decode cX8_isIn 11 = .ok (.goto 4, 3) := by decide +kernel
theorem dX8_isIn_14 : decode cX8_isIn 14 = .ok (.iconst 0, 1) := by decide +kernel
theorem dX8_isIn_15 : decode cX8_isIn 15 = .ok (.ireturn, 1) := by decide +kernel
set_option maxRecDepth 20000 in
theorem ggX8_isDay_X8_isIn : GoodIn wsX8_isDay wsX8_isIn := goodIn_r _ [4] (by decide +kernel) (by decide +kernel)
set_option maxRecDepth 20000 in
theorem gX8_isDay_X8_isIn : GoodIn wsX8_isDay (va_wsS RX8 115 yX8_isIn wsX8_isIn) := goodIn_app (goodIn_of _ (by decide +kernel)) ggX8_isDay_X8_isIn
theorem dX8_isDay_0 : decode cX8_isDay 0 = .ok (.iload_n 0, 1) := by decide +kernel
theorem dX8_isDay_1 : decode cX8_isDay 1 = .ok (.iconst 0, 1) := by decide +kernel
theorem dX8_isDay_2 : decode cX8_isDay 2 = .ok (.sipush 9999, 3) := by decide +kernel
theorem dX8_isDay_5 : decode cX8_isDay 5 = .ok (.invokestatic 115, 3) := by decide +kernel
theorem dX8_isDay_8 : decode cX8_isDay 8 = .ok (.ireturn, 1) := by decide +kernel
set_option maxRecDepth 20000 in
theorem ggX8_isPlot_X8_isIn : GoodIn wsX8_isPlot wsX8_isIn := goodIn_r _ [5] (by decide +kernel) (by decide +kernel)
set_option maxRecDepth 20000 in
theorem gX8_isPlot_X8_isIn : GoodIn wsX8_isPlot (va_wsS RX8 115 yX8_isIn wsX8_isIn) := goodIn_app (goodIn_of _ (by decide +kernel)) ggX8_isPlot_X8_isIn
theorem dX8_isPlot_0 : decode cX8_isPlot 0 = .ok (.iload_n 1, 1) := by decide +kernel
theorem dX8_isPlot_1 : decode cX8_isPlot 1 = .ok (.iconst 0, 1) := by decide +kernel
theorem dX8_isPlot_2 : decode cX8_isPlot 2 = .ok (.aload_n 0, 1) := by decide +kernel
theorem dX8_isPlot_3 : decode cX8_isPlot 3 = .ok (.getfield 119, 3) := by decide +kernel
theorem dX8_isPlot_6 : decode cX8_isPlot 6 = .ok (.iconst 1, 1) := by decide +kernel
theorem dX8_isPlot_7 : decode cX8_isPlot 7 = .ok (.isub, 1) := by decide +kernel
theorem dX8_isPlot_8 : decode cX8_isPlot 8 = .ok (.invokestatic 115, 3) := by decide +kernel
theorem dX8_isPlot_11 : decode cX8_isPlot 11 = .ok (.ireturn, 1) := by decide +kernel
set_option maxRecDepth 20000 in
theorem ggX8_isApplication_X8_isIn : GoodIn wsX8_isApplication wsX8_isIn := goodIn_r _ [5] (by decide +kernel) (by decide +kernel)
set_option maxRecDepth 20000 in
theorem gX8_isApplication_X8_isIn : GoodIn wsX8_isApplication (va_wsS RX8 115 yX8_isIn wsX8_isIn) := goodIn_app (goodIn_of _ (by decide +kernel)) ggX8_isApplication_X8_isIn
theorem dX8_isApplication_0 : decode cX8_isApplication 0 = .ok (.iload_n 1, 1) := by decide +kernel
theorem dX8_isApplication_1 : decode cX8_isApplication 1 = .ok (.iconst 0, 1) := by decide +kernel
theorem dX8_isApplication_2 : decode cX8_isApplication 2 = .ok (.aload_n 0, 1) := by decide +kernel
theorem dX8_isApplication_3 : decode cX8_isApplication 3 = .ok (.getfield 122, 3) := by decide +kernel
theorem dX8_isApplication_6 : decode cX8_isApplication 6 = .ok (.iconst 1, 1) := by decide +kernel
theorem dX8_isApplication_7 : decode cX8_isApplication 7 = .ok (.isub, 1) := by decide +kernel
theorem dX8_isApplication_8 : decode cX8_isApplication 8 = .ok (.invokestatic 115, 3) := by decide +kernel
theorem dX8_isApplication_11 : decode cX8_isApplication 11 = .ok (.ireturn, 1) := by decide +kernel
theorem dX8_day_0 : decode cX8_day 0 = .ok (.iload_n 1, 1) := by decide +kernel
theorem dX8_day_1 : decode cX8_day 1 = .ok (.aload_n 0, 1) := by decide +kernel
theorem dX8_day_2 : decode cX8_day 2 = .ok (.getfield 125, 3) := by decide +kernel
theorem dX8_day_5 : decode cX8_day 5 = .ok (.if_icmp .le 10, 3) := by decide +kernel
theorem dX8_day_8 : decode cX8_day 8 = .ok (.iload_n 1, 1) := by decide +kernel
theorem dX8_day_9 : decode cX8_day 9 = .ok (.sipush 9999, 3) := by decide +kernel
theorem dX8_day_12 : decode cX8_day 12 = .ok (.if_icmp .le 5, 3) := by decide +kernel
theorem dX8_day_15 : decode cX8_day 15 = .ok (.iconst 0, 1) := by decide +kernel
theorem dX8_day_16 : decode cX8_day 16 = .ok (.ireturn, 1) := by decide +kernel
theorem dX8_day_17 : decode cX8_day 17 = .ok (.aload_n 0, 1) := by decide +kernel
theorem dX8_day_18 : decode cX8_day 18 = .ok (.iload_n 1, 1) := by decide +kernel
theorem dX8_day_19 : decode cX8_day 19 = .ok (.putfield 125, 3) := by decide +kernel
theorem dX8_day_22 : decode cX8_day 22 = .ok (.iconst 1, 1) := by decide +kernel
theorem dX8_day_23 : decode cX8_day 23 = .ok (.ireturn, 1) := by decide +kernel
set_option maxRecDepth 20000 in
theorem ggX8_corner_X8_isIn : GoodIn wsX8_corner wsX8_isIn := goodIn_r _ [8] (by decide +kernel) (by decide +kernel)
set_option maxRecDepth 20000 in
theorem gX8_corner_X8_isIn : GoodIn wsX8_corner (va_wsS RX8 115 yX8_isIn wsX8_isIn) := goodIn_app (goodIn_of _ (by decide +kernel)) ggX8_corner_X8_isIn
theorem dX8_corner_0 : decode cX8_corner 0 = .ok (.iload_n 1, 1) := by decide +kernel
theorem dX8_corner_1 : decode cX8_corner 1 = .ok (.iconst 0, 1) := by decide +kernel
theorem dX8_corner_2 : decode cX8_corner 2 = .ok (.bipush 63, 2) := by decide +kernel
theorem dX8_corner_4 : decode cX8_corner 4 = .ok (.invokestatic 115, 3) := by decide +kernel
theorem dX8_corner_7 : decode cX8_corner 7 = .ok (.ifCond .eq 22, 3) := by decide +kernel
theorem dX8_corner_10 : decode cX8_corner 10 = .ok (.iload_n 2, 1) := by decide +kernel
theorem dX8_corner_11 : decode cX8_corner 11 = .ok (.iconst 0, 1) := by decide +kernel
theorem dX8_corner_12 : decode cX8_corner 12 = .ok (.bipush 63, 2) := by decide +kernel
theorem dX8_corner_14 : decode cX8_corner 14 = .ok (.invokestatic 115, 3) := by decide +kernel
theorem dX8_corner_17 : decode cX8_corner 17 = .ok (.ifCond .eq 12, 3) := by decide +kernel
theorem dX8_corner_20 : decode cX8_corner 20 = .ok (.aload_n 0, 1) := by decide +kernel
theorem dX8_corner_21 : decode cX8_corner 21 = .ok (.getfield 128, 3) := by decide +kernel
theorem dX8_corner_24 : decode cX8_corner 24 = .ok (.bipush 8, 2) := by decide +kernel
theorem dX8_corner_26 : decode cX8_corner 26 = .ok (.if_icmp .ne 5, 3) := by decide +kernel
theorem dX8_corner_29 : decode cX8_corner 29 = .ok (.iconst (-1), 1) := by decide +kernel
theorem dX8_corner_30 : decode cX8_corner 30 = .ok (.ireturn, 1) := by decide +kernel
theorem dX8_corner_31 : decode cX8_corner 31 = .ok (.aload_n 0, 1) := by decide +kernel
theorem dX8_corner_32 : decode cX8_corner 32 = .ok (.getfield 13, 3) := by decide +kernel
theorem dX8_corner_35 : decode cX8_corner 35 = .ok (.bipush 8, 2) := by decide +kernel
theorem dX8_corner_37 : decode cX8_corner 37 = .ok (.aload_n 0, 1) := by decide +kernel
theorem dX8_corner_38 : decode cX8_corner 38 = .ok (.getfield 119, 3) := by decide +kernel
theorem dX8_corner_41 : decode cX8_corner 41 = .ok (.imul, 1) := by decide +kernel
theorem dX8_corner_42 : decode cX8_corner 42 = .ok (.aload_n 0, 1) := by decide +kernel
theorem dX8_corner_43 : decode cX8_corner 43 = .ok (.getfield 128, 3) := by decide +kernel
theorem dX8_corner_46 : decode cX8_corner 46 = .ok (.iadd, 1) := by decide +kernel
theorem dX8_corner_47 : decode cX8_corner 47 = .ok (.iload_n 1, 1) := by decide +kernel
theorem dX8_corner_48 : decode cX8_corner 48 = .ok (.iastore, 1) := by decide +kernel
theorem dX8_corner_49 : decode cX8_corner 49 = .ok (.aload_n 0, 1) := by decide +kernel
theorem dX8_corner_50 : decode cX8_corner 50 = .ok (.getfield 16, 3) := by decide +kernel
theorem dX8_corner_53 : decode cX8_corner 53 = .ok (.bipush 8, 2) := by decide +kernel
theorem dX8_corner_55 : decode cX8_corner 55 = .ok (.aload_n 0, 1) := by decide +kernel
theorem dX8_corner_56 : decode cX8_corner 56 = .ok (.getfield 119, 3) := by decide +kernel
theorem dX8_corner_59 : decode cX8_corner 59 = .ok (.imul, 1) := by decide +kernel
theorem dX8_corner_60 : decode cX8_corner 60 = .ok (.aload_n 0, 1) := by decide +kernel
theorem dX8_corner_61 : decode cX8_corner 61 = .ok (.getfield 128, 3) := by decide +kernel
theorem dX8_corner_64 : decode cX8_corner 64 = .ok (.iadd, 1) := by decide +kernel
theorem dX8_corner_65 : decode cX8_corner 65 = .ok (.iload_n 2, 1) := by decide +kernel
theorem dX8_corner_66 : decode cX8_corner 66 = .ok (.iastore, 1) := by decide +kernel
theorem dX8_corner_67 : decode cX8_corner 67 = .ok (.aload_n 0, 1) := by decide +kernel
theorem dX8_corner_68 : decode cX8_corner 68 = .ok (.dup, 1) := by decide +kernel
theorem dX8_corner_69 : decode cX8_corner 69 = .ok (.getfield 128, 3) := by decide +kernel
theorem dX8_corner_72 : decode cX8_corner 72 = .ok (.iconst 1, 1) := by decide +kernel
theorem dX8_corner_73 : decode cX8_corner 73 = .ok (.iadd, 1) := by decide +kernel
theorem dX8_corner_74 : decode cX8_corner 74 = .ok (.putfield 128, 3) := by decide +kernel
theorem dX8_corner_77 : decode cX8_corner 77 = .ok (.aload_n 0, 1) := by decide +kernel
theorem dX8_corner_78 : decode cX8_corner 78 = .ok (.getfield 128, 3) := by decide +kernel
theorem dX8_corner_81 : decode cX8_corner 81 = .ok (.ireturn, 1) := by decide +kernel
theorem dX8_left_0 : decode cX8_left 0 = .ok (.bipush 8, 2) := by decide +kernel
theorem dX8_left_2 : decode cX8_left 2 = .ok (.iload_n 1, 1) := by decide +kernel
theorem dX8_left_3 : decode cX8_left 3 = .ok (.imul, 1) := by decide +kernel
theorem dX8_left_4 : decode cX8_left 4 = .ok (.iload_n 2, 1) := by decide +kernel
theorem dX8_left_5 : decode cX8_left 5 = .ok (.iadd, 1) := by decide +kernel
theorem dX8_left_6 : decode cX8_left 6 = .ok (.istore 5, 2) := by decide +kernel
theorem dX8_left_8 : decode cX8_left 8 = .ok (.bipush 8, 2) := by decide +kernel
theorem dX8_left_10 : decode cX8_left 10 = .ok (.iload_n 1, 1) := by decide +kernel
theorem dX8_left_11 : decode cX8_left 11 = .ok (.imul, 1) := by decide +kernel
theorem dX8_left_12 : decode cX8_left 12 = .ok (.iload_n 2, 1) := by decide +kernel
theorem dX8_left_13 : decode cX8_left 13 = .ok (.iconst 1, 1) := by decide +kernel
theorem dX8_left_14 : decode cX8_left 14 = .ok (.iadd, 1) := by decide +kernel
theorem dX8_left_15 : decode cX8_left 15 = .ok (.aload_n 0, 1) := by decide +kernel
theorem dX8_left_16 : decode cX8_left 16 = .ok (.getfield 7, 3) := by decide +kernel
theorem dX8_left_19 : decode cX8_left 19 = .ok (.iload_n 1, 1) := by decide +kernel
theorem dX8_left_20 : decode cX8_left 20 = .ok (.iaload, 1) := by decide +kernel
theorem dX8_left_21 : decode cX8_left 21 = .ok (.irem, 1) := by decide +kernel
theorem dX8_left_22 : decode cX8_left 22 = .ok (.iadd, 1) := by decide +kernel
theorem dX8_left_23 : decode cX8_left 23 = .ok (.istore 6, 2) := by decide +kernel
theorem dX8_left_25 : decode cX8_left 25 = .ok (.aload_n 0, 1) := by decide +kernel
theorem dX8_left_26 : decode cX8_left 26 = .ok (.getfield 13, 3) := by decide +kernel
theorem dX8_left_29 : decode cX8_left 29 = .ok (.iload 6, 2) := by decide +kernel
theorem dX8_left_31 : decode cX8_left 31 = .ok (.iaload, 1) := by decide +kernel
theorem dX8_left_32 : decode cX8_left 32 = .ok (.aload_n 0, 1) := by decide +kernel
theorem dX8_left_33 : decode cX8_left 33 = .ok (.getfield 13, 3) := by decide +kernel
theorem dX8_left_36 : decode cX8_left 36 = .ok (.iload 5, 2) := by decide +kernel
theorem dX8_left_38 : decode cX8_left 38 = .ok (.iaload, 1) := by decide +kernel
theorem dX8_left_39 : decode cX8_left 39 = .ok (.isub, 1) := by decide +kernel
theorem dX8_left_40 : decode cX8_left 40 = .ok (.iload 4, 2) := by decide +kernel
theorem dX8_left_42 : decode cX8_left 42 = .ok (.aload_n 0, 1) := by decide +kernel
theorem dX8_left_43 : decode cX8_left 43 = .ok (.getfield 16, 3) := by decide +kernel
theorem dX8_left_46 : decode cX8_left 46 = .ok (.iload 5, 2) := by decide +kernel
theorem dX8_left_48 : decode cX8_left 48 = .ok (.iaload, 1) := by decide +kernel
theorem dX8_left_49 : decode cX8_left 49 = .ok (.isub, 1) := by decide +kernel
theorem dX8_left_50 : decode cX8_left 50 = .ok (.imul, 1) := by decide +kernel
theorem dX8_left_51 : decode cX8_left 51 = .ok (.aload_n 0, 1) := by decide +kernel
theorem dX8_left_52 : decode cX8_left 52 = .ok (.getfield 16, 3) := by decide +kernel
theorem dX8_left_55 : decode cX8_left 55 = .ok (.iload 6, 2) := by decide +kernel
theorem dX8_left_57 : decode cX8_left 57 = .ok (.iaload, 1) := by decide +kernel
theorem dX8_left_58 : decode cX8_left 58 = .ok (.aload_n 0, 1) := by decide +kernel
theorem dX8_left_59 : decode cX8_left 59 = .ok (.getfield 16, 3) := by decide +kernel
theorem dX8_left_62 : decode cX8_left 62 = .ok (.iload 5, 2) := by decide +kernel
theorem dX8_left_64 : decode cX8_left 64 = .ok (.iaload, 1) := by decide +kernel
theorem dX8_left_65 : decode cX8_left 65 = .ok (.isub, 1) := by decide +kernel
theorem dX8_left_66 : decode cX8_left 66 = .ok (.iload_n 3, 1) := by decide +kernel
theorem dX8_left_67 : decode cX8_left 67 = .ok (.aload_n 0, 1) := by decide +kernel
theorem dX8_left_68 : decode cX8_left 68 = .ok (.getfield 13, 3) := by decide +kernel
theorem dX8_left_71 : decode cX8_left 71 = .ok (.iload 5, 2) := by decide +kernel
theorem dX8_left_73 : decode cX8_left 73 = .ok (.iaload, 1) := by decide +kernel
theorem dX8_left_74 : decode cX8_left 74 = .ok (.isub, 1) := by decide +kernel
theorem dX8_left_75 : decode cX8_left 75 = .ok (.imul, 1) := by decide +kernel
theorem dX8_left_76 : decode cX8_left 76 = .ok (.isub, 1) := by decide +kernel
theorem dX8_left_77 : decode cX8_left 77 = .ok (.ireturn, 1) := by decide +kernel
set_option maxRecDepth 20000 in
theorem ggX8_isRing_X8_left : GoodIn wsX8_isRing wsX8_left := goodIn_r _ [8, 1, 2, 3, 9, 10, 11, 12, 13, 14, 15, 16, 17, 18, 19, 20, 21, 22, 23, 24, 25, 26, 27, 28, 29, 30, 31, 32, 33, 34, 35, 36, 37, 38, 39, 40, 41, 42, 43, 44, 45, 46, 47, 48, 49, 50, 51, 52, 53] (by decide +kernel) (by decide +kernel)
set_option maxRecDepth 20000 in
theorem gX8_isRing_X8_left : GoodIn wsX8_isRing (wsV RX8 131 RX8 yX8_left wsX8_left) := goodIn_app (goodIn_of _ (by decide +kernel)) ggX8_isRing_X8_left
theorem dX8_isRing_0 : decode cX8_isRing 0 = .ok (.aload_n 0, 1) := by decide +kernel
theorem dX8_isRing_1 : decode cX8_isRing 1 = .ok (.getfield 7, 3) := by decide +kernel
theorem dX8_isRing_4 : decode cX8_isRing 4 = .ok (.iload_n 1, 1) := by decide +kernel
theorem dX8_isRing_5 : decode cX8_isRing 5 = .ok (.iaload, 1) := by decide +kernel
theorem dX8_isRing_6 : decode cX8_isRing 6 = .ok (.iconst 3, 1) := by decide +kernel
theorem dX8_isRing_7 : decode cX8_isRing 7 = .ok (.if_icmp .ge 5, 3) := by decide +kernel
theorem dX8_isRing_10 : decode cX8_isRing 10 = .ok (.iconst 0, 1) := by decide +kernel
theorem dX8_isRing_11 : decode cX8_isRing 11 = .ok (.ireturn, 1) := by decide +kernel
theorem dX8_isRing_12 : decode cX8_isRing 12 = .ok (.iconst 0, 1) := by decide +kernel
theorem dX8_isRing_13 : decode cX8_isRing 13 = .ok (.istore_n 2, 1) := by decide +kernel
theorem dX8_isRing_14 : decode cX8_isRing 14 = .ok (.iload_n 2, 1) := by decide +kernel
theorem dX8_isRing_15 : decode cX8_isRing 15 = .ok (.aload_n 0, 1) := by decide +kernel
theorem dX8_isRing_16 : decode cX8_isRing 16 = .ok (.getfield 7, 3) := by decide +kernel
theorem dX8_isRing_19 : decode cX8_isRing 19 = .ok (.iload_n 1, 1) := by decide +kernel
theorem dX8_isRing_20 : decode cX8_isRing 20 = .ok (.iaload, 1) := by decide +kernel
theorem dX8_isRing_21 : decode cX8_isRing 21 = .ok (.if_icmp .ge 91, 3) := by decide +kernel
theorem dX8_isRing_24 : decode cX8_isRing 24 = .ok (.iconst 0, 1) := by decide +kernel
theorem dX8_isRing_25 : decode cX8_isRing 25 = .ok (.istore_n 3, 1) := by decide +kernel
theorem dX8_isRing_26 : decode cX8_isRing 26 = .ok (.iload_n 3, 1) := by decide +kernel
theorem dX8_isRing_27 : decode cX8_isRing 27 = .ok (.aload_n 0, 1) := by decide +kernel
theorem dX8_isRing_28 : decode cX8_isRing 28 = .ok (.getfield 7, 3) := by decide +kernel
theorem dX8_isRing_31 : decode cX8_isRing 31 = .ok (.iload_n 1, 1) := by decide +kernel
theorem dX8_isRing_32 : decode cX8_isRing 32 = .ok (.iaload, 1) := by decide +kernel
theorem dX8_isRing_33 : decode cX8_isRing 33 = .ok (.if_icmp .ge 73, 3) := by decide +kernel
theorem dX8_isRing_36 : decode cX8_isRing 36 = .ok (.iload_n 3, 1) := by decide +kernel
theorem dX8_isRing_37 : decode cX8_isRing 37 = .ok (.iload_n 2, 1) := by decide +kernel
theorem dX8_isRing_38 : decode cX8_isRing 38 = .ok (.if_icmp .eq 17, 3) := by decide +kernel
theorem dX8_isRing_41 : decode cX8_isRing 41 = .ok (.iload_n 3, 1) := by decide +kernel
theorem dX8_isRing_42 : decode cX8_isRing 42 = .ok (.iload_n 2, 1) := by decide +kernel
theorem dX8_isRing_43 : decode cX8_isRing 43 = .ok (.iconst 1, 1) := by decide +kernel
theorem dX8_isRing_44 : decode cX8_isRing 44 = .ok (.iadd, 1) := by decide +kernel
theorem dX8_isRing_45 : decode cX8_isRing 45 = .ok (.aload_n 0, 1) := by decide +kernel
theorem dX8_isRing_46 : decode cX8_isRing 46 = .ok (.getfield 7, 3) := by decide +kernel
theorem dX8_isRing_49 : decode cX8_isRing 49 = .ok (.iload_n 1, 1) := by decide +kernel
theorem dX8_isRing_50 : decode cX8_isRing 50 = .ok (.iaload, 1) := by decide +kernel
theorem dX8_isRing_51 : decode cX8_isRing 51 = .ok (.irem, 1) := by decide +kernel
theorem dX8_isRing_52 : decode cX8_isRing 52 = .ok (.if_icmp .ne 7, 3) := by decide +kernel
theorem dX8_isRing_55 : decode cX8_isRing 55 = .ok (.iconst 1, 1) := by decide +kernel
theorem dX8_isRing_56 : decode cX8_isRing 56 = .ok (.goto 4, 3) := by decide +kernel
theorem dX8_isRing_59 : decode cX8_isRing 59 = .ok (.iconst 0, 1) := by decide +kernel
theorem dX8_isRing_60 : decode cX8_isRing 60 = .ok (.istore 4, 2) := by decide +kernel
theorem dX8_isRing_62 : decode cX8_isRing 62 = .ok (.iload 4, 2) := by decide +kernel
theorem dX8_isRing_64 : decode cX8_isRing 64 = .ok (.ifCond .ne 36, 3) := by decide +kernel
theorem dX8_isRing_67 : decode cX8_isRing 67 = .ok (.aload_n 0, 1) := by decide +kernel
theorem dX8_isRing_68 : decode cX8_isRing 68 = .ok (.iload_n 1, 1) := by decide +kernel
theorem dX8_isRing_69 : decode cX8_isRing 69 = .ok (.iload_n 2, 1) := by decide +kernel
theorem dX8_isRing_70 : decode cX8_isRing 70 = .ok (.aload_n 0, 1) := by decide +kernel
theorem dX8_isRing_71 : decode cX8_isRing 71 = .ok (.getfield 13, 3) := by decide +kernel
theorem dX8_isRing_74 : decode cX8_isRing 74 = .ok (.bipush 8, 2) := by decide +kernel
theorem dX8_isRing_76 : decode cX8_isRing 76 = .ok (.iload_n 1, 1) := by decide +kernel
theorem dX8_isRing_77 : decode cX8_isRing 77 = .ok (.imul, 1) := by decide +kernel
theorem dX8_isRing_78 : decode cX8_isRing 78 = .ok (.iload_n 3, 1) := by decide +kernel
theorem dX8_isRing_79 : decode cX8_isRing 79 = .ok (.iadd, 1) := by decide +kernel
theorem dX8_isRing_80 : decode cX8_isRing 80 = .ok (.iaload, 1) := by decide +kernel
theorem dX8_isRing_81 : decode cX8_isRing 81 = .ok (.aload_n 0, 1) := by decide +kernel
theorem dX8_isRing_82 : decode cX8_isRing 82 = .ok (.getfield 16, 3) := by decide +kernel
theorem dX8_isRing_85 : decode cX8_isRing 85 = .ok (.bipush 8, 2) := by decide +kernel
theorem dX8_isRing_87 : decode cX8_isRing 87 = .ok (.iload_n 1, 1) := by decide +kernel
theorem dX8_isRing_88 : decode cX8_isRing 88 = .ok (.imul, 1) := by decide +kernel
theorem dX8_isRing_89 : decode cX8_isRing 89 = .ok (.iload_n 3, 1) := by decide +kernel
theorem dX8_isRing_90 : decode cX8_isRing 90 = .ok (.iadd, 1) := by decide +kernel
theorem dX8_isRing_91 : decode cX8_isRing 91 = .ok (.iaload, 1) := by decide +kernel
theorem dX8_isRing_92 : decode cX8_isRing 92 = .ok (.invokevirtual 131, 3) := by decide +kernel
theorem dX8_isRing_95 : decode cX8_isRing 95 = .ok (.ifCond .gt 5, 3) := by decide +kernel
theorem dX8_isRing_98 : decode cX8_isRing 98 = .ok (.iconst 0, 1) := by decide +kernel
theorem dX8_isRing_99 : decode cX8_isRing 99 = .ok (.ireturn, 1) := by decide +kernel
theorem dX8_isRing_100 : decode cX8_isRing 100 = .ok (.iinc 3 1, 3) := by decide +kernel
theorem dX8_isRing_103 : decode cX8_isRing 103 = .ok (.goto (-77), 3) := by decide +kernel
theorem dX8_isRing_106 : decode cX8_isRing 106 = .ok (.iinc 2 1, 3) := by decide +kernel
theorem dX8_isRing_109 : decode cX8_isRing 109 = .ok (.goto (-95), 3) := by decide +kernel
theorem dX8_isRing_112 : decode cX8_isRing 112 = .ok (.iconst 1, 1) := by decide +kernel
theorem dX8_isRing_113 : decode cX8_isRing 113 = .ok (.ireturn, 1) := by decide +kernel
set_option maxRecDepth 20000 in
theorem ggX8_parts_X8_left : GoodIn wsX8_parts wsX8_left := goodIn_r _ [8, 1, 2, 3, 9, 10, 11, 12, 13, 14, 15, 16, 17, 18, 19, 20, 21, 22, 23, 24, 25, 26, 27, 28, 29, 30, 31, 32, 33, 34, 35, 36, 37, 38, 39, 40, 41, 42, 43, 44, 45, 46, 47, 48, 49, 50, 51, 52, 53] (by decide +kernel) (by decide +kernel)
set_option maxRecDepth 20000 in
theorem gX8_parts_X8_left : GoodIn wsX8_parts (wsV RX8 131 RX8 yX8_left wsX8_left) := goodIn_app (goodIn_of _ (by decide +kernel)) ggX8_parts_X8_left
theorem dX8_parts_0 : decode cX8_parts 0 = .ok (.iconst 0, 1) := by decide +kernel
theorem dX8_parts_1 : decode cX8_parts 1 = .ok (.istore_n 3, 1) := by decide +kernel
theorem dX8_parts_2 : decode cX8_parts 2 = .ok (.iload_n 3, 1) := by decide +kernel
theorem dX8_parts_3 : decode cX8_parts 3 = .ok (.aload_n 0, 1) := by decide +kernel
theorem dX8_parts_4 : decode cX8_parts 4 = .ok (.getfield 7, 3) := by decide +kernel
theorem dX8_parts_7 : decode cX8_parts 7 = .ok (.iload_n 1, 1) := by decide +kernel
theorem dX8_parts_8 : decode cX8_parts 8 = .ok (.iaload, 1) := by decide +kernel
theorem dX8_parts_9 : decode cX8_parts 9 = .ok (.if_icmp .ge 84, 3) := by decide +kernel
theorem dX8_parts_12 : decode cX8_parts 12 = .ok (.iconst 1, 1) := by decide +kernel
theorem dX8_parts_13 : decode cX8_parts 13 = .ok (.istore 4, 2) := by decide +kernel
theorem dX8_parts_15 : decode cX8_parts 15 = .ok (.iconst 0, 1) := by decide +kernel
theorem dX8_parts_16 : decode cX8_parts 16 = .ok (.istore 5, 2) := by decide +kernel
theorem dX8_parts_18 : decode cX8_parts 18 = .ok (.iload 5, 2) := by decide +kernel
theorem dX8_parts_20 : decode cX8_parts 20 = .ok (.aload_n 0, 1) := by decide +kernel
theorem dX8_parts_21 : decode cX8_parts 21 = .ok (.getfield 7, 3) := by decide +kernel
theorem dX8_parts_24 : decode cX8_parts 24 = .ok (.iload_n 2, 1) := by decide +kernel
theorem dX8_parts_25 : decode cX8_parts 25 = .ok (.iaload, 1) := by decide +kernel
theorem dX8_parts_26 : decode cX8_parts 26 = .ok (.if_icmp .ge 54, 3) := by decide +kernel
theorem dX8_parts_29 : decode cX8_parts 29 = .ok (.iload 4, 2) := by decide +kernel
theorem dX8_parts_31 : decode cX8_parts 31 = .ok (.ifCond .eq 40, 3) := by decide +kernel
theorem dX8_parts_34 : decode cX8_parts 34 = .ok (.aload_n 0, 1) := by decide +kernel
theorem dX8_parts_35 : decode cX8_parts 35 = .ok (.iload_n 1, 1) := by decide +kernel
theorem dX8_parts_36 : decode cX8_parts 36 = .ok (.iload_n 3, 1) := by decide +kernel
theorem dX8_parts_37 : decode cX8_parts 37 = .ok (.aload_n 0, 1) := by decide +kernel
theorem dX8_parts_38 : decode cX8_parts 38 = .ok (.getfield 13, 3) := by decide +kernel
theorem dX8_parts_41 : decode cX8_parts 41 = .ok (.bipush 8, 2) := by decide +kernel
theorem dX8_parts_43 : decode cX8_parts 43 = .ok (.iload_n 2, 1) := by decide +kernel
theorem dX8_parts_44 : decode cX8_parts 44 = .ok (.imul, 1) := by decide +kernel
theorem dX8_parts_45 : decode cX8_parts 45 = .ok (.iload 5, 2) := by decide +kernel
theorem dX8_parts_47 : decode cX8_parts 47 = .ok (.iadd, 1) := by decide +kernel
theorem dX8_parts_48 : decode cX8_parts 48 = .ok (.iaload, 1) := by decide +kernel
theorem dX8_parts_49 : decode cX8_parts 49 = .ok (.aload_n 0, 1) := by decide +kernel
theorem dX8_parts_50 : decode cX8_parts 50 = .ok (.getfield 16, 3) := by decide +kernel
theorem dX8_parts_53 : decode cX8_parts 53 = .ok (.bipush 8, 2) := by decide +kernel
theorem dX8_parts_55 : decode cX8_parts 55 = .ok (.iload_n 2, 1) := by decide +kernel
theorem dX8_parts_56 : decode cX8_parts 56 = .ok (.imul, 1) := by decide +kernel
theorem dX8_parts_57 : decode cX8_parts 57 = .ok (.iload 5, 2) := by decide +kernel
theorem dX8_parts_59 : decode cX8_parts 59 = .ok (.iadd, 1) := by decide +kernel
theorem dX8_parts_60 : decode cX8_parts 60 = .ok (.iaload, 1) := by decide +kernel
theorem dX8_parts_61 : decode cX8_parts 61 = .ok (.invokevirtual 131, 3) := by decide +kernel
theorem dX8_parts_64 : decode cX8_parts 64 = .ok (.ifCond .gt 7, 3) := by decide +kernel
theorem dX8_parts_67 : decode cX8_parts 67 = .ok (.iconst 1, 1) := by decide +kernel
theorem dX8_parts_68 : decode cX8_parts 68 = .ok (.goto 4, 3) := by decide +kernel
theorem dX8_parts_71 : decode cX8_parts 71 = .ok (.iconst 0, 1) := by decide +kernel
theorem dX8_parts_72 : decode cX8_parts 72 = .ok (.istore 4, 2) := by decide +kernel
theorem dX8_parts_74 : decode cX8_parts 74 = .ok (.iinc 5 1, 3) := by decide +kernel
theorem dX8_parts_77 : decode cX8_parts 77 = .ok (.goto (-59), 3) := by decide +kernel
theorem dX8_parts_80 : decode cX8_parts 80 = .ok (.iload 4, 2) := by decide +kernel
theorem dX8_parts_82 : decode cX8_parts 82 = .ok (.ifCond .eq 5, 3) := by decide +kernel
theorem dX8_parts_85 : decode cX8_parts 85 = .ok (.iconst 1, 1) := by decide +kernel
theorem dX8_parts_86 : decode cX8_parts 86 = .ok (.ireturn, 1) := by decide +kernel
theorem dX8_parts_87 : decode cX8_parts 87 = .ok (.iinc 3 1, 3) := by decide +kernel
theorem dX8_parts_90 : decode cX8_parts 90 = .ok (.goto (-88), 3) := by decide +kernel
theorem dX8_parts_93 : decode cX8_parts 93 = .ok (.iconst 0, 1) := by decide +kernel
theorem dX8_parts_94 : decode cX8_parts 94 = .ok (.ireturn, 1) := by decide +kernel
set_option maxRecDepth 20000 in
theorem ggX8_plot_X8_isRing : GoodIn wsX8_plot wsX8_isRing := goodIn_r _ [8, 2, 9, 10, 11, 12, 13, 7, 14, 19, 20, 21, 22, 23, 24, 25, 26, 27, 28, 29, 30, 31, 32, 33, 34, 35, 36, 37, 38, 39, 40, 41, 42, 43, 44, 45, 46, 47, 48, 49, 50, 51, 52, 53, 54, 55, 56, 57, 58, 59, 60, 61, 62, 63] (by decide +kernel) (by decide +kernel)
set_option maxRecDepth 20000 in
theorem gX8_plot_X8_isRing : GoodIn wsX8_plot (wsV RX8 135 RX8 yX8_isRing wsX8_isRing) := goodIn_app (goodIn_of _ (by decide +kernel)) ggX8_plot_X8_isRing
set_option maxRecDepth 20000 in
theorem ggX8_plot_X8_parts : GoodIn wsX8_plot wsX8_parts := goodIn_r _ [18, 2, 9, 10, 11, 12, 13, 7, 14, 19, 20, 21, 22, 23, 24, 25, 26, 27, 28, 29, 30, 31, 32, 33, 34, 35, 36, 37, 38, 39, 40, 41, 42, 43, 44, 45, 46, 47, 48, 49, 50, 51, 52, 53, 54, 55, 56, 57, 58, 59, 60, 61, 62, 63] (by decide +kernel) (by decide +kernel)
set_option maxRecDepth 20000 in
theorem gX8_plot_X8_parts : GoodIn wsX8_plot (wsV RX8 139 RX8 yX8_parts wsX8_parts) := goodIn_app (goodIn_of _ (by decide +kernel)) ggX8_plot_X8_parts
theorem dX8_plot_0 : decode cX8_plot 0 = .ok (.aload_n 0, 1) := by decide +kernel
theorem dX8_plot_1 : decode cX8_plot 1 = .ok (.getfield 119, 3) := by decide +kernel
theorem dX8_plot_4 : decode cX8_plot 4 = .ok (.istore_n 1, 1) := by decide +kernel
theorem dX8_plot_5 : decode cX8_plot 5 = .ok (.aload_n 0, 1) := by decide +kernel
theorem dX8_plot_6 : decode cX8_plot 6 = .ok (.getfield 7, 3) := by decide +kernel
theorem dX8_plot_9 : decode cX8_plot 9 = .ok (.iload_n 1, 1) := by decide +kernel
theorem dX8_plot_10 : decode cX8_plot 10 = .ok (.aload_n 0, 1) := by decide +kernel
theorem dX8_plot_11 : decode cX8_plot 11 = .ok (.getfield 128, 3) := by decide +kernel
theorem dX8_plot_14 : decode cX8_plot 14 = .ok (.iastore, 1) := by decide +kernel
theorem dX8_plot_15 : decode cX8_plot 15 = .ok (.aload_n 0, 1) := by decide +kernel
theorem dX8_plot_16 : decode cX8_plot 16 = .ok (.iconst 0, 1) := by decide +kernel
theorem dX8_plot_17 : decode cX8_plot 17 = .ok (.putfield 128, 3) := by decide +kernel
theorem dX8_plot_20 : decode cX8_plot 20 = .ok (.iload_n 1, 1) := by decide +kernel
theorem dX8_plot_21 : decode cX8_plot 21 = .ok (.bipush 12, 2) := by decide +kernel
theorem dX8_plot_23 : decode cX8_plot 23 = .ok (.if_icmp .ge 15, 3) := by decide +kernel
theorem dX8_plot_26 : decode cX8_plot 26 = .ok (.aload_n 0, 1) := by decide +kernel
theorem dX8_plot_27 : decode cX8_plot 27 = .ok (.iload_n 1, 1) := by decide +kernel
theorem dX8_plot_28 : decode cX8_plot 28 = .ok (.invokevirtual 135, 3) := by decide +kernel
theorem dX8_plot_31 : decode cX8_plot 31 = .ok (.ifCond .eq 7, 3) := by decide +kernel
theorem dX8_plot_34 : decode cX8_plot 34 = .ok (.iconst 1, 1) := by decide +kernel
theorem dX8_plot_35 : decode cX8_plot 35 = .ok (.goto 4, 3) := by decide +kernel
theorem dX8_plot_38 : decode cX8_plot 38 = .ok (.iconst 0, 1) := by decide +kernel
theorem dX8_plot_39 : decode cX8_plot 39 = .ok (.istore_n 2, 1) := by decide +kernel
theorem dX8_plot_40 : decode cX8_plot 40 = .ok (.iconst 0, 1) := by decide +kernel
theorem dX8_plot_41 : decode cX8_plot 41 = .ok (.istore_n 3, 1) := by decide +kernel
theorem dX8_plot_42 : decode cX8_plot 42 = .ok (.iload_n 3, 1) := by decide +kernel
theorem dX8_plot_43 : decode cX8_plot 43 = .ok (.iload_n 1, 1) := by decide +kernel
theorem dX8_plot_44 : decode cX8_plot 44 = .ok (.if_icmp .ge 37, 3) := by decide +kernel
theorem dX8_plot_47 : decode cX8_plot 47 = .ok (.iload_n 2, 1) := by decide +kernel
theorem dX8_plot_48 : decode cX8_plot 48 = .ok (.ifCond .eq 33, 3) := by decide +kernel
theorem dX8_plot_51 : decode cX8_plot 51 = .ok (.aload_n 0, 1) := by decide +kernel
theorem dX8_plot_52 : decode cX8_plot 52 = .ok (.iload_n 1, 1) := by decide +kernel
theorem dX8_plot_53 : decode cX8_plot 53 = .ok (.iload_n 3, 1) := by decide +kernel
theorem dX8_plot_54 : decode cX8_plot 54 = .ok (.invokevirtual 139, 3) := by decide +kernel
theorem dX8_plot_57 : decode cX8_plot 57 = .ok (.ifCond .ne 12, 3) := by decide +kernel
theorem dX8_plot_60 : decode cX8_plot 60 = .ok (.aload_n 0, 1) := by decide +kernel
theorem dX8_plot_61 : decode cX8_plot 61 = .ok (.iload_n 3, 1) := by decide +kernel
theorem dX8_plot_62 : decode cX8_plot 62 = .ok (.iload_n 1, 1) := by decide +kernel
theorem dX8_plot_63 : decode cX8_plot 63 = .ok (.invokevirtual 139, 3) := by decide +kernel
theorem dX8_plot_66 : decode cX8_plot 66 = .ok (.ifCond .eq 7, 3) := by decide +kernel
theorem dX8_plot_69 : decode cX8_plot 69 = .ok (.iconst 1, 1) := by decide +kernel
theorem dX8_plot_70 : decode cX8_plot 70 = .ok (.goto 4, 3) := by decide +kernel
theorem dX8_plot_73 : decode cX8_plot 73 = .ok (.iconst 0, 1) := by decide +kernel
theorem dX8_plot_74 : decode cX8_plot 74 = .ok (.istore_n 2, 1) := by decide +kernel
theorem dX8_plot_75 : decode cX8_plot 75 = .ok (.iinc 3 1, 3) := by decide +kernel
theorem dX8_plot_78 : decode cX8_plot 78 = .ok (.goto (-36), 3) := by decide +kernel
theorem dX8_plot_81 : decode cX8_plot 81 = .ok (.iload_n 2, 1) := by decide +kernel
theorem dX8_plot_82 : decode cX8_plot 82 = .ok (.ifCond .ne 5, 3) := by decide +kernel
theorem dX8_plot_85 : decode cX8_plot 85 = .ok (.iconst (-1), 1) := by decide +kernel
theorem dX8_plot_86 : decode cX8_plot 86 = .ok (.ireturn, 1) := by decide +kernel
theorem dX8_plot_87 : decode cX8_plot 87 = .ok (.aload_n 0, 1) := by decide +kernel
theorem dX8_plot_88 : decode cX8_plot 88 = .ok (.dup, 1) := by decide +kernel
theorem dX8_plot_89 : decode cX8_plot 89 = .ok (.getfield 119, 3) := by decide +kernel
theorem dX8_plot_92 : decode cX8_plot 92 = .ok (.iconst 1, 1) := by decide +kernel
theorem dX8_plot_93 : decode cX8_plot 93 = .ok (.iadd, 1) := by decide +kernel
theorem dX8_plot_94 : decode cX8_plot 94 = .ok (.putfield 119, 3) := by decide +kernel
theorem dX8_plot_97 : decode cX8_plot 97 = .ok (.iload_n 1, 1) := by decide +kernel
theorem dX8_plot_98 : decode cX8_plot 98 = .ok (.ireturn, 1) := by decide +kernel
set_option maxRecDepth 20000 in
theorem ggX8_area_X8_left : GoodIn wsX8_area wsX8_left := goodIn_r _ [6, 1, 7, 8, 9, 10, 11, 12, 13, 14, 15, 16, 17, 18, 19, 20, 21, 22, 23, 24, 25, 26, 27, 28, 29, 30, 31, 32, 33, 34, 35, 36, 37, 38, 39, 40, 41, 42, 43, 44, 45, 46, 47, 48, 49, 50, 51, 52, 53] (by decide +kernel) (by decide +kernel)
set_option maxRecDepth 20000 in
theorem gX8_area_X8_left : GoodIn wsX8_area (wsV RX8 131 RX8 yX8_left wsX8_left) := goodIn_app (goodIn_of _ (by decide +kernel)) ggX8_area_X8_left
theorem dX8_area_0 : decode cX8_area 0 = .ok (.iconst 0, 1) := by decide +kernel
theorem dX8_area_1 : decode cX8_area 1 = .ok (.istore_n 2, 1) := by decide +kernel
theorem dX8_area_2 : decode cX8_area 2 = .ok (.iconst 0, 1) := by decide +kernel
theorem dX8_area_3 : decode cX8_area 3 = .ok (.istore_n 3, 1) := by decide +kernel
theorem dX8_area_4 : decode cX8_area 4 = .ok (.iload_n 3, 1) := by decide +kernel
theorem dX8_area_5 : decode cX8_area 5 = .ok (.aload_n 0, 1) := by decide +kernel
theorem dX8_area_6 : decode cX8_area 6 = .ok (.getfield 7, 3) := by decide +kernel
theorem dX8_area_9 : decode cX8_area 9 = .ok (.iload_n 1, 1) := by decide +kernel
theorem dX8_area_10 : decode cX8_area 10 = .ok (.iaload, 1) := by decide +kernel
theorem dX8_area_11 : decode cX8_area 11 = .ok (.if_icmp .ge 20, 3) := by decide +kernel
theorem dX8_area_14 : decode cX8_area 14 = .ok (.iload_n 2, 1) := by decide +kernel
theorem dX8_area_15 : decode cX8_area 15 = .ok (.aload_n 0, 1) := by decide +kernel
theorem dX8_area_16 : decode cX8_area 16 = .ok (.iload_n 1, 1) := by decide +kernel
theorem dX8_area_17 : decode cX8_area 17 = .ok (.iload_n 3, 1) := by decide +kernel
theorem dX8_area_18 : decode cX8_area 18 = .ok (.iconst 0, 1) := by decide +kernel
theorem dX8_area_19 : decode cX8_area 19 = .ok (.iconst 0, 1) := by decide +kernel
theorem dX8_area_20 : decode cX8_area 20 = .ok (.invokevirtual 131, 3) := by decide +kernel
theorem dX8_area_23 : decode cX8_area 23 = .ok (.iadd, 1) := by decide +kernel
theorem dX8_area_24 : decode cX8_area 24 = .ok (.istore_n 2, 1) := by decide +kernel
theorem dX8_area_25 : decode cX8_area 25 = .ok (.iinc 3 1, 3) := by decide +kernel
theorem dX8_area_28 : decode cX8_area 28 = .ok (.goto (-24), 3) := by decide +kernel
theorem dX8_area_31 : decode cX8_area 31 = .ok (.iload_n 2, 1) := by decide +kernel
theorem dX8_area_32 : decode cX8_area 32 = .ok (.ireturn, 1) := by decide +kernel
set_option maxRecDepth 20000 in
theorem ggX8_ring_X8_isPlot : GoodIn wsX8_ring wsX8_isPlot := goodIn_r _ [8, 9, 10, 11, 7, 12, 21, 22, 23, 24, 25, 26, 27, 28, 29, 30, 31, 32, 33, 34, 35, 36, 37, 38, 39, 40, 41, 42, 43, 44, 45, 46, 47, 48, 49, 50, 51, 52, 53, 54, 55, 56, 57, 58, 59, 60, 61, 62, 63, 64, 65] (by decide +kernel) (by decide +kernel)
set_option maxRecDepth 20000 in
theorem gX8_ring_X8_isPlot : GoodIn wsX8_ring (wsV RX8 143 RX8 yX8_isPlot wsX8_isPlot) := goodIn_app (goodIn_of _ (by decide +kernel)) ggX8_ring_X8_isPlot
set_option maxRecDepth 20000 in
theorem ggX8_ring_X8_area : GoodIn wsX8_ring wsX8_area := goodIn_r _ [16, 1, 17, 18, 19, 7, 20, 2, 3, 21, 22, 23, 24, 25, 26, 27, 28, 29, 30, 31, 32, 33, 34, 35, 36, 37, 38, 39, 40, 41, 42, 43, 44, 45, 46, 47, 48, 49, 50, 51, 52, 53, 54, 55, 56, 57, 58, 59, 60, 61, 62, 63, 64, 65] (by decide +kernel) (by decide +kernel)
set_option maxRecDepth 20000 in
theorem gX8_ring_X8_area : GoodIn wsX8_ring (wsV RX8 146 RX8 yX8_area wsX8_area) := goodIn_app (goodIn_of _ (by decide +kernel)) ggX8_ring_X8_area
theorem dX8_ring_0 : decode cX8_ring 0 = .ok (.aload_n 0, 1) := by decide +kernel
theorem dX8_ring_1 : decode cX8_ring 1 = .ok (.iload_n 1, 1) := by decide +kernel
theorem dX8_ring_2 : decode cX8_ring 2 = .ok (.invokevirtual 143, 3) := by decide +kernel
theorem dX8_ring_5 : decode cX8_ring 5 = .ok (.ifCond .eq 7, 3) := by decide +kernel
theorem dX8_ring_8 : decode cX8_ring 8 = .ok (.iload_n 2, 1) := by decide +kernel
theorem dX8_ring_9 : decode cX8_ring 9 = .ok (.ifCond .ge 5, 3) := by decide +kernel
theorem dX8_ring_12 : decode cX8_ring 12 = .ok (.iconst (-1), 1) := by decide +kernel
theorem dX8_ring_13 : decode cX8_ring 13 = .ok (.ireturn, 1) := by decide +kernel
theorem dX8_ring_14 : decode cX8_ring 14 = .ok (.iload_n 2, 1) := by decide +kernel
theorem dX8_ring_15 : decode cX8_ring 15 = .ok (.ifCond .ne 10, 3) := by decide +kernel
theorem dX8_ring_18 : decode cX8_ring 18 = .ok (.aload_n 0, 1) := by decide +kernel
theorem dX8_ring_19 : decode cX8_ring 19 = .ok (.getfield 7, 3) := by decide +kernel
theorem dX8_ring_22 : decode cX8_ring 22 = .ok (.iload_n 1, 1) := by decide +kernel
theorem dX8_ring_23 : decode cX8_ring 23 = .ok (.iaload, 1) := by decide +kernel
theorem dX8_ring_24 : decode cX8_ring 24 = .ok (.ireturn, 1) := by decide +kernel
theorem dX8_ring_25 : decode cX8_ring 25 = .ok (.iload_n 2, 1) := by decide +kernel
theorem dX8_ring_26 : decode cX8_ring 26 = .ok (.iconst 1, 1) := by decide +kernel
theorem dX8_ring_27 : decode cX8_ring 27 = .ok (.if_icmp .ne 9, 3) := by decide +kernel
theorem dX8_ring_30 : decode cX8_ring 30 = .ok (.aload_n 0, 1) := by decide +kernel
theorem dX8_ring_31 : decode cX8_ring 31 = .ok (.iload_n 1, 1) := by decide +kernel
theorem dX8_ring_32 : decode cX8_ring 32 = .ok (.invokevirtual 146, 3) := by decide +kernel
theorem dX8_ring_35 : decode cX8_ring 35 = .ok (.ireturn, 1) := by decide +kernel
theorem dX8_ring_36 : decode cX8_ring 36 = .ok (.iload_n 2, 1) := by decide +kernel
theorem dX8_ring_37 : decode cX8_ring 37 = .ok (.iconst 2, 1) := by decide +kernel
theorem dX8_ring_38 : decode cX8_ring 38 = .ok (.idiv, 1) := by decide +kernel
theorem dX8_ring_39 : decode cX8_ring 39 = .ok (.iconst 1, 1) := by decide +kernel
theorem dX8_ring_40 : decode cX8_ring 40 = .ok (.isub, 1) := by decide +kernel
theorem dX8_ring_41 : decode cX8_ring 41 = .ok (.istore_n 3, 1) := by decide +kernel
theorem dX8_ring_42 : decode cX8_ring 42 = .ok (.iload_n 3, 1) := by decide +kernel
theorem dX8_ring_43 : decode cX8_ring 43 = .ok (.aload_n 0, 1) := by decide +kernel
theorem dX8_ring_44 : decode cX8_ring 44 = .ok (.getfield 7, 3) := by decide +kernel
theorem dX8_ring_47 : decode cX8_ring 47 = .ok (.iload_n 1, 1) := by decide +kernel
theorem dX8_ring_48 : decode cX8_ring 48 = .ok (.iaload, 1) := by decide +kernel
theorem dX8_ring_49 : decode cX8_ring 49 = .ok (.if_icmp .lt 5, 3) := by decide +kernel
theorem dX8_ring_52 : decode cX8_ring 52 = .ok (.iconst (-1), 1) := by decide +kernel
theorem dX8_ring_53 : decode cX8_ring 53 = .ok (.ireturn, 1) := by decide +kernel
theorem dX8_ring_54 : decode cX8_ring 54 = .ok (.iload_n 2, 1) := by decide +kernel
theorem dX8_ring_55 : decode cX8_ring 55 = .ok (.iconst 2, 1) := by decide +kernel
theorem dX8_ring_56 : decode cX8_ring 56 = .ok (.irem, 1) := by decide +kernel
theorem dX8_ring_57 : decode cX8_ring 57 = .ok (.ifCond .ne 17, 3) := by decide +kernel
theorem dX8_ring_60 : decode cX8_ring 60 = .ok (.aload_n 0, 1) := by decide +kernel
theorem dX8_ring_61 : decode cX8_ring 61 = .ok (.getfield 13, 3) := by decide +kernel
theorem dX8_ring_64 : decode cX8_ring 64 = .ok (.bipush 8, 2) := by decide +kernel
theorem dX8_ring_66 : decode cX8_ring 66 = .ok (.iload_n 1, 1) := by decide +kernel
theorem dX8_ring_67 : decode cX8_ring 67 = .ok (.imul, 1) := by decide +kernel
theorem dX8_ring_68 : decode cX8_ring 68 = .ok (.iload_n 3, 1) := by decide +kernel
theorem dX8_ring_69 : decode cX8_ring 69 = .ok (.iadd, 1) := by decide +kernel
theorem dX8_ring_70 : decode cX8_ring 70 = .ok (.iaload, 1) := by decide +kernel
theorem dX8_ring_71 : decode cX8_ring 71 = .ok (.goto 14, 3) := by decide +kernel
theorem dX8_ring_74 : decode cX8_ring 74 = .ok (.aload_n 0, 1) := by decide +kernel
theorem dX8_ring_75 : decode cX8_ring 75 = .ok (.getfield 16, 3) := by decide +kernel
theorem dX8_ring_78 : decode cX8_ring 78 = .ok (.bipush 8, 2) := by decide +kernel
theorem dX8_ring_80 : decode cX8_ring 80 = .ok (.iload_n 1, 1) := by decide +kernel
theorem dX8_ring_81 : decode cX8_ring 81 = .ok (.imul, 1) := by decide +kernel
theorem dX8_ring_82 : decode cX8_ring 82 = .ok (.iload_n 3, 1) := by decide +kernel
theorem dX8_ring_83 : decode cX8_ring 83 = .ok (.iadd, 1) := by decide +kernel
theorem dX8_ring_84 : decode cX8_ring 84 = .ok (.iaload, 1) := by decide +kernel
theorem dX8_ring_85 : decode cX8_ring 85 = .ok (.ireturn, 1) := by decide +kernel
theorem dX8_reaches_0 : decode cX8_reaches 0 = .ok (.iload 4, 2) := by decide +kernel
theorem dX8_reaches_2 : decode cX8_reaches 2 = .ok (.iload_n 2, 1) := by decide +kernel
theorem dX8_reaches_3 : decode cX8_reaches 3 = .ok (.isub, 1) := by decide +kernel
theorem dX8_reaches_4 : decode cX8_reaches 4 = .ok (.i2l, 1) := by decide +kernel
theorem dX8_reaches_5 : decode cX8_reaches 5 = .ok (.lstore 9, 2) := by decide +kernel
theorem dX8_reaches_7 : decode cX8_reaches 7 = .ok (.iload 5, 2) := by decide +kernel
theorem dX8_reaches_9 : decode cX8_reaches 9 = .ok (.iload_n 3, 1) := by decide +kernel
theorem dX8_reaches_10 : decode cX8_reaches 10 = .ok (.isub, 1) := by decide +kernel
theorem dX8_reaches_11 : decode cX8_reaches 11 = .ok (.i2l, 1) := by decide +kernel
theorem dX8_reaches_12 : decode cX8_reaches 12 = .ok (.lstore 11, 2) := by decide +kernel
theorem dX8_reaches_14 : decode cX8_reaches 14 = .ok (.iload_n 0, 1) := by decide +kernel
theorem dX8_reaches_15 : decode cX8_reaches 15 = .ok (.iload_n 2, 1) := by decide +kernel
theorem dX8_reaches_16 : decode cX8_reaches 16 = .ok (.isub, 1) := by decide +kernel
theorem dX8_reaches_17 : decode cX8_reaches 17 = .ok (.i2l, 1) := by decide +kernel
theorem dX8_reaches_18 : decode cX8_reaches 18 = .ok (.lstore 13, 2) := by decide +kernel
theorem dX8_reaches_20 : decode cX8_reaches 20 = .ok (.iload_n 1, 1) := by decide +kernel
theorem dX8_reaches_21 : decode cX8_reaches 21 = .ok (.iload_n 3, 1) := by decide +kernel
theorem dX8_reaches_22 : decode cX8_reaches 22 = .ok (.isub, 1) := by decide +kernel
theorem dX8_reaches_23 : decode cX8_reaches 23 = .ok (.i2l, 1) := by decide +kernel
theorem dX8_reaches_24 : decode cX8_reaches 24 = .ok (.lstore 15, 2) := by decide +kernel
theorem dX8_reaches_26 : decode cX8_reaches 26 = .ok (.lload 9, 2) := by decide +kernel
theorem dX8_reaches_28 : decode cX8_reaches 28 = .ok (.lload 13, 2) := by decide +kernel
theorem dX8_reaches_30 : decode cX8_reaches 30 = .ok (.lmul, 1) := by decide +kernel
theorem dX8_reaches_31 : decode cX8_reaches 31 = .ok (.lload 11, 2) := by decide +kernel
theorem dX8_reaches_33 : decode cX8_reaches 33 = .ok (.lload 15, 2) := by decide +kernel
theorem dX8_reaches_35 : decode cX8_reaches 35 = .ok (.lmul, 1) := by decide +kernel
theorem dX8_reaches_36 : decode cX8_reaches 36 = .ok (.ladd, 1) := by decide +kernel
theorem dX8_reaches_37 : decode cX8_reaches 37 = .ok (.lstore 17, 2) := by decide +kernel
theorem dX8_reaches_39 : decode cX8_reaches 39 = .ok (.lload 9, 2) := by decide +kernel
theorem dX8_reaches_41 : decode cX8_reaches 41 = .ok (.lload 9, 2) := by decide +kernel
theorem dX8_reaches_43 : decode cX8_reaches 43 = .ok (.lmul, 1) := by decide +kernel
theorem dX8_reaches_44 : decode cX8_reaches 44 = .ok (.lload 11, 2) := by decide +kernel
theorem dX8_reaches_46 : decode cX8_reaches 46 = .ok (.lload 11, 2) := by decide +kernel
theorem dX8_reaches_48 : decode cX8_reaches 48 = .ok (.lmul, 1) := by decide +kernel
theorem dX8_reaches_49 : decode cX8_reaches 49 = .ok (.ladd, 1) := by decide +kernel
theorem dX8_reaches_50 : decode cX8_reaches 50 = .ok (.lstore 19, 2) := by decide +kernel
theorem dX8_reaches_52 : decode cX8_reaches 52 = .ok (.lconst 1, 1) := by decide +kernel
theorem dX8_reaches_53 : decode cX8_reaches 53 = .ok (.lstore 23, 2) := by decide +kernel
theorem dX8_reaches_55 : decode cX8_reaches 55 = .ok (.lload 17, 2) := by decide +kernel
theorem dX8_reaches_57 : decode cX8_reaches 57 = .ok (.lconst 0, 1) := by decide +kernel
theorem dX8_reaches_58 : decode cX8_reaches 58 = .ok (.lcmp, 1) := by decide +kernel
theorem dX8_reaches_59 : decode cX8_reaches 59 = .ok (.ifCond .gt 19, 3) := by decide +kernel
theorem dX8_reaches_62 : decode cX8_reaches 62 = .ok (.lload 13, 2) := by decide +kernel
theorem dX8_reaches_64 : decode cX8_reaches 64 = .ok (.lload 13, 2) := by decide +kernel
theorem dX8_reaches_66 : decode cX8_reaches 66 = .ok (.lmul, 1) := by decide +kernel
theorem dX8_reaches_67 : decode cX8_reaches 67 = .ok (.lload 15, 2) := by decide +kernel
theorem dX8_reaches_69 : decode cX8_reaches 69 = .ok (.lload 15, 2) := by decide +kernel
theorem dX8_reaches_71 : decode cX8_reaches 71 = .ok (.lmul, 1) := by decide +kernel
theorem dX8_reaches_72 : decode cX8_reaches 72 = .ok (.ladd, 1) := by decide +kernel
theorem dX8_reaches_73 : decode cX8_reaches 73 = .ok (.lstore 21, 2) := by decide +kernel
theorem dX8_reaches_75 : decode cX8_reaches 75 = .ok (.goto 65, 3) := by decide +kernel
theorem dX8_reaches_78 : decode cX8_reaches 78 = .ok (.lload 17, 2) := by decide +kernel
theorem dX8_reaches_80 : decode cX8_reaches 80 = .ok (.lload 19, 2) := by decide +kernel
theorem dX8_reaches_82 : decode cX8_reaches 82 = .ok (.lcmp, 1) := by decide +kernel
theorem dX8_reaches_83 : decode cX8_reaches 83 = .ok (.ifCond .lt 33, 3) := by decide +kernel
theorem dX8_reaches_86 : decode cX8_reaches 86 = .ok (.iload_n 0, 1) := by decide +kernel
theorem dX8_reaches_87 : decode cX8_reaches 87 = .ok (.iload 4, 2) := by decide +kernel
theorem dX8_reaches_89 : decode cX8_reaches 89 = .ok (.isub, 1) := by decide +kernel
theorem dX8_reaches_90 : decode cX8_reaches 90 = .ok (.i2l, 1) := by decide +kernel
theorem dX8_reaches_91 : decode cX8_reaches 91 = .ok (.lstore 25, 2) := by decide +kernel
theorem dX8_reaches_93 : decode cX8_reaches 93 = .ok (.iload_n 1, 1) := by decide +kernel
theorem dX8_reaches_94 : decode cX8_reaches 94 = .ok (.iload 5, 2) := by decide +kernel
theorem dX8_reaches_96 : decode cX8_reaches 96 = .ok (.isub, 1) := by decide +kernel
theorem dX8_reaches_97 : decode cX8_reaches 97 = .ok (.i2l, 1) := by decide +kernel
theorem dX8_reaches_98 : decode cX8_reaches 98 = .ok (.lstore 27, 2) := by decide +kernel
theorem dX8_reaches_100 : decode cX8_reaches 100 = .ok (.lload 25, 2) := by decide +kernel
theorem dX8_reaches_102 : decode cX8_reaches 102 = .ok (.lload 25, 2) := by decide +kernel
theorem dX8_reaches_104 : decode cX8_reaches 104 = .ok (.lmul, 1) := by decide +kernel
theorem dX8_reaches_105 : decode cX8_reaches 105 = .ok (.lload 27, 2) := by decide +kernel
theorem dX8_reaches_107 : decode cX8_reaches 107 = .ok (.lload 27, 2) := by decide +kernel
theorem dX8_reaches_109 : decode cX8_reaches 109 = .ok (.lmul, 1) := by decide +kernel
theorem dX8_reaches_110 : decode cX8_reaches 110 = .ok (.ladd, 1) := by decide +kernel
theorem dX8_reaches_111 : decode cX8_reaches 111 = .ok (.lstore 21, 2) := by decide +kernel
theorem dX8_reaches_113 : decode cX8_reaches 113 = .ok (.goto 27, 3) := by decide +kernel
theorem dX8_reaches_116 : decode cX8_reaches 116 = .ok (.lload 9, 2) := by decide +kernel
theorem dX8_reaches_118 : decode cX8_reaches 118 = .ok (.lload 15, 2) := by decide +kernel
theorem dX8_reaches_120 : decode cX8_reaches 120 = .ok (.lmul, 1) := by decide +kernel
theorem dX8_reaches_121 : decode cX8_reaches 121 = .ok (.lload 11, 2) := by decide +kernel
theorem dX8_reaches_123 : decode cX8_reaches 123 = .ok (.lload 13, 2) := by decide +kernel
theorem dX8_reaches_125 : decode cX8_reaches 125 = .ok (.lmul, 1) := by decide +kernel
theorem dX8_reaches_126 : decode cX8_reaches 126 = .ok (.lsub, 1) := by decide +kernel
theorem dX8_reaches_127 : decode cX8_reaches 127 = .ok (.lstore 25, 2) := by decide +kernel
theorem dX8_reaches_129 : decode cX8_reaches 129 = .ok (.lload 25, 2) := by decide +kernel
theorem dX8_reaches_131 : decode cX8_reaches 131 = .ok (.lload 25, 2) := by decide +kernel
theorem dX8_reaches_133 : decode cX8_reaches 133 = .ok (.lmul, 1) := by decide +kernel
theorem dX8_reaches_134 : decode cX8_reaches 134 = .ok (.lstore 21, 2) := by decide +kernel
theorem dX8_reaches_136 : decode cX8_reaches 136 = .ok (.lload 19, 2) := by decide +kernel
theorem dX8_reaches_138 : decode cX8_reaches 138 = .ok (.lstore 23, 2) := by decide +kernel
theorem dX8_reaches_140 : decode cX8_reaches 140 = .ok (.iload 8, 2) := by decide +kernel
theorem dX8_reaches_142 : decode cX8_reaches 142 = .ok (.ifCond .eq 25, 3) := by decide +kernel
theorem dX8_reaches_145 : decode cX8_reaches 145 = .ok (.lload 21, 2) := by decide +kernel
theorem dX8_reaches_147 : decode cX8_reaches 147 = .ok (.lload 6, 2) := by decide +kernel
theorem dX8_reaches_149 : decode cX8_reaches 149 = .ok (.lload 6, 2) := by decide +kernel
theorem dX8_reaches_151 : decode cX8_reaches 151 = .ok (.lmul, 1) := by decide +kernel
theorem dX8_reaches_152 : decode cX8_reaches 152 = .ok (.lload 23, 2) := by decide +kernel
theorem dX8_reaches_154 : decode cX8_reaches 154 = .ok (.lmul, 1) := by decide +kernel
theorem dX8_reaches_155 : decode cX8_reaches 155 = .ok (.lcmp, 1) := by decide +kernel
theorem dX8_reaches_156 : decode cX8_reaches 156 = .ok (.ifCond .ge 7, 3) := by decide +kernel
theorem dX8_reaches_159 : decode cX8_reaches 159 = .ok (.iconst 1, 1) := by decide +kernel
theorem dX8_reaches_160 : decode cX8_reaches 160 = .ok (.goto 26, 3) := by decide +kernel
theorem dX8_reaches_163 : decode cX8_reaches 163 = .ok (.iconst 0, 1) := by decide +kernel
theorem dX8_reaches_164 : decode cX8_reaches 164 = .ok (.goto 22, 3) := by decide +kernel
theorem dX8_reaches_167 : decode cX8_reaches 167 = .ok (.lload 21, 2) := by decide +kernel
theorem dX8_reaches_169 : decode cX8_reaches 169 = .ok (.lload 6, 2) := by decide +kernel
theorem dX8_reaches_171 : decode cX8_reaches 171 = .ok (.lload 6, 2) := by decide +kernel
theorem dX8_reaches_173 : decode cX8_reaches 173 = .ok (.lmul, 1) := by decide +kernel
theorem dX8_reaches_174 : decode cX8_reaches 174 = .ok (.lload 23, 2) := by decide +kernel
theorem dX8_reaches_176 : decode cX8_reaches 176 = .ok (.lmul, 1) := by decide +kernel
theorem dX8_reaches_177 : decode cX8_reaches 177 = .ok (.lcmp, 1) := by decide +kernel
theorem dX8_reaches_178 : decode cX8_reaches 178 = .ok (.ifCond .gt 7, 3) := by decide +kernel
theorem dX8_reaches_181 : decode cX8_reaches 181 = .ok (.iconst 1, 1) := by decide +kernel
theorem dX8_reaches_182 : decode cX8_reaches 182 = .ok (.goto 4, 3) := by decide +kernel
theorem dX8_reaches_185 : decode cX8_reaches 185 = .ok (.iconst 0, 1) := by decide +kernel
theorem dX8_reaches_186 : decode cX8_reaches 186 = .ok (.ireturn, 1) := by decide +kernel
set_option maxRecDepth 20000 in
theorem ggX8_cornersReach_X8_reaches : GoodIn wsX8_cornersReach wsX8_reaches := goodIn_r _ [7] (by decide +kernel) (by decide +kernel)
set_option maxRecDepth 20000 in
theorem gX8_cornersReach_X8_reaches : GoodIn wsX8_cornersReach (va_wsS RX8 150 yX8_reaches wsX8_reaches) := goodIn_app (goodIn_of _ (by decide +kernel)) ggX8_cornersReach_X8_reaches
theorem dX8_cornersReach_0 : decode cX8_cornersReach 0 = .ok (.iconst 0, 1) := by decide +kernel
theorem dX8_cornersReach_1 : decode cX8_cornersReach 1 = .ok (.istore 4, 2) := by decide +kernel
theorem dX8_cornersReach_3 : decode cX8_cornersReach 3 = .ok (.iload 4, 2) := by decide +kernel
theorem dX8_cornersReach_5 : decode cX8_cornersReach 5 = .ok (.aload_n 0, 1) := by decide +kernel
theorem dX8_cornersReach_6 : decode cX8_cornersReach 6 = .ok (.getfield 7, 3) := by decide +kernel
theorem dX8_cornersReach_9 : decode cX8_cornersReach 9 = .ok (.iload_n 1, 1) := by decide +kernel
theorem dX8_cornersReach_10 : decode cX8_cornersReach 10 = .ok (.iaload, 1) := by decide +kernel
theorem dX8_cornersReach_11 : decode cX8_cornersReach 11 = .ok (.if_icmp .ge 119, 3) := by decide +kernel
theorem dX8_cornersReach_14 : decode cX8_cornersReach 14 = .ok (.iconst 0, 1) := by decide +kernel
theorem dX8_cornersReach_15 : decode cX8_cornersReach 15 = .ok (.istore 5, 2) := by decide +kernel
theorem dX8_cornersReach_17 : decode cX8_cornersReach 17 = .ok (.iload 5, 2) := by decide +kernel
theorem dX8_cornersReach_19 : decode cX8_cornersReach 19 = .ok (.aload_n 0, 1) := by decide +kernel
theorem dX8_cornersReach_20 : decode cX8_cornersReach 20 = .ok (.getfield 7, 3) := by decide +kernel
theorem dX8_cornersReach_23 : decode cX8_cornersReach 23 = .ok (.iload_n 2, 1) := by decide +kernel
theorem dX8_cornersReach_24 : decode cX8_cornersReach 24 = .ok (.iaload, 1) := by decide +kernel
theorem dX8_cornersReach_25 : decode cX8_cornersReach 25 = .ok (.if_icmp .ge 99, 3) := by decide +kernel
theorem dX8_cornersReach_28 : decode cX8_cornersReach 28 = .ok (.bipush 8, 2) := by decide +kernel
theorem dX8_cornersReach_30 : decode cX8_cornersReach 30 = .ok (.iload_n 2, 1) := by decide +kernel
theorem dX8_cornersReach_31 : decode cX8_cornersReach 31 = .ok (.imul, 1) := by decide +kernel
theorem dX8_cornersReach_32 : decode cX8_cornersReach 32 = .ok (.iload 5, 2) := by decide +kernel
theorem dX8_cornersReach_34 : decode cX8_cornersReach 34 = .ok (.iadd, 1) := by decide +kernel
theorem dX8_cornersReach_35 : decode cX8_cornersReach 35 = .ok (.istore 6, 2) := by decide +kernel
theorem dX8_cornersReach_37 : decode cX8_cornersReach 37 = .ok (.bipush 8, 2) := by decide +kernel
theorem dX8_cornersReach_39 : decode cX8_cornersReach 39 = .ok (.iload_n 2, 1) := by decide +kernel
theorem dX8_cornersReach_40 : decode cX8_cornersReach 40 = .ok (.imul, 1) := by decide +kernel
theorem dX8_cornersReach_41 : decode cX8_cornersReach 41 = .ok (.iload 5, 2) := by decide +kernel
theorem dX8_cornersReach_43 : decode cX8_cornersReach 43 = .ok (.iconst 1, 1) := by decide +kernel
theorem dX8_cornersReach_44 : decode cX8_cornersReach 44 = .ok (.iadd, 1) := by decide +kernel
theorem dX8_cornersReach_45 : decode cX8_cornersReach 45 = .ok (.aload_n 0, 1) := by decide +kernel
theorem dX8_cornersReach_46 : decode cX8_cornersReach 46 = .ok (.getfield 7, 3) := by decide +kernel
theorem dX8_cornersReach_49 : decode cX8_cornersReach 49 = .ok (.iload_n 2, 1) := by decide +kernel
theorem dX8_cornersReach_50 : decode cX8_cornersReach 50 = .ok (.iaload, 1) := by decide +kernel
theorem dX8_cornersReach_51 : decode cX8_cornersReach 51 = .ok (.irem, 1) := by decide +kernel
theorem dX8_cornersReach_52 : decode cX8_cornersReach 52 = .ok (.iadd, 1) := by decide +kernel
theorem dX8_cornersReach_53 : decode cX8_cornersReach 53 = .ok (.istore 7, 2) := by decide +kernel
theorem dX8_cornersReach_55 : decode cX8_cornersReach 55 = .ok (.aload_n 0, 1) := by decide +kernel
theorem dX8_cornersReach_56 : decode cX8_cornersReach 56 = .ok (.getfield 13, 3) := by decide +kernel
theorem dX8_cornersReach_59 : decode cX8_cornersReach 59 = .ok (.bipush 8, 2) := by decide +kernel
theorem dX8_cornersReach_61 : decode cX8_cornersReach 61 = .ok (.iload_n 1, 1) := by decide +kernel
theorem dX8_cornersReach_62 : decode cX8_cornersReach 62 = .ok (.imul, 1) := by decide +kernel
theorem dX8_cornersReach_63 : decode cX8_cornersReach 63 = .ok (.iload 4, 2) := by decide +kernel
theorem dX8_cornersReach_65 : decode cX8_cornersReach 65 = .ok (.iadd, 1) := by decide +kernel
theorem dX8_cornersReach_66 : decode cX8_cornersReach 66 = .ok (.iaload, 1) := by decide +kernel
theorem dX8_cornersReach_67 : decode cX8_cornersReach 67 = .ok (.aload_n 0, 1) := by decide +kernel
theorem dX8_cornersReach_68 : decode cX8_cornersReach 68 = .ok (.getfield 16, 3) := by decide +kernel
theorem dX8_cornersReach_71 : decode cX8_cornersReach 71 = .ok (.bipush 8, 2) := by decide +kernel
theorem dX8_cornersReach_73 : decode cX8_cornersReach 73 = .ok (.iload_n 1, 1) := by decide +kernel
theorem dX8_cornersReach_74 : decode cX8_cornersReach 74 = .ok (.imul, 1) := by decide +kernel
theorem dX8_cornersReach_75 : decode cX8_cornersReach 75 = .ok (.iload 4, 2) := by decide +kernel
theorem dX8_cornersReach_77 : decode cX8_cornersReach 77 = .ok (.iadd, 1) := by decide +kernel
theorem dX8_cornersReach_78 : decode cX8_cornersReach 78 = .ok (.iaload, 1) := by decide +kernel
theorem dX8_cornersReach_79 : decode cX8_cornersReach 79 = .ok (.aload_n 0, 1) := by decide +kernel
theorem dX8_cornersReach_80 : decode cX8_cornersReach 80 = .ok (.getfield 13, 3) := by decide +kernel
theorem dX8_cornersReach_83 : decode cX8_cornersReach 83 = .ok (.iload 6, 2) := by decide +kernel
theorem dX8_cornersReach_85 : decode cX8_cornersReach 85 = .ok (.iaload, 1) := by decide +kernel
theorem dX8_cornersReach_86 : decode cX8_cornersReach 86 = .ok (.aload_n 0, 1) := by decide +kernel
theorem dX8_cornersReach_87 : decode cX8_cornersReach 87 = .ok (.getfield 16, 3) := by decide +kernel
theorem dX8_cornersReach_90 : decode cX8_cornersReach 90 = .ok (.iload 6, 2) := by decide +kernel
theorem dX8_cornersReach_92 : decode cX8_cornersReach 92 = .ok (.iaload, 1) := by decide +kernel
theorem dX8_cornersReach_93 : decode cX8_cornersReach 93 = .ok (.aload_n 0, 1) := by decide +kernel
theorem dX8_cornersReach_94 : decode cX8_cornersReach 94 = .ok (.getfield 13, 3) := by decide +kernel
theorem dX8_cornersReach_97 : decode cX8_cornersReach 97 = .ok (.iload 7, 2) := by decide +kernel
theorem dX8_cornersReach_99 : decode cX8_cornersReach 99 = .ok (.iaload, 1) := by decide +kernel
theorem dX8_cornersReach_100 : decode cX8_cornersReach 100 = .ok (.aload_n 0, 1) := by decide +kernel
theorem dX8_cornersReach_101 : decode cX8_cornersReach 101 = .ok (.getfield 16, 3) := by decide +kernel
theorem dX8_cornersReach_104 : decode cX8_cornersReach 104 = .ok (.iload 7, 2) := by decide +kernel
theorem dX8_cornersReach_106 : decode cX8_cornersReach 106 = .ok (.iaload, 1) := by decide +kernel
theorem dX8_cornersReach_107 : decode cX8_cornersReach 107 = .ok (.iload_n 3, 1) := by decide +kernel
theorem dX8_cornersReach_108 : decode cX8_cornersReach 108 = .ok (.i2l, 1) := by decide +kernel
theorem dX8_cornersReach_109 : decode cX8_cornersReach 109 = .ok (.iconst 0, 1) := by decide +kernel
theorem dX8_cornersReach_110 : decode cX8_cornersReach 110 = .ok (.invokestatic 150, 3) := by decide +kernel
theorem dX8_cornersReach_113 : decode cX8_cornersReach 113 = .ok (.ifCond .eq 5, 3) := by decide +kernel
theorem dX8_cornersReach_116 : decode cX8_cornersReach 116 = .ok (.iconst 1, 1) := by decide +kernel
theorem dX8_cornersReach_117 : decode cX8_cornersReach 117 = .ok (.ireturn, 1) := by decide +kernel
theorem dX8_cornersReach_118 : decode cX8_cornersReach 118 = .ok (.iinc 5 1, 3) := by decide +kernel
theorem dX8_cornersReach_121 : decode cX8_cornersReach 121 = .ok (.goto (-104), 3) := by decide +kernel
theorem dX8_cornersReach_124 : decode cX8_cornersReach 124 = .ok (.iinc 4 1, 3) := by decide +kernel
theorem dX8_cornersReach_127 : decode cX8_cornersReach 127 = .ok (.goto (-124), 3) := by decide +kernel
theorem dX8_cornersReach_130 : decode cX8_cornersReach 130 = .ok (.iconst 0, 1) := by decide +kernel
theorem dX8_cornersReach_131 : decode cX8_cornersReach 131 = .ok (.ireturn, 1) := by decide +kernel
set_option maxRecDepth 20000 in
theorem ggX8_isNear_X8_cornersReach : GoodIn wsX8_isNear wsX8_cornersReach := goodIn_r _ [5, 6, 7, 8, 9, 10, 4, 11, 12, 13, 14, 15, 16, 17, 18, 19, 20, 21, 22, 23, 24, 25, 26, 27, 28, 29, 30, 31, 32, 33, 34, 35, 36, 37, 38, 39, 40, 41, 42, 43, 44, 45, 46, 47, 48, 49, 50, 51, 52, 53, 54, 55, 56] (by decide +kernel) (by decide +kernel)
set_option maxRecDepth 20000 in
theorem gX8_isNear_X8_cornersReach : GoodIn wsX8_isNear (wsV RX8 154 RX8 yX8_cornersReach wsX8_cornersReach) := goodIn_app (goodIn_of _ (by decide +kernel)) ggX8_isNear_X8_cornersReach
theorem dX8_isNear_0 : decode cX8_isNear 0 = .ok (.aload_n 0, 1) := by decide +kernel
theorem dX8_isNear_1 : decode cX8_isNear 1 = .ok (.iload_n 1, 1) := by decide +kernel
theorem dX8_isNear_2 : decode cX8_isNear 2 = .ok (.iload_n 2, 1) := by decide +kernel
theorem dX8_isNear_3 : decode cX8_isNear 3 = .ok (.iload_n 3, 1) := by decide +kernel
theorem dX8_isNear_4 : decode cX8_isNear 4 = .ok (.invokevirtual 154, 3) := by decide +kernel
theorem dX8_isNear_7 : decode cX8_isNear 7 = .ok (.ifCond .ne 13, 3) := by decide +kernel
theorem dX8_isNear_10 : decode cX8_isNear 10 = .ok (.aload_n 0, 1) := by decide +kernel
theorem dX8_isNear_11 : decode cX8_isNear 11 = .ok (.iload_n 2, 1) := by decide +kernel
theorem dX8_isNear_12 : decode cX8_isNear 12 = .ok (.iload_n 1, 1) := by decide +kernel
theorem dX8_isNear_13 : decode cX8_isNear 13 = .ok (.iload_n 3, 1) := by decide +kernel
theorem dX8_isNear_14 : decode cX8_isNear 14 = .ok (.invokevirtual 154, 3) := by decide +kernel
theorem dX8_isNear_17 : decode cX8_isNear 17 = .ok (.ifCond .eq 7, 3) := by decide +kernel
theorem dX8_isNear_20 : decode cX8_isNear 20 = .ok (.iconst 1, 1) := by decide +kernel
theorem dX8_isNear_21 : decode cX8_isNear 21 = .ok (.goto 4, 3) := by decide +kernel
theorem dX8_isNear_24 : decode cX8_isNear 24 = .ok (.iconst 0, 1) := by decide +kernel
theorem dX8_isNear_25 : decode cX8_isNear 25 = .ok (.ireturn, 1) := by decide +kernel
set_option maxRecDepth 20000 in
theorem ggX8_near_X8_isPlot : GoodIn wsX8_near wsX8_isPlot := goodIn_r _ [5, 6, 7, 8, 4, 9, 24, 25, 26, 27, 28, 29, 30, 31, 32, 33, 34, 35, 36, 37, 38, 39, 40, 41, 42, 43, 44, 45, 46, 47, 48, 49, 50, 51, 52, 53, 54, 55, 56, 57, 58, 59, 60, 61, 62, 63, 64, 65, 66, 67, 68] (by decide +kernel) (by decide +kernel)
set_option maxRecDepth 20000 in
theorem gX8_near_X8_isPlot : GoodIn wsX8_near (wsV RX8 143 RX8 yX8_isPlot wsX8_isPlot) := goodIn_app (goodIn_of _ (by decide +kernel)) ggX8_near_X8_isPlot
set_option maxRecDepth 20000 in
theorem ggX8_near_X8_isIn : GoodIn wsX8_near wsX8_isIn := goodIn_r _ [9] (by decide +kernel) (by decide +kernel)
set_option maxRecDepth 20000 in
theorem gX8_near_X8_isIn : GoodIn wsX8_near (va_wsS RX8 115 yX8_isIn wsX8_isIn) := goodIn_app (goodIn_of _ (by decide +kernel)) ggX8_near_X8_isIn
set_option maxRecDepth 20000 in
theorem ggX8_near_X8_isNear : GoodIn wsX8_near wsX8_isNear := goodIn_r _ [13, 14, 15, 16, 4, 17, 18, 19, 20, 21, 22, 23, 24, 25, 26, 27, 28, 29, 30, 31, 32, 33, 34, 35, 36, 37, 38, 39, 40, 41, 42, 43, 44, 45, 46, 47, 48, 49, 50, 51, 52, 53, 54, 55, 56, 57, 58, 59, 60, 61, 62, 63, 64, 65, 66, 67, 68] (by decide +kernel) (by decide +kernel)
set_option maxRecDepth 20000 in
theorem gX8_near_X8_isNear : GoodIn wsX8_near (wsV RX8 157 RX8 yX8_isNear wsX8_isNear) := goodIn_app (goodIn_of _ (by decide +kernel)) ggX8_near_X8_isNear
theorem dX8_near_0 : decode cX8_near 0 = .ok (.aload_n 0, 1) := by decide +kernel
theorem dX8_near_1 : decode cX8_near 1 = .ok (.iload_n 1, 1) := by decide +kernel
theorem dX8_near_2 : decode cX8_near 2 = .ok (.invokevirtual 143, 3) := by decide +kernel
theorem dX8_near_5 : decode cX8_near 5 = .ok (.ifCond .eq 40, 3) := by decide +kernel
theorem dX8_near_8 : decode cX8_near 8 = .ok (.aload_n 0, 1) := by decide +kernel
theorem dX8_near_9 : decode cX8_near 9 = .ok (.iload_n 2, 1) := by decide +kernel
theorem dX8_near_10 : decode cX8_near 10 = .ok (.invokevirtual 143, 3) := by decide +kernel
theorem dX8_near_13 : decode cX8_near 13 = .ok (.ifCond .eq 32, 3) := by decide +kernel
theorem dX8_near_16 : decode cX8_near 16 = .ok (.iload_n 1, 1) := by decide +kernel
theorem dX8_near_17 : decode cX8_near 17 = .ok (.iload_n 2, 1) := by decide +kernel
theorem dX8_near_18 : decode cX8_near 18 = .ok (.if_icmp .eq 27, 3) := by decide +kernel
theorem dX8_near_21 : decode cX8_near 21 = .ok (.iload_n 3, 1) := by decide +kernel
theorem dX8_near_22 : decode cX8_near 22 = .ok (.iconst 0, 1) := by decide +kernel
theorem dX8_near_23 : decode cX8_near 23 = .ok (.bipush 100, 2) := by decide +kernel
theorem dX8_near_25 : decode cX8_near 25 = .ok (.invokestatic 115, 3) := by decide +kernel
theorem dX8_near_28 : decode cX8_near 28 = .ok (.ifCond .eq 17, 3) := by decide +kernel
theorem dX8_near_31 : decode cX8_near 31 = .ok (.aload_n 0, 1) := by decide +kernel
theorem dX8_near_32 : decode cX8_near 32 = .ok (.iload_n 1, 1) := by decide +kernel
theorem dX8_near_33 : decode cX8_near 33 = .ok (.iload_n 2, 1) := by decide +kernel
theorem dX8_near_34 : decode cX8_near 34 = .ok (.iload_n 3, 1) := by decide +kernel
theorem dX8_near_35 : decode cX8_near 35 = .ok (.invokevirtual 157, 3) := by decide +kernel
theorem dX8_near_38 : decode cX8_near 38 = .ok (.ifCond .eq 7, 3) := by decide +kernel
theorem dX8_near_41 : decode cX8_near 41 = .ok (.iconst 1, 1) := by decide +kernel
theorem dX8_near_42 : decode cX8_near 42 = .ok (.goto 4, 3) := by decide +kernel
theorem dX8_near_45 : decode cX8_near 45 = .ok (.iconst 0, 1) := by decide +kernel
theorem dX8_near_46 : decode cX8_near 46 = .ok (.ireturn, 1) := by decide +kernel
set_option maxRecDepth 20000 in
theorem ggX8_feed_X8_four : GoodIn wsX8_feed wsX8_four := goodIn_r _ [6, 7, 1, 8, 9, 10, 11, 12, 13, 14, 15, 16, 17, 18, 19, 20, 21, 22, 23, 24, 25, 26, 27, 28, 29, 30, 31, 32, 33, 34, 35, 36, 37, 38, 39, 40, 41, 42, 43, 44, 45, 46, 47, 48, 49, 50, 51, 52] (by decide +kernel) (by decide +kernel)
set_option maxRecDepth 20000 in
theorem gX8_feed_X8_four : GoodIn wsX8_feed (wsV RX8 163 RX8 yX8_four wsX8_four) := goodIn_app (goodIn_of _ (by decide +kernel)) ggX8_feed_X8_four
theorem dX8_feed_0 : decode cX8_feed 0 = .ok (.aload_n 0, 1) := by decide +kernel
theorem dX8_feed_1 : decode cX8_feed 1 = .ok (.getfield 160, 3) := by decide +kernel
theorem dX8_feed_4 : decode cX8_feed 4 = .ok (.bipush 20, 2) := by decide +kernel
theorem dX8_feed_6 : decode cX8_feed 6 = .ok (.iadd, 1) := by decide +kernel
theorem dX8_feed_7 : decode cX8_feed 7 = .ok (.sipush 600, 3) := by decide +kernel
theorem dX8_feed_10 : decode cX8_feed 10 = .ok (.if_icmp .le 5, 3) := by decide +kernel
theorem dX8_feed_13 : decode cX8_feed 13 = .ok (.iconst (-1), 1) := by decide +kernel
theorem dX8_feed_14 : decode cX8_feed 14 = .ok (.ireturn, 1) := by decide +kernel
theorem dX8_feed_15 : decode cX8_feed 15 = .ok (.aload_n 0, 1) := by decide +kernel
theorem dX8_feed_16 : decode cX8_feed 16 = .ok (.iload_n 1, 1) := by decide +kernel
theorem dX8_feed_17 : decode cX8_feed 17 = .ok (.invokevirtual 163, 3) := by decide +kernel
theorem dX8_feed_20 : decode cX8_feed 20 = .ok (.aload_n 0, 1) := by decide +kernel
theorem dX8_feed_21 : decode cX8_feed 21 = .ok (.iload_n 2, 1) := by decide +kernel
theorem dX8_feed_22 : decode cX8_feed 22 = .ok (.invokevirtual 163, 3) := by decide +kernel
theorem dX8_feed_25 : decode cX8_feed 25 = .ok (.aload_n 0, 1) := by decide +kernel
theorem dX8_feed_26 : decode cX8_feed 26 = .ok (.iload_n 3, 1) := by decide +kernel
theorem dX8_feed_27 : decode cX8_feed 27 = .ok (.invokevirtual 163, 3) := by decide +kernel
theorem dX8_feed_30 : decode cX8_feed 30 = .ok (.aload_n 0, 1) := by decide +kernel
theorem dX8_feed_31 : decode cX8_feed 31 = .ok (.iload 4, 2) := by decide +kernel
theorem dX8_feed_33 : decode cX8_feed 33 = .ok (.invokevirtual 163, 3) := by decide +kernel
theorem dX8_feed_36 : decode cX8_feed 36 = .ok (.aload_n 0, 1) := by decide +kernel
theorem dX8_feed_37 : decode cX8_feed 37 = .ok (.iload 5, 2) := by decide +kernel
theorem dX8_feed_39 : decode cX8_feed 39 = .ok (.invokevirtual 163, 3) := by decide +kernel
theorem dX8_feed_42 : decode cX8_feed 42 = .ok (.aload_n 0, 1) := by decide +kernel
theorem dX8_feed_43 : decode cX8_feed 43 = .ok (.getfield 160, 3) := by decide +kernel
theorem dX8_feed_46 : decode cX8_feed 46 = .ok (.ireturn, 1) := by decide +kernel
theorem dX8_four_0 : decode cX8_four 0 = .ok (.bipush 24, 2) := by decide +kernel
theorem dX8_four_2 : decode cX8_four 2 = .ok (.istore_n 2, 1) := by decide +kernel
theorem dX8_four_3 : decode cX8_four 3 = .ok (.iload_n 2, 1) := by decide +kernel
theorem dX8_four_4 : decode cX8_four 4 = .ok (.ifCond .lt 32, 3) := by decide +kernel
theorem dX8_four_7 : decode cX8_four 7 = .ok (.aload_n 0, 1) := by decide +kernel
theorem dX8_four_8 : decode cX8_four 8 = .ok (.getfield 19, 3) := by decide +kernel
theorem dX8_four_11 : decode cX8_four 11 = .ok (.aload_n 0, 1) := by decide +kernel
theorem dX8_four_12 : decode cX8_four 12 = .ok (.getfield 160, 3) := by decide +kernel
theorem dX8_four_15 : decode cX8_four 15 = .ok (.iload_n 1, 1) := by decide +kernel
theorem dX8_four_16 : decode cX8_four 16 = .ok (.iload_n 2, 1) := by decide +kernel
theorem dX8_four_17 : decode cX8_four 17 = .ok (.ishr, 1) := by decide +kernel
theorem dX8_four_18 : decode cX8_four 18 = .ok (.i2b, 1) := by decide +kernel
theorem dX8_four_19 : decode cX8_four 19 = .ok (.bastore, 1) := by decide +kernel
theorem dX8_four_20 : decode cX8_four 20 = .ok (.aload_n 0, 1) := by decide +kernel
theorem dX8_four_21 : decode cX8_four 21 = .ok (.dup, 1) := by decide +kernel
theorem dX8_four_22 : decode cX8_four 22 = .ok (.getfield 160, 3) := by decide +kernel
theorem dX8_four_25 : decode cX8_four 25 = .ok (.iconst 1, 1) := by decide +kernel
theorem dX8_four_26 : decode cX8_four 26 = .ok (.iadd, 1) := by decide +kernel
theorem dX8_four_27 : decode cX8_four 27 = .ok (.putfield 160, 3) := by decide +kernel
theorem dX8_four_30 : decode cX8_four 30 = .ok (.iinc 2 (-8), 3) := by decide +kernel
theorem dX8_four_33 : decode cX8_four 33 = .ok (.goto (-30), 3) := by decide +kernel
theorem dX8_four_36 : decode cX8_four 36 = .ok (.return_, 1) := by decide +kernel
theorem dX8_blanks_0 : decode cX8_blanks 0 = .ok (.aload_n 0, 1) := by decide +kernel
theorem dX8_blanks_1 : decode cX8_blanks 1 = .ok (.getfield 167, 3) := by decide +kernel
theorem dX8_blanks_4 : decode cX8_blanks 4 = .ok (.aload_n 0, 1) := by decide +kernel
theorem dX8_blanks_5 : decode cX8_blanks 5 = .ok (.getfield 170, 3) := by decide +kernel
theorem dX8_blanks_8 : decode cX8_blanks 8 = .ok (.if_icmp .ge 44, 3) := by decide +kernel
theorem dX8_blanks_11 : decode cX8_blanks 11 = .ok (.aload_n 0, 1) := by decide +kernel
theorem dX8_blanks_12 : decode cX8_blanks 12 = .ok (.getfield 23, 3) := by decide +kernel
theorem dX8_blanks_15 : decode cX8_blanks 15 = .ok (.aload_n 0, 1) := by decide +kernel
theorem dX8_blanks_16 : decode cX8_blanks 16 = .ok (.getfield 167, 3) := by decide +kernel
theorem dX8_blanks_19 : decode cX8_blanks 19 = .ok (.baload, 1) := by decide +kernel
theorem dX8_blanks_20 : decode cX8_blanks 20 = .ok (.bipush 32, 2) := by decide +kernel
theorem dX8_blanks_22 : decode cX8_blanks 22 = .ok (.if_icmp .eq 17, 3) := by decide +kernel
theorem dX8_blanks_25 : decode cX8_blanks 25 = .ok (.aload_n 0, 1) := by decide +kernel
theorem dX8_blanks_26 : decode cX8_blanks 26 = .ok (.getfield 23, 3) := by decide +kernel
theorem dX8_blanks_29 : decode cX8_blanks 29 = .ok (.aload_n 0, 1) := by decide +kernel
theorem dX8_blanks_30 : decode cX8_blanks 30 = .ok (.getfield 167, 3) := by decide +kernel
theorem dX8_blanks_33 : decode cX8_blanks 33 = .ok (.baload, 1) := by decide +kernel
theorem dX8_blanks_34 : decode cX8_blanks 34 = .ok (.bipush 10, 2) := by decide +kernel
theorem dX8_blanks_36 : decode cX8_blanks 36 = .ok (.if_icmp .ne 16, 3) := by decide +kernel
theorem dX8_blanks_39 : decode cX8_blanks 39 = .ok (.aload_n 0, 1) := by decide +kernel
theorem dX8_blanks_40 : decode cX8_blanks 40 = .ok (.dup, 1) := by decide +kernel
theorem dX8_blanks_41 : decode cX8_blanks 41 = .ok (.getfield 167, 3) := by decide +kernel
theorem dX8_blanks_44 : decode cX8_blanks 44 = .ok (.iconst 1, 1) := by decide +kernel
theorem dX8_blanks_45 : decode cX8_blanks 45 = .ok (.iadd, 1) := by decide +kernel
theorem dX8_blanks_46 : decode cX8_blanks 46 = .ok (.putfield 167, 3) := by decide +kernel
theorem dX8_blanks_49 : decode cX8_blanks 49 = .ok (.goto (-49), 3) := by decide +kernel
theorem dX8_blanks_52 : decode cX8_blanks 52 = .ok (.return_, 1) := by decide +kernel
theorem dX8_isLetter_0 : decode cX8_isLetter 0 = .ok (.iload_n 0, 1) := by decide +kernel
theorem dX8_isLetter_1 : decode cX8_isLetter 1 = .ok (.bipush 97, 2) := by decide +kernel
theorem dX8_isLetter_3 : decode cX8_isLetter 3 = .ok (.if_icmp .lt 13, 3) := by decide +kernel
theorem dX8_isLetter_6 : decode cX8_isLetter 6 = .ok (.iload_n 0, 1) := by decide +kernel
theorem dX8_isLetter_7 : decode cX8_isLetter 7 = .ok (.bipush 122, 2) := by decide +kernel
theorem dX8_isLetter_9 : decode cX8_isLetter 9 = .ok (.if_icmp .gt 7, 3) := by decide +kernel
theorem dX8_isLetter_12 : decode cX8_isLetter 12 = .ok (.iconst 1, 1) := by decide +kernel
theorem dX8_isLetter_13 : decode cX8_isLetter 13 = .ok (.goto 4, 3) := by decide +kernel
theorem dX8_isLetter_16 : decode cX8_isLetter 16 = .ok (.iconst 0, 1) := by decide +kernel
theorem dX8_isLetter_17 : decode cX8_isLetter 17 = .ok (.ireturn, 1) := by decide +kernel
theorem dX8_isDigit_0 : decode cX8_isDigit 0 = .ok (.iload_n 0, 1) := by decide +kernel
theorem dX8_isDigit_1 : decode cX8_isDigit 1 = .ok (.bipush 48, 2) := by decide +kernel
theorem dX8_isDigit_3 : decode cX8_isDigit 3 = .ok (.if_icmp .lt 13, 3) := by decide +kernel
theorem dX8_isDigit_6 : decode cX8_isDigit 6 = .ok (.iload_n 0, 1) := by decide +kernel
theorem dX8_isDigit_7 : decode cX8_isDigit 7 = .ok (.bipush 57, 2) := by decide +kernel
theorem dX8_isDigit_9 : decode cX8_isDigit 9 = .ok (.if_icmp .gt 7, 3) := by decide +kernel
theorem dX8_isDigit_12 : decode cX8_isDigit 12 = .ok (.iconst 1, 1) := by decide +kernel
theorem dX8_isDigit_13 : decode cX8_isDigit 13 = .ok (.goto 4, 3) := by decide +kernel
theorem dX8_isDigit_16 : decode cX8_isDigit 16 = .ok (.iconst 0, 1) := by decide +kernel
theorem dX8_isDigit_17 : decode cX8_isDigit 17 = .ok (.ireturn, 1) := by decide +kernel
set_option maxRecDepth 20000 in
theorem ggX8_takes_X8_blanks : GoodIn wsX8_takes wsX8_blanks := goodIn_r _ [8, 1, 2, 3, 9, 10, 11, 12, 13, 14, 15, 16, 17, 18, 19, 20, 21, 22, 23, 24, 25, 26, 27, 28, 29, 30, 31, 32, 33, 34, 35, 36, 37, 38, 39, 40, 41, 42, 43, 44, 45, 46, 47, 48, 49, 50, 51, 52, 53] (by decide +kernel) (by decide +kernel)
set_option maxRecDepth 20000 in
theorem gX8_takes_X8_blanks : GoodIn wsX8_takes (wsV RX8 173 RX8 yX8_blanks wsX8_blanks) := goodIn_app (goodIn_of _ (by decide +kernel)) ggX8_takes_X8_blanks
theorem dX8_takes_0 : decode cX8_takes 0 = .ok (.aload_n 0, 1) := by decide +kernel
theorem dX8_takes_1 : decode cX8_takes 1 = .ok (.invokevirtual 173, 3) := by decide +kernel
theorem dX8_takes_4 : decode cX8_takes 4 = .ok (.aload_n 0, 1) := by decide +kernel
theorem dX8_takes_5 : decode cX8_takes 5 = .ok (.getfield 167, 3) := by decide +kernel
theorem dX8_takes_8 : decode cX8_takes 8 = .ok (.aload_n 0, 1) := by decide +kernel
theorem dX8_takes_9 : decode cX8_takes 9 = .ok (.getfield 170, 3) := by decide +kernel
theorem dX8_takes_12 : decode cX8_takes 12 = .ok (.if_icmp .eq 16, 3) := by decide +kernel
theorem dX8_takes_15 : decode cX8_takes 15 = .ok (.aload_n 0, 1) := by decide +kernel
theorem dX8_takes_16 : decode cX8_takes 16 = .ok (.getfield 23, 3) := by decide +kernel
theorem dX8_takes_19 : decode cX8_takes 19 = .ok (.aload_n 0, 1) := by decide +kernel
theorem dX8_takes_20 : decode cX8_takes 20 = .ok (.getfield 167, 3) := by decide +kernel
theorem dX8_takes_23 : decode cX8_takes 23 = .ok (.baload, 1) := by decide +kernel
theorem dX8_takes_24 : decode cX8_takes 24 = .ok (.iload_n 1, 1) := by decide +kernel
theorem dX8_takes_25 : decode cX8_takes 25 = .ok (.if_icmp .eq 5, 3) := by decide +kernel
theorem dX8_takes_28 : decode cX8_takes 28 = .ok (.iconst 0, 1) := by decide +kernel
theorem dX8_takes_29 : decode cX8_takes 29 = .ok (.ireturn, 1) := by decide +kernel
theorem dX8_takes_30 : decode cX8_takes 30 = .ok (.aload_n 0, 1) := by decide +kernel
theorem dX8_takes_31 : decode cX8_takes 31 = .ok (.dup, 1) := by decide +kernel
theorem dX8_takes_32 : decode cX8_takes 32 = .ok (.getfield 167, 3) := by decide +kernel
theorem dX8_takes_35 : decode cX8_takes 35 = .ok (.iconst 1, 1) := by decide +kernel
theorem dX8_takes_36 : decode cX8_takes 36 = .ok (.iadd, 1) := by decide +kernel
theorem dX8_takes_37 : decode cX8_takes 37 = .ok (.putfield 167, 3) := by decide +kernel
theorem dX8_takes_40 : decode cX8_takes 40 = .ok (.iconst 1, 1) := by decide +kernel
theorem dX8_takes_41 : decode cX8_takes 41 = .ok (.ireturn, 1) := by decide +kernel
set_option maxRecDepth 20000 in
theorem ggX8_word_X8_blanks : GoodIn wsX8_word wsX8_blanks := goodIn_r _ [9, 1, 3, 4, 13, 14, 15, 16, 17, 18, 19, 20, 21, 22, 23, 24, 25, 26, 27, 28, 29, 30, 31, 32, 33, 34, 35, 36, 37, 38, 39, 40, 41, 42, 43, 44, 45, 46, 47, 48, 49, 50, 51, 52, 53, 54, 55, 56, 57] (by decide +kernel) (by decide +kernel)
set_option maxRecDepth 20000 in
theorem gX8_word_X8_blanks : GoodIn wsX8_word (wsV RX8 173 RX8 yX8_blanks wsX8_blanks) := goodIn_app (goodIn_of _ (by decide +kernel)) ggX8_word_X8_blanks
set_option maxRecDepth 20000 in
theorem ggX8_word_X8_isLetter : GoodIn wsX8_word wsX8_isLetter := goodIn_r _ [12] (by decide +kernel) (by decide +kernel)
set_option maxRecDepth 20000 in
theorem gX8_word_X8_isLetter : GoodIn wsX8_word (va_wsS RX8 179 yX8_isLetter wsX8_isLetter) := goodIn_app (goodIn_of _ (by decide +kernel)) ggX8_word_X8_isLetter
theorem dX8_word_0 : decode cX8_word 0 = .ok (.aload_n 0, 1) := by decide +kernel
theorem dX8_word_1 : decode cX8_word 1 = .ok (.invokevirtual 173, 3) := by decide +kernel
theorem dX8_word_4 : decode cX8_word 4 = .ok (.aload_n 0, 1) := by decide +kernel
theorem dX8_word_5 : decode cX8_word 5 = .ok (.aload_n 0, 1) := by decide +kernel
theorem dX8_word_6 : decode cX8_word 6 = .ok (.getfield 167, 3) := by decide +kernel
theorem dX8_word_9 : decode cX8_word 9 = .ok (.putfield 176, 3) := by decide +kernel
theorem dX8_word_12 : decode cX8_word 12 = .ok (.lconst 0, 1) := by decide +kernel
theorem dX8_word_13 : decode cX8_word 13 = .ok (.lstore_n 1, 1) := by decide +kernel
theorem dX8_word_14 : decode cX8_word 14 = .ok (.aload_n 0, 1) := by decide +kernel
theorem dX8_word_15 : decode cX8_word 15 = .ok (.getfield 176, 3) := by decide +kernel
theorem dX8_word_18 : decode cX8_word 18 = .ok (.aload_n 0, 1) := by decide +kernel
theorem dX8_word_19 : decode cX8_word 19 = .ok (.getfield 170, 3) := by decide +kernel
theorem dX8_word_22 : decode cX8_word 22 = .ok (.if_icmp .ge 65, 3) := by decide +kernel
theorem dX8_word_25 : decode cX8_word 25 = .ok (.aload_n 0, 1) := by decide +kernel
theorem dX8_word_26 : decode cX8_word 26 = .ok (.getfield 23, 3) := by decide +kernel
theorem dX8_word_29 : decode cX8_word 29 = .ok (.aload_n 0, 1) := by decide +kernel
theorem dX8_word_30 : decode cX8_word 30 = .ok (.getfield 176, 3) := by decide +kernel
theorem dX8_word_33 : decode cX8_word 33 = .ok (.baload, 1) := by decide +kernel
theorem dX8_word_34 : decode cX8_word 34 = .ok (.invokestatic 179, 3) := by decide +kernel
theorem dX8_word_37 : decode cX8_word 37 = .ok (.ifCond .eq 50, 3) := by decide +kernel
theorem dX8_word_40 : decode cX8_word 40 = .ok (.aload_n 0, 1) := by decide +kernel
theorem dX8_word_41 : decode cX8_word 41 = .ok (.getfield 176, 3) := by decide +kernel
theorem dX8_word_44 : decode cX8_word 44 = .ok (.aload_n 0, 1) := by decide +kernel
theorem dX8_word_45 : decode cX8_word 45 = .ok (.getfield 167, 3) := by decide +kernel
theorem dX8_word_48 : decode cX8_word 48 = .ok (.isub, 1) := by decide +kernel
theorem dX8_word_49 : decode cX8_word 49 = .ok (.bipush 7, 2) := by decide +kernel
theorem dX8_word_51 : decode cX8_word 51 = .ok (.if_icmp .ge 21, 3) := by decide +kernel
theorem dX8_word_54 : decode cX8_word 54 = .ok (.lload_n 1, 1) := by decide +kernel
theorem dX8_word_55 : decode cX8_word 55 = .ok (.bipush 8, 2) := by decide +kernel
theorem dX8_word_57 : decode cX8_word 57 = .ok (.lshl, 1) := by decide +kernel
theorem dX8_word_58 : decode cX8_word 58 = .ok (.aload_n 0, 1) := by decide +kernel
theorem dX8_word_59 : decode cX8_word 59 = .ok (.getfield 23, 3) := by decide +kernel
theorem dX8_word_62 : decode cX8_word 62 = .ok (.aload_n 0, 1) := by decide +kernel
theorem dX8_word_63 : decode cX8_word 63 = .ok (.getfield 176, 3) := by decide +kernel
theorem dX8_word_66 : decode cX8_word 66 = .ok (.baload, 1) := by decide +kernel
theorem dX8_word_67 : decode cX8_word 67 = .ok (.i2l, 1) := by decide +kernel
theorem dX8_word_68 : decode cX8_word 68 = .ok (.lor, 1) := by decide +kernel
theorem dX8_word_69 : decode cX8_word 69 = .ok (.goto 4, 3) := by decide +kernel
theorem dX8_word_72 : decode cX8_word 72 = .ok (.lconst 0, 1) := by decide +kernel
theorem dX8_word_73 : decode cX8_word 73 = .ok (.lstore_n 1, 1) := by decide +kernel
theorem dX8_word_74 : decode cX8_word 74 = .ok (.aload_n 0, 1) := by decide +kernel
theorem dX8_word_75 : decode cX8_word 75 = .ok (.dup, 1) := by decide +kernel
theorem dX8_word_76 : decode cX8_word 76 = .ok (.getfield 176, 3) := by decide +kernel
theorem dX8_word_79 : decode cX8_word 79 = .ok (.iconst 1, 1) := by decide +kernel
theorem dX8_word_80 : decode cX8_word 80 = .ok (.iadd, 1) := by decide +kernel
theorem dX8_word_81 : decode cX8_word 81 = .ok (.putfield 176, 3) := by decide +kernel
theorem dX8_word_84 : decode cX8_word 84 = .ok (.goto (-70), 3) := by decide +kernel
theorem dX8_word_87 : decode cX8_word 87 = .ok (.aload_n 0, 1) := by decide +kernel
theorem dX8_word_88 : decode cX8_word 88 = .ok (.getfield 176, 3) := by decide +kernel
theorem dX8_word_91 : decode cX8_word 91 = .ok (.aload_n 0, 1) := by decide +kernel
theorem dX8_word_92 : decode cX8_word 92 = .ok (.getfield 167, 3) := by decide +kernel
theorem dX8_word_95 : decode cX8_word 95 = .ok (.isub, 1) := by decide +kernel
theorem dX8_word_96 : decode cX8_word 96 = .ok (.bipush 7, 2) := by decide +kernel
theorem dX8_word_98 : decode cX8_word 98 = .ok (.if_icmp .le 7, 3) := by decide +kernel
theorem dX8_word_101 : decode cX8_word 101 = .ok (.lconst 0, 1) := by decide +kernel
theorem dX8_word_102 : decode cX8_word 102 = .ok (.goto 4, 3) := by decide +kernel
theorem dX8_word_105 : decode cX8_word 105 = .ok (.lload_n 1, 1) := by decide +kernel
theorem dX8_word_106 : decode cX8_word 106 = .ok (.lreturn, 1) := by decide +kernel
set_option maxRecDepth 20000 in
theorem ggX8_takesNumber_X8_blanks : GoodIn wsX8_takesNumber wsX8_blanks := goodIn_r _ [9, 1, 3, 4, 13, 14, 15, 16, 17, 18, 19, 20, 21, 22, 23, 24, 25, 26, 27, 28, 29, 30, 31, 32, 33, 34, 35, 36, 37, 38, 39, 40, 41, 42, 43, 44, 45, 46, 47, 48, 49, 50, 51, 52, 53, 54, 55, 56, 57] (by decide +kernel) (by decide +kernel)
set_option maxRecDepth 20000 in
theorem gX8_takesNumber_X8_blanks : GoodIn wsX8_takesNumber (wsV RX8 173 RX8 yX8_blanks wsX8_blanks) := goodIn_app (goodIn_of _ (by decide +kernel)) ggX8_takesNumber_X8_blanks
set_option maxRecDepth 20000 in
theorem ggX8_takesNumber_X8_isDigit : GoodIn wsX8_takesNumber wsX8_isDigit := goodIn_r _ [12] (by decide +kernel) (by decide +kernel)
set_option maxRecDepth 20000 in
theorem gX8_takesNumber_X8_isDigit : GoodIn wsX8_takesNumber (va_wsS RX8 185 yX8_isDigit wsX8_isDigit) := goodIn_app (goodIn_of _ (by decide +kernel)) ggX8_takesNumber_X8_isDigit
theorem dX8_takesNumber_0 : decode cX8_takesNumber 0 = .ok (.aload_n 0, 1) := by decide +kernel
theorem dX8_takesNumber_1 : decode cX8_takesNumber 1 = .ok (.invokevirtual 173, 3) := by decide +kernel
theorem dX8_takesNumber_4 : decode cX8_takesNumber 4 = .ok (.aload_n 0, 1) := by decide +kernel
theorem dX8_takesNumber_5 : decode cX8_takesNumber 5 = .ok (.getfield 167, 3) := by decide +kernel
theorem dX8_takesNumber_8 : decode cX8_takesNumber 8 = .ok (.istore_n 1, 1) := by decide +kernel
theorem dX8_takesNumber_9 : decode cX8_takesNumber 9 = .ok (.aload_n 0, 1) := by decide +kernel
theorem dX8_takesNumber_10 : decode cX8_takesNumber 10 = .ok (.iconst 0, 1) := by decide +kernel
theorem dX8_takesNumber_11 : decode cX8_takesNumber 11 = .ok (.putfield 182, 3) := by decide +kernel
theorem dX8_takesNumber_14 : decode cX8_takesNumber 14 = .ok (.iload_n 1, 1) := by decide +kernel
theorem dX8_takesNumber_15 : decode cX8_takesNumber 15 = .ok (.aload_n 0, 1) := by decide +kernel
theorem dX8_takesNumber_16 : decode cX8_takesNumber 16 = .ok (.getfield 170, 3) := by decide +kernel
theorem dX8_takesNumber_19 : decode cX8_takesNumber 19 = .ok (.if_icmp .ge 52, 3) := by decide +kernel
theorem dX8_takesNumber_22 : decode cX8_takesNumber 22 = .ok (.aload_n 0, 1) := by decide +kernel
theorem dX8_takesNumber_23 : decode cX8_takesNumber 23 = .ok (.getfield 23, 3) := by decide +kernel
theorem dX8_takesNumber_26 : decode cX8_takesNumber 26 = .ok (.iload_n 1, 1) := by decide +kernel
theorem dX8_takesNumber_27 : decode cX8_takesNumber 27 = .ok (.baload, 1) := by decide +kernel
theorem dX8_takesNumber_28 : decode cX8_takesNumber 28 = .ok (.invokestatic 185, 3) := by decide +kernel
theorem dX8_takesNumber_31 : decode cX8_takesNumber 31 = .ok (.ifCond .eq 40, 3) := by decide +kernel
theorem dX8_takesNumber_34 : decode cX8_takesNumber 34 = .ok (.iload_n 1, 1) := by decide +kernel
theorem dX8_takesNumber_35 : decode cX8_takesNumber 35 = .ok (.aload_n 0, 1) := by decide +kernel
theorem dX8_takesNumber_36 : decode cX8_takesNumber 36 = .ok (.getfield 167, 3) := by decide +kernel
theorem dX8_takesNumber_39 : decode cX8_takesNumber 39 = .ok (.isub, 1) := by decide +kernel
theorem dX8_takesNumber_40 : decode cX8_takesNumber 40 = .ok (.iconst 3, 1) := by decide +kernel
theorem dX8_takesNumber_41 : decode cX8_takesNumber 41 = .ok (.if_icmp .ge 24, 3) := by decide +kernel
theorem dX8_takesNumber_44 : decode cX8_takesNumber 44 = .ok (.aload_n 0, 1) := by decide +kernel
theorem dX8_takesNumber_45 : decode cX8_takesNumber 45 = .ok (.bipush 10, 2) := by decide +kernel
theorem dX8_takesNumber_47 : decode cX8_takesNumber 47 = .ok (.aload_n 0, 1) := by decide +kernel
theorem dX8_takesNumber_48 : decode cX8_takesNumber 48 = .ok (.getfield 182, 3) := by decide +kernel
theorem dX8_takesNumber_51 : decode cX8_takesNumber 51 = .ok (.imul, 1) := by decide +kernel
theorem dX8_takesNumber_52 : decode cX8_takesNumber 52 = .ok (.aload_n 0, 1) := by decide +kernel
theorem dX8_takesNumber_53 : decode cX8_takesNumber 53 = .ok (.getfield 23, 3) := by decide +kernel
theorem dX8_takesNumber_56 : decode cX8_takesNumber 56 = .ok (.iload_n 1, 1) := by decide +kernel
theorem dX8_takesNumber_57 : decode cX8_takesNumber 57 = .ok (.baload, 1) := by decide +kernel
theorem dX8_takesNumber_58 : decode cX8_takesNumber 58 = .ok (.iadd, 1) := by decide +kernel
theorem dX8_takesNumber_59 : decode cX8_takesNumber 59 = .ok (.bipush 48, 2) := by decide +kernel
theorem dX8_takesNumber_61 : decode cX8_takesNumber 61 = .ok (.isub, 1) := by decide +kernel
theorem dX8_takesNumber_62 : decode cX8_takesNumber 62 = .ok (.putfield 182, 3) := by decide +kernel
theorem dX8_takesNumber_65 : decode cX8_takesNumber 65 = .ok (.iinc 1 1, 3) := by decide +kernel
theorem dX8_takesNumber_68 : decode cX8_takesNumber 68 = .ok (.goto (-54), 3) := by decide +kernel
theorem dX8_takesNumber_71 : decode cX8_takesNumber 71 = .ok (.iload_n 1, 1) := by decide +kernel
theorem dX8_takesNumber_72 : decode cX8_takesNumber 72 = .ok (.aload_n 0, 1) := by decide +kernel
theorem dX8_takesNumber_73 : decode cX8_takesNumber 73 = .ok (.getfield 167, 3) := by decide +kernel
theorem dX8_takesNumber_76 : decode cX8_takesNumber 76 = .ok (.if_icmp .eq 13, 3) := by decide +kernel
theorem dX8_takesNumber_79 : decode cX8_takesNumber 79 = .ok (.iload_n 1, 1) := by decide +kernel
theorem dX8_takesNumber_80 : decode cX8_takesNumber 80 = .ok (.aload_n 0, 1) := by decide +kernel
theorem dX8_takesNumber_81 : decode cX8_takesNumber 81 = .ok (.getfield 167, 3) := by decide +kernel
theorem dX8_takesNumber_84 : decode cX8_takesNumber 84 = .ok (.isub, 1) := by decide +kernel
theorem dX8_takesNumber_85 : decode cX8_takesNumber 85 = .ok (.iconst 3, 1) := by decide +kernel
theorem dX8_takesNumber_86 : decode cX8_takesNumber 86 = .ok (.if_icmp .le 5, 3) := by decide +kernel
theorem dX8_takesNumber_89 : decode cX8_takesNumber 89 = .ok (.iconst 0, 1) := by decide +kernel
theorem dX8_takesNumber_90 : decode cX8_takesNumber 90 = .ok (.ireturn, 1) := by decide +kernel
theorem dX8_takesNumber_91 : decode cX8_takesNumber 91 = .ok (.aload_n 0, 1) := by decide +kernel
theorem dX8_takesNumber_92 : decode cX8_takesNumber 92 = .ok (.iload_n 1, 1) := by decide +kernel
theorem dX8_takesNumber_93 : decode cX8_takesNumber 93 = .ok (.putfield 167, 3) := by decide +kernel
theorem dX8_takesNumber_96 : decode cX8_takesNumber 96 = .ok (.iconst 1, 1) := by decide +kernel
theorem dX8_takesNumber_97 : decode cX8_takesNumber 97 = .ok (.ireturn, 1) := by decide +kernel
set_option maxRecDepth 20000 in
theorem ggX8_item_X8_word : GoodIn wsX8_item wsX8_word := goodIn_r _ [19, 8, 7, 11, 12, 20, 21, 22, 18, 23, 24, 25, 26, 38, 39, 40, 41, 42, 43, 44, 45, 46, 47, 48, 49, 50, 51, 52, 53, 54, 55, 56, 57, 58, 59, 60, 61, 62, 63, 64, 65, 66, 67, 68, 69, 70, 71, 72, 73, 74, 75, 76, 77, 78, 79, 80, 81, 82] (by decide +kernel) (by decide +kernel)
set_option maxRecDepth 20000 in
theorem gX8_item_X8_word : GoodIn wsX8_item (wsV RX8 188 RX8 yX8_word wsX8_word) := goodIn_app (goodIn_of _ (by decide +kernel)) ggX8_item_X8_word
set_option maxRecDepth 20000 in
theorem ggX8_item_X8_takesNumber : GoodIn wsX8_item wsX8_takesNumber := goodIn_r _ [30, 8, 10, 11, 12, 20, 21, 22, 18, 23, 31, 32, 33, 38, 39, 40, 41, 42, 43, 44, 45, 46, 47, 48, 49, 50, 51, 52, 53, 54, 55, 56, 57, 58, 59, 60, 61, 62, 63, 64, 65, 66, 67, 68, 69, 70, 71, 72, 73, 74, 75, 76, 77, 78, 79, 80, 81, 82] (by decide +kernel) (by decide +kernel)
set_option maxRecDepth 20000 in
theorem gX8_item_X8_takesNumber : GoodIn wsX8_item (wsV RX8 204 RX8 yX8_takesNumber wsX8_takesNumber) := goodIn_app (goodIn_of _ (by decide +kernel)) ggX8_item_X8_takesNumber
set_option maxRecDepth 20000 in
theorem ggX8_item_X8_takes : GoodIn wsX8_item wsX8_takes := goodIn_r _ [37, 8, 11, 12, 20, 21, 22, 18, 23, 38, 39, 40, 41, 42, 43, 44, 45, 46, 47, 48, 49, 50, 51, 52, 53, 54, 55, 56, 57, 58, 59, 60, 61, 62, 63, 64, 65, 66, 67, 68, 69, 70, 71, 72, 73, 74, 75, 76, 77, 78, 79, 80, 81, 82] (by decide +kernel) (by decide +kernel)
set_option maxRecDepth 20000 in
theorem gX8_item_X8_takes : GoodIn wsX8_item (wsV RX8 208 RX8 yX8_takes wsX8_takes) := goodIn_app (goodIn_of _ (by decide +kernel)) ggX8_item_X8_takes
set_option maxRecDepth 20000 in
theorem ggX8_item_X8_blanks : GoodIn wsX8_item wsX8_blanks := goodIn_r _ [23, 8, 11, 12, 38, 39, 40, 41, 42, 43, 44, 45, 46, 47, 48, 49, 50, 51, 52, 53, 54, 55, 56, 57, 58, 59, 60, 61, 62, 63, 64, 65, 66, 67, 68, 69, 70, 71, 72, 73, 74, 75, 76, 77, 78, 79, 80, 81, 82] (by decide +kernel) (by decide +kernel)
set_option maxRecDepth 20000 in
theorem gX8_item_X8_blanks : GoodIn wsX8_item (wsV RX8 173 RX8 yX8_blanks wsX8_blanks) := goodIn_app (goodIn_of _ (by decide +kernel)) ggX8_item_X8_blanks
set_option maxRecDepth 20000 in
theorem ggX8_item_X8_isDigit : GoodIn wsX8_item wsX8_isDigit := goodIn_r _ [33] (by decide +kernel) (by decide +kernel)
set_option maxRecDepth 20000 in
theorem gX8_item_X8_isDigit : GoodIn wsX8_item (va_wsS RX8 185 yX8_isDigit wsX8_isDigit) := goodIn_app (goodIn_of _ (by decide +kernel)) ggX8_item_X8_isDigit
theorem dX8_item_0 : decode cX8_item 0 = .ok (.aload_n 0, 1) := by decide +kernel
theorem dX8_item_1 : decode cX8_item 1 = .ok (.invokevirtual 188, 3) := by decide +kernel
theorem dX8_item_4 : decode cX8_item 4 = .ok (.lstore_n 2, 1) := by decide +kernel
theorem dX8_item_5 : decode cX8_item 5 = .ok (.lload_n 2, 1) := by decide +kernel
theorem dX8_item_6 : decode cX8_item 6 = .ok (.ldc2_w 192, 3) := by decide +kernel
theorem dX8_item_9 : decode cX8_item 9 = .ok (.lcmp, 1) := by decide +kernel
theorem dX8_item_10 : decode cX8_item 10 = .ok (.ifCond .ne 7, 3) := by decide +kernel
theorem dX8_item_13 : decode cX8_item 13 = .ok (.iconst 0, 1) := by decide +kernel
theorem dX8_item_14 : decode cX8_item 14 = .ok (.goto 40, 3) := by decide +kernel
theorem dX8_item_17 : decode cX8_item 17 = .ok (.lload_n 2, 1) := by decide +kernel
theorem dX8_item_18 : decode cX8_item 18 = .ok (.ldc2_w 194, 3) := by decide +kernel
theorem dX8_item_21 : decode cX8_item 21 = .ok (.lcmp, 1) := by decide +kernel
theorem dX8_item_22 : decode cX8_item 22 = .ok (.ifCond .ne 7, 3) := by decide +kernel
theorem dX8_item_25 : decode cX8_item 25 = .ok (.iconst 1, 1) := by decide +kernel
theorem dX8_item_26 : decode cX8_item 26 = .ok (.goto 28, 3) := by decide +kernel
theorem dX8_item_29 : decode cX8_item 29 = .ok (.lload_n 2, 1) := by decide +kernel
theorem dX8_item_30 : decode cX8_item 30 = .ok (.ldc2_w 196, 3) := by decide +kernel
theorem dX8_item_33 : decode cX8_item 33 = .ok (.lcmp, 1) := by decide +kernel
theorem dX8_item_34 : decode cX8_item 34 = .ok (.ifCond .ne 7, 3) := by decide +kernel
theorem dX8_item_37 : decode cX8_item 37 = .ok (.iconst 2, 1) := by decide +kernel
theorem dX8_item_38 : decode cX8_item 38 = .ok (.goto 16, 3) := by decide +kernel
theorem dX8_item_41 : decode cX8_item 41 = .ok (.lload_n 2, 1) := by decide +kernel
theorem dX8_item_42 : decode cX8_item 42 = .ok (.ldc2_w 198, 3) := by decide +kernel
theorem dX8_item_45 : decode cX8_item 45 = .ok (.lcmp, 1) := by decide +kernel
theorem dX8_item_46 : decode cX8_item 46 = .ok (.ifCond .ne 7, 3) := by decide +kernel
theorem dX8_item_49 : decode cX8_item 49 = .ok (.iconst 3, 1) := by decide +kernel
theorem dX8_item_50 : decode cX8_item 50 = .ok (.goto 4, 3) := by decide +kernel
theorem dX8_item_53 : decode cX8_item 53 = .ok (.iconst 4, 1) := by decide +kernel
theorem dX8_item_54 : decode cX8_item 54 = .ok (.istore 4, 2) := by decide +kernel
theorem dX8_item_56 : decode cX8_item 56 = .ok (.iload 4, 2) := by decide +kernel
theorem dX8_item_58 : decode cX8_item 58 = .ok (.iconst 4, 1) := by decide +kernel
theorem dX8_item_59 : decode cX8_item 59 = .ok (.if_icmp .ne 21, 3) := by decide +kernel
theorem dX8_item_62 : decode cX8_item 62 = .ok (.lload_n 2, 1) := by decide +kernel
theorem dX8_item_63 : decode cX8_item 63 = .ok (.ldc2_w 200, 3) := by decide +kernel
theorem dX8_item_66 : decode cX8_item 66 = .ok (.lcmp, 1) := by decide +kernel
theorem dX8_item_67 : decode cX8_item 67 = .ok (.ifCond .eq 13, 3) := by decide +kernel
theorem dX8_item_70 : decode cX8_item 70 = .ok (.lload_n 2, 1) := by decide +kernel
theorem dX8_item_71 : decode cX8_item 71 = .ok (.ldc2_w 202, 3) := by decide +kernel
theorem dX8_item_74 : decode cX8_item 74 = .ok (.lcmp, 1) := by decide +kernel
theorem dX8_item_75 : decode cX8_item 75 = .ok (.ifCond .eq 5, 3) := by decide +kernel
theorem dX8_item_78 : decode cX8_item 78 = .ok (.iconst 0, 1) := by decide +kernel
theorem dX8_item_79 : decode cX8_item 79 = .ok (.ireturn, 1) := by decide +kernel
theorem dX8_item_80 : decode cX8_item 80 = .ok (.aload_n 0, 1) := by decide +kernel
theorem dX8_item_81 : decode cX8_item 81 = .ok (.aload_n 0, 1) := by decide +kernel
theorem dX8_item_82 : decode cX8_item 82 = .ok (.getfield 176, 3) := by decide +kernel
theorem dX8_item_85 : decode cX8_item 85 = .ok (.putfield 167, 3) := by decide +kernel
theorem dX8_item_88 : decode cX8_item 88 = .ok (.iload 4, 2) := by decide +kernel
theorem dX8_item_90 : decode cX8_item 90 = .ok (.iconst 4, 1) := by decide +kernel
theorem dX8_item_91 : decode cX8_item 91 = .ok (.if_icmp .ge 34, 3) := by decide +kernel
theorem dX8_item_94 : decode cX8_item 94 = .ok (.aload_n 0, 1) := by decide +kernel
theorem dX8_item_95 : decode cX8_item 95 = .ok (.invokevirtual 204, 3) := by decide +kernel
theorem dX8_item_98 : decode cX8_item 98 = .ok (.ifCond .ne 5, 3) := by decide +kernel
theorem dX8_item_101 : decode cX8_item 101 = .ok (.iconst 0, 1) := by decide +kernel
theorem dX8_item_102 : decode cX8_item 102 = .ok (.ireturn, 1) := by decide +kernel
theorem dX8_item_103 : decode cX8_item 103 = .ok (.aload_n 0, 1) := by decide +kernel
theorem dX8_item_104 : decode cX8_item 104 = .ok (.getfield 45, 3) := by decide +kernel
theorem dX8_item_107 : decode cX8_item 107 = .ok (.iconst 4, 1) := by decide +kernel
theorem dX8_item_108 : decode cX8_item 108 = .ok (.iload_n 1, 1) := by decide +kernel
theorem dX8_item_109 : decode cX8_item 109 = .ok (.imul, 1) := by decide +kernel
theorem dX8_item_110 : decode cX8_item 110 = .ok (.iload 4, 2) := by decide +kernel
theorem dX8_item_112 : decode cX8_item 112 = .ok (.iadd, 1) := by decide +kernel
theorem dX8_item_113 : decode cX8_item 113 = .ok (.aload_n 0, 1) := by decide +kernel
theorem dX8_item_114 : decode cX8_item 114 = .ok (.getfield 182, 3) := by decide +kernel
theorem dX8_item_117 : decode cX8_item 117 = .ok (.iastore, 1) := by decide +kernel
theorem dX8_item_118 : decode cX8_item 118 = .ok (.aload_n 0, 1) := by decide +kernel
theorem dX8_item_119 : decode cX8_item 119 = .ok (.bipush 59, 2) := by decide +kernel
theorem dX8_item_121 : decode cX8_item 121 = .ok (.invokevirtual 208, 3) := by decide +kernel
theorem dX8_item_124 : decode cX8_item 124 = .ok (.ireturn, 1) := by decide +kernel
theorem dX8_item_125 : decode cX8_item 125 = .ok (.iconst 0, 1) := by decide +kernel
theorem dX8_item_126 : decode cX8_item 126 = .ok (.istore 5, 2) := by decide +kernel
theorem dX8_item_128 : decode cX8_item 128 = .ok (.iconst 1, 1) := by decide +kernel
theorem dX8_item_129 : decode cX8_item 129 = .ok (.istore 6, 2) := by decide +kernel
theorem dX8_item_131 : decode cX8_item 131 = .ok (.iload 6, 2) := by decide +kernel
theorem dX8_item_133 : decode cX8_item 133 = .ok (.ifCond .eq 72, 3) := by decide +kernel
theorem dX8_item_136 : decode cX8_item 136 = .ok (.aload_n 0, 1) := by decide +kernel
theorem dX8_item_137 : decode cX8_item 137 = .ok (.invokevirtual 204, 3) := by decide +kernel
theorem dX8_item_140 : decode cX8_item 140 = .ok (.ifCond .ne 5, 3) := by decide +kernel
theorem dX8_item_143 : decode cX8_item 143 = .ok (.iconst 0, 1) := by decide +kernel
theorem dX8_item_144 : decode cX8_item 144 = .ok (.ireturn, 1) := by decide +kernel
theorem dX8_item_145 : decode cX8_item 145 = .ok (.aload_n 0, 1) := by decide +kernel
theorem dX8_item_146 : decode cX8_item 146 = .ok (.getfield 182, 3) := by decide +kernel
theorem dX8_item_149 : decode cX8_item 149 = .ok (.bipush 16, 2) := by decide +kernel
theorem dX8_item_151 : decode cX8_item 151 = .ok (.if_icmp .ge 14, 3) := by decide +kernel
theorem dX8_item_154 : decode cX8_item 154 = .ok (.iload 5, 2) := by decide +kernel
theorem dX8_item_156 : decode cX8_item 156 = .ok (.iconst 1, 1) := by decide +kernel
theorem dX8_item_157 : decode cX8_item 157 = .ok (.aload_n 0, 1) := by decide +kernel
theorem dX8_item_158 : decode cX8_item 158 = .ok (.getfield 182, 3) := by decide +kernel
theorem dX8_item_161 : decode cX8_item 161 = .ok (.ishl, 1) := by decide +kernel
theorem dX8_item_162 : decode cX8_item 162 = .ok (.ior, 1) := by decide +kernel
theorem dX8_item_163 : decode cX8_item 163 = .ok (.istore 5, 2) := by decide +kernel
theorem dX8_item_165 : decode cX8_item 165 = .ok (.aload_n 0, 1) := by decide +kernel
theorem dX8_item_166 : decode cX8_item 166 = .ok (.invokevirtual 173, 3) := by decide +kernel
theorem dX8_item_169 : decode cX8_item 169 = .ok (.aload_n 0, 1) := by decide +kernel
theorem dX8_item_170 : decode cX8_item 170 = .ok (.getfield 167, 3) := by decide +kernel
theorem dX8_item_173 : decode cX8_item 173 = .ok (.aload_n 0, 1) := by decide +kernel
theorem dX8_item_174 : decode cX8_item 174 = .ok (.getfield 170, 3) := by decide +kernel
theorem dX8_item_177 : decode cX8_item 177 = .ok (.if_icmp .ge 22, 3) := by decide +kernel
theorem dX8_item_180 : decode cX8_item 180 = .ok (.aload_n 0, 1) := by decide +kernel
theorem dX8_item_181 : decode cX8_item 181 = .ok (.getfield 23, 3) := by decide +kernel
theorem dX8_item_184 : decode cX8_item 184 = .ok (.aload_n 0, 1) := by decide +kernel
theorem dX8_item_185 : decode cX8_item 185 = .ok (.getfield 167, 3) := by decide +kernel
theorem dX8_item_188 : decode cX8_item 188 = .ok (.baload, 1) := by decide +kernel
theorem dX8_item_189 : decode cX8_item 189 = .ok (.invokestatic 185, 3) := by decide +kernel
theorem dX8_item_192 : decode cX8_item 192 = .ok (.ifCond .eq 7, 3) := by decide +kernel
theorem dX8_item_195 : decode cX8_item 195 = .ok (.iconst 1, 1) := by decide +kernel
theorem dX8_item_196 : decode cX8_item 196 = .ok (.goto 4, 3) := by decide +kernel
theorem dX8_item_199 : decode cX8_item 199 = .ok (.iconst 0, 1) := by decide +kernel
theorem dX8_item_200 : decode cX8_item 200 = .ok (.istore 6, 2) := by decide +kernel
theorem dX8_item_202 : decode cX8_item 202 = .ok (.goto (-71), 3) := by decide +kernel
theorem dX8_item_205 : decode cX8_item 205 = .ok (.lload_n 2, 1) := by decide +kernel
theorem dX8_item_206 : decode cX8_item 206 = .ok (.ldc2_w 202, 3) := by decide +kernel
theorem dX8_item_209 : decode cX8_item 209 = .ok (.lcmp, 1) := by decide +kernel
theorem dX8_item_210 : decode cX8_item 210 = .ok (.ifCond .ne 14, 3) := by decide +kernel
theorem dX8_item_213 : decode cX8_item 213 = .ok (.aload_n 0, 1) := by decide +kernel
theorem dX8_item_214 : decode cX8_item 214 = .ok (.getfield 42, 3) := by decide +kernel
theorem dX8_item_217 : decode cX8_item 217 = .ok (.iload_n 1, 1) := by decide +kernel
theorem dX8_item_218 : decode cX8_item 218 = .ok (.iload 5, 2) := by decide +kernel
theorem dX8_item_220 : decode cX8_item 220 = .ok (.iastore, 1) := by decide +kernel
theorem dX8_item_221 : decode cX8_item 221 = .ok (.goto 11, 3) := by decide +kernel
theorem dX8_item_224 : decode cX8_item 224 = .ok (.aload_n 0, 1) := by decide +kernel
theorem dX8_item_225 : decode cX8_item 225 = .ok (.getfield 39, 3) := by decide +kernel
theorem dX8_item_228 : decode cX8_item 228 = .ok (.iload_n 1, 1) := by decide +kernel
theorem dX8_item_229 : decode cX8_item 229 = .ok (.iload 5, 2) := by decide +kernel
theorem dX8_item_231 : decode cX8_item 231 = .ok (.iastore, 1) := by decide +kernel
theorem dX8_item_232 : decode cX8_item 232 = .ok (.aload_n 0, 1) := by decide +kernel
theorem dX8_item_233 : decode cX8_item 233 = .ok (.bipush 59, 2) := by decide +kernel
theorem dX8_item_235 : decode cX8_item 235 = .ok (.invokevirtual 208, 3) := by decide +kernel
theorem dX8_item_238 : decode cX8_item 238 = .ok (.ireturn, 1) := by decide +kernel
set_option maxRecDepth 20000 in
theorem ggX8_zones_X8_blanks : GoodIn wsX8_zones wsX8_blanks := goodIn_r _ [13, 2, 3, 14, 44, 45, 46, 47, 48, 49, 50, 51, 52, 53, 54, 55, 56, 57, 58, 59, 60, 61, 62, 63, 64, 65, 66, 67, 68, 69, 70, 71, 72, 73, 74, 75, 76, 77, 78, 79, 80, 81, 82, 83, 84, 85, 86, 87, 88] (by decide +kernel) (by decide +kernel)
set_option maxRecDepth 20000 in
theorem gX8_zones_X8_blanks : GoodIn wsX8_zones (wsV RX8 173 RX8 yX8_blanks wsX8_blanks) := goodIn_app (goodIn_of _ (by decide +kernel)) ggX8_zones_X8_blanks
set_option maxRecDepth 20000 in
theorem ggX8_zones_X8_word : GoodIn wsX8_zones wsX8_word := goodIn_r _ [18, 2, 5, 3, 14, 9, 10, 11, 12, 13, 19, 20, 21, 44, 45, 46, 47, 48, 49, 50, 51, 52, 53, 54, 55, 56, 57, 58, 59, 60, 61, 62, 63, 64, 65, 66, 67, 68, 69, 70, 71, 72, 73, 74, 75, 76, 77, 78, 79, 80, 81, 82, 83, 84, 85, 86, 87, 88] (by decide +kernel) (by decide +kernel)
set_option maxRecDepth 20000 in
theorem gX8_zones_X8_word : GoodIn wsX8_zones (wsV RX8 188 RX8 yX8_word wsX8_word) := goodIn_app (goodIn_of _ (by decide +kernel)) ggX8_zones_X8_word
set_option maxRecDepth 20000 in
theorem ggX8_zones_X8_takes : GoodIn wsX8_zones wsX8_takes := goodIn_r _ [25, 2, 3, 14, 9, 10, 11, 12, 13, 44, 45, 46, 47, 48, 49, 50, 51, 52, 53, 54, 55, 56, 57, 58, 59, 60, 61, 62, 63, 64, 65, 66, 67, 68, 69, 70, 71, 72, 73, 74, 75, 76, 77, 78, 79, 80, 81, 82, 83, 84, 85, 86, 87, 88] (by decide +kernel) (by decide +kernel)
set_option maxRecDepth 20000 in
theorem gX8_zones_X8_takes : GoodIn wsX8_zones (wsV RX8 208 RX8 yX8_takes wsX8_takes) := goodIn_app (goodIn_of _ (by decide +kernel)) ggX8_zones_X8_takes
set_option maxRecDepth 20000 in
theorem ggX8_zones_X8_item : GoodIn wsX8_zones wsX8_item := goodIn_r _ [29, 30, 31, 32, 33, 34, 35, 5, 2, 8, 36, 3, 14, 7, 6, 15, 16, 17, 12, 18, 9, 10, 11, 13, 19, 20, 21, 37, 38, 39, 40, 41, 42, 43, 22, 23, 24, 25, 44, 45, 46, 47, 48, 49, 50, 51, 52, 53, 54, 55, 56, 57, 58, 59, 60, 61, 62, 63, 64, 65, 66, 67, 68, 69, 70, 71, 72, 73, 74, 75, 76, 77, 78, 79, 80, 81, 82, 83, 84, 85, 86, 87, 88] (by decide +kernel) (by decide +kernel)
set_option maxRecDepth 20000 in
theorem gX8_zones_X8_item : GoodIn wsX8_zones (wsV RX8 213 RX8 yX8_item wsX8_item) := goodIn_app (goodIn_of _ (by decide +kernel)) ggX8_zones_X8_item
theorem dX8_zones_0 : decode cX8_zones 0 = .ok (.aload_n 0, 1) := by decide +kernel
theorem dX8_zones_1 : decode cX8_zones 1 = .ok (.getfield 36, 3) := by decide +kernel
theorem dX8_zones_4 : decode cX8_zones 4 = .ok (.iload_n 1, 1) := by decide +kernel
theorem dX8_zones_5 : decode cX8_zones 5 = .ok (.iconst 0, 1) := by decide +kernel
theorem dX8_zones_6 : decode cX8_zones 6 = .ok (.iastore, 1) := by decide +kernel
theorem dX8_zones_7 : decode cX8_zones 7 = .ok (.aload_n 0, 1) := by decide +kernel
theorem dX8_zones_8 : decode cX8_zones 8 = .ok (.invokevirtual 173, 3) := by decide +kernel
theorem dX8_zones_11 : decode cX8_zones 11 = .ok (.aload_n 0, 1) := by decide +kernel
theorem dX8_zones_12 : decode cX8_zones 12 = .ok (.getfield 167, 3) := by decide +kernel
theorem dX8_zones_15 : decode cX8_zones 15 = .ok (.aload_n 0, 1) := by decide +kernel
theorem dX8_zones_16 : decode cX8_zones 16 = .ok (.getfield 170, 3) := by decide +kernel
theorem dX8_zones_19 : decode cX8_zones 19 = .ok (.if_icmp .ge 144, 3) := by decide +kernel
theorem dX8_zones_22 : decode cX8_zones 22 = .ok (.aload_n 0, 1) := by decide +kernel
theorem dX8_zones_23 : decode cX8_zones 23 = .ok (.invokevirtual 188, 3) := by decide +kernel
theorem dX8_zones_26 : decode cX8_zones 26 = .ok (.ldc2_w 211, 3) := by decide +kernel
theorem dX8_zones_29 : decode cX8_zones 29 = .ok (.lcmp, 1) := by decide +kernel
theorem dX8_zones_30 : decode cX8_zones 30 = .ok (.ifCond .ne 14, 3) := by decide +kernel
theorem dX8_zones_33 : decode cX8_zones 33 = .ok (.aload_n 0, 1) := by decide +kernel
theorem dX8_zones_34 : decode cX8_zones 34 = .ok (.getfield 36, 3) := by decide +kernel
theorem dX8_zones_37 : decode cX8_zones 37 = .ok (.iload_n 1, 1) := by decide +kernel
theorem dX8_zones_38 : decode cX8_zones 38 = .ok (.iaload, 1) := by decide +kernel
theorem dX8_zones_39 : decode cX8_zones 39 = .ok (.bipush 8, 2) := by decide +kernel
theorem dX8_zones_41 : decode cX8_zones 41 = .ok (.if_icmp .ne 5, 3) := by decide +kernel
theorem dX8_zones_44 : decode cX8_zones 44 = .ok (.iconst 0, 1) := by decide +kernel
theorem dX8_zones_45 : decode cX8_zones 45 = .ok (.ireturn, 1) := by decide +kernel
theorem dX8_zones_46 : decode cX8_zones 46 = .ok (.aload_n 0, 1) := by decide +kernel
theorem dX8_zones_47 : decode cX8_zones 47 = .ok (.aload_n 0, 1) := by decide +kernel
theorem dX8_zones_48 : decode cX8_zones 48 = .ok (.getfield 176, 3) := by decide +kernel
theorem dX8_zones_51 : decode cX8_zones 51 = .ok (.putfield 167, 3) := by decide +kernel
theorem dX8_zones_54 : decode cX8_zones 54 = .ok (.aload_n 0, 1) := by decide +kernel
theorem dX8_zones_55 : decode cX8_zones 55 = .ok (.bipush 123, 2) := by decide +kernel
theorem dX8_zones_57 : decode cX8_zones 57 = .ok (.invokevirtual 208, 3) := by decide +kernel
theorem dX8_zones_60 : decode cX8_zones 60 = .ok (.ifCond .ne 5, 3) := by decide +kernel
theorem dX8_zones_63 : decode cX8_zones 63 = .ok (.iconst 0, 1) := by decide +kernel
theorem dX8_zones_64 : decode cX8_zones 64 = .ok (.ireturn, 1) := by decide +kernel
theorem dX8_zones_65 : decode cX8_zones 65 = .ok (.bipush 8, 2) := by decide +kernel
theorem dX8_zones_67 : decode cX8_zones 67 = .ok (.iload_n 1, 1) := by decide +kernel
theorem dX8_zones_68 : decode cX8_zones 68 = .ok (.imul, 1) := by decide +kernel
theorem dX8_zones_69 : decode cX8_zones 69 = .ok (.aload_n 0, 1) := by decide +kernel
theorem dX8_zones_70 : decode cX8_zones 70 = .ok (.getfield 36, 3) := by decide +kernel
theorem dX8_zones_73 : decode cX8_zones 73 = .ok (.iload_n 1, 1) := by decide +kernel
theorem dX8_zones_74 : decode cX8_zones 74 = .ok (.iaload, 1) := by decide +kernel
theorem dX8_zones_75 : decode cX8_zones 75 = .ok (.iadd, 1) := by decide +kernel
theorem dX8_zones_76 : decode cX8_zones 76 = .ok (.istore_n 2, 1) := by decide +kernel
theorem dX8_zones_77 : decode cX8_zones 77 = .ok (.aload_n 0, 1) := by decide +kernel
theorem dX8_zones_78 : decode cX8_zones 78 = .ok (.getfield 39, 3) := by decide +kernel
theorem dX8_zones_81 : decode cX8_zones 81 = .ok (.iload_n 2, 1) := by decide +kernel
theorem dX8_zones_82 : decode cX8_zones 82 = .ok (.iconst 0, 1) := by decide +kernel
theorem dX8_zones_83 : decode cX8_zones 83 = .ok (.iastore, 1) := by decide +kernel
theorem dX8_zones_84 : decode cX8_zones 84 = .ok (.aload_n 0, 1) := by decide +kernel
theorem dX8_zones_85 : decode cX8_zones 85 = .ok (.getfield 42, 3) := by decide +kernel
theorem dX8_zones_88 : decode cX8_zones 88 = .ok (.iload_n 2, 1) := by decide +kernel
theorem dX8_zones_89 : decode cX8_zones 89 = .ok (.iconst 0, 1) := by decide +kernel
theorem dX8_zones_90 : decode cX8_zones 90 = .ok (.iastore, 1) := by decide +kernel
theorem dX8_zones_91 : decode cX8_zones 91 = .ok (.iconst 0, 1) := by decide +kernel
theorem dX8_zones_92 : decode cX8_zones 92 = .ok (.istore_n 3, 1) := by decide +kernel
theorem dX8_zones_93 : decode cX8_zones 93 = .ok (.iload_n 3, 1) := by decide +kernel
theorem dX8_zones_94 : decode cX8_zones 94 = .ok (.iconst 4, 1) := by decide +kernel
theorem dX8_zones_95 : decode cX8_zones 95 = .ok (.if_icmp .ge 20, 3) := by decide +kernel
theorem dX8_zones_98 : decode cX8_zones 98 = .ok (.aload_n 0, 1) := by decide +kernel
theorem dX8_zones_99 : decode cX8_zones 99 = .ok (.getfield 45, 3) := by decide +kernel
theorem dX8_zones_102 : decode cX8_zones 102 = .ok (.iconst 4, 1) := by decide +kernel
theorem dX8_zones_103 : decode cX8_zones 103 = .ok (.iload_n 2, 1) := by decide +kernel
theorem dX8_zones_104 : decode cX8_zones 104 = .ok (.imul, 1) := by decide +kernel
theorem dX8_zones_105 : decode cX8_zones 105 = .ok (.iload_n 3, 1) := by decide +kernel
theorem dX8_zones_106 : decode cX8_zones 106 = .ok (.iadd, 1) := by decide +kernel
theorem dX8_zones_107 : decode cX8_zones 107 = .ok (.iconst (-1), 1) := by decide +kernel
theorem dX8_zones_108 : decode cX8_zones 108 = .ok (.iastore, 1) := by decide +kernel
theorem dX8_zones_109 : decode cX8_zones 109 = .ok (.iinc 3 1, 3) := by decide +kernel
theorem dX8_zones_112 : decode cX8_zones 112 = .ok (.goto (-19), 3) := by decide +kernel
theorem dX8_zones_115 : decode cX8_zones 115 = .ok (.aload_n 0, 1) := by decide +kernel
theorem dX8_zones_116 : decode cX8_zones 116 = .ok (.bipush 125, 2) := by decide +kernel
theorem dX8_zones_118 : decode cX8_zones 118 = .ok (.invokevirtual 208, 3) := by decide +kernel
theorem dX8_zones_121 : decode cX8_zones 121 = .ok (.istore_n 3, 1) := by decide +kernel
theorem dX8_zones_122 : decode cX8_zones 122 = .ok (.iload_n 3, 1) := by decide +kernel
theorem dX8_zones_123 : decode cX8_zones 123 = .ok (.ifCond .ne 23, 3) := by decide +kernel
theorem dX8_zones_126 : decode cX8_zones 126 = .ok (.aload_n 0, 1) := by decide +kernel
theorem dX8_zones_127 : decode cX8_zones 127 = .ok (.iload_n 2, 1) := by decide +kernel
theorem dX8_zones_128 : decode cX8_zones 128 = .ok (.invokevirtual 213, 3) := by decide +kernel
theorem dX8_zones_131 : decode cX8_zones 131 = .ok (.ifCond .ne 5, 3) := by decide +kernel
theorem dX8_zones_134 : decode cX8_zones 134 = .ok (.iconst 0, 1) := by decide +kernel
theorem dX8_zones_135 : decode cX8_zones 135 = .ok (.ireturn, 1) := by decide +kernel
theorem dX8_zones_136 : decode cX8_zones 136 = .ok (.aload_n 0, 1) := by decide +kernel
theorem dX8_zones_137 : decode cX8_zones 137 = .ok (.bipush 125, 2) := by decide +kernel
theorem dX8_zones_139 : decode cX8_zones 139 = .ok (.invokevirtual 208, 3) := by decide +kernel
theorem dX8_zones_142 : decode cX8_zones 142 = .ok (.istore_n 3, 1) := by decide +kernel
theorem dX8_zones_143 : decode cX8_zones 143 = .ok (.goto (-21), 3) := by decide +kernel
theorem dX8_zones_146 : decode cX8_zones 146 = .ok (.aload_n 0, 1) := by decide +kernel
theorem dX8_zones_147 : decode cX8_zones 147 = .ok (.getfield 36, 3) := by decide +kernel
theorem dX8_zones_150 : decode cX8_zones 150 = .ok (.iload_n 1, 1) := by decide +kernel
theorem dX8_zones_151 : decode cX8_zones 151 = .ok (.dup2, 1) := by decide +kernel
theorem dX8_zones_152 : decode cX8_zones 152 = .ok (.iaload, 1) := by decide +kernel
theorem dX8_zones_153 : decode cX8_zones 153 = .ok (.iconst 1, 1) := by decide +kernel
theorem dX8_zones_154 : decode cX8_zones 154 = .ok (.iadd, 1) := by decide +kernel
theorem dX8_zones_155 : decode cX8_zones 155 = .ok (.iastore, 1) := by decide +kernel
theorem dX8_zones_156 : decode cX8_zones 156 = .ok (.aload_n 0, 1) := by decide +kernel
theorem dX8_zones_157 : decode cX8_zones 157 = .ok (.invokevirtual 173, 3) := by decide +kernel
theorem dX8_zones_160 : decode cX8_zones 160 = .ok (.goto (-149), 3) := by decide +kernel
theorem dX8_zones_163 : decode cX8_zones 163 = .ok (.iconst 1, 1) := by decide +kernel
theorem dX8_zones_164 : decode cX8_zones 164 = .ok (.ireturn, 1) := by decide +kernel
set_option maxRecDepth 20000 in
theorem ggX8_adopt_X8_isIn : GoodIn wsX8_adopt wsX8_isIn := goodIn_r _ [14] (by decide +kernel) (by decide +kernel)
set_option maxRecDepth 20000 in
theorem gX8_adopt_X8_isIn : GoodIn wsX8_adopt (va_wsS RX8 115 yX8_isIn wsX8_isIn) := goodIn_app (goodIn_of _ (by decide +kernel)) ggX8_adopt_X8_isIn
set_option maxRecDepth 20000 in
theorem ggX8_adopt_X8_isDay : GoodIn wsX8_adopt wsX8_isDay := goodIn_r _ [17, 11, 12, 13, 14] (by decide +kernel) (by decide +kernel)
set_option maxRecDepth 20000 in
theorem gX8_adopt_X8_isDay : GoodIn wsX8_adopt (va_wsS RX8 216 yX8_isDay wsX8_isDay) := goodIn_app (goodIn_of _ (by decide +kernel)) ggX8_adopt_X8_isDay
set_option maxRecDepth 20000 in
theorem ggX8_adopt_X8_zones : GoodIn wsX8_adopt wsX8_zones := goodIn_r _ [21, 22, 6, 5, 23, 24, 25, 26, 27, 28, 29, 30, 13, 31, 3, 32, 33, 34, 35, 36, 37, 38, 39, 40, 41, 42, 43, 44, 45, 46, 47, 48, 49, 50, 51, 52, 53, 54, 55, 56, 57, 58, 59, 60, 61, 62, 63, 64, 65, 66, 67, 68, 69, 70, 71, 72, 73, 74, 75, 76, 77, 78, 79, 80, 81, 82, 83, 84, 85, 86, 87, 88, 89, 90, 91, 92, 93, 94, 95, 96, 97, 98, 99, 100, 101, 102, 103, 104, 105] (by decide +kernel) (by decide +kernel)
set_option maxRecDepth 20000 in
theorem gX8_adopt_X8_zones : GoodIn wsX8_adopt (wsV RX8 222 RX8 yX8_zones wsX8_zones) := goodIn_app (goodIn_of _ (by decide +kernel)) ggX8_adopt_X8_zones
theorem dX8_adopt_0 : decode cX8_adopt 0 = .ok (.iload_n 1, 1) := by decide +kernel
theorem dX8_adopt_1 : decode cX8_adopt 1 = .ok (.iconst 0, 1) := by decide +kernel
theorem dX8_adopt_2 : decode cX8_adopt 2 = .ok (.aload_n 0, 1) := by decide +kernel
theorem dX8_adopt_3 : decode cX8_adopt 3 = .ok (.getfield 160, 3) := by decide +kernel
theorem dX8_adopt_6 : decode cX8_adopt 6 = .ok (.invokestatic 115, 3) := by decide +kernel
theorem dX8_adopt_9 : decode cX8_adopt 9 = .ok (.ifCond .eq 10, 3) := by decide +kernel
theorem dX8_adopt_12 : decode cX8_adopt 12 = .ok (.iload_n 2, 1) := by decide +kernel
theorem dX8_adopt_13 : decode cX8_adopt 13 = .ok (.invokestatic 216, 3) := by decide +kernel
theorem dX8_adopt_16 : decode cX8_adopt 16 = .ok (.ifCond .ne 6, 3) := by decide +kernel
theorem dX8_adopt_19 : decode cX8_adopt 19 = .ok (.bipush (-2), 2) := by decide +kernel
theorem dX8_adopt_21 : decode cX8_adopt 21 = .ok (.ireturn, 1) := by decide +kernel
theorem dX8_adopt_22 : decode cX8_adopt 22 = .ok (.aload_n 0, 1) := by decide +kernel
theorem dX8_adopt_23 : decode cX8_adopt 23 = .ok (.getfield 219, 3) := by decide +kernel
theorem dX8_adopt_26 : decode cX8_adopt 26 = .ok (.bipush 20, 2) := by decide +kernel
theorem dX8_adopt_28 : decode cX8_adopt 28 = .ok (.if_icmp .ne 6, 3) := by decide +kernel
theorem dX8_adopt_31 : decode cX8_adopt 31 = .ok (.bipush (-3), 2) := by decide +kernel
theorem dX8_adopt_33 : decode cX8_adopt 33 = .ok (.ireturn, 1) := by decide +kernel
theorem dX8_adopt_34 : decode cX8_adopt 34 = .ok (.iconst 0, 1) := by decide +kernel
theorem dX8_adopt_35 : decode cX8_adopt 35 = .ok (.istore_n 3, 1) := by decide +kernel
theorem dX8_adopt_36 : decode cX8_adopt 36 = .ok (.iload_n 3, 1) := by decide +kernel
theorem dX8_adopt_37 : decode cX8_adopt 37 = .ok (.iload_n 1, 1) := by decide +kernel
theorem dX8_adopt_38 : decode cX8_adopt 38 = .ok (.if_icmp .ge 21, 3) := by decide +kernel
theorem dX8_adopt_41 : decode cX8_adopt 41 = .ok (.aload_n 0, 1) := by decide +kernel
theorem dX8_adopt_42 : decode cX8_adopt 42 = .ok (.getfield 23, 3) := by decide +kernel
theorem dX8_adopt_45 : decode cX8_adopt 45 = .ok (.iload_n 3, 1) := by decide +kernel
theorem dX8_adopt_46 : decode cX8_adopt 46 = .ok (.aload_n 0, 1) := by decide +kernel
theorem dX8_adopt_47 : decode cX8_adopt 47 = .ok (.getfield 19, 3) := by decide +kernel
theorem dX8_adopt_50 : decode cX8_adopt 50 = .ok (.iload_n 3, 1) := by decide +kernel
theorem dX8_adopt_51 : decode cX8_adopt 51 = .ok (.baload, 1) := by decide +kernel
theorem dX8_adopt_52 : decode cX8_adopt 52 = .ok (.bastore, 1) := by decide +kernel
theorem dX8_adopt_53 : decode cX8_adopt 53 = .ok (.iinc 3 1, 3) := by decide +kernel
theorem dX8_adopt_56 : decode cX8_adopt 56 = .ok (.goto (-20), 3) := by decide +kernel
theorem dX8_adopt_59 : decode cX8_adopt 59 = .ok (.aload_n 0, 1) := by decide +kernel
theorem dX8_adopt_60 : decode cX8_adopt 60 = .ok (.iload_n 1, 1) := by decide +kernel
theorem dX8_adopt_61 : decode cX8_adopt 61 = .ok (.putfield 170, 3) := by decide +kernel
theorem dX8_adopt_64 : decode cX8_adopt 64 = .ok (.aload_n 0, 1) := by decide +kernel
theorem dX8_adopt_65 : decode cX8_adopt 65 = .ok (.iconst 0, 1) := by decide +kernel
theorem dX8_adopt_66 : decode cX8_adopt 66 = .ok (.putfield 160, 3) := by decide +kernel
theorem dX8_adopt_69 : decode cX8_adopt 69 = .ok (.aload_n 0, 1) := by decide +kernel
theorem dX8_adopt_70 : decode cX8_adopt 70 = .ok (.iconst 0, 1) := by decide +kernel
theorem dX8_adopt_71 : decode cX8_adopt 71 = .ok (.putfield 167, 3) := by decide +kernel
theorem dX8_adopt_74 : decode cX8_adopt 74 = .ok (.aload_n 0, 1) := by decide +kernel
theorem dX8_adopt_75 : decode cX8_adopt 75 = .ok (.aload_n 0, 1) := by decide +kernel
theorem dX8_adopt_76 : decode cX8_adopt 76 = .ok (.getfield 219, 3) := by decide +kernel
theorem dX8_adopt_79 : decode cX8_adopt 79 = .ok (.invokevirtual 222, 3) := by decide +kernel
theorem dX8_adopt_82 : decode cX8_adopt 82 = .ok (.istore_n 3, 1) := by decide +kernel
theorem dX8_adopt_83 : decode cX8_adopt 83 = .ok (.aload_n 0, 1) := by decide +kernel
theorem dX8_adopt_84 : decode cX8_adopt 84 = .ok (.iload_n 3, 1) := by decide +kernel
theorem dX8_adopt_85 : decode cX8_adopt 85 = .ok (.ifCond .eq 7, 3) := by decide +kernel
theorem dX8_adopt_88 : decode cX8_adopt 88 = .ok (.iconst (-1), 1) := by decide +kernel
theorem dX8_adopt_89 : decode cX8_adopt 89 = .ok (.goto 7, 3) := by decide +kernel
theorem dX8_adopt_92 : decode cX8_adopt 92 = .ok (.aload_n 0, 1) := by decide +kernel
theorem dX8_adopt_93 : decode cX8_adopt 93 = .ok (.getfield 167, 3) := by decide +kernel
theorem dX8_adopt_96 : decode cX8_adopt 96 = .ok (.putfield 26, 3) := by decide +kernel
theorem dX8_adopt_99 : decode cX8_adopt 99 = .ok (.iload_n 3, 1) := by decide +kernel
theorem dX8_adopt_100 : decode cX8_adopt 100 = .ok (.ifCond .ne 5, 3) := by decide +kernel
theorem dX8_adopt_103 : decode cX8_adopt 103 = .ok (.iconst (-1), 1) := by decide +kernel
theorem dX8_adopt_104 : decode cX8_adopt 104 = .ok (.ireturn, 1) := by decide +kernel
theorem dX8_adopt_105 : decode cX8_adopt 105 = .ok (.aload_n 0, 1) := by decide +kernel
theorem dX8_adopt_106 : decode cX8_adopt 106 = .ok (.getfield 30, 3) := by decide +kernel
theorem dX8_adopt_109 : decode cX8_adopt 109 = .ok (.aload_n 0, 1) := by decide +kernel
theorem dX8_adopt_110 : decode cX8_adopt 110 = .ok (.getfield 219, 3) := by decide +kernel
theorem dX8_adopt_113 : decode cX8_adopt 113 = .ok (.iload_n 2, 1) := by decide +kernel
theorem dX8_adopt_114 : decode cX8_adopt 114 = .ok (.iastore, 1) := by decide +kernel
theorem dX8_adopt_115 : decode cX8_adopt 115 = .ok (.aload_n 0, 1) := by decide +kernel
theorem dX8_adopt_116 : decode cX8_adopt 116 = .ok (.getfield 33, 3) := by decide +kernel
theorem dX8_adopt_119 : decode cX8_adopt 119 = .ok (.aload_n 0, 1) := by decide +kernel
theorem dX8_adopt_120 : decode cX8_adopt 120 = .ok (.getfield 219, 3) := by decide +kernel
theorem dX8_adopt_123 : decode cX8_adopt 123 = .ok (.aload_n 0, 1) := by decide +kernel
theorem dX8_adopt_124 : decode cX8_adopt 124 = .ok (.getfield 125, 3) := by decide +kernel
theorem dX8_adopt_127 : decode cX8_adopt 127 = .ok (.iastore, 1) := by decide +kernel
theorem dX8_adopt_128 : decode cX8_adopt 128 = .ok (.aload_n 0, 1) := by decide +kernel
theorem dX8_adopt_129 : decode cX8_adopt 129 = .ok (.dup, 1) := by decide +kernel
theorem dX8_adopt_130 : decode cX8_adopt 130 = .ok (.getfield 219, 3) := by decide +kernel
theorem dX8_adopt_133 : decode cX8_adopt 133 = .ok (.iconst 1, 1) := by decide +kernel
theorem dX8_adopt_134 : decode cX8_adopt 134 = .ok (.iadd, 1) := by decide +kernel
theorem dX8_adopt_135 : decode cX8_adopt 135 = .ok (.putfield 219, 3) := by decide +kernel
theorem dX8_adopt_138 : decode cX8_adopt 138 = .ok (.aload_n 0, 1) := by decide +kernel
theorem dX8_adopt_139 : decode cX8_adopt 139 = .ok (.getfield 219, 3) := by decide +kernel
theorem dX8_adopt_142 : decode cX8_adopt 142 = .ok (.iconst 1, 1) := by decide +kernel
theorem dX8_adopt_143 : decode cX8_adopt 143 = .ok (.isub, 1) := by decide +kernel
theorem dX8_adopt_144 : decode cX8_adopt 144 = .ok (.ireturn, 1) := by decide +kernel
theorem dX8_fault_0 : decode cX8_fault 0 = .ok (.aload_n 0, 1) := by decide +kernel
theorem dX8_fault_1 : decode cX8_fault 1 = .ok (.getfield 26, 3) := by decide +kernel
theorem dX8_fault_4 : decode cX8_fault 4 = .ok (.ireturn, 1) := by decide +kernel
set_option maxRecDepth 20000 in
theorem ggX8_plan_X8_isDay : GoodIn wsX8_plan wsX8_isDay := goodIn_r _ [7, 8, 9, 6, 10] (by decide +kernel) (by decide +kernel)
set_option maxRecDepth 20000 in
theorem gX8_plan_X8_isDay : GoodIn wsX8_plan (va_wsS RX8 216 yX8_isDay wsX8_isDay) := goodIn_app (goodIn_of _ (by decide +kernel)) ggX8_plan_X8_isDay
theorem dX8_plan_0 : decode cX8_plan 0 = .ok (.iconst (-1), 1) := by decide +kernel
theorem dX8_plan_1 : decode cX8_plan 1 = .ok (.istore_n 3, 1) := by decide +kernel
theorem dX8_plan_2 : decode cX8_plan 2 = .ok (.iload_n 1, 1) := by decide +kernel
theorem dX8_plan_3 : decode cX8_plan 3 = .ok (.invokestatic 216, 3) := by decide +kernel
theorem dX8_plan_6 : decode cX8_plan 6 = .ok (.ifCond .eq 10, 3) := by decide +kernel
theorem dX8_plan_9 : decode cX8_plan 9 = .ok (.iload_n 2, 1) := by decide +kernel
theorem dX8_plan_10 : decode cX8_plan 10 = .ok (.invokestatic 216, 3) := by decide +kernel
theorem dX8_plan_13 : decode cX8_plan 13 = .ok (.ifCond .ne 5, 3) := by decide +kernel
theorem dX8_plan_16 : decode cX8_plan 16 = .ok (.iconst (-1), 1) := by decide +kernel
theorem dX8_plan_17 : decode cX8_plan 17 = .ok (.ireturn, 1) := by decide +kernel
theorem dX8_plan_18 : decode cX8_plan 18 = .ok (.iconst 0, 1) := by decide +kernel
theorem dX8_plan_19 : decode cX8_plan 19 = .ok (.istore 4, 2) := by decide +kernel
theorem dX8_plan_21 : decode cX8_plan 21 = .ok (.iload 4, 2) := by decide +kernel
theorem dX8_plan_23 : decode cX8_plan 23 = .ok (.aload_n 0, 1) := by decide +kernel
theorem dX8_plan_24 : decode cX8_plan 24 = .ok (.getfield 219, 3) := by decide +kernel
theorem dX8_plan_27 : decode cX8_plan 27 = .ok (.if_icmp .ge 55, 3) := by decide +kernel
theorem dX8_plan_30 : decode cX8_plan 30 = .ok (.aload_n 0, 1) := by decide +kernel
theorem dX8_plan_31 : decode cX8_plan 31 = .ok (.getfield 30, 3) := by decide +kernel
theorem dX8_plan_34 : decode cX8_plan 34 = .ok (.iload 4, 2) := by decide +kernel
theorem dX8_plan_36 : decode cX8_plan 36 = .ok (.iaload, 1) := by decide +kernel
theorem dX8_plan_37 : decode cX8_plan 37 = .ok (.iload_n 1, 1) := by decide +kernel
theorem dX8_plan_38 : decode cX8_plan 38 = .ok (.if_icmp .gt 38, 3) := by decide +kernel
theorem dX8_plan_41 : decode cX8_plan 41 = .ok (.aload_n 0, 1) := by decide +kernel
theorem dX8_plan_42 : decode cX8_plan 42 = .ok (.getfield 33, 3) := by decide +kernel
theorem dX8_plan_45 : decode cX8_plan 45 = .ok (.iload 4, 2) := by decide +kernel
theorem dX8_plan_47 : decode cX8_plan 47 = .ok (.iaload, 1) := by decide +kernel
theorem dX8_plan_48 : decode cX8_plan 48 = .ok (.iload_n 2, 1) := by decide +kernel
theorem dX8_plan_49 : decode cX8_plan 49 = .ok (.if_icmp .gt 27, 3) := by decide +kernel
theorem dX8_plan_52 : decode cX8_plan 52 = .ok (.iload_n 3, 1) := by decide +kernel
theorem dX8_plan_53 : decode cX8_plan 53 = .ok (.iconst (-1), 1) := by decide +kernel
theorem dX8_plan_54 : decode cX8_plan 54 = .ok (.if_icmp .eq 19, 3) := by decide +kernel
theorem dX8_plan_57 : decode cX8_plan 57 = .ok (.aload_n 0, 1) := by decide +kernel
theorem dX8_plan_58 : decode cX8_plan 58 = .ok (.getfield 30, 3) := by decide +kernel
theorem dX8_plan_61 : decode cX8_plan 61 = .ok (.iload 4, 2) := by decide +kernel
theorem dX8_plan_63 : decode cX8_plan 63 = .ok (.iaload, 1) := by decide +kernel
theorem dX8_plan_64 : decode cX8_plan 64 = .ok (.aload_n 0, 1) := by decide +kernel
theorem dX8_plan_65 : decode cX8_plan 65 = .ok (.getfield 30, 3) := by decide +kernel
theorem dX8_plan_68 : decode cX8_plan 68 = .ok (.iload_n 3, 1) := by decide +kernel
theorem dX8_plan_69 : decode cX8_plan 69 = .ok (.iaload, 1) := by decide +kernel
theorem dX8_plan_70 : decode cX8_plan 70 = .ok (.if_icmp .lt 6, 3) := by decide +kernel
theorem dX8_plan_73 : decode cX8_plan 73 = .ok (.iload 4, 2) := by decide +kernel
theorem dX8_plan_75 : decode cX8_plan 75 = .ok (.istore_n 3, 1) := by decide +kernel
theorem dX8_plan_76 : decode cX8_plan 76 = .ok (.iinc 4 1, 3) := by decide +kernel
theorem dX8_plan_79 : decode cX8_plan 79 = .ok (.goto (-58), 3) := by decide +kernel
theorem dX8_plan_82 : decode cX8_plan 82 = .ok (.iload_n 3, 1) := by decide +kernel
theorem dX8_plan_83 : decode cX8_plan 83 = .ok (.ireturn, 1) := by decide +kernel
theorem dX8_zoneOf_0 : decode cX8_zoneOf 0 = .ok (.bipush 8, 2) := by decide +kernel
theorem dX8_zoneOf_2 : decode cX8_zoneOf 2 = .ok (.iload_n 1, 1) := by decide +kernel
theorem dX8_zoneOf_3 : decode cX8_zoneOf 3 = .ok (.imul, 1) := by decide +kernel
theorem dX8_zoneOf_4 : decode cX8_zoneOf 4 = .ok (.istore_n 3, 1) := by decide +kernel
theorem dX8_zoneOf_5 : decode cX8_zoneOf 5 = .ok (.iload_n 3, 1) := by decide +kernel
theorem dX8_zoneOf_6 : decode cX8_zoneOf 6 = .ok (.bipush 8, 2) := by decide +kernel
theorem dX8_zoneOf_8 : decode cX8_zoneOf 8 = .ok (.iload_n 1, 1) := by decide +kernel
theorem dX8_zoneOf_9 : decode cX8_zoneOf 9 = .ok (.imul, 1) := by decide +kernel
theorem dX8_zoneOf_10 : decode cX8_zoneOf 10 = .ok (.aload_n 0, 1) := by decide +kernel
theorem dX8_zoneOf_11 : decode cX8_zoneOf 11 = .ok (.getfield 36, 3) := by decide +kernel
theorem dX8_zoneOf_14 : decode cX8_zoneOf 14 = .ok (.iload_n 1, 1) := by decide +kernel
theorem dX8_zoneOf_15 : decode cX8_zoneOf 15 = .ok (.iaload, 1) := by decide +kernel
theorem dX8_zoneOf_16 : decode cX8_zoneOf 16 = .ok (.iadd, 1) := by decide +kernel
theorem dX8_zoneOf_17 : decode cX8_zoneOf 17 = .ok (.if_icmp .ge 25, 3) := by decide +kernel
theorem dX8_zoneOf_20 : decode cX8_zoneOf 20 = .ok (.aload_n 0, 1) := by decide +kernel
theorem dX8_zoneOf_21 : decode cX8_zoneOf 21 = .ok (.getfield 39, 3) := by decide +kernel
theorem dX8_zoneOf_24 : decode cX8_zoneOf 24 = .ok (.iload_n 3, 1) := by decide +kernel
theorem dX8_zoneOf_25 : decode cX8_zoneOf 25 = .ok (.iaload, 1) := by decide +kernel
theorem dX8_zoneOf_26 : decode cX8_zoneOf 26 = .ok (.iload_n 2, 1) := by decide +kernel
theorem dX8_zoneOf_27 : decode cX8_zoneOf 27 = .ok (.ishr, 1) := by decide +kernel
theorem dX8_zoneOf_28 : decode cX8_zoneOf 28 = .ok (.iconst 1, 1) := by decide +kernel
theorem dX8_zoneOf_29 : decode cX8_zoneOf 29 = .ok (.iand, 1) := by decide +kernel
theorem dX8_zoneOf_30 : decode cX8_zoneOf 30 = .ok (.iconst 1, 1) := by decide +kernel
theorem dX8_zoneOf_31 : decode cX8_zoneOf 31 = .ok (.if_icmp .ne 5, 3) := by decide +kernel
theorem dX8_zoneOf_34 : decode cX8_zoneOf 34 = .ok (.iload_n 3, 1) := by decide +kernel
theorem dX8_zoneOf_35 : decode cX8_zoneOf 35 = .ok (.ireturn, 1) := by decide +kernel
theorem dX8_zoneOf_36 : decode cX8_zoneOf 36 = .ok (.iinc 3 1, 3) := by decide +kernel
theorem dX8_zoneOf_39 : decode cX8_zoneOf 39 = .ok (.goto (-34), 3) := by decide +kernel
theorem dX8_zoneOf_42 : decode cX8_zoneOf 42 = .ok (.iconst (-1), 1) := by decide +kernel
theorem dX8_zoneOf_43 : decode cX8_zoneOf 43 = .ok (.ireturn, 1) := by decide +kernel
set_option maxRecDepth 20000 in
theorem ggX8_zone_X8_isIn : GoodIn wsX8_zone wsX8_isIn := goodIn_r _ [7] (by decide +kernel) (by decide +kernel)
set_option maxRecDepth 20000 in
theorem gX8_zone_X8_isIn : GoodIn wsX8_zone (va_wsS RX8 115 yX8_isIn wsX8_isIn) := goodIn_app (goodIn_of _ (by decide +kernel)) ggX8_zone_X8_isIn
set_option maxRecDepth 20000 in
theorem ggX8_zone_X8_isPlot : GoodIn wsX8_zone wsX8_isPlot := goodIn_r _ [11, 12, 4, 5, 6, 7, 19, 20, 21, 22, 23, 24, 25, 26, 27, 28, 29, 30, 31, 32, 33, 34, 35, 36, 37, 38, 39, 40, 41, 42, 43, 44, 45, 46, 47, 48, 49, 50, 51, 52, 53, 54, 55, 56, 57, 58, 59, 60, 61, 62, 63] (by decide +kernel) (by decide +kernel)
set_option maxRecDepth 20000 in
theorem gX8_zone_X8_isPlot : GoodIn wsX8_zone (wsV RX8 143 RX8 yX8_isPlot wsX8_isPlot) := goodIn_app (goodIn_of _ (by decide +kernel)) ggX8_zone_X8_isPlot
set_option maxRecDepth 20000 in
theorem ggX8_zone_X8_zoneOf : GoodIn wsX8_zone wsX8_zoneOf := goodIn_r _ [16, 17, 18, 19, 20, 21, 22, 23, 24, 25, 26, 27, 28, 29, 30, 31, 32, 33, 34, 35, 36, 37, 38, 39, 40, 41, 42, 43, 44, 45, 46, 47, 48, 49, 50, 51, 52, 53, 54, 55, 56, 57, 58, 59, 60, 61, 62, 63] (by decide +kernel) (by decide +kernel)
set_option maxRecDepth 20000 in
theorem gX8_zone_X8_zoneOf : GoodIn wsX8_zone (wsV RX8 225 RX8 yX8_zoneOf wsX8_zoneOf) := goodIn_app (goodIn_of _ (by decide +kernel)) ggX8_zone_X8_zoneOf
theorem dX8_zone_0 : decode cX8_zone 0 = .ok (.iload_n 1, 1) := by decide +kernel
theorem dX8_zone_1 : decode cX8_zone 1 = .ok (.iconst 0, 1) := by decide +kernel
theorem dX8_zone_2 : decode cX8_zone 2 = .ok (.aload_n 0, 1) := by decide +kernel
theorem dX8_zone_3 : decode cX8_zone 3 = .ok (.getfield 219, 3) := by decide +kernel
theorem dX8_zone_6 : decode cX8_zone 6 = .ok (.iconst 1, 1) := by decide +kernel
theorem dX8_zone_7 : decode cX8_zone 7 = .ok (.isub, 1) := by decide +kernel
theorem dX8_zone_8 : decode cX8_zone 8 = .ok (.invokestatic 115, 3) := by decide +kernel
theorem dX8_zone_11 : decode cX8_zone 11 = .ok (.ifCond .eq 11, 3) := by decide +kernel
theorem dX8_zone_14 : decode cX8_zone 14 = .ok (.aload_n 0, 1) := by decide +kernel
theorem dX8_zone_15 : decode cX8_zone 15 = .ok (.iload_n 2, 1) := by decide +kernel
theorem dX8_zone_16 : decode cX8_zone 16 = .ok (.invokevirtual 143, 3) := by decide +kernel
theorem dX8_zone_19 : decode cX8_zone 19 = .ok (.ifCond .ne 5, 3) := by decide +kernel
theorem dX8_zone_22 : decode cX8_zone 22 = .ok (.iconst (-1), 1) := by decide +kernel
theorem dX8_zone_23 : decode cX8_zone 23 = .ok (.ireturn, 1) := by decide +kernel
theorem dX8_zone_24 : decode cX8_zone 24 = .ok (.aload_n 0, 1) := by decide +kernel
theorem dX8_zone_25 : decode cX8_zone 25 = .ok (.iload_n 1, 1) := by decide +kernel
theorem dX8_zone_26 : decode cX8_zone 26 = .ok (.iload_n 2, 1) := by decide +kernel
theorem dX8_zone_27 : decode cX8_zone 27 = .ok (.invokevirtual 225, 3) := by decide +kernel
theorem dX8_zone_30 : decode cX8_zone 30 = .ok (.istore 4, 2) := by decide +kernel
theorem dX8_zone_32 : decode cX8_zone 32 = .ok (.iload 4, 2) := by decide +kernel
theorem dX8_zone_34 : decode cX8_zone 34 = .ok (.iconst (-1), 1) := by decide +kernel
theorem dX8_zone_35 : decode cX8_zone 35 = .ok (.if_icmp .ne 5, 3) := by decide +kernel
theorem dX8_zone_38 : decode cX8_zone 38 = .ok (.iconst (-1), 1) := by decide +kernel
theorem dX8_zone_39 : decode cX8_zone 39 = .ok (.ireturn, 1) := by decide +kernel
theorem dX8_zone_40 : decode cX8_zone 40 = .ok (.iload_n 3, 1) := by decide +kernel
theorem dX8_zone_41 : decode cX8_zone 41 = .ok (.ifCond .ne 9, 3) := by decide +kernel
theorem dX8_zone_44 : decode cX8_zone 44 = .ok (.iload 4, 2) := by decide +kernel
theorem dX8_zone_46 : decode cX8_zone 46 = .ok (.bipush 8, 2) := by decide +kernel
theorem dX8_zone_48 : decode cX8_zone 48 = .ok (.irem, 1) := by decide +kernel
theorem dX8_zone_49 : decode cX8_zone 49 = .ok (.ireturn, 1) := by decide +kernel
theorem dX8_zone_50 : decode cX8_zone 50 = .ok (.iload_n 3, 1) := by decide +kernel
theorem dX8_zone_51 : decode cX8_zone 51 = .ok (.iconst 1, 1) := by decide +kernel
theorem dX8_zone_52 : decode cX8_zone 52 = .ok (.iconst 4, 1) := by decide +kernel
theorem dX8_zone_53 : decode cX8_zone 53 = .ok (.invokestatic 115, 3) := by decide +kernel
theorem dX8_zone_56 : decode cX8_zone 56 = .ok (.ifCond .eq 17, 3) := by decide +kernel
theorem dX8_zone_59 : decode cX8_zone 59 = .ok (.aload_n 0, 1) := by decide +kernel
theorem dX8_zone_60 : decode cX8_zone 60 = .ok (.getfield 45, 3) := by decide +kernel
theorem dX8_zone_63 : decode cX8_zone 63 = .ok (.iconst 4, 1) := by decide +kernel
theorem dX8_zone_64 : decode cX8_zone 64 = .ok (.iload 4, 2) := by decide +kernel
theorem dX8_zone_66 : decode cX8_zone 66 = .ok (.imul, 1) := by decide +kernel
theorem dX8_zone_67 : decode cX8_zone 67 = .ok (.iload_n 3, 1) := by decide +kernel
theorem dX8_zone_68 : decode cX8_zone 68 = .ok (.iadd, 1) := by decide +kernel
theorem dX8_zone_69 : decode cX8_zone 69 = .ok (.iconst 1, 1) := by decide +kernel
theorem dX8_zone_70 : decode cX8_zone 70 = .ok (.isub, 1) := by decide +kernel
theorem dX8_zone_71 : decode cX8_zone 71 = .ok (.iaload, 1) := by decide +kernel
theorem dX8_zone_72 : decode cX8_zone 72 = .ok (.ireturn, 1) := by decide +kernel
theorem dX8_zone_73 : decode cX8_zone 73 = .ok (.iload_n 3, 1) := by decide +kernel
theorem dX8_zone_74 : decode cX8_zone 74 = .ok (.bipush 10, 2) := by decide +kernel
theorem dX8_zone_76 : decode cX8_zone 76 = .ok (.bipush 17, 2) := by decide +kernel
theorem dX8_zone_78 : decode cX8_zone 78 = .ok (.invokestatic 115, 3) := by decide +kernel
theorem dX8_zone_81 : decode cX8_zone 81 = .ok (.ifCond .eq 20, 3) := by decide +kernel
theorem dX8_zone_84 : decode cX8_zone 84 = .ok (.aload_n 0, 1) := by decide +kernel
theorem dX8_zone_85 : decode cX8_zone 85 = .ok (.getfield 42, 3) := by decide +kernel
theorem dX8_zone_88 : decode cX8_zone 88 = .ok (.iload 4, 2) := by decide +kernel
theorem dX8_zone_90 : decode cX8_zone 90 = .ok (.iaload, 1) := by decide +kernel
theorem dX8_zone_91 : decode cX8_zone 91 = .ok (.iload_n 3, 1) := by decide +kernel
theorem dX8_zone_92 : decode cX8_zone 92 = .ok (.bipush 10, 2) := by decide +kernel
theorem dX8_zone_94 : decode cX8_zone 94 = .ok (.isub, 1) := by decide +kernel
theorem dX8_zone_95 : decode cX8_zone 95 = .ok (.ishr, 1) := by decide +kernel
theorem dX8_zone_96 : decode cX8_zone 96 = .ok (.iconst 1, 1) := by decide +kernel
theorem dX8_zone_97 : decode cX8_zone 97 = .ok (.iand, 1) := by decide +kernel
theorem dX8_zone_98 : decode cX8_zone 98 = .ok (.goto 4, 3) := by decide +kernel
theorem dX8_zone_101 : decode cX8_zone 101 = .ok (.iconst (-1), 1) := by decide +kernel
theorem dX8_zone_102 : decode cX8_zone 102 = .ok (.ireturn, 1) := by decide +kernel
