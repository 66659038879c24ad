theorem dX1_button_0 : decode cX1_button 0 = .ok (.iload_n 1, 1) := by decide +kernel
theorem dX1_button_1 : decode cX1_button 1 = .ok (.ifCond .ne 23, 3) := by decide +kernel
theorem dX1_button_4 : decode cX1_button 4 = .ok (.aload_n 0, 1) := by decide +kernel
theorem dX1_button_5 : decode cX1_button 5 = .ok (.aload_n 0, 1) := by decide +kernel
theorem dX1_button_6 : decode cX1_button 6 = .ok (.getfield 26, 3) := by decide +kernel
theorem dX1_button_9 : decode cX1_button 9 = .ok (.iconst 2, 1) := by decide +kernel
theorem dX1_button_10 : decode cX1_button 10 = .ok (.if_icmp .ne 7, 3) := by decide +kernel
theorem dX1_button_13 : decode cX1_button 13 = .ok (.iconst 1, 1) := by decide +kernel
theorem dX1_button_14 : decode cX1_button 14 = .ok (.goto 4, 3) := by decide +kernel
theorem dX1_button_17 : decode cX1_button 17 = .ok (.iconst 2, 1) := by decide +kernel
theorem dX1_button_18 : decode cX1_button 18 = .ok (.invokevirtual 93, 3) := by decide +kernel
theorem dX1_button_21 : decode cX1_button 21 = .ok (.goto 258, 3) := by decide +kernel
theorem dX1_button_24 : decode cX1_button 24 = .ok (.iload_n 1, 1) := by decide +kernel
theorem dX1_button_25 : decode cX1_button 25 = .ok (.iconst 1, 1) := by decide +kernel
theorem dX1_button_26 : decode cX1_button 26 = .ok (.if_icmp .ne 10, 3) := by decide +kernel
theorem dX1_button_29 : decode cX1_button 29 = .ok (.aload_n 0, 1) := by decide +kernel
theorem dX1_button_30 : decode cX1_button 30 = .ok (.invokevirtual 96, 3) := by decide +kernel
theorem dX1_button_33 : decode cX1_button 33 = .ok (.goto 246, 3) := by decide +kernel
theorem dX1_button_36 : decode cX1_button 36 = .ok (.iload_n 1, 1) := by decide +kernel
theorem dX1_button_37 : decode cX1_button 37 = .ok (.iconst 2, 1) := by decide +kernel
theorem dX1_button_38 : decode cX1_button 38 = .ok (.if_icmp .ne 10, 3) := by decide +kernel
theorem dX1_button_41 : decode cX1_button 41 = .ok (.aload_n 0, 1) := by decide +kernel
theorem dX1_button_42 : decode cX1_button 42 = .ok (.invokevirtual 99, 3) := by decide +kernel
theorem dX1_button_45 : decode cX1_button 45 = .ok (.goto 234, 3) := by decide +kernel
theorem dX1_button_48 : decode cX1_button 48 = .ok (.iload_n 1, 1) := by decide +kernel
theorem dX1_button_49 : decode cX1_button 49 = .ok (.bipush 6, 2) := by decide +kernel
theorem dX1_button_51 : decode cX1_button 51 = .ok (.if_icmp .ge 37, 3) := by decide +kernel
theorem dX1_button_54 : decode cX1_button 54 = .ok (.aload_n 0, 1) := by decide +kernel
theorem dX1_button_55 : decode cX1_button 55 = .ok (.getfield 36, 3) := by decide +kernel
theorem dX1_button_58 : decode cX1_button 58 = .ok (.bipush 6, 2) := by decide +kernel
theorem dX1_button_60 : decode cX1_button 60 = .ok (.if_icmp .eq 219, 3) := by decide +kernel
theorem dX1_button_63 : decode cX1_button 63 = .ok (.aload_n 0, 1) := by decide +kernel
theorem dX1_button_64 : decode cX1_button 64 = .ok (.aload_n 0, 1) := by decide +kernel
theorem dX1_button_65 : decode cX1_button 65 = .ok (.getfield 36, 3) := by decide +kernel
theorem dX1_button_68 : decode cX1_button 68 = .ok (.iload_n 1, 1) := by decide +kernel
theorem dX1_button_69 : decode cX1_button 69 = .ok (.iconst 1, 1) := by decide +kernel
theorem dX1_button_70 : decode cX1_button 70 = .ok (.isub, 1) := by decide +kernel
theorem dX1_button_71 : decode cX1_button 71 = .ok (.if_icmp .ne 7, 3) := by decide +kernel
theorem dX1_button_74 : decode cX1_button 74 = .ok (.iconst 1, 1) := by decide +kernel
theorem dX1_button_75 : decode cX1_button 75 = .ok (.goto 6, 3) := by decide +kernel
theorem dX1_button_78 : decode cX1_button 78 = .ok (.iload_n 1, 1) := by decide +kernel
theorem dX1_button_79 : decode cX1_button 79 = .ok (.iconst 1, 1) := by decide +kernel
theorem dX1_button_80 : decode cX1_button 80 = .ok (.isub, 1) := by decide +kernel
theorem dX1_button_81 : decode cX1_button 81 = .ok (.iconst 0, 1) := by decide +kernel
theorem dX1_button_82 : decode cX1_button 82 = .ok (.invokevirtual 56, 3) := by decide +kernel
theorem dX1_button_85 : decode cX1_button 85 = .ok (.goto 194, 3) := by decide +kernel
theorem dX1_button_88 : decode cX1_button 88 = .ok (.iload_n 1, 1) := by decide +kernel
theorem dX1_button_89 : decode cX1_button 89 = .ok (.bipush 6, 2) := by decide +kernel
theorem dX1_button_91 : decode cX1_button 91 = .ok (.if_icmp .ne 51, 3) := by decide +kernel
theorem dX1_button_94 : decode cX1_button 94 = .ok (.aload_n 0, 1) := by decide +kernel
theorem dX1_button_95 : decode cX1_button 95 = .ok (.invokevirtual 49, 3) := by decide +kernel
theorem dX1_button_98 : decode cX1_button 98 = .ok (.aload_n 0, 1) := by decide +kernel
theorem dX1_button_99 : decode cX1_button 99 = .ok (.aload_n 0, 1) := by decide +kernel
theorem dX1_button_100 : decode cX1_button 100 = .ok (.getfield 59, 3) := by decide +kernel
theorem dX1_button_103 : decode cX1_button 103 = .ok (.ifCond .ne 10, 3) := by decide +kernel
theorem dX1_button_106 : decode cX1_button 106 = .ok (.aload_n 0, 1) := by decide +kernel
theorem dX1_button_107 : decode cX1_button 107 = .ok (.getfield 62, 3) := by decide +kernel
theorem dX1_button_110 : decode cX1_button 110 = .ok (.ifCond .eq 7, 3) := by decide +kernel
theorem dX1_button_113 : decode cX1_button 113 = .ok (.iconst 1, 1) := by decide +kernel
theorem dX1_button_114 : decode cX1_button 114 = .ok (.goto 4, 3) := by decide +kernel
theorem dX1_button_117 : decode cX1_button 117 = .ok (.iconst 0, 1) := by decide +kernel
theorem dX1_button_118 : decode cX1_button 118 = .ok (.putfield 59, 3) := by decide +kernel
theorem dX1_button_121 : decode cX1_button 121 = .ok (.aload_n 0, 1) := by decide +kernel
theorem dX1_button_122 : decode cX1_button 122 = .ok (.iconst 0, 1) := by decide +kernel
theorem dX1_button_123 : decode cX1_button 123 = .ok (.putfield 62, 3) := by decide +kernel
theorem dX1_button_126 : decode cX1_button 126 = .ok (.aload_n 0, 1) := by decide +kernel
theorem dX1_button_127 : decode cX1_button 127 = .ok (.iconst 5, 1) := by decide +kernel
theorem dX1_button_128 : decode cX1_button 128 = .ok (.iconst 0, 1) := by decide +kernel
theorem dX1_button_129 : decode cX1_button 129 = .ok (.invokevirtual 52, 3) := by decide +kernel
theorem dX1_button_132 : decode cX1_button 132 = .ok (.aload_n 0, 1) := by decide +kernel
theorem dX1_button_133 : decode cX1_button 133 = .ok (.bipush 7, 2) := by decide +kernel
theorem dX1_button_135 : decode cX1_button 135 = .ok (.iconst 0, 1) := by decide +kernel
theorem dX1_button_136 : decode cX1_button 136 = .ok (.invokevirtual 56, 3) := by decide +kernel
theorem dX1_button_139 : decode cX1_button 139 = .ok (.goto 140, 3) := by decide +kernel
theorem dX1_button_142 : decode cX1_button 142 = .ok (.iload_n 1, 1) := by decide +kernel
theorem dX1_button_143 : decode cX1_button 143 = .ok (.bipush 7, 2) := by decide +kernel
theorem dX1_button_145 : decode cX1_button 145 = .ok (.if_icmp .ne 49, 3) := by decide +kernel
theorem dX1_button_148 : decode cX1_button 148 = .ok (.aload_n 0, 1) := by decide +kernel
theorem dX1_button_149 : decode cX1_button 149 = .ok (.aload_n 0, 1) := by decide +kernel
theorem dX1_button_150 : decode cX1_button 150 = .ok (.getfield 26, 3) := by decide +kernel
theorem dX1_button_153 : decode cX1_button 153 = .ok (.iconst 5, 1) := by decide +kernel
theorem dX1_button_154 : decode cX1_button 154 = .ok (.if_icmp .ne 7, 3) := by decide +kernel
theorem dX1_button_157 : decode cX1_button 157 = .ok (.iconst 1, 1) := by decide +kernel
theorem dX1_button_158 : decode cX1_button 158 = .ok (.goto 7, 3) := by decide +kernel
theorem dX1_button_161 : decode cX1_button 161 = .ok (.aload_n 0, 1) := by decide +kernel
theorem dX1_button_162 : decode cX1_button 162 = .ok (.getfield 26, 3) := by decide +kernel
theorem dX1_button_165 : decode cX1_button 165 = .ok (.iconst 0, 1) := by decide +kernel
theorem dX1_button_166 : decode cX1_button 166 = .ok (.invokevirtual 52, 3) := by decide +kernel
theorem dX1_button_169 : decode cX1_button 169 = .ok (.aload_n 0, 1) := by decide +kernel
theorem dX1_button_170 : decode cX1_button 170 = .ok (.aload_n 0, 1) := by decide +kernel
theorem dX1_button_171 : decode cX1_button 171 = .ok (.getfield 36, 3) := by decide +kernel
theorem dX1_button_174 : decode cX1_button 174 = .ok (.bipush 7, 2) := by decide +kernel
theorem dX1_button_176 : decode cX1_button 176 = .ok (.if_icmp .ne 7, 3) := by decide +kernel
theorem dX1_button_179 : decode cX1_button 179 = .ok (.iconst 1, 1) := by decide +kernel
theorem dX1_button_180 : decode cX1_button 180 = .ok (.goto 7, 3) := by decide +kernel
theorem dX1_button_183 : decode cX1_button 183 = .ok (.aload_n 0, 1) := by decide +kernel
theorem dX1_button_184 : decode cX1_button 184 = .ok (.getfield 36, 3) := by decide +kernel
theorem dX1_button_187 : decode cX1_button 187 = .ok (.iconst 0, 1) := by decide +kernel
theorem dX1_button_188 : decode cX1_button 188 = .ok (.invokevirtual 56, 3) := by decide +kernel
theorem dX1_button_191 : decode cX1_button 191 = .ok (.goto 88, 3) := by decide +kernel
theorem dX1_button_194 : decode cX1_button 194 = .ok (.iload_n 1, 1) := by decide +kernel
theorem dX1_button_195 : decode cX1_button 195 = .ok (.bipush 8, 2) := by decide +kernel
theorem dX1_button_197 : decode cX1_button 197 = .ok (.if_icmp .ne 41, 3) := by decide +kernel
theorem dX1_button_200 : decode cX1_button 200 = .ok (.aload_n 0, 1) := by decide +kernel
theorem dX1_button_201 : decode cX1_button 201 = .ok (.iconst 1, 1) := by decide +kernel
theorem dX1_button_202 : decode cX1_button 202 = .ok (.aload_n 0, 1) := by decide +kernel
theorem dX1_button_203 : decode cX1_button 203 = .ok (.getfield 16, 3) := by decide +kernel
theorem dX1_button_206 : decode cX1_button 206 = .ok (.isub, 1) := by decide +kernel
theorem dX1_button_207 : decode cX1_button 207 = .ok (.invokevirtual 75, 3) := by decide +kernel
theorem dX1_button_210 : decode cX1_button 210 = .ok (.ifCond .ne 69, 3) := by decide +kernel
theorem dX1_button_213 : decode cX1_button 213 = .ok (.aload_n 0, 1) := by decide +kernel
theorem dX1_button_214 : decode cX1_button 214 = .ok (.iconst 1, 1) := by decide +kernel
theorem dX1_button_215 : decode cX1_button 215 = .ok (.aload_n 0, 1) := by decide +kernel
theorem dX1_button_216 : decode cX1_button 216 = .ok (.getfield 16, 3) := by decide +kernel
theorem dX1_button_219 : decode cX1_button 219 = .ok (.isub, 1) := by decide +kernel
theorem dX1_button_220 : decode cX1_button 220 = .ok (.putfield 16, 3) := by decide +kernel
theorem dX1_button_223 : decode cX1_button 223 = .ok (.aload_n 0, 1) := by decide +kernel
theorem dX1_button_224 : decode cX1_button 224 = .ok (.getfield 26, 3) := by decide +kernel
theorem dX1_button_227 : decode cX1_button 227 = .ok (.ifCond .le 52, 3) := by decide +kernel
theorem dX1_button_230 : decode cX1_button 230 = .ok (.aload_n 0, 1) := by decide +kernel
theorem dX1_button_231 : decode cX1_button 231 = .ok (.iconst 0, 1) := by decide +kernel
theorem dX1_button_232 : decode cX1_button 232 = .ok (.invokevirtual 102, 3) := by decide +kernel
theorem dX1_button_235 : decode cX1_button 235 = .ok (.goto 44, 3) := by decide +kernel
theorem dX1_button_238 : decode cX1_button 238 = .ok (.aload_n 0, 1) := by decide +kernel
theorem dX1_button_239 : decode cX1_button 239 = .ok (.getfield 26, 3) := by decide +kernel
theorem dX1_button_242 : decode cX1_button 242 = .ok (.ifCond .ne 25, 3) := by decide +kernel
theorem dX1_button_245 : decode cX1_button 245 = .ok (.aload_n 0, 1) := by decide +kernel
theorem dX1_button_246 : decode cX1_button 246 = .ok (.getfield 65, 3) := by decide +kernel
theorem dX1_button_249 : decode cX1_button 249 = .ok (.ifCond .eq 10, 3) := by decide +kernel
theorem dX1_button_252 : decode cX1_button 252 = .ok (.aload_n 0, 1) := by decide +kernel
theorem dX1_button_253 : decode cX1_button 253 = .ok (.getfield 68, 3) := by decide +kernel
theorem dX1_button_256 : decode cX1_button 256 = .ok (.ifCond .ne 23, 3) := by decide +kernel
theorem dX1_button_259 : decode cX1_button 259 = .ok (.aload_n 0, 1) := by decide +kernel
theorem dX1_button_260 : decode cX1_button 260 = .ok (.iconst 0, 1) := by decide +kernel
theorem dX1_button_261 : decode cX1_button 261 = .ok (.invokevirtual 102, 3) := by decide +kernel
theorem dX1_button_264 : decode cX1_button 264 = .ok (.goto 15, 3) := by decide +kernel
theorem dX1_button_267 : decode cX1_button 267 = .ok (.aload_n 0, 1) := by decide +kernel
theorem dX1_button_268 : decode cX1_button 268 = .ok (.getfield 62, 3) := by decide +kernel
theorem dX1_button_271 : decode cX1_button 271 = .ok (.ifCond .ne 8, 3) := by decide +kernel
theorem dX1_button_274 : decode cX1_button 274 = .ok (.aload_n 0, 1) := by decide +kernel
theorem dX1_button_275 : decode cX1_button 275 = .ok (.iconst 0, 1) := by decide +kernel
theorem dX1_button_276 : decode cX1_button 276 = .ok (.invokevirtual 83, 3) := by decide +kernel
theorem dX1_button_279 : decode cX1_button 279 = .ok (.return_, 1) := by decide +kernel
theorem dX1_sum_0 : decode cX1_sum 0 = .ok (.aload_n 0, 1) := by decide +kernel
theorem dX1_sum_1 : decode cX1_sum 1 = .ok (.getfield 26, 3) := by decide +kernel
theorem dX1_sum_4 : decode cX1_sum 4 = .ok (.bipush 8, 2) := by decide +kernel
theorem dX1_sum_6 : decode cX1_sum 6 = .ok (.aload_n 0, 1) := by decide +kernel
theorem dX1_sum_7 : decode cX1_sum 7 = .ok (.getfield 36, 3) := by decide +kernel
theorem dX1_sum_10 : decode cX1_sum 10 = .ok (.imul, 1) := by decide +kernel
theorem dX1_sum_11 : decode cX1_sum 11 = .ok (.iadd, 1) := by decide +kernel
theorem dX1_sum_12 : decode cX1_sum 12 = .ok (.bipush 64, 2) := by decide +kernel
theorem dX1_sum_14 : decode cX1_sum 14 = .ok (.aload_n 0, 1) := by decide +kernel
theorem dX1_sum_15 : decode cX1_sum 15 = .ok (.getfield 42, 3) := by decide +kernel
theorem dX1_sum_18 : decode cX1_sum 18 = .ok (.imul, 1) := by decide +kernel
theorem dX1_sum_19 : decode cX1_sum 19 = .ok (.iadd, 1) := by decide +kernel
theorem dX1_sum_20 : decode cX1_sum 20 = .ok (.aload_n 0, 1) := by decide +kernel
theorem dX1_sum_21 : decode cX1_sum 21 = .ok (.getfield 45, 3) := by decide +kernel
theorem dX1_sum_24 : decode cX1_sum 24 = .ok (.ifCond .eq 9, 3) := by decide +kernel
theorem dX1_sum_27 : decode cX1_sum 27 = .ok (.sipush 256, 3) := by decide +kernel
theorem dX1_sum_30 : decode cX1_sum 30 = .ok (.goto 4, 3) := by decide +kernel
theorem dX1_sum_33 : decode cX1_sum 33 = .ok (.iconst 0, 1) := by decide +kernel
theorem dX1_sum_34 : decode cX1_sum 34 = .ok (.iadd, 1) := by decide +kernel
theorem dX1_sum_35 : decode cX1_sum 35 = .ok (.aload_n 0, 1) := by decide +kernel
theorem dX1_sum_36 : decode cX1_sum 36 = .ok (.getfield 62, 3) := by decide +kernel
theorem dX1_sum_39 : decode cX1_sum 39 = .ok (.ifCond .eq 9, 3) := by decide +kernel
theorem dX1_sum_42 : decode cX1_sum 42 = .ok (.sipush 512, 3) := by decide +kernel
theorem dX1_sum_45 : decode cX1_sum 45 = .ok (.goto 4, 3) := by decide +kernel
theorem dX1_sum_48 : decode cX1_sum 48 = .ok (.iconst 0, 1) := by decide +kernel
theorem dX1_sum_49 : decode cX1_sum 49 = .ok (.iadd, 1) := by decide +kernel
theorem dX1_sum_50 : decode cX1_sum 50 = .ok (.sipush 1024, 3) := by decide +kernel
theorem dX1_sum_53 : decode cX1_sum 53 = .ok (.aload_n 0, 1) := by decide +kernel
theorem dX1_sum_54 : decode cX1_sum 54 = .ok (.getfield 16, 3) := by decide +kernel
theorem dX1_sum_57 : decode cX1_sum 57 = .ok (.imul, 1) := by decide +kernel
theorem dX1_sum_58 : decode cX1_sum 58 = .ok (.iadd, 1) := by decide +kernel
theorem dX1_sum_59 : decode cX1_sum 59 = .ok (.ireturn, 1) := by decide +kernel
set_option maxRecDepth 20000 in
theorem ggX1_press_X1_good : GoodIn wsX1_press wsX1_good := goodIn_r _ [10, 11, 88, 89, 90, 91, 92, 93, 94, 95, 96, 97, 98, 99, 100, 101, 102] (by decide +kernel) (by decide +kernel)
set_option maxRecDepth 20000 in
theorem gX1_press_X1_good : GoodIn wsX1_press (wsV RX1 105 RX1 yX1_good wsX1_good) := goodIn_app (goodIn_of _ (by decide +kernel)) ggX1_press_X1_good
set_option maxRecDepth 20000 in
theorem ggX1_press_X1_sum : GoodIn wsX1_press wsX1_sum := goodIn_r _ [15, 5, 16, 17, 18, 19, 20, 88, 89, 90, 91, 92, 93, 94, 95, 96, 97, 98, 99, 100, 101, 102] (by decide +kernel) (by decide +kernel)
set_option maxRecDepth 20000 in
theorem gX1_press_X1_sum : GoodIn wsX1_press (wsV RX1 109 RX1 yX1_sum wsX1_sum) := goodIn_app (goodIn_of _ (by decide +kernel)) ggX1_press_X1_sum
set_option maxRecDepth 20000 in
theorem ggX1_press_X1_base : GoodIn wsX1_press wsX1_base := goodIn_r _ [24, 25, 26, 27, 9, 28, 17, 18, 29, 30, 31, 32, 5, 1, 33, 34, 35, 36, 37, 38, 39, 40, 41, 42, 16, 2, 88, 89, 90, 91, 92, 93, 94, 95, 96, 97, 98, 99, 100, 101, 102] (by decide +kernel) (by decide +kernel)
set_option maxRecDepth 20000 in
theorem gX1_press_X1_base : GoodIn wsX1_press (wsV RX1 102 RX1 yX1_base wsX1_base) := goodIn_app (goodIn_of _ (by decide +kernel)) ggX1_press_X1_base
set_option maxRecDepth 20000 in
theorem ggX1_press_X1_button : GoodIn wsX1_press wsX1_button := goodIn_r _ [46, 5, 16, 47, 19, 20, 3, 4, 48, 49, 50, 9, 51, 18, 17, 29, 30, 31, 32, 1, 33, 34, 35, 36, 37, 38, 39, 40, 41, 42, 2, 52, 53, 54, 55, 56, 57, 58, 59, 25, 26, 27, 28, 60, 61, 62, 63, 21, 22, 23, 24, 64, 65, 66, 67, 88, 89, 90, 91, 92, 93, 94, 95, 96, 97, 98, 99, 100, 101, 102] (by decide +kernel) (by decide +kernel)
set_option maxRecDepth 20000 in
theorem gX1_press_X1_button : GoodIn wsX1_press (wsV RX1 112 RX1 yX1_button wsX1_button) := goodIn_app (goodIn_of _ (by decide +kernel)) ggX1_press_X1_button
set_option maxRecDepth 20000 in
theorem ggX1_press_X1_settle : GoodIn wsX1_press wsX1_settle := goodIn_r _ [71, 72, 73, 74, 9, 75, 76, 5, 20, 16, 17, 18, 60, 61, 62, 63, 3, 4, 77, 78, 79, 80, 81, 82, 83, 84, 85, 86, 87, 64, 65, 66, 67, 47, 19, 1, 2, 25, 26, 27, 28, 29, 30, 31, 32, 33, 34, 35, 36, 37, 38, 39, 40, 41, 42, 88, 89, 90, 91, 92, 93, 94, 95, 96, 97, 98, 99, 100, 101, 102] (by decide +kernel) (by decide +kernel)
set_option maxRecDepth 20000 in
theorem gX1_press_X1_settle : GoodIn wsX1_press (wsV RX1 115 RX1 yX1_settle wsX1_settle) := goodIn_app (goodIn_of _ (by decide +kernel)) ggX1_press_X1_settle
theorem dX1_press_0 : decode cX1_press 0 = .ok (.aload_n 0, 1) := by decide +kernel
theorem dX1_press_1 : decode cX1_press 1 = .ok (.iload_n 1, 1) := by decide +kernel
theorem dX1_press_2 : decode cX1_press 2 = .ok (.ifCond .lt 13, 3) := by decide +kernel
theorem dX1_press_5 : decode cX1_press 5 = .ok (.iload_n 1, 1) := by decide +kernel
theorem dX1_press_6 : decode cX1_press 6 = .ok (.bipush 9, 2) := by decide +kernel
theorem dX1_press_8 : decode cX1_press 8 = .ok (.if_icmp .gt 7, 3) := by decide +kernel
theorem dX1_press_11 : decode cX1_press 11 = .ok (.iconst 1, 1) := by decide +kernel
theorem dX1_press_12 : decode cX1_press 12 = .ok (.goto 4, 3) := by decide +kernel
theorem dX1_press_15 : decode cX1_press 15 = .ok (.iconst 0, 1) := by decide +kernel
theorem dX1_press_16 : decode cX1_press 16 = .ok (.invokevirtual 105, 3) := by decide +kernel
theorem dX1_press_19 : decode cX1_press 19 = .ok (.ifCond .ne 5, 3) := by decide +kernel
theorem dX1_press_22 : decode cX1_press 22 = .ok (.iconst 0, 1) := by decide +kernel
theorem dX1_press_23 : decode cX1_press 23 = .ok (.ireturn, 1) := by decide +kernel
theorem dX1_press_24 : decode cX1_press 24 = .ok (.aload_n 0, 1) := by decide +kernel
theorem dX1_press_25 : decode cX1_press 25 = .ok (.invokevirtual 109, 3) := by decide +kernel
theorem dX1_press_28 : decode cX1_press 28 = .ok (.istore_n 2, 1) := by decide +kernel
theorem dX1_press_29 : decode cX1_press 29 = .ok (.aload_n 0, 1) := by decide +kernel
theorem dX1_press_30 : decode cX1_press 30 = .ok (.iconst 0, 1) := by decide +kernel
theorem dX1_press_31 : decode cX1_press 31 = .ok (.putfield 33, 3) := by decide +kernel
theorem dX1_press_34 : decode cX1_press 34 = .ok (.aload_n 0, 1) := by decide +kernel
theorem dX1_press_35 : decode cX1_press 35 = .ok (.iconst 0, 1) := by decide +kernel
theorem dX1_press_36 : decode cX1_press 36 = .ok (.putfield 39, 3) := by decide +kernel
theorem dX1_press_39 : decode cX1_press 39 = .ok (.iload_n 1, 1) := by decide +kernel
theorem dX1_press_40 : decode cX1_press 40 = .ok (.bipush 7, 2) := by decide +kernel
theorem dX1_press_42 : decode cX1_press 42 = .ok (.if_icmp .gt 17, 3) := by decide +kernel
theorem dX1_press_45 : decode cX1_press 45 = .ok (.aload_n 0, 1) := by decide +kernel
theorem dX1_press_46 : decode cX1_press 46 = .ok (.getfield 65, 3) := by decide +kernel
theorem dX1_press_49 : decode cX1_press 49 = .ok (.ifCond .eq 10, 3) := by decide +kernel
theorem dX1_press_52 : decode cX1_press 52 = .ok (.aload_n 0, 1) := by decide +kernel
theorem dX1_press_53 : decode cX1_press 53 = .ok (.getfield 68, 3) := by decide +kernel
theorem dX1_press_56 : decode cX1_press 56 = .ok (.ifCond .ne 7, 3) := by decide +kernel
theorem dX1_press_59 : decode cX1_press 59 = .ok (.iconst 1, 1) := by decide +kernel
theorem dX1_press_60 : decode cX1_press 60 = .ok (.goto 4, 3) := by decide +kernel
theorem dX1_press_63 : decode cX1_press 63 = .ok (.iconst 0, 1) := by decide +kernel
theorem dX1_press_64 : decode cX1_press 64 = .ok (.istore_n 3, 1) := by decide +kernel
theorem dX1_press_65 : decode cX1_press 65 = .ok (.iload_n 3, 1) := by decide +kernel
theorem dX1_press_66 : decode cX1_press 66 = .ok (.ifCond .eq 21, 3) := by decide +kernel
theorem dX1_press_69 : decode cX1_press 69 = .ok (.iload_n 1, 1) := by decide +kernel
theorem dX1_press_70 : decode cX1_press 70 = .ok (.bipush 8, 2) := by decide +kernel
theorem dX1_press_72 : decode cX1_press 72 = .ok (.if_icmp .ge 15, 3) := by decide +kernel
theorem dX1_press_75 : decode cX1_press 75 = .ok (.aload_n 0, 1) := by decide +kernel
theorem dX1_press_76 : decode cX1_press 76 = .ok (.getfield 26, 3) := by decide +kernel
theorem dX1_press_79 : decode cX1_press 79 = .ok (.ifCond .ne 8, 3) := by decide +kernel
theorem dX1_press_82 : decode cX1_press 82 = .ok (.aload_n 0, 1) := by decide +kernel
theorem dX1_press_83 : decode cX1_press 83 = .ok (.iconst 0, 1) := by decide +kernel
theorem dX1_press_84 : decode cX1_press 84 = .ok (.invokevirtual 102, 3) := by decide +kernel
theorem dX1_press_87 : decode cX1_press 87 = .ok (.iload_n 3, 1) := by decide +kernel
theorem dX1_press_88 : decode cX1_press 88 = .ok (.ifCond .eq 8, 3) := by decide +kernel
theorem dX1_press_91 : decode cX1_press 91 = .ok (.aload_n 0, 1) := by decide +kernel
theorem dX1_press_92 : decode cX1_press 92 = .ok (.iload_n 1, 1) := by decide +kernel
theorem dX1_press_93 : decode cX1_press 93 = .ok (.invokevirtual 112, 3) := by decide +kernel
theorem dX1_press_96 : decode cX1_press 96 = .ok (.aload_n 0, 1) := by decide +kernel
theorem dX1_press_97 : decode cX1_press 97 = .ok (.invokevirtual 115, 3) := by decide +kernel
theorem dX1_press_100 : decode cX1_press 100 = .ok (.istore 4, 2) := by decide +kernel
theorem dX1_press_102 : decode cX1_press 102 = .ok (.aload_n 0, 1) := by decide +kernel
theorem dX1_press_103 : decode cX1_press 103 = .ok (.invokevirtual 109, 3) := by decide +kernel
theorem dX1_press_106 : decode cX1_press 106 = .ok (.iload_n 2, 1) := by decide +kernel
theorem dX1_press_107 : decode cX1_press 107 = .ok (.if_icmp .ne 7, 3) := by decide +kernel
theorem dX1_press_110 : decode cX1_press 110 = .ok (.iconst 0, 1) := by decide +kernel
theorem dX1_press_111 : decode cX1_press 111 = .ok (.goto 4, 3) := by decide +kernel
theorem dX1_press_114 : decode cX1_press 114 = .ok (.iconst 1, 1) := by decide +kernel
theorem dX1_press_115 : decode cX1_press 115 = .ok (.ireturn, 1) := by decide +kernel
set_option maxRecDepth 20000 in
theorem ggX1_sense_X1_good : GoodIn wsX1_sense wsX1_good := goodIn_r _ [7, 8, 65, 66, 67, 68, 69, 70, 71, 72, 73, 74, 75, 76, 77, 78, 79] (by decide +kernel) (by decide +kernel)
set_option maxRecDepth 20000 in
theorem gX1_sense_X1_good : GoodIn wsX1_sense (wsV RX1 105 RX1 yX1_good wsX1_good) := goodIn_app (goodIn_of _ (by decide +kernel)) ggX1_sense_X1_good
set_option maxRecDepth 20000 in
theorem ggX1_sense_X1_settle : GoodIn wsX1_sense wsX1_settle := goodIn_r _ [12, 13, 14, 15, 6, 16, 2, 17, 18, 19, 20, 21, 22, 23, 24, 25, 26, 27, 28, 29, 30, 31, 32, 33, 34, 35, 36, 37, 38, 39, 40, 41, 42, 43, 44, 45, 46, 47, 48, 49, 50, 51, 52, 53, 54, 55, 56, 57, 58, 59, 60, 61, 62, 63, 64, 65, 66, 67, 68, 69, 70, 71, 72, 73, 74, 75, 76, 77, 78, 79] (by decide +kernel) (by decide +kernel)
set_option maxRecDepth 20000 in
theorem gX1_sense_X1_settle : GoodIn wsX1_sense (wsV RX1 115 RX1 yX1_settle wsX1_settle) := goodIn_app (goodIn_of _ (by decide +kernel)) ggX1_sense_X1_settle
theorem dX1_sense_0 : decode cX1_sense 0 = .ok (.iload_n 1, 1) := by decide +kernel
theorem dX1_sense_1 : decode cX1_sense 1 = .ok (.ifCond .eq 8, 3) := by decide +kernel
theorem dX1_sense_4 : decode cX1_sense 4 = .ok (.iload_n 1, 1) := by decide +kernel
theorem dX1_sense_5 : decode cX1_sense 5 = .ok (.iconst 1, 1) := by decide +kernel
theorem dX1_sense_6 : decode cX1_sense 6 = .ok (.if_icmp .ne 9, 3) := by decide +kernel
theorem dX1_sense_9 : decode cX1_sense 9 = .ok (.sipush (-1000), 3) := by decide +kernel
theorem dX1_sense_12 : decode cX1_sense 12 = .ok (.goto 4, 3) := by decide +kernel
theorem dX1_sense_15 : decode cX1_sense 15 = .ok (.iconst 0, 1) := by decide +kernel
theorem dX1_sense_16 : decode cX1_sense 16 = .ok (.istore_n 3, 1) := by decide +kernel
theorem dX1_sense_17 : decode cX1_sense 17 = .ok (.iload_n 1, 1) := by decide +kernel
theorem dX1_sense_18 : decode cX1_sense 18 = .ok (.iconst 2, 1) := by decide +kernel
theorem dX1_sense_19 : decode cX1_sense 19 = .ok (.if_icmp .ge 9, 3) := by decide +kernel
theorem dX1_sense_22 : decode cX1_sense 22 = .ok (.sipush 1000, 3) := by decide +kernel
theorem dX1_sense_25 : decode cX1_sense 25 = .ok (.goto 25, 3) := by decide +kernel
theorem dX1_sense_28 : decode cX1_sense 28 = .ok (.iload_n 1, 1) := by decide +kernel
theorem dX1_sense_29 : decode cX1_sense 29 = .ok (.iconst 4, 1) := by decide +kernel
theorem dX1_sense_30 : decode cX1_sense 30 = .ok (.if_icmp .ge 8, 3) := by decide +kernel
theorem dX1_sense_33 : decode cX1_sense 33 = .ok (.ldc 118, 2) := by decide +kernel
theorem dX1_sense_35 : decode cX1_sense 35 = .ok (.goto 15, 3) := by decide +kernel
theorem dX1_sense_38 : decode cX1_sense 38 = .ok (.iload_n 1, 1) := by decide +kernel
theorem dX1_sense_39 : decode cX1_sense 39 = .ok (.iconst 4, 1) := by decide +kernel
theorem dX1_sense_40 : decode cX1_sense 40 = .ok (.if_icmp .ne 9, 3) := by decide +kernel
theorem dX1_sense_43 : decode cX1_sense 43 = .ok (.sipush 600, 3) := by decide +kernel
theorem dX1_sense_46 : decode cX1_sense 46 = .ok (.goto 4, 3) := by decide +kernel
theorem dX1_sense_49 : decode cX1_sense 49 = .ok (.iconst 1, 1) := by decide +kernel
theorem dX1_sense_50 : decode cX1_sense 50 = .ok (.istore 4, 2) := by decide +kernel
theorem dX1_sense_52 : decode cX1_sense 52 = .ok (.aload_n 0, 1) := by decide +kernel
theorem dX1_sense_53 : decode cX1_sense 53 = .ok (.iload_n 1, 1) := by decide +kernel
theorem dX1_sense_54 : decode cX1_sense 54 = .ok (.ifCond .lt 24, 3) := by decide +kernel
theorem dX1_sense_57 : decode cX1_sense 57 = .ok (.iload_n 1, 1) := by decide +kernel
theorem dX1_sense_58 : decode cX1_sense 58 = .ok (.bipush 6, 2) := by decide +kernel
theorem dX1_sense_60 : decode cX1_sense 60 = .ok (.if_icmp .gt 18, 3) := by decide +kernel
theorem dX1_sense_63 : decode cX1_sense 63 = .ok (.iload_n 2, 1) := by decide +kernel
theorem dX1_sense_64 : decode cX1_sense 64 = .ok (.iload_n 3, 1) := by decide +kernel
theorem dX1_sense_65 : decode cX1_sense 65 = .ok (.if_icmp .lt 13, 3) := by decide +kernel
theorem dX1_sense_68 : decode cX1_sense 68 = .ok (.iload_n 2, 1) := by decide +kernel
theorem dX1_sense_69 : decode cX1_sense 69 = .ok (.iload 4, 2) := by decide +kernel
theorem dX1_sense_71 : decode cX1_sense 71 = .ok (.if_icmp .gt 7, 3) := by decide +kernel
theorem dX1_sense_74 : decode cX1_sense 74 = .ok (.iconst 1, 1) := by decide +kernel
theorem dX1_sense_75 : decode cX1_sense 75 = .ok (.goto 4, 3) := by decide +kernel
theorem dX1_sense_78 : decode cX1_sense 78 = .ok (.iconst 0, 1) := by decide +kernel
theorem dX1_sense_79 : decode cX1_sense 79 = .ok (.invokevirtual 105, 3) := by decide +kernel
theorem dX1_sense_82 : decode cX1_sense 82 = .ok (.ifCond .ne 5, 3) := by decide +kernel
theorem dX1_sense_85 : decode cX1_sense 85 = .ok (.iconst 0, 1) := by decide +kernel
theorem dX1_sense_86 : decode cX1_sense 86 = .ok (.ireturn, 1) := by decide +kernel
theorem dX1_sense_87 : decode cX1_sense 87 = .ok (.aload_n 0, 1) := by decide +kernel
theorem dX1_sense_88 : decode cX1_sense 88 = .ok (.getfield 7, 3) := by decide +kernel
theorem dX1_sense_91 : decode cX1_sense 91 = .ok (.iload_n 1, 1) := by decide +kernel
theorem dX1_sense_92 : decode cX1_sense 92 = .ok (.iload_n 2, 1) := by decide +kernel
theorem dX1_sense_93 : decode cX1_sense 93 = .ok (.iastore, 1) := by decide +kernel
theorem dX1_sense_94 : decode cX1_sense 94 = .ok (.aload_n 0, 1) := by decide +kernel
theorem dX1_sense_95 : decode cX1_sense 95 = .ok (.invokevirtual 115, 3) := by decide +kernel
theorem dX1_sense_98 : decode cX1_sense 98 = .ok (.ireturn, 1) := by decide +kernel
set_option maxRecDepth 20000 in
theorem ggX1_channel_X1_good : GoodIn wsX1_channel wsX1_good := goodIn_r _ [7, 8, 64, 65, 66, 67, 68, 69, 70, 71, 72, 73, 74, 75, 76, 77, 78] (by decide +kernel) (by decide +kernel)
set_option maxRecDepth 20000 in
theorem gX1_channel_X1_good : GoodIn wsX1_channel (wsV RX1 105 RX1 yX1_good wsX1_good) := goodIn_app (goodIn_of _ (by decide +kernel)) ggX1_channel_X1_good
set_option maxRecDepth 20000 in
theorem ggX1_channel_X1_settle : GoodIn wsX1_channel wsX1_settle := goodIn_r _ [12, 13, 14, 15, 6, 16, 17, 18, 19, 20, 21, 22, 23, 24, 25, 26, 1, 2, 27, 28, 29, 30, 31, 32, 33, 34, 35, 36, 37, 38, 39, 40, 41, 42, 43, 44, 45, 46, 47, 48, 49, 50, 51, 52, 53, 54, 55, 56, 57, 58, 59, 60, 61, 62, 63, 64, 65, 66, 67, 68, 69, 70, 71, 72, 73, 74, 75, 76, 77, 78] (by decide +kernel) (by decide +kernel)
set_option maxRecDepth 20000 in
theorem gX1_channel_X1_settle : GoodIn wsX1_channel (wsV RX1 115 RX1 yX1_settle wsX1_settle) := goodIn_app (goodIn_of _ (by decide +kernel)) ggX1_channel_X1_settle
theorem dX1_channel_0 : decode cX1_channel 0 = .ok (.aload_n 0, 1) := by decide +kernel
theorem dX1_channel_1 : decode cX1_channel 1 = .ok (.iload_n 1, 1) := by decide +kernel
theorem dX1_channel_2 : decode cX1_channel 2 = .ok (.ifCond .eq 8, 3) := by decide +kernel
theorem dX1_channel_5 : decode cX1_channel 5 = .ok (.iload_n 1, 1) := by decide +kernel
theorem dX1_channel_6 : decode cX1_channel 6 = .ok (.iconst 1, 1) := by decide +kernel
theorem dX1_channel_7 : decode cX1_channel 7 = .ok (.if_icmp .ne 7, 3) := by decide +kernel
theorem dX1_channel_10 : decode cX1_channel 10 = .ok (.iconst 1, 1) := by decide +kernel
theorem dX1_channel_11 : decode cX1_channel 11 = .ok (.goto 4, 3) := by decide +kernel
theorem dX1_channel_14 : decode cX1_channel 14 = .ok (.iconst 0, 1) := by decide +kernel
theorem dX1_channel_15 : decode cX1_channel 15 = .ok (.invokevirtual 105, 3) := by decide +kernel
theorem dX1_channel_18 : decode cX1_channel 18 = .ok (.ifCond .ne 5, 3) := by decide +kernel
theorem dX1_channel_21 : decode cX1_channel 21 = .ok (.iconst 0, 1) := by decide +kernel
theorem dX1_channel_22 : decode cX1_channel 22 = .ok (.ireturn, 1) := by decide +kernel
theorem dX1_channel_23 : decode cX1_channel 23 = .ok (.aload_n 0, 1) := by decide +kernel
theorem dX1_channel_24 : decode cX1_channel 24 = .ok (.iload_n 1, 1) := by decide +kernel
theorem dX1_channel_25 : decode cX1_channel 25 = .ok (.ifCond .ne 15, 3) := by decide +kernel
theorem dX1_channel_28 : decode cX1_channel 28 = .ok (.iload_n 2, 1) := by decide +kernel
theorem dX1_channel_29 : decode cX1_channel 29 = .ok (.ifCond .ne 7, 3) := by decide +kernel
theorem dX1_channel_32 : decode cX1_channel 32 = .ok (.iconst 1, 1) := by decide +kernel
theorem dX1_channel_33 : decode cX1_channel 33 = .ok (.goto 11, 3) := by decide +kernel
theorem dX1_channel_36 : decode cX1_channel 36 = .ok (.iconst 0, 1) := by decide +kernel
theorem dX1_channel_37 : decode cX1_channel 37 = .ok (.goto 7, 3) := by decide +kernel
theorem dX1_channel_40 : decode cX1_channel 40 = .ok (.aload_n 0, 1) := by decide +kernel
theorem dX1_channel_41 : decode cX1_channel 41 = .ok (.getfield 65, 3) := by decide +kernel
theorem dX1_channel_44 : decode cX1_channel 44 = .ok (.putfield 65, 3) := by decide +kernel
theorem dX1_channel_47 : decode cX1_channel 47 = .ok (.aload_n 0, 1) := by decide +kernel
theorem dX1_channel_48 : decode cX1_channel 48 = .ok (.iload_n 1, 1) := by decide +kernel
theorem dX1_channel_49 : decode cX1_channel 49 = .ok (.iconst 1, 1) := by decide +kernel
theorem dX1_channel_50 : decode cX1_channel 50 = .ok (.if_icmp .ne 15, 3) := by decide +kernel
theorem dX1_channel_53 : decode cX1_channel 53 = .ok (.iload_n 2, 1) := by decide +kernel
theorem dX1_channel_54 : decode cX1_channel 54 = .ok (.ifCond .ne 7, 3) := by decide +kernel
theorem dX1_channel_57 : decode cX1_channel 57 = .ok (.iconst 1, 1) := by decide +kernel
theorem dX1_channel_58 : decode cX1_channel 58 = .ok (.goto 11, 3) := by decide +kernel
theorem dX1_channel_61 : decode cX1_channel 61 = .ok (.iconst 0, 1) := by decide +kernel
theorem dX1_channel_62 : decode cX1_channel 62 = .ok (.goto 7, 3) := by decide +kernel
theorem dX1_channel_65 : decode cX1_channel 65 = .ok (.aload_n 0, 1) := by decide +kernel
theorem dX1_channel_66 : decode cX1_channel 66 = .ok (.getfield 68, 3) := by decide +kernel
theorem dX1_channel_69 : decode cX1_channel 69 = .ok (.putfield 68, 3) := by decide +kernel
theorem dX1_channel_72 : decode cX1_channel 72 = .ok (.aload_n 0, 1) := by decide +kernel
theorem dX1_channel_73 : decode cX1_channel 73 = .ok (.invokevirtual 115, 3) := by decide +kernel
theorem dX1_channel_76 : decode cX1_channel 76 = .ok (.ireturn, 1) := by decide +kernel
set_option maxRecDepth 20000 in
theorem ggX1_engage_X1_base : GoodIn wsX1_engage wsX1_base := goodIn_r _ [12, 13, 14, 15, 11, 16, 17, 18, 19, 20, 21, 22, 5, 23, 24, 25, 26, 27, 28, 29, 30, 31, 32, 33, 6, 34, 64, 65, 66, 67, 68, 69, 70, 71, 72, 73, 74, 75, 76, 77, 78] (by decide +kernel) (by decide +kernel)
set_option maxRecDepth 20000 in
theorem gX1_engage_X1_base : GoodIn wsX1_engage (wsV RX1 102 RX1 yX1_base wsX1_base) := goodIn_app (goodIn_of _ (by decide +kernel)) ggX1_engage_X1_base
set_option maxRecDepth 20000 in
theorem ggX1_engage_X1_settle : GoodIn wsX1_engage wsX1_settle := goodIn_r _ [38, 39, 40, 41, 11, 42, 7, 5, 43, 6, 17, 18, 44, 45, 46, 47, 3, 4, 48, 49, 50, 51, 52, 53, 54, 55, 56, 57, 58, 59, 60, 61, 62, 63, 2, 23, 34, 13, 14, 15, 16, 19, 20, 21, 22, 24, 25, 26, 27, 28, 29, 30, 31, 32, 33, 64, 65, 66, 67, 68, 69, 70, 71, 72, 73, 74, 75, 76, 77, 78] (by decide +kernel) (by decide +kernel)
set_option maxRecDepth 20000 in
theorem gX1_engage_X1_settle : GoodIn wsX1_engage (wsV RX1 115 RX1 yX1_settle wsX1_settle) := goodIn_app (goodIn_of _ (by decide +kernel)) ggX1_engage_X1_settle
theorem dX1_engage_0 : decode cX1_engage 0 = .ok (.aload_n 0, 1) := by decide +kernel
theorem dX1_engage_1 : decode cX1_engage 1 = .ok (.iconst 0, 1) := by decide +kernel
theorem dX1_engage_2 : decode cX1_engage 2 = .ok (.putfield 20, 3) := by decide +kernel
theorem dX1_engage_5 : decode cX1_engage 5 = .ok (.aload_n 0, 1) := by decide +kernel
theorem dX1_engage_6 : decode cX1_engage 6 = .ok (.getfield 62, 3) := by decide +kernel
theorem dX1_engage_9 : decode cX1_engage 9 = .ok (.ifCond .ne 46, 3) := by decide +kernel
theorem dX1_engage_12 : decode cX1_engage 12 = .ok (.aload_n 0, 1) := by decide +kernel
theorem dX1_engage_13 : decode cX1_engage 13 = .ok (.getfield 65, 3) := by decide +kernel
theorem dX1_engage_16 : decode cX1_engage 16 = .ok (.ifCond .eq 10, 3) := by decide +kernel
theorem dX1_engage_19 : decode cX1_engage 19 = .ok (.aload_n 0, 1) := by decide +kernel
theorem dX1_engage_20 : decode cX1_engage 20 = .ok (.getfield 68, 3) := by decide +kernel
theorem dX1_engage_23 : decode cX1_engage 23 = .ok (.ifCond .ne 32, 3) := by decide +kernel
theorem dX1_engage_26 : decode cX1_engage 26 = .ok (.aload_n 0, 1) := by decide +kernel
theorem dX1_engage_27 : decode cX1_engage 27 = .ok (.getfield 26, 3) := by decide +kernel
theorem dX1_engage_30 : decode cX1_engage 30 = .ok (.iconst 5, 1) := by decide +kernel
theorem dX1_engage_31 : decode cX1_engage 31 = .ok (.if_icmp .eq 24, 3) := by decide +kernel
theorem dX1_engage_34 : decode cX1_engage 34 = .ok (.aload_n 0, 1) := by decide +kernel
theorem dX1_engage_35 : decode cX1_engage 35 = .ok (.getfield 36, 3) := by decide +kernel
theorem dX1_engage_38 : decode cX1_engage 38 = .ok (.bipush 7, 2) := by decide +kernel
theorem dX1_engage_40 : decode cX1_engage 40 = .ok (.if_icmp .eq 15, 3) := by decide +kernel
theorem dX1_engage_43 : decode cX1_engage 43 = .ok (.aload_n 0, 1) := by decide +kernel
theorem dX1_engage_44 : decode cX1_engage 44 = .ok (.getfield 7, 3) := by decide +kernel
theorem dX1_engage_47 : decode cX1_engage 47 = .ok (.iconst 4, 1) := by decide +kernel
theorem dX1_engage_48 : decode cX1_engage 48 = .ok (.iaload, 1) := by decide +kernel
theorem dX1_engage_49 : decode cX1_engage 49 = .ok (.sipush 400, 3) := by decide +kernel
theorem dX1_engage_52 : decode cX1_engage 52 = .ok (.if_icmp .le 5, 3) := by decide +kernel
theorem dX1_engage_55 : decode cX1_engage 55 = .ok (.iconst 0, 1) := by decide +kernel
theorem dX1_engage_56 : decode cX1_engage 56 = .ok (.ireturn, 1) := by decide +kernel
theorem dX1_engage_57 : decode cX1_engage 57 = .ok (.aload_n 0, 1) := by decide +kernel
theorem dX1_engage_58 : decode cX1_engage 58 = .ok (.getfield 26, 3) := by decide +kernel
theorem dX1_engage_61 : decode cX1_engage 61 = .ok (.ifCond .ne 8, 3) := by decide +kernel
theorem dX1_engage_64 : decode cX1_engage 64 = .ok (.aload_n 0, 1) := by decide +kernel
theorem dX1_engage_65 : decode cX1_engage 65 = .ok (.iconst 0, 1) := by decide +kernel
theorem dX1_engage_66 : decode cX1_engage 66 = .ok (.invokevirtual 102, 3) := by decide +kernel
theorem dX1_engage_69 : decode cX1_engage 69 = .ok (.aload_n 0, 1) := by decide +kernel
theorem dX1_engage_70 : decode cX1_engage 70 = .ok (.iconst 1, 1) := by decide +kernel
theorem dX1_engage_71 : decode cX1_engage 71 = .ok (.putfield 62, 3) := by decide +kernel
theorem dX1_engage_74 : decode cX1_engage 74 = .ok (.aload_n 0, 1) := by decide +kernel
theorem dX1_engage_75 : decode cX1_engage 75 = .ok (.invokevirtual 115, 3) := by decide +kernel
theorem dX1_engage_78 : decode cX1_engage 78 = .ok (.istore_n 1, 1) := by decide +kernel
theorem dX1_engage_79 : decode cX1_engage 79 = .ok (.iconst 1, 1) := by decide +kernel
theorem dX1_engage_80 : decode cX1_engage 80 = .ok (.ireturn, 1) := by decide +kernel
theorem dX1_disconnect_0 : decode cX1_disconnect 0 = .ok (.aload_n 0, 1) := by decide +kernel
theorem dX1_disconnect_1 : decode cX1_disconnect 1 = .ok (.iconst 0, 1) := by decide +kernel
theorem dX1_disconnect_2 : decode cX1_disconnect 2 = .ok (.putfield 20, 3) := by decide +kernel
theorem dX1_disconnect_5 : decode cX1_disconnect 5 = .ok (.aload_n 0, 1) := by decide +kernel
theorem dX1_disconnect_6 : decode cX1_disconnect 6 = .ok (.getfield 62, 3) := by decide +kernel
theorem dX1_disconnect_9 : decode cX1_disconnect 9 = .ok (.ifCond .eq 7, 3) := by decide +kernel
theorem dX1_disconnect_12 : decode cX1_disconnect 12 = .ok (.iconst 2, 1) := by decide +kernel
theorem dX1_disconnect_13 : decode cX1_disconnect 13 = .ok (.goto 15, 3) := by decide +kernel
theorem dX1_disconnect_16 : decode cX1_disconnect 16 = .ok (.aload_n 0, 1) := by decide +kernel
theorem dX1_disconnect_17 : decode cX1_disconnect 17 = .ok (.getfield 59, 3) := by decide +kernel
theorem dX1_disconnect_20 : decode cX1_disconnect 20 = .ok (.ifCond .eq 7, 3) := by decide +kernel
theorem dX1_disconnect_23 : decode cX1_disconnect 23 = .ok (.iconst 1, 1) := by decide +kernel
theorem dX1_disconnect_24 : decode cX1_disconnect 24 = .ok (.goto 4, 3) := by decide +kernel
theorem dX1_disconnect_27 : decode cX1_disconnect 27 = .ok (.iconst 0, 1) := by decide +kernel
theorem dX1_disconnect_28 : decode cX1_disconnect 28 = .ok (.istore_n 1, 1) := by decide +kernel
theorem dX1_disconnect_29 : decode cX1_disconnect 29 = .ok (.aload_n 0, 1) := by decide +kernel
theorem dX1_disconnect_30 : decode cX1_disconnect 30 = .ok (.aload_n 0, 1) := by decide +kernel
theorem dX1_disconnect_31 : decode cX1_disconnect 31 = .ok (.getfield 62, 3) := by decide +kernel
theorem dX1_disconnect_34 : decode cX1_disconnect 34 = .ok (.putfield 59, 3) := by decide +kernel
theorem dX1_disconnect_37 : decode cX1_disconnect 37 = .ok (.aload_n 0, 1) := by decide +kernel
theorem dX1_disconnect_38 : decode cX1_disconnect 38 = .ok (.iconst 0, 1) := by decide +kernel
theorem dX1_disconnect_39 : decode cX1_disconnect 39 = .ok (.putfield 62, 3) := by decide +kernel
theorem dX1_disconnect_42 : decode cX1_disconnect 42 = .ok (.iload_n 1, 1) := by decide +kernel
theorem dX1_disconnect_43 : decode cX1_disconnect 43 = .ok (.ireturn, 1) := by decide +kernel
set_option maxRecDepth 20000 in
theorem ggX1_step_X1_good : GoodIn wsX1_step wsX1_good := goodIn_r _ [7, 8, 9, 10, 11, 12, 13, 14, 15, 16, 17, 18, 19, 20, 21, 22, 23] (by decide +kernel) (by decide +kernel)
set_option maxRecDepth 20000 in
theorem gX1_step_X1_good : GoodIn wsX1_step (wsV RX1 105 RX1 yX1_good wsX1_good) := goodIn_app (goodIn_of _ (by decide +kernel)) ggX1_step_X1_good
theorem dX1_step_0 : decode cX1_step 0 = .ok (.aload_n 0, 1) := by decide +kernel
theorem dX1_step_1 : decode cX1_step 1 = .ok (.iload_n 1, 1) := by decide +kernel
theorem dX1_step_2 : decode cX1_step 2 = .ok (.iconst 1, 1) := by decide +kernel
theorem dX1_step_3 : decode cX1_step 3 = .ok (.if_icmp .lt 7, 3) := by decide +kernel
theorem dX1_step_6 : decode cX1_step 6 = .ok (.iconst 1, 1) := by decide +kernel
theorem dX1_step_7 : decode cX1_step 7 = .ok (.goto 4, 3) := by decide +kernel
theorem dX1_step_10 : decode cX1_step 10 = .ok (.iconst 0, 1) := by decide +kernel
theorem dX1_step_11 : decode cX1_step 11 = .ok (.invokevirtual 105, 3) := by decide +kernel
theorem dX1_step_14 : decode cX1_step 14 = .ok (.ifCond .ne 5, 3) := by decide +kernel
theorem dX1_step_17 : decode cX1_step 17 = .ok (.iconst 0, 1) := by decide +kernel
theorem dX1_step_18 : decode cX1_step 18 = .ok (.ireturn, 1) := by decide +kernel
theorem dX1_step_19 : decode cX1_step 19 = .ok (.iload_n 1, 1) := by decide +kernel
theorem dX1_step_20 : decode cX1_step 20 = .ok (.bipush 10, 2) := by decide +kernel
theorem dX1_step_22 : decode cX1_step 22 = .ok (.if_icmp .le 8, 3) := by decide +kernel
theorem dX1_step_25 : decode cX1_step 25 = .ok (.bipush 10, 2) := by decide +kernel
theorem dX1_step_27 : decode cX1_step 27 = .ok (.goto 4, 3) := by decide +kernel
theorem dX1_step_30 : decode cX1_step 30 = .ok (.iload_n 1, 1) := by decide +kernel
theorem dX1_step_31 : decode cX1_step 31 = .ok (.istore_n 2, 1) := by decide +kernel
theorem dX1_step_32 : decode cX1_step 32 = .ok (.aload_n 0, 1) := by decide +kernel
theorem dX1_step_33 : decode cX1_step 33 = .ok (.aload_n 0, 1) := by decide +kernel
theorem dX1_step_34 : decode cX1_step 34 = .ok (.getfield 33, 3) := by decide +kernel
theorem dX1_step_37 : decode cX1_step 37 = .ok (.iload_n 2, 1) := by decide +kernel
theorem dX1_step_38 : decode cX1_step 38 = .ok (.if_icmp .le 12, 3) := by decide +kernel
theorem dX1_step_41 : decode cX1_step 41 = .ok (.aload_n 0, 1) := by decide +kernel
theorem dX1_step_42 : decode cX1_step 42 = .ok (.getfield 33, 3) := by decide +kernel
theorem dX1_step_45 : decode cX1_step 45 = .ok (.iload_n 2, 1) := by decide +kernel
theorem dX1_step_46 : decode cX1_step 46 = .ok (.isub, 1) := by decide +kernel
theorem dX1_step_47 : decode cX1_step 47 = .ok (.goto 4, 3) := by decide +kernel
theorem dX1_step_50 : decode cX1_step 50 = .ok (.iconst 0, 1) := by decide +kernel
theorem dX1_step_51 : decode cX1_step 51 = .ok (.putfield 33, 3) := by decide +kernel
theorem dX1_step_54 : decode cX1_step 54 = .ok (.aload_n 0, 1) := by decide +kernel
theorem dX1_step_55 : decode cX1_step 55 = .ok (.aload_n 0, 1) := by decide +kernel
theorem dX1_step_56 : decode cX1_step 56 = .ok (.getfield 39, 3) := by decide +kernel
theorem dX1_step_59 : decode cX1_step 59 = .ok (.iload_n 2, 1) := by decide +kernel
theorem dX1_step_60 : decode cX1_step 60 = .ok (.if_icmp .le 12, 3) := by decide +kernel
theorem dX1_step_63 : decode cX1_step 63 = .ok (.aload_n 0, 1) := by decide +kernel
theorem dX1_step_64 : decode cX1_step 64 = .ok (.getfield 39, 3) := by decide +kernel
theorem dX1_step_67 : decode cX1_step 67 = .ok (.iload_n 2, 1) := by decide +kernel
theorem dX1_step_68 : decode cX1_step 68 = .ok (.isub, 1) := by decide +kernel
theorem dX1_step_69 : decode cX1_step 69 = .ok (.goto 4, 3) := by decide +kernel
theorem dX1_step_72 : decode cX1_step 72 = .ok (.iconst 0, 1) := by decide +kernel
theorem dX1_step_73 : decode cX1_step 73 = .ok (.putfield 39, 3) := by decide +kernel
theorem dX1_step_76 : decode cX1_step 76 = .ok (.aload_n 0, 1) := by decide +kernel
theorem dX1_step_77 : decode cX1_step 77 = .ok (.getfield 33, 3) := by decide +kernel
theorem dX1_step_80 : decode cX1_step 80 = .ok (.ifCond .le 7, 3) := by decide +kernel
theorem dX1_step_83 : decode cX1_step 83 = .ok (.iconst 1, 1) := by decide +kernel
theorem dX1_step_84 : decode cX1_step 84 = .ok (.goto 4, 3) := by decide +kernel
theorem dX1_step_87 : decode cX1_step 87 = .ok (.iconst 0, 1) := by decide +kernel
theorem dX1_step_88 : decode cX1_step 88 = .ok (.aload_n 0, 1) := by decide +kernel
theorem dX1_step_89 : decode cX1_step 89 = .ok (.getfield 39, 3) := by decide +kernel
theorem dX1_step_92 : decode cX1_step 92 = .ok (.ifCond .le 7, 3) := by decide +kernel
theorem dX1_step_95 : decode cX1_step 95 = .ok (.iconst 1, 1) := by decide +kernel
theorem dX1_step_96 : decode cX1_step 96 = .ok (.goto 4, 3) := by decide +kernel
theorem dX1_step_99 : decode cX1_step 99 = .ok (.iconst 0, 1) := by decide +kernel
theorem dX1_step_100 : decode cX1_step 100 = .ok (.iadd, 1) := by decide +kernel
theorem dX1_step_101 : decode cX1_step 101 = .ok (.ireturn, 1) := by decide +kernel
set_option maxRecDepth 20000 in
theorem ggX1_mode_X1_good : GoodIn wsX1_mode wsX1_good := goodIn_r _ [7, 8, 9, 10, 11, 12, 13, 14, 15, 16, 17, 18, 19, 20, 21, 22, 23] (by decide +kernel) (by decide +kernel)
set_option maxRecDepth 20000 in
theorem gX1_mode_X1_good : GoodIn wsX1_mode (wsV RX1 105 RX1 yX1_good wsX1_good) := goodIn_app (goodIn_of _ (by decide +kernel)) ggX1_mode_X1_good
theorem dX1_mode_0 : decode cX1_mode 0 = .ok (.aload_n 0, 1) := by decide +kernel
theorem dX1_mode_1 : decode cX1_mode 1 = .ok (.iload_n 1, 1) := by decide +kernel
theorem dX1_mode_2 : decode cX1_mode 2 = .ok (.ifCond .eq 8, 3) := by decide +kernel
theorem dX1_mode_5 : decode cX1_mode 5 = .ok (.iload_n 1, 1) := by decide +kernel
theorem dX1_mode_6 : decode cX1_mode 6 = .ok (.iconst 1, 1) := by decide +kernel
theorem dX1_mode_7 : decode cX1_mode 7 = .ok (.if_icmp .ne 7, 3) := by decide +kernel
theorem dX1_mode_10 : decode cX1_mode 10 = .ok (.iconst 1, 1) := by decide +kernel
theorem dX1_mode_11 : decode cX1_mode 11 = .ok (.goto 4, 3) := by decide +kernel
theorem dX1_mode_14 : decode cX1_mode 14 = .ok (.iconst 0, 1) := by decide +kernel
theorem dX1_mode_15 : decode cX1_mode 15 = .ok (.invokevirtual 105, 3) := by decide +kernel
theorem dX1_mode_18 : decode cX1_mode 18 = .ok (.ifCond .ne 7, 3) := by decide +kernel
theorem dX1_mode_21 : decode cX1_mode 21 = .ok (.iconst 0, 1) := by decide +kernel
theorem dX1_mode_22 : decode cX1_mode 22 = .ok (.goto 18, 3) := by decide +kernel
theorem dX1_mode_25 : decode cX1_mode 25 = .ok (.iload_n 1, 1) := by decide +kernel
theorem dX1_mode_26 : decode cX1_mode 26 = .ok (.ifCond .ne 10, 3) := by decide +kernel
theorem dX1_mode_29 : decode cX1_mode 29 = .ok (.aload_n 0, 1) := by decide +kernel
theorem dX1_mode_30 : decode cX1_mode 30 = .ok (.getfield 26, 3) := by decide +kernel
theorem dX1_mode_33 : decode cX1_mode 33 = .ok (.goto 7, 3) := by decide +kernel
theorem dX1_mode_36 : decode cX1_mode 36 = .ok (.aload_n 0, 1) := by decide +kernel
theorem dX1_mode_37 : decode cX1_mode 37 = .ok (.getfield 36, 3) := by decide +kernel
theorem dX1_mode_40 : decode cX1_mode 40 = .ok (.ireturn, 1) := by decide +kernel
set_option maxRecDepth 20000 in
theorem ggX1_armed_X1_good : GoodIn wsX1_armed wsX1_good := goodIn_r _ [8, 9, 10, 11, 12, 13, 14, 15, 16, 17, 18, 19, 20, 21, 22, 23, 24] (by decide +kernel) (by decide +kernel)
set_option maxRecDepth 20000 in
theorem gX1_armed_X1_good : GoodIn wsX1_armed (wsV RX1 105 RX1 yX1_good wsX1_good) := goodIn_app (goodIn_of _ (by decide +kernel)) ggX1_armed_X1_good
theorem dX1_armed_0 : decode cX1_armed 0 = .ok (.aload_n 0, 1) := by decide +kernel
theorem dX1_armed_1 : decode cX1_armed 1 = .ok (.iload_n 1, 1) := by decide +kernel
theorem dX1_armed_2 : decode cX1_armed 2 = .ok (.ifCond .lt 12, 3) := by decide +kernel
theorem dX1_armed_5 : decode cX1_armed 5 = .ok (.iload_n 1, 1) := by decide +kernel
theorem dX1_armed_6 : decode cX1_armed 6 = .ok (.iconst 3, 1) := by decide +kernel
theorem dX1_armed_7 : decode cX1_armed 7 = .ok (.if_icmp .gt 7, 3) := by decide +kernel
theorem dX1_armed_10 : decode cX1_armed 10 = .ok (.iconst 1, 1) := by decide +kernel
theorem dX1_armed_11 : decode cX1_armed 11 = .ok (.goto 4, 3) := by decide +kernel
theorem dX1_armed_14 : decode cX1_armed 14 = .ok (.iconst 0, 1) := by decide +kernel
theorem dX1_armed_15 : decode cX1_armed 15 = .ok (.invokevirtual 105, 3) := by decide +kernel
theorem dX1_armed_18 : decode cX1_armed 18 = .ok (.ifCond .ne 5, 3) := by decide +kernel
theorem dX1_armed_21 : decode cX1_armed 21 = .ok (.iconst 0, 1) := by decide +kernel
theorem dX1_armed_22 : decode cX1_armed 22 = .ok (.ireturn, 1) := by decide +kernel
theorem dX1_armed_23 : decode cX1_armed 23 = .ok (.iload_n 1, 1) := by decide +kernel
theorem dX1_armed_24 : decode cX1_armed 24 = .ok (.ifCond .ne 19, 3) := by decide +kernel
theorem dX1_armed_27 : decode cX1_armed 27 = .ok (.aload_n 0, 1) := by decide +kernel
theorem dX1_armed_28 : decode cX1_armed 28 = .ok (.getfield 42, 3) := by decide +kernel
theorem dX1_armed_31 : decode cX1_armed 31 = .ok (.iconst 1, 1) := by decide +kernel
theorem dX1_armed_32 : decode cX1_armed 32 = .ok (.if_icmp .ne 7, 3) := by decide +kernel
theorem dX1_armed_35 : decode cX1_armed 35 = .ok (.iconst 1, 1) := by decide +kernel
theorem dX1_armed_36 : decode cX1_armed 36 = .ok (.goto 60, 3) := by decide +kernel
theorem dX1_armed_39 : decode cX1_armed 39 = .ok (.iconst 0, 1) := by decide +kernel
theorem dX1_armed_40 : decode cX1_armed 40 = .ok (.goto 56, 3) := by decide +kernel
theorem dX1_armed_43 : decode cX1_armed 43 = .ok (.iload_n 1, 1) := by decide +kernel
theorem dX1_armed_44 : decode cX1_armed 44 = .ok (.iconst 1, 1) := by decide +kernel
theorem dX1_armed_45 : decode cX1_armed 45 = .ok (.if_icmp .ne 19, 3) := by decide +kernel
theorem dX1_armed_48 : decode cX1_armed 48 = .ok (.aload_n 0, 1) := by decide +kernel
theorem dX1_armed_49 : decode cX1_armed 49 = .ok (.getfield 42, 3) := by decide +kernel
theorem dX1_armed_52 : decode cX1_armed 52 = .ok (.iconst 2, 1) := by decide +kernel
theorem dX1_armed_53 : decode cX1_armed 53 = .ok (.if_icmp .ne 7, 3) := by decide +kernel
theorem dX1_armed_56 : decode cX1_armed 56 = .ok (.iconst 1, 1) := by decide +kernel
theorem dX1_armed_57 : decode cX1_armed 57 = .ok (.goto 39, 3) := by decide +kernel
theorem dX1_armed_60 : decode cX1_armed 60 = .ok (.iconst 0, 1) := by decide +kernel
theorem dX1_armed_61 : decode cX1_armed 61 = .ok (.goto 35, 3) := by decide +kernel
theorem dX1_armed_64 : decode cX1_armed 64 = .ok (.iload_n 1, 1) := by decide +kernel
theorem dX1_armed_65 : decode cX1_armed 65 = .ok (.iconst 2, 1) := by decide +kernel
theorem dX1_armed_66 : decode cX1_armed 66 = .ok (.if_icmp .ne 10, 3) := by decide +kernel
theorem dX1_armed_69 : decode cX1_armed 69 = .ok (.aload_n 0, 1) := by decide +kernel
theorem dX1_armed_70 : decode cX1_armed 70 = .ok (.getfield 45, 3) := by decide +kernel
theorem dX1_armed_73 : decode cX1_armed 73 = .ok (.goto 23, 3) := by decide +kernel
theorem dX1_armed_76 : decode cX1_armed 76 = .ok (.aload_n 0, 1) := by decide +kernel
theorem dX1_armed_77 : decode cX1_armed 77 = .ok (.getfield 36, 3) := by decide +kernel
theorem dX1_armed_80 : decode cX1_armed 80 = .ok (.ifCond .le 15, 3) := by decide +kernel
theorem dX1_armed_83 : decode cX1_armed 83 = .ok (.aload_n 0, 1) := by decide +kernel
theorem dX1_armed_84 : decode cX1_armed 84 = .ok (.getfield 36, 3) := by decide +kernel
theorem dX1_armed_87 : decode cX1_armed 87 = .ok (.iconst 4, 1) := by decide +kernel
theorem dX1_armed_88 : decode cX1_armed 88 = .ok (.if_icmp .ge 7, 3) := by decide +kernel
theorem dX1_armed_91 : decode cX1_armed 91 = .ok (.iconst 1, 1) := by decide +kernel
theorem dX1_armed_92 : decode cX1_armed 92 = .ok (.goto 4, 3) := by decide +kernel
theorem dX1_armed_95 : decode cX1_armed 95 = .ok (.iconst 0, 1) := by decide +kernel
theorem dX1_armed_96 : decode cX1_armed 96 = .ok (.ireturn, 1) := by decide +kernel
theorem dX1_shown_0 : decode cX1_shown 0 = .ok (.aload_n 0, 1) := by decide +kernel
theorem dX1_shown_1 : decode cX1_shown 1 = .ok (.iconst 0, 1) := by decide +kernel
theorem dX1_shown_2 : decode cX1_shown 2 = .ok (.putfield 20, 3) := by decide +kernel
theorem dX1_shown_5 : decode cX1_shown 5 = .ok (.aload_n 0, 1) := by decide +kernel
theorem dX1_shown_6 : decode cX1_shown 6 = .ok (.getfield 26, 3) := by decide +kernel
theorem dX1_shown_9 : decode cX1_shown 9 = .ok (.ifCond .le 7, 3) := by decide +kernel
theorem dX1_shown_12 : decode cX1_shown 12 = .ok (.iconst 1, 1) := by decide +kernel
theorem dX1_shown_13 : decode cX1_shown 13 = .ok (.goto 4, 3) := by decide +kernel
theorem dX1_shown_16 : decode cX1_shown 16 = .ok (.iconst 0, 1) := by decide +kernel
theorem dX1_shown_17 : decode cX1_shown 17 = .ok (.istore_n 1, 1) := by decide +kernel
theorem dX1_shown_18 : decode cX1_shown 18 = .ok (.aload_n 0, 1) := by decide +kernel
theorem dX1_shown_19 : decode cX1_shown 19 = .ok (.getfield 62, 3) := by decide +kernel
theorem dX1_shown_22 : decode cX1_shown 22 = .ok (.ifCond .eq 9, 3) := by decide +kernel
theorem dX1_shown_25 : decode cX1_shown 25 = .ok (.iload_n 1, 1) := by decide +kernel
theorem dX1_shown_26 : decode cX1_shown 26 = .ok (.iconst 2, 1) := by decide +kernel
theorem dX1_shown_27 : decode cX1_shown 27 = .ok (.iadd, 1) := by decide +kernel
theorem dX1_shown_28 : decode cX1_shown 28 = .ok (.goto 4, 3) := by decide +kernel
theorem dX1_shown_31 : decode cX1_shown 31 = .ok (.iload_n 1, 1) := by decide +kernel
theorem dX1_shown_32 : decode cX1_shown 32 = .ok (.istore_n 1, 1) := by decide +kernel
theorem dX1_shown_33 : decode cX1_shown 33 = .ok (.aload_n 0, 1) := by decide +kernel
theorem dX1_shown_34 : decode cX1_shown 34 = .ok (.getfield 59, 3) := by decide +kernel
theorem dX1_shown_37 : decode cX1_shown 37 = .ok (.ifCond .eq 9, 3) := by decide +kernel
theorem dX1_shown_40 : decode cX1_shown 40 = .ok (.iload_n 1, 1) := by decide +kernel
theorem dX1_shown_41 : decode cX1_shown 41 = .ok (.iconst 4, 1) := by decide +kernel
theorem dX1_shown_42 : decode cX1_shown 42 = .ok (.iadd, 1) := by decide +kernel
theorem dX1_shown_43 : decode cX1_shown 43 = .ok (.goto 4, 3) := by decide +kernel
theorem dX1_shown_46 : decode cX1_shown 46 = .ok (.iload_n 1, 1) := by decide +kernel
theorem dX1_shown_47 : decode cX1_shown 47 = .ok (.istore_n 1, 1) := by decide +kernel
theorem dX1_shown_48 : decode cX1_shown 48 = .ok (.aload_n 0, 1) := by decide +kernel
theorem dX1_shown_49 : decode cX1_shown 49 = .ok (.getfield 33, 3) := by decide +kernel
theorem dX1_shown_52 : decode cX1_shown 52 = .ok (.ifCond .le 10, 3) := by decide +kernel
theorem dX1_shown_55 : decode cX1_shown 55 = .ok (.iload_n 1, 1) := by decide +kernel
theorem dX1_shown_56 : decode cX1_shown 56 = .ok (.bipush 8, 2) := by decide +kernel
theorem dX1_shown_58 : decode cX1_shown 58 = .ok (.iadd, 1) := by decide +kernel
theorem dX1_shown_59 : decode cX1_shown 59 = .ok (.goto 4, 3) := by decide +kernel
theorem dX1_shown_62 : decode cX1_shown 62 = .ok (.iload_n 1, 1) := by decide +kernel
theorem dX1_shown_63 : decode cX1_shown 63 = .ok (.istore_n 1, 1) := by decide +kernel
theorem dX1_shown_64 : decode cX1_shown 64 = .ok (.aload_n 0, 1) := by decide +kernel
theorem dX1_shown_65 : decode cX1_shown 65 = .ok (.getfield 39, 3) := by decide +kernel
theorem dX1_shown_68 : decode cX1_shown 68 = .ok (.ifCond .le 10, 3) := by decide +kernel
theorem dX1_shown_71 : decode cX1_shown 71 = .ok (.iload_n 1, 1) := by decide +kernel
theorem dX1_shown_72 : decode cX1_shown 72 = .ok (.bipush 16, 2) := by decide +kernel
theorem dX1_shown_74 : decode cX1_shown 74 = .ok (.iadd, 1) := by decide +kernel
theorem dX1_shown_75 : decode cX1_shown 75 = .ok (.goto 4, 3) := by decide +kernel
theorem dX1_shown_78 : decode cX1_shown 78 = .ok (.iload_n 1, 1) := by decide +kernel
theorem dX1_shown_79 : decode cX1_shown 79 = .ok (.istore_n 1, 1) := by decide +kernel
theorem dX1_shown_80 : decode cX1_shown 80 = .ok (.iload_n 1, 1) := by decide +kernel
theorem dX1_shown_81 : decode cX1_shown 81 = .ok (.bipush 32, 2) := by decide +kernel
theorem dX1_shown_83 : decode cX1_shown 83 = .ok (.aload_n 0, 1) := by decide +kernel
theorem dX1_shown_84 : decode cX1_shown 84 = .ok (.getfield 16, 3) := by decide +kernel
theorem dX1_shown_87 : decode cX1_shown 87 = .ok (.imul, 1) := by decide +kernel
theorem dX1_shown_88 : decode cX1_shown 88 = .ok (.iadd, 1) := by decide +kernel
theorem dX1_shown_89 : decode cX1_shown 89 = .ok (.ireturn, 1) := by decide +kernel
theorem dX1_kept_0 : decode cX1_kept 0 = .ok (.aload_n 0, 1) := by decide +kernel
theorem dX1_kept_1 : decode cX1_kept 1 = .ok (.iconst 0, 1) := by decide +kernel
theorem dX1_kept_2 : decode cX1_kept 2 = .ok (.putfield 20, 3) := by decide +kernel
theorem dX1_kept_5 : decode cX1_kept 5 = .ok (.iload_n 1, 1) := by decide +kernel
theorem dX1_kept_6 : decode cX1_kept 6 = .ok (.ifCond .lt 27, 3) := by decide +kernel
theorem dX1_kept_9 : decode cX1_kept 9 = .ok (.iload_n 1, 1) := by decide +kernel
theorem dX1_kept_10 : decode cX1_kept 10 = .ok (.aload_n 0, 1) := by decide +kernel
theorem dX1_kept_11 : decode cX1_kept 11 = .ok (.getfield 23, 3) := by decide +kernel
theorem dX1_kept_14 : decode cX1_kept 14 = .ok (.if_icmp .ge 19, 3) := by decide +kernel
theorem dX1_kept_17 : decode cX1_kept 17 = .ok (.iload_n 1, 1) := by decide +kernel
theorem dX1_kept_18 : decode cX1_kept 18 = .ok (.sipush 299, 3) := by decide +kernel
theorem dX1_kept_21 : decode cX1_kept 21 = .ok (.if_icmp .gt 12, 3) := by decide +kernel
theorem dX1_kept_24 : decode cX1_kept 24 = .ok (.iload_n 2, 1) := by decide +kernel
theorem dX1_kept_25 : decode cX1_kept 25 = .ok (.ifCond .lt 8, 3) := by decide +kernel
theorem dX1_kept_28 : decode cX1_kept 28 = .ok (.iload_n 2, 1) := by decide +kernel
theorem dX1_kept_29 : decode cX1_kept 29 = .ok (.iconst 3, 1) := by decide +kernel
theorem dX1_kept_30 : decode cX1_kept 30 = .ok (.if_icmp .le 7, 3) := by decide +kernel
theorem dX1_kept_33 : decode cX1_kept 33 = .ok (.iconst (-1), 1) := by decide +kernel
theorem dX1_kept_34 : decode cX1_kept 34 = .ok (.goto 13, 3) := by decide +kernel
theorem dX1_kept_37 : decode cX1_kept 37 = .ok (.aload_n 0, 1) := by decide +kernel
theorem dX1_kept_38 : decode cX1_kept 38 = .ok (.getfield 13, 3) := by decide +kernel
theorem dX1_kept_41 : decode cX1_kept 41 = .ok (.iconst 4, 1) := by decide +kernel
theorem dX1_kept_42 : decode cX1_kept 42 = .ok (.iload_n 1, 1) := by decide +kernel
theorem dX1_kept_43 : decode cX1_kept 43 = .ok (.imul, 1) := by decide +kernel
theorem dX1_kept_44 : decode cX1_kept 44 = .ok (.iload_n 2, 1) := by decide +kernel
theorem dX1_kept_45 : decode cX1_kept 45 = .ok (.iadd, 1) := by decide +kernel
theorem dX1_kept_46 : decode cX1_kept 46 = .ok (.iaload, 1) := by decide +kernel
theorem dX1_kept_47 : decode cX1_kept 47 = .ok (.ireturn, 1) := by decide +kernel
set_option maxRecDepth 20000 in
theorem ggX1_measure_X1_good : GoodIn wsX1_measure wsX1_good := goodIn_r _ [6, 7, 8, 9, 10, 11, 12, 13, 14, 15, 16, 17, 18, 19, 20, 21, 22] (by decide +kernel) (by decide +kernel)
set_option maxRecDepth 20000 in
theorem gX1_measure_X1_good : GoodIn wsX1_measure (wsV RX1 105 RX1 yX1_good wsX1_good) := goodIn_app (goodIn_of _ (by decide +kernel)) ggX1_measure_X1_good
theorem dX1_measure_0 : decode cX1_measure 0 = .ok (.aload_n 0, 1) := by decide +kernel
theorem dX1_measure_1 : decode cX1_measure 1 = .ok (.iload_n 1, 1) := by decide +kernel
theorem dX1_measure_2 : decode cX1_measure 2 = .ok (.ifCond .lt 13, 3) := by decide +kernel
theorem dX1_measure_5 : decode cX1_measure 5 = .ok (.iload_n 1, 1) := by decide +kernel
theorem dX1_measure_6 : decode cX1_measure 6 = .ok (.bipush 6, 2) := by decide +kernel
theorem dX1_measure_8 : decode cX1_measure 8 = .ok (.if_icmp .gt 7, 3) := by decide +kernel
theorem dX1_measure_11 : decode cX1_measure 11 = .ok (.iconst 1, 1) := by decide +kernel
theorem dX1_measure_12 : decode cX1_measure 12 = .ok (.goto 4, 3) := by decide +kernel
theorem dX1_measure_15 : decode cX1_measure 15 = .ok (.iconst 0, 1) := by decide +kernel
theorem dX1_measure_16 : decode cX1_measure 16 = .ok (.invokevirtual 105, 3) := by decide +kernel
theorem dX1_measure_19 : decode cX1_measure 19 = .ok (.ifCond .eq 12, 3) := by decide +kernel
theorem dX1_measure_22 : decode cX1_measure 22 = .ok (.aload_n 0, 1) := by decide +kernel
theorem dX1_measure_23 : decode cX1_measure 23 = .ok (.getfield 7, 3) := by decide +kernel
theorem dX1_measure_26 : decode cX1_measure 26 = .ok (.iload_n 1, 1) := by decide +kernel
theorem dX1_measure_27 : decode cX1_measure 27 = .ok (.iaload, 1) := by decide +kernel
theorem dX1_measure_28 : decode cX1_measure 28 = .ok (.goto 4, 3) := by decide +kernel
theorem dX1_measure_31 : decode cX1_measure 31 = .ok (.iconst 0, 1) := by decide +kernel
theorem dX1_measure_32 : decode cX1_measure 32 = .ok (.ireturn, 1) := by decide +kernel
theorem dJ9_abs_0f7a4_0 : decode cJ9_abs_0f7a4 0 = .ok (.iload_n 0, 1) := by decide +kernel
theorem dJ9_abs_0f7a4_1 : decode cJ9_abs_0f7a4 1 = .ok (.ifCond .ge 8, 3) := by decide +kernel
theorem dJ9_abs_0f7a4_4 : decode cJ9_abs_0f7a4 4 = .ok (.iload_n 0, 1) := by decide +kernel
theorem dJ9_abs_0f7a4_5 : decode cJ9_abs_0f7a4 5 = .ok (.ineg, 1) := by decide +kernel
theorem dJ9_abs_0f7a4_6 : decode cJ9_abs_0f7a4 6 = .ok (.goto 4, 3) := by decide +kernel
theorem dJ9_abs_0f7a4_9 : decode cJ9_abs_0f7a4 9 = .ok (.iload_n 0, 1) := by decide +kernel
theorem dJ9_abs_0f7a4_10 : decode cJ9_abs_0f7a4 10 = .ok (.ireturn, 1) := by decide +kernel
set_option maxRecDepth 20000 in
theorem ggL_press_X0_press : GoodIn wsL_press wsX0_press := goodIn_ca (goodIn_r _ [6, 7, 8, 9, 10, 11, 5, 12, 13, 14, 15, 16, 17, 18, 19, 20, 21, 22, 23, 24, 25, 26, 27, 28, 29, 30, 31, 32, 33, 34, 35, 36, 37, 38, 39, 40, 41, 42, 43, 44, 45, 46, 47, 48, 49, 50, 51, 52, 53, 54, 55, 56, 57, 58, 59, 60, 61, 62, 63, 64, 65, 66, 67, 68, 69, 70, 71, 72, 73, 74, 75, 76, 77, 78, 79, 80, 81, 82, 83, 84, 85, 86, 87, 88, 89, 90, 91, 92, 93, 94, 95, 96, 97, 98, 99, 100, 101, 102, 103, 104, 105, 106, 107, 108, 109, 110, 111, 112, 113, 114, 115, 116, 117, 118, 119, 120, 121, 122, 123, 124, 125, 126, 127, 128, 129, 130, 131, 132, 133, 134, 135, 136, 137, 138, 139, 140, 141, 142, 143, 144, 145, 146, 147, 148, 149, 150, 151, 152, 153, 154, 155, 156, 157, 158, 159, 160, 161, 162, 163, 164, 165, 166, 167, 168, 169, 170, 171, 172, 173, 174, 175, 176, 177, 178, 179, 180, 181, 182, 183, 184, 185, 186, 187] (by decide +kernel) (by decide +kernel)) (goodIn_sub (fun _ h => List.mem_cons_of_mem _ (List.mem_append_right _ h)) (by decide +kernel))
set_option maxRecDepth 20000 in
theorem gL_press_X0_press : GoodIn wsL_press (wsV RL 7 RX0 yX0_press wsX0_press) := goodIn_app (goodIn_of _ (by decide +kernel)) ggL_press_X0_press
theorem dL_press_0 : decode cL_press 0 = .ok (.aload_n 2, 1) := by decide +kernel
theorem dL_press_1 : decode cL_press 1 = .ok (.iconst 0, 1) := by decide +kernel
theorem dL_press_2 : decode cL_press 2 = .ok (.aload_n 0, 1) := by decide +kernel
theorem dL_press_3 : decode cL_press 3 = .ok (.iload_n 1, 1) := by decide +kernel
theorem dL_press_4 : decode cL_press 4 = .ok (.invokevirtual 7, 3) := by decide +kernel
theorem dL_press_7 : decode cL_press 7 = .ok (.i2l, 1) := by decide +kernel
theorem dL_press_8 : decode cL_press 8 = .ok (.lastore, 1) := by decide +kernel
theorem dL_press_9 : decode cL_press 9 = .ok (.goto 6, 3) := by decide +kernel
theorem dL_press_12 : decode cL_press 12 = .ok (.astore_n 3, 1) := by decide +kernel
theorem dL_press_13 : decode cL_press 13 = .ok (.iconst 1, 1) := by decide +kernel
theorem dL_press_14 : decode cL_press 14 = .ok (.ireturn, 1) := by decide +kernel
theorem dL_press_15 : decode cL_press 15 = .ok (.iconst 0, 1) := by decide +kernel
theorem dL_press_16 : decode cL_press 16 = .ok (.ireturn, 1) := by decide +kernel
set_option maxRecDepth 20000 in
theorem ggL_sense_X0_sense : GoodIn wsL_sense wsX0_sense := goodIn_ca (goodIn_r _ [6, 7, 8, 9, 10, 11, 12, 13, 5, 14, 15, 16, 17, 18, 19, 20, 21, 22, 23, 24, 25, 26, 27, 28, 29, 30, 31, 32, 33, 34, 35, 36, 37, 38, 39, 40, 41, 42, 43, 44, 45, 46, 47, 48, 49, 50, 51, 52, 53, 54, 55, 56, 57, 58, 59, 60, 61, 62, 63, 64, 65, 66, 67, 68, 69, 70, 71, 72, 73, 74, 75, 76, 77, 78, 79, 80, 81, 82, 83, 84, 85, 86, 87, 88, 89, 90, 91, 92, 93, 94, 95, 96, 97, 98, 99, 100, 101, 102, 103, 104, 105, 106, 107, 108, 109, 110, 111, 112, 113, 114, 115, 116, 117, 118, 119, 120, 121, 122, 123, 124, 125, 126, 127, 128, 129, 130, 131, 132, 133, 134, 135, 136, 137, 138, 139, 140] (by decide +kernel) (by decide +kernel)) (goodIn_sub (fun _ h => List.mem_cons_of_mem _ (List.mem_append_right _ h)) (by decide +kernel))
set_option maxRecDepth 20000 in
theorem gL_sense_X0_sense : GoodIn wsL_sense (wsV RL 15 RX0 yX0_sense wsX0_sense) := goodIn_app (goodIn_of _ (by decide +kernel)) ggL_sense_X0_sense
theorem dL_sense_0 : decode cL_sense 0 = .ok (.aload_n 3, 1) := by decide +kernel
theorem dL_sense_1 : decode cL_sense 1 = .ok (.iconst 0, 1) := by decide +kernel
theorem dL_sense_2 : decode cL_sense 2 = .ok (.aload_n 0, 1) := by decide +kernel
theorem dL_sense_3 : decode cL_sense 3 = .ok (.iload_n 1, 1) := by decide +kernel
theorem dL_sense_4 : decode cL_sense 4 = .ok (.iload_n 2, 1) := by decide +kernel
theorem dL_sense_5 : decode cL_sense 5 = .ok (.invokevirtual 15, 3) := by decide +kernel
theorem dL_sense_8 : decode cL_sense 8 = .ok (.i2l, 1) := by decide +kernel
theorem dL_sense_9 : decode cL_sense 9 = .ok (.lastore, 1) := by decide +kernel
theorem dL_sense_10 : decode cL_sense 10 = .ok (.goto 7, 3) := by decide +kernel
theorem dL_sense_13 : decode cL_sense 13 = .ok (.astore 4, 2) := by decide +kernel
theorem dL_sense_15 : decode cL_sense 15 = .ok (.iconst 1, 1) := by decide +kernel
theorem dL_sense_16 : decode cL_sense 16 = .ok (.ireturn, 1) := by decide +kernel
theorem dL_sense_17 : decode cL_sense 17 = .ok (.iconst 0, 1) := by decide +kernel
theorem dL_sense_18 : decode cL_sense 18 = .ok (.ireturn, 1) := by decide +kernel
set_option maxRecDepth 20000 in
theorem ggL_channel_X0_channel : GoodIn wsL_channel wsX0_channel := goodIn_ca (goodIn_r _ [6, 7, 8, 9, 10, 11, 12, 5, 13, 14, 15, 16, 17, 18, 19, 20, 21, 22, 23, 24, 25, 26, 27, 28, 29, 30, 31, 32, 33, 34, 35, 36, 37, 38, 39, 40, 41, 42, 43, 44, 45, 46, 47, 48, 49, 50, 51, 52, 53, 54, 55, 56, 57, 58, 59, 60, 61, 62, 63, 64, 65, 66, 67, 68, 69, 70, 71, 72, 73, 74, 75, 76, 77, 78, 79, 80, 81, 82, 83, 84, 85, 86, 87, 88, 89, 90, 91, 92, 93, 94, 95, 96, 97, 98, 99, 100, 101, 102, 103, 104, 105, 106, 107, 108, 109, 110, 111, 112, 113, 114, 115, 116, 117, 118, 119, 120, 121, 122, 123, 124, 125, 126, 127, 128, 129, 130, 131, 132, 133, 134, 135] (by decide +kernel) (by decide +kernel)) (goodIn_sub (fun _ h => List.mem_cons_of_mem _ (List.mem_append_right _ h)) (by decide +kernel))
set_option maxRecDepth 20000 in
theorem gL_channel_X0_channel : GoodIn wsL_channel (wsV RL 19 RX0 yX0_channel wsX0_channel) := goodIn_app (goodIn_of _ (by decide +kernel)) ggL_channel_X0_channel
theorem dL_channel_0 : decode cL_channel 0 = .ok (.aload_n 3, 1) := by decide +kernel
theorem dL_channel_1 : decode cL_channel 1 = .ok (.iconst 0, 1) := by decide +kernel
theorem dL_channel_2 : decode cL_channel 2 = .ok (.aload_n 0, 1) := by decide +kernel
theorem dL_channel_3 : decode cL_channel 3 = .ok (.iload_n 1, 1) := by decide +kernel
theorem dL_channel_4 : decode cL_channel 4 = .ok (.iload_n 2, 1) := by decide +kernel
theorem dL_channel_5 : decode cL_channel 5 = .ok (.invokevirtual 19, 3) := by decide +kernel
theorem dL_channel_8 : decode cL_channel 8 = .ok (.i2l, 1) := by decide +kernel
theorem dL_channel_9 : decode cL_channel 9 = .ok (.lastore, 1) := by decide +kernel
theorem dL_channel_10 : decode cL_channel 10 = .ok (.goto 7, 3) := by decide +kernel
theorem dL_channel_13 : decode cL_channel 13 = .ok (.astore 4, 2) := by decide +kernel
theorem dL_channel_15 : decode cL_channel 15 = .ok (.iconst 1, 1) := by decide +kernel
theorem dL_channel_16 : decode cL_channel 16 = .ok (.ireturn, 1) := by decide +kernel
theorem dL_channel_17 : decode cL_channel 17 = .ok (.iconst 0, 1) := by decide +kernel
theorem dL_channel_18 : decode cL_channel 18 = .ok (.ireturn, 1) := by decide +kernel
set_option maxRecDepth 20000 in
theorem ggL_step_X0_step : GoodIn wsL_step wsX0_step := goodIn_ca (goodIn_r _ [6, 7, 8, 9, 10, 11, 12, 13, 14, 15, 16, 17, 18, 19, 20, 21] (by decide +kernel) (by decide +kernel)) (goodIn_sub (fun _ h => List.mem_cons_of_mem _ (List.mem_append_right _ h)) (by decide +kernel))
set_option maxRecDepth 20000 in
theorem gL_step_X0_step : GoodIn wsL_step (wsV RL 23 RX0 yX0_step wsX0_step) := goodIn_app (goodIn_of _ (by decide +kernel)) ggL_step_X0_step
theorem dL_step_0 : decode cL_step 0 = .ok (.aload_n 2, 1) := by decide +kernel
theorem dL_step_1 : decode cL_step 1 = .ok (.iconst 0, 1) := by decide +kernel
theorem dL_step_2 : decode cL_step 2 = .ok (.aload_n 0, 1) := by decide +kernel
theorem dL_step_3 : decode cL_step 3 = .ok (.iload_n 1, 1) := by decide +kernel
theorem dL_step_4 : decode cL_step 4 = .ok (.invokevirtual 23, 3) := by decide +kernel
theorem dL_step_7 : decode cL_step 7 = .ok (.i2l, 1) := by decide +kernel
theorem dL_step_8 : decode cL_step 8 = .ok (.lastore, 1) := by decide +kernel
theorem dL_step_9 : decode cL_step 9 = .ok (.goto 6, 3) := by decide +kernel
theorem dL_step_12 : decode cL_step 12 = .ok (.astore_n 3, 1) := by decide +kernel
theorem dL_step_13 : decode cL_step 13 = .ok (.iconst 1, 1) := by decide +kernel
theorem dL_step_14 : decode cL_step 14 = .ok (.ireturn, 1) := by decide +kernel
theorem dL_step_15 : decode cL_step 15 = .ok (.iconst 0, 1) := by decide +kernel
theorem dL_step_16 : decode cL_step 16 = .ok (.ireturn, 1) := by decide +kernel
set_option maxRecDepth 20000 in
theorem ggL_mode_X0_mode : GoodIn wsL_mode wsX0_mode := goodIn_ca (goodIn_r _ [6, 7, 8, 9, 10, 11, 12, 13, 14, 15, 16, 17, 18, 19, 20, 21] (by decide +kernel) (by decide +kernel)) (goodIn_sub (fun _ h => List.mem_cons_of_mem _ (List.mem_append_right _ h)) (by decide +kernel))
set_option maxRecDepth 20000 in
theorem gL_mode_X0_mode : GoodIn wsL_mode (wsV RL 26 RX0 yX0_mode wsX0_mode) := goodIn_app (goodIn_of _ (by decide +kernel)) ggL_mode_X0_mode
theorem dL_mode_0 : decode cL_mode 0 = .ok (.aload_n 2, 1) := by decide +kernel
theorem dL_mode_1 : decode cL_mode 1 = .ok (.iconst 0, 1) := by decide +kernel
theorem dL_mode_2 : decode cL_mode 2 = .ok (.aload_n 0, 1) := by decide +kernel
theorem dL_mode_3 : decode cL_mode 3 = .ok (.iload_n 1, 1) := by decide +kernel
theorem dL_mode_4 : decode cL_mode 4 = .ok (.invokevirtual 26, 3) := by decide +kernel
theorem dL_mode_7 : decode cL_mode 7 = .ok (.i2l, 1) := by decide +kernel
theorem dL_mode_8 : decode cL_mode 8 = .ok (.lastore, 1) := by decide +kernel
theorem dL_mode_9 : decode cL_mode 9 = .ok (.goto 6, 3) := by decide +kernel
theorem dL_mode_12 : decode cL_mode 12 = .ok (.astore_n 3, 1) := by decide +kernel
theorem dL_mode_13 : decode cL_mode 13 = .ok (.iconst 1, 1) := by decide +kernel
theorem dL_mode_14 : decode cL_mode 14 = .ok (.ireturn, 1) := by decide +kernel
theorem dL_mode_15 : decode cL_mode 15 = .ok (.iconst 0, 1) := by decide +kernel
theorem dL_mode_16 : decode cL_mode 16 = .ok (.ireturn, 1) := by decide +kernel
set_option maxRecDepth 20000 in
theorem ggL_armed_X0_armed : GoodIn wsL_armed wsX0_armed := goodIn_ca (goodIn_r _ [6, 7, 8, 9, 10, 11, 12, 13, 14, 5, 15, 16, 17, 18, 19, 20, 21, 22, 23, 24, 25, 26, 27, 28] (by decide +kernel) (by decide +kernel)) (goodIn_sub (fun _ h => List.mem_cons_of_mem _ (List.mem_append_right _ h)) (by decide +kernel))
set_option maxRecDepth 20000 in
theorem gL_armed_X0_armed : GoodIn wsL_armed (wsV RL 29 RX0 yX0_armed wsX0_armed) := goodIn_app (goodIn_of _ (by decide +kernel)) ggL_armed_X0_armed
theorem dL_armed_0 : decode cL_armed 0 = .ok (.aload_n 2, 1) := by decide +kernel
theorem dL_armed_1 : decode cL_armed 1 = .ok (.iconst 0, 1) := by decide +kernel
theorem dL_armed_2 : decode cL_armed 2 = .ok (.aload_n 0, 1) := by decide +kernel
theorem dL_armed_3 : decode cL_armed 3 = .ok (.iload_n 1, 1) := by decide +kernel
theorem dL_armed_4 : decode cL_armed 4 = .ok (.invokevirtual 29, 3) := by decide +kernel
theorem dL_armed_7 : decode cL_armed 7 = .ok (.ifCond .eq 7, 3) := by decide +kernel
theorem dL_armed_10 : decode cL_armed 10 = .ok (.lconst 1, 1) := by decide +kernel
theorem dL_armed_11 : decode cL_armed 11 = .ok (.goto 4, 3) := by decide +kernel
theorem dL_armed_14 : decode cL_armed 14 = .ok (.lconst 0, 1) := by decide +kernel
theorem dL_armed_15 : decode cL_armed 15 = .ok (.lastore, 1) := by decide +kernel
theorem dL_armed_16 : decode cL_armed 16 = .ok (.goto 6, 3) := by decide +kernel
theorem dL_armed_19 : decode cL_armed 19 = .ok (.astore_n 3, 1) := by decide +kernel
theorem dL_armed_20 : decode cL_armed 20 = .ok (.iconst 1, 1) := by decide +kernel
theorem dL_armed_21 : decode cL_armed 21 = .ok (.ireturn, 1) := by decide +kernel
theorem dL_armed_22 : decode cL_armed 22 = .ok (.iconst 0, 1) := by decide +kernel
theorem dL_armed_23 : decode cL_armed 23 = .ok (.ireturn, 1) := by decide +kernel
set_option maxRecDepth 20000 in
theorem ggL_measure_X0_measure : GoodIn wsL_measure wsX0_measure := goodIn_ca (goodIn_r _ [6, 7, 8, 9, 10, 11, 5, 12, 13, 14, 15, 16, 17, 18, 19, 20, 21, 22, 23, 24] (by decide +kernel) (by decide +kernel)) (goodIn_sub (fun _ h => List.mem_cons_of_mem _ (List.mem_append_right _ h)) (by decide +kernel))
set_option maxRecDepth 20000 in
theorem gL_measure_X0_measure : GoodIn wsL_measure (wsV RL 33 RX0 yX0_measure wsX0_measure) := goodIn_app (goodIn_of _ (by decide +kernel)) ggL_measure_X0_measure
theorem dL_measure_0 : decode cL_measure 0 = .ok (.aload_n 2, 1) := by decide +kernel
theorem dL_measure_1 : decode cL_measure 1 = .ok (.iconst 0, 1) := by decide +kernel
theorem dL_measure_2 : decode cL_measure 2 = .ok (.aload_n 0, 1) := by decide +kernel
theorem dL_measure_3 : decode cL_measure 3 = .ok (.iload_n 1, 1) := by decide +kernel
theorem dL_measure_4 : decode cL_measure 4 = .ok (.invokevirtual 33, 3) := by decide +kernel
theorem dL_measure_7 : decode cL_measure 7 = .ok (.i2l, 1) := by decide +kernel
theorem dL_measure_8 : decode cL_measure 8 = .ok (.lastore, 1) := by decide +kernel
theorem dL_measure_9 : decode cL_measure 9 = .ok (.goto 6, 3) := by decide +kernel
theorem dL_measure_12 : decode cL_measure 12 = .ok (.astore_n 3, 1) := by decide +kernel
theorem dL_measure_13 : decode cL_measure 13 = .ok (.iconst 1, 1) := by decide +kernel
theorem dL_measure_14 : decode cL_measure 14 = .ok (.ireturn, 1) := by decide +kernel
theorem dL_measure_15 : decode cL_measure 15 = .ok (.iconst 0, 1) := by decide +kernel
theorem dL_measure_16 : decode cL_measure 16 = .ok (.ireturn, 1) := by decide +kernel
set_option maxRecDepth 20000 in
theorem ggL_law_X0_init : GoodIn wsL_law wsX0_init := goodIn_r _ [9, 10, 11, 12, 13, 14, 15, 16, 17, 18, 19, 399, 400, 401, 402, 403, 404, 405, 406, 407, 408, 409, 410] (by decide +kernel) (by decide +kernel)
set_option maxRecDepth 20000 in
theorem gL_law_X0_init : GoodIn wsL_law (wsX0_init) := ggL_law_X0_init
set_option maxRecDepth 20000 in
theorem ggL_law_X1_init : GoodIn wsL_law wsX1_init := goodIn_r _ [22, 23, 11, 12, 13, 24, 25, 26, 411, 412, 413, 414, 415, 416, 417, 418, 419, 420, 421, 422, 423, 424, 425] (by decide +kernel) (by decide +kernel)
set_option maxRecDepth 20000 in
theorem gL_law_X1_init : GoodIn wsL_law (wsX1_init) := ggL_law_X1_init
set_option maxRecDepth 20000 in
theorem ggL_law_L_press : GoodIn wsL_law wsL_press := goodIn_ca (goodIn_r _ [30, 31, 32, 33, 34, 2, 35, 36, 37, 38, 39, 40, 41, 14, 42, 43, 44, 45, 46, 47, 48, 49, 50, 51, 52, 53, 15, 54, 55, 56, 57, 58, 59, 60, 61, 18, 62, 63, 64, 65, 66, 67, 68, 69, 70, 71, 72, 73, 74, 75, 76, 77, 78, 19, 79, 80, 81, 82, 83, 84, 85, 86, 87, 88, 89, 90, 91, 92, 93, 94, 95, 96, 97, 98, 99, 100, 101, 102, 103, 104, 105, 106, 107, 108, 109, 110, 111, 112, 113, 114, 115, 116, 117, 118, 119, 120, 121, 122, 123, 124, 125, 126, 127, 128, 129, 130, 131, 132, 133, 134, 135, 136, 137, 138, 139, 140, 141, 142, 143, 16, 144, 145, 146, 147, 148, 149, 150, 151, 152, 153, 154, 155, 156, 157, 158, 159, 160, 161, 162, 163, 164, 165, 166, 167, 168, 169, 170, 171, 172, 173, 174, 175, 176, 177, 178, 179, 180, 181, 182, 183, 184, 185, 186, 187, 188, 189, 190, 191, 192, 193, 194, 195, 196, 197, 198, 199, 399, 400, 401, 402, 403, 404, 405, 406, 407, 408, 409, 410] (by decide +kernel) (by decide +kernel)) (goodIn_sub (fun _ h => List.mem_append_right _ h) (by decide +kernel))
set_option maxRecDepth 20000 in
theorem gL_law_L_press : GoodIn wsL_law (va_wsS RL 40 yL_press wsL_press) := goodIn_app (goodIn_of _ (by decide +kernel)) ggL_law_L_press
set_option maxRecDepth 20000 in
theorem ggL_law_X1_press : GoodIn wsL_law wsX1_press := goodIn_r _ [203, 204, 205, 206, 207, 208, 209, 210, 211, 5, 212, 213, 214, 215, 216, 217, 218, 219, 220, 221, 26, 222, 223, 224, 225, 226, 227, 228, 229, 230, 231, 232, 233, 234, 235, 236, 237, 238, 25, 239, 240, 241, 242, 243, 244, 245, 246, 247, 248, 249, 250, 251, 252, 253, 254, 255, 256, 257, 258, 259, 260, 261, 262, 263, 264, 265, 266, 267, 268, 269, 270, 271, 272, 273, 274, 275, 24, 276, 277, 278, 279, 280, 281, 282, 283, 284, 285, 286, 411, 412, 413, 414, 415, 416, 417, 418, 419, 420, 421, 422, 423, 424, 425] (by decide +kernel) (by decide +kernel)
set_option maxRecDepth 20000 in
theorem gL_law_X1_press : GoodIn wsL_law (wsV RL 45 RX1 yX1_press wsX1_press) := goodIn_app (goodIn_of _ (by decide +kernel)) ggL_law_X1_press
set_option maxRecDepth 20000 in
theorem ggL_law_X1_thrown : GoodIn wsL_law wsX1_thrown := goodIn_r _ [290, 213, 411, 412, 413, 414, 415, 416, 417, 418, 419, 420, 421, 422, 423, 424, 425] (by decide +kernel) (by decide +kernel)
set_option maxRecDepth 20000 in
theorem gL_law_X1_thrown : GoodIn wsL_law (wsV RL 46 RX1 yX1_thrown wsX1_thrown) := goodIn_app (goodIn_of _ (by decide +kernel)) ggL_law_X1_thrown
set_option maxRecDepth 20000 in
theorem ggL_law_L_sense : GoodIn wsL_law wsL_sense := goodIn_ca (goodIn_r _ [293, 31, 294, 295, 296, 2, 297, 36, 37, 298, 299, 16, 300, 301, 302, 128, 129, 130, 131, 132, 133, 134, 135, 136, 137, 138, 139, 18, 46, 66, 67, 68, 69, 14, 124, 125, 126, 127, 74, 75, 76, 77, 15, 78, 19, 47, 48, 49, 79, 80, 81, 82, 42, 43, 44, 107, 108, 109, 110, 45, 111, 50, 51, 52, 53, 140, 141, 142, 143, 87, 88, 89, 90, 144, 145, 146, 147, 148, 149, 150, 151, 152, 153, 154, 155, 156, 157, 158, 159, 160, 161, 162, 163, 164, 165, 166, 167, 168, 169, 170, 171, 172, 173, 174, 175, 176, 177, 178, 179, 180, 181, 182, 183, 184, 185, 186, 187, 188, 189, 190, 191, 192, 193, 194, 195, 196, 197, 198, 199, 399, 400, 401, 402, 403, 404, 405, 406, 407, 408, 409, 410] (by decide +kernel) (by decide +kernel)) (goodIn_sub (fun _ h => List.mem_append_right _ h) (by decide +kernel))
set_option maxRecDepth 20000 in
theorem gL_law_L_sense : GoodIn wsL_law (va_wsS RL 50 yL_sense wsL_sense) := goodIn_app (goodIn_of _ (by decide +kernel)) ggL_law_L_sense
set_option maxRecDepth 20000 in
theorem ggL_law_X1_sense : GoodIn wsL_law wsX1_sense := goodIn_r _ [306, 307, 24, 209, 210, 211, 5, 212, 213, 268, 269, 270, 271, 272, 273, 274, 275, 208, 26, 218, 219, 220, 260, 261, 262, 263, 206, 207, 276, 277, 278, 279, 280, 281, 282, 283, 284, 285, 286, 264, 265, 266, 267, 247, 221, 204, 205, 226, 227, 228, 229, 230, 231, 232, 233, 234, 235, 236, 237, 238, 25, 239, 240, 241, 242, 411, 412, 413, 414, 415, 416, 417, 418, 419, 420, 421, 422, 423, 424, 425] (by decide +kernel) (by decide +kernel)
set_option maxRecDepth 20000 in
theorem gL_law_X1_sense : GoodIn wsL_law (wsV RL 53 RX1 yX1_sense wsX1_sense) := goodIn_app (goodIn_of _ (by decide +kernel)) ggL_law_X1_sense
set_option maxRecDepth 20000 in
theorem ggL_law_L_channel : GoodIn wsL_law wsL_channel := goodIn_ca (goodIn_r _ [310, 31, 311, 312, 313, 2, 314, 36, 37, 18, 128, 129, 130, 131, 132, 133, 134, 135, 136, 137, 138, 139, 46, 66, 67, 68, 69, 14, 124, 125, 126, 127, 74, 75, 76, 77, 15, 78, 19, 47, 48, 49, 79, 80, 81, 82, 42, 43, 44, 107, 108, 109, 110, 45, 111, 50, 51, 52, 53, 140, 141, 142, 143, 16, 87, 88, 89, 90, 144, 145, 146, 147, 148, 149, 150, 151, 152, 153, 154, 155, 156, 157, 158, 159, 160, 161, 162, 163, 164, 165, 166, 167, 168, 169, 170, 171, 172, 173, 174, 175, 176, 177, 178, 179, 180, 181, 182, 183, 184, 185, 186, 187, 188, 189, 190, 191, 192, 193, 194, 195, 196, 197, 198, 199, 399, 400, 401, 402, 403, 404, 405, 406, 407, 408, 409, 410] (by decide +kernel) (by decide +kernel)) (goodIn_sub (fun _ h => List.mem_append_right _ h) (by decide +kernel))
set_option maxRecDepth 20000 in
theorem gL_law_L_channel : GoodIn wsL_law (va_wsS RL 54 yL_channel wsL_channel) := goodIn_app (goodIn_of _ (by decide +kernel)) ggL_law_L_channel
set_option maxRecDepth 20000 in
theorem ggL_law_X1_channel : GoodIn wsL_law wsX1_channel := goodIn_r _ [318, 206, 207, 209, 210, 211, 5, 212, 213, 268, 269, 270, 271, 272, 273, 274, 275, 24, 208, 26, 218, 219, 220, 260, 261, 262, 263, 276, 277, 278, 279, 280, 281, 282, 283, 284, 285, 286, 264, 265, 266, 267, 247, 221, 204, 205, 226, 227, 228, 229, 230, 231, 232, 233, 234, 235, 236, 237, 238, 25, 239, 240, 241, 242, 411, 412, 413, 414, 415, 416, 417, 418, 419, 420, 421, 422, 423, 424, 425] (by decide +kernel) (by decide +kernel)
set_option maxRecDepth 20000 in
theorem gL_law_X1_channel : GoodIn wsL_law (wsV RL 57 RX1 yX1_channel wsX1_channel) := goodIn_app (goodIn_of _ (by decide +kernel)) ggL_law_X1_channel
set_option maxRecDepth 20000 in
theorem ggL_law_X0_engage : GoodIn wsL_law wsX0_engage := goodIn_r _ [322, 45, 58, 59, 60, 2, 61, 18, 323, 324, 325, 326, 14, 196, 197, 198, 199, 16, 62, 63, 64, 65, 66, 67, 68, 69, 70, 71, 72, 73, 74, 75, 76, 77, 15, 78, 19, 47, 48, 49, 79, 80, 81, 82, 42, 43, 44, 128, 129, 130, 131, 132, 133, 134, 135, 136, 137, 138, 139, 46, 124, 125, 126, 127, 107, 108, 109, 110, 111, 50, 51, 52, 53, 140, 141, 142, 143, 87, 88, 89, 90, 144, 145, 146, 147, 148, 149, 150, 151, 152, 153, 154, 155, 156, 157, 158, 159, 160, 161, 162, 163, 164, 165, 166, 167, 168, 169, 170, 171, 172, 173, 174, 175, 176, 177, 178, 179, 180, 181, 182, 183, 184, 185, 186, 187, 188, 189, 190, 191, 192, 193, 194, 195, 399, 400, 401, 402, 403, 404, 405, 406, 407, 408, 409, 410] (by decide +kernel) (by decide +kernel)
set_option maxRecDepth 20000 in
theorem gL_law_X0_engage : GoodIn wsL_law (wsV RL 58 RX0 yX0_engage wsX0_engage) := goodIn_app (goodIn_of _ (by decide +kernel)) ggL_law_X0_engage
set_option maxRecDepth 20000 in
theorem ggL_law_X1_engage : GoodIn wsL_law wsX1_engage := goodIn_r _ [330, 213, 221, 206, 207, 208, 218, 24, 222, 223, 224, 5, 225, 226, 227, 228, 229, 219, 220, 230, 231, 232, 233, 204, 234, 235, 236, 237, 238, 25, 239, 240, 241, 242, 205, 268, 269, 270, 271, 272, 273, 274, 275, 26, 260, 261, 262, 263, 276, 277, 278, 279, 280, 281, 282, 283, 284, 285, 286, 264, 265, 266, 267, 247, 411, 412, 413, 414, 415, 416, 417, 418, 419, 420, 421, 422, 423, 424, 425] (by decide +kernel) (by decide +kernel)
set_option maxRecDepth 20000 in
theorem gL_law_X1_engage : GoodIn wsL_law (wsV RL 61 RX1 yX1_engage wsX1_engage) := goodIn_app (goodIn_of _ (by decide +kernel)) ggL_law_X1_engage
set_option maxRecDepth 20000 in
theorem ggL_law_X0_disconnect : GoodIn wsL_law wsX0_disconnect := goodIn_r _ [334, 45, 111, 107, 108, 109, 2, 110, 399, 400, 401, 402, 403, 404, 405, 406, 407, 408, 409, 410] (by decide +kernel) (by decide +kernel)
set_option maxRecDepth 20000 in
theorem gL_law_X0_disconnect : GoodIn wsL_law (wsV RL 62 RX0 yX0_disconnect wsX0_disconnect) := goodIn_app (goodIn_of _ (by decide +kernel)) ggL_law_X0_disconnect
set_option maxRecDepth 20000 in
theorem ggL_law_X1_disconnect : GoodIn wsL_law wsX1_disconnect := goodIn_r _ [338, 213, 221, 247, 411, 412, 413, 414, 415, 416, 417, 418, 419, 420, 421, 422, 423, 424, 425] (by decide +kernel) (by decide +kernel)
set_option maxRecDepth 20000 in
theorem gL_law_X1_disconnect : GoodIn wsL_law (wsV RL 65 RX1 yX1_disconnect wsX1_disconnect) := goodIn_app (goodIn_of _ (by decide +kernel)) ggL_law_X1_disconnect
set_option maxRecDepth 20000 in
theorem ggL_law_L_step : GoodIn wsL_law wsL_step := goodIn_ca (goodIn_r _ [341, 31, 342, 343, 344, 2, 345, 36, 37, 15, 399, 400, 401, 402, 403, 404, 405, 406, 407, 408, 409, 410] (by decide +kernel) (by decide +kernel)) (goodIn_sub (fun _ h => List.mem_append_right _ h) (by decide +kernel))
set_option maxRecDepth 20000 in
theorem gL_law_L_step : GoodIn wsL_law (va_wsS RL 66 yL_step wsL_step) := goodIn_app (goodIn_of _ (by decide +kernel)) ggL_law_L_step
set_option maxRecDepth 20000 in
theorem ggL_law_X1_step : GoodIn wsL_law wsX1_step := goodIn_r _ [349, 204, 205, 209, 210, 211, 5, 212, 213, 411, 412, 413, 414, 415, 416, 417, 418, 419, 420, 421, 422, 423, 424, 425] (by decide +kernel) (by decide +kernel)
set_option maxRecDepth 20000 in
theorem gL_law_X1_step : GoodIn wsL_law (wsV RL 68 RX1 yX1_step wsX1_step) := goodIn_app (goodIn_of _ (by decide +kernel)) ggL_law_X1_step
set_option maxRecDepth 20000 in
theorem ggL_law_L_mode : GoodIn wsL_law wsL_mode := goodIn_ca (goodIn_r _ [352, 31, 353, 354, 355, 2, 356, 36, 37, 14, 399, 400, 401, 402, 403, 404, 405, 406, 407, 408, 409, 410] (by decide +kernel) (by decide +kernel)) (goodIn_sub (fun _ h => List.mem_append_right _ h) (by decide +kernel))
set_option maxRecDepth 20000 in
theorem gL_law_L_mode : GoodIn wsL_law (va_wsS RL 69 yL_mode wsL_mode) := goodIn_app (goodIn_of _ (by decide +kernel)) ggL_law_L_mode
set_option maxRecDepth 20000 in
theorem ggL_law_X1_mode : GoodIn wsL_law wsX1_mode := goodIn_r _ [360, 208, 218, 209, 210, 211, 5, 212, 213, 411, 412, 413, 414, 415, 416, 417, 418, 419, 420, 421, 422, 423, 424, 425] (by decide +kernel) (by decide +kernel)
set_option maxRecDepth 20000 in
theorem gL_law_X1_mode : GoodIn wsL_law (wsV RL 71 RX1 yX1_mode wsX1_mode) := goodIn_app (goodIn_of _ (by decide +kernel)) ggL_law_X1_mode
set_option maxRecDepth 20000 in
theorem ggL_law_L_armed : GoodIn wsL_law wsL_armed := goodIn_ca (goodIn_r _ [363, 31, 364, 365, 366, 2, 367, 36, 37, 42, 43, 44, 176, 177, 178, 179, 14, 399, 400, 401, 402, 403, 404, 405, 406, 407, 408, 409, 410] (by decide +kernel) (by decide +kernel)) (goodIn_sub (fun _ h => List.mem_append_right _ h) (by decide +kernel))
set_option maxRecDepth 20000 in
theorem gL_law_L_armed : GoodIn wsL_law (va_wsS RL 72 yL_armed wsL_armed) := goodIn_app (goodIn_of _ (by decide +kernel)) ggL_law_L_armed
set_option maxRecDepth 20000 in
theorem ggL_law_X1_armed : GoodIn wsL_law wsX1_armed := goodIn_r _ [371, 219, 220, 218, 209, 210, 211, 5, 212, 213, 411, 412, 413, 414, 415, 416, 417, 418, 419, 420, 421, 422, 423, 424, 425] (by decide +kernel) (by decide +kernel)
set_option maxRecDepth 20000 in
theorem gL_law_X1_armed : GoodIn wsL_law (wsV RL 74 RX1 yX1_armed wsX1_armed) := goodIn_app (goodIn_of _ (by decide +kernel)) ggL_law_X1_armed
set_option maxRecDepth 20000 in
theorem ggL_law_X0_shown : GoodIn wsL_law wsX0_shown := goodIn_r _ [375, 45, 111, 15, 46, 66, 67, 68, 2, 69, 14, 47, 48, 49, 399, 400, 401, 402, 403, 404, 405, 406, 407, 408, 409, 410] (by decide +kernel) (by decide +kernel)
set_option maxRecDepth 20000 in
theorem gL_law_X0_shown : GoodIn wsL_law (wsV RL 75 RX0 yX0_shown wsX0_shown) := goodIn_app (goodIn_of _ (by decide +kernel)) ggL_law_X0_shown
set_option maxRecDepth 20000 in
theorem ggL_law_X1_shown : GoodIn wsL_law wsX1_shown := goodIn_r _ [379, 213, 208, 221, 247, 204, 205, 26, 411, 412, 413, 414, 415, 416, 417, 418, 419, 420, 421, 422, 423, 424, 425] (by decide +kernel) (by decide +kernel)
set_option maxRecDepth 20000 in
theorem gL_law_X1_shown : GoodIn wsL_law (wsV RL 78 RX1 yX1_shown wsX1_shown) := goodIn_app (goodIn_of _ (by decide +kernel)) ggL_law_X1_shown
set_option maxRecDepth 20000 in
theorem ggL_law_X0_kept : GoodIn wsL_law wsX0_kept := goodIn_r _ [383, 78, 19, 399, 400, 401, 402, 403, 404, 405, 406, 407, 408, 409, 410] (by decide +kernel) (by decide +kernel)
set_option maxRecDepth 20000 in
theorem gL_law_X0_kept : GoodIn wsL_law (wsV RL 79 RX0 yX0_kept wsX0_kept) := goodIn_app (goodIn_of _ (by decide +kernel)) ggL_law_X0_kept
set_option maxRecDepth 20000 in
theorem ggL_law_X1_kept : GoodIn wsL_law wsX1_kept := goodIn_r _ [387, 213, 238, 25, 411, 412, 413, 414, 415, 416, 417, 418, 419, 420, 421, 422, 423, 424, 425] (by decide +kernel) (by decide +kernel)
set_option maxRecDepth 20000 in
theorem gL_law_X1_kept : GoodIn wsL_law (wsV RL 82 RX1 yX1_kept wsX1_kept) := goodIn_app (goodIn_of _ (by decide +kernel)) ggL_law_X1_kept
set_option maxRecDepth 20000 in
theorem ggL_law_L_measure : GoodIn wsL_law wsL_measure := goodIn_ca (goodIn_r _ [390, 31, 391, 392, 393, 2, 394, 36, 37, 16, 300, 301, 302, 399, 400, 401, 402, 403, 404, 405, 406, 407, 408, 409, 410] (by decide +kernel) (by decide +kernel)) (goodIn_sub (fun _ h => List.mem_append_right _ h) (by decide +kernel))
set_option maxRecDepth 20000 in
theorem gL_law_L_measure : GoodIn wsL_law (va_wsS RL 83 yL_measure wsL_measure) := goodIn_app (goodIn_of _ (by decide +kernel)) ggL_law_L_measure
set_option maxRecDepth 20000 in
theorem ggL_law_X1_measure : GoodIn wsL_law wsX1_measure := goodIn_r _ [398, 24, 209, 210, 211, 5, 212, 213, 411, 412, 413, 414, 415, 416, 417, 418, 419, 420, 421, 422, 423, 424, 425] (by decide +kernel) (by decide +kernel)
set_option maxRecDepth 20000 in
theorem gL_law_X1_measure : GoodIn wsL_law (wsV RL 85 RX1 yX1_measure wsX1_measure) := goodIn_app (goodIn_of _ (by decide +kernel)) ggL_law_X1_measure
theorem dL_law_0 : decode cL_law 0 = .ok (.new 8, 3) := by decide +kernel
theorem dL_law_3 : decode cL_law 3 = .ok (.dup, 1) := by decide +kernel
theorem dL_law_4 : decode cL_law 4 = .ok (.invokespecial 36, 3) := by decide +kernel
theorem dL_law_7 : decode cL_law 7 = .ok (.astore_n 1, 1) := by decide +kernel
theorem dL_law_8 : decode cL_law 8 = .ok (.new 37, 3) := by decide +kernel
theorem dL_law_11 : decode cL_law 11 = .ok (.dup, 1) := by decide +kernel
theorem dL_law_12 : decode cL_law 12 = .ok (.invokespecial 39, 3) := by decide +kernel
theorem dL_law_15 : decode cL_law 15 = .ok (.astore_n 2, 1) := by decide +kernel
theorem dL_law_16 : decode cL_law 16 = .ok (.iconst 1, 1) := by decide +kernel
theorem dL_law_17 : decode cL_law 17 = .ok (.newarray .long, 2) := by decide +kernel
theorem dL_law_19 : decode cL_law 19 = .ok (.astore_n 3, 1) := by decide +kernel
theorem dL_law_20 : decode cL_law 20 = .ok (.iconst 0, 1) := by decide +kernel
theorem dL_law_21 : decode cL_law 21 = .ok (.istore 4, 2) := by decide +kernel
theorem dL_law_23 : decode cL_law 23 = .ok (.iload 4, 2) := by decide +kernel
theorem dL_law_25 : decode cL_law 25 = .ok (.aload_n 0, 1) := by decide +kernel
theorem dL_law_26 : decode cL_law 26 = .ok (.arraylength, 1) := by decide +kernel
theorem dL_law_27 : decode cL_law 27 = .ok (.iconst 3, 1) := by decide +kernel
theorem dL_law_28 : decode cL_law 28 = .ok (.isub, 1) := by decide +kernel
theorem dL_law_29 : decode cL_law 29 = .ok (.if_icmp .gt 588, 3) := by decide +kernel
theorem dL_law_32 : decode cL_law 32 = .ok (.aload_n 0, 1) := by decide +kernel
theorem dL_law_33 : decode cL_law 33 = .ok (.iload 4, 2) := by decide +kernel
theorem dL_law_35 : decode cL_law 35 = .ok (.iaload, 1) := by decide +kernel
theorem dL_law_36 : decode cL_law 36 = .ok (.bipush 15, 2) := by decide +kernel
theorem dL_law_38 : decode cL_law 38 = .ok (.iand, 1) := by decide +kernel
theorem dL_law_39 : decode cL_law 39 = .ok (.tableswitch 572 0 10 #[57, 113, 181, 265, 278, 291, 347, 403, 466, 479, 516], 57) := by decide +kernel
theorem dL_law_96 : decode cL_law 96 = .ok (.aload_n 1, 1) := by decide +kernel
theorem dL_law_97 : decode cL_law 97 = .ok (.aload_n 0, 1) := by decide +kernel
theorem dL_law_98 : decode cL_law 98 = .ok (.iload 4, 2) := by decide +kernel
theorem dL_law_100 : decode cL_law 100 = .ok (.iconst 1, 1) := by decide +kernel
theorem dL_law_101 : decode cL_law 101 = .ok (.iadd, 1) := by decide +kernel
theorem dL_law_102 : decode cL_law 102 = .ok (.iaload, 1) := by decide +kernel
theorem dL_law_103 : decode cL_law 103 = .ok (.aload_n 3, 1) := by decide +kernel
theorem dL_law_104 : decode cL_law 104 = .ok (.invokestatic 40, 3) := by decide +kernel
theorem dL_law_107 : decode cL_law 107 = .ok (.istore 5, 2) := by decide +kernel
theorem dL_law_109 : decode cL_law 109 = .ok (.aload_n 2, 1) := by decide +kernel
theorem dL_law_110 : decode cL_law 110 = .ok (.aload_n 0, 1) := by decide +kernel
theorem dL_law_111 : decode cL_law 111 = .ok (.iload 4, 2) := by decide +kernel
theorem dL_law_113 : decode cL_law 113 = .ok (.iconst 1, 1) := by decide +kernel
theorem dL_law_114 : decode cL_law 114 = .ok (.iadd, 1) := by decide +kernel
theorem dL_law_115 : decode cL_law 115 = .ok (.iaload, 1) := by decide +kernel
theorem dL_law_116 : decode cL_law 116 = .ok (.invokevirtual 45, 3) := by decide +kernel
theorem dL_law_119 : decode cL_law 119 = .ok (.istore 6, 2) := by decide +kernel
theorem dL_law_121 : decode cL_law 121 = .ok (.aload_n 2, 1) := by decide +kernel
theorem dL_law_122 : decode cL_law 122 = .ok (.invokevirtual 46, 3) := by decide +kernel
theorem dL_law_125 : decode cL_law 125 = .ok (.iload 5, 2) := by decide +kernel
theorem dL_law_127 : decode cL_law 127 = .ok (.if_icmp .eq 5, 3) := by decide +kernel
theorem dL_law_130 : decode cL_law 130 = .ok (.iconst 0, 1) := by decide +kernel
theorem dL_law_131 : decode cL_law 131 = .ok (.ireturn, 1) := by decide +kernel
theorem dL_law_132 : decode cL_law 132 = .ok (.iload 5, 2) := by decide +kernel
theorem dL_law_134 : decode cL_law 134 = .ok (.ifCond .ne 15, 3) := by decide +kernel
theorem dL_law_137 : decode cL_law 137 = .ok (.aload_n 3, 1) := by decide +kernel
theorem dL_law_138 : decode cL_law 138 = .ok (.iconst 0, 1) := by decide +kernel
theorem dL_law_139 : decode cL_law 139 = .ok (.laload, 1) := by decide +kernel
theorem dL_law_140 : decode cL_law 140 = .ok (.iload 6, 2) := by decide +kernel
theorem dL_law_142 : decode cL_law 142 = .ok (.i2l, 1) := by decide +kernel
theorem dL_law_143 : decode cL_law 143 = .ok (.lcmp, 1) := by decide +kernel
theorem dL_law_144 : decode cL_law 144 = .ok (.ifCond .eq 5, 3) := by decide +kernel
theorem dL_law_147 : decode cL_law 147 = .ok (.iconst 0, 1) := by decide +kernel
theorem dL_law_148 : decode cL_law 148 = .ok (.ireturn, 1) := by decide +kernel
theorem dL_law_149 : decode cL_law 149 = .ok (.goto 462, 3) := by decide +kernel
theorem dL_law_152 : decode cL_law 152 = .ok (.aload_n 1, 1) := by decide +kernel
theorem dL_law_153 : decode cL_law 153 = .ok (.aload_n 0, 1) := by decide +kernel
theorem dL_law_154 : decode cL_law 154 = .ok (.iload 4, 2) := by decide +kernel
theorem dL_law_156 : decode cL_law 156 = .ok (.iconst 1, 1) := by decide +kernel
theorem dL_law_157 : decode cL_law 157 = .ok (.iadd, 1) := by decide +kernel
theorem dL_law_158 : decode cL_law 158 = .ok (.iaload, 1) := by decide +kernel
theorem dL_law_159 : decode cL_law 159 = .ok (.aload_n 0, 1) := by decide +kernel
theorem dL_law_160 : decode cL_law 160 = .ok (.iload 4, 2) := by decide +kernel
theorem dL_law_162 : decode cL_law 162 = .ok (.iconst 2, 1) := by decide +kernel
theorem dL_law_163 : decode cL_law 163 = .ok (.iadd, 1) := by decide +kernel
theorem dL_law_164 : decode cL_law 164 = .ok (.iaload, 1) := by decide +kernel
theorem dL_law_165 : decode cL_law 165 = .ok (.aload_n 3, 1) := by decide +kernel
theorem dL_law_166 : decode cL_law 166 = .ok (.invokestatic 50, 3) := by decide +kernel
theorem dL_law_169 : decode cL_law 169 = .ok (.istore 5, 2) := by decide +kernel
theorem dL_law_171 : decode cL_law 171 = .ok (.aload_n 2, 1) := by decide +kernel
theorem dL_law_172 : decode cL_law 172 = .ok (.aload_n 0, 1) := by decide +kernel
theorem dL_law_173 : decode cL_law 173 = .ok (.iload 4, 2) := by decide +kernel
theorem dL_law_175 : decode cL_law 175 = .ok (.iconst 1, 1) := by decide +kernel
theorem dL_law_176 : decode cL_law 176 = .ok (.iadd, 1) := by decide +kernel
theorem dL_law_177 : decode cL_law 177 = .ok (.iaload, 1) := by decide +kernel
theorem dL_law_178 : decode cL_law 178 = .ok (.aload_n 0, 1) := by decide +kernel
theorem dL_law_179 : decode cL_law 179 = .ok (.iload 4, 2) := by decide +kernel
theorem dL_law_181 : decode cL_law 181 = .ok (.iconst 2, 1) := by decide +kernel
theorem dL_law_182 : decode cL_law 182 = .ok (.iadd, 1) := by decide +kernel
theorem dL_law_183 : decode cL_law 183 = .ok (.iaload, 1) := by decide +kernel
theorem dL_law_184 : decode cL_law 184 = .ok (.invokevirtual 53, 3) := by decide +kernel
theorem dL_law_187 : decode cL_law 187 = .ok (.istore 6, 2) := by decide +kernel
theorem dL_law_189 : decode cL_law 189 = .ok (.aload_n 2, 1) := by decide +kernel
theorem dL_law_190 : decode cL_law 190 = .ok (.invokevirtual 46, 3) := by decide +kernel
theorem dL_law_193 : decode cL_law 193 = .ok (.iload 5, 2) := by decide +kernel
theorem dL_law_195 : decode cL_law 195 = .ok (.if_icmp .eq 5, 3) := by decide +kernel
theorem dL_law_198 : decode cL_law 198 = .ok (.iconst 0, 1) := by decide +kernel
theorem dL_law_199 : decode cL_law 199 = .ok (.ireturn, 1) := by decide +kernel
theorem dL_law_200 : decode cL_law 200 = .ok (.iload 5, 2) := by decide +kernel
theorem dL_law_202 : decode cL_law 202 = .ok (.ifCond .ne 15, 3) := by decide +kernel
theorem dL_law_205 : decode cL_law 205 = .ok (.aload_n 3, 1) := by decide +kernel
theorem dL_law_206 : decode cL_law 206 = .ok (.iconst 0, 1) := by decide +kernel
theorem dL_law_207 : decode cL_law 207 = .ok (.laload, 1) := by decide +kernel
theorem dL_law_208 : decode cL_law 208 = .ok (.iload 6, 2) := by decide +kernel
theorem dL_law_210 : decode cL_law 210 = .ok (.i2l, 1) := by decide +kernel
theorem dL_law_211 : decode cL_law 211 = .ok (.lcmp, 1) := by decide +kernel
theorem dL_law_212 : decode cL_law 212 = .ok (.ifCond .eq 5, 3) := by decide +kernel
theorem dL_law_215 : decode cL_law 215 = .ok (.iconst 0, 1) := by decide +kernel
theorem dL_law_216 : decode cL_law 216 = .ok (.ireturn, 1) := by decide +kernel
theorem dL_law_217 : decode cL_law 217 = .ok (.goto 394, 3) := by decide +kernel
theorem dL_law_220 : decode cL_law 220 = .ok (.aload_n 1, 1) := by decide +kernel
theorem dL_law_221 : decode cL_law 221 = .ok (.aload_n 0, 1) := by decide +kernel
theorem dL_law_222 : decode cL_law 222 = .ok (.iload 4, 2) := by decide +kernel
theorem dL_law_224 : decode cL_law 224 = .ok (.iconst 1, 1) := by decide +kernel
theorem dL_law_225 : decode cL_law 225 = .ok (.iadd, 1) := by decide +kernel
theorem dL_law_226 : decode cL_law 226 = .ok (.iaload, 1) := by decide +kernel
theorem dL_law_227 : decode cL_law 227 = .ok (.aload_n 0, 1) := by decide +kernel
theorem dL_law_228 : decode cL_law 228 = .ok (.iload 4, 2) := by decide +kernel
theorem dL_law_230 : decode cL_law 230 = .ok (.iconst 2, 1) := by decide +kernel
theorem dL_law_231 : decode cL_law 231 = .ok (.iadd, 1) := by decide +kernel
theorem dL_law_232 : decode cL_law 232 = .ok (.iaload, 1) := by decide +kernel
theorem dL_law_233 : decode cL_law 233 = .ok (.ifCond .eq 7, 3) := by decide +kernel
theorem dL_law_236 : decode cL_law 236 = .ok (.iconst 1, 1) := by decide +kernel
theorem dL_law_237 : decode cL_law 237 = .ok (.goto 4, 3) := by decide +kernel
theorem dL_law_240 : decode cL_law 240 = .ok (.iconst 0, 1) := by decide +kernel
theorem dL_law_241 : decode cL_law 241 = .ok (.aload_n 3, 1) := by decide +kernel
theorem dL_law_242 : decode cL_law 242 = .ok (.invokestatic 54, 3) := by decide +kernel
theorem dL_law_245 : decode cL_law 245 = .ok (.istore 5, 2) := by decide +kernel
theorem dL_law_247 : decode cL_law 247 = .ok (.aload_n 2, 1) := by decide +kernel
theorem dL_law_248 : decode cL_law 248 = .ok (.aload_n 0, 1) := by decide +kernel
theorem dL_law_249 : decode cL_law 249 = .ok (.iload 4, 2) := by decide +kernel
theorem dL_law_251 : decode cL_law 251 = .ok (.iconst 1, 1) := by decide +kernel
theorem dL_law_252 : decode cL_law 252 = .ok (.iadd, 1) := by decide +kernel
theorem dL_law_253 : decode cL_law 253 = .ok (.iaload, 1) := by decide +kernel
theorem dL_law_254 : decode cL_law 254 = .ok (.aload_n 0, 1) := by decide +kernel
theorem dL_law_255 : decode cL_law 255 = .ok (.iload 4, 2) := by decide +kernel
theorem dL_law_257 : decode cL_law 257 = .ok (.iconst 2, 1) := by decide +kernel
theorem dL_law_258 : decode cL_law 258 = .ok (.iadd, 1) := by decide +kernel
theorem dL_law_259 : decode cL_law 259 = .ok (.iaload, 1) := by decide +kernel
theorem dL_law_260 : decode cL_law 260 = .ok (.ifCond .eq 7, 3) := by decide +kernel
theorem dL_law_263 : decode cL_law 263 = .ok (.iconst 1, 1) := by decide +kernel
theorem dL_law_264 : decode cL_law 264 = .ok (.goto 4, 3) := by decide +kernel
theorem dL_law_267 : decode cL_law 267 = .ok (.iconst 0, 1) := by decide +kernel
theorem dL_law_268 : decode cL_law 268 = .ok (.invokevirtual 57, 3) := by decide +kernel
theorem dL_law_271 : decode cL_law 271 = .ok (.istore 6, 2) := by decide +kernel
theorem dL_law_273 : decode cL_law 273 = .ok (.aload_n 2, 1) := by decide +kernel
theorem dL_law_274 : decode cL_law 274 = .ok (.invokevirtual 46, 3) := by decide +kernel
theorem dL_law_277 : decode cL_law 277 = .ok (.iload 5, 2) := by decide +kernel
theorem dL_law_279 : decode cL_law 279 = .ok (.if_icmp .eq 5, 3) := by decide +kernel
theorem dL_law_282 : decode cL_law 282 = .ok (.iconst 0, 1) := by decide +kernel
theorem dL_law_283 : decode cL_law 283 = .ok (.ireturn, 1) := by decide +kernel
theorem dL_law_284 : decode cL_law 284 = .ok (.iload 5, 2) := by decide +kernel
theorem dL_law_286 : decode cL_law 286 = .ok (.ifCond .ne 15, 3) := by decide +kernel
theorem dL_law_289 : decode cL_law 289 = .ok (.aload_n 3, 1) := by decide +kernel
theorem dL_law_290 : decode cL_law 290 = .ok (.iconst 0, 1) := by decide +kernel
theorem dL_law_291 : decode cL_law 291 = .ok (.laload, 1) := by decide +kernel
theorem dL_law_292 : decode cL_law 292 = .ok (.iload 6, 2) := by decide +kernel
theorem dL_law_294 : decode cL_law 294 = .ok (.i2l, 1) := by decide +kernel
theorem dL_law_295 : decode cL_law 295 = .ok (.lcmp, 1) := by decide +kernel
theorem dL_law_296 : decode cL_law 296 = .ok (.ifCond .eq 5, 3) := by decide +kernel
theorem dL_law_299 : decode cL_law 299 = .ok (.iconst 0, 1) := by decide +kernel
theorem dL_law_300 : decode cL_law 300 = .ok (.ireturn, 1) := by decide +kernel
theorem dL_law_301 : decode cL_law 301 = .ok (.goto 310, 3) := by decide +kernel
theorem dL_law_304 : decode cL_law 304 = .ok (.aload_n 1, 1) := by decide +kernel
theorem dL_law_305 : decode cL_law 305 = .ok (.invokevirtual 58, 3) := by decide +kernel
theorem dL_law_308 : decode cL_law 308 = .ok (.aload_n 2, 1) := by decide +kernel
theorem dL_law_309 : decode cL_law 309 = .ok (.invokevirtual 61, 3) := by decide +kernel
theorem dL_law_312 : decode cL_law 312 = .ok (.if_icmp .eq 299, 3) := by decide +kernel
theorem dL_law_315 : decode cL_law 315 = .ok (.iconst 0, 1) := by decide +kernel
theorem dL_law_316 : decode cL_law 316 = .ok (.ireturn, 1) := by decide +kernel
theorem dL_law_317 : decode cL_law 317 = .ok (.aload_n 1, 1) := by decide +kernel
theorem dL_law_318 : decode cL_law 318 = .ok (.invokevirtual 62, 3) := by decide +kernel
theorem dL_law_321 : decode cL_law 321 = .ok (.aload_n 2, 1) := by decide +kernel
theorem dL_law_322 : decode cL_law 322 = .ok (.invokevirtual 65, 3) := by decide +kernel
theorem dL_law_325 : decode cL_law 325 = .ok (.if_icmp .eq 286, 3) := by decide +kernel
theorem dL_law_328 : decode cL_law 328 = .ok (.iconst 0, 1) := by decide +kernel
theorem dL_law_329 : decode cL_law 329 = .ok (.ireturn, 1) := by decide +kernel
theorem dL_law_330 : decode cL_law 330 = .ok (.aload_n 1, 1) := by decide +kernel
theorem dL_law_331 : decode cL_law 331 = .ok (.aload_n 0, 1) := by decide +kernel
theorem dL_law_332 : decode cL_law 332 = .ok (.iload 4, 2) := by decide +kernel
theorem dL_law_334 : decode cL_law 334 = .ok (.iconst 1, 1) := by decide +kernel
theorem dL_law_335 : decode cL_law 335 = .ok (.iadd, 1) := by decide +kernel
theorem dL_law_336 : decode cL_law 336 = .ok (.iaload, 1) := by decide +kernel
theorem dL_law_337 : decode cL_law 337 = .ok (.aload_n 3, 1) := by decide +kernel
theorem dL_law_338 : decode cL_law 338 = .ok (.invokestatic 66, 3) := by decide +kernel
theorem dL_law_341 : decode cL_law 341 = .ok (.istore 5, 2) := by decide +kernel
theorem dL_law_343 : decode cL_law 343 = .ok (.aload_n 2, 1) := by decide +kernel
theorem dL_law_344 : decode cL_law 344 = .ok (.aload_n 0, 1) := by decide +kernel
theorem dL_law_345 : decode cL_law 345 = .ok (.iload 4, 2) := by decide +kernel
theorem dL_law_347 : decode cL_law 347 = .ok (.iconst 1, 1) := by decide +kernel
theorem dL_law_348 : decode cL_law 348 = .ok (.iadd, 1) := by decide +kernel
theorem dL_law_349 : decode cL_law 349 = .ok (.iaload, 1) := by decide +kernel
theorem dL_law_350 : decode cL_law 350 = .ok (.invokevirtual 68, 3) := by decide +kernel
theorem dL_law_353 : decode cL_law 353 = .ok (.istore 6, 2) := by decide +kernel
theorem dL_law_355 : decode cL_law 355 = .ok (.aload_n 2, 1) := by decide +kernel
theorem dL_law_356 : decode cL_law 356 = .ok (.invokevirtual 46, 3) := by decide +kernel
theorem dL_law_359 : decode cL_law 359 = .ok (.iload 5, 2) := by decide +kernel
theorem dL_law_361 : decode cL_law 361 = .ok (.if_icmp .eq 5, 3) := by decide +kernel
theorem dL_law_364 : decode cL_law 364 = .ok (.iconst 0, 1) := by decide +kernel
theorem dL_law_365 : decode cL_law 365 = .ok (.ireturn, 1) := by decide +kernel
theorem dL_law_366 : decode cL_law 366 = .ok (.iload 5, 2) := by decide +kernel
theorem dL_law_368 : decode cL_law 368 = .ok (.ifCond .ne 15, 3) := by decide +kernel
theorem dL_law_371 : decode cL_law 371 = .ok (.aload_n 3, 1) := by decide +kernel
theorem dL_law_372 : decode cL_law 372 = .ok (.iconst 0, 1) := by decide +kernel
theorem dL_law_373 : decode cL_law 373 = .ok (.laload, 1) := by decide +kernel
theorem dL_law_374 : decode cL_law 374 = .ok (.iload 6, 2) := by decide +kernel
theorem dL_law_376 : decode cL_law 376 = .ok (.i2l, 1) := by decide +kernel
theorem dL_law_377 : decode cL_law 377 = .ok (.lcmp, 1) := by decide +kernel
theorem dL_law_378 : decode cL_law 378 = .ok (.ifCond .eq 5, 3) := by decide +kernel
theorem dL_law_381 : decode cL_law 381 = .ok (.iconst 0, 1) := by decide +kernel
theorem dL_law_382 : decode cL_law 382 = .ok (.ireturn, 1) := by decide +kernel
theorem dL_law_383 : decode cL_law 383 = .ok (.goto 228, 3) := by decide +kernel
theorem dL_law_386 : decode cL_law 386 = .ok (.aload_n 1, 1) := by decide +kernel
theorem dL_law_387 : decode cL_law 387 = .ok (.aload_n 0, 1) := by decide +kernel
theorem dL_law_388 : decode cL_law 388 = .ok (.iload 4, 2) := by decide +kernel
theorem dL_law_390 : decode cL_law 390 = .ok (.iconst 1, 1) := by decide +kernel
theorem dL_law_391 : decode cL_law 391 = .ok (.iadd, 1) := by decide +kernel
theorem dL_law_392 : decode cL_law 392 = .ok (.iaload, 1) := by decide +kernel
theorem dL_law_393 : decode cL_law 393 = .ok (.aload_n 3, 1) := by decide +kernel
theorem dL_law_394 : decode cL_law 394 = .ok (.invokestatic 69, 3) := by decide +kernel
theorem dL_law_397 : decode cL_law 397 = .ok (.istore 5, 2) := by decide +kernel
theorem dL_law_399 : decode cL_law 399 = .ok (.aload_n 2, 1) := by decide +kernel
theorem dL_law_400 : decode cL_law 400 = .ok (.aload_n 0, 1) := by decide +kernel
theorem dL_law_401 : decode cL_law 401 = .ok (.iload 4, 2) := by decide +kernel
theorem dL_law_403 : decode cL_law 403 = .ok (.iconst 1, 1) := by decide +kernel
theorem dL_law_404 : decode cL_law 404 = .ok (.iadd, 1) := by decide +kernel
theorem dL_law_405 : decode cL_law 405 = .ok (.iaload, 1) := by decide +kernel
theorem dL_law_406 : decode cL_law 406 = .ok (.invokevirtual 71, 3) := by decide +kernel
theorem dL_law_409 : decode cL_law 409 = .ok (.istore 6, 2) := by decide +kernel
theorem dL_law_411 : decode cL_law 411 = .ok (.aload_n 2, 1) := by decide +kernel
theorem dL_law_412 : decode cL_law 412 = .ok (.invokevirtual 46, 3) := by decide +kernel
theorem dL_law_415 : decode cL_law 415 = .ok (.iload 5, 2) := by decide +kernel
theorem dL_law_417 : decode cL_law 417 = .ok (.if_icmp .eq 5, 3) := by decide +kernel
theorem dL_law_420 : decode cL_law 420 = .ok (.iconst 0, 1) := by decide +kernel
theorem dL_law_421 : decode cL_law 421 = .ok (.ireturn, 1) := by decide +kernel
theorem dL_law_422 : decode cL_law 422 = .ok (.iload 5, 2) := by decide +kernel
theorem dL_law_424 : decode cL_law 424 = .ok (.ifCond .ne 15, 3) := by decide +kernel
theorem dL_law_427 : decode cL_law 427 = .ok (.aload_n 3, 1) := by decide +kernel
theorem dL_law_428 : decode cL_law 428 = .ok (.iconst 0, 1) := by decide +kernel
theorem dL_law_429 : decode cL_law 429 = .ok (.laload, 1) := by decide +kernel
theorem dL_law_430 : decode cL_law 430 = .ok (.iload 6, 2) := by decide +kernel
theorem dL_law_432 : decode cL_law 432 = .ok (.i2l, 1) := by decide +kernel
theorem dL_law_433 : decode cL_law 433 = .ok (.lcmp, 1) := by decide +kernel
theorem dL_law_434 : decode cL_law 434 = .ok (.ifCond .eq 5, 3) := by decide +kernel
theorem dL_law_437 : decode cL_law 437 = .ok (.iconst 0, 1) := by decide +kernel
theorem dL_law_438 : decode cL_law 438 = .ok (.ireturn, 1) := by decide +kernel
theorem dL_law_439 : decode cL_law 439 = .ok (.goto 172, 3) := by decide +kernel
theorem dL_law_442 : decode cL_law 442 = .ok (.aload_n 1, 1) := by decide +kernel
theorem dL_law_443 : decode cL_law 443 = .ok (.aload_n 0, 1) := by decide +kernel
theorem dL_law_444 : decode cL_law 444 = .ok (.iload 4, 2) := by decide +kernel
theorem dL_law_446 : decode cL_law 446 = .ok (.iconst 1, 1) := by decide +kernel
theorem dL_law_447 : decode cL_law 447 = .ok (.iadd, 1) := by decide +kernel
theorem dL_law_448 : decode cL_law 448 = .ok (.iaload, 1) := by decide +kernel
theorem dL_law_449 : decode cL_law 449 = .ok (.aload_n 3, 1) := by decide +kernel
theorem dL_law_450 : decode cL_law 450 = .ok (.invokestatic 72, 3) := by decide +kernel
theorem dL_law_453 : decode cL_law 453 = .ok (.istore 5, 2) := by decide +kernel
theorem dL_law_455 : decode cL_law 455 = .ok (.aload_n 2, 1) := by decide +kernel
theorem dL_law_456 : decode cL_law 456 = .ok (.aload_n 0, 1) := by decide +kernel
theorem dL_law_457 : decode cL_law 457 = .ok (.iload 4, 2) := by decide +kernel
theorem dL_law_459 : decode cL_law 459 = .ok (.iconst 1, 1) := by decide +kernel
theorem dL_law_460 : decode cL_law 460 = .ok (.iadd, 1) := by decide +kernel
theorem dL_law_461 : decode cL_law 461 = .ok (.iaload, 1) := by decide +kernel
theorem dL_law_462 : decode cL_law 462 = .ok (.invokevirtual 74, 3) := by decide +kernel
theorem dL_law_465 : decode cL_law 465 = .ok (.istore 6, 2) := by decide +kernel
theorem dL_law_467 : decode cL_law 467 = .ok (.aload_n 2, 1) := by decide +kernel
theorem dL_law_468 : decode cL_law 468 = .ok (.invokevirtual 46, 3) := by decide +kernel
theorem dL_law_471 : decode cL_law 471 = .ok (.iload 5, 2) := by decide +kernel
theorem dL_law_473 : decode cL_law 473 = .ok (.if_icmp .eq 5, 3) := by decide +kernel
theorem dL_law_476 : decode cL_law 476 = .ok (.iconst 0, 1) := by decide +kernel
theorem dL_law_477 : decode cL_law 477 = .ok (.ireturn, 1) := by decide +kernel
theorem dL_law_478 : decode cL_law 478 = .ok (.iload 5, 2) := by decide +kernel
theorem dL_law_480 : decode cL_law 480 = .ok (.ifCond .ne 22, 3) := by decide +kernel
theorem dL_law_483 : decode cL_law 483 = .ok (.aload_n 3, 1) := by decide +kernel
theorem dL_law_484 : decode cL_law 484 = .ok (.iconst 0, 1) := by decide +kernel
theorem dL_law_485 : decode cL_law 485 = .ok (.laload, 1) := by decide +kernel
theorem dL_law_486 : decode cL_law 486 = .ok (.iload 6, 2) := by decide +kernel
theorem dL_law_488 : decode cL_law 488 = .ok (.ifCond .eq 7, 3) := by decide +kernel
theorem dL_law_491 : decode cL_law 491 = .ok (.lconst 1, 1) := by decide +kernel
theorem dL_law_492 : decode cL_law 492 = .ok (.goto 4, 3) := by decide +kernel
theorem dL_law_495 : decode cL_law 495 = .ok (.lconst 0, 1) := by decide +kernel
theorem dL_law_496 : decode cL_law 496 = .ok (.lcmp, 1) := by decide +kernel
theorem dL_law_497 : decode cL_law 497 = .ok (.ifCond .eq 5, 3) := by decide +kernel
theorem dL_law_500 : decode cL_law 500 = .ok (.iconst 0, 1) := by decide +kernel
theorem dL_law_501 : decode cL_law 501 = .ok (.ireturn, 1) := by decide +kernel
theorem dL_law_502 : decode cL_law 502 = .ok (.goto 109, 3) := by decide +kernel
theorem dL_law_505 : decode cL_law 505 = .ok (.aload_n 1, 1) := by decide +kernel
theorem dL_law_506 : decode cL_law 506 = .ok (.invokevirtual 75, 3) := by decide +kernel
theorem dL_law_509 : decode cL_law 509 = .ok (.aload_n 2, 1) := by decide +kernel
theorem dL_law_510 : decode cL_law 510 = .ok (.invokevirtual 78, 3) := by decide +kernel
theorem dL_law_513 : decode cL_law 513 = .ok (.if_icmp .eq 98, 3) := by decide +kernel
theorem dL_law_516 : decode cL_law 516 = .ok (.iconst 0, 1) := by decide +kernel
theorem dL_law_517 : decode cL_law 517 = .ok (.ireturn, 1) := by decide +kernel
theorem dL_law_518 : decode cL_law 518 = .ok (.aload_n 1, 1) := by decide +kernel
theorem dL_law_519 : decode cL_law 519 = .ok (.aload_n 0, 1) := by decide +kernel
theorem dL_law_520 : decode cL_law 520 = .ok (.iload 4, 2) := by decide +kernel
theorem dL_law_522 : decode cL_law 522 = .ok (.iconst 1, 1) := by decide +kernel
theorem dL_law_523 : decode cL_law 523 = .ok (.iadd, 1) := by decide +kernel
theorem dL_law_524 : decode cL_law 524 = .ok (.iaload, 1) := by decide +kernel
theorem dL_law_525 : decode cL_law 525 = .ok (.aload_n 0, 1) := by decide +kernel
theorem dL_law_526 : decode cL_law 526 = .ok (.iload 4, 2) := by decide +kernel
theorem dL_law_528 : decode cL_law 528 = .ok (.iconst 2, 1) := by decide +kernel
theorem dL_law_529 : decode cL_law 529 = .ok (.iadd, 1) := by decide +kernel
theorem dL_law_530 : decode cL_law 530 = .ok (.iaload, 1) := by decide +kernel
theorem dL_law_531 : decode cL_law 531 = .ok (.invokevirtual 79, 3) := by decide +kernel
theorem dL_law_534 : decode cL_law 534 = .ok (.aload_n 2, 1) := by decide +kernel
theorem dL_law_535 : decode cL_law 535 = .ok (.aload_n 0, 1) := by decide +kernel
theorem dL_law_536 : decode cL_law 536 = .ok (.iload 4, 2) := by decide +kernel
theorem dL_law_538 : decode cL_law 538 = .ok (.iconst 1, 1) := by decide +kernel
theorem dL_law_539 : decode cL_law 539 = .ok (.iadd, 1) := by decide +kernel
theorem dL_law_540 : decode cL_law 540 = .ok (.iaload, 1) := by decide +kernel
theorem dL_law_541 : decode cL_law 541 = .ok (.aload_n 0, 1) := by decide +kernel
theorem dL_law_542 : decode cL_law 542 = .ok (.iload 4, 2) := by decide +kernel
theorem dL_law_544 : decode cL_law 544 = .ok (.iconst 2, 1) := by decide +kernel
theorem dL_law_545 : decode cL_law 545 = .ok (.iadd, 1) := by decide +kernel
theorem dL_law_546 : decode cL_law 546 = .ok (.iaload, 1) := by decide +kernel
theorem dL_law_547 : decode cL_law 547 = .ok (.invokevirtual 82, 3) := by decide +kernel
theorem dL_law_550 : decode cL_law 550 = .ok (.if_icmp .eq 61, 3) := by decide +kernel
theorem dL_law_553 : decode cL_law 553 = .ok (.iconst 0, 1) := by decide +kernel
theorem dL_law_554 : decode cL_law 554 = .ok (.ireturn, 1) := by decide +kernel
theorem dL_law_555 : decode cL_law 555 = .ok (.aload_n 1, 1) := by decide +kernel
theorem dL_law_556 : decode cL_law 556 = .ok (.aload_n 0, 1) := by decide +kernel
theorem dL_law_557 : decode cL_law 557 = .ok (.iload 4, 2) := by decide +kernel
theorem dL_law_559 : decode cL_law 559 = .ok (.iconst 1, 1) := by decide +kernel
theorem dL_law_560 : decode cL_law 560 = .ok (.iadd, 1) := by decide +kernel
theorem dL_law_561 : decode cL_law 561 = .ok (.iaload, 1) := by decide +kernel
theorem dL_law_562 : decode cL_law 562 = .ok (.aload_n 3, 1) := by decide +kernel
theorem dL_law_563 : decode cL_law 563 = .ok (.invokestatic 83, 3) := by decide +kernel
theorem dL_law_566 : decode cL_law 566 = .ok (.istore 5, 2) := by decide +kernel
theorem dL_law_568 : decode cL_law 568 = .ok (.aload_n 2, 1) := by decide +kernel
theorem dL_law_569 : decode cL_law 569 = .ok (.aload_n 0, 1) := by decide +kernel
theorem dL_law_570 : decode cL_law 570 = .ok (.iload 4, 2) := by decide +kernel
theorem dL_law_572 : decode cL_law 572 = .ok (.iconst 1, 1) := by decide +kernel
theorem dL_law_573 : decode cL_law 573 = .ok (.iadd, 1) := by decide +kernel
theorem dL_law_574 : decode cL_law 574 = .ok (.iaload, 1) := by decide +kernel
theorem dL_law_575 : decode cL_law 575 = .ok (.invokevirtual 85, 3) := by decide +kernel
theorem dL_law_578 : decode cL_law 578 = .ok (.istore 6, 2) := by decide +kernel
theorem dL_law_580 : decode cL_law 580 = .ok (.aload_n 2, 1) := by decide +kernel
theorem dL_law_581 : decode cL_law 581 = .ok (.invokevirtual 46, 3) := by decide +kernel
theorem dL_law_584 : decode cL_law 584 = .ok (.iload 5, 2) := by decide +kernel
theorem dL_law_586 : decode cL_law 586 = .ok (.if_icmp .eq 5, 3) := by decide +kernel
theorem dL_law_589 : decode cL_law 589 = .ok (.iconst 0, 1) := by decide +kernel
theorem dL_law_590 : decode cL_law 590 = .ok (.ireturn, 1) := by decide +kernel
theorem dL_law_591 : decode cL_law 591 = .ok (.iload 5, 2) := by decide +kernel
theorem dL_law_593 : decode cL_law 593 = .ok (.ifCond .ne 15, 3) := by decide +kernel
theorem dL_law_596 : decode cL_law 596 = .ok (.aload_n 3, 1) := by decide +kernel
theorem dL_law_597 : decode cL_law 597 = .ok (.iconst 0, 1) := by decide +kernel
theorem dL_law_598 : decode cL_law 598 = .ok (.laload, 1) := by decide +kernel
theorem dL_law_599 : decode cL_law 599 = .ok (.iload 6, 2) := by decide +kernel
theorem dL_law_601 : decode cL_law 601 = .ok (.i2l, 1) := by decide +kernel
theorem dL_law_602 : decode cL_law 602 = .ok (.lcmp, 1) := by decide +kernel
theorem dL_law_603 : decode cL_law 603 = .ok (.ifCond .eq 5, 3) := by decide +kernel
theorem dL_law_606 : decode cL_law 606 = .ok (.iconst 0, 1) := by decide +kernel
theorem dL_law_607 : decode cL_law 607 = .ok (.ireturn, 1) := by decide +kernel
theorem dL_law_608 : decode cL_law 608 = .ok (.goto 3, 3) := by decide +kernel
theorem dL_law_611 : decode cL_law 611 = .ok (.iinc 4 3, 3) := by decide +kernel
theorem dL_law_614 : decode cL_law 614 = .ok (.goto (-591), 3) := by decide +kernel
theorem dL_law_617 : decode cL_law 617 = .ok (.iconst 1, 1) := by decide +kernel
theorem dL_law_618 : decode cL_law 618 = .ok (.ireturn, 1) := by decide +kernel
abbrev vwCl : List vw_C := [(RX0, TX0, 12), (RX1, TX1, 15)]
