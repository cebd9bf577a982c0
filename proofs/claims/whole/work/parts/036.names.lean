theorem dX6_init_0 : decode cX6_init 0 = .ok (.aload_n 0, 1) := by decide +kernel
theorem dX6_init_1 : decode cX6_init 1 = .ok (.invokespecial 3, 3) := by decide +kernel
theorem dX6_init_4 : decode cX6_init 4 = .ok (.aload_n 0, 1) := by decide +kernel
theorem dX6_init_5 : decode cX6_init 5 = .ok (.bipush 124, 2) := by decide +kernel
theorem dX6_init_7 : decode cX6_init 7 = .ok (.newarray .int, 2) := by decide +kernel
theorem dX6_init_9 : decode cX6_init 9 = .ok (.putfield 9, 3) := by decide +kernel
theorem dX6_init_12 : decode cX6_init 12 = .ok (.aload_n 0, 1) := by decide +kernel
theorem dX6_init_13 : decode cX6_init 13 = .ok (.bipush 64, 2) := by decide +kernel
theorem dX6_init_15 : decode cX6_init 15 = .ok (.newarray .int, 2) := by decide +kernel
theorem dX6_init_17 : decode cX6_init 17 = .ok (.putfield 15, 3) := by decide +kernel
theorem dX6_init_20 : decode cX6_init 20 = .ok (.return_, 1) := by decide +kernel
theorem dX6_clear_0 : decode cX6_clear 0 = .ok (.aload_n 0, 1) := by decide +kernel
theorem dX6_clear_1 : decode cX6_clear 1 = .ok (.iconst 0, 1) := by decide +kernel
theorem dX6_clear_2 : decode cX6_clear 2 = .ok (.putfield 18, 3) := by decide +kernel
theorem dX6_clear_5 : decode cX6_clear 5 = .ok (.aload_n 0, 1) := by decide +kernel
theorem dX6_clear_6 : decode cX6_clear 6 = .ok (.iconst 0, 1) := by decide +kernel
theorem dX6_clear_7 : decode cX6_clear 7 = .ok (.putfield 22, 3) := by decide +kernel
theorem dX6_clear_10 : decode cX6_clear 10 = .ok (.return_, 1) := by decide +kernel
theorem dX6_add_0 : decode cX6_add 0 = .ok (.aload_n 0, 1) := by decide +kernel
theorem dX6_add_1 : decode cX6_add 1 = .ok (.getfield 18, 3) := by decide +kernel
theorem dX6_add_4 : decode cX6_add 4 = .ok (.ifCond .lt 15, 3) := by decide +kernel
theorem dX6_add_7 : decode cX6_add 7 = .ok (.aload_n 0, 1) := by decide +kernel
theorem dX6_add_8 : decode cX6_add 8 = .ok (.getfield 18, 3) := by decide +kernel
theorem dX6_add_11 : decode cX6_add 11 = .ok (.aload_n 0, 1) := by decide +kernel
theorem dX6_add_12 : decode cX6_add 12 = .ok (.getfield 9, 3) := by decide +kernel
theorem dX6_add_15 : decode cX6_add 15 = .ok (.arraylength, 1) := by decide +kernel
theorem dX6_add_16 : decode cX6_add 16 = .ok (.if_icmp .lt 4, 3) := by decide +kernel
theorem dX6_add_19 : decode cX6_add 19 = .ok (.return_, 1) := by decide +kernel
theorem dX6_add_20 : decode cX6_add 20 = .ok (.aload_n 0, 1) := by decide +kernel
theorem dX6_add_21 : decode cX6_add 21 = .ok (.getfield 9, 3) := by decide +kernel
theorem dX6_add_24 : decode cX6_add 24 = .ok (.aload_n 0, 1) := by decide +kernel
theorem dX6_add_25 : decode cX6_add 25 = .ok (.getfield 18, 3) := by decide +kernel
theorem dX6_add_28 : decode cX6_add 28 = .ok (.iload_n 1, 1) := by decide +kernel
theorem dX6_add_29 : decode cX6_add 29 = .ok (.iastore, 1) := by decide +kernel
theorem dX6_add_30 : decode cX6_add 30 = .ok (.aload_n 0, 1) := by decide +kernel
theorem dX6_add_31 : decode cX6_add 31 = .ok (.dup, 1) := by decide +kernel
theorem dX6_add_32 : decode cX6_add 32 = .ok (.getfield 18, 3) := by decide +kernel
theorem dX6_add_35 : decode cX6_add 35 = .ok (.iconst 1, 1) := by decide +kernel
theorem dX6_add_36 : decode cX6_add 36 = .ok (.iadd, 1) := by decide +kernel
theorem dX6_add_37 : decode cX6_add 37 = .ok (.putfield 18, 3) := by decide +kernel
theorem dX6_add_40 : decode cX6_add 40 = .ok (.aload_n 0, 1) := by decide +kernel
theorem dX6_add_41 : decode cX6_add 41 = .ok (.aload_n 0, 1) := by decide +kernel
theorem dX6_add_42 : decode cX6_add 42 = .ok (.getfield 22, 3) := by decide +kernel
theorem dX6_add_45 : decode cX6_add 45 = .ok (.ifCond .ne 9, 3) := by decide +kernel
theorem dX6_add_48 : decode cX6_add 48 = .ok (.iload_n 1, 1) := by decide +kernel
theorem dX6_add_49 : decode cX6_add 49 = .ok (.bipush 9, 2) := by decide +kernel
theorem dX6_add_51 : decode cX6_add 51 = .ok (.if_icmp .ne 7, 3) := by decide +kernel
theorem dX6_add_54 : decode cX6_add 54 = .ok (.iconst 1, 1) := by decide +kernel
theorem dX6_add_55 : decode cX6_add 55 = .ok (.goto 4, 3) := by decide +kernel
theorem dX6_add_58 : decode cX6_add 58 = .ok (.iconst 0, 1) := by decide +kernel
theorem dX6_add_59 : decode cX6_add 59 = .ok (.putfield 22, 3) := by decide +kernel
theorem dX6_add_62 : decode cX6_add 62 = .ok (.return_, 1) := by decide +kernel
theorem dX6_leadOn_0 : decode cX6_leadOn 0 = .ok (.iload_n 1, 1) := by decide +kernel
theorem dX6_leadOn_1 : decode cX6_leadOn 1 = .ok (.ifCond .lt 22, 3) := by decide +kernel
theorem dX6_leadOn_4 : decode cX6_leadOn 4 = .ok (.iload_n 1, 1) := by decide +kernel
theorem dX6_leadOn_5 : decode cX6_leadOn 5 = .ok (.aload_n 0, 1) := by decide +kernel
theorem dX6_leadOn_6 : decode cX6_leadOn 6 = .ok (.getfield 18, 3) := by decide +kernel
theorem dX6_leadOn_9 : decode cX6_leadOn 9 = .ok (.if_icmp .ge 14, 3) := by decide +kernel
theorem dX6_leadOn_12 : decode cX6_leadOn 12 = .ok (.aload_n 0, 1) := by decide +kernel
theorem dX6_leadOn_13 : decode cX6_leadOn 13 = .ok (.getfield 9, 3) := by decide +kernel
theorem dX6_leadOn_16 : decode cX6_leadOn 16 = .ok (.iload_n 1, 1) := by decide +kernel
theorem dX6_leadOn_17 : decode cX6_leadOn 17 = .ok (.aload_n 0, 1) := by decide +kernel
theorem dX6_leadOn_18 : decode cX6_leadOn 18 = .ok (.getfield 18, 3) := by decide +kernel
theorem dX6_leadOn_21 : decode cX6_leadOn 21 = .ok (.ineg, 1) := by decide +kernel
theorem dX6_leadOn_22 : decode cX6_leadOn 22 = .ok (.iastore, 1) := by decide +kernel
theorem dX6_leadOn_23 : decode cX6_leadOn 23 = .ok (.return_, 1) := by decide +kernel
set_option maxRecDepth 20000 in
theorem ggX6_worth_X6_joined : GoodIn wsX6_worth wsX6_joined := goodIn_r _ [11] rfl (by decide +kernel)
set_option maxRecDepth 20000 in
theorem gX6_worth_X6_joined : GoodIn wsX6_worth (va_wsS RX6 32 yX6_joined wsX6_joined) := goodIn_app (goodIn_of _ (by decide +kernel)) ggX6_worth_X6_joined
theorem dX6_worth_0 : decode cX6_worth 0 = .ok (.iconst 0, 1) := by decide +kernel
theorem dX6_worth_1 : decode cX6_worth 1 = .ok (.istore_n 2, 1) := by decide +kernel
theorem dX6_worth_2 : decode cX6_worth 2 = .ok (.iconst 0, 1) := by decide +kernel
theorem dX6_worth_3 : decode cX6_worth 3 = .ok (.istore_n 3, 1) := by decide +kernel
theorem dX6_worth_4 : decode cX6_worth 4 = .ok (.iload_n 3, 1) := by decide +kernel
theorem dX6_worth_5 : decode cX6_worth 5 = .ok (.aload_n 0, 1) := by decide +kernel
theorem dX6_worth_6 : decode cX6_worth 6 = .ok (.getfield 18, 3) := by decide +kernel
theorem dX6_worth_9 : decode cX6_worth 9 = .ok (.if_icmp .ge 265, 3) := by decide +kernel
theorem dX6_worth_12 : decode cX6_worth 12 = .ok (.iload_n 3, 1) := by decide +kernel
theorem dX6_worth_13 : decode cX6_worth 13 = .ok (.aload_n 0, 1) := by decide +kernel
theorem dX6_worth_14 : decode cX6_worth 14 = .ok (.getfield 9, 3) := by decide +kernel
theorem dX6_worth_17 : decode cX6_worth 17 = .ok (.arraylength, 1) := by decide +kernel
theorem dX6_worth_18 : decode cX6_worth 18 = .ok (.if_icmp .ge 256, 3) := by decide +kernel
theorem dX6_worth_21 : decode cX6_worth 21 = .ok (.aload_n 0, 1) := by decide +kernel
theorem dX6_worth_22 : decode cX6_worth 22 = .ok (.getfield 9, 3) := by decide +kernel
theorem dX6_worth_25 : decode cX6_worth 25 = .ok (.iload_n 3, 1) := by decide +kernel
theorem dX6_worth_26 : decode cX6_worth 26 = .ok (.iaload, 1) := by decide +kernel
theorem dX6_worth_27 : decode cX6_worth 27 = .ok (.istore 4, 2) := by decide +kernel
theorem dX6_worth_29 : decode cX6_worth 29 = .ok (.iload 4, 2) := by decide +kernel
theorem dX6_worth_31 : decode cX6_worth 31 = .ok (.sipush 1000, 3) := by decide +kernel
theorem dX6_worth_34 : decode cX6_worth 34 = .ok (.if_icmp .ge 15, 3) := by decide +kernel
theorem dX6_worth_37 : decode cX6_worth 37 = .ok (.iload 4, 2) := by decide +kernel
theorem dX6_worth_39 : decode cX6_worth 39 = .ok (.ifCond .lt 69, 3) := by decide +kernel
theorem dX6_worth_42 : decode cX6_worth 42 = .ok (.iload 4, 2) := by decide +kernel
theorem dX6_worth_44 : decode cX6_worth 44 = .ok (.bipush 10, 2) := by decide +kernel
theorem dX6_worth_46 : decode cX6_worth 46 = .ok (.if_icmp .ge 62, 3) := by decide +kernel
theorem dX6_worth_49 : decode cX6_worth 49 = .ok (.iload_n 2, 1) := by decide +kernel
theorem dX6_worth_50 : decode cX6_worth 50 = .ok (.aload_n 0, 1) := by decide +kernel
theorem dX6_worth_51 : decode cX6_worth 51 = .ok (.getfield 15, 3) := by decide +kernel
theorem dX6_worth_54 : decode cX6_worth 54 = .ok (.arraylength, 1) := by decide +kernel
theorem dX6_worth_55 : decode cX6_worth 55 = .ok (.if_icmp .ge 18, 3) := by decide +kernel
theorem dX6_worth_58 : decode cX6_worth 58 = .ok (.iload 4, 2) := by decide +kernel
theorem dX6_worth_60 : decode cX6_worth 60 = .ok (.sipush 1000, 3) := by decide +kernel
theorem dX6_worth_63 : decode cX6_worth 63 = .ok (.if_icmp .ge 12, 3) := by decide +kernel
theorem dX6_worth_66 : decode cX6_worth 66 = .ok (.iload 4, 2) := by decide +kernel
theorem dX6_worth_68 : decode cX6_worth 68 = .ok (.aload_n 1, 1) := by decide +kernel
theorem dX6_worth_69 : decode cX6_worth 69 = .ok (.arraylength, 1) := by decide +kernel
theorem dX6_worth_70 : decode cX6_worth 70 = .ok (.if_icmp .lt 5, 3) := by decide +kernel
theorem dX6_worth_73 : decode cX6_worth 73 = .ok (.iconst 0, 1) := by decide +kernel
theorem dX6_worth_74 : decode cX6_worth 74 = .ok (.ireturn, 1) := by decide +kernel
theorem dX6_worth_75 : decode cX6_worth 75 = .ok (.aload_n 0, 1) := by decide +kernel
theorem dX6_worth_76 : decode cX6_worth 76 = .ok (.getfield 15, 3) := by decide +kernel
theorem dX6_worth_79 : decode cX6_worth 79 = .ok (.iload_n 2, 1) := by decide +kernel
theorem dX6_worth_80 : decode cX6_worth 80 = .ok (.iload 4, 2) := by decide +kernel
theorem dX6_worth_82 : decode cX6_worth 82 = .ok (.sipush 1000, 3) := by decide +kernel
theorem dX6_worth_85 : decode cX6_worth 85 = .ok (.if_icmp .lt 12, 3) := by decide +kernel
theorem dX6_worth_88 : decode cX6_worth 88 = .ok (.iload 4, 2) := by decide +kernel
theorem dX6_worth_90 : decode cX6_worth 90 = .ok (.sipush 1000, 3) := by decide +kernel
theorem dX6_worth_93 : decode cX6_worth 93 = .ok (.isub, 1) := by decide +kernel
theorem dX6_worth_94 : decode cX6_worth 94 = .ok (.goto 7, 3) := by decide +kernel
theorem dX6_worth_97 : decode cX6_worth 97 = .ok (.aload_n 1, 1) := by decide +kernel
theorem dX6_worth_98 : decode cX6_worth 98 = .ok (.iload 4, 2) := by decide +kernel
theorem dX6_worth_100 : decode cX6_worth 100 = .ok (.iaload, 1) := by decide +kernel
theorem dX6_worth_101 : decode cX6_worth 101 = .ok (.iastore, 1) := by decide +kernel
theorem dX6_worth_102 : decode cX6_worth 102 = .ok (.iinc 2 1, 3) := by decide +kernel
theorem dX6_worth_105 : decode cX6_worth 105 = .ok (.goto 163, 3) := by decide +kernel
theorem dX6_worth_108 : decode cX6_worth 108 = .ok (.iload_n 2, 1) := by decide +kernel
theorem dX6_worth_109 : decode cX6_worth 109 = .ok (.iconst 1, 1) := by decide +kernel
theorem dX6_worth_110 : decode cX6_worth 110 = .ok (.if_icmp .lt 12, 3) := by decide +kernel
theorem dX6_worth_113 : decode cX6_worth 113 = .ok (.iload_n 2, 1) := by decide +kernel
theorem dX6_worth_114 : decode cX6_worth 114 = .ok (.aload_n 0, 1) := by decide +kernel
theorem dX6_worth_115 : decode cX6_worth 115 = .ok (.getfield 15, 3) := by decide +kernel
theorem dX6_worth_118 : decode cX6_worth 118 = .ok (.arraylength, 1) := by decide +kernel
theorem dX6_worth_119 : decode cX6_worth 119 = .ok (.if_icmp .le 5, 3) := by decide +kernel
theorem dX6_worth_122 : decode cX6_worth 122 = .ok (.iconst 0, 1) := by decide +kernel
theorem dX6_worth_123 : decode cX6_worth 123 = .ok (.ireturn, 1) := by decide +kernel
theorem dX6_worth_124 : decode cX6_worth 124 = .ok (.iload 4, 2) := by decide +kernel
theorem dX6_worth_126 : decode cX6_worth 126 = .ok (.bipush 59, 2) := by decide +kernel
theorem dX6_worth_128 : decode cX6_worth 128 = .ok (.if_icmp .ne 12, 3) := by decide +kernel
theorem dX6_worth_131 : decode cX6_worth 131 = .ok (.aload_n 0, 1) := by decide +kernel
theorem dX6_worth_132 : decode cX6_worth 132 = .ok (.getfield 15, 3) := by decide +kernel
theorem dX6_worth_135 : decode cX6_worth 135 = .ok (.iload_n 2, 1) := by decide +kernel
theorem dX6_worth_136 : decode cX6_worth 136 = .ok (.iconst 1, 1) := by decide +kernel
theorem dX6_worth_137 : decode cX6_worth 137 = .ok (.isub, 1) := by decide +kernel
theorem dX6_worth_138 : decode cX6_worth 138 = .ok (.iaload, 1) := by decide +kernel
theorem dX6_worth_139 : decode cX6_worth 139 = .ok (.ireturn, 1) := by decide +kernel
theorem dX6_worth_140 : decode cX6_worth 140 = .ok (.iload 4, 2) := by decide +kernel
theorem dX6_worth_142 : decode cX6_worth 142 = .ok (.ifCond .ge 28, 3) := by decide +kernel
theorem dX6_worth_145 : decode cX6_worth 145 = .ok (.iinc 2 (-1), 3) := by decide +kernel
theorem dX6_worth_148 : decode cX6_worth 148 = .ok (.aload_n 0, 1) := by decide +kernel
theorem dX6_worth_149 : decode cX6_worth 149 = .ok (.getfield 15, 3) := by decide +kernel
theorem dX6_worth_152 : decode cX6_worth 152 = .ok (.iload_n 2, 1) := by decide +kernel
theorem dX6_worth_153 : decode cX6_worth 153 = .ok (.iaload, 1) := by decide +kernel
theorem dX6_worth_154 : decode cX6_worth 154 = .ok (.ifCond .ne 114, 3) := by decide +kernel
theorem dX6_worth_157 : decode cX6_worth 157 = .ok (.iload_n 3, 1) := by decide +kernel
theorem dX6_worth_158 : decode cX6_worth 158 = .ok (.iload 4, 2) := by decide +kernel
theorem dX6_worth_160 : decode cX6_worth 160 = .ok (.ineg, 1) := by decide +kernel
theorem dX6_worth_161 : decode cX6_worth 161 = .ok (.iconst 1, 1) := by decide +kernel
theorem dX6_worth_162 : decode cX6_worth 162 = .ok (.isub, 1) := by decide +kernel
theorem dX6_worth_163 : decode cX6_worth 163 = .ok (.invokestatic 26, 3) := by decide +kernel
theorem dX6_worth_166 : decode cX6_worth 166 = .ok (.istore_n 3, 1) := by decide +kernel
theorem dX6_worth_167 : decode cX6_worth 167 = .ok (.goto 101, 3) := by decide +kernel
theorem dX6_worth_170 : decode cX6_worth 170 = .ok (.iload 4, 2) := by decide +kernel
theorem dX6_worth_172 : decode cX6_worth 172 = .ok (.bipush 126, 2) := by decide +kernel
theorem dX6_worth_174 : decode cX6_worth 174 = .ok (.if_icmp .ne 23, 3) := by decide +kernel
theorem dX6_worth_177 : decode cX6_worth 177 = .ok (.aload_n 0, 1) := by decide +kernel
theorem dX6_worth_178 : decode cX6_worth 178 = .ok (.getfield 15, 3) := by decide +kernel
theorem dX6_worth_181 : decode cX6_worth 181 = .ok (.iload_n 2, 1) := by decide +kernel
theorem dX6_worth_182 : decode cX6_worth 182 = .ok (.iconst 1, 1) := by decide +kernel
theorem dX6_worth_183 : decode cX6_worth 183 = .ok (.isub, 1) := by decide +kernel
theorem dX6_worth_184 : decode cX6_worth 184 = .ok (.aload_n 0, 1) := by decide +kernel
theorem dX6_worth_185 : decode cX6_worth 185 = .ok (.getfield 15, 3) := by decide +kernel
theorem dX6_worth_188 : decode cX6_worth 188 = .ok (.iload_n 2, 1) := by decide +kernel
theorem dX6_worth_189 : decode cX6_worth 189 = .ok (.iconst 1, 1) := by decide +kernel
theorem dX6_worth_190 : decode cX6_worth 190 = .ok (.isub, 1) := by decide +kernel
theorem dX6_worth_191 : decode cX6_worth 191 = .ok (.iaload, 1) := by decide +kernel
theorem dX6_worth_192 : decode cX6_worth 192 = .ok (.ineg, 1) := by decide +kernel
theorem dX6_worth_193 : decode cX6_worth 193 = .ok (.iastore, 1) := by decide +kernel
theorem dX6_worth_194 : decode cX6_worth 194 = .ok (.goto 74, 3) := by decide +kernel
theorem dX6_worth_197 : decode cX6_worth 197 = .ok (.iload 4, 2) := by decide +kernel
theorem dX6_worth_199 : decode cX6_worth 199 = .ok (.bipush 33, 2) := by decide +kernel
theorem dX6_worth_201 : decode cX6_worth 201 = .ok (.if_icmp .ne 30, 3) := by decide +kernel
theorem dX6_worth_204 : decode cX6_worth 204 = .ok (.aload_n 0, 1) := by decide +kernel
theorem dX6_worth_205 : decode cX6_worth 205 = .ok (.getfield 15, 3) := by decide +kernel
theorem dX6_worth_208 : decode cX6_worth 208 = .ok (.iload_n 2, 1) := by decide +kernel
theorem dX6_worth_209 : decode cX6_worth 209 = .ok (.iconst 1, 1) := by decide +kernel
theorem dX6_worth_210 : decode cX6_worth 210 = .ok (.isub, 1) := by decide +kernel
theorem dX6_worth_211 : decode cX6_worth 211 = .ok (.aload_n 0, 1) := by decide +kernel
theorem dX6_worth_212 : decode cX6_worth 212 = .ok (.getfield 15, 3) := by decide +kernel
theorem dX6_worth_215 : decode cX6_worth 215 = .ok (.iload_n 2, 1) := by decide +kernel
theorem dX6_worth_216 : decode cX6_worth 216 = .ok (.iconst 1, 1) := by decide +kernel
theorem dX6_worth_217 : decode cX6_worth 217 = .ok (.isub, 1) := by decide +kernel
theorem dX6_worth_218 : decode cX6_worth 218 = .ok (.iaload, 1) := by decide +kernel
theorem dX6_worth_219 : decode cX6_worth 219 = .ok (.ifCond .ne 7, 3) := by decide +kernel
theorem dX6_worth_222 : decode cX6_worth 222 = .ok (.iconst 1, 1) := by decide +kernel
theorem dX6_worth_223 : decode cX6_worth 223 = .ok (.goto 4, 3) := by decide +kernel
theorem dX6_worth_226 : decode cX6_worth 226 = .ok (.iconst 0, 1) := by decide +kernel
theorem dX6_worth_227 : decode cX6_worth 227 = .ok (.iastore, 1) := by decide +kernel
theorem dX6_worth_228 : decode cX6_worth 228 = .ok (.goto 40, 3) := by decide +kernel
theorem dX6_worth_231 : decode cX6_worth 231 = .ok (.iload_n 2, 1) := by decide +kernel
theorem dX6_worth_232 : decode cX6_worth 232 = .ok (.iconst 2, 1) := by decide +kernel
theorem dX6_worth_233 : decode cX6_worth 233 = .ok (.if_icmp .ge 5, 3) := by decide +kernel
theorem dX6_worth_236 : decode cX6_worth 236 = .ok (.iconst 0, 1) := by decide +kernel
theorem dX6_worth_237 : decode cX6_worth 237 = .ok (.ireturn, 1) := by decide +kernel
theorem dX6_worth_238 : decode cX6_worth 238 = .ok (.iinc 2 (-1), 3) := by decide +kernel
theorem dX6_worth_241 : decode cX6_worth 241 = .ok (.aload_n 0, 1) := by decide +kernel
theorem dX6_worth_242 : decode cX6_worth 242 = .ok (.getfield 15, 3) := by decide +kernel
theorem dX6_worth_245 : decode cX6_worth 245 = .ok (.iload_n 2, 1) := by decide +kernel
theorem dX6_worth_246 : decode cX6_worth 246 = .ok (.iconst 1, 1) := by decide +kernel
theorem dX6_worth_247 : decode cX6_worth 247 = .ok (.isub, 1) := by decide +kernel
theorem dX6_worth_248 : decode cX6_worth 248 = .ok (.iload 4, 2) := by decide +kernel
theorem dX6_worth_250 : decode cX6_worth 250 = .ok (.aload_n 0, 1) := by decide +kernel
theorem dX6_worth_251 : decode cX6_worth 251 = .ok (.getfield 15, 3) := by decide +kernel
theorem dX6_worth_254 : decode cX6_worth 254 = .ok (.iload_n 2, 1) := by decide +kernel
theorem dX6_worth_255 : decode cX6_worth 255 = .ok (.iconst 1, 1) := by decide +kernel
theorem dX6_worth_256 : decode cX6_worth 256 = .ok (.isub, 1) := by decide +kernel
theorem dX6_worth_257 : decode cX6_worth 257 = .ok (.iaload, 1) := by decide +kernel
theorem dX6_worth_258 : decode cX6_worth 258 = .ok (.aload_n 0, 1) := by decide +kernel
theorem dX6_worth_259 : decode cX6_worth 259 = .ok (.getfield 15, 3) := by decide +kernel
theorem dX6_worth_262 : decode cX6_worth 262 = .ok (.iload_n 2, 1) := by decide +kernel
theorem dX6_worth_263 : decode cX6_worth 263 = .ok (.iaload, 1) := by decide +kernel
theorem dX6_worth_264 : decode cX6_worth 264 = .ok (.invokestatic 32, 3) := by decide +kernel
theorem dX6_worth_267 : decode cX6_worth 267 = .ok (.iastore, 1) := by decide +kernel
theorem dX6_worth_268 : decode cX6_worth 268 = .ok (.iinc 3 1, 3) := by decide +kernel
theorem dX6_worth_271 : decode cX6_worth 271 = .ok (.goto (-267), 3) := by decide +kernel
theorem dX6_worth_274 : decode cX6_worth 274 = .ok (.iconst 0, 1) := by decide +kernel
theorem dX6_worth_275 : decode cX6_worth 275 = .ok (.ireturn, 1) := by decide +kernel
theorem dX6_joined_0 : decode cX6_joined 0 = .ok (.iload_n 0, 1) := by decide +kernel
theorem dX6_joined_1 : decode cX6_joined 1 = .ok (.lookupswitch 188 #[(37, 176), (38, 105), (42, 160), (43, 152), (45, 156), (47, 164), (60, 119), (61, 130), (62, 141), (124, 91)], 91) := by decide +kernel
theorem dX6_joined_92 : decode cX6_joined 92 = .ok (.iload_n 1, 1) := by decide +kernel
theorem dX6_joined_93 : decode cX6_joined 93 = .ok (.ifCond .ne 7, 3) := by decide +kernel
theorem dX6_joined_96 : decode cX6_joined 96 = .ok (.iload_n 2, 1) := by decide +kernel
theorem dX6_joined_97 : decode cX6_joined 97 = .ok (.ifCond .eq 7, 3) := by decide +kernel
theorem dX6_joined_100 : decode cX6_joined 100 = .ok (.iconst 1, 1) := by decide +kernel
theorem dX6_joined_101 : decode cX6_joined 101 = .ok (.goto 4, 3) := by decide +kernel
theorem dX6_joined_104 : decode cX6_joined 104 = .ok (.iconst 0, 1) := by decide +kernel
theorem dX6_joined_105 : decode cX6_joined 105 = .ok (.ireturn, 1) := by decide +kernel
theorem dX6_joined_106 : decode cX6_joined 106 = .ok (.iload_n 1, 1) := by decide +kernel
theorem dX6_joined_107 : decode cX6_joined 107 = .ok (.ifCond .eq 11, 3) := by decide +kernel
theorem dX6_joined_110 : decode cX6_joined 110 = .ok (.iload_n 2, 1) := by decide +kernel
theorem dX6_joined_111 : decode cX6_joined 111 = .ok (.ifCond .eq 7, 3) := by decide +kernel
theorem dX6_joined_114 : decode cX6_joined 114 = .ok (.iconst 1, 1) := by decide +kernel
theorem dX6_joined_115 : decode cX6_joined 115 = .ok (.goto 4, 3) := by decide +kernel
theorem dX6_joined_118 : decode cX6_joined 118 = .ok (.iconst 0, 1) := by decide +kernel
theorem dX6_joined_119 : decode cX6_joined 119 = .ok (.ireturn, 1) := by decide +kernel
theorem dX6_joined_120 : decode cX6_joined 120 = .ok (.iload_n 1, 1) := by decide +kernel
theorem dX6_joined_121 : decode cX6_joined 121 = .ok (.iload_n 2, 1) := by decide +kernel
theorem dX6_joined_122 : decode cX6_joined 122 = .ok (.if_icmp .ge 7, 3) := by decide +kernel
theorem dX6_joined_125 : decode cX6_joined 125 = .ok (.iconst 1, 1) := by decide +kernel
theorem dX6_joined_126 : decode cX6_joined 126 = .ok (.goto 4, 3) := by decide +kernel
theorem dX6_joined_129 : decode cX6_joined 129 = .ok (.iconst 0, 1) := by decide +kernel
theorem dX6_joined_130 : decode cX6_joined 130 = .ok (.ireturn, 1) := by decide +kernel
theorem dX6_joined_131 : decode cX6_joined 131 = .ok (.iload_n 1, 1) := by decide +kernel
theorem dX6_joined_132 : decode cX6_joined 132 = .ok (.iload_n 2, 1) := by decide +kernel
theorem dX6_joined_133 : decode cX6_joined 133 = .ok (.if_icmp .ne 7, 3) := by decide +kernel
theorem dX6_joined_136 : decode cX6_joined 136 = .ok (.iconst 1, 1) := by decide +kernel
theorem dX6_joined_137 : decode cX6_joined 137 = .ok (.goto 4, 3) := by decide +kernel
theorem dX6_joined_140 : decode cX6_joined 140 = .ok (.iconst 0, 1) := by decide +kernel
theorem dX6_joined_141 : decode cX6_joined 141 = .ok (.ireturn, 1) := by decide +kernel
theorem dX6_joined_142 : decode cX6_joined 142 = .ok (.iload_n 1, 1) := by decide +kernel
theorem dX6_joined_143 : decode cX6_joined 143 = .ok (.iload_n 2, 1) := by decide +kernel
theorem dX6_joined_144 : decode cX6_joined 144 = .ok (.if_icmp .le 7, 3) := by decide +kernel
theorem dX6_joined_147 : decode cX6_joined 147 = .ok (.iconst 1, 1) := by decide +kernel
theorem dX6_joined_148 : decode cX6_joined 148 = .ok (.goto 4, 3) := by decide +kernel
theorem dX6_joined_151 : decode cX6_joined 151 = .ok (.iconst 0, 1) := by decide +kernel
theorem dX6_joined_152 : decode cX6_joined 152 = .ok (.ireturn, 1) := by decide +kernel
theorem dX6_joined_153 : decode cX6_joined 153 = .ok (.iload_n 1, 1) := by decide +kernel
theorem dX6_joined_154 : decode cX6_joined 154 = .ok (.iload_n 2, 1) := by decide +kernel
theorem dX6_joined_155 : decode cX6_joined 155 = .ok (.iadd, 1) := by decide +kernel
theorem dX6_joined_156 : decode cX6_joined 156 = .ok (.ireturn, 1) := by decide +kernel
theorem dX6_joined_157 : decode cX6_joined 157 = .ok (.iload_n 1, 1) := by decide +kernel
theorem dX6_joined_158 : decode cX6_joined 158 = .ok (.iload_n 2, 1) := by decide +kernel
theorem dX6_joined_159 : decode cX6_joined 159 = .ok (.isub, 1) := by decide +kernel
theorem dX6_joined_160 : decode cX6_joined 160 = .ok (.ireturn, 1) := by decide +kernel
theorem dX6_joined_161 : decode cX6_joined 161 = .ok (.iload_n 1, 1) := by decide +kernel
theorem dX6_joined_162 : decode cX6_joined 162 = .ok (.iload_n 2, 1) := by decide +kernel
theorem dX6_joined_163 : decode cX6_joined 163 = .ok (.imul, 1) := by decide +kernel
theorem dX6_joined_164 : decode cX6_joined 164 = .ok (.ireturn, 1) := by decide +kernel
theorem dX6_joined_165 : decode cX6_joined 165 = .ok (.iload_n 2, 1) := by decide +kernel
theorem dX6_joined_166 : decode cX6_joined 166 = .ok (.ifCond .ne 7, 3) := by decide +kernel
theorem dX6_joined_169 : decode cX6_joined 169 = .ok (.iconst 0, 1) := by decide +kernel
theorem dX6_joined_170 : decode cX6_joined 170 = .ok (.goto 6, 3) := by decide +kernel
theorem dX6_joined_173 : decode cX6_joined 173 = .ok (.iload_n 1, 1) := by decide +kernel
theorem dX6_joined_174 : decode cX6_joined 174 = .ok (.iload_n 2, 1) := by decide +kernel
theorem dX6_joined_175 : decode cX6_joined 175 = .ok (.idiv, 1) := by decide +kernel
theorem dX6_joined_176 : decode cX6_joined 176 = .ok (.ireturn, 1) := by decide +kernel
theorem dX6_joined_177 : decode cX6_joined 177 = .ok (.iload_n 2, 1) := by decide +kernel
theorem dX6_joined_178 : decode cX6_joined 178 = .ok (.ifCond .ne 7, 3) := by decide +kernel
theorem dX6_joined_181 : decode cX6_joined 181 = .ok (.iconst 0, 1) := by decide +kernel
theorem dX6_joined_182 : decode cX6_joined 182 = .ok (.goto 6, 3) := by decide +kernel
theorem dX6_joined_185 : decode cX6_joined 185 = .ok (.iload_n 1, 1) := by decide +kernel
theorem dX6_joined_186 : decode cX6_joined 186 = .ok (.iload_n 2, 1) := by decide +kernel
theorem dX6_joined_187 : decode cX6_joined 187 = .ok (.irem, 1) := by decide +kernel
theorem dX6_joined_188 : decode cX6_joined 188 = .ok (.ireturn, 1) := by decide +kernel
theorem dX6_joined_189 : decode cX6_joined 189 = .ok (.iconst 0, 1) := by decide +kernel
theorem dX6_joined_190 : decode cX6_joined 190 = .ok (.ireturn, 1) := by decide +kernel
