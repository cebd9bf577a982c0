set_option maxRecDepth 20000 in
theorem ggX9_mend_X9_within : GoodIn wsX9_mend wsX9_within := goodIn_r _ [14] rfl (by decide +kernel)
set_option maxRecDepth 20000 in
theorem gX9_mend_X9_within : GoodIn wsX9_mend (wsV RX9 209 RX9 yX9_within wsX9_within) := goodIn_app (goodIn_of _ (by decide +kernel)) ggX9_mend_X9_within
set_option maxRecDepth 20000 in
theorem ggX9_mend_X9_isPlace : GoodIn wsX9_mend wsX9_isPlace := goodIn_r _ [18, 19, 10, 11, 12, 13, 14, 33, 34, 35, 36, 37, 38, 39, 40, 41, 42, 43, 44, 45, 46, 47, 48, 49, 50, 51, 52, 53, 54, 55, 56, 57, 58, 59, 60, 61, 62, 63, 64, 65, 66, 67, 68, 69, 70, 71, 72, 73, 74, 75, 76, 77, 78, 79, 80, 81, 82, 83, 84, 85, 86, 87, 88, 89, 90, 91, 92, 93, 94, 95, 96, 97] rfl (by decide +kernel)
set_option maxRecDepth 20000 in
theorem gX9_mend_X9_isPlace : GoodIn wsX9_mend (wsV RX9 213 RX9 yX9_isPlace wsX9_isPlace) := goodIn_app (goodIn_of _ (by decide +kernel)) ggX9_mend_X9_isPlace
set_option maxRecDepth 20000 in
theorem ggX9_mend_X9_isRoad : GoodIn wsX9_mend wsX9_isRoad := goodIn_r _ [23, 24, 10, 11, 12, 13, 14, 33, 34, 35, 36, 37, 38, 39, 40, 41, 42, 43, 44, 45, 46, 47, 48, 49, 50, 51, 52, 53, 54, 55, 56, 57, 58, 59, 60, 61, 62, 63, 64, 65, 66, 67, 68, 69, 70, 71, 72, 73, 74, 75, 76, 77, 78, 79, 80, 81, 82, 83, 84, 85, 86, 87, 88, 89, 90, 91, 92, 93, 94, 95, 96, 97] rfl (by decide +kernel)
set_option maxRecDepth 20000 in
theorem gX9_mend_X9_isRoad : GoodIn wsX9_mend (wsV RX9 237 RX9 yX9_isRoad wsX9_isRoad) := goodIn_app (goodIn_of _ (by decide +kernel)) ggX9_mend_X9_isRoad
set_option maxRecDepth 20000 in
theorem ggX9_mend_X9_dropEldest : GoodIn wsX9_mend wsX9_dropEldest := goodIn_r _ [28, 5, 6, 7, 8, 4, 33, 34, 35, 36, 37, 38, 39, 40, 41, 42, 43, 44, 45, 46, 47, 48, 49, 50, 51, 52, 53, 54, 55, 56, 57, 58, 59, 60, 61, 62, 63, 64, 65, 66, 67, 68, 69, 70, 71, 72, 73, 74, 75, 76, 77, 78, 79, 80, 81, 82, 83, 84, 85, 86, 87, 88, 89, 90, 91, 92, 93, 94, 95, 96, 97] rfl (by decide +kernel)
set_option maxRecDepth 20000 in
theorem gX9_mend_X9_dropEldest : GoodIn wsX9_mend (wsV RX9 240 RX9 yX9_dropEldest wsX9_dropEldest) := goodIn_app (goodIn_of _ (by decide +kernel)) ggX9_mend_X9_dropEldest
set_option maxRecDepth 20000 in
theorem ggX9_mend_X9_change : GoodIn wsX9_mend wsX9_change := goodIn_r _ [32, 1, 2, 3, 33, 34, 35, 36, 37, 38, 39, 40, 41, 42, 43, 44, 45, 46, 47, 48, 49, 50, 51, 52, 53, 54, 55, 56, 57, 58, 59, 60, 61, 62, 63, 64, 65, 66, 67, 68, 69, 70, 71, 72, 73, 74, 75, 76, 77, 78, 79, 80, 81, 82, 83, 84, 85, 86, 87, 88, 89, 90, 91, 92, 93, 94, 95, 96, 97] rfl (by decide +kernel)
set_option maxRecDepth 20000 in
theorem gX9_mend_X9_change : GoodIn wsX9_mend (wsV RX9 243 RX9 yX9_change wsX9_change) := goodIn_app (goodIn_of _ (by decide +kernel)) ggX9_mend_X9_change
theorem dX9_mend_0 : decode cX9_mend 0 = .ok (.aload_n 0, 1) := by decide +kernel
theorem dX9_mend_1 : decode cX9_mend 1 = .ok (.iload_n 2, 1) := by decide +kernel
theorem dX9_mend_2 : decode cX9_mend 2 = .ok (.iconst 0, 1) := by decide +kernel
theorem dX9_mend_3 : decode cX9_mend 3 = .ok (.iconst 2, 1) := by decide +kernel
theorem dX9_mend_4 : decode cX9_mend 4 = .ok (.invokevirtual 209, 3) := by decide +kernel
theorem dX9_mend_7 : decode cX9_mend 7 = .ok (.ifCond .eq 26, 3) := by decide +kernel
theorem dX9_mend_10 : decode cX9_mend 10 = .ok (.iload_n 2, 1) := by decide +kernel
theorem dX9_mend_11 : decode cX9_mend 11 = .ok (.ifCond .ne 14, 3) := by decide +kernel
theorem dX9_mend_14 : decode cX9_mend 14 = .ok (.aload_n 0, 1) := by decide +kernel
theorem dX9_mend_15 : decode cX9_mend 15 = .ok (.iload_n 1, 1) := by decide +kernel
theorem dX9_mend_16 : decode cX9_mend 16 = .ok (.invokevirtual 213, 3) := by decide +kernel
theorem dX9_mend_19 : decode cX9_mend 19 = .ok (.ifCond .ne 16, 3) := by decide +kernel
theorem dX9_mend_22 : decode cX9_mend 22 = .ok (.goto 11, 3) := by decide +kernel
theorem dX9_mend_25 : decode cX9_mend 25 = .ok (.aload_n 0, 1) := by decide +kernel
theorem dX9_mend_26 : decode cX9_mend 26 = .ok (.iload_n 1, 1) := by decide +kernel
theorem dX9_mend_27 : decode cX9_mend 27 = .ok (.invokevirtual 237, 3) := by decide +kernel
theorem dX9_mend_30 : decode cX9_mend 30 = .ok (.ifCond .ne 5, 3) := by decide +kernel
theorem dX9_mend_33 : decode cX9_mend 33 = .ok (.iconst (-1), 1) := by decide +kernel
theorem dX9_mend_34 : decode cX9_mend 34 = .ok (.ireturn, 1) := by decide +kernel
theorem dX9_mend_35 : decode cX9_mend 35 = .ok (.iload_n 2, 1) := by decide +kernel
theorem dX9_mend_36 : decode cX9_mend 36 = .ok (.ifCond .ne 14, 3) := by decide +kernel
theorem dX9_mend_39 : decode cX9_mend 39 = .ok (.aload_n 0, 1) := by decide +kernel
theorem dX9_mend_40 : decode cX9_mend 40 = .ok (.iload_n 3, 1) := by decide +kernel
theorem dX9_mend_41 : decode cX9_mend 41 = .ok (.iconst 0, 1) := by decide +kernel
theorem dX9_mend_42 : decode cX9_mend 42 = .ok (.bipush 9, 2) := by decide +kernel
theorem dX9_mend_44 : decode cX9_mend 44 = .ok (.invokevirtual 209, 3) := by decide +kernel
theorem dX9_mend_47 : decode cX9_mend 47 = .ok (.ifCond .eq 35, 3) := by decide +kernel
theorem dX9_mend_50 : decode cX9_mend 50 = .ok (.iload_n 2, 1) := by decide +kernel
theorem dX9_mend_51 : decode cX9_mend 51 = .ok (.iconst 1, 1) := by decide +kernel
theorem dX9_mend_52 : decode cX9_mend 52 = .ok (.if_icmp .ne 14, 3) := by decide +kernel
theorem dX9_mend_55 : decode cX9_mend 55 = .ok (.aload_n 0, 1) := by decide +kernel
theorem dX9_mend_56 : decode cX9_mend 56 = .ok (.iload_n 3, 1) := by decide +kernel
theorem dX9_mend_57 : decode cX9_mend 57 = .ok (.iconst 1, 1) := by decide +kernel
theorem dX9_mend_58 : decode cX9_mend 58 = .ok (.bipush 60, 2) := by decide +kernel
theorem dX9_mend_60 : decode cX9_mend 60 = .ok (.invokevirtual 209, 3) := by decide +kernel
theorem dX9_mend_63 : decode cX9_mend 63 = .ok (.ifCond .eq 19, 3) := by decide +kernel
theorem dX9_mend_66 : decode cX9_mend 66 = .ok (.iload_n 2, 1) := by decide +kernel
theorem dX9_mend_67 : decode cX9_mend 67 = .ok (.iconst 2, 1) := by decide +kernel
theorem dX9_mend_68 : decode cX9_mend 68 = .ok (.if_icmp .ne 16, 3) := by decide +kernel
theorem dX9_mend_71 : decode cX9_mend 71 = .ok (.aload_n 0, 1) := by decide +kernel
theorem dX9_mend_72 : decode cX9_mend 72 = .ok (.iload_n 3, 1) := by decide +kernel
theorem dX9_mend_73 : decode cX9_mend 73 = .ok (.iconst 0, 1) := by decide +kernel
theorem dX9_mend_74 : decode cX9_mend 74 = .ok (.bipush 99, 2) := by decide +kernel
theorem dX9_mend_76 : decode cX9_mend 76 = .ok (.invokevirtual 209, 3) := by decide +kernel
theorem dX9_mend_79 : decode cX9_mend 79 = .ok (.ifCond .ne 5, 3) := by decide +kernel
theorem dX9_mend_82 : decode cX9_mend 82 = .ok (.iconst (-1), 1) := by decide +kernel
theorem dX9_mend_83 : decode cX9_mend 83 = .ok (.ireturn, 1) := by decide +kernel
theorem dX9_mend_84 : decode cX9_mend 84 = .ok (.iload_n 2, 1) := by decide +kernel
theorem dX9_mend_85 : decode cX9_mend 85 = .ok (.ifCond .ne 12, 3) := by decide +kernel
theorem dX9_mend_88 : decode cX9_mend 88 = .ok (.aload_n 0, 1) := by decide +kernel
theorem dX9_mend_89 : decode cX9_mend 89 = .ok (.getfield 16, 3) := by decide +kernel
theorem dX9_mend_92 : decode cX9_mend 92 = .ok (.iload_n 1, 1) := by decide +kernel
theorem dX9_mend_93 : decode cX9_mend 93 = .ok (.iaload, 1) := by decide +kernel
theorem dX9_mend_94 : decode cX9_mend 94 = .ok (.goto 23, 3) := by decide +kernel
theorem dX9_mend_97 : decode cX9_mend 97 = .ok (.iload_n 2, 1) := by decide +kernel
theorem dX9_mend_98 : decode cX9_mend 98 = .ok (.iconst 1, 1) := by decide +kernel
theorem dX9_mend_99 : decode cX9_mend 99 = .ok (.if_icmp .ne 12, 3) := by decide +kernel
theorem dX9_mend_102 : decode cX9_mend 102 = .ok (.aload_n 0, 1) := by decide +kernel
theorem dX9_mend_103 : decode cX9_mend 103 = .ok (.getfield 29, 3) := by decide +kernel
theorem dX9_mend_106 : decode cX9_mend 106 = .ok (.iload_n 1, 1) := by decide +kernel
theorem dX9_mend_107 : decode cX9_mend 107 = .ok (.iaload, 1) := by decide +kernel
theorem dX9_mend_108 : decode cX9_mend 108 = .ok (.goto 9, 3) := by decide +kernel
theorem dX9_mend_111 : decode cX9_mend 111 = .ok (.aload_n 0, 1) := by decide +kernel
theorem dX9_mend_112 : decode cX9_mend 112 = .ok (.getfield 35, 3) := by decide +kernel
theorem dX9_mend_115 : decode cX9_mend 115 = .ok (.iload_n 1, 1) := by decide +kernel
theorem dX9_mend_116 : decode cX9_mend 116 = .ok (.iaload, 1) := by decide +kernel
theorem dX9_mend_117 : decode cX9_mend 117 = .ok (.istore 4, 2) := by decide +kernel
theorem dX9_mend_119 : decode cX9_mend 119 = .ok (.iload 4, 2) := by decide +kernel
theorem dX9_mend_121 : decode cX9_mend 121 = .ok (.iload_n 3, 1) := by decide +kernel
theorem dX9_mend_122 : decode cX9_mend 122 = .ok (.if_icmp .ne 6, 3) := by decide +kernel
theorem dX9_mend_125 : decode cX9_mend 125 = .ok (.iload 4, 2) := by decide +kernel
theorem dX9_mend_127 : decode cX9_mend 127 = .ok (.ireturn, 1) := by decide +kernel
theorem dX9_mend_128 : decode cX9_mend 128 = .ok (.aload_n 0, 1) := by decide +kernel
theorem dX9_mend_129 : decode cX9_mend 129 = .ok (.getfield 62, 3) := by decide +kernel
theorem dX9_mend_132 : decode cX9_mend 132 = .ok (.bipush 40, 2) := by decide +kernel
theorem dX9_mend_134 : decode cX9_mend 134 = .ok (.if_icmp .ne 7, 3) := by decide +kernel
theorem dX9_mend_137 : decode cX9_mend 137 = .ok (.aload_n 0, 1) := by decide +kernel
theorem dX9_mend_138 : decode cX9_mend 138 = .ok (.invokevirtual 240, 3) := by decide +kernel
theorem dX9_mend_141 : decode cX9_mend 141 = .ok (.aload_n 0, 1) := by decide +kernel
theorem dX9_mend_142 : decode cX9_mend 142 = .ok (.getfield 65, 3) := by decide +kernel
theorem dX9_mend_145 : decode cX9_mend 145 = .ok (.aload_n 0, 1) := by decide +kernel
theorem dX9_mend_146 : decode cX9_mend 146 = .ok (.getfield 62, 3) := by decide +kernel
theorem dX9_mend_149 : decode cX9_mend 149 = .ok (.iload_n 2, 1) := by decide +kernel
theorem dX9_mend_150 : decode cX9_mend 150 = .ok (.iastore, 1) := by decide +kernel
theorem dX9_mend_151 : decode cX9_mend 151 = .ok (.aload_n 0, 1) := by decide +kernel
theorem dX9_mend_152 : decode cX9_mend 152 = .ok (.getfield 68, 3) := by decide +kernel
theorem dX9_mend_155 : decode cX9_mend 155 = .ok (.aload_n 0, 1) := by decide +kernel
theorem dX9_mend_156 : decode cX9_mend 156 = .ok (.getfield 62, 3) := by decide +kernel
theorem dX9_mend_159 : decode cX9_mend 159 = .ok (.iload_n 1, 1) := by decide +kernel
theorem dX9_mend_160 : decode cX9_mend 160 = .ok (.iastore, 1) := by decide +kernel
theorem dX9_mend_161 : decode cX9_mend 161 = .ok (.aload_n 0, 1) := by decide +kernel
theorem dX9_mend_162 : decode cX9_mend 162 = .ok (.getfield 71, 3) := by decide +kernel
theorem dX9_mend_165 : decode cX9_mend 165 = .ok (.aload_n 0, 1) := by decide +kernel
theorem dX9_mend_166 : decode cX9_mend 166 = .ok (.getfield 62, 3) := by decide +kernel
theorem dX9_mend_169 : decode cX9_mend 169 = .ok (.iload 4, 2) := by decide +kernel
theorem dX9_mend_171 : decode cX9_mend 171 = .ok (.iastore, 1) := by decide +kernel
theorem dX9_mend_172 : decode cX9_mend 172 = .ok (.aload_n 0, 1) := by decide +kernel
theorem dX9_mend_173 : decode cX9_mend 173 = .ok (.getfield 74, 3) := by decide +kernel
theorem dX9_mend_176 : decode cX9_mend 176 = .ok (.aload_n 0, 1) := by decide +kernel
theorem dX9_mend_177 : decode cX9_mend 177 = .ok (.getfield 62, 3) := by decide +kernel
theorem dX9_mend_180 : decode cX9_mend 180 = .ok (.iload_n 3, 1) := by decide +kernel
theorem dX9_mend_181 : decode cX9_mend 181 = .ok (.iastore, 1) := by decide +kernel
theorem dX9_mend_182 : decode cX9_mend 182 = .ok (.aload_n 0, 1) := by decide +kernel
theorem dX9_mend_183 : decode cX9_mend 183 = .ok (.dup, 1) := by decide +kernel
theorem dX9_mend_184 : decode cX9_mend 184 = .ok (.getfield 62, 3) := by decide +kernel
theorem dX9_mend_187 : decode cX9_mend 187 = .ok (.iconst 1, 1) := by decide +kernel
theorem dX9_mend_188 : decode cX9_mend 188 = .ok (.iadd, 1) := by decide +kernel
theorem dX9_mend_189 : decode cX9_mend 189 = .ok (.putfield 62, 3) := by decide +kernel
theorem dX9_mend_192 : decode cX9_mend 192 = .ok (.aload_n 0, 1) := by decide +kernel
theorem dX9_mend_193 : decode cX9_mend 193 = .ok (.aload_n 0, 1) := by decide +kernel
theorem dX9_mend_194 : decode cX9_mend 194 = .ok (.getfield 62, 3) := by decide +kernel
theorem dX9_mend_197 : decode cX9_mend 197 = .ok (.putfield 59, 3) := by decide +kernel
theorem dX9_mend_200 : decode cX9_mend 200 = .ok (.aload_n 0, 1) := by decide +kernel
theorem dX9_mend_201 : decode cX9_mend 201 = .ok (.iload_n 2, 1) := by decide +kernel
theorem dX9_mend_202 : decode cX9_mend 202 = .ok (.iload_n 1, 1) := by decide +kernel
theorem dX9_mend_203 : decode cX9_mend 203 = .ok (.iload_n 3, 1) := by decide +kernel
theorem dX9_mend_204 : decode cX9_mend 204 = .ok (.invokevirtual 243, 3) := by decide +kernel
theorem dX9_mend_207 : decode cX9_mend 207 = .ok (.iload 4, 2) := by decide +kernel
theorem dX9_mend_209 : decode cX9_mend 209 = .ok (.ireturn, 1) := by decide +kernel
set_option maxRecDepth 20000 in
theorem ggX9_undo_X9_change : GoodIn wsX9_undo wsX9_change := goodIn_r _ [9, 10, 11, 12, 13, 14, 15, 16, 17, 18, 19, 20, 21, 22, 23, 24, 25, 26, 27, 28, 29, 30, 31, 32, 33, 34, 35, 36, 37, 38, 39, 40, 41, 42, 43, 44, 45, 46, 47, 48, 49, 50, 51, 52, 53, 54, 55, 56, 57, 58, 59, 60, 61, 62, 63, 64, 65, 66, 67, 68, 69, 70, 71, 72, 73, 74, 75, 76, 77] rfl (by decide +kernel)
set_option maxRecDepth 20000 in
theorem gX9_undo_X9_change : GoodIn wsX9_undo (wsV RX9 243 RX9 yX9_change wsX9_change) := goodIn_app (goodIn_of _ (by decide +kernel)) ggX9_undo_X9_change
theorem dX9_undo_0 : decode cX9_undo 0 = .ok (.aload_n 0, 1) := by decide +kernel
theorem dX9_undo_1 : decode cX9_undo 1 = .ok (.getfield 62, 3) := by decide +kernel
theorem dX9_undo_4 : decode cX9_undo 4 = .ok (.ifCond .ne 6, 3) := by decide +kernel
theorem dX9_undo_7 : decode cX9_undo 7 = .ok (.bipush (-5), 2) := by decide +kernel
theorem dX9_undo_9 : decode cX9_undo 9 = .ok (.ireturn, 1) := by decide +kernel
theorem dX9_undo_10 : decode cX9_undo 10 = .ok (.aload_n 0, 1) := by decide +kernel
theorem dX9_undo_11 : decode cX9_undo 11 = .ok (.dup, 1) := by decide +kernel
theorem dX9_undo_12 : decode cX9_undo 12 = .ok (.getfield 62, 3) := by decide +kernel
theorem dX9_undo_15 : decode cX9_undo 15 = .ok (.iconst 1, 1) := by decide +kernel
theorem dX9_undo_16 : decode cX9_undo 16 = .ok (.isub, 1) := by decide +kernel
theorem dX9_undo_17 : decode cX9_undo 17 = .ok (.putfield 62, 3) := by decide +kernel
theorem dX9_undo_20 : decode cX9_undo 20 = .ok (.aload_n 0, 1) := by decide +kernel
theorem dX9_undo_21 : decode cX9_undo 21 = .ok (.aload_n 0, 1) := by decide +kernel
theorem dX9_undo_22 : decode cX9_undo 22 = .ok (.getfield 65, 3) := by decide +kernel
theorem dX9_undo_25 : decode cX9_undo 25 = .ok (.aload_n 0, 1) := by decide +kernel
theorem dX9_undo_26 : decode cX9_undo 26 = .ok (.getfield 62, 3) := by decide +kernel
theorem dX9_undo_29 : decode cX9_undo 29 = .ok (.iaload, 1) := by decide +kernel
theorem dX9_undo_30 : decode cX9_undo 30 = .ok (.aload_n 0, 1) := by decide +kernel
theorem dX9_undo_31 : decode cX9_undo 31 = .ok (.getfield 68, 3) := by decide +kernel
theorem dX9_undo_34 : decode cX9_undo 34 = .ok (.aload_n 0, 1) := by decide +kernel
theorem dX9_undo_35 : decode cX9_undo 35 = .ok (.getfield 62, 3) := by decide +kernel
theorem dX9_undo_38 : decode cX9_undo 38 = .ok (.iaload, 1) := by decide +kernel
theorem dX9_undo_39 : decode cX9_undo 39 = .ok (.aload_n 0, 1) := by decide +kernel
theorem dX9_undo_40 : decode cX9_undo 40 = .ok (.getfield 71, 3) := by decide +kernel
theorem dX9_undo_43 : decode cX9_undo 43 = .ok (.aload_n 0, 1) := by decide +kernel
theorem dX9_undo_44 : decode cX9_undo 44 = .ok (.getfield 62, 3) := by decide +kernel
theorem dX9_undo_47 : decode cX9_undo 47 = .ok (.iaload, 1) := by decide +kernel
theorem dX9_undo_48 : decode cX9_undo 48 = .ok (.invokevirtual 243, 3) := by decide +kernel
theorem dX9_undo_51 : decode cX9_undo 51 = .ok (.aload_n 0, 1) := by decide +kernel
theorem dX9_undo_52 : decode cX9_undo 52 = .ok (.getfield 62, 3) := by decide +kernel
theorem dX9_undo_55 : decode cX9_undo 55 = .ok (.ireturn, 1) := by decide +kernel
set_option maxRecDepth 20000 in
theorem ggX9_redo_X9_change : GoodIn wsX9_redo wsX9_change := goodIn_r _ [10, 11, 12, 13, 14, 15, 16, 17, 18, 19, 20, 21, 22, 23, 24, 25, 26, 27, 28, 29, 30, 31, 32, 33, 34, 35, 36, 37, 38, 39, 40, 41, 42, 43, 44, 45, 46, 47, 48, 49, 50, 51, 52, 53, 54, 55, 56, 57, 58, 59, 60, 61, 62, 63, 64, 65, 66, 67, 68, 69, 70, 71, 72, 73, 74, 75, 76, 77, 78] rfl (by decide +kernel)
set_option maxRecDepth 20000 in
theorem gX9_redo_X9_change : GoodIn wsX9_redo (wsV RX9 243 RX9 yX9_change wsX9_change) := goodIn_app (goodIn_of _ (by decide +kernel)) ggX9_redo_X9_change
theorem dX9_redo_0 : decode cX9_redo 0 = .ok (.aload_n 0, 1) := by decide +kernel
theorem dX9_redo_1 : decode cX9_redo 1 = .ok (.getfield 62, 3) := by decide +kernel
theorem dX9_redo_4 : decode cX9_redo 4 = .ok (.aload_n 0, 1) := by decide +kernel
theorem dX9_redo_5 : decode cX9_redo 5 = .ok (.getfield 59, 3) := by decide +kernel
theorem dX9_redo_8 : decode cX9_redo 8 = .ok (.if_icmp .ne 6, 3) := by decide +kernel
theorem dX9_redo_11 : decode cX9_redo 11 = .ok (.bipush (-5), 2) := by decide +kernel
theorem dX9_redo_13 : decode cX9_redo 13 = .ok (.ireturn, 1) := by decide +kernel
theorem dX9_redo_14 : decode cX9_redo 14 = .ok (.aload_n 0, 1) := by decide +kernel
theorem dX9_redo_15 : decode cX9_redo 15 = .ok (.aload_n 0, 1) := by decide +kernel
theorem dX9_redo_16 : decode cX9_redo 16 = .ok (.getfield 65, 3) := by decide +kernel
theorem dX9_redo_19 : decode cX9_redo 19 = .ok (.aload_n 0, 1) := by decide +kernel
theorem dX9_redo_20 : decode cX9_redo 20 = .ok (.getfield 62, 3) := by decide +kernel
theorem dX9_redo_23 : decode cX9_redo 23 = .ok (.iaload, 1) := by decide +kernel
theorem dX9_redo_24 : decode cX9_redo 24 = .ok (.aload_n 0, 1) := by decide +kernel
theorem dX9_redo_25 : decode cX9_redo 25 = .ok (.getfield 68, 3) := by decide +kernel
theorem dX9_redo_28 : decode cX9_redo 28 = .ok (.aload_n 0, 1) := by decide +kernel
theorem dX9_redo_29 : decode cX9_redo 29 = .ok (.getfield 62, 3) := by decide +kernel
theorem dX9_redo_32 : decode cX9_redo 32 = .ok (.iaload, 1) := by decide +kernel
theorem dX9_redo_33 : decode cX9_redo 33 = .ok (.aload_n 0, 1) := by decide +kernel
theorem dX9_redo_34 : decode cX9_redo 34 = .ok (.getfield 74, 3) := by decide +kernel
theorem dX9_redo_37 : decode cX9_redo 37 = .ok (.aload_n 0, 1) := by decide +kernel
theorem dX9_redo_38 : decode cX9_redo 38 = .ok (.getfield 62, 3) := by decide +kernel
theorem dX9_redo_41 : decode cX9_redo 41 = .ok (.iaload, 1) := by decide +kernel
theorem dX9_redo_42 : decode cX9_redo 42 = .ok (.invokevirtual 243, 3) := by decide +kernel
theorem dX9_redo_45 : decode cX9_redo 45 = .ok (.aload_n 0, 1) := by decide +kernel
theorem dX9_redo_46 : decode cX9_redo 46 = .ok (.dup, 1) := by decide +kernel
theorem dX9_redo_47 : decode cX9_redo 47 = .ok (.getfield 62, 3) := by decide +kernel
theorem dX9_redo_50 : decode cX9_redo 50 = .ok (.iconst 1, 1) := by decide +kernel
theorem dX9_redo_51 : decode cX9_redo 51 = .ok (.iadd, 1) := by decide +kernel
theorem dX9_redo_52 : decode cX9_redo 52 = .ok (.putfield 62, 3) := by decide +kernel
theorem dX9_redo_55 : decode cX9_redo 55 = .ok (.aload_n 0, 1) := by decide +kernel
theorem dX9_redo_56 : decode cX9_redo 56 = .ok (.getfield 59, 3) := by decide +kernel
theorem dX9_redo_59 : decode cX9_redo 59 = .ok (.aload_n 0, 1) := by decide +kernel
theorem dX9_redo_60 : decode cX9_redo 60 = .ok (.getfield 62, 3) := by decide +kernel
theorem dX9_redo_63 : decode cX9_redo 63 = .ok (.isub, 1) := by decide +kernel
theorem dX9_redo_64 : decode cX9_redo 64 = .ok (.ireturn, 1) := by decide +kernel
set_option maxRecDepth 20000 in
theorem ggX9_feed_X9_within : GoodIn wsX9_feed wsX9_within := goodIn_r _ [7] rfl (by decide +kernel)
set_option maxRecDepth 20000 in
theorem gX9_feed_X9_within : GoodIn wsX9_feed (wsV RX9 209 RX9 yX9_within wsX9_within) := goodIn_app (goodIn_of _ (by decide +kernel)) ggX9_feed_X9_within
theorem dX9_feed_0 : decode cX9_feed 0 = .ok (.aload_n 0, 1) := by decide +kernel
theorem dX9_feed_1 : decode cX9_feed 1 = .ok (.iload_n 1, 1) := by decide +kernel
theorem dX9_feed_2 : decode cX9_feed 2 = .ok (.iconst 0, 1) := by decide +kernel
theorem dX9_feed_3 : decode cX9_feed 3 = .ok (.sipush 255, 3) := by decide +kernel
theorem dX9_feed_6 : decode cX9_feed 6 = .ok (.invokevirtual 209, 3) := by decide +kernel
theorem dX9_feed_9 : decode cX9_feed 9 = .ok (.ifCond .ne 5, 3) := by decide +kernel
theorem dX9_feed_12 : decode cX9_feed 12 = .ok (.iconst (-1), 1) := by decide +kernel
theorem dX9_feed_13 : decode cX9_feed 13 = .ok (.ireturn, 1) := by decide +kernel
theorem dX9_feed_14 : decode cX9_feed 14 = .ok (.aload_n 0, 1) := by decide +kernel
theorem dX9_feed_15 : decode cX9_feed 15 = .ok (.getfield 83, 3) := by decide +kernel
theorem dX9_feed_18 : decode cX9_feed 18 = .ok (.bipush 120, 2) := by decide +kernel
theorem dX9_feed_20 : decode cX9_feed 20 = .ok (.if_icmp .ne 6, 3) := by decide +kernel
theorem dX9_feed_23 : decode cX9_feed 23 = .ok (.bipush (-3), 2) := by decide +kernel
theorem dX9_feed_25 : decode cX9_feed 25 = .ok (.ireturn, 1) := by decide +kernel
theorem dX9_feed_26 : decode cX9_feed 26 = .ok (.aload_n 0, 1) := by decide +kernel
theorem dX9_feed_27 : decode cX9_feed 27 = .ok (.getfield 108, 3) := by decide +kernel
theorem dX9_feed_30 : decode cX9_feed 30 = .ok (.aload_n 0, 1) := by decide +kernel
theorem dX9_feed_31 : decode cX9_feed 31 = .ok (.getfield 83, 3) := by decide +kernel
theorem dX9_feed_34 : decode cX9_feed 34 = .ok (.iload_n 1, 1) := by decide +kernel
theorem dX9_feed_35 : decode cX9_feed 35 = .ok (.iastore, 1) := by decide +kernel
theorem dX9_feed_36 : decode cX9_feed 36 = .ok (.aload_n 0, 1) := by decide +kernel
theorem dX9_feed_37 : decode cX9_feed 37 = .ok (.dup, 1) := by decide +kernel
theorem dX9_feed_38 : decode cX9_feed 38 = .ok (.getfield 83, 3) := by decide +kernel
theorem dX9_feed_41 : decode cX9_feed 41 = .ok (.iconst 1, 1) := by decide +kernel
theorem dX9_feed_42 : decode cX9_feed 42 = .ok (.iadd, 1) := by decide +kernel
theorem dX9_feed_43 : decode cX9_feed 43 = .ok (.putfield 83, 3) := by decide +kernel
theorem dX9_feed_46 : decode cX9_feed 46 = .ok (.aload_n 0, 1) := by decide +kernel
theorem dX9_feed_47 : decode cX9_feed 47 = .ok (.getfield 83, 3) := by decide +kernel
theorem dX9_feed_50 : decode cX9_feed 50 = .ok (.ireturn, 1) := by decide +kernel
theorem dX9_next_0 : decode cX9_next 0 = .ok (.aload_n 0, 1) := by decide +kernel
theorem dX9_next_1 : decode cX9_next 1 = .ok (.getfield 86, 3) := by decide +kernel
theorem dX9_next_4 : decode cX9_next 4 = .ok (.aload_n 0, 1) := by decide +kernel
theorem dX9_next_5 : decode cX9_next 5 = .ok (.getfield 83, 3) := by decide +kernel
theorem dX9_next_8 : decode cX9_next 8 = .ok (.if_icmp .ge 15, 3) := by decide +kernel
theorem dX9_next_11 : decode cX9_next 11 = .ok (.aload_n 0, 1) := by decide +kernel
theorem dX9_next_12 : decode cX9_next 12 = .ok (.getfield 108, 3) := by decide +kernel
theorem dX9_next_15 : decode cX9_next 15 = .ok (.aload_n 0, 1) := by decide +kernel
theorem dX9_next_16 : decode cX9_next 16 = .ok (.getfield 86, 3) := by decide +kernel
theorem dX9_next_19 : decode cX9_next 19 = .ok (.iaload, 1) := by decide +kernel
theorem dX9_next_20 : decode cX9_next 20 = .ok (.goto 4, 3) := by decide +kernel
theorem dX9_next_23 : decode cX9_next 23 = .ok (.iconst (-1), 1) := by decide +kernel
theorem dX9_next_24 : decode cX9_next 24 = .ok (.ireturn, 1) := by decide +kernel
theorem dX9_rank_0 : decode cX9_rank 0 = .ok (.iload_n 1, 1) := by decide +kernel
theorem dX9_rank_1 : decode cX9_rank 1 = .ok (.lookupswitch 101 #[(37, 99), (38, 93), (42, 99), (43, 97), (45, 97), (47, 99), (60, 95), (61, 95), (62, 95), (124, 91)], 91) := by decide +kernel
theorem dX9_rank_92 : decode cX9_rank 92 = .ok (.iconst 1, 1) := by decide +kernel
theorem dX9_rank_93 : decode cX9_rank 93 = .ok (.ireturn, 1) := by decide +kernel
theorem dX9_rank_94 : decode cX9_rank 94 = .ok (.iconst 2, 1) := by decide +kernel
theorem dX9_rank_95 : decode cX9_rank 95 = .ok (.ireturn, 1) := by decide +kernel
theorem dX9_rank_96 : decode cX9_rank 96 = .ok (.iconst 3, 1) := by decide +kernel
theorem dX9_rank_97 : decode cX9_rank 97 = .ok (.ireturn, 1) := by decide +kernel
theorem dX9_rank_98 : decode cX9_rank 98 = .ok (.iconst 4, 1) := by decide +kernel
theorem dX9_rank_99 : decode cX9_rank 99 = .ok (.ireturn, 1) := by decide +kernel
theorem dX9_rank_100 : decode cX9_rank 100 = .ok (.iconst 5, 1) := by decide +kernel
theorem dX9_rank_101 : decode cX9_rank 101 = .ok (.ireturn, 1) := by decide +kernel
theorem dX9_rank_102 : decode cX9_rank 102 = .ok (.iconst 0, 1) := by decide +kernel
theorem dX9_rank_103 : decode cX9_rank 103 = .ok (.ireturn, 1) := by decide +kernel
theorem dX9_nameOf_0 : decode cX9_nameOf 0 = .ok (.iload_n 1, 1) := by decide +kernel
theorem dX9_nameOf_1 : decode cX9_nameOf 1 = .ok (.tableswitch 131 97 119 #[122, 125, 131, 119, 131, 131, 131, 111, 131, 131, 131, 131, 128, 131, 131, 131, 131, 107, 117, 113, 109, 131, 115], 107) := by decide +kernel
theorem dX9_nameOf_108 : decode cX9_nameOf 108 = .ok (.iconst 0, 1) := by decide +kernel
theorem dX9_nameOf_109 : decode cX9_nameOf 109 = .ok (.ireturn, 1) := by decide +kernel
theorem dX9_nameOf_110 : decode cX9_nameOf 110 = .ok (.iconst 1, 1) := by decide +kernel
theorem dX9_nameOf_111 : decode cX9_nameOf 111 = .ok (.ireturn, 1) := by decide +kernel
theorem dX9_nameOf_112 : decode cX9_nameOf 112 = .ok (.iconst 2, 1) := by decide +kernel
theorem dX9_nameOf_113 : decode cX9_nameOf 113 = .ok (.ireturn, 1) := by decide +kernel
theorem dX9_nameOf_114 : decode cX9_nameOf 114 = .ok (.iconst 3, 1) := by decide +kernel
theorem dX9_nameOf_115 : decode cX9_nameOf 115 = .ok (.ireturn, 1) := by decide +kernel
theorem dX9_nameOf_116 : decode cX9_nameOf 116 = .ok (.iconst 4, 1) := by decide +kernel
theorem dX9_nameOf_117 : decode cX9_nameOf 117 = .ok (.ireturn, 1) := by decide +kernel
theorem dX9_nameOf_118 : decode cX9_nameOf 118 = .ok (.iconst 5, 1) := by decide +kernel
theorem dX9_nameOf_119 : decode cX9_nameOf 119 = .ok (.ireturn, 1) := by decide +kernel
theorem dX9_nameOf_120 : decode cX9_nameOf 120 = .ok (.bipush 6, 2) := by decide +kernel
theorem dX9_nameOf_122 : decode cX9_nameOf 122 = .ok (.ireturn, 1) := by decide +kernel
theorem dX9_nameOf_123 : decode cX9_nameOf 123 = .ok (.bipush 7, 2) := by decide +kernel
theorem dX9_nameOf_125 : decode cX9_nameOf 125 = .ok (.ireturn, 1) := by decide +kernel
theorem dX9_nameOf_126 : decode cX9_nameOf 126 = .ok (.bipush 8, 2) := by decide +kernel
theorem dX9_nameOf_128 : decode cX9_nameOf 128 = .ok (.ireturn, 1) := by decide +kernel
theorem dX9_nameOf_129 : decode cX9_nameOf 129 = .ok (.bipush 9, 2) := by decide +kernel
theorem dX9_nameOf_131 : decode cX9_nameOf 131 = .ok (.ireturn, 1) := by decide +kernel
theorem dX9_nameOf_132 : decode cX9_nameOf 132 = .ok (.iconst (-1), 1) := by decide +kernel
theorem dX9_nameOf_133 : decode cX9_nameOf 133 = .ok (.ireturn, 1) := by decide +kernel
theorem dX9_lay_0 : decode cX9_lay 0 = .ok (.aload_n 0, 1) := by decide +kernel
theorem dX9_lay_1 : decode cX9_lay 1 = .ok (.getfield 111, 3) := by decide +kernel
theorem dX9_lay_4 : decode cX9_lay 4 = .ok (.aload_n 0, 1) := by decide +kernel
theorem dX9_lay_5 : decode cX9_lay 5 = .ok (.getfield 89, 3) := by decide +kernel
theorem dX9_lay_8 : decode cX9_lay 8 = .ok (.iload_n 1, 1) := by decide +kernel
theorem dX9_lay_9 : decode cX9_lay 9 = .ok (.iastore, 1) := by decide +kernel
theorem dX9_lay_10 : decode cX9_lay 10 = .ok (.aload_n 0, 1) := by decide +kernel
theorem dX9_lay_11 : decode cX9_lay 11 = .ok (.getfield 114, 3) := by decide +kernel
theorem dX9_lay_14 : decode cX9_lay 14 = .ok (.aload_n 0, 1) := by decide +kernel
theorem dX9_lay_15 : decode cX9_lay 15 = .ok (.getfield 89, 3) := by decide +kernel
theorem dX9_lay_18 : decode cX9_lay 18 = .ok (.iload_n 2, 1) := by decide +kernel
theorem dX9_lay_19 : decode cX9_lay 19 = .ok (.iastore, 1) := by decide +kernel
theorem dX9_lay_20 : decode cX9_lay 20 = .ok (.aload_n 0, 1) := by decide +kernel
theorem dX9_lay_21 : decode cX9_lay 21 = .ok (.dup, 1) := by decide +kernel
theorem dX9_lay_22 : decode cX9_lay 22 = .ok (.getfield 89, 3) := by decide +kernel
theorem dX9_lay_25 : decode cX9_lay 25 = .ok (.iconst 1, 1) := by decide +kernel
theorem dX9_lay_26 : decode cX9_lay 26 = .ok (.iadd, 1) := by decide +kernel
theorem dX9_lay_27 : decode cX9_lay 27 = .ok (.putfield 89, 3) := by decide +kernel
theorem dX9_lay_30 : decode cX9_lay 30 = .ok (.return_, 1) := by decide +kernel
set_option maxRecDepth 20000 in
theorem ggX9_endsOperand_X9_lay : GoodIn wsX9_endsOperand wsX9_lay := goodIn_r _ [8, 9, 10, 11, 12, 13, 14, 15, 16, 17, 18, 19, 20, 21, 22, 23, 24, 25, 26, 27, 28, 29, 30, 31, 32, 33, 34, 35, 36, 37, 38, 39, 40, 41, 42, 43, 44, 45, 46, 47, 48, 49, 50, 51, 52, 53, 54, 55, 56, 57, 58, 59, 60, 61, 62, 63, 64, 65, 66, 67, 68, 69, 70, 71, 72, 73, 74, 75, 76] rfl (by decide +kernel)
set_option maxRecDepth 20000 in
theorem gX9_endsOperand_X9_lay : GoodIn wsX9_endsOperand (wsV RX9 247 RX9 yX9_lay wsX9_lay) := goodIn_app (goodIn_of _ (by decide +kernel)) ggX9_endsOperand_X9_lay
theorem dX9_endsOperand_0 : decode cX9_endsOperand 0 = .ok (.aload_n 0, 1) := by decide +kernel
theorem dX9_endsOperand_1 : decode cX9_endsOperand 1 = .ok (.getfield 92, 3) := by decide +kernel
theorem dX9_endsOperand_4 : decode cX9_endsOperand 4 = .ok (.ifCond .le 72, 3) := by decide +kernel
theorem dX9_endsOperand_7 : decode cX9_endsOperand 7 = .ok (.aload_n 0, 1) := by decide +kernel
theorem dX9_endsOperand_8 : decode cX9_endsOperand 8 = .ok (.getfield 129, 3) := by decide +kernel
theorem dX9_endsOperand_11 : decode cX9_endsOperand 11 = .ok (.aload_n 0, 1) := by decide +kernel
theorem dX9_endsOperand_12 : decode cX9_endsOperand 12 = .ok (.getfield 92, 3) := by decide +kernel
theorem dX9_endsOperand_15 : decode cX9_endsOperand 15 = .ok (.iconst 1, 1) := by decide +kernel
theorem dX9_endsOperand_16 : decode cX9_endsOperand 16 = .ok (.isub, 1) := by decide +kernel
theorem dX9_endsOperand_17 : decode cX9_endsOperand 17 = .ok (.iaload, 1) := by decide +kernel
theorem dX9_endsOperand_18 : decode cX9_endsOperand 18 = .ok (.bipush 33, 2) := by decide +kernel
theorem dX9_endsOperand_20 : decode cX9_endsOperand 20 = .ok (.if_icmp .eq 19, 3) := by decide +kernel
theorem dX9_endsOperand_23 : decode cX9_endsOperand 23 = .ok (.aload_n 0, 1) := by decide +kernel
theorem dX9_endsOperand_24 : decode cX9_endsOperand 24 = .ok (.getfield 129, 3) := by decide +kernel
theorem dX9_endsOperand_27 : decode cX9_endsOperand 27 = .ok (.aload_n 0, 1) := by decide +kernel
theorem dX9_endsOperand_28 : decode cX9_endsOperand 28 = .ok (.getfield 92, 3) := by decide +kernel
theorem dX9_endsOperand_31 : decode cX9_endsOperand 31 = .ok (.iconst 1, 1) := by decide +kernel
theorem dX9_endsOperand_32 : decode cX9_endsOperand 32 = .ok (.isub, 1) := by decide +kernel
theorem dX9_endsOperand_33 : decode cX9_endsOperand 33 = .ok (.iaload, 1) := by decide +kernel
theorem dX9_endsOperand_34 : decode cX9_endsOperand 34 = .ok (.bipush 110, 2) := by decide +kernel
theorem dX9_endsOperand_36 : decode cX9_endsOperand 36 = .ok (.if_icmp .ne 40, 3) := by decide +kernel
theorem dX9_endsOperand_39 : decode cX9_endsOperand 39 = .ok (.aload_n 0, 1) := by decide +kernel
theorem dX9_endsOperand_40 : decode cX9_endsOperand 40 = .ok (.dup, 1) := by decide +kernel
theorem dX9_endsOperand_41 : decode cX9_endsOperand 41 = .ok (.getfield 92, 3) := by decide +kernel
theorem dX9_endsOperand_44 : decode cX9_endsOperand 44 = .ok (.iconst 1, 1) := by decide +kernel
theorem dX9_endsOperand_45 : decode cX9_endsOperand 45 = .ok (.isub, 1) := by decide +kernel
theorem dX9_endsOperand_46 : decode cX9_endsOperand 46 = .ok (.putfield 92, 3) := by decide +kernel
theorem dX9_endsOperand_49 : decode cX9_endsOperand 49 = .ok (.aload_n 0, 1) := by decide +kernel
theorem dX9_endsOperand_50 : decode cX9_endsOperand 50 = .ok (.dup, 1) := by decide +kernel
theorem dX9_endsOperand_51 : decode cX9_endsOperand 51 = .ok (.getfield 95, 3) := by decide +kernel
theorem dX9_endsOperand_54 : decode cX9_endsOperand 54 = .ok (.iconst 1, 1) := by decide +kernel
theorem dX9_endsOperand_55 : decode cX9_endsOperand 55 = .ok (.isub, 1) := by decide +kernel
theorem dX9_endsOperand_56 : decode cX9_endsOperand 56 = .ok (.putfield 95, 3) := by decide +kernel
theorem dX9_endsOperand_59 : decode cX9_endsOperand 59 = .ok (.aload_n 0, 1) := by decide +kernel
theorem dX9_endsOperand_60 : decode cX9_endsOperand 60 = .ok (.aload_n 0, 1) := by decide +kernel
theorem dX9_endsOperand_61 : decode cX9_endsOperand 61 = .ok (.getfield 129, 3) := by decide +kernel
theorem dX9_endsOperand_64 : decode cX9_endsOperand 64 = .ok (.aload_n 0, 1) := by decide +kernel
theorem dX9_endsOperand_65 : decode cX9_endsOperand 65 = .ok (.getfield 92, 3) := by decide +kernel
theorem dX9_endsOperand_68 : decode cX9_endsOperand 68 = .ok (.iaload, 1) := by decide +kernel
theorem dX9_endsOperand_69 : decode cX9_endsOperand 69 = .ok (.iconst 0, 1) := by decide +kernel
theorem dX9_endsOperand_70 : decode cX9_endsOperand 70 = .ok (.invokevirtual 247, 3) := by decide +kernel
theorem dX9_endsOperand_73 : decode cX9_endsOperand 73 = .ok (.goto (-73), 3) := by decide +kernel
theorem dX9_endsOperand_76 : decode cX9_endsOperand 76 = .ok (.return_, 1) := by decide +kernel
set_option maxRecDepth 20000 in
theorem ggX9_isDigit_X9_within : GoodIn wsX9_isDigit wsX9_within := goodIn_r _ [5] rfl (by decide +kernel)
set_option maxRecDepth 20000 in
theorem gX9_isDigit_X9_within : GoodIn wsX9_isDigit (wsV RX9 209 RX9 yX9_within wsX9_within) := goodIn_app (goodIn_of _ (by decide +kernel)) ggX9_isDigit_X9_within
theorem dX9_isDigit_0 : decode cX9_isDigit 0 = .ok (.aload_n 0, 1) := by decide +kernel
theorem dX9_isDigit_1 : decode cX9_isDigit 1 = .ok (.iload_n 1, 1) := by decide +kernel
theorem dX9_isDigit_2 : decode cX9_isDigit 2 = .ok (.bipush 48, 2) := by decide +kernel
theorem dX9_isDigit_4 : decode cX9_isDigit 4 = .ok (.bipush 57, 2) := by decide +kernel
theorem dX9_isDigit_6 : decode cX9_isDigit 6 = .ok (.invokevirtual 209, 3) := by decide +kernel
theorem dX9_isDigit_9 : decode cX9_isDigit 9 = .ok (.ireturn, 1) := by decide +kernel
set_option maxRecDepth 20000 in
theorem ggX9_takesNumber_X9_next : GoodIn wsX9_takesNumber wsX9_next := goodIn_r _ [6, 1, 7, 8, 24, 25, 26, 27, 28, 29, 30, 31, 32, 33, 34, 35, 36, 37, 38, 39, 40, 41, 42, 43, 44, 45, 46, 47, 48, 49, 50, 51, 52, 53, 54, 55, 56, 57, 58, 59, 60, 61, 62, 63, 64, 65, 66, 67, 68, 69, 70, 71, 72, 73, 74, 75, 76, 77, 78, 79, 80, 81, 82, 83, 84, 85, 86, 87, 88] rfl (by decide +kernel)
set_option maxRecDepth 20000 in
theorem gX9_takesNumber_X9_next : GoodIn wsX9_takesNumber (wsV RX9 251 RX9 yX9_next wsX9_next) := goodIn_app (goodIn_of _ (by decide +kernel)) ggX9_takesNumber_X9_next
set_option maxRecDepth 20000 in
theorem ggX9_takesNumber_X9_isDigit : GoodIn wsX9_takesNumber wsX9_isDigit := goodIn_r _ [12, 13, 14, 15, 5, 16] rfl (by decide +kernel)
set_option maxRecDepth 20000 in
theorem gX9_takesNumber_X9_isDigit : GoodIn wsX9_takesNumber (wsV RX9 255 RX9 yX9_isDigit wsX9_isDigit) := goodIn_app (goodIn_of _ (by decide +kernel)) ggX9_takesNumber_X9_isDigit
set_option maxRecDepth 20000 in
theorem ggX9_takesNumber_X9_lay : GoodIn wsX9_takesNumber wsX9_lay := goodIn_r _ [20, 21, 22, 23, 24, 25, 26, 27, 28, 29, 30, 31, 32, 33, 34, 35, 36, 37, 38, 39, 40, 41, 42, 43, 44, 45, 46, 47, 48, 49, 50, 51, 52, 53, 54, 55, 56, 57, 58, 59, 60, 61, 62, 63, 64, 65, 66, 67, 68, 69, 70, 71, 72, 73, 74, 75, 76, 77, 78, 79, 80, 81, 82, 83, 84, 85, 86, 87, 88] rfl (by decide +kernel)
set_option maxRecDepth 20000 in
theorem gX9_takesNumber_X9_lay : GoodIn wsX9_takesNumber (wsV RX9 247 RX9 yX9_lay wsX9_lay) := goodIn_app (goodIn_of _ (by decide +kernel)) ggX9_takesNumber_X9_lay
theorem dX9_takesNumber_0 : decode cX9_takesNumber 0 = .ok (.iconst 0, 1) := by decide +kernel
theorem dX9_takesNumber_1 : decode cX9_takesNumber 1 = .ok (.istore_n 1, 1) := by decide +kernel
theorem dX9_takesNumber_2 : decode cX9_takesNumber 2 = .ok (.iconst 0, 1) := by decide +kernel
theorem dX9_takesNumber_3 : decode cX9_takesNumber 3 = .ok (.istore_n 2, 1) := by decide +kernel
theorem dX9_takesNumber_4 : decode cX9_takesNumber 4 = .ok (.iload_n 1, 1) := by decide +kernel
theorem dX9_takesNumber_5 : decode cX9_takesNumber 5 = .ok (.iconst 4, 1) := by decide +kernel
theorem dX9_takesNumber_6 : decode cX9_takesNumber 6 = .ok (.if_icmp .ge 43, 3) := by decide +kernel
theorem dX9_takesNumber_9 : decode cX9_takesNumber 9 = .ok (.aload_n 0, 1) := by decide +kernel
theorem dX9_takesNumber_10 : decode cX9_takesNumber 10 = .ok (.aload_n 0, 1) := by decide +kernel
theorem dX9_takesNumber_11 : decode cX9_takesNumber 11 = .ok (.invokevirtual 251, 3) := by decide +kernel
theorem dX9_takesNumber_14 : decode cX9_takesNumber 14 = .ok (.invokevirtual 255, 3) := by decide +kernel
theorem dX9_takesNumber_17 : decode cX9_takesNumber 17 = .ok (.ifCond .eq 32, 3) := by decide +kernel
theorem dX9_takesNumber_20 : decode cX9_takesNumber 20 = .ok (.bipush 10, 2) := by decide +kernel
theorem dX9_takesNumber_22 : decode cX9_takesNumber 22 = .ok (.iload_n 2, 1) := by decide +kernel
theorem dX9_takesNumber_23 : decode cX9_takesNumber 23 = .ok (.imul, 1) := by decide +kernel
theorem dX9_takesNumber_24 : decode cX9_takesNumber 24 = .ok (.aload_n 0, 1) := by decide +kernel
theorem dX9_takesNumber_25 : decode cX9_takesNumber 25 = .ok (.invokevirtual 251, 3) := by decide +kernel
theorem dX9_takesNumber_28 : decode cX9_takesNumber 28 = .ok (.iadd, 1) := by decide +kernel
theorem dX9_takesNumber_29 : decode cX9_takesNumber 29 = .ok (.bipush 48, 2) := by decide +kernel
theorem dX9_takesNumber_31 : decode cX9_takesNumber 31 = .ok (.isub, 1) := by decide +kernel
theorem dX9_takesNumber_32 : decode cX9_takesNumber 32 = .ok (.istore_n 2, 1) := by decide +kernel
theorem dX9_takesNumber_33 : decode cX9_takesNumber 33 = .ok (.aload_n 0, 1) := by decide +kernel
theorem dX9_takesNumber_34 : decode cX9_takesNumber 34 = .ok (.dup, 1) := by decide +kernel
theorem dX9_takesNumber_35 : decode cX9_takesNumber 35 = .ok (.getfield 86, 3) := by decide +kernel
theorem dX9_takesNumber_38 : decode cX9_takesNumber 38 = .ok (.iconst 1, 1) := by decide +kernel
theorem dX9_takesNumber_39 : decode cX9_takesNumber 39 = .ok (.iadd, 1) := by decide +kernel
theorem dX9_takesNumber_40 : decode cX9_takesNumber 40 = .ok (.putfield 86, 3) := by decide +kernel
theorem dX9_takesNumber_43 : decode cX9_takesNumber 43 = .ok (.iinc 1 1, 3) := by decide +kernel
theorem dX9_takesNumber_46 : decode cX9_takesNumber 46 = .ok (.goto (-42), 3) := by decide +kernel
theorem dX9_takesNumber_49 : decode cX9_takesNumber 49 = .ok (.aload_n 0, 1) := by decide +kernel
theorem dX9_takesNumber_50 : decode cX9_takesNumber 50 = .ok (.iconst 0, 1) := by decide +kernel
theorem dX9_takesNumber_51 : decode cX9_takesNumber 51 = .ok (.iload_n 2, 1) := by decide +kernel
theorem dX9_takesNumber_52 : decode cX9_takesNumber 52 = .ok (.invokevirtual 247, 3) := by decide +kernel
theorem dX9_takesNumber_55 : decode cX9_takesNumber 55 = .ok (.return_, 1) := by decide +kernel
set_option maxRecDepth 20000 in
theorem ggX9_takesOperand_X9_next : GoodIn wsX9_takesOperand wsX9_next := goodIn_r _ [10, 5, 11, 12, 40, 41, 42, 43, 44, 45, 46, 47, 48, 49, 50, 51, 52, 53, 54, 55, 56, 57, 58, 59, 60, 61, 62, 63, 64, 65, 66, 67, 68, 69, 70, 71, 72, 73, 74, 75, 76, 77, 78, 79, 80, 81, 82, 83, 84, 85, 86, 87, 88, 89, 90, 91, 92, 93, 94, 95, 96, 97, 98, 99, 100, 101, 102, 103, 104] rfl (by decide +kernel)
set_option maxRecDepth 20000 in
theorem gX9_takesOperand_X9_next : GoodIn wsX9_takesOperand (wsV RX9 251 RX9 yX9_next wsX9_next) := goodIn_app (goodIn_of _ (by decide +kernel)) ggX9_takesOperand_X9_next
set_option maxRecDepth 20000 in
theorem ggX9_takesOperand_X9_isDigit : GoodIn wsX9_takesOperand wsX9_isDigit := goodIn_r _ [16, 17, 18, 19, 9, 20] rfl (by decide +kernel)
set_option maxRecDepth 20000 in
theorem gX9_takesOperand_X9_isDigit : GoodIn wsX9_takesOperand (wsV RX9 255 RX9 yX9_isDigit wsX9_isDigit) := goodIn_app (goodIn_of _ (by decide +kernel)) ggX9_takesOperand_X9_isDigit
set_option maxRecDepth 20000 in
theorem ggX9_takesOperand_X9_takesNumber : GoodIn wsX9_takesOperand wsX9_takesNumber := goodIn_r _ [24, 5, 6, 7, 8, 9, 10, 11, 12, 13, 14, 15, 16, 17, 18, 19, 20, 25, 26, 27, 28, 29, 30, 31, 40, 41, 42, 43, 44, 45, 46, 47, 48, 49, 50, 51, 52, 53, 54, 55, 56, 57, 58, 59, 60, 61, 62, 63, 64, 65, 66, 67, 68, 69, 70, 71, 72, 73, 74, 75, 76, 77, 78, 79, 80, 81, 82, 83, 84, 85, 86, 87, 88, 89, 90, 91, 92, 93, 94, 95, 96, 97, 98, 99, 100, 101, 102, 103, 104] rfl (by decide +kernel)
set_option maxRecDepth 20000 in
theorem gX9_takesOperand_X9_takesNumber : GoodIn wsX9_takesOperand (wsV RX9 258 RX9 yX9_takesNumber wsX9_takesNumber) := goodIn_app (goodIn_of _ (by decide +kernel)) ggX9_takesOperand_X9_takesNumber
set_option maxRecDepth 20000 in
theorem ggX9_takesOperand_X9_nameOf : GoodIn wsX9_takesOperand wsX9_nameOf := goodIn_r _ [35] rfl (by decide +kernel)
set_option maxRecDepth 20000 in
theorem gX9_takesOperand_X9_nameOf : GoodIn wsX9_takesOperand (wsV RX9 261 RX9 yX9_nameOf wsX9_nameOf) := goodIn_app (goodIn_of _ (by decide +kernel)) ggX9_takesOperand_X9_nameOf
set_option maxRecDepth 20000 in
theorem ggX9_takesOperand_X9_lay : GoodIn wsX9_takesOperand wsX9_lay := goodIn_r _ [28, 29, 30, 31, 40, 41, 42, 43, 44, 45, 46, 47, 48, 49, 50, 51, 52, 53, 54, 55, 56, 57, 58, 59, 60, 61, 62, 63, 64, 65, 66, 67, 68, 69, 70, 71, 72, 73, 74, 75, 76, 77, 78, 79, 80, 81, 82, 83, 84, 85, 86, 87, 88, 89, 90, 91, 92, 93, 94, 95, 96, 97, 98, 99, 100, 101, 102, 103, 104] rfl (by decide +kernel)
set_option maxRecDepth 20000 in
theorem gX9_takesOperand_X9_lay : GoodIn wsX9_takesOperand (wsV RX9 247 RX9 yX9_lay wsX9_lay) := goodIn_app (goodIn_of _ (by decide +kernel)) ggX9_takesOperand_X9_lay
set_option maxRecDepth 20000 in
theorem ggX9_takesOperand_X9_endsOperand : GoodIn wsX9_takesOperand wsX9_endsOperand := goodIn_r _ [39, 4, 3, 1, 25, 26, 27, 9, 28, 29, 30, 31, 40, 41, 42, 43, 44, 45, 46, 47, 48, 49, 50, 51, 52, 53, 54, 55, 56, 57, 58, 59, 60, 61, 62, 63, 64, 65, 66, 67, 68, 69, 70, 71, 72, 73, 74, 75, 76, 77, 78, 79, 80, 81, 82, 83, 84, 85, 86, 87, 88, 89, 90, 91, 92, 93, 94, 95, 96, 97, 98, 99, 100, 101, 102, 103, 104] rfl (by decide +kernel)
set_option maxRecDepth 20000 in
theorem gX9_takesOperand_X9_endsOperand : GoodIn wsX9_takesOperand (wsV RX9 264 RX9 yX9_endsOperand wsX9_endsOperand) := goodIn_app (goodIn_of _ (by decide +kernel)) ggX9_takesOperand_X9_endsOperand
theorem dX9_takesOperand_0 : decode cX9_takesOperand 0 = .ok (.aload_n 0, 1) := by decide +kernel
theorem dX9_takesOperand_1 : decode cX9_takesOperand 1 = .ok (.invokevirtual 251, 3) := by decide +kernel
theorem dX9_takesOperand_4 : decode cX9_takesOperand 4 = .ok (.bipush 40, 2) := by decide +kernel
theorem dX9_takesOperand_6 : decode cX9_takesOperand 6 = .ok (.if_icmp .eq 21, 3) := by decide +kernel
theorem dX9_takesOperand_9 : decode cX9_takesOperand 9 = .ok (.aload_n 0, 1) := by decide +kernel
theorem dX9_takesOperand_10 : decode cX9_takesOperand 10 = .ok (.invokevirtual 251, 3) := by decide +kernel
theorem dX9_takesOperand_13 : decode cX9_takesOperand 13 = .ok (.bipush 33, 2) := by decide +kernel
theorem dX9_takesOperand_15 : decode cX9_takesOperand 15 = .ok (.if_icmp .eq 12, 3) := by decide +kernel
theorem dX9_takesOperand_18 : decode cX9_takesOperand 18 = .ok (.aload_n 0, 1) := by decide +kernel
theorem dX9_takesOperand_19 : decode cX9_takesOperand 19 = .ok (.invokevirtual 251, 3) := by decide +kernel
theorem dX9_takesOperand_22 : decode cX9_takesOperand 22 = .ok (.bipush 45, 2) := by decide +kernel
theorem dX9_takesOperand_24 : decode cX9_takesOperand 24 = .ok (.if_icmp .ne 97, 3) := by decide +kernel
theorem dX9_takesOperand_27 : decode cX9_takesOperand 27 = .ok (.aload_n 0, 1) := by decide +kernel
theorem dX9_takesOperand_28 : decode cX9_takesOperand 28 = .ok (.getfield 95, 3) := by decide +kernel
theorem dX9_takesOperand_31 : decode cX9_takesOperand 31 = .ok (.bipush 6, 2) := by decide +kernel
theorem dX9_takesOperand_33 : decode cX9_takesOperand 33 = .ok (.if_icmp .ne 5, 3) := by decide +kernel
theorem dX9_takesOperand_36 : decode cX9_takesOperand 36 = .ok (.iconst 0, 1) := by decide +kernel
theorem dX9_takesOperand_37 : decode cX9_takesOperand 37 = .ok (.ireturn, 1) := by decide +kernel
theorem dX9_takesOperand_38 : decode cX9_takesOperand 38 = .ok (.aload_n 0, 1) := by decide +kernel
theorem dX9_takesOperand_39 : decode cX9_takesOperand 39 = .ok (.dup, 1) := by decide +kernel
theorem dX9_takesOperand_40 : decode cX9_takesOperand 40 = .ok (.getfield 95, 3) := by decide +kernel
theorem dX9_takesOperand_43 : decode cX9_takesOperand 43 = .ok (.iconst 1, 1) := by decide +kernel
theorem dX9_takesOperand_44 : decode cX9_takesOperand 44 = .ok (.iadd, 1) := by decide +kernel
theorem dX9_takesOperand_45 : decode cX9_takesOperand 45 = .ok (.putfield 95, 3) := by decide +kernel
theorem dX9_takesOperand_48 : decode cX9_takesOperand 48 = .ok (.aload_n 0, 1) := by decide +kernel
theorem dX9_takesOperand_49 : decode cX9_takesOperand 49 = .ok (.dup, 1) := by decide +kernel
theorem dX9_takesOperand_50 : decode cX9_takesOperand 50 = .ok (.getfield 98, 3) := by decide +kernel
theorem dX9_takesOperand_53 : decode cX9_takesOperand 53 = .ok (.aload_n 0, 1) := by decide +kernel
theorem dX9_takesOperand_54 : decode cX9_takesOperand 54 = .ok (.invokevirtual 251, 3) := by decide +kernel
theorem dX9_takesOperand_57 : decode cX9_takesOperand 57 = .ok (.bipush 40, 2) := by decide +kernel
theorem dX9_takesOperand_59 : decode cX9_takesOperand 59 = .ok (.if_icmp .ne 7, 3) := by decide +kernel
theorem dX9_takesOperand_62 : decode cX9_takesOperand 62 = .ok (.iconst 1, 1) := by decide +kernel
theorem dX9_takesOperand_63 : decode cX9_takesOperand 63 = .ok (.goto 4, 3) := by decide +kernel
theorem dX9_takesOperand_66 : decode cX9_takesOperand 66 = .ok (.iconst 0, 1) := by decide +kernel
theorem dX9_takesOperand_67 : decode cX9_takesOperand 67 = .ok (.iadd, 1) := by decide +kernel
theorem dX9_takesOperand_68 : decode cX9_takesOperand 68 = .ok (.putfield 98, 3) := by decide +kernel
theorem dX9_takesOperand_71 : decode cX9_takesOperand 71 = .ok (.aload_n 0, 1) := by decide +kernel
theorem dX9_takesOperand_72 : decode cX9_takesOperand 72 = .ok (.getfield 129, 3) := by decide +kernel
theorem dX9_takesOperand_75 : decode cX9_takesOperand 75 = .ok (.aload_n 0, 1) := by decide +kernel
theorem dX9_takesOperand_76 : decode cX9_takesOperand 76 = .ok (.getfield 92, 3) := by decide +kernel
theorem dX9_takesOperand_79 : decode cX9_takesOperand 79 = .ok (.aload_n 0, 1) := by decide +kernel
theorem dX9_takesOperand_80 : decode cX9_takesOperand 80 = .ok (.invokevirtual 251, 3) := by decide +kernel
theorem dX9_takesOperand_83 : decode cX9_takesOperand 83 = .ok (.bipush 45, 2) := by decide +kernel
theorem dX9_takesOperand_85 : decode cX9_takesOperand 85 = .ok (.if_icmp .ne 8, 3) := by decide +kernel
theorem dX9_takesOperand_88 : decode cX9_takesOperand 88 = .ok (.bipush 110, 2) := by decide +kernel
theorem dX9_takesOperand_90 : decode cX9_takesOperand 90 = .ok (.goto 7, 3) := by decide +kernel
theorem dX9_takesOperand_93 : decode cX9_takesOperand 93 = .ok (.aload_n 0, 1) := by decide +kernel
theorem dX9_takesOperand_94 : decode cX9_takesOperand 94 = .ok (.invokevirtual 251, 3) := by decide +kernel
theorem dX9_takesOperand_97 : decode cX9_takesOperand 97 = .ok (.iastore, 1) := by decide +kernel
theorem dX9_takesOperand_98 : decode cX9_takesOperand 98 = .ok (.aload_n 0, 1) := by decide +kernel
theorem dX9_takesOperand_99 : decode cX9_takesOperand 99 = .ok (.dup, 1) := by decide +kernel
theorem dX9_takesOperand_100 : decode cX9_takesOperand 100 = .ok (.getfield 92, 3) := by decide +kernel
theorem dX9_takesOperand_103 : decode cX9_takesOperand 103 = .ok (.iconst 1, 1) := by decide +kernel
theorem dX9_takesOperand_104 : decode cX9_takesOperand 104 = .ok (.iadd, 1) := by decide +kernel
theorem dX9_takesOperand_105 : decode cX9_takesOperand 105 = .ok (.putfield 92, 3) := by decide +kernel
theorem dX9_takesOperand_108 : decode cX9_takesOperand 108 = .ok (.aload_n 0, 1) := by decide +kernel
theorem dX9_takesOperand_109 : decode cX9_takesOperand 109 = .ok (.dup, 1) := by decide +kernel
theorem dX9_takesOperand_110 : decode cX9_takesOperand 110 = .ok (.getfield 86, 3) := by decide +kernel
theorem dX9_takesOperand_113 : decode cX9_takesOperand 113 = .ok (.iconst 1, 1) := by decide +kernel
theorem dX9_takesOperand_114 : decode cX9_takesOperand 114 = .ok (.iadd, 1) := by decide +kernel
theorem dX9_takesOperand_115 : decode cX9_takesOperand 115 = .ok (.putfield 86, 3) := by decide +kernel
theorem dX9_takesOperand_118 : decode cX9_takesOperand 118 = .ok (.goto (-118), 3) := by decide +kernel
theorem dX9_takesOperand_121 : decode cX9_takesOperand 121 = .ok (.aload_n 0, 1) := by decide +kernel
theorem dX9_takesOperand_122 : decode cX9_takesOperand 122 = .ok (.aload_n 0, 1) := by decide +kernel
theorem dX9_takesOperand_123 : decode cX9_takesOperand 123 = .ok (.invokevirtual 251, 3) := by decide +kernel
theorem dX9_takesOperand_126 : decode cX9_takesOperand 126 = .ok (.invokevirtual 255, 3) := by decide +kernel
theorem dX9_takesOperand_129 : decode cX9_takesOperand 129 = .ok (.ifCond .eq 10, 3) := by decide +kernel
theorem dX9_takesOperand_132 : decode cX9_takesOperand 132 = .ok (.aload_n 0, 1) := by decide +kernel
theorem dX9_takesOperand_133 : decode cX9_takesOperand 133 = .ok (.invokevirtual 258, 3) := by decide +kernel
theorem dX9_takesOperand_136 : decode cX9_takesOperand 136 = .ok (.goto 39, 3) := by decide +kernel
theorem dX9_takesOperand_139 : decode cX9_takesOperand 139 = .ok (.aload_n 0, 1) := by decide +kernel
theorem dX9_takesOperand_140 : decode cX9_takesOperand 140 = .ok (.aload_n 0, 1) := by decide +kernel
theorem dX9_takesOperand_141 : decode cX9_takesOperand 141 = .ok (.invokevirtual 251, 3) := by decide +kernel
theorem dX9_takesOperand_144 : decode cX9_takesOperand 144 = .ok (.invokevirtual 261, 3) := by decide +kernel
theorem dX9_takesOperand_147 : decode cX9_takesOperand 147 = .ok (.ifCond .ge 5, 3) := by decide +kernel
theorem dX9_takesOperand_150 : decode cX9_takesOperand 150 = .ok (.iconst 0, 1) := by decide +kernel
theorem dX9_takesOperand_151 : decode cX9_takesOperand 151 = .ok (.ireturn, 1) := by decide +kernel
theorem dX9_takesOperand_152 : decode cX9_takesOperand 152 = .ok (.aload_n 0, 1) := by decide +kernel
theorem dX9_takesOperand_153 : decode cX9_takesOperand 153 = .ok (.iconst 1, 1) := by decide +kernel
theorem dX9_takesOperand_154 : decode cX9_takesOperand 154 = .ok (.aload_n 0, 1) := by decide +kernel
theorem dX9_takesOperand_155 : decode cX9_takesOperand 155 = .ok (.aload_n 0, 1) := by decide +kernel
theorem dX9_takesOperand_156 : decode cX9_takesOperand 156 = .ok (.invokevirtual 251, 3) := by decide +kernel
theorem dX9_takesOperand_159 : decode cX9_takesOperand 159 = .ok (.invokevirtual 261, 3) := by decide +kernel
theorem dX9_takesOperand_162 : decode cX9_takesOperand 162 = .ok (.invokevirtual 247, 3) := by decide +kernel
theorem dX9_takesOperand_165 : decode cX9_takesOperand 165 = .ok (.aload_n 0, 1) := by decide +kernel
theorem dX9_takesOperand_166 : decode cX9_takesOperand 166 = .ok (.dup, 1) := by decide +kernel
theorem dX9_takesOperand_167 : decode cX9_takesOperand 167 = .ok (.getfield 86, 3) := by decide +kernel
theorem dX9_takesOperand_170 : decode cX9_takesOperand 170 = .ok (.iconst 1, 1) := by decide +kernel
theorem dX9_takesOperand_171 : decode cX9_takesOperand 171 = .ok (.iadd, 1) := by decide +kernel
theorem dX9_takesOperand_172 : decode cX9_takesOperand 172 = .ok (.putfield 86, 3) := by decide +kernel
theorem dX9_takesOperand_175 : decode cX9_takesOperand 175 = .ok (.aload_n 0, 1) := by decide +kernel
theorem dX9_takesOperand_176 : decode cX9_takesOperand 176 = .ok (.invokevirtual 264, 3) := by decide +kernel
theorem dX9_takesOperand_179 : decode cX9_takesOperand 179 = .ok (.iconst 1, 1) := by decide +kernel
theorem dX9_takesOperand_180 : decode cX9_takesOperand 180 = .ok (.ireturn, 1) := by decide +kernel
set_option maxRecDepth 20000 in
theorem ggX9_goesDown_X9_rank : GoodIn wsX9_goesDown wsX9_rank := goodIn_r _ [7] rfl (by decide +kernel)
set_option maxRecDepth 20000 in
theorem gX9_goesDown_X9_rank : GoodIn wsX9_goesDown (wsV RX9 267 RX9 yX9_rank wsX9_rank) := goodIn_app (goodIn_of _ (by decide +kernel)) ggX9_goesDown_X9_rank
set_option maxRecDepth 20000 in
theorem ggX9_goesDown_X9_lay : GoodIn wsX9_goesDown wsX9_lay := goodIn_r _ [11, 12, 13, 14, 15, 16, 17, 18, 19, 20, 21, 22, 23, 24, 25, 26, 27, 28, 29, 30, 31, 32, 33, 34, 35, 36, 37, 38, 39, 40, 41, 42, 43, 44, 45, 46, 47, 48, 49, 50, 51, 52, 53, 54, 55, 56, 57, 58, 59, 60, 61, 62, 63, 64, 65, 66, 67, 68, 69, 70, 71, 72, 73, 74, 75, 76, 77, 78, 79] rfl (by decide +kernel)
set_option maxRecDepth 20000 in
theorem gX9_goesDown_X9_lay : GoodIn wsX9_goesDown (wsV RX9 247 RX9 yX9_lay wsX9_lay) := goodIn_app (goodIn_of _ (by decide +kernel)) ggX9_goesDown_X9_lay
theorem dX9_goesDown_0 : decode cX9_goesDown 0 = .ok (.aload_n 0, 1) := by decide +kernel
theorem dX9_goesDown_1 : decode cX9_goesDown 1 = .ok (.getfield 92, 3) := by decide +kernel
theorem dX9_goesDown_4 : decode cX9_goesDown 4 = .ok (.ifCond .le 75, 3) := by decide +kernel
theorem dX9_goesDown_7 : decode cX9_goesDown 7 = .ok (.aload_n 0, 1) := by decide +kernel
theorem dX9_goesDown_8 : decode cX9_goesDown 8 = .ok (.aload_n 0, 1) := by decide +kernel
theorem dX9_goesDown_9 : decode cX9_goesDown 9 = .ok (.getfield 129, 3) := by decide +kernel
theorem dX9_goesDown_12 : decode cX9_goesDown 12 = .ok (.aload_n 0, 1) := by decide +kernel
theorem dX9_goesDown_13 : decode cX9_goesDown 13 = .ok (.getfield 92, 3) := by decide +kernel
theorem dX9_goesDown_16 : decode cX9_goesDown 16 = .ok (.iconst 1, 1) := by decide +kernel
theorem dX9_goesDown_17 : decode cX9_goesDown 17 = .ok (.isub, 1) := by decide +kernel
theorem dX9_goesDown_18 : decode cX9_goesDown 18 = .ok (.iaload, 1) := by decide +kernel
theorem dX9_goesDown_19 : decode cX9_goesDown 19 = .ok (.invokevirtual 267, 3) := by decide +kernel
theorem dX9_goesDown_22 : decode cX9_goesDown 22 = .ok (.iload_n 1, 1) := by decide +kernel
theorem dX9_goesDown_23 : decode cX9_goesDown 23 = .ok (.if_icmp .lt 56, 3) := by decide +kernel
theorem dX9_goesDown_26 : decode cX9_goesDown 26 = .ok (.iload_n 1, 1) := by decide +kernel
theorem dX9_goesDown_27 : decode cX9_goesDown 27 = .ok (.iconst 3, 1) := by decide +kernel
theorem dX9_goesDown_28 : decode cX9_goesDown 28 = .ok (.if_icmp .ne 24, 3) := by decide +kernel
theorem dX9_goesDown_31 : decode cX9_goesDown 31 = .ok (.aload_n 0, 1) := by decide +kernel
theorem dX9_goesDown_32 : decode cX9_goesDown 32 = .ok (.aload_n 0, 1) := by decide +kernel
theorem dX9_goesDown_33 : decode cX9_goesDown 33 = .ok (.getfield 129, 3) := by decide +kernel
theorem dX9_goesDown_36 : decode cX9_goesDown 36 = .ok (.aload_n 0, 1) := by decide +kernel
theorem dX9_goesDown_37 : decode cX9_goesDown 37 = .ok (.getfield 92, 3) := by decide +kernel
theorem dX9_goesDown_40 : decode cX9_goesDown 40 = .ok (.iconst 1, 1) := by decide +kernel
theorem dX9_goesDown_41 : decode cX9_goesDown 41 = .ok (.isub, 1) := by decide +kernel
theorem dX9_goesDown_42 : decode cX9_goesDown 42 = .ok (.iaload, 1) := by decide +kernel
theorem dX9_goesDown_43 : decode cX9_goesDown 43 = .ok (.invokevirtual 267, 3) := by decide +kernel
theorem dX9_goesDown_46 : decode cX9_goesDown 46 = .ok (.iconst 3, 1) := by decide +kernel
theorem dX9_goesDown_47 : decode cX9_goesDown 47 = .ok (.if_icmp .ne 5, 3) := by decide +kernel
theorem dX9_goesDown_50 : decode cX9_goesDown 50 = .ok (.iconst 0, 1) := by decide +kernel
theorem dX9_goesDown_51 : decode cX9_goesDown 51 = .ok (.ireturn, 1) := by decide +kernel
theorem dX9_goesDown_52 : decode cX9_goesDown 52 = .ok (.aload_n 0, 1) := by decide +kernel
theorem dX9_goesDown_53 : decode cX9_goesDown 53 = .ok (.dup, 1) := by decide +kernel
theorem dX9_goesDown_54 : decode cX9_goesDown 54 = .ok (.getfield 92, 3) := by decide +kernel
theorem dX9_goesDown_57 : decode cX9_goesDown 57 = .ok (.iconst 1, 1) := by decide +kernel
theorem dX9_goesDown_58 : decode cX9_goesDown 58 = .ok (.isub, 1) := by decide +kernel
theorem dX9_goesDown_59 : decode cX9_goesDown 59 = .ok (.putfield 92, 3) := by decide +kernel
theorem dX9_goesDown_62 : decode cX9_goesDown 62 = .ok (.aload_n 0, 1) := by decide +kernel
theorem dX9_goesDown_63 : decode cX9_goesDown 63 = .ok (.aload_n 0, 1) := by decide +kernel
theorem dX9_goesDown_64 : decode cX9_goesDown 64 = .ok (.getfield 129, 3) := by decide +kernel
theorem dX9_goesDown_67 : decode cX9_goesDown 67 = .ok (.aload_n 0, 1) := by decide +kernel
theorem dX9_goesDown_68 : decode cX9_goesDown 68 = .ok (.getfield 92, 3) := by decide +kernel
theorem dX9_goesDown_71 : decode cX9_goesDown 71 = .ok (.iaload, 1) := by decide +kernel
theorem dX9_goesDown_72 : decode cX9_goesDown 72 = .ok (.iconst 0, 1) := by decide +kernel
theorem dX9_goesDown_73 : decode cX9_goesDown 73 = .ok (.invokevirtual 247, 3) := by decide +kernel
theorem dX9_goesDown_76 : decode cX9_goesDown 76 = .ok (.goto (-76), 3) := by decide +kernel
theorem dX9_goesDown_79 : decode cX9_goesDown 79 = .ok (.iconst 1, 1) := by decide +kernel
theorem dX9_goesDown_80 : decode cX9_goesDown 80 = .ok (.ireturn, 1) := by decide +kernel
set_option maxRecDepth 20000 in
theorem ggX9_closes_X9_goesDown : GoodIn wsX9_closes wsX9_goesDown := goodIn_r _ [9, 2, 10, 11, 12, 13, 8, 14, 15, 16, 17, 18, 19, 20, 21, 26, 27, 28, 29, 30, 31, 32, 33, 34, 35, 36, 37, 38, 39, 40, 41, 42, 43, 44, 45, 46, 47, 48, 49, 50, 51, 52, 53, 54, 55, 56, 57, 58, 59, 60, 61, 62, 63, 64, 65, 66, 67, 68, 69, 70, 71, 72, 73, 74, 75, 76, 77, 78, 79, 80, 81, 82, 83, 84, 85, 86, 87, 88, 89, 90] rfl (by decide +kernel)
set_option maxRecDepth 20000 in
theorem gX9_closes_X9_goesDown : GoodIn wsX9_closes (wsV RX9 270 RX9 yX9_goesDown wsX9_goesDown) := goodIn_app (goodIn_of _ (by decide +kernel)) ggX9_closes_X9_goesDown
set_option maxRecDepth 20000 in
theorem ggX9_closes_X9_endsOperand : GoodIn wsX9_closes wsX9_endsOperand := goodIn_r _ [25, 2, 10, 3, 15, 16, 17, 8, 18, 19, 20, 21, 26, 27, 28, 29, 30, 31, 32, 33, 34, 35, 36, 37, 38, 39, 40, 41, 42, 43, 44, 45, 46, 47, 48, 49, 50, 51, 52, 53, 54, 55, 56, 57, 58, 59, 60, 61, 62, 63, 64, 65, 66, 67, 68, 69, 70, 71, 72, 73, 74, 75, 76, 77, 78, 79, 80, 81, 82, 83, 84, 85, 86, 87, 88, 89, 90] rfl (by decide +kernel)
set_option maxRecDepth 20000 in
theorem gX9_closes_X9_endsOperand : GoodIn wsX9_closes (wsV RX9 264 RX9 yX9_endsOperand wsX9_endsOperand) := goodIn_app (goodIn_of _ (by decide +kernel)) ggX9_closes_X9_endsOperand
theorem dX9_closes_0 : decode cX9_closes 0 = .ok (.aload_n 0, 1) := by decide +kernel
theorem dX9_closes_1 : decode cX9_closes 1 = .ok (.getfield 98, 3) := by decide +kernel
theorem dX9_closes_4 : decode cX9_closes 4 = .ok (.ifCond .ne 5, 3) := by decide +kernel
theorem dX9_closes_7 : decode cX9_closes 7 = .ok (.iconst 0, 1) := by decide +kernel
theorem dX9_closes_8 : decode cX9_closes 8 = .ok (.ireturn, 1) := by decide +kernel
theorem dX9_closes_9 : decode cX9_closes 9 = .ok (.aload_n 0, 1) := by decide +kernel
theorem dX9_closes_10 : decode cX9_closes 10 = .ok (.iconst 1, 1) := by decide +kernel
theorem dX9_closes_11 : decode cX9_closes 11 = .ok (.invokevirtual 270, 3) := by decide +kernel
theorem dX9_closes_14 : decode cX9_closes 14 = .ok (.istore_n 1, 1) := by decide +kernel
theorem dX9_closes_15 : decode cX9_closes 15 = .ok (.aload_n 0, 1) := by decide +kernel
theorem dX9_closes_16 : decode cX9_closes 16 = .ok (.dup, 1) := by decide +kernel
theorem dX9_closes_17 : decode cX9_closes 17 = .ok (.getfield 92, 3) := by decide +kernel
theorem dX9_closes_20 : decode cX9_closes 20 = .ok (.iconst 1, 1) := by decide +kernel
theorem dX9_closes_21 : decode cX9_closes 21 = .ok (.isub, 1) := by decide +kernel
theorem dX9_closes_22 : decode cX9_closes 22 = .ok (.putfield 92, 3) := by decide +kernel
theorem dX9_closes_25 : decode cX9_closes 25 = .ok (.aload_n 0, 1) := by decide +kernel
theorem dX9_closes_26 : decode cX9_closes 26 = .ok (.dup, 1) := by decide +kernel
theorem dX9_closes_27 : decode cX9_closes 27 = .ok (.getfield 98, 3) := by decide +kernel
theorem dX9_closes_30 : decode cX9_closes 30 = .ok (.iconst 1, 1) := by decide +kernel
theorem dX9_closes_31 : decode cX9_closes 31 = .ok (.isub, 1) := by decide +kernel
theorem dX9_closes_32 : decode cX9_closes 32 = .ok (.putfield 98, 3) := by decide +kernel
theorem dX9_closes_35 : decode cX9_closes 35 = .ok (.aload_n 0, 1) := by decide +kernel
theorem dX9_closes_36 : decode cX9_closes 36 = .ok (.dup, 1) := by decide +kernel
theorem dX9_closes_37 : decode cX9_closes 37 = .ok (.getfield 95, 3) := by decide +kernel
theorem dX9_closes_40 : decode cX9_closes 40 = .ok (.iconst 1, 1) := by decide +kernel
theorem dX9_closes_41 : decode cX9_closes 41 = .ok (.isub, 1) := by decide +kernel
theorem dX9_closes_42 : decode cX9_closes 42 = .ok (.putfield 95, 3) := by decide +kernel
theorem dX9_closes_45 : decode cX9_closes 45 = .ok (.aload_n 0, 1) := by decide +kernel
theorem dX9_closes_46 : decode cX9_closes 46 = .ok (.dup, 1) := by decide +kernel
theorem dX9_closes_47 : decode cX9_closes 47 = .ok (.getfield 86, 3) := by decide +kernel
theorem dX9_closes_50 : decode cX9_closes 50 = .ok (.iconst 1, 1) := by decide +kernel
theorem dX9_closes_51 : decode cX9_closes 51 = .ok (.iadd, 1) := by decide +kernel
theorem dX9_closes_52 : decode cX9_closes 52 = .ok (.putfield 86, 3) := by decide +kernel
theorem dX9_closes_55 : decode cX9_closes 55 = .ok (.aload_n 0, 1) := by decide +kernel
theorem dX9_closes_56 : decode cX9_closes 56 = .ok (.invokevirtual 264, 3) := by decide +kernel
theorem dX9_closes_59 : decode cX9_closes 59 = .ok (.iconst 1, 1) := by decide +kernel
theorem dX9_closes_60 : decode cX9_closes 60 = .ok (.ireturn, 1) := by decide +kernel
