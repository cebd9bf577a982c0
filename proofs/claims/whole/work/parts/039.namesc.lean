set_option maxRecDepth 20000 in
theorem ggX9_goesOn_X9_next : GoodIn wsX9_goesOn wsX9_next := goodIn_r _ [12, 3, 6, 7, 37, 38, 39, 40, 41, 42, 43, 44, 45, 46, 47, 48, 49, 50, 51, 52, 53, 54, 55, 56, 57, 58, 59, 60, 61, 62, 63, 64, 65, 66, 67, 68, 69, 70, 71, 72, 73, 74, 75, 76, 77, 78, 79, 80, 81, 82, 83, 84, 85, 86, 87, 88, 89, 90, 91, 92, 93, 94, 95, 96, 97, 98, 99, 100, 101] rfl (by decide +kernel)
set_option maxRecDepth 20000 in
theorem gX9_goesOn_X9_next : GoodIn wsX9_goesOn (wsV RX9 251 RX9 yX9_next wsX9_next) := goodIn_app (goodIn_of _ (by decide +kernel)) ggX9_goesOn_X9_next
set_option maxRecDepth 20000 in
theorem ggX9_goesOn_X9_closes : GoodIn wsX9_goesOn wsX9_closes := goodIn_r _ [16, 4, 2, 17, 3, 18, 19, 20, 11, 21, 1, 22, 23, 24, 25, 26, 27, 28, 29, 30, 31, 32, 33, 34, 35, 36, 37, 38, 39, 40, 41, 42, 43, 44, 45, 46, 47, 48, 49, 50, 51, 52, 53, 54, 55, 56, 57, 58, 59, 60, 61, 62, 63, 64, 65, 66, 67, 68, 69, 70, 71, 72, 73, 74, 75, 76, 77, 78, 79, 80, 81, 82, 83, 84, 85, 86, 87, 88, 89, 90, 91, 92, 93, 94, 95, 96, 97, 98, 99, 100, 101] rfl (by decide +kernel)
set_option maxRecDepth 20000 in
theorem gX9_goesOn_X9_closes : GoodIn wsX9_goesOn (wsV RX9 273 RX9 yX9_closes wsX9_closes) := goodIn_app (goodIn_of _ (by decide +kernel)) ggX9_goesOn_X9_closes
set_option maxRecDepth 20000 in
theorem ggX9_goesOn_X9_rank : GoodIn wsX9_goesOn wsX9_rank := goodIn_r _ [25] rfl (by decide +kernel)
set_option maxRecDepth 20000 in
theorem gX9_goesOn_X9_rank : GoodIn wsX9_goesOn (wsV RX9 267 RX9 yX9_rank wsX9_rank) := goodIn_app (goodIn_of _ (by decide +kernel)) ggX9_goesOn_X9_rank
set_option maxRecDepth 20000 in
theorem ggX9_goesOn_X9_goesDown : GoodIn wsX9_goesOn wsX9_goesDown := goodIn_r _ [21, 2, 1, 22, 23, 24, 11, 25, 26, 27, 28, 29, 30, 31, 32, 37, 38, 39, 40, 41, 42, 43, 44, 45, 46, 47, 48, 49, 50, 51, 52, 53, 54, 55, 56, 57, 58, 59, 60, 61, 62, 63, 64, 65, 66, 67, 68, 69, 70, 71, 72, 73, 74, 75, 76, 77, 78, 79, 80, 81, 82, 83, 84, 85, 86, 87, 88, 89, 90, 91, 92, 93, 94, 95, 96, 97, 98, 99, 100, 101] rfl (by decide +kernel)
set_option maxRecDepth 20000 in
theorem gX9_goesOn_X9_goesDown : GoodIn wsX9_goesOn (wsV RX9 270 RX9 yX9_goesDown wsX9_goesDown) := goodIn_app (goodIn_of _ (by decide +kernel)) ggX9_goesOn_X9_goesDown
theorem dX9_goesOn_0 : decode cX9_goesOn 0 = .ok (.aload_n 0, 1) := by decide +kernel
theorem dX9_goesOn_1 : decode cX9_goesOn 1 = .ok (.invokevirtual 251, 3) := by decide +kernel
theorem dX9_goesOn_4 : decode cX9_goesOn 4 = .ok (.bipush 41, 2) := by decide +kernel
theorem dX9_goesOn_6 : decode cX9_goesOn 6 = .ok (.if_icmp .ne 12, 3) := by decide +kernel
theorem dX9_goesOn_9 : decode cX9_goesOn 9 = .ok (.aload_n 0, 1) := by decide +kernel
theorem dX9_goesOn_10 : decode cX9_goesOn 10 = .ok (.invokevirtual 273, 3) := by decide +kernel
theorem dX9_goesOn_13 : decode cX9_goesOn 13 = .ok (.ifCond .ne (-13), 3) := by decide +kernel
theorem dX9_goesOn_16 : decode cX9_goesOn 16 = .ok (.iconst 0, 1) := by decide +kernel
theorem dX9_goesOn_17 : decode cX9_goesOn 17 = .ok (.ireturn, 1) := by decide +kernel
theorem dX9_goesOn_18 : decode cX9_goesOn 18 = .ok (.aload_n 0, 1) := by decide +kernel
theorem dX9_goesOn_19 : decode cX9_goesOn 19 = .ok (.aload_n 0, 1) := by decide +kernel
theorem dX9_goesOn_20 : decode cX9_goesOn 20 = .ok (.invokevirtual 251, 3) := by decide +kernel
theorem dX9_goesOn_23 : decode cX9_goesOn 23 = .ok (.invokevirtual 267, 3) := by decide +kernel
theorem dX9_goesOn_26 : decode cX9_goesOn 26 = .ok (.istore_n 1, 1) := by decide +kernel
theorem dX9_goesOn_27 : decode cX9_goesOn 27 = .ok (.iload_n 1, 1) := by decide +kernel
theorem dX9_goesOn_28 : decode cX9_goesOn 28 = .ok (.ifCond .le 48, 3) := by decide +kernel
theorem dX9_goesOn_31 : decode cX9_goesOn 31 = .ok (.aload_n 0, 1) := by decide +kernel
theorem dX9_goesOn_32 : decode cX9_goesOn 32 = .ok (.iload_n 1, 1) := by decide +kernel
theorem dX9_goesOn_33 : decode cX9_goesOn 33 = .ok (.invokevirtual 270, 3) := by decide +kernel
theorem dX9_goesOn_36 : decode cX9_goesOn 36 = .ok (.ifCond .ne 5, 3) := by decide +kernel
theorem dX9_goesOn_39 : decode cX9_goesOn 39 = .ok (.iconst 0, 1) := by decide +kernel
theorem dX9_goesOn_40 : decode cX9_goesOn 40 = .ok (.ireturn, 1) := by decide +kernel
theorem dX9_goesOn_41 : decode cX9_goesOn 41 = .ok (.aload_n 0, 1) := by decide +kernel
theorem dX9_goesOn_42 : decode cX9_goesOn 42 = .ok (.getfield 129, 3) := by decide +kernel
theorem dX9_goesOn_45 : decode cX9_goesOn 45 = .ok (.aload_n 0, 1) := by decide +kernel
theorem dX9_goesOn_46 : decode cX9_goesOn 46 = .ok (.getfield 92, 3) := by decide +kernel
theorem dX9_goesOn_49 : decode cX9_goesOn 49 = .ok (.aload_n 0, 1) := by decide +kernel
theorem dX9_goesOn_50 : decode cX9_goesOn 50 = .ok (.invokevirtual 251, 3) := by decide +kernel
theorem dX9_goesOn_53 : decode cX9_goesOn 53 = .ok (.iastore, 1) := by decide +kernel
theorem dX9_goesOn_54 : decode cX9_goesOn 54 = .ok (.aload_n 0, 1) := by decide +kernel
theorem dX9_goesOn_55 : decode cX9_goesOn 55 = .ok (.dup, 1) := by decide +kernel
theorem dX9_goesOn_56 : decode cX9_goesOn 56 = .ok (.getfield 92, 3) := by decide +kernel
theorem dX9_goesOn_59 : decode cX9_goesOn 59 = .ok (.iconst 1, 1) := by decide +kernel
theorem dX9_goesOn_60 : decode cX9_goesOn 60 = .ok (.iadd, 1) := by decide +kernel
theorem dX9_goesOn_61 : decode cX9_goesOn 61 = .ok (.putfield 92, 3) := by decide +kernel
theorem dX9_goesOn_64 : decode cX9_goesOn 64 = .ok (.aload_n 0, 1) := by decide +kernel
theorem dX9_goesOn_65 : decode cX9_goesOn 65 = .ok (.dup, 1) := by decide +kernel
theorem dX9_goesOn_66 : decode cX9_goesOn 66 = .ok (.getfield 86, 3) := by decide +kernel
theorem dX9_goesOn_69 : decode cX9_goesOn 69 = .ok (.iconst 1, 1) := by decide +kernel
theorem dX9_goesOn_70 : decode cX9_goesOn 70 = .ok (.iadd, 1) := by decide +kernel
theorem dX9_goesOn_71 : decode cX9_goesOn 71 = .ok (.putfield 86, 3) := by decide +kernel
theorem dX9_goesOn_74 : decode cX9_goesOn 74 = .ok (.iconst 1, 1) := by decide +kernel
theorem dX9_goesOn_75 : decode cX9_goesOn 75 = .ok (.ireturn, 1) := by decide +kernel
theorem dX9_goesOn_76 : decode cX9_goesOn 76 = .ok (.aload_n 0, 1) := by decide +kernel
theorem dX9_goesOn_77 : decode cX9_goesOn 77 = .ok (.getfield 98, 3) := by decide +kernel
theorem dX9_goesOn_80 : decode cX9_goesOn 80 = .ok (.ifCond .gt 48, 3) := by decide +kernel
theorem dX9_goesOn_83 : decode cX9_goesOn 83 = .ok (.aload_n 0, 1) := by decide +kernel
theorem dX9_goesOn_84 : decode cX9_goesOn 84 = .ok (.invokevirtual 251, 3) := by decide +kernel
theorem dX9_goesOn_87 : decode cX9_goesOn 87 = .ok (.bipush 63, 2) := by decide +kernel
theorem dX9_goesOn_89 : decode cX9_goesOn 89 = .ok (.if_icmp .ne 10, 3) := by decide +kernel
theorem dX9_goesOn_92 : decode cX9_goesOn 92 = .ok (.aload_n 0, 1) := by decide +kernel
theorem dX9_goesOn_93 : decode cX9_goesOn 93 = .ok (.getfield 105, 3) := by decide +kernel
theorem dX9_goesOn_96 : decode cX9_goesOn 96 = .ok (.ifCond .ne 32, 3) := by decide +kernel
theorem dX9_goesOn_99 : decode cX9_goesOn 99 = .ok (.aload_n 0, 1) := by decide +kernel
theorem dX9_goesOn_100 : decode cX9_goesOn 100 = .ok (.getfield 86, 3) := by decide +kernel
theorem dX9_goesOn_103 : decode cX9_goesOn 103 = .ok (.aload_n 0, 1) := by decide +kernel
theorem dX9_goesOn_104 : decode cX9_goesOn 104 = .ok (.getfield 83, 3) := by decide +kernel
theorem dX9_goesOn_107 : decode cX9_goesOn 107 = .ok (.if_icmp .ge 23, 3) := by decide +kernel
theorem dX9_goesOn_110 : decode cX9_goesOn 110 = .ok (.aload_n 0, 1) := by decide +kernel
theorem dX9_goesOn_111 : decode cX9_goesOn 111 = .ok (.invokevirtual 251, 3) := by decide +kernel
theorem dX9_goesOn_114 : decode cX9_goesOn 114 = .ok (.bipush 63, 2) := by decide +kernel
theorem dX9_goesOn_116 : decode cX9_goesOn 116 = .ok (.if_icmp .eq 14, 3) := by decide +kernel
theorem dX9_goesOn_119 : decode cX9_goesOn 119 = .ok (.aload_n 0, 1) := by decide +kernel
theorem dX9_goesOn_120 : decode cX9_goesOn 120 = .ok (.invokevirtual 251, 3) := by decide +kernel
theorem dX9_goesOn_123 : decode cX9_goesOn 123 = .ok (.bipush 59, 2) := by decide +kernel
theorem dX9_goesOn_125 : decode cX9_goesOn 125 = .ok (.if_icmp .eq 5, 3) := by decide +kernel
theorem dX9_goesOn_128 : decode cX9_goesOn 128 = .ok (.iconst 0, 1) := by decide +kernel
theorem dX9_goesOn_129 : decode cX9_goesOn 129 = .ok (.ireturn, 1) := by decide +kernel
theorem dX9_goesOn_130 : decode cX9_goesOn 130 = .ok (.aload_n 0, 1) := by decide +kernel
theorem dX9_goesOn_131 : decode cX9_goesOn 131 = .ok (.iconst 1, 1) := by decide +kernel
theorem dX9_goesOn_132 : decode cX9_goesOn 132 = .ok (.invokevirtual 270, 3) := by decide +kernel
theorem dX9_goesOn_135 : decode cX9_goesOn 135 = .ok (.istore_n 2, 1) := by decide +kernel
theorem dX9_goesOn_136 : decode cX9_goesOn 136 = .ok (.aload_n 0, 1) := by decide +kernel
theorem dX9_goesOn_137 : decode cX9_goesOn 137 = .ok (.getfield 86, 3) := by decide +kernel
theorem dX9_goesOn_140 : decode cX9_goesOn 140 = .ok (.aload_n 0, 1) := by decide +kernel
theorem dX9_goesOn_141 : decode cX9_goesOn 141 = .ok (.getfield 83, 3) := by decide +kernel
theorem dX9_goesOn_144 : decode cX9_goesOn 144 = .ok (.if_icmp .ne 5, 3) := by decide +kernel
theorem dX9_goesOn_147 : decode cX9_goesOn 147 = .ok (.iconst 4, 1) := by decide +kernel
theorem dX9_goesOn_148 : decode cX9_goesOn 148 = .ok (.ireturn, 1) := by decide +kernel
theorem dX9_goesOn_149 : decode cX9_goesOn 149 = .ok (.aload_n 0, 1) := by decide +kernel
theorem dX9_goesOn_150 : decode cX9_goesOn 150 = .ok (.dup, 1) := by decide +kernel
theorem dX9_goesOn_151 : decode cX9_goesOn 151 = .ok (.getfield 86, 3) := by decide +kernel
theorem dX9_goesOn_154 : decode cX9_goesOn 154 = .ok (.iconst 1, 1) := by decide +kernel
theorem dX9_goesOn_155 : decode cX9_goesOn 155 = .ok (.iadd, 1) := by decide +kernel
theorem dX9_goesOn_156 : decode cX9_goesOn 156 = .ok (.putfield 86, 3) := by decide +kernel
theorem dX9_goesOn_159 : decode cX9_goesOn 159 = .ok (.aload_n 0, 1) := by decide +kernel
theorem dX9_goesOn_160 : decode cX9_goesOn 160 = .ok (.getfield 108, 3) := by decide +kernel
theorem dX9_goesOn_163 : decode cX9_goesOn 163 = .ok (.aload_n 0, 1) := by decide +kernel
theorem dX9_goesOn_164 : decode cX9_goesOn 164 = .ok (.getfield 86, 3) := by decide +kernel
theorem dX9_goesOn_167 : decode cX9_goesOn 167 = .ok (.iconst 1, 1) := by decide +kernel
theorem dX9_goesOn_168 : decode cX9_goesOn 168 = .ok (.isub, 1) := by decide +kernel
theorem dX9_goesOn_169 : decode cX9_goesOn 169 = .ok (.iaload, 1) := by decide +kernel
theorem dX9_goesOn_170 : decode cX9_goesOn 170 = .ok (.bipush 63, 2) := by decide +kernel
theorem dX9_goesOn_172 : decode cX9_goesOn 172 = .ok (.if_icmp .ne 7, 3) := by decide +kernel
theorem dX9_goesOn_175 : decode cX9_goesOn 175 = .ok (.iconst 2, 1) := by decide +kernel
theorem dX9_goesOn_176 : decode cX9_goesOn 176 = .ok (.goto 4, 3) := by decide +kernel
theorem dX9_goesOn_179 : decode cX9_goesOn 179 = .ok (.iconst 3, 1) := by decide +kernel
theorem dX9_goesOn_180 : decode cX9_goesOn 180 = .ok (.ireturn, 1) := by decide +kernel
set_option maxRecDepth 20000 in
theorem ggX9_takesText_X9_takesOperand : GoodIn wsX9_takesText wsX9_takesOperand := goodIn_r _ [15, 4, 5, 16, 3, 1, 17, 18, 19, 14, 20, 21, 22, 23, 24, 25, 26, 27, 28, 29, 30, 31, 32, 33, 34, 35, 36, 37, 38, 39, 2, 40, 41, 42, 43, 44, 45, 46, 47, 48, 65, 66, 67, 68, 69, 70, 71, 72, 73, 74, 75, 76, 77, 78, 79, 80, 81, 82, 83, 84, 85, 86, 87, 88, 89, 90, 91, 92, 93, 94, 95, 96, 97, 98, 99, 100, 101, 102, 103, 104, 105, 106, 107, 108, 109, 110, 111, 112, 113, 114, 115, 116, 117, 118, 119, 120, 121, 122, 123, 124, 125, 126, 127, 128, 129] rfl (by decide +kernel)
set_option maxRecDepth 20000 in
theorem gX9_takesText_X9_takesOperand : GoodIn wsX9_takesText (wsV RX9 277 RX9 yX9_takesOperand wsX9_takesOperand) := goodIn_app (goodIn_of _ (by decide +kernel)) ggX9_takesText_X9_takesOperand
set_option maxRecDepth 20000 in
theorem ggX9_takesText_X9_goesOn : GoodIn wsX9_takesText wsX9_goesOn := goodIn_r _ [52, 16, 3, 1, 5, 6, 21, 22, 17, 18, 19, 14, 20, 53, 54, 55, 56, 4, 57, 58, 59, 60, 61, 62, 63, 64, 35, 36, 37, 38, 39, 2, 40, 45, 46, 47, 48, 65, 66, 67, 68, 69, 70, 71, 72, 73, 74, 75, 76, 77, 78, 79, 80, 81, 82, 83, 84, 85, 86, 87, 88, 89, 90, 91, 92, 93, 94, 95, 96, 97, 98, 99, 100, 101, 102, 103, 104, 105, 106, 107, 108, 109, 110, 111, 112, 113, 114, 115, 116, 117, 118, 119, 120, 121, 122, 123, 124, 125, 126, 127, 128, 129] rfl (by decide +kernel)
set_option maxRecDepth 20000 in
theorem gX9_takesText_X9_goesOn : GoodIn wsX9_takesText (wsV RX9 280 RX9 yX9_goesOn wsX9_goesOn) := goodIn_app (goodIn_of _ (by decide +kernel)) ggX9_takesText_X9_goesOn
theorem dX9_takesText_0 : decode cX9_takesText 0 = .ok (.aload_n 0, 1) := by decide +kernel
theorem dX9_takesText_1 : decode cX9_takesText 1 = .ok (.iconst 0, 1) := by decide +kernel
theorem dX9_takesText_2 : decode cX9_takesText 2 = .ok (.putfield 86, 3) := by decide +kernel
theorem dX9_takesText_5 : decode cX9_takesText 5 = .ok (.aload_n 0, 1) := by decide +kernel
theorem dX9_takesText_6 : decode cX9_takesText 6 = .ok (.bipush 120, 2) := by decide +kernel
theorem dX9_takesText_8 : decode cX9_takesText 8 = .ok (.iload_n 1, 1) := by decide +kernel
theorem dX9_takesText_9 : decode cX9_takesText 9 = .ok (.imul, 1) := by decide +kernel
theorem dX9_takesText_10 : decode cX9_takesText 10 = .ok (.putfield 89, 3) := by decide +kernel
theorem dX9_takesText_13 : decode cX9_takesText 13 = .ok (.aload_n 0, 1) := by decide +kernel
theorem dX9_takesText_14 : decode cX9_takesText 14 = .ok (.iconst 0, 1) := by decide +kernel
theorem dX9_takesText_15 : decode cX9_takesText 15 = .ok (.putfield 92, 3) := by decide +kernel
theorem dX9_takesText_18 : decode cX9_takesText 18 = .ok (.aload_n 0, 1) := by decide +kernel
theorem dX9_takesText_19 : decode cX9_takesText 19 = .ok (.iconst 0, 1) := by decide +kernel
theorem dX9_takesText_20 : decode cX9_takesText 20 = .ok (.putfield 95, 3) := by decide +kernel
theorem dX9_takesText_23 : decode cX9_takesText 23 = .ok (.aload_n 0, 1) := by decide +kernel
theorem dX9_takesText_24 : decode cX9_takesText 24 = .ok (.iconst 0, 1) := by decide +kernel
theorem dX9_takesText_25 : decode cX9_takesText 25 = .ok (.putfield 98, 3) := by decide +kernel
theorem dX9_takesText_28 : decode cX9_takesText 28 = .ok (.aload_n 0, 1) := by decide +kernel
theorem dX9_takesText_29 : decode cX9_takesText 29 = .ok (.iconst 0, 1) := by decide +kernel
theorem dX9_takesText_30 : decode cX9_takesText 30 = .ok (.putfield 105, 3) := by decide +kernel
theorem dX9_takesText_33 : decode cX9_takesText 33 = .ok (.iconst 0, 1) := by decide +kernel
theorem dX9_takesText_34 : decode cX9_takesText 34 = .ok (.istore_n 2, 1) := by decide +kernel
theorem dX9_takesText_35 : decode cX9_takesText 35 = .ok (.iconst 1, 1) := by decide +kernel
theorem dX9_takesText_36 : decode cX9_takesText 36 = .ok (.istore_n 3, 1) := by decide +kernel
theorem dX9_takesText_37 : decode cX9_takesText 37 = .ok (.aload_n 0, 1) := by decide +kernel
theorem dX9_takesText_38 : decode cX9_takesText 38 = .ok (.getfield 120, 3) := by decide +kernel
theorem dX9_takesText_41 : decode cX9_takesText 41 = .ok (.bipush 60, 2) := by decide +kernel
theorem dX9_takesText_43 : decode cX9_takesText 43 = .ok (.iload_n 1, 1) := by decide +kernel
theorem dX9_takesText_44 : decode cX9_takesText 44 = .ok (.imul, 1) := by decide +kernel
theorem dX9_takesText_45 : decode cX9_takesText 45 = .ok (.aload_n 0, 1) := by decide +kernel
theorem dX9_takesText_46 : decode cX9_takesText 46 = .ok (.getfield 89, 3) := by decide +kernel
theorem dX9_takesText_49 : decode cX9_takesText 49 = .ok (.iastore, 1) := by decide +kernel
theorem dX9_takesText_50 : decode cX9_takesText 50 = .ok (.aload_n 0, 1) := by decide +kernel
theorem dX9_takesText_51 : decode cX9_takesText 51 = .ok (.getfield 123, 3) := by decide +kernel
theorem dX9_takesText_54 : decode cX9_takesText 54 = .ok (.bipush 60, 2) := by decide +kernel
theorem dX9_takesText_56 : decode cX9_takesText 56 = .ok (.iload_n 1, 1) := by decide +kernel
theorem dX9_takesText_57 : decode cX9_takesText 57 = .ok (.imul, 1) := by decide +kernel
theorem dX9_takesText_58 : decode cX9_takesText 58 = .ok (.aload_n 0, 1) := by decide +kernel
theorem dX9_takesText_59 : decode cX9_takesText 59 = .ok (.getfield 89, 3) := by decide +kernel
theorem dX9_takesText_62 : decode cX9_takesText 62 = .ok (.iastore, 1) := by decide +kernel
theorem dX9_takesText_63 : decode cX9_takesText 63 = .ok (.iload_n 3, 1) := by decide +kernel
theorem dX9_takesText_64 : decode cX9_takesText 64 = .ok (.iconst 4, 1) := by decide +kernel
theorem dX9_takesText_65 : decode cX9_takesText 65 = .ok (.if_icmp .ge 126, 3) := by decide +kernel
theorem dX9_takesText_68 : decode cX9_takesText 68 = .ok (.aload_n 0, 1) := by decide +kernel
theorem dX9_takesText_69 : decode cX9_takesText 69 = .ok (.invokevirtual 277, 3) := by decide +kernel
theorem dX9_takesText_72 : decode cX9_takesText 72 = .ok (.ifCond .ne 5, 3) := by decide +kernel
theorem dX9_takesText_75 : decode cX9_takesText 75 = .ok (.iconst 0, 1) := by decide +kernel
theorem dX9_takesText_76 : decode cX9_takesText 76 = .ok (.ireturn, 1) := by decide +kernel
theorem dX9_takesText_77 : decode cX9_takesText 77 = .ok (.aload_n 0, 1) := by decide +kernel
theorem dX9_takesText_78 : decode cX9_takesText 78 = .ok (.invokevirtual 280, 3) := by decide +kernel
theorem dX9_takesText_81 : decode cX9_takesText 81 = .ok (.istore_n 3, 1) := by decide +kernel
theorem dX9_takesText_82 : decode cX9_takesText 82 = .ok (.iload_n 3, 1) := by decide +kernel
theorem dX9_takesText_83 : decode cX9_takesText 83 = .ok (.ifCond .ne 5, 3) := by decide +kernel
theorem dX9_takesText_86 : decode cX9_takesText 86 = .ok (.iconst 0, 1) := by decide +kernel
theorem dX9_takesText_87 : decode cX9_takesText 87 = .ok (.ireturn, 1) := by decide +kernel
theorem dX9_takesText_88 : decode cX9_takesText 88 = .ok (.bipush 60, 2) := by decide +kernel
theorem dX9_takesText_90 : decode cX9_takesText 90 = .ok (.iload_n 1, 1) := by decide +kernel
theorem dX9_takesText_91 : decode cX9_takesText 91 = .ok (.imul, 1) := by decide +kernel
theorem dX9_takesText_92 : decode cX9_takesText 92 = .ok (.iload_n 2, 1) := by decide +kernel
theorem dX9_takesText_93 : decode cX9_takesText 93 = .ok (.iadd, 1) := by decide +kernel
theorem dX9_takesText_94 : decode cX9_takesText 94 = .ok (.istore 4, 2) := by decide +kernel
theorem dX9_takesText_96 : decode cX9_takesText 96 = .ok (.iload_n 3, 1) := by decide +kernel
theorem dX9_takesText_97 : decode cX9_takesText 97 = .ok (.iconst 2, 1) := by decide +kernel
theorem dX9_takesText_98 : decode cX9_takesText 98 = .ok (.if_icmp .ne 19, 3) := by decide +kernel
theorem dX9_takesText_101 : decode cX9_takesText 101 = .ok (.aload_n 0, 1) := by decide +kernel
theorem dX9_takesText_102 : decode cX9_takesText 102 = .ok (.iconst 1, 1) := by decide +kernel
theorem dX9_takesText_103 : decode cX9_takesText 103 = .ok (.putfield 105, 3) := by decide +kernel
theorem dX9_takesText_106 : decode cX9_takesText 106 = .ok (.aload_n 0, 1) := by decide +kernel
theorem dX9_takesText_107 : decode cX9_takesText 107 = .ok (.getfield 123, 3) := by decide +kernel
theorem dX9_takesText_110 : decode cX9_takesText 110 = .ok (.iload 4, 2) := by decide +kernel
theorem dX9_takesText_112 : decode cX9_takesText 112 = .ok (.aload_n 0, 1) := by decide +kernel
theorem dX9_takesText_113 : decode cX9_takesText 113 = .ok (.getfield 89, 3) := by decide +kernel
theorem dX9_takesText_116 : decode cX9_takesText 116 = .ok (.iastore, 1) := by decide +kernel
theorem dX9_takesText_117 : decode cX9_takesText 117 = .ok (.iload_n 3, 1) := by decide +kernel
theorem dX9_takesText_118 : decode cX9_takesText 118 = .ok (.iconst 3, 1) := by decide +kernel
theorem dX9_takesText_119 : decode cX9_takesText 119 = .ok (.if_icmp .ge 6, 3) := by decide +kernel
theorem dX9_takesText_122 : decode cX9_takesText 122 = .ok (.goto (-59), 3) := by decide +kernel
theorem dX9_takesText_125 : decode cX9_takesText 125 = .ok (.aload_n 0, 1) := by decide +kernel
theorem dX9_takesText_126 : decode cX9_takesText 126 = .ok (.getfield 126, 3) := by decide +kernel
theorem dX9_takesText_129 : decode cX9_takesText 129 = .ok (.iload 4, 2) := by decide +kernel
theorem dX9_takesText_131 : decode cX9_takesText 131 = .ok (.aload_n 0, 1) := by decide +kernel
theorem dX9_takesText_132 : decode cX9_takesText 132 = .ok (.getfield 89, 3) := by decide +kernel
theorem dX9_takesText_135 : decode cX9_takesText 135 = .ok (.iastore, 1) := by decide +kernel
theorem dX9_takesText_136 : decode cX9_takesText 136 = .ok (.iinc 2 1, 3) := by decide +kernel
theorem dX9_takesText_139 : decode cX9_takesText 139 = .ok (.aload_n 0, 1) := by decide +kernel
theorem dX9_takesText_140 : decode cX9_takesText 140 = .ok (.getfield 117, 3) := by decide +kernel
theorem dX9_takesText_143 : decode cX9_takesText 143 = .ok (.iload_n 1, 1) := by decide +kernel
theorem dX9_takesText_144 : decode cX9_takesText 144 = .ok (.iload_n 2, 1) := by decide +kernel
theorem dX9_takesText_145 : decode cX9_takesText 145 = .ok (.iastore, 1) := by decide +kernel
theorem dX9_takesText_146 : decode cX9_takesText 146 = .ok (.aload_n 0, 1) := by decide +kernel
theorem dX9_takesText_147 : decode cX9_takesText 147 = .ok (.iconst 0, 1) := by decide +kernel
theorem dX9_takesText_148 : decode cX9_takesText 148 = .ok (.putfield 105, 3) := by decide +kernel
theorem dX9_takesText_151 : decode cX9_takesText 151 = .ok (.iload_n 3, 1) := by decide +kernel
theorem dX9_takesText_152 : decode cX9_takesText 152 = .ok (.iconst 3, 1) := by decide +kernel
theorem dX9_takesText_153 : decode cX9_takesText 153 = .ok (.if_icmp .ne 35, 3) := by decide +kernel
theorem dX9_takesText_156 : decode cX9_takesText 156 = .ok (.iload_n 2, 1) := by decide +kernel
theorem dX9_takesText_157 : decode cX9_takesText 157 = .ok (.bipush 60, 2) := by decide +kernel
theorem dX9_takesText_159 : decode cX9_takesText 159 = .ok (.if_icmp .ge 29, 3) := by decide +kernel
theorem dX9_takesText_162 : decode cX9_takesText 162 = .ok (.aload_n 0, 1) := by decide +kernel
theorem dX9_takesText_163 : decode cX9_takesText 163 = .ok (.getfield 120, 3) := by decide +kernel
theorem dX9_takesText_166 : decode cX9_takesText 166 = .ok (.iload 4, 2) := by decide +kernel
theorem dX9_takesText_168 : decode cX9_takesText 168 = .ok (.iconst 1, 1) := by decide +kernel
theorem dX9_takesText_169 : decode cX9_takesText 169 = .ok (.iadd, 1) := by decide +kernel
theorem dX9_takesText_170 : decode cX9_takesText 170 = .ok (.aload_n 0, 1) := by decide +kernel
theorem dX9_takesText_171 : decode cX9_takesText 171 = .ok (.getfield 89, 3) := by decide +kernel
theorem dX9_takesText_174 : decode cX9_takesText 174 = .ok (.iastore, 1) := by decide +kernel
theorem dX9_takesText_175 : decode cX9_takesText 175 = .ok (.aload_n 0, 1) := by decide +kernel
theorem dX9_takesText_176 : decode cX9_takesText 176 = .ok (.getfield 123, 3) := by decide +kernel
theorem dX9_takesText_179 : decode cX9_takesText 179 = .ok (.iload 4, 2) := by decide +kernel
theorem dX9_takesText_181 : decode cX9_takesText 181 = .ok (.iconst 1, 1) := by decide +kernel
theorem dX9_takesText_182 : decode cX9_takesText 182 = .ok (.iadd, 1) := by decide +kernel
theorem dX9_takesText_183 : decode cX9_takesText 183 = .ok (.aload_n 0, 1) := by decide +kernel
theorem dX9_takesText_184 : decode cX9_takesText 184 = .ok (.getfield 89, 3) := by decide +kernel
theorem dX9_takesText_187 : decode cX9_takesText 187 = .ok (.iastore, 1) := by decide +kernel
theorem dX9_takesText_188 : decode cX9_takesText 188 = .ok (.goto (-125), 3) := by decide +kernel
theorem dX9_takesText_191 : decode cX9_takesText 191 = .ok (.iconst 1, 1) := by decide +kernel
theorem dX9_takesText_192 : decode cX9_takesText 192 = .ok (.ireturn, 1) := by decide +kernel
set_option maxRecDepth 20000 in
theorem ggX9_law_X9_takesText : GoodIn wsX9_law wsX9_takesText := goodIn_r _ [8, 3, 9, 10, 11, 12, 13, 14, 15, 16, 17, 18, 19, 20, 7, 21, 22, 23, 24, 25, 26, 2, 27, 28, 29, 30, 31, 32, 33, 34, 35, 36, 37, 38, 39, 40, 41, 42, 43, 44, 45, 46, 47, 48, 49, 50, 51, 52, 53, 54, 55, 56, 57, 58, 59, 60, 61, 62, 63, 64, 65, 66, 67, 68, 69, 70, 71, 72, 73, 74, 75, 76, 77, 78, 79, 80, 81, 82, 83, 84, 85, 86, 87, 88, 89, 90, 91, 92, 93, 94, 95, 96, 97, 98, 99, 100, 101, 102, 103, 104, 105, 106, 107, 108, 109, 110, 111, 112, 113, 114, 115, 116, 117, 118, 119, 120, 121, 122, 123, 124, 125, 126, 127, 128, 129, 130, 131, 132, 133, 134] rfl (by decide +kernel)
set_option maxRecDepth 20000 in
theorem gX9_law_X9_takesText : GoodIn wsX9_law (wsV RX9 283 RX9 yX9_takesText wsX9_takesText) := goodIn_app (goodIn_of _ (by decide +kernel)) ggX9_law_X9_takesText
theorem dX9_law_0 : decode cX9_law 0 = .ok (.aload_n 0, 1) := by decide +kernel
theorem dX9_law_1 : decode cX9_law 1 = .ok (.getfield 77, 3) := by decide +kernel
theorem dX9_law_4 : decode cX9_law 4 = .ok (.iconst 4, 1) := by decide +kernel
theorem dX9_law_5 : decode cX9_law 5 = .ok (.if_icmp .ne 6, 3) := by decide +kernel
theorem dX9_law_8 : decode cX9_law 8 = .ok (.bipush (-3), 2) := by decide +kernel
theorem dX9_law_10 : decode cX9_law 10 = .ok (.ireturn, 1) := by decide +kernel
theorem dX9_law_11 : decode cX9_law 11 = .ok (.aload_n 0, 1) := by decide +kernel
theorem dX9_law_12 : decode cX9_law 12 = .ok (.aload_n 0, 1) := by decide +kernel
theorem dX9_law_13 : decode cX9_law 13 = .ok (.getfield 77, 3) := by decide +kernel
theorem dX9_law_16 : decode cX9_law 16 = .ok (.invokevirtual 283, 3) := by decide +kernel
theorem dX9_law_19 : decode cX9_law 19 = .ok (.istore_n 1, 1) := by decide +kernel
theorem dX9_law_20 : decode cX9_law 20 = .ok (.aload_n 0, 1) := by decide +kernel
theorem dX9_law_21 : decode cX9_law 21 = .ok (.iconst 0, 1) := by decide +kernel
theorem dX9_law_22 : decode cX9_law 22 = .ok (.putfield 83, 3) := by decide +kernel
theorem dX9_law_25 : decode cX9_law 25 = .ok (.iload_n 1, 1) := by decide +kernel
theorem dX9_law_26 : decode cX9_law 26 = .ok (.ifCond .ne 11, 3) := by decide +kernel
theorem dX9_law_29 : decode cX9_law 29 = .ok (.bipush (-100), 2) := by decide +kernel
theorem dX9_law_31 : decode cX9_law 31 = .ok (.aload_n 0, 1) := by decide +kernel
theorem dX9_law_32 : decode cX9_law 32 = .ok (.getfield 86, 3) := by decide +kernel
theorem dX9_law_35 : decode cX9_law 35 = .ok (.isub, 1) := by decide +kernel
theorem dX9_law_36 : decode cX9_law 36 = .ok (.ireturn, 1) := by decide +kernel
theorem dX9_law_37 : decode cX9_law 37 = .ok (.aload_n 0, 1) := by decide +kernel
theorem dX9_law_38 : decode cX9_law 38 = .ok (.dup, 1) := by decide +kernel
theorem dX9_law_39 : decode cX9_law 39 = .ok (.getfield 77, 3) := by decide +kernel
theorem dX9_law_42 : decode cX9_law 42 = .ok (.iconst 1, 1) := by decide +kernel
theorem dX9_law_43 : decode cX9_law 43 = .ok (.iadd, 1) := by decide +kernel
theorem dX9_law_44 : decode cX9_law 44 = .ok (.putfield 77, 3) := by decide +kernel
theorem dX9_law_47 : decode cX9_law 47 = .ok (.aload_n 0, 1) := by decide +kernel
theorem dX9_law_48 : decode cX9_law 48 = .ok (.getfield 77, 3) := by decide +kernel
theorem dX9_law_51 : decode cX9_law 51 = .ok (.iconst 1, 1) := by decide +kernel
theorem dX9_law_52 : decode cX9_law 52 = .ok (.isub, 1) := by decide +kernel
theorem dX9_law_53 : decode cX9_law 53 = .ok (.ireturn, 1) := by decide +kernel
theorem dX9_keepRule_0 : decode cX9_keepRule 0 = .ok (.iconst 0, 1) := by decide +kernel
theorem dX9_keepRule_1 : decode cX9_keepRule 1 = .ok (.istore_n 1, 1) := by decide +kernel
theorem dX9_keepRule_2 : decode cX9_keepRule 2 = .ok (.iload_n 1, 1) := by decide +kernel
theorem dX9_keepRule_3 : decode cX9_keepRule 3 = .ok (.bipush 120, 2) := by decide +kernel
theorem dX9_keepRule_5 : decode cX9_keepRule 5 = .ok (.if_icmp .ge 41, 3) := by decide +kernel
theorem dX9_keepRule_8 : decode cX9_keepRule 8 = .ok (.aload_n 0, 1) := by decide +kernel
theorem dX9_keepRule_9 : decode cX9_keepRule 9 = .ok (.getfield 138, 3) := by decide +kernel
theorem dX9_keepRule_12 : decode cX9_keepRule 12 = .ok (.iload_n 1, 1) := by decide +kernel
theorem dX9_keepRule_13 : decode cX9_keepRule 13 = .ok (.aload_n 0, 1) := by decide +kernel
theorem dX9_keepRule_14 : decode cX9_keepRule 14 = .ok (.getfield 111, 3) := by decide +kernel
theorem dX9_keepRule_17 : decode cX9_keepRule 17 = .ok (.sipush 480, 3) := by decide +kernel
theorem dX9_keepRule_20 : decode cX9_keepRule 20 = .ok (.iload_n 1, 1) := by decide +kernel
theorem dX9_keepRule_21 : decode cX9_keepRule 21 = .ok (.iadd, 1) := by decide +kernel
theorem dX9_keepRule_22 : decode cX9_keepRule 22 = .ok (.iaload, 1) := by decide +kernel
theorem dX9_keepRule_23 : decode cX9_keepRule 23 = .ok (.iastore, 1) := by decide +kernel
theorem dX9_keepRule_24 : decode cX9_keepRule 24 = .ok (.aload_n 0, 1) := by decide +kernel
theorem dX9_keepRule_25 : decode cX9_keepRule 25 = .ok (.getfield 141, 3) := by decide +kernel
theorem dX9_keepRule_28 : decode cX9_keepRule 28 = .ok (.iload_n 1, 1) := by decide +kernel
theorem dX9_keepRule_29 : decode cX9_keepRule 29 = .ok (.aload_n 0, 1) := by decide +kernel
theorem dX9_keepRule_30 : decode cX9_keepRule 30 = .ok (.getfield 114, 3) := by decide +kernel
theorem dX9_keepRule_33 : decode cX9_keepRule 33 = .ok (.sipush 480, 3) := by decide +kernel
theorem dX9_keepRule_36 : decode cX9_keepRule 36 = .ok (.iload_n 1, 1) := by decide +kernel
theorem dX9_keepRule_37 : decode cX9_keepRule 37 = .ok (.iadd, 1) := by decide +kernel
theorem dX9_keepRule_38 : decode cX9_keepRule 38 = .ok (.iaload, 1) := by decide +kernel
theorem dX9_keepRule_39 : decode cX9_keepRule 39 = .ok (.iastore, 1) := by decide +kernel
theorem dX9_keepRule_40 : decode cX9_keepRule 40 = .ok (.iinc 1 1, 3) := by decide +kernel
theorem dX9_keepRule_43 : decode cX9_keepRule 43 = .ok (.goto (-41), 3) := by decide +kernel
theorem dX9_keepRule_46 : decode cX9_keepRule 46 = .ok (.iconst 0, 1) := by decide +kernel
theorem dX9_keepRule_47 : decode cX9_keepRule 47 = .ok (.istore_n 1, 1) := by decide +kernel
theorem dX9_keepRule_48 : decode cX9_keepRule 48 = .ok (.iload_n 1, 1) := by decide +kernel
theorem dX9_keepRule_49 : decode cX9_keepRule 49 = .ok (.bipush 60, 2) := by decide +kernel
theorem dX9_keepRule_51 : decode cX9_keepRule 51 = .ok (.if_icmp .ge 57, 3) := by decide +kernel
theorem dX9_keepRule_54 : decode cX9_keepRule 54 = .ok (.aload_n 0, 1) := by decide +kernel
theorem dX9_keepRule_55 : decode cX9_keepRule 55 = .ok (.getfield 144, 3) := by decide +kernel
theorem dX9_keepRule_58 : decode cX9_keepRule 58 = .ok (.iload_n 1, 1) := by decide +kernel
theorem dX9_keepRule_59 : decode cX9_keepRule 59 = .ok (.aload_n 0, 1) := by decide +kernel
theorem dX9_keepRule_60 : decode cX9_keepRule 60 = .ok (.getfield 120, 3) := by decide +kernel
theorem dX9_keepRule_63 : decode cX9_keepRule 63 = .ok (.sipush 240, 3) := by decide +kernel
theorem dX9_keepRule_66 : decode cX9_keepRule 66 = .ok (.iload_n 1, 1) := by decide +kernel
theorem dX9_keepRule_67 : decode cX9_keepRule 67 = .ok (.iadd, 1) := by decide +kernel
theorem dX9_keepRule_68 : decode cX9_keepRule 68 = .ok (.iaload, 1) := by decide +kernel
theorem dX9_keepRule_69 : decode cX9_keepRule 69 = .ok (.iastore, 1) := by decide +kernel
theorem dX9_keepRule_70 : decode cX9_keepRule 70 = .ok (.aload_n 0, 1) := by decide +kernel
theorem dX9_keepRule_71 : decode cX9_keepRule 71 = .ok (.getfield 147, 3) := by decide +kernel
theorem dX9_keepRule_74 : decode cX9_keepRule 74 = .ok (.iload_n 1, 1) := by decide +kernel
theorem dX9_keepRule_75 : decode cX9_keepRule 75 = .ok (.aload_n 0, 1) := by decide +kernel
theorem dX9_keepRule_76 : decode cX9_keepRule 76 = .ok (.getfield 123, 3) := by decide +kernel
theorem dX9_keepRule_79 : decode cX9_keepRule 79 = .ok (.sipush 240, 3) := by decide +kernel
theorem dX9_keepRule_82 : decode cX9_keepRule 82 = .ok (.iload_n 1, 1) := by decide +kernel
theorem dX9_keepRule_83 : decode cX9_keepRule 83 = .ok (.iadd, 1) := by decide +kernel
theorem dX9_keepRule_84 : decode cX9_keepRule 84 = .ok (.iaload, 1) := by decide +kernel
theorem dX9_keepRule_85 : decode cX9_keepRule 85 = .ok (.iastore, 1) := by decide +kernel
theorem dX9_keepRule_86 : decode cX9_keepRule 86 = .ok (.aload_n 0, 1) := by decide +kernel
theorem dX9_keepRule_87 : decode cX9_keepRule 87 = .ok (.getfield 150, 3) := by decide +kernel
theorem dX9_keepRule_90 : decode cX9_keepRule 90 = .ok (.iload_n 1, 1) := by decide +kernel
theorem dX9_keepRule_91 : decode cX9_keepRule 91 = .ok (.aload_n 0, 1) := by decide +kernel
theorem dX9_keepRule_92 : decode cX9_keepRule 92 = .ok (.getfield 126, 3) := by decide +kernel
theorem dX9_keepRule_95 : decode cX9_keepRule 95 = .ok (.sipush 240, 3) := by decide +kernel
theorem dX9_keepRule_98 : decode cX9_keepRule 98 = .ok (.iload_n 1, 1) := by decide +kernel
theorem dX9_keepRule_99 : decode cX9_keepRule 99 = .ok (.iadd, 1) := by decide +kernel
theorem dX9_keepRule_100 : decode cX9_keepRule 100 = .ok (.iaload, 1) := by decide +kernel
theorem dX9_keepRule_101 : decode cX9_keepRule 101 = .ok (.iastore, 1) := by decide +kernel
theorem dX9_keepRule_102 : decode cX9_keepRule 102 = .ok (.iinc 1 1, 3) := by decide +kernel
theorem dX9_keepRule_105 : decode cX9_keepRule 105 = .ok (.goto (-57), 3) := by decide +kernel
theorem dX9_keepRule_108 : decode cX9_keepRule 108 = .ok (.return_, 1) := by decide +kernel
theorem dX9_putRule_0 : decode cX9_putRule 0 = .ok (.iconst 0, 1) := by decide +kernel
theorem dX9_putRule_1 : decode cX9_putRule 1 = .ok (.istore_n 1, 1) := by decide +kernel
theorem dX9_putRule_2 : decode cX9_putRule 2 = .ok (.iload_n 1, 1) := by decide +kernel
theorem dX9_putRule_3 : decode cX9_putRule 3 = .ok (.bipush 120, 2) := by decide +kernel
theorem dX9_putRule_5 : decode cX9_putRule 5 = .ok (.if_icmp .ge 41, 3) := by decide +kernel
theorem dX9_putRule_8 : decode cX9_putRule 8 = .ok (.aload_n 0, 1) := by decide +kernel
theorem dX9_putRule_9 : decode cX9_putRule 9 = .ok (.getfield 111, 3) := by decide +kernel
theorem dX9_putRule_12 : decode cX9_putRule 12 = .ok (.sipush 480, 3) := by decide +kernel
theorem dX9_putRule_15 : decode cX9_putRule 15 = .ok (.iload_n 1, 1) := by decide +kernel
theorem dX9_putRule_16 : decode cX9_putRule 16 = .ok (.iadd, 1) := by decide +kernel
theorem dX9_putRule_17 : decode cX9_putRule 17 = .ok (.aload_n 0, 1) := by decide +kernel
theorem dX9_putRule_18 : decode cX9_putRule 18 = .ok (.getfield 138, 3) := by decide +kernel
theorem dX9_putRule_21 : decode cX9_putRule 21 = .ok (.iload_n 1, 1) := by decide +kernel
theorem dX9_putRule_22 : decode cX9_putRule 22 = .ok (.iaload, 1) := by decide +kernel
theorem dX9_putRule_23 : decode cX9_putRule 23 = .ok (.iastore, 1) := by decide +kernel
theorem dX9_putRule_24 : decode cX9_putRule 24 = .ok (.aload_n 0, 1) := by decide +kernel
theorem dX9_putRule_25 : decode cX9_putRule 25 = .ok (.getfield 114, 3) := by decide +kernel
theorem dX9_putRule_28 : decode cX9_putRule 28 = .ok (.sipush 480, 3) := by decide +kernel
theorem dX9_putRule_31 : decode cX9_putRule 31 = .ok (.iload_n 1, 1) := by decide +kernel
theorem dX9_putRule_32 : decode cX9_putRule 32 = .ok (.iadd, 1) := by decide +kernel
theorem dX9_putRule_33 : decode cX9_putRule 33 = .ok (.aload_n 0, 1) := by decide +kernel
theorem dX9_putRule_34 : decode cX9_putRule 34 = .ok (.getfield 141, 3) := by decide +kernel
theorem dX9_putRule_37 : decode cX9_putRule 37 = .ok (.iload_n 1, 1) := by decide +kernel
theorem dX9_putRule_38 : decode cX9_putRule 38 = .ok (.iaload, 1) := by decide +kernel
theorem dX9_putRule_39 : decode cX9_putRule 39 = .ok (.iastore, 1) := by decide +kernel
theorem dX9_putRule_40 : decode cX9_putRule 40 = .ok (.iinc 1 1, 3) := by decide +kernel
theorem dX9_putRule_43 : decode cX9_putRule 43 = .ok (.goto (-41), 3) := by decide +kernel
theorem dX9_putRule_46 : decode cX9_putRule 46 = .ok (.iconst 0, 1) := by decide +kernel
theorem dX9_putRule_47 : decode cX9_putRule 47 = .ok (.istore_n 1, 1) := by decide +kernel
theorem dX9_putRule_48 : decode cX9_putRule 48 = .ok (.iload_n 1, 1) := by decide +kernel
theorem dX9_putRule_49 : decode cX9_putRule 49 = .ok (.bipush 60, 2) := by decide +kernel
theorem dX9_putRule_51 : decode cX9_putRule 51 = .ok (.if_icmp .ge 57, 3) := by decide +kernel
theorem dX9_putRule_54 : decode cX9_putRule 54 = .ok (.aload_n 0, 1) := by decide +kernel
theorem dX9_putRule_55 : decode cX9_putRule 55 = .ok (.getfield 120, 3) := by decide +kernel
theorem dX9_putRule_58 : decode cX9_putRule 58 = .ok (.sipush 240, 3) := by decide +kernel
theorem dX9_putRule_61 : decode cX9_putRule 61 = .ok (.iload_n 1, 1) := by decide +kernel
theorem dX9_putRule_62 : decode cX9_putRule 62 = .ok (.iadd, 1) := by decide +kernel
theorem dX9_putRule_63 : decode cX9_putRule 63 = .ok (.aload_n 0, 1) := by decide +kernel
theorem dX9_putRule_64 : decode cX9_putRule 64 = .ok (.getfield 144, 3) := by decide +kernel
theorem dX9_putRule_67 : decode cX9_putRule 67 = .ok (.iload_n 1, 1) := by decide +kernel
theorem dX9_putRule_68 : decode cX9_putRule 68 = .ok (.iaload, 1) := by decide +kernel
theorem dX9_putRule_69 : decode cX9_putRule 69 = .ok (.iastore, 1) := by decide +kernel
theorem dX9_putRule_70 : decode cX9_putRule 70 = .ok (.aload_n 0, 1) := by decide +kernel
theorem dX9_putRule_71 : decode cX9_putRule 71 = .ok (.getfield 123, 3) := by decide +kernel
theorem dX9_putRule_74 : decode cX9_putRule 74 = .ok (.sipush 240, 3) := by decide +kernel
theorem dX9_putRule_77 : decode cX9_putRule 77 = .ok (.iload_n 1, 1) := by decide +kernel
theorem dX9_putRule_78 : decode cX9_putRule 78 = .ok (.iadd, 1) := by decide +kernel
theorem dX9_putRule_79 : decode cX9_putRule 79 = .ok (.aload_n 0, 1) := by decide +kernel
theorem dX9_putRule_80 : decode cX9_putRule 80 = .ok (.getfield 147, 3) := by decide +kernel
theorem dX9_putRule_83 : decode cX9_putRule 83 = .ok (.iload_n 1, 1) := by decide +kernel
theorem dX9_putRule_84 : decode cX9_putRule 84 = .ok (.iaload, 1) := by decide +kernel
theorem dX9_putRule_85 : decode cX9_putRule 85 = .ok (.iastore, 1) := by decide +kernel
theorem dX9_putRule_86 : decode cX9_putRule 86 = .ok (.aload_n 0, 1) := by decide +kernel
theorem dX9_putRule_87 : decode cX9_putRule 87 = .ok (.getfield 126, 3) := by decide +kernel
theorem dX9_putRule_90 : decode cX9_putRule 90 = .ok (.sipush 240, 3) := by decide +kernel
theorem dX9_putRule_93 : decode cX9_putRule 93 = .ok (.iload_n 1, 1) := by decide +kernel
theorem dX9_putRule_94 : decode cX9_putRule 94 = .ok (.iadd, 1) := by decide +kernel
theorem dX9_putRule_95 : decode cX9_putRule 95 = .ok (.aload_n 0, 1) := by decide +kernel
theorem dX9_putRule_96 : decode cX9_putRule 96 = .ok (.getfield 150, 3) := by decide +kernel
theorem dX9_putRule_99 : decode cX9_putRule 99 = .ok (.iload_n 1, 1) := by decide +kernel
theorem dX9_putRule_100 : decode cX9_putRule 100 = .ok (.iaload, 1) := by decide +kernel
theorem dX9_putRule_101 : decode cX9_putRule 101 = .ok (.iastore, 1) := by decide +kernel
theorem dX9_putRule_102 : decode cX9_putRule 102 = .ok (.iinc 1 1, 3) := by decide +kernel
theorem dX9_putRule_105 : decode cX9_putRule 105 = .ok (.goto (-57), 3) := by decide +kernel
theorem dX9_putRule_108 : decode cX9_putRule 108 = .ok (.return_, 1) := by decide +kernel
set_option maxRecDepth 20000 in
theorem ggX9_rule_X9_keepRule : GoodIn wsX9_rule wsX9_keepRule := goodIn_r _ [9, 10, 11, 12, 13, 14, 15, 16, 17, 18, 19, 83, 84, 85, 86, 87, 88, 89, 90, 91, 92, 93, 94, 95, 96, 97, 98, 99, 100, 101, 102, 103, 104, 105, 106, 107, 108, 109, 110, 111, 112, 113, 114, 115, 116, 117, 118, 119, 120, 121, 122, 123, 124, 125, 126, 127, 128, 129, 130, 131, 132, 133, 134, 135, 136, 137, 138, 139, 140, 141, 142, 143, 144, 145, 146, 147] rfl (by decide +kernel)
set_option maxRecDepth 20000 in
theorem gX9_rule_X9_keepRule : GoodIn wsX9_rule (wsV RX9 286 RX9 yX9_keepRule wsX9_keepRule) := goodIn_app (goodIn_of _ (by decide +kernel)) ggX9_rule_X9_keepRule
set_option maxRecDepth 20000 in
theorem ggX9_rule_X9_takesText : GoodIn wsX9_rule wsX9_takesText := goodIn_r _ [23, 3, 24, 25, 26, 27, 28, 15, 17, 19, 1, 29, 30, 31, 8, 32, 33, 34, 35, 36, 37, 2, 38, 39, 40, 41, 42, 43, 44, 45, 46, 47, 48, 49, 50, 51, 52, 53, 54, 11, 13, 55, 56, 57, 58, 59, 60, 61, 62, 63, 64, 65, 66, 67, 68, 69, 70, 71, 72, 73, 74, 75, 76, 77, 78, 83, 84, 85, 86, 87, 88, 89, 90, 91, 92, 93, 94, 95, 96, 97, 98, 99, 100, 101, 102, 103, 104, 105, 106, 107, 108, 109, 110, 111, 112, 113, 114, 115, 116, 117, 118, 119, 120, 121, 122, 123, 124, 125, 126, 127, 128, 129, 130, 131, 132, 133, 134, 135, 136, 137, 138, 139, 140, 141, 142, 143, 144, 145, 146, 147] rfl (by decide +kernel)
set_option maxRecDepth 20000 in
theorem gX9_rule_X9_takesText : GoodIn wsX9_rule (wsV RX9 283 RX9 yX9_takesText wsX9_takesText) := goodIn_app (goodIn_of _ (by decide +kernel)) ggX9_rule_X9_takesText
set_option maxRecDepth 20000 in
theorem ggX9_rule_X9_putRule : GoodIn wsX9_rule wsX9_putRule := goodIn_r _ [82, 11, 10, 13, 12, 15, 14, 17, 16, 19, 18, 83, 84, 85, 86, 87, 88, 89, 90, 91, 92, 93, 94, 95, 96, 97, 98, 99, 100, 101, 102, 103, 104, 105, 106, 107, 108, 109, 110, 111, 112, 113, 114, 115, 116, 117, 118, 119, 120, 121, 122, 123, 124, 125, 126, 127, 128, 129, 130, 131, 132, 133, 134, 135, 136, 137, 138, 139, 140, 141, 142, 143, 144, 145, 146, 147] rfl (by decide +kernel)
set_option maxRecDepth 20000 in
theorem gX9_rule_X9_putRule : GoodIn wsX9_rule (wsV RX9 289 RX9 yX9_putRule wsX9_putRule) := goodIn_app (goodIn_of _ (by decide +kernel)) ggX9_rule_X9_putRule
theorem dX9_rule_0 : decode cX9_rule 0 = .ok (.aload_n 0, 1) := by decide +kernel
theorem dX9_rule_1 : decode cX9_rule 1 = .ok (.invokevirtual 286, 3) := by decide +kernel
theorem dX9_rule_4 : decode cX9_rule 4 = .ok (.aload_n 0, 1) := by decide +kernel
theorem dX9_rule_5 : decode cX9_rule 5 = .ok (.getfield 117, 3) := by decide +kernel
theorem dX9_rule_8 : decode cX9_rule 8 = .ok (.iconst 4, 1) := by decide +kernel
theorem dX9_rule_9 : decode cX9_rule 9 = .ok (.iaload, 1) := by decide +kernel
theorem dX9_rule_10 : decode cX9_rule 10 = .ok (.istore_n 1, 1) := by decide +kernel
theorem dX9_rule_11 : decode cX9_rule 11 = .ok (.aload_n 0, 1) := by decide +kernel
theorem dX9_rule_12 : decode cX9_rule 12 = .ok (.iconst 4, 1) := by decide +kernel
theorem dX9_rule_13 : decode cX9_rule 13 = .ok (.invokevirtual 283, 3) := by decide +kernel
theorem dX9_rule_16 : decode cX9_rule 16 = .ok (.istore_n 2, 1) := by decide +kernel
theorem dX9_rule_17 : decode cX9_rule 17 = .ok (.aload_n 0, 1) := by decide +kernel
theorem dX9_rule_18 : decode cX9_rule 18 = .ok (.iconst 0, 1) := by decide +kernel
theorem dX9_rule_19 : decode cX9_rule 19 = .ok (.putfield 83, 3) := by decide +kernel
theorem dX9_rule_22 : decode cX9_rule 22 = .ok (.iload_n 2, 1) := by decide +kernel
theorem dX9_rule_23 : decode cX9_rule 23 = .ok (.ifCond .ne 22, 3) := by decide +kernel
theorem dX9_rule_26 : decode cX9_rule 26 = .ok (.aload_n 0, 1) := by decide +kernel
theorem dX9_rule_27 : decode cX9_rule 27 = .ok (.invokevirtual 289, 3) := by decide +kernel
theorem dX9_rule_30 : decode cX9_rule 30 = .ok (.aload_n 0, 1) := by decide +kernel
theorem dX9_rule_31 : decode cX9_rule 31 = .ok (.getfield 117, 3) := by decide +kernel
theorem dX9_rule_34 : decode cX9_rule 34 = .ok (.iconst 4, 1) := by decide +kernel
theorem dX9_rule_35 : decode cX9_rule 35 = .ok (.iload_n 1, 1) := by decide +kernel
theorem dX9_rule_36 : decode cX9_rule 36 = .ok (.iastore, 1) := by decide +kernel
theorem dX9_rule_37 : decode cX9_rule 37 = .ok (.bipush (-100), 2) := by decide +kernel
theorem dX9_rule_39 : decode cX9_rule 39 = .ok (.aload_n 0, 1) := by decide +kernel
theorem dX9_rule_40 : decode cX9_rule 40 = .ok (.getfield 86, 3) := by decide +kernel
theorem dX9_rule_43 : decode cX9_rule 43 = .ok (.isub, 1) := by decide +kernel
theorem dX9_rule_44 : decode cX9_rule 44 = .ok (.ireturn, 1) := by decide +kernel
theorem dX9_rule_45 : decode cX9_rule 45 = .ok (.aload_n 0, 1) := by decide +kernel
theorem dX9_rule_46 : decode cX9_rule 46 = .ok (.iconst 1, 1) := by decide +kernel
theorem dX9_rule_47 : decode cX9_rule 47 = .ok (.putfield 101, 3) := by decide +kernel
theorem dX9_rule_50 : decode cX9_rule 50 = .ok (.iconst 1, 1) := by decide +kernel
theorem dX9_rule_51 : decode cX9_rule 51 = .ok (.ireturn, 1) := by decide +kernel
set_option maxRecDepth 20000 in
theorem ggX9_force_X9_within : GoodIn wsX9_force wsX9_within := goodIn_r _ [8] rfl (by decide +kernel)
set_option maxRecDepth 20000 in
theorem gX9_force_X9_within : GoodIn wsX9_force (wsV RX9 209 RX9 yX9_within wsX9_within) := goodIn_app (goodIn_of _ (by decide +kernel)) ggX9_force_X9_within
theorem dX9_force_0 : decode cX9_force 0 = .ok (.aload_n 0, 1) := by decide +kernel
theorem dX9_force_1 : decode cX9_force 1 = .ok (.iload_n 1, 1) := by decide +kernel
theorem dX9_force_2 : decode cX9_force 2 = .ok (.iconst (-1), 1) := by decide +kernel
theorem dX9_force_3 : decode cX9_force 3 = .ok (.aload_n 0, 1) := by decide +kernel
theorem dX9_force_4 : decode cX9_force 4 = .ok (.getfield 77, 3) := by decide +kernel
theorem dX9_force_7 : decode cX9_force 7 = .ok (.iconst 1, 1) := by decide +kernel
theorem dX9_force_8 : decode cX9_force 8 = .ok (.isub, 1) := by decide +kernel
theorem dX9_force_9 : decode cX9_force 9 = .ok (.invokevirtual 209, 3) := by decide +kernel
theorem dX9_force_12 : decode cX9_force 12 = .ok (.ifCond .ne 6, 3) := by decide +kernel
theorem dX9_force_15 : decode cX9_force 15 = .ok (.ldc 232, 2) := by decide +kernel
theorem dX9_force_17 : decode cX9_force 17 = .ok (.ireturn, 1) := by decide +kernel
theorem dX9_force_18 : decode cX9_force 18 = .ok (.aload_n 0, 1) := by decide +kernel
theorem dX9_force_19 : decode cX9_force 19 = .ok (.getfield 80, 3) := by decide +kernel
theorem dX9_force_22 : decode cX9_force 22 = .ok (.istore_n 2, 1) := by decide +kernel
theorem dX9_force_23 : decode cX9_force 23 = .ok (.aload_n 0, 1) := by decide +kernel
theorem dX9_force_24 : decode cX9_force 24 = .ok (.iload_n 1, 1) := by decide +kernel
theorem dX9_force_25 : decode cX9_force 25 = .ok (.putfield 80, 3) := by decide +kernel
theorem dX9_force_28 : decode cX9_force 28 = .ok (.iload_n 2, 1) := by decide +kernel
theorem dX9_force_29 : decode cX9_force 29 = .ok (.ireturn, 1) := by decide +kernel
theorem dX9_both_0 : decode cX9_both 0 = .ok (.iload_n 1, 1) := by decide +kernel
theorem dX9_both_1 : decode cX9_both 1 = .ok (.lookupswitch 168 #[(38, 97), (42, 152), (43, 144), (45, 148), (47, 156), (60, 111), (61, 122), (62, 133), (124, 83)], 83) := by decide +kernel
theorem dX9_both_84 : decode cX9_both 84 = .ok (.iload_n 2, 1) := by decide +kernel
theorem dX9_both_85 : decode cX9_both 85 = .ok (.ifCond .ne 7, 3) := by decide +kernel
theorem dX9_both_88 : decode cX9_both 88 = .ok (.iload_n 3, 1) := by decide +kernel
theorem dX9_both_89 : decode cX9_both 89 = .ok (.ifCond .eq 7, 3) := by decide +kernel
theorem dX9_both_92 : decode cX9_both 92 = .ok (.iconst 1, 1) := by decide +kernel
theorem dX9_both_93 : decode cX9_both 93 = .ok (.goto 4, 3) := by decide +kernel
theorem dX9_both_96 : decode cX9_both 96 = .ok (.iconst 0, 1) := by decide +kernel
theorem dX9_both_97 : decode cX9_both 97 = .ok (.ireturn, 1) := by decide +kernel
theorem dX9_both_98 : decode cX9_both 98 = .ok (.iload_n 2, 1) := by decide +kernel
theorem dX9_both_99 : decode cX9_both 99 = .ok (.ifCond .eq 11, 3) := by decide +kernel
theorem dX9_both_102 : decode cX9_both 102 = .ok (.iload_n 3, 1) := by decide +kernel
theorem dX9_both_103 : decode cX9_both 103 = .ok (.ifCond .eq 7, 3) := by decide +kernel
theorem dX9_both_106 : decode cX9_both 106 = .ok (.iconst 1, 1) := by decide +kernel
theorem dX9_both_107 : decode cX9_both 107 = .ok (.goto 4, 3) := by decide +kernel
theorem dX9_both_110 : decode cX9_both 110 = .ok (.iconst 0, 1) := by decide +kernel
theorem dX9_both_111 : decode cX9_both 111 = .ok (.ireturn, 1) := by decide +kernel
theorem dX9_both_112 : decode cX9_both 112 = .ok (.iload_n 2, 1) := by decide +kernel
theorem dX9_both_113 : decode cX9_both 113 = .ok (.iload_n 3, 1) := by decide +kernel
theorem dX9_both_114 : decode cX9_both 114 = .ok (.if_icmp .ge 7, 3) := by decide +kernel
theorem dX9_both_117 : decode cX9_both 117 = .ok (.iconst 1, 1) := by decide +kernel
theorem dX9_both_118 : decode cX9_both 118 = .ok (.goto 4, 3) := by decide +kernel
theorem dX9_both_121 : decode cX9_both 121 = .ok (.iconst 0, 1) := by decide +kernel
theorem dX9_both_122 : decode cX9_both 122 = .ok (.ireturn, 1) := by decide +kernel
theorem dX9_both_123 : decode cX9_both 123 = .ok (.iload_n 2, 1) := by decide +kernel
theorem dX9_both_124 : decode cX9_both 124 = .ok (.iload_n 3, 1) := by decide +kernel
theorem dX9_both_125 : decode cX9_both 125 = .ok (.if_icmp .ne 7, 3) := by decide +kernel
theorem dX9_both_128 : decode cX9_both 128 = .ok (.iconst 1, 1) := by decide +kernel
theorem dX9_both_129 : decode cX9_both 129 = .ok (.goto 4, 3) := by decide +kernel
theorem dX9_both_132 : decode cX9_both 132 = .ok (.iconst 0, 1) := by decide +kernel
theorem dX9_both_133 : decode cX9_both 133 = .ok (.ireturn, 1) := by decide +kernel
theorem dX9_both_134 : decode cX9_both 134 = .ok (.iload_n 2, 1) := by decide +kernel
theorem dX9_both_135 : decode cX9_both 135 = .ok (.iload_n 3, 1) := by decide +kernel
theorem dX9_both_136 : decode cX9_both 136 = .ok (.if_icmp .le 7, 3) := by decide +kernel
theorem dX9_both_139 : decode cX9_both 139 = .ok (.iconst 1, 1) := by decide +kernel
theorem dX9_both_140 : decode cX9_both 140 = .ok (.goto 4, 3) := by decide +kernel
theorem dX9_both_143 : decode cX9_both 143 = .ok (.iconst 0, 1) := by decide +kernel
theorem dX9_both_144 : decode cX9_both 144 = .ok (.ireturn, 1) := by decide +kernel
theorem dX9_both_145 : decode cX9_both 145 = .ok (.iload_n 2, 1) := by decide +kernel
theorem dX9_both_146 : decode cX9_both 146 = .ok (.iload_n 3, 1) := by decide +kernel
theorem dX9_both_147 : decode cX9_both 147 = .ok (.iadd, 1) := by decide +kernel
theorem dX9_both_148 : decode cX9_both 148 = .ok (.ireturn, 1) := by decide +kernel
theorem dX9_both_149 : decode cX9_both 149 = .ok (.iload_n 2, 1) := by decide +kernel
theorem dX9_both_150 : decode cX9_both 150 = .ok (.iload_n 3, 1) := by decide +kernel
theorem dX9_both_151 : decode cX9_both 151 = .ok (.isub, 1) := by decide +kernel
theorem dX9_both_152 : decode cX9_both 152 = .ok (.ireturn, 1) := by decide +kernel
theorem dX9_both_153 : decode cX9_both 153 = .ok (.iload_n 2, 1) := by decide +kernel
theorem dX9_both_154 : decode cX9_both 154 = .ok (.iload_n 3, 1) := by decide +kernel
theorem dX9_both_155 : decode cX9_both 155 = .ok (.imul, 1) := by decide +kernel
theorem dX9_both_156 : decode cX9_both 156 = .ok (.ireturn, 1) := by decide +kernel
theorem dX9_both_157 : decode cX9_both 157 = .ok (.iload_n 3, 1) := by decide +kernel
theorem dX9_both_158 : decode cX9_both 158 = .ok (.ifCond .ne 7, 3) := by decide +kernel
theorem dX9_both_161 : decode cX9_both 161 = .ok (.iconst 0, 1) := by decide +kernel
theorem dX9_both_162 : decode cX9_both 162 = .ok (.goto 6, 3) := by decide +kernel
theorem dX9_both_165 : decode cX9_both 165 = .ok (.iload_n 2, 1) := by decide +kernel
theorem dX9_both_166 : decode cX9_both 166 = .ok (.iload_n 3, 1) := by decide +kernel
theorem dX9_both_167 : decode cX9_both 167 = .ok (.idiv, 1) := by decide +kernel
theorem dX9_both_168 : decode cX9_both 168 = .ok (.ireturn, 1) := by decide +kernel
theorem dX9_both_169 : decode cX9_both 169 = .ok (.iload_n 3, 1) := by decide +kernel
theorem dX9_both_170 : decode cX9_both 170 = .ok (.ifCond .ne 7, 3) := by decide +kernel
theorem dX9_both_173 : decode cX9_both 173 = .ok (.iconst 0, 1) := by decide +kernel
theorem dX9_both_174 : decode cX9_both 174 = .ok (.goto 6, 3) := by decide +kernel
theorem dX9_both_177 : decode cX9_both 177 = .ok (.iload_n 2, 1) := by decide +kernel
theorem dX9_both_178 : decode cX9_both 178 = .ok (.iload_n 3, 1) := by decide +kernel
theorem dX9_both_179 : decode cX9_both 179 = .ok (.irem, 1) := by decide +kernel
theorem dX9_both_180 : decode cX9_both 180 = .ok (.ireturn, 1) := by decide +kernel
set_option maxRecDepth 20000 in
theorem ggX9_worked_X9_both : GoodIn wsX9_worked wsX9_both := goodIn_r _ [9] rfl (by decide +kernel)
set_option maxRecDepth 20000 in
theorem gX9_worked_X9_both : GoodIn wsX9_worked (wsV RX9 292 RX9 yX9_both wsX9_both) := goodIn_app (goodIn_of _ (by decide +kernel)) ggX9_worked_X9_both
theorem dX9_worked_0 : decode cX9_worked 0 = .ok (.iconst 0, 1) := by decide +kernel
theorem dX9_worked_1 : decode cX9_worked 1 = .ok (.istore_n 3, 1) := by decide +kernel
theorem dX9_worked_2 : decode cX9_worked 2 = .ok (.iload_n 1, 1) := by decide +kernel
theorem dX9_worked_3 : decode cX9_worked 3 = .ok (.istore 4, 2) := by decide +kernel
theorem dX9_worked_5 : decode cX9_worked 5 = .ok (.iload 4, 2) := by decide +kernel
theorem dX9_worked_7 : decode cX9_worked 7 = .ok (.iload_n 2, 1) := by decide +kernel
theorem dX9_worked_8 : decode cX9_worked 8 = .ok (.if_icmp .ge 160, 3) := by decide +kernel
theorem dX9_worked_11 : decode cX9_worked 11 = .ok (.aload_n 0, 1) := by decide +kernel
theorem dX9_worked_12 : decode cX9_worked 12 = .ok (.getfield 111, 3) := by decide +kernel
theorem dX9_worked_15 : decode cX9_worked 15 = .ok (.iload 4, 2) := by decide +kernel
theorem dX9_worked_17 : decode cX9_worked 17 = .ok (.iaload, 1) := by decide +kernel
theorem dX9_worked_18 : decode cX9_worked 18 = .ok (.istore 5, 2) := by decide +kernel
theorem dX9_worked_20 : decode cX9_worked 20 = .ok (.iload 5, 2) := by decide +kernel
theorem dX9_worked_22 : decode cX9_worked 22 = .ok (.ifCond .eq 9, 3) := by decide +kernel
theorem dX9_worked_25 : decode cX9_worked 25 = .ok (.iload 5, 2) := by decide +kernel
theorem dX9_worked_27 : decode cX9_worked 27 = .ok (.iconst 1, 1) := by decide +kernel
theorem dX9_worked_28 : decode cX9_worked 28 = .ok (.if_icmp .ne 42, 3) := by decide +kernel
theorem dX9_worked_31 : decode cX9_worked 31 = .ok (.aload_n 0, 1) := by decide +kernel
theorem dX9_worked_32 : decode cX9_worked 32 = .ok (.getfield 132, 3) := by decide +kernel
theorem dX9_worked_35 : decode cX9_worked 35 = .ok (.iload_n 3, 1) := by decide +kernel
theorem dX9_worked_36 : decode cX9_worked 36 = .ok (.iload 5, 2) := by decide +kernel
theorem dX9_worked_38 : decode cX9_worked 38 = .ok (.ifCond .ne 13, 3) := by decide +kernel
theorem dX9_worked_41 : decode cX9_worked 41 = .ok (.aload_n 0, 1) := by decide +kernel
theorem dX9_worked_42 : decode cX9_worked 42 = .ok (.getfield 114, 3) := by decide +kernel
theorem dX9_worked_45 : decode cX9_worked 45 = .ok (.iload 4, 2) := by decide +kernel
theorem dX9_worked_47 : decode cX9_worked 47 = .ok (.iaload, 1) := by decide +kernel
theorem dX9_worked_48 : decode cX9_worked 48 = .ok (.goto 15, 3) := by decide +kernel
theorem dX9_worked_51 : decode cX9_worked 51 = .ok (.aload_n 0, 1) := by decide +kernel
theorem dX9_worked_52 : decode cX9_worked 52 = .ok (.getfield 135, 3) := by decide +kernel
theorem dX9_worked_55 : decode cX9_worked 55 = .ok (.aload_n 0, 1) := by decide +kernel
theorem dX9_worked_56 : decode cX9_worked 56 = .ok (.getfield 114, 3) := by decide +kernel
theorem dX9_worked_59 : decode cX9_worked 59 = .ok (.iload 4, 2) := by decide +kernel
theorem dX9_worked_61 : decode cX9_worked 61 = .ok (.iaload, 1) := by decide +kernel
theorem dX9_worked_62 : decode cX9_worked 62 = .ok (.iaload, 1) := by decide +kernel
theorem dX9_worked_63 : decode cX9_worked 63 = .ok (.iastore, 1) := by decide +kernel
theorem dX9_worked_64 : decode cX9_worked 64 = .ok (.iinc 3 1, 3) := by decide +kernel
theorem dX9_worked_67 : decode cX9_worked 67 = .ok (.goto 95, 3) := by decide +kernel
theorem dX9_worked_70 : decode cX9_worked 70 = .ok (.iload 5, 2) := by decide +kernel
theorem dX9_worked_72 : decode cX9_worked 72 = .ok (.bipush 33, 2) := by decide +kernel
theorem dX9_worked_74 : decode cX9_worked 74 = .ok (.if_icmp .ne 30, 3) := by decide +kernel
theorem dX9_worked_77 : decode cX9_worked 77 = .ok (.aload_n 0, 1) := by decide +kernel
theorem dX9_worked_78 : decode cX9_worked 78 = .ok (.getfield 132, 3) := by decide +kernel
theorem dX9_worked_81 : decode cX9_worked 81 = .ok (.iload_n 3, 1) := by decide +kernel
theorem dX9_worked_82 : decode cX9_worked 82 = .ok (.iconst 1, 1) := by decide +kernel
theorem dX9_worked_83 : decode cX9_worked 83 = .ok (.isub, 1) := by decide +kernel
theorem dX9_worked_84 : decode cX9_worked 84 = .ok (.aload_n 0, 1) := by decide +kernel
theorem dX9_worked_85 : decode cX9_worked 85 = .ok (.getfield 132, 3) := by decide +kernel
theorem dX9_worked_88 : decode cX9_worked 88 = .ok (.iload_n 3, 1) := by decide +kernel
theorem dX9_worked_89 : decode cX9_worked 89 = .ok (.iconst 1, 1) := by decide +kernel
theorem dX9_worked_90 : decode cX9_worked 90 = .ok (.isub, 1) := by decide +kernel
theorem dX9_worked_91 : decode cX9_worked 91 = .ok (.iaload, 1) := by decide +kernel
theorem dX9_worked_92 : decode cX9_worked 92 = .ok (.ifCond .ne 7, 3) := by decide +kernel
theorem dX9_worked_95 : decode cX9_worked 95 = .ok (.iconst 1, 1) := by decide +kernel
theorem dX9_worked_96 : decode cX9_worked 96 = .ok (.goto 4, 3) := by decide +kernel
theorem dX9_worked_99 : decode cX9_worked 99 = .ok (.iconst 0, 1) := by decide +kernel
theorem dX9_worked_100 : decode cX9_worked 100 = .ok (.iastore, 1) := by decide +kernel
theorem dX9_worked_101 : decode cX9_worked 101 = .ok (.goto 61, 3) := by decide +kernel
theorem dX9_worked_104 : decode cX9_worked 104 = .ok (.iload 5, 2) := by decide +kernel
theorem dX9_worked_106 : decode cX9_worked 106 = .ok (.bipush 110, 2) := by decide +kernel
theorem dX9_worked_108 : decode cX9_worked 108 = .ok (.if_icmp .ne 23, 3) := by decide +kernel
theorem dX9_worked_111 : decode cX9_worked 111 = .ok (.aload_n 0, 1) := by decide +kernel
theorem dX9_worked_112 : decode cX9_worked 112 = .ok (.getfield 132, 3) := by decide +kernel
theorem dX9_worked_115 : decode cX9_worked 115 = .ok (.iload_n 3, 1) := by decide +kernel
theorem dX9_worked_116 : decode cX9_worked 116 = .ok (.iconst 1, 1) := by decide +kernel
theorem dX9_worked_117 : decode cX9_worked 117 = .ok (.isub, 1) := by decide +kernel
theorem dX9_worked_118 : decode cX9_worked 118 = .ok (.aload_n 0, 1) := by decide +kernel
theorem dX9_worked_119 : decode cX9_worked 119 = .ok (.getfield 132, 3) := by decide +kernel
theorem dX9_worked_122 : decode cX9_worked 122 = .ok (.iload_n 3, 1) := by decide +kernel
theorem dX9_worked_123 : decode cX9_worked 123 = .ok (.iconst 1, 1) := by decide +kernel
theorem dX9_worked_124 : decode cX9_worked 124 = .ok (.isub, 1) := by decide +kernel
theorem dX9_worked_125 : decode cX9_worked 125 = .ok (.iaload, 1) := by decide +kernel
theorem dX9_worked_126 : decode cX9_worked 126 = .ok (.ineg, 1) := by decide +kernel
theorem dX9_worked_127 : decode cX9_worked 127 = .ok (.iastore, 1) := by decide +kernel
theorem dX9_worked_128 : decode cX9_worked 128 = .ok (.goto 34, 3) := by decide +kernel
theorem dX9_worked_131 : decode cX9_worked 131 = .ok (.iinc 3 (-1), 3) := by decide +kernel
theorem dX9_worked_134 : decode cX9_worked 134 = .ok (.aload_n 0, 1) := by decide +kernel
theorem dX9_worked_135 : decode cX9_worked 135 = .ok (.getfield 132, 3) := by decide +kernel
theorem dX9_worked_138 : decode cX9_worked 138 = .ok (.iload_n 3, 1) := by decide +kernel
theorem dX9_worked_139 : decode cX9_worked 139 = .ok (.iconst 1, 1) := by decide +kernel
theorem dX9_worked_140 : decode cX9_worked 140 = .ok (.isub, 1) := by decide +kernel
theorem dX9_worked_141 : decode cX9_worked 141 = .ok (.aload_n 0, 1) := by decide +kernel
theorem dX9_worked_142 : decode cX9_worked 142 = .ok (.iload 5, 2) := by decide +kernel
theorem dX9_worked_144 : decode cX9_worked 144 = .ok (.aload_n 0, 1) := by decide +kernel
theorem dX9_worked_145 : decode cX9_worked 145 = .ok (.getfield 132, 3) := by decide +kernel
theorem dX9_worked_148 : decode cX9_worked 148 = .ok (.iload_n 3, 1) := by decide +kernel
theorem dX9_worked_149 : decode cX9_worked 149 = .ok (.iconst 1, 1) := by decide +kernel
theorem dX9_worked_150 : decode cX9_worked 150 = .ok (.isub, 1) := by decide +kernel
theorem dX9_worked_151 : decode cX9_worked 151 = .ok (.iaload, 1) := by decide +kernel
theorem dX9_worked_152 : decode cX9_worked 152 = .ok (.aload_n 0, 1) := by decide +kernel
theorem dX9_worked_153 : decode cX9_worked 153 = .ok (.getfield 132, 3) := by decide +kernel
theorem dX9_worked_156 : decode cX9_worked 156 = .ok (.iload_n 3, 1) := by decide +kernel
theorem dX9_worked_157 : decode cX9_worked 157 = .ok (.iaload, 1) := by decide +kernel
theorem dX9_worked_158 : decode cX9_worked 158 = .ok (.invokevirtual 292, 3) := by decide +kernel
theorem dX9_worked_161 : decode cX9_worked 161 = .ok (.iastore, 1) := by decide +kernel
theorem dX9_worked_162 : decode cX9_worked 162 = .ok (.iinc 4 1, 3) := by decide +kernel
theorem dX9_worked_165 : decode cX9_worked 165 = .ok (.goto (-160), 3) := by decide +kernel
theorem dX9_worked_168 : decode cX9_worked 168 = .ok (.aload_n 0, 1) := by decide +kernel
theorem dX9_worked_169 : decode cX9_worked 169 = .ok (.getfield 132, 3) := by decide +kernel
theorem dX9_worked_172 : decode cX9_worked 172 = .ok (.iconst 0, 1) := by decide +kernel
theorem dX9_worked_173 : decode cX9_worked 173 = .ok (.iaload, 1) := by decide +kernel
theorem dX9_worked_174 : decode cX9_worked 174 = .ok (.ireturn, 1) := by decide +kernel
